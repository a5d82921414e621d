abbrev Wd23 (cS : ClassId) (aV : Nat → Nat) (aN : Nat → Nat) (aS : Nat → Nat) (aT : Nat → Nat) (aW : Nat → Nat) (aK : Nat → Nat) (aH : Nat → Nat → Nat) (dn : Nat) (v_hasImage : Int32) (d_kind : Int32) (d_figure : Int32) (d_sort : Int32) (d_size : Int32) (d_held : Int32) : va_W := [((aV 0), .inr (11, [.ref (aN 0), .ref (aS 0), .ref (aT 0), .ref (aW 0), .ref (aV 1), .int v_hasImage])), ((aV 1), .inl (cS, 8, .inr (.inr (.inr (.inr (fun k => some (aH k 0))))))), (((aH dn) 0), .inr (9, [.ref ((aH dn) 1), .int d_kind, .int d_figure, .int d_sort, .int d_size, .int d_held, .ref (aK 8)]))]
theorem kdS_X11_isShelf : yX11_isShelf.cls ≠ "java/lang/invoke/MethodHandle" ∧ yX11_isShelf.cls ≠ "java/lang/invoke/VarHandle" ∧ (parseMethodDescriptor yX11_isShelf.desc).map (fun d => d.parameters.length) = some 1 := by decide +kernel
theorem kdV_X9_isEmpty : yX9_isEmpty.cls = RX9 ∧ yX9_isEmpty.cls ≠ "java/lang/invoke/MethodHandle" ∧ yX9_isEmpty.cls ≠ "java/lang/invoke/VarHandle" ∧ (parseMethodDescriptor yX9_isEmpty.desc).map (fun d => d.parameters.length) = some 0 := by decide +kernel
theorem kdV_X9_hasRow : yX9_hasRow.cls = RX9 ∧ yX9_hasRow.cls ≠ "java/lang/invoke/MethodHandle" ∧ yX9_hasRow.cls ≠ "java/lang/invoke/VarHandle" ∧ (parseMethodDescriptor yX9_hasRow.desc).map (fun d => d.parameters.length) = some 0 := by decide +kernel
abbrev rm_X11_refusalOfRow : Room := { frames := 2, cells := 0, slots := 0, locals := 42 }
set_option maxHeartbeats 4000000 in
set_option maxRecDepth 100000 in
theorem c_PL_refusalOfRow (l : Launch) (D : va_G) (cI cM cS cJ : ClassId) (aV : Nat → Nat) (aN : Nat → Nat) (aS : Nat → Nat) (aT : Nat → Nat) (aW : Nat → Nat) (aK : Nat → Nat) (aH : Nat → Nat → Nat) (dn : Nat) (sz : Nat) (x1 : Int32) (v_hasImage : Int32) (d_kind : Int32) (d_figure : Int32) (d_sort : Int32) (d_size : Int32) (d_held : Int32) (hdn : ¬ (x1 < 0 ∨ 8 ≤ x1.toNatClampNeg) → x1.toNatClampNeg = dn) {o : (Int32)} (hsem : S_PL_refusalOfRow x1 d_held = some o) : kMet l yX11_refusalOfRow wsX11_refusalOfRow rm_X11_refusalOfRow [.ref (aV 0), .int x1] D (kT cI cM cS cJ) (Wd23 cS aV aN aS aT aW aK aH dn v_hasImage d_kind d_figure d_sort d_size d_held) sz (some (.int o)) (Wd23 cS aV aN aS aT aW aK aH dn v_hasImage d_kind d_figure d_sort d_size d_held) := by
  refine k_metI (by decide) rfl rfl (Nat.le_of_ble_eq_true rfl) ?_
  intro p e s m below meth c ls Q A hx hb hml hts hown hK hN hA hP hD hS hl hsz hnm hret
  have hown : s.vm.findClass RX11 = some m.cls := hown
  have hf59 := hts (.fieldLink RX11 59 "PlumbLine" "shelves" "[LPlumbLine$Shelf;") (List.mem_of_getElem? (i := 1) rfl)
  have hiX11 : ∀ w ∈ u_ws RX11 TX11 6, w ∈ wsX11_refusalOfRow := fun w h => List.mem_cons_of_mem _ (List.mem_append_left _ (List.mem_append_right _ h))
  replace hl : lv_has ls 2 [(0, .ref (aV 0)), (1, .int x1)] := hl
  have h := hsem
  clear hsem
  rw [S_PL_refusalOfRow] at h
  refine lv_iload_n hx hb dX11_refusalOfRow_0 rfl (lv_at hl 1 rfl) ?_
  obtain ⟨r1, g1, h⟩ := k_bind h
  refine k_callS (As := [.int x1]) (rest := []) (st1 := [.int r1]) (ws2 := (Wd23 cS aV aN aS aT aW aK aH dn v_hasImage d_kind d_figure d_sort d_size d_held)) hx hb hml hown hts hK hN hA hP hD hS hl (c_PL_isShelf l D cI cM cS cJ s.heap.size x1 g1) gX11_refusalOfRow_X11_isShelf rfl kdS_X11_isShelf [] ⟨rfl, rfl⟩ ⟨Nat.le_of_ble_eq_true rfl, Nat.le_of_ble_eq_true rfl⟩ ⟨Nat.zero_le _, Nat.zero_le _⟩ rfl rfl (by decide +kernel) rfl rfl rfl (Nat.le_of_ble_eq_true rfl) dX11_refusalOfRow_1 rfl (fun H locs hP hD hS => ?_)
  refine lv_if_ne (tgt := 9) hx hb dX11_refusalOfRow_4 (by decide) (fun c4 => ?_) (fun c4 => ?_)
  · have h := k_neg c4 h
    refine lv_aload_n hx hb dX11_refusalOfRow_9 rfl (lv_at hl 0 rfl) ?_
    refine va_get (D := D) (ci := 11) (v := .ref (aV 1)) (C := RX11) (T := TX11) (N := 6) hx hb hts hiX11 hown hK hP 0 rfl rfl 4 (by decide) hf59 (fun _ z => z) rfl dX11_refusalOfRow_10 ?_
    refine lv_iload_n hx hb dX11_refusalOfRow_13 rfl (lv_at hl 1 rfl) ?_
    obtain ⟨g14, h⟩ := k_guard h
    refine k_aldR (f := fun k => aH k 0) hx hb hK hP 1 2 rfl rfl g14 dX11_refusalOfRow_14 ?_
    rw [show x1.toNatClampNeg = dn from hdn g14]
    refine k_callV (As := []) (rest := []) (st1 := [.int (S_Shelf_isEmpty d_held)]) (ws2 := (Wd23 cS aV aN aS aT aW aK aH dn v_hasImage d_kind d_figure d_sort d_size d_held)) hx hb hml hown hts hK hN hA hP hD hS hl (c_Shelf_isEmpty l D cI cM cS cJ (aH dn) aK H.size d_kind d_figure d_sort d_size d_held rfl) gX11_refusalOfRow_X9_isEmpty rfl kdV_X9_isEmpty 0 9 rfl rfl rfl [2] ⟨rfl, rfl⟩ ⟨Nat.le_of_ble_eq_true rfl, Nat.le_of_ble_eq_true rfl⟩ ⟨Nat.zero_le _, Nat.zero_le _⟩ rfl rfl (by decide +kernel) rfl rfl rfl (Nat.le_of_ble_eq_true rfl) dX11_refusalOfRow_15 rfl (fun H locs hP hD hS => ?_)
    refine lv_if_eq (tgt := 24) hx hb dX11_refusalOfRow_18 (by decide) (fun c18 => ?_) (fun c18 => ?_)
    · have h := k_pos c18 h
      refine lv_aload_n hx hb dX11_refusalOfRow_24 rfl (lv_at hl 0 rfl) ?_
      refine va_get (D := D) (ci := 11) (v := .ref (aV 1)) (C := RX11) (T := TX11) (N := 6) hx hb hts hiX11 hown hK hP 0 rfl rfl 4 (by decide) hf59 (fun _ z => z) rfl dX11_refusalOfRow_25 ?_
      refine lv_iload_n hx hb dX11_refusalOfRow_28 rfl (lv_at hl 1 rfl) ?_
      refine k_aldR (f := fun k => aH k 0) hx hb hK hP 1 2 rfl rfl g14 dX11_refusalOfRow_29 ?_
      rw [show x1.toNatClampNeg = dn from hdn g14]
      refine k_callV (As := []) (rest := []) (st1 := [.int (S_Shelf_hasRow d_held)]) (ws2 := (Wd23 cS aV aN aS aT aW aK aH dn v_hasImage d_kind d_figure d_sort d_size d_held)) hx hb hml hown hts hK hN hA hP hD hS hl (c_Shelf_hasRow l D cI cM cS cJ (aH dn) aK H.size d_kind d_figure d_sort d_size d_held rfl) gX11_refusalOfRow_X9_hasRow rfl kdV_X9_hasRow 0 9 rfl rfl rfl [2] ⟨rfl, rfl⟩ ⟨Nat.le_of_ble_eq_true rfl, Nat.le_of_ble_eq_true rfl⟩ ⟨Nat.zero_le _, Nat.zero_le _⟩ rfl rfl (by decide +kernel) rfl rfl rfl (Nat.le_of_ble_eq_true rfl) dX11_refusalOfRow_30 rfl (fun H locs hP hD hS => ?_)
      refine lv_if_eq (tgt := 40) hx hb dX11_refusalOfRow_33 (by decide) (fun c33 => ?_) (fun c33 => ?_)
      · have h := k_pos c33 h
        refine lv_bipush (v := (-12)) hx hb dX11_refusalOfRow_40 (by decide) ?_
        cases h
        exact hret _ _ _ _ hP hS dX11_refusalOfRow_42
      · have h := k_neg c33 h
        refine lv_iconst (v := 0) hx hb dX11_refusalOfRow_36 (by decide) ?_
        refine lv_goto (tgt := 42) hx hb dX11_refusalOfRow_37 (by decide) ?_
        cases h
        exact hret _ _ _ _ hP hS dX11_refusalOfRow_42
    · have h := k_neg c18 h
      refine lv_bipush (v := (-11)) hx hb dX11_refusalOfRow_21 (by decide) ?_
      cases h
      exact hret _ _ _ _ hP hS dX11_refusalOfRow_23
  · have h := k_pos c4 h
    refine lv_iconst (v := (-1)) hx hb dX11_refusalOfRow_7 (by decide) ?_
    cases h
    exact hret _ _ _ _ hP hS dX11_refusalOfRow_8
abbrev Wd24 (cI : ClassId) (cM : ClassId) (cS : ClassId) (aV : Nat → Nat) (aN : Nat → Nat) (aS : Nat → Nat) (aT : Nat → Nat) (aW : Nat → Nat) (aK : Nat → Nat) (aH : Nat → Nat → Nat) (dn : Nat) (v_hasImage : Int32) (n_men : Int32) (n_propped : Int32) (n_place : Int32) (n_swings : Int32) (n_crashes : Int32) (n_day : Int32) (n_crashedToday : Int32) (n_kind : Nat → Int32) (n_figure : Nat → Int32) (n_lean : Nat → Int32) (t_men : Int32) (t_propped : Int32) (t_place : Int32) (t_swings : Int32) (t_crashes : Int32) (t_day : Int32) (t_crashedToday : Int32) (t_kind : Nat → Int32) (t_figure : Nat → Int32) (t_lean : Nat → Int32) (d_kind : Int32) (d_figure : Int32) (d_sort : Int32) (d_size : Int32) (d_held : Int32) (d_el : Nat → Int32) : va_W := [((aV 0), .inr (11, [.ref (aN 0), .ref (aS 0), .ref (aT 0), .ref (aW 0), .ref (aV 1), .int v_hasImage])), ((aV 1), .inl (cS, 8, .inr (.inr (.inr (.inr (fun k => some (aH k 0))))))), ((aN 0), .inr (2, [.ref (aN 1), .ref (aN 2), .ref (aN 3), .int n_men, .int n_propped, .int n_place, .int n_swings, .int n_crashes, .int n_day, .int n_crashedToday, .ref (aK 8), .ref (aN 4)])), ((aN 1), .inl (cI, 8, .inl n_kind)), ((aN 2), .inl (cI, 8, .inl n_figure)), ((aN 3), .inl (cI, 8, .inl n_lean)), ((aT 0), .inr (2, [.ref (aT 1), .ref (aT 2), .ref (aT 3), .int t_men, .int t_propped, .int t_place, .int t_swings, .int t_crashes, .int t_day, .int t_crashedToday, .ref (aK 8), .ref (aT 4)])), ((aT 1), .inl (cI, 8, .inl t_kind)), ((aT 2), .inl (cI, 8, .inl t_figure)), ((aT 3), .inl (cI, 8, .inl t_lean)), (((aH dn) 0), .inr (9, [.ref ((aH dn) 1), .int d_kind, .int d_figure, .int d_sort, .int d_size, .int d_held, .ref (aK 8)])), (((aH dn) 1), .inl (cI, 100, .inl d_el)), ((aK 8), .inl (cM, 8, .inr (.inr (.inr (.inr (fun k => some (aK k))))))), ((aK 0), .inr (4, [])), ((aK 1), .inr (0, [])), ((aK 2), .inr (7, [])), ((aK 3), .inr (3, [])), ((aK 4), .inr (1, [])), ((aK 5), .inr (8, [])), ((aK 6), .inr (10, [])), ((aK 7), .inr (6, []))]
theorem kdV_X11_refusalOfRow : yX11_refusalOfRow.cls = RX11 ∧ yX11_refusalOfRow.cls ≠ "java/lang/invoke/MethodHandle" ∧ yX11_refusalOfRow.cls ≠ "java/lang/invoke/VarHandle" ∧ (parseMethodDescriptor yX11_refusalOfRow.desc).map (fun d => d.parameters.length) = some 1 := by decide +kernel
theorem kdV_X9_isText : yX9_isText.cls = RX9 ∧ yX9_isText.cls ≠ "java/lang/invoke/MethodHandle" ∧ yX9_isText.cls ≠ "java/lang/invoke/VarHandle" ∧ (parseMethodDescriptor yX9_isText.desc).map (fun d => d.parameters.length) = some 0 := by decide +kernel
theorem kdV_X9_faultOfForm : yX9_faultOfForm.cls = RX9 ∧ yX9_faultOfForm.cls ≠ "java/lang/invoke/MethodHandle" ∧ yX9_faultOfForm.cls ≠ "java/lang/invoke/VarHandle" ∧ (parseMethodDescriptor yX9_faultOfForm.desc).map (fun d => d.parameters.length) = some 0 := by decide +kernel
theorem kdV_X2_takesStatement : yX2_takesStatement.cls = RX2 ∧ yX2_takesStatement.cls ≠ "java/lang/invoke/MethodHandle" ∧ yX2_takesStatement.cls ≠ "java/lang/invoke/VarHandle" ∧ (parseMethodDescriptor yX2_takesStatement.desc).map (fun d => d.parameters.length) = some 2 := by decide +kernel
abbrev rm_X11_city : Room := { frames := 7, cells := 0, slots := 0, locals := 173 }
set_option maxHeartbeats 4000000 in
set_option maxRecDepth 100000 in
theorem c_PL_city (l : Launch) (D : va_G) (cI cM cS cJ : ClassId) (aV : Nat → Nat) (aN : Nat → Nat) (aS : Nat → Nat) (aT : Nat → Nat) (aW : Nat → Nat) (aK : Nat → Nat) (aH : Nat → Nat → Nat) (dn : Nat) (sz : Nat) (x1 : Int32) (v_hasImage : Int32) (nS : CS) (tS : CS) (d_kind : Int32) (d_figure : Int32) (d_sort : Int32) (d_size : Int32) (d_held : Int32) (d_el : Nat → Int32) (hdn : ¬ (x1 < 0 ∨ 8 ≤ x1.toNatClampNeg) → x1.toNatClampNeg = dn) {o : (Int32) × (CS) × (CS)} (hsem : S_PL_city x1 nS tS d_sort d_size d_held d_el = some o) : kMet l yX11_city wsX11_city rm_X11_city [.ref (aV 0), .int x1] D (kT cI cM cS cJ) (Wd24 cI cM cS aV aN aS aT aW aK aH dn v_hasImage nS.1 nS.2.1 nS.2.2.1 nS.2.2.2.1 nS.2.2.2.2.1 nS.2.2.2.2.2.1 nS.2.2.2.2.2.2.1 nS.2.2.2.2.2.2.2.1 nS.2.2.2.2.2.2.2.2.1 nS.2.2.2.2.2.2.2.2.2.1 tS.1 tS.2.1 tS.2.2.1 tS.2.2.2.1 tS.2.2.2.2.1 tS.2.2.2.2.2.1 tS.2.2.2.2.2.2.1 tS.2.2.2.2.2.2.2.1 tS.2.2.2.2.2.2.2.2.1 tS.2.2.2.2.2.2.2.2.2.1 d_kind d_figure d_sort d_size d_held d_el) sz (some (.int o.1)) (Wd24 cI cM cS aV aN aS aT aW aK aH dn v_hasImage o.2.1.1 o.2.1.2.1 o.2.1.2.2.1 o.2.1.2.2.2.1 o.2.1.2.2.2.2.1 o.2.1.2.2.2.2.2.1 o.2.1.2.2.2.2.2.2.1 o.2.1.2.2.2.2.2.2.2.1 o.2.1.2.2.2.2.2.2.2.2.1 o.2.1.2.2.2.2.2.2.2.2.2.1 o.2.2.1 o.2.2.2.1 o.2.2.2.2.1 o.2.2.2.2.2.1 o.2.2.2.2.2.2.1 o.2.2.2.2.2.2.2.1 o.2.2.2.2.2.2.2.2.1 o.2.2.2.2.2.2.2.2.2.1 o.2.2.2.2.2.2.2.2.2.2.1 o.2.2.2.2.2.2.2.2.2.2.2.1 d_kind d_figure d_sort d_size d_held d_el) := by
  refine k_metI (by decide) rfl rfl (Nat.le_of_ble_eq_true rfl) ?_
  intro p e s m below meth c ls Q A hx hb hml hts hown hK hN hA hP hD hS hl hsz hnm hret
  have hown : s.vm.findClass RX11 = some m.cls := hown
  have hf59 := hts (.fieldLink RX11 59 "PlumbLine" "shelves" "[LPlumbLine$Shelf;") (List.mem_of_getElem? (i := 1) rfl)
  have hf45 := hts (.fieldLink RX11 45 "PlumbLine" "tried" "LPlumbLine$City;") (List.mem_of_getElem? (i := 2) rfl)
  have hf36 := hts (.fieldLink RX11 36 "PlumbLine" "now" "LPlumbLine$City;") (List.mem_of_getElem? (i := 3) rfl)
  have hf80 := hts (.fieldLink RX11 80 "PlumbLine$Shelf" "size" "I") (List.mem_of_getElem? (i := 4) rfl)
  have hf88 := hts (.fieldLink RX11 88 "PlumbLine$Shelf" "elements" "[I") (List.mem_of_getElem? (i := 5) rfl)
  have hiX11 : ∀ w ∈ u_ws RX11 TX11 6, w ∈ wsX11_city := fun w h => List.mem_cons_of_mem _ (List.mem_append_left _ (List.mem_append_left _ (List.mem_append_right _ h)))
  have hiX9 : ∀ w ∈ u_ws RX9 TX9 7, w ∈ wsX11_city := fun w h => List.mem_cons_of_mem _ (List.mem_append_left _ (List.mem_append_right _ h))
  replace hl : lv_has ls 7 [(0, .ref (aV 0)), (1, .int x1)] := hl
  have h := hsem
  clear hsem
  rw [S_PL_city] at h
  refine lv_aload_n hx hb dX11_city_0 rfl (lv_at hl 0 rfl) ?_
  refine lv_iload_n hx hb dX11_city_1 rfl (lv_at hl 1 rfl) ?_
  obtain ⟨r2, g2, h⟩ := k_bind h
  refine k_callV (As := [.int x1]) (rest := []) (st1 := [.int r2]) (ws2 := (Wd24 cI cM cS aV aN aS aT aW aK aH dn v_hasImage nS.1 nS.2.1 nS.2.2.1 nS.2.2.2.1 nS.2.2.2.2.1 nS.2.2.2.2.2.1 nS.2.2.2.2.2.2.1 nS.2.2.2.2.2.2.2.1 nS.2.2.2.2.2.2.2.2.1 nS.2.2.2.2.2.2.2.2.2.1 tS.1 tS.2.1 tS.2.2.1 tS.2.2.2.1 tS.2.2.2.2.1 tS.2.2.2.2.2.1 tS.2.2.2.2.2.2.1 tS.2.2.2.2.2.2.2.1 tS.2.2.2.2.2.2.2.2.1 tS.2.2.2.2.2.2.2.2.2.1 d_kind d_figure d_sort d_size d_held d_el)) hx hb hml hown hts hK hN hA hP hD hS hl (c_PL_refusalOfRow l D cI cM cS cJ aV aN aS aT aW aK aH dn s.heap.size x1 v_hasImage d_kind d_figure d_sort d_size d_held hdn g2) gX11_city_X11_refusalOfRow rfl kdV_X11_refusalOfRow 0 11 rfl rfl rfl [0, 1, 10] ⟨rfl, rfl⟩ ⟨Nat.le_of_ble_eq_true rfl, Nat.le_of_ble_eq_true rfl⟩ ⟨Nat.zero_le _, Nat.zero_le _⟩ rfl rfl (by decide +kernel) rfl rfl rfl (Nat.le_of_ble_eq_true rfl) dX11_city_2 rfl (fun H locs hP hD hS => ?_)
  refine lv_istore_n (lv' := [(2, .int r2), (0, .ref (aV 0)), (1, .int x1)]) hx hb dX11_city_5 rfl hl (by decide) rfl (fun ls hl => ?_)
  refine lv_iload_n hx hb dX11_city_6 rfl (lv_at hl 0 rfl) ?_
  refine lv_if_eq (tgt := 12) hx hb dX11_city_7 (by decide) (fun c7 => ?_) (fun c7 => ?_)
  · have h := k_pos c7 h
    refine lv_aload_n hx hb dX11_city_12 rfl (lv_at hl 1 rfl) ?_
    refine va_get (D := D) (ci := 11) (v := .ref (aV 1)) (C := RX11) (T := TX11) (N := 6) hx hb hts hiX11 hown hK hP 0 rfl rfl 4 (by decide) hf59 (fun _ z => z) rfl dX11_city_13 ?_
    refine lv_iload_n hx hb dX11_city_16 rfl (lv_at hl 2 rfl) ?_
    obtain ⟨g17, h⟩ := k_guard h
    refine k_aldR (f := fun k => aH k 0) hx hb hK hP 1 2 rfl rfl g17 dX11_city_17 ?_
    rw [show x1.toNatClampNeg = dn from hdn g17]
    refine lv_astore_n (lv' := [(3, .ref ((aH dn) 0)), (2, .int r2), (0, .ref (aV 0)), (1, .int x1)]) hx hb dX11_city_18 rfl hl (by decide) rfl (fun ls hl => ?_)
    refine lv_aload_n hx hb dX11_city_19 rfl (lv_at hl 0 rfl) ?_
    refine k_callV (As := []) (rest := []) (st1 := [.int (S_Shelf_isText d_sort)]) (ws2 := (Wd24 cI cM cS aV aN aS aT aW aK aH dn v_hasImage nS.1 nS.2.1 nS.2.2.1 nS.2.2.2.1 nS.2.2.2.2.1 nS.2.2.2.2.2.1 nS.2.2.2.2.2.2.1 nS.2.2.2.2.2.2.2.1 nS.2.2.2.2.2.2.2.2.1 nS.2.2.2.2.2.2.2.2.2.1 tS.1 tS.2.1 tS.2.2.1 tS.2.2.2.1 tS.2.2.2.2.1 tS.2.2.2.2.2.1 tS.2.2.2.2.2.2.1 tS.2.2.2.2.2.2.2.1 tS.2.2.2.2.2.2.2.2.1 tS.2.2.2.2.2.2.2.2.2.1 d_kind d_figure d_sort d_size d_held d_el)) hx hb hml hown hts hK hN hA hP hD hS hl (c_Shelf_isText l D cI cM cS cJ (aH dn) aK H.size d_kind d_figure d_sort d_size d_held rfl) gX11_city_X9_isText rfl kdV_X9_isText 0 9 rfl rfl rfl [10] ⟨rfl, rfl⟩ ⟨Nat.le_of_ble_eq_true rfl, Nat.le_of_ble_eq_true rfl⟩ ⟨Nat.zero_le _, Nat.zero_le _⟩ rfl rfl (by decide +kernel) rfl rfl rfl (Nat.le_of_ble_eq_true rfl) dX11_city_20 rfl (fun H locs hP hD hS => ?_)
    refine lv_if_ne (tgt := 29) hx hb dX11_city_23 (by decide) (fun c23 => ?_) (fun c23 => ?_)
    · have h := k_neg c23 h
      refine lv_aload_n hx hb dX11_city_29 rfl (lv_at hl 0 rfl) ?_
      obtain ⟨r30, g30, h⟩ := k_bind h
      refine k_callV (As := []) (rest := []) (st1 := [.int r30]) (ws2 := (Wd24 cI cM cS aV aN aS aT aW aK aH dn v_hasImage nS.1 nS.2.1 nS.2.2.1 nS.2.2.2.1 nS.2.2.2.2.1 nS.2.2.2.2.2.1 nS.2.2.2.2.2.2.1 nS.2.2.2.2.2.2.2.1 nS.2.2.2.2.2.2.2.2.1 nS.2.2.2.2.2.2.2.2.2.1 tS.1 tS.2.1 tS.2.2.1 tS.2.2.2.1 tS.2.2.2.2.1 tS.2.2.2.2.2.1 tS.2.2.2.2.2.2.1 tS.2.2.2.2.2.2.2.1 tS.2.2.2.2.2.2.2.2.1 tS.2.2.2.2.2.2.2.2.2.1 d_kind d_figure d_sort d_size d_held d_el)) hx hb hml hown hts hK hN hA hP hD hS hl (c_Shelf_faultOfForm l D cI cM cS cJ (aH dn) aK H.size d_kind d_figure d_sort d_size d_held d_el g30) gX11_city_X9_faultOfForm rfl kdV_X9_faultOfForm 0 9 rfl rfl rfl [10, 11] ⟨rfl, rfl⟩ ⟨Nat.le_of_ble_eq_true rfl, Nat.le_of_ble_eq_true rfl⟩ ⟨Nat.zero_le _, Nat.zero_le _⟩ rfl rfl (by decide +kernel) rfl rfl rfl (Nat.le_of_ble_eq_true rfl) dX11_city_30 rfl (fun H locs hP hD hS => ?_)
      refine lv_istore (lv' := [(4, .int r30), (3, .ref ((aH dn) 0)), (2, .int r2), (0, .ref (aV 0)), (1, .int x1)]) hx hb dX11_city_33 hl (by decide) rfl (fun ls hl => ?_)
      refine lv_iload hx hb dX11_city_35 (lv_at hl 0 rfl) ?_
      refine lv_if_lt (tgt := 47) hx hb dX11_city_37 (by decide) (fun c37 => ?_) (fun c37 => ?_)
      · have h := k_pos c37 h
        refine lv_aload_n hx hb dX11_city_47 rfl (lv_at hl 3 rfl) ?_
        refine va_get (D := D) (ci := 11) (v := .ref (aT 0)) (C := RX11) (T := TX11) (N := 6) hx hb hts hiX11 hown hK hP 0 rfl rfl 2 (by decide) hf45 (fun _ z => z) rfl dX11_city_48 ?_
        refine lv_aload_n hx hb dX11_city_51 rfl (lv_at hl 3 rfl) ?_
        refine va_get (D := D) (ci := 11) (v := .ref (aN 0)) (C := RX11) (T := TX11) (N := 6) hx hb hts hiX11 hown hK hP 0 rfl rfl 0 (by decide) hf36 (fun _ z => z) rfl dX11_city_52 ?_
        obtain ⟨r55, g55, h⟩ := k_bind h
        refine k_callV (As := [.ref (aN 0)]) (rest := []) (st1 := []) (ws2 := (Wd24 cI cM cS aV aN aS aT aW aK aH dn v_hasImage nS.1 nS.2.1 nS.2.2.1 nS.2.2.2.1 nS.2.2.2.2.1 nS.2.2.2.2.2.1 nS.2.2.2.2.2.2.1 nS.2.2.2.2.2.2.2.1 nS.2.2.2.2.2.2.2.2.1 nS.2.2.2.2.2.2.2.2.2.1 r55.1 r55.2.1 r55.2.2.1 r55.2.2.2.1 r55.2.2.2.2.1 r55.2.2.2.2.2.1 tS.2.2.2.2.2.2.1 r55.2.2.2.2.2.2.1 r55.2.2.2.2.2.2.2.1 r55.2.2.2.2.2.2.2.2 d_kind d_figure d_sort d_size d_held d_el)) hx hb hml hown hts hK hN hA hP hD hS hl (c_City_becomes l D cI cM cS cJ aT aN aK H.size tS.1 tS.2.1 tS.2.2.1 tS.2.2.2.1 tS.2.2.2.2.1 tS.2.2.2.2.2.1 tS.2.2.2.2.2.2.1 tS.2.2.2.2.2.2.2.1 tS.2.2.2.2.2.2.2.2.1 tS.2.2.2.2.2.2.2.2.2.1 nS.1 nS.2.1 nS.2.2.1 nS.2.2.2.1 nS.2.2.2.2.1 nS.2.2.2.2.2.1 nS.2.2.2.2.2.2.1 nS.2.2.2.2.2.2.2.1 nS.2.2.2.2.2.2.2.2.1 nS.2.2.2.2.2.2.2.2.2.1 g55) gX11_city_X2_becomes rfl kdV_X2_becomes 0 2 rfl rfl rfl [6, 7, 8, 9, 2, 3, 4, 5] ⟨rfl, rfl⟩ ⟨Nat.le_of_ble_eq_true rfl, Nat.le_of_ble_eq_true rfl⟩ ⟨Nat.zero_le _, Nat.zero_le _⟩ rfl rfl (by decide +kernel) rfl rfl rfl (Nat.le_of_ble_eq_true rfl) dX11_city_55 rfl (fun H locs hP hD hS => ?_)
        refine lv_iconst (v := 0) hx hb dX11_city_58 (by decide) ?_
        refine lv_istore (lv' := [(5, .int 0), (4, .int r30), (3, .ref ((aH dn) 0)), (2, .int r2), (0, .ref (aV 0)), (1, .int x1)]) hx hb dX11_city_59 hl (by decide) rfl (fun ls hl => ?_)
        refine lv_iconst (v := 0) hx hb dX11_city_61 (by decide) ?_
        have B64 : ∀ (nS : CS) (n64 : Nat) (y5 : Int32) (y6 : Int32) (tS : CS) (H : Heap) (locs : List Loc) (ls : Array Slot), va_P D vwCl (Wd24 cI cM cS aV aN aS aT aW aK aH dn v_hasImage nS.1 nS.2.1 nS.2.2.1 nS.2.2.2.1 nS.2.2.2.2.1 nS.2.2.2.2.2.1 nS.2.2.2.2.2.2.1 nS.2.2.2.2.2.2.2.1 nS.2.2.2.2.2.2.2.2.1 nS.2.2.2.2.2.2.2.2.2.1 tS.1 tS.2.1 tS.2.2.1 tS.2.2.2.1 tS.2.2.2.2.1 tS.2.2.2.2.2.1 tS.2.2.2.2.2.2.1 tS.2.2.2.2.2.2.2.1 tS.2.2.2.2.2.2.2.2.1 tS.2.2.2.2.2.2.2.2.2.1 d_kind d_figure d_sort d_size d_held d_el) H → va_D A (Wd24 cI cM cS aV aN aS aT aW aK aH dn v_hasImage nS.1 nS.2.1 nS.2.2.1 nS.2.2.2.1 nS.2.2.2.2.1 nS.2.2.2.2.2.1 nS.2.2.2.2.2.2.1 nS.2.2.2.2.2.2.2.1 nS.2.2.2.2.2.2.2.2.1 nS.2.2.2.2.2.2.2.2.2.1 tS.1 tS.2.1 tS.2.2.1 tS.2.2.2.1 tS.2.2.2.2.1 tS.2.2.2.2.2.1 tS.2.2.2.2.2.2.1 tS.2.2.2.2.2.2.2.1 tS.2.2.2.2.2.2.2.2.1 tS.2.2.2.2.2.2.2.2.2.1 d_kind d_figure d_sort d_size d_held d_el) → va_S A s.heap H locs → lv_has ls 7 [(0, .ref (aV 0)), (3, .ref ((aH dn) 0)), (5, .int y5), (6, .int y6)] → S_PL_city_L64 d_size d_el nS n64 y5 y6 tS = some o → W p l e rm_X11_city s m ([.ref (aV 0), .int x1] : List Value).toArray below meth c H locs 0 0 Q (F0 m 64 ls []) := by
          intro nS
          intro n64
          induction n64 with
          | zero => intro y5 y6 tS H locs ls hP hD hS hl h; exact absurd h (by simp [S_PL_city_L64])
          | succ n64 ih64 =>
            intro y5 y6 tS H locs ls hP hD hS hl h
            rw [S_PL_city_L64] at h
            refine lv_iload hx hb dX11_city_64 (lv_at hl 3 rfl) ?_
            refine lv_aload_n hx hb dX11_city_66 rfl (lv_at hl 1 rfl) ?_
            refine va_get (D := D) (ci := 9) (v := .int d_size) (C := RX9) (T := TX9) (N := 7) hx hb hts hiX9 hown hK hP 10 rfl rfl 4 (by decide) hf80 (fun _ z => z) rfl dX11_city_67 ?_
            refine lv_icmp_ge (tgt := 114) hx hb dX11_city_70 (by decide) (fun c70 => ?_) (fun c70 => ?_)
            · have h := k_pos c70 h
              refine lv_aload_n hx hb dX11_city_114 rfl (lv_at hl 0 rfl) ?_
              refine va_get (D := D) (ci := 11) (v := .ref (aN 0)) (C := RX11) (T := TX11) (N := 6) hx hb hts hiX11 hown hK hP 0 rfl rfl 0 (by decide) hf36 (fun _ z => z) rfl dX11_city_115 ?_
              refine lv_aload_n hx hb dX11_city_118 rfl (lv_at hl 0 rfl) ?_
              refine va_get (D := D) (ci := 11) (v := .ref (aT 0)) (C := RX11) (T := TX11) (N := 6) hx hb hts hiX11 hown hK hP 0 rfl rfl 2 (by decide) hf45 (fun _ z => z) rfl dX11_city_119 ?_
              obtain ⟨r122, g122, h⟩ := k_bind h
              refine k_callV (As := [.ref (aT 0)]) (rest := []) (st1 := []) (ws2 := (Wd24 cI cM cS aV aN aS aT aW aK aH dn v_hasImage r122.1 r122.2.1 r122.2.2.1 r122.2.2.2.1 r122.2.2.2.2.1 r122.2.2.2.2.2.1 nS.2.2.2.2.2.2.1 r122.2.2.2.2.2.2.1 r122.2.2.2.2.2.2.2.1 r122.2.2.2.2.2.2.2.2 tS.1 tS.2.1 tS.2.2.1 tS.2.2.2.1 tS.2.2.2.2.1 tS.2.2.2.2.2.1 tS.2.2.2.2.2.2.1 tS.2.2.2.2.2.2.2.1 tS.2.2.2.2.2.2.2.2.1 tS.2.2.2.2.2.2.2.2.2.1 d_kind d_figure d_sort d_size d_held d_el)) hx hb hml hown hts hK hN hA hP hD hS hl (c_City_becomes l D cI cM cS cJ aN aT aK H.size nS.1 nS.2.1 nS.2.2.1 nS.2.2.2.1 nS.2.2.2.2.1 nS.2.2.2.2.2.1 nS.2.2.2.2.2.2.1 nS.2.2.2.2.2.2.2.1 nS.2.2.2.2.2.2.2.2.1 nS.2.2.2.2.2.2.2.2.2.1 tS.1 tS.2.1 tS.2.2.1 tS.2.2.2.1 tS.2.2.2.2.1 tS.2.2.2.2.2.1 tS.2.2.2.2.2.2.1 tS.2.2.2.2.2.2.2.1 tS.2.2.2.2.2.2.2.2.1 tS.2.2.2.2.2.2.2.2.2.1 g122) gX11_city_X2_becomes rfl kdV_X2_becomes 0 2 rfl rfl rfl [2, 3, 4, 5, 6, 7, 8, 9] ⟨rfl, rfl⟩ ⟨Nat.le_of_ble_eq_true rfl, Nat.le_of_ble_eq_true rfl⟩ ⟨Nat.zero_le _, Nat.zero_le _⟩ rfl rfl (by decide +kernel) rfl rfl rfl (Nat.le_of_ble_eq_true rfl) dX11_city_122 rfl (fun H locs hP hD hS => ?_)
              refine lv_iload hx hb dX11_city_125 (lv_at hl 2 rfl) ?_
              cases h
              exact hret _ _ _ _ hP hS dX11_city_127
            · have h := k_neg c70 h
              refine lv_aload_n hx hb dX11_city_73 rfl (lv_at hl 0 rfl) ?_
              refine va_get (D := D) (ci := 11) (v := .ref (aT 0)) (C := RX11) (T := TX11) (N := 6) hx hb hts hiX11 hown hK hP 0 rfl rfl 2 (by decide) hf45 (fun _ z => z) rfl dX11_city_74 ?_
              refine lv_aload_n hx hb dX11_city_77 rfl (lv_at hl 1 rfl) ?_
              refine lv_iload hx hb dX11_city_78 (lv_at hl 3 rfl) ?_
              obtain ⟨r80, g80, h⟩ := k_bind h
              refine k_callV (As := [.ref ((aH dn) 0), .int y6]) (rest := []) (st1 := [.int r80.1]) (ws2 := (Wd24 cI cM cS aV aN aS aT aW aK aH dn v_hasImage nS.1 nS.2.1 nS.2.2.1 nS.2.2.2.1 nS.2.2.2.2.1 nS.2.2.2.2.2.1 nS.2.2.2.2.2.2.1 nS.2.2.2.2.2.2.2.1 nS.2.2.2.2.2.2.2.2.1 nS.2.2.2.2.2.2.2.2.2.1 r80.2.1 r80.2.2.1 r80.2.2.2.1 r80.2.2.2.2.1 r80.2.2.2.2.2.1 r80.2.2.2.2.2.2.1 r80.2.2.2.2.2.2.2.1 r80.2.2.2.2.2.2.2.2.1 r80.2.2.2.2.2.2.2.2.2.1 r80.2.2.2.2.2.2.2.2.2.2 d_kind d_figure d_sort d_size d_held d_el)) hx hb hml hown hts hK hN hA hP hD hS hl (c_City_takesStatement l D cI cM cS cJ aT (aH dn) aK H.size y6 tS.1 tS.2.1 tS.2.2.1 tS.2.2.2.1 tS.2.2.2.2.1 tS.2.2.2.2.2.1 tS.2.2.2.2.2.2.1 tS.2.2.2.2.2.2.2.1 tS.2.2.2.2.2.2.2.2.1 tS.2.2.2.2.2.2.2.2.2.1 d_kind d_figure d_sort d_size d_held d_el g80) gX11_city_X2_takesStatement rfl kdV_X2_takesStatement 0 2 rfl rfl rfl [6, 7, 8, 9, 10, 11, 12, 13, 14, 15, 16, 17, 18, 19, 20] ⟨rfl, rfl⟩ ⟨Nat.le_of_ble_eq_true rfl, Nat.le_of_ble_eq_true rfl⟩ ⟨Nat.zero_le _, Nat.zero_le _⟩ rfl rfl (by decide +kernel) rfl rfl rfl (Nat.le_of_ble_eq_true rfl) dX11_city_80 rfl (fun H locs hP hD hS => ?_)
              refine lv_if_ne (tgt := 93) hx hb dX11_city_83 (by decide) (fun c83 => ?_) (fun c83 => ?_)
              · have h := k_neg c83 h
                refine lv_iinc (v := (y5 + 1)) (lv' := [(5, .int (y5 + 1)), (0, .ref (aV 0)), (3, .ref ((aH dn) 0)), (6, .int y6)]) hx hb dX11_city_93 hl (k := 2) rfl (by first | rfl | decide) (by decide) rfl (fun ls hl => ?_)
                refine lv_iload hx hb dX11_city_96 (lv_at hl 3 rfl) ?_
                refine lv_aload_n hx hb dX11_city_98 rfl (lv_at hl 2 rfl) ?_
                refine va_get (D := D) (ci := 9) (v := .ref ((aH dn) 1)) (C := RX9) (T := TX9) (N := 7) hx hb hts hiX9 hown hK hP 10 rfl rfl 0 (by decide) hf88 (fun _ z => z) rfl dX11_city_99 ?_
                refine lv_iload hx hb dX11_city_102 (lv_at hl 3 rfl) ?_
                obtain ⟨g104, h⟩ := k_guard h
                refine va_iald hx hb hK hP 11 0 rfl rfl g104 dX11_city_104 ?_
                refine k_callS (As := [.int (d_el y6.toNatClampNeg)]) (rest := [.int y6]) (st1 := [.int (S_Shelf_lengthBy (d_el y6.toNatClampNeg)), .int y6]) (ws2 := (Wd24 cI cM cS aV aN aS aT aW aK aH dn v_hasImage nS.1 nS.2.1 nS.2.2.1 nS.2.2.2.1 nS.2.2.2.2.1 nS.2.2.2.2.2.1 nS.2.2.2.2.2.2.1 nS.2.2.2.2.2.2.2.1 nS.2.2.2.2.2.2.2.2.1 nS.2.2.2.2.2.2.2.2.2.1 r80.2.1 r80.2.2.1 r80.2.2.2.1 r80.2.2.2.2.1 r80.2.2.2.2.2.1 r80.2.2.2.2.2.2.1 r80.2.2.2.2.2.2.2.1 r80.2.2.2.2.2.2.2.2.1 r80.2.2.2.2.2.2.2.2.2.1 r80.2.2.2.2.2.2.2.2.2.2 d_kind d_figure d_sort d_size d_held d_el)) hx hb hml hown hts hK hN hA hP hD hS hl (c_Shelf_lengthBy l D cI cM cS cJ H.size (d_el y6.toNatClampNeg) rfl) gX11_city_X9_lengthBy rfl kdS_X9_lengthBy [] ⟨rfl, rfl⟩ ⟨Nat.le_of_ble_eq_true rfl, Nat.le_of_ble_eq_true rfl⟩ ⟨Nat.zero_le _, Nat.zero_le _⟩ rfl rfl (by decide +kernel) rfl rfl rfl (Nat.le_of_ble_eq_true rfl) dX11_city_105 rfl (fun H locs hP hD hS => ?_)
                refine lv_iadd hx hb dX11_city_108 ?_
                refine lv_istore (lv' := [(6, .int (y6 + (S_Shelf_lengthBy (d_el y6.toNatClampNeg)))), (5, .int (y5 + 1)), (0, .ref (aV 0)), (3, .ref ((aH dn) 0))]) hx hb dX11_city_109 hl (by decide) rfl (fun ls hl => ?_)
                refine lv_goto (tgt := 64) hx hb dX11_city_111 (by decide) ?_
                exact ih64 (y5 + 1) (y6 + (S_Shelf_lengthBy (d_el y6.toNatClampNeg))) (r80.2.1, r80.2.2.1, r80.2.2.2.1, r80.2.2.2.2.1, r80.2.2.2.2.2.1, r80.2.2.2.2.2.2.1, r80.2.2.2.2.2.2.2.1, r80.2.2.2.2.2.2.2.2.1, r80.2.2.2.2.2.2.2.2.2.1, r80.2.2.2.2.2.2.2.2.2.2, tS.2.2.2.2.2.2.2.2.2.2) H locs ls hP hD hS (lv_sub hl [2, 3, 1, 0] rfl) h
              · have h := k_pos c83 h
                refine lv_sipush (v := (-2000)) hx hb dX11_city_86 (by decide) ?_
                refine lv_iload hx hb dX11_city_89 (lv_at hl 3 rfl) ?_
                refine lv_isub hx hb dX11_city_91 ?_
                cases h
                exact hret _ _ _ _ hP hS dX11_city_92
        refine lv_istore (lv' := [(6, .int 0), (5, .int 0), (4, .int r30), (3, .ref ((aH dn) 0)), (2, .int r2), (0, .ref (aV 0)), (1, .int x1)]) hx hb dX11_city_62 hl (by decide) rfl (fun ls hl => ?_)
        exact B64 nS lfu 0 0 (r55.1, r55.2.1, r55.2.2.1, r55.2.2.2.1, r55.2.2.2.2.1, r55.2.2.2.2.2.1, tS.2.2.2.2.2.2.1, r55.2.2.2.2.2.2.1, r55.2.2.2.2.2.2.2.1, r55.2.2.2.2.2.2.2.2, tS.2.2.2.2.2.2.2.2.2.2) H locs ls hP hD hS (lv_sub hl [5, 3, 1, 0] rfl) h
      · have h := k_neg c37 h
        refine lv_sipush (v := (-1000)) hx hb dX11_city_40 (by decide) ?_
        refine lv_iload hx hb dX11_city_43 (lv_at hl 0 rfl) ?_
        refine lv_isub hx hb dX11_city_45 ?_
        cases h
        exact hret _ _ _ _ hP hS dX11_city_46
    · have h := k_pos c23 h
      refine lv_bipush (v := (-12)) hx hb dX11_city_26 (by decide) ?_
      cases h
      exact hret _ _ _ _ hP hS dX11_city_28
  · have h := k_neg c7 h
    refine lv_iload_n hx hb dX11_city_10 rfl (lv_at hl 0 rfl) ?_
    cases h
    exact hret _ _ _ _ hP hS dX11_city_11
abbrev Wd25 (cI : ClassId) (aV : Nat → Nat) (aN : Nat → Nat) (aS : Nat → Nat) (aT : Nat → Nat) (aW : Nat → Nat) (aK : Nat → Nat) (v_hasImage : Int32) (n_men : Int32) (n_propped : Int32) (n_place : Int32) (n_swings : Int32) (n_crashes : Int32) (n_day : Int32) (n_crashedToday : Int32) (n_lean : Nat → Int32) : va_W := [((aV 0), .inr (11, [.ref (aN 0), .ref (aS 0), .ref (aT 0), .ref (aW 0), .ref (aV 1), .int v_hasImage])), ((aN 0), .inr (2, [.ref (aN 1), .ref (aN 2), .ref (aN 3), .int n_men, .int n_propped, .int n_place, .int n_swings, .int n_crashes, .int n_day, .int n_crashedToday, .ref (aK 8), .ref (aN 4)])), ((aN 3), .inl (cI, 8, .inl n_lean))]
abbrev rm_X11_lean : Room := { frames := 1, cells := 0, slots := 0, locals := 21 }
set_option maxHeartbeats 4000000 in
set_option maxRecDepth 100000 in
theorem c_PL_lean (l : Launch) (D : va_G) (cI cM cS cJ : ClassId) (aV : Nat → Nat) (aN : Nat → Nat) (aS : Nat → Nat) (aT : Nat → Nat) (aW : Nat → Nat) (aK : Nat → Nat) (sz : Nat) (x1 : Int32) (v_hasImage : Int32) (nS : CS) {o : (Int32)} (hsem : S_PL_lean x1 nS = some o) : kMet l yX11_lean wsX11_lean rm_X11_lean [.ref (aV 0), .int x1] D (kT cI cM cS cJ) (Wd25 cI aV aN aS aT aW aK v_hasImage nS.1 nS.2.1 nS.2.2.1 nS.2.2.2.1 nS.2.2.2.2.1 nS.2.2.2.2.2.1 nS.2.2.2.2.2.2.1 nS.2.2.2.2.2.2.2.2.2.1) sz (some (.int o)) (Wd25 cI aV aN aS aT aW aK v_hasImage nS.1 nS.2.1 nS.2.2.1 nS.2.2.2.1 nS.2.2.2.2.1 nS.2.2.2.2.2.1 nS.2.2.2.2.2.2.1 nS.2.2.2.2.2.2.2.2.2.1) := by
  refine k_metI (by decide) rfl rfl (Nat.le_of_ble_eq_true rfl) ?_
  intro p e s m below meth c ls Q A hx hb hml hts hown hK hN hA hP hD hS hl hsz hnm hret
  have hown : s.vm.findClass RX11 = some m.cls := hown
  have hf36 := hts (.fieldLink RX11 36 "PlumbLine" "now" "LPlumbLine$City;") (List.mem_of_getElem? (i := 1) rfl)
  have hf99 := hts (.fieldLink RX11 99 "PlumbLine$City" "lean" "[I") (List.mem_of_getElem? (i := 2) rfl)
  have hiX11 : ∀ w ∈ u_ws RX11 TX11 6, w ∈ wsX11_lean := fun w h => List.mem_cons_of_mem _ (List.mem_append_left _ (List.mem_append_right _ h))
  have hiX2 : ∀ w ∈ u_ws RX2 TX2 12, w ∈ wsX11_lean := fun w h => List.mem_cons_of_mem _ (List.mem_append_right _ h)
  replace hl : lv_has ls 2 [(0, .ref (aV 0)), (1, .int x1)] := hl
  have h := hsem
  clear hsem
  rw [S_PL_lean] at h
  refine lv_aload_n hx hb dX11_lean_0 rfl (lv_at hl 0 rfl) ?_
  refine va_get (D := D) (ci := 11) (v := .ref (aN 0)) (C := RX11) (T := TX11) (N := 6) hx hb hts hiX11 hown hK hP 0 rfl rfl 0 (by decide) hf36 (fun _ z => z) rfl dX11_lean_1 ?_
  refine lv_iload_n hx hb dX11_lean_4 rfl (lv_at hl 1 rfl) ?_
  refine k_callV (As := [.int x1]) (rest := []) (st1 := [.int (S_City_has x1 nS.1)]) (ws2 := (Wd25 cI aV aN aS aT aW aK v_hasImage nS.1 nS.2.1 nS.2.2.1 nS.2.2.2.1 nS.2.2.2.2.1 nS.2.2.2.2.2.1 nS.2.2.2.2.2.2.1 nS.2.2.2.2.2.2.2.2.2.1)) hx hb hml hown hts hK hN hA hP hD hS hl (c_City_has l D cI cM cS cJ aN aK s.heap.size x1 nS.1 nS.2.1 nS.2.2.1 nS.2.2.2.1 nS.2.2.2.2.1 nS.2.2.2.2.2.1 nS.2.2.2.2.2.2.1 rfl) gX11_lean_X2_has rfl kdV_X2_has 0 2 rfl rfl rfl [1] ⟨rfl, rfl⟩ ⟨Nat.le_of_ble_eq_true rfl, Nat.le_of_ble_eq_true rfl⟩ ⟨Nat.zero_le _, Nat.zero_le _⟩ rfl rfl (by decide +kernel) rfl rfl rfl (Nat.le_of_ble_eq_true rfl) dX11_lean_5 rfl (fun H locs hP hD hS => ?_)
  refine lv_if_eq (tgt := 23) hx hb dX11_lean_8 (by decide) (fun c8 => ?_) (fun c8 => ?_)
  · have h := k_pos c8 h
    refine lv_ldc (v := 1000000001) hx hb hown (hts (.constant RX11 102 1000000001) (List.mem_of_getElem? (i := 3) rfl)) dX11_lean_23 ?_
    cases h
    exact hret _ _ _ _ hP hS dX11_lean_25
  · have h := k_neg c8 h
    refine lv_aload_n hx hb dX11_lean_11 rfl (lv_at hl 0 rfl) ?_
    refine va_get (D := D) (ci := 11) (v := .ref (aN 0)) (C := RX11) (T := TX11) (N := 6) hx hb hts hiX11 hown hK hP 0 rfl rfl 0 (by decide) hf36 (fun _ z => z) rfl dX11_lean_12 ?_
    refine va_get (D := D) (ci := 2) (v := .ref (aN 3)) (C := RX2) (T := TX2) (N := 12) hx hb hts hiX2 hown hK hP 1 rfl rfl 2 (by decide) hf99 (fun _ z => z) rfl dX11_lean_15 ?_
    refine lv_iload_n hx hb dX11_lean_18 rfl (lv_at hl 1 rfl) ?_
    obtain ⟨g19, h⟩ := k_guard h
    refine va_iald hx hb hK hP 2 0 rfl rfl g19 dX11_lean_19 ?_
    refine lv_goto (tgt := 25) hx hb dX11_lean_20 (by decide) ?_
    cases h
    exact hret _ _ _ _ hP hS dX11_lean_25
abbrev Wd26 (cI : ClassId) (cM : ClassId) (aV : Nat → Nat) (aN : Nat → Nat) (aS : Nat → Nat) (aT : Nat → Nat) (aW : Nat → Nat) (aK : Nat → Nat) (v_hasImage : Int32) (n_men : Int32) (n_propped : Int32) (n_place : Int32) (n_swings : Int32) (n_crashes : Int32) (n_day : Int32) (n_crashedToday : Int32) (n_kind : Nat → Int32) (n_figure : Nat → Int32) (n_lean : Nat → Int32) : va_W := [((aV 0), .inr (11, [.ref (aN 0), .ref (aS 0), .ref (aT 0), .ref (aW 0), .ref (aV 1), .int v_hasImage])), ((aN 0), .inr (2, [.ref (aN 1), .ref (aN 2), .ref (aN 3), .int n_men, .int n_propped, .int n_place, .int n_swings, .int n_crashes, .int n_day, .int n_crashedToday, .ref (aK 8), .ref (aN 4)])), ((aN 1), .inl (cI, 8, .inl n_kind)), ((aN 2), .inl (cI, 8, .inl n_figure)), ((aN 3), .inl (cI, 8, .inl n_lean)), ((aK 8), .inl (cM, 8, .inr (.inr (.inr (.inr (fun k => some (aK k))))))), ((aK 0), .inr (4, [])), ((aK 1), .inr (0, [])), ((aK 2), .inr (7, [])), ((aK 3), .inr (3, [])), ((aK 4), .inr (1, [])), ((aK 5), .inr (8, [])), ((aK 6), .inr (10, [])), ((aK 7), .inr (6, []))]
abbrev rm_X11_man : Room := { frames := 4, cells := 0, slots := 0, locals := 106 }
set_option maxHeartbeats 4000000 in
set_option maxRecDepth 100000 in
theorem c_PL_man (l : Launch) (D : va_G) (cI cM cS cJ : ClassId) (aV : Nat → Nat) (aN : Nat → Nat) (aS : Nat → Nat) (aT : Nat → Nat) (aW : Nat → Nat) (aK : Nat → Nat) (sz : Nat) (x1 : Int32) (x2 : Int32) (v_hasImage : Int32) (nS : CS) {o : (Int32)} (hsem : S_PL_man x1 x2 nS = some o) : kMet l yX11_man wsX11_man rm_X11_man [.ref (aV 0), .int x1, .int x2] D (kT cI cM cS cJ) (Wd26 cI cM aV aN aS aT aW aK v_hasImage nS.1 nS.2.1 nS.2.2.1 nS.2.2.2.1 nS.2.2.2.2.1 nS.2.2.2.2.2.1 nS.2.2.2.2.2.2.1 nS.2.2.2.2.2.2.2.1 nS.2.2.2.2.2.2.2.2.1 nS.2.2.2.2.2.2.2.2.2.1) sz (some (.int o)) (Wd26 cI cM aV aN aS aT aW aK v_hasImage nS.1 nS.2.1 nS.2.2.1 nS.2.2.2.1 nS.2.2.2.2.1 nS.2.2.2.2.2.1 nS.2.2.2.2.2.2.1 nS.2.2.2.2.2.2.2.1 nS.2.2.2.2.2.2.2.2.1 nS.2.2.2.2.2.2.2.2.2.1) := by
  refine k_metI (by decide) rfl rfl (Nat.le_of_ble_eq_true rfl) ?_
  intro p e s m below meth c ls Q A hx hb hml hts hown hK hN hA hP hD hS hl hsz hnm hret
  have hown : s.vm.findClass RX11 = some m.cls := hown
  have hf36 := hts (.fieldLink RX11 36 "PlumbLine" "now" "LPlumbLine$City;") (List.mem_of_getElem? (i := 1) rfl)
  have hf103 := hts (.fieldLink RX11 103 "PlumbLine$City" "kind" "[I") (List.mem_of_getElem? (i := 2) rfl)
  have hf106 := hts (.fieldLink RX11 106 "PlumbLine$City" "figure" "[I") (List.mem_of_getElem? (i := 3) rfl)
  have hiX11 : ∀ w ∈ u_ws RX11 TX11 6, w ∈ wsX11_man := fun w h => List.mem_cons_of_mem _ (List.mem_append_left _ (List.mem_append_right _ h))
  have hiX2 : ∀ w ∈ u_ws RX2 TX2 12, w ∈ wsX11_man := fun w h => List.mem_cons_of_mem _ (List.mem_append_right _ h)
  replace hl : lv_has ls 3 [(0, .ref (aV 0)), (1, .int x1), (2, .int x2)] := hl
  have h := hsem
  clear hsem
  rw [S_PL_man] at h
  refine lv_aload_n hx hb dX11_man_0 rfl (lv_at hl 0 rfl) ?_
  refine va_get (D := D) (ci := 11) (v := .ref (aN 0)) (C := RX11) (T := TX11) (N := 6) hx hb hts hiX11 hown hK hP 0 rfl rfl 0 (by decide) hf36 (fun _ z => z) rfl dX11_man_1 ?_
  refine lv_iload_n hx hb dX11_man_4 rfl (lv_at hl 1 rfl) ?_
  refine k_callV (As := [.int x1]) (rest := []) (st1 := [.int (S_City_has x1 nS.1)]) (ws2 := (Wd26 cI cM aV aN aS aT aW aK v_hasImage nS.1 nS.2.1 nS.2.2.1 nS.2.2.2.1 nS.2.2.2.2.1 nS.2.2.2.2.2.1 nS.2.2.2.2.2.2.1 nS.2.2.2.2.2.2.2.1 nS.2.2.2.2.2.2.2.2.1 nS.2.2.2.2.2.2.2.2.2.1)) hx hb hml hown hts hK hN hA hP hD hS hl (c_City_has l D cI cM cS cJ aN aK s.heap.size x1 nS.1 nS.2.1 nS.2.2.1 nS.2.2.2.1 nS.2.2.2.2.1 nS.2.2.2.2.2.1 nS.2.2.2.2.2.2.1 rfl) gX11_man_X2_has rfl kdV_X2_has 0 2 rfl rfl rfl [1] ⟨rfl, rfl⟩ ⟨Nat.le_of_ble_eq_true rfl, Nat.le_of_ble_eq_true rfl⟩ ⟨Nat.zero_le _, Nat.zero_le _⟩ rfl rfl (by decide +kernel) rfl rfl rfl (Nat.le_of_ble_eq_true rfl) dX11_man_5 rfl (fun H locs hP hD hS => ?_)
  refine lv_if_ne (tgt := 13) hx hb dX11_man_8 (by decide) (fun c8 => ?_) (fun c8 => ?_)
  · have h := k_neg c8 h
    refine lv_iload_n hx hb dX11_man_13 rfl (lv_at hl 2 rfl) ?_
    by_cases s14_0 : x2 = 0
    · refine k_tblI (tgt := 52) (v := 0) hx hb dX11_man_14 s14_0 (by decide) (by decide) rfl (by decide) ?_
      have h := k_pos s14_0 h
      refine lv_aload_n hx hb dX11_man_52 rfl (lv_at hl 0 rfl) ?_
      refine va_get (D := D) (ci := 11) (v := .ref (aN 0)) (C := RX11) (T := TX11) (N := 6) hx hb hts hiX11 hown hK hP 0 rfl rfl 0 (by decide) hf36 (fun _ z => z) rfl dX11_man_53 ?_
      refine va_get (D := D) (ci := 2) (v := .ref (aN 1)) (C := RX2) (T := TX2) (N := 12) hx hb hts hiX2 hown hK hP 1 rfl rfl 0 (by decide) hf103 (fun _ z => z) rfl dX11_man_56 ?_
      refine lv_iload_n hx hb dX11_man_59 rfl (lv_at hl 1 rfl) ?_
      obtain ⟨g60, h⟩ := k_guard h
      refine va_iald hx hb hK hP 2 0 rfl rfl g60 dX11_man_60 ?_
      cases h
      exact hret _ _ _ _ hP hS dX11_man_61
    · have h := k_neg s14_0 h
      by_cases s14_1 : x2 = 1
      · refine k_tblI (tgt := 62) (v := 1) hx hb dX11_man_14 s14_1 (by decide) (by decide) rfl (by decide) ?_
        have h := k_pos s14_1 h
        refine lv_aload_n hx hb dX11_man_62 rfl (lv_at hl 0 rfl) ?_
        refine va_get (D := D) (ci := 11) (v := .ref (aN 0)) (C := RX11) (T := TX11) (N := 6) hx hb hts hiX11 hown hK hP 0 rfl rfl 0 (by decide) hf36 (fun _ z => z) rfl dX11_man_63 ?_
        refine va_get (D := D) (ci := 2) (v := .ref (aN 2)) (C := RX2) (T := TX2) (N := 12) hx hb hts hiX2 hown hK hP 1 rfl rfl 1 (by decide) hf106 (fun _ z => z) rfl dX11_man_66 ?_
        refine lv_iload_n hx hb dX11_man_69 rfl (lv_at hl 1 rfl) ?_
        obtain ⟨g70, h⟩ := k_guard h
        refine va_iald hx hb hK hP 3 0 rfl rfl g70 dX11_man_70 ?_
        cases h
        exact hret _ _ _ _ hP hS dX11_man_71
      · have h := k_neg s14_1 h
        by_cases s14_2 : x2 = 2
        · refine k_tblI (tgt := 72) (v := 2) hx hb dX11_man_14 s14_2 (by decide) (by decide) rfl (by decide) ?_
          have h := k_pos s14_2 h
          refine lv_aload_n hx hb dX11_man_72 rfl (lv_at hl 0 rfl) ?_
          refine va_get (D := D) (ci := 11) (v := .ref (aN 0)) (C := RX11) (T := TX11) (N := 6) hx hb hts hiX11 hown hK hP 0 rfl rfl 0 (by decide) hf36 (fun _ z => z) rfl dX11_man_73 ?_
          refine lv_iload_n hx hb dX11_man_76 rfl (lv_at hl 1 rfl) ?_
          refine k_callV (As := [.int x1]) (rest := []) (st1 := [.int (S_City_isPropped x1 nS.2.1)]) (ws2 := (Wd26 cI cM aV aN aS aT aW aK v_hasImage nS.1 nS.2.1 nS.2.2.1 nS.2.2.2.1 nS.2.2.2.2.1 nS.2.2.2.2.2.1 nS.2.2.2.2.2.2.1 nS.2.2.2.2.2.2.2.1 nS.2.2.2.2.2.2.2.2.1 nS.2.2.2.2.2.2.2.2.2.1)) hx hb hml hown hts hK hN hA hP hD hS hl (c_City_isPropped l D cI cM cS cJ aN aK H.size x1 nS.1 nS.2.1 nS.2.2.1 nS.2.2.2.1 nS.2.2.2.2.1 nS.2.2.2.2.2.1 nS.2.2.2.2.2.2.1 rfl) gX11_man_X2_isPropped rfl kdV_X2_isPropped 0 2 rfl rfl rfl [1] ⟨rfl, rfl⟩ ⟨Nat.le_of_ble_eq_true rfl, Nat.le_of_ble_eq_true rfl⟩ ⟨Nat.zero_le _, Nat.zero_le _⟩ rfl rfl (by decide +kernel) rfl rfl rfl (Nat.le_of_ble_eq_true rfl) dX11_man_77 rfl (fun H locs hP hD hS => ?_)
          refine lv_if_eq (tgt := 87) hx hb dX11_man_80 (by decide) (fun c80 => ?_) (fun c80 => ?_)
          · have h := k_pos c80 h
            refine lv_iconst (v := 0) hx hb dX11_man_87 (by decide) ?_
            cases h
            exact hret _ _ _ _ hP hS dX11_man_88
          · have h := k_neg c80 h
            refine lv_iconst (v := 1) hx hb dX11_man_83 (by decide) ?_
            refine lv_goto (tgt := 88) hx hb dX11_man_84 (by decide) ?_
            cases h
            exact hret _ _ _ _ hP hS dX11_man_88
        · have h := k_neg s14_2 h
          by_cases s14_3 : x2 = 3
          · refine k_tblI (tgt := 89) (v := 3) hx hb dX11_man_14 s14_3 (by decide) (by decide) rfl (by decide) ?_
            have h := k_pos s14_3 h
            refine lv_aload_n hx hb dX11_man_89 rfl (lv_at hl 0 rfl) ?_
            refine va_get (D := D) (ci := 11) (v := .ref (aN 0)) (C := RX11) (T := TX11) (N := 6) hx hb hts hiX11 hown hK hP 0 rfl rfl 0 (by decide) hf36 (fun _ z => z) rfl dX11_man_90 ?_
            refine lv_iload_n hx hb dX11_man_93 rfl (lv_at hl 1 rfl) ?_
            obtain ⟨r94, g94, h⟩ := k_bind h
            refine k_callV (As := [.int x1]) (rest := []) (st1 := [.int r94]) (ws2 := (Wd26 cI cM aV aN aS aT aW aK v_hasImage nS.1 nS.2.1 nS.2.2.1 nS.2.2.2.1 nS.2.2.2.2.1 nS.2.2.2.2.2.1 nS.2.2.2.2.2.2.1 nS.2.2.2.2.2.2.2.1 nS.2.2.2.2.2.2.2.2.1 nS.2.2.2.2.2.2.2.2.2.1)) hx hb hml hown hts hK hN hA hP hD hS hl (c_City_isUpright l D cI cM cS cJ aN aK H.size x1 nS.1 nS.2.1 nS.2.2.1 nS.2.2.2.1 nS.2.2.2.2.1 nS.2.2.2.2.2.1 nS.2.2.2.2.2.2.1 nS.2.2.2.2.2.2.2.1 nS.2.2.2.2.2.2.2.2.1 nS.2.2.2.2.2.2.2.2.2.1 g94) gX11_man_X2_isUpright rfl kdV_X2_isUpright 0 2 rfl rfl rfl [1, 2, 3, 4, 5, 6, 7, 8, 9, 10, 11, 12, 13] ⟨rfl, rfl⟩ ⟨Nat.le_of_ble_eq_true rfl, Nat.le_of_ble_eq_true rfl⟩ ⟨Nat.zero_le _, Nat.zero_le _⟩ rfl rfl (by decide +kernel) rfl rfl rfl (Nat.le_of_ble_eq_true rfl) dX11_man_94 rfl (fun H locs hP hD hS => ?_)
            refine lv_if_eq (tgt := 104) hx hb dX11_man_97 (by decide) (fun c97 => ?_) (fun c97 => ?_)
            · have h := k_pos c97 h
              refine lv_iconst (v := 0) hx hb dX11_man_104 (by decide) ?_
              cases h
              exact hret _ _ _ _ hP hS dX11_man_105
            · have h := k_neg c97 h
              refine lv_iconst (v := 1) hx hb dX11_man_100 (by decide) ?_
              refine lv_goto (tgt := 105) hx hb dX11_man_101 (by decide) ?_
              cases h
              exact hret _ _ _ _ hP hS dX11_man_105
          · have h := k_neg s14_3 h
            by_cases s14_4 : x2 = 4
            · refine k_tblI (tgt := 106) (v := 4) hx hb dX11_man_14 s14_4 (by decide) (by decide) rfl (by decide) ?_
              have h := k_pos s14_4 h
              refine lv_aload_n hx hb dX11_man_106 rfl (lv_at hl 0 rfl) ?_
              refine va_get (D := D) (ci := 11) (v := .ref (aN 0)) (C := RX11) (T := TX11) (N := 6) hx hb hts hiX11 hown hK hP 0 rfl rfl 0 (by decide) hf36 (fun _ z => z) rfl dX11_man_107 ?_
              refine lv_iload_n hx hb dX11_man_110 rfl (lv_at hl 1 rfl) ?_
              obtain ⟨r111, g111, h⟩ := k_bind h
              refine k_callV (As := [.int x1]) (rest := []) (st1 := [.int r111]) (ws2 := (Wd26 cI cM aV aN aS aT aW aK v_hasImage nS.1 nS.2.1 nS.2.2.1 nS.2.2.2.1 nS.2.2.2.2.1 nS.2.2.2.2.2.1 nS.2.2.2.2.2.2.1 nS.2.2.2.2.2.2.2.1 nS.2.2.2.2.2.2.2.2.1 nS.2.2.2.2.2.2.2.2.2.1)) hx hb hml hown hts hK hN hA hP hD hS hl (c_City_discountOf l D cI cM cS cJ aN aK H.size x1 nS.1 nS.2.1 nS.2.2.1 nS.2.2.2.1 nS.2.2.2.2.1 nS.2.2.2.2.2.1 nS.2.2.2.2.2.2.1 nS.2.2.2.2.2.2.2.1 nS.2.2.2.2.2.2.2.2.1 nS.2.2.2.2.2.2.2.2.2.1 g111) gX11_man_X2_discountOf rfl kdV_X2_discountOf 0 2 rfl rfl rfl [1, 2, 3, 4, 5, 6, 7, 8, 9, 10, 11, 12, 13] ⟨rfl, rfl⟩ ⟨Nat.le_of_ble_eq_true rfl, Nat.le_of_ble_eq_true rfl⟩ ⟨Nat.zero_le _, Nat.zero_le _⟩ rfl rfl (by decide +kernel) rfl rfl rfl (Nat.le_of_ble_eq_true rfl) dX11_man_111 rfl (fun H locs hP hD hS => ?_)
              cases h
              exact hret _ _ _ _ hP hS dX11_man_114
            · have h := k_neg s14_4 h
              by_cases s14_5 : x2 = 5
              · refine k_tblI (tgt := 115) (v := 5) hx hb dX11_man_14 s14_5 (by decide) (by decide) rfl (by decide) ?_
                have h := k_pos s14_5 h
                refine lv_aload_n hx hb dX11_man_115 rfl (lv_at hl 0 rfl) ?_
                refine va_get (D := D) (ci := 11) (v := .ref (aN 0)) (C := RX11) (T := TX11) (N := 6) hx hb hts hiX11 hown hK hP 0 rfl rfl 0 (by decide) hf36 (fun _ z => z) rfl dX11_man_116 ?_
                refine lv_iload_n hx hb dX11_man_119 rfl (lv_at hl 1 rfl) ?_
                obtain ⟨r120, g120, h⟩ := k_bind h
                refine k_callV (As := [.int x1]) (rest := []) (st1 := [.int r120]) (ws2 := (Wd26 cI cM aV aN aS aT aW aK v_hasImage nS.1 nS.2.1 nS.2.2.1 nS.2.2.2.1 nS.2.2.2.2.1 nS.2.2.2.2.2.1 nS.2.2.2.2.2.2.1 nS.2.2.2.2.2.2.2.1 nS.2.2.2.2.2.2.2.2.1 nS.2.2.2.2.2.2.2.2.2.1)) hx hb hml hown hts hK hN hA hP hD hS hl (c_City_trustedBy l D cI cM cS cJ aN aK H.size x1 nS.1 nS.2.1 nS.2.2.1 nS.2.2.2.1 nS.2.2.2.2.1 nS.2.2.2.2.2.1 nS.2.2.2.2.2.2.1 nS.2.2.2.2.2.2.2.2.2.1 g120) gX11_man_X2_trustedBy rfl kdV_X2_trustedBy 0 2 rfl rfl rfl [1, 4] ⟨rfl, rfl⟩ ⟨Nat.le_of_ble_eq_true rfl, Nat.le_of_ble_eq_true rfl⟩ ⟨Nat.zero_le _, Nat.zero_le _⟩ rfl rfl (by decide +kernel) rfl rfl rfl (Nat.le_of_ble_eq_true rfl) dX11_man_120 rfl (fun H locs hP hD hS => ?_)
                cases h
                exact hret _ _ _ _ hP hS dX11_man_123
              · have h := k_neg s14_5 h
                refine lv_tableOut (tgt := 124) hx hb dX11_man_14 (k_out [0, 1, 2, 3, 4, 5] (by decide) (List.forall_mem_cons.mpr ⟨s14_0, (List.forall_mem_cons.mpr ⟨s14_1, (List.forall_mem_cons.mpr ⟨s14_2, (List.forall_mem_cons.mpr ⟨s14_3, (List.forall_mem_cons.mpr ⟨s14_4, (List.forall_mem_cons.mpr ⟨s14_5, (fun _ z => absurd z List.not_mem_nil)⟩)⟩)⟩)⟩)⟩)⟩)) (by decide) ?_
                refine lv_iconst (v := (-1)) hx hb dX11_man_124 (by decide) ?_
                cases h
                exact hret _ _ _ _ hP hS dX11_man_125
  · have h := k_pos c8 h
    refine lv_iconst (v := (-1)) hx hb dX11_man_11 (by decide) ?_
    cases h
    exact hret _ _ _ _ hP hS dX11_man_12
abbrev rm_X11_refusalOfKind : Room := { frames := 2, cells := 0, slots := 0, locals := 42 }
set_option maxHeartbeats 4000000 in
set_option maxRecDepth 100000 in
theorem c_PL_refusalOfKind (l : Launch) (D : va_G) (cI cM cS cJ : ClassId) (aV : Nat → Nat) (aN : Nat → Nat) (aS : Nat → Nat) (aT : Nat → Nat) (aW : Nat → Nat) (aK : Nat → Nat) (aH : Nat → Nat → Nat) (dn : Nat) (sz : Nat) (x1 : Int32) (v_hasImage : Int32) (d_kind : Int32) (d_figure : Int32) (d_sort : Int32) (d_size : Int32) (d_held : Int32) (hdn : ¬ (x1 < 0 ∨ 8 ≤ x1.toNatClampNeg) → x1.toNatClampNeg = dn) {o : (Int32)} (hsem : S_PL_refusalOfKind x1 d_held = some o) : kMet l yX11_refusalOfKind wsX11_refusalOfKind rm_X11_refusalOfKind [.ref (aV 0), .int x1] D (kT cI cM cS cJ) (Wd23 cS aV aN aS aT aW aK aH dn v_hasImage d_kind d_figure d_sort d_size d_held) sz (some (.int o)) (Wd23 cS aV aN aS aT aW aK aH dn v_hasImage d_kind d_figure d_sort d_size d_held) := by
  refine k_metI (by decide) rfl rfl (Nat.le_of_ble_eq_true rfl) ?_
  intro p e s m below meth c ls Q A hx hb hml hts hown hK hN hA hP hD hS hl hsz hnm hret
  have hown : s.vm.findClass RX11 = some m.cls := hown
  have hf59 := hts (.fieldLink RX11 59 "PlumbLine" "shelves" "[LPlumbLine$Shelf;") (List.mem_of_getElem? (i := 1) rfl)
  have hiX11 : ∀ w ∈ u_ws RX11 TX11 6, w ∈ wsX11_refusalOfKind := fun w h => List.mem_cons_of_mem _ (List.mem_append_left _ (List.mem_append_right _ h))
  replace hl : lv_has ls 2 [(0, .ref (aV 0)), (1, .int x1)] := hl
  have h := hsem
  clear hsem
  rw [S_PL_refusalOfKind] at h
  refine lv_iload_n hx hb dX11_refusalOfKind_0 rfl (lv_at hl 1 rfl) ?_
  obtain ⟨r1, g1, h⟩ := k_bind h
  refine k_callS (As := [.int x1]) (rest := []) (st1 := [.int r1]) (ws2 := (Wd23 cS aV aN aS aT aW aK aH dn v_hasImage d_kind d_figure d_sort d_size d_held)) hx hb hml hown hts hK hN hA hP hD hS hl (c_PL_isShelf l D cI cM cS cJ s.heap.size x1 g1) gX11_refusalOfKind_X11_isShelf rfl kdS_X11_isShelf [] ⟨rfl, rfl⟩ ⟨Nat.le_of_ble_eq_true rfl, Nat.le_of_ble_eq_true rfl⟩ ⟨Nat.zero_le _, Nat.zero_le _⟩ rfl rfl (by decide +kernel) rfl rfl rfl (Nat.le_of_ble_eq_true rfl) dX11_refusalOfKind_1 rfl (fun H locs hP hD hS => ?_)
  refine lv_if_ne (tgt := 9) hx hb dX11_refusalOfKind_4 (by decide) (fun c4 => ?_) (fun c4 => ?_)
  · have h := k_neg c4 h
    refine lv_aload_n hx hb dX11_refusalOfKind_9 rfl (lv_at hl 0 rfl) ?_
    refine va_get (D := D) (ci := 11) (v := .ref (aV 1)) (C := RX11) (T := TX11) (N := 6) hx hb hts hiX11 hown hK hP 0 rfl rfl 4 (by decide) hf59 (fun _ z => z) rfl dX11_refusalOfKind_10 ?_
    refine lv_iload_n hx hb dX11_refusalOfKind_13 rfl (lv_at hl 1 rfl) ?_
    obtain ⟨g14, h⟩ := k_guard h
    refine k_aldR (f := fun k => aH k 0) hx hb hK hP 1 2 rfl rfl g14 dX11_refusalOfKind_14 ?_
    rw [show x1.toNatClampNeg = dn from hdn g14]
    refine k_callV (As := []) (rest := []) (st1 := [.int (S_Shelf_isEmpty d_held)]) (ws2 := (Wd23 cS aV aN aS aT aW aK aH dn v_hasImage d_kind d_figure d_sort d_size d_held)) hx hb hml hown hts hK hN hA hP hD hS hl (c_Shelf_isEmpty l D cI cM cS cJ (aH dn) aK H.size d_kind d_figure d_sort d_size d_held rfl) gX11_refusalOfKind_X9_isEmpty rfl kdV_X9_isEmpty 0 9 rfl rfl rfl [2] ⟨rfl, rfl⟩ ⟨Nat.le_of_ble_eq_true rfl, Nat.le_of_ble_eq_true rfl⟩ ⟨Nat.zero_le _, Nat.zero_le _⟩ rfl rfl (by decide +kernel) rfl rfl rfl (Nat.le_of_ble_eq_true rfl) dX11_refusalOfKind_15 rfl (fun H locs hP hD hS => ?_)
    refine lv_if_eq (tgt := 24) hx hb dX11_refusalOfKind_18 (by decide) (fun c18 => ?_) (fun c18 => ?_)
    · have h := k_pos c18 h
      refine lv_aload_n hx hb dX11_refusalOfKind_24 rfl (lv_at hl 0 rfl) ?_
      refine va_get (D := D) (ci := 11) (v := .ref (aV 1)) (C := RX11) (T := TX11) (N := 6) hx hb hts hiX11 hown hK hP 0 rfl rfl 4 (by decide) hf59 (fun _ z => z) rfl dX11_refusalOfKind_25 ?_
      refine lv_iload_n hx hb dX11_refusalOfKind_28 rfl (lv_at hl 1 rfl) ?_
      refine k_aldR (f := fun k => aH k 0) hx hb hK hP 1 2 rfl rfl g14 dX11_refusalOfKind_29 ?_
      rw [show x1.toNatClampNeg = dn from hdn g14]
      refine k_callV (As := []) (rest := []) (st1 := [.int (S_Shelf_hasRow d_held)]) (ws2 := (Wd23 cS aV aN aS aT aW aK aH dn v_hasImage d_kind d_figure d_sort d_size d_held)) hx hb hml hown hts hK hN hA hP hD hS hl (c_Shelf_hasRow l D cI cM cS cJ (aH dn) aK H.size d_kind d_figure d_sort d_size d_held rfl) gX11_refusalOfKind_X9_hasRow rfl kdV_X9_hasRow 0 9 rfl rfl rfl [2] ⟨rfl, rfl⟩ ⟨Nat.le_of_ble_eq_true rfl, Nat.le_of_ble_eq_true rfl⟩ ⟨Nat.zero_le _, Nat.zero_le _⟩ rfl rfl (by decide +kernel) rfl rfl rfl (Nat.le_of_ble_eq_true rfl) dX11_refusalOfKind_30 rfl (fun H locs hP hD hS => ?_)
      refine lv_if_eq (tgt := 41) hx hb dX11_refusalOfKind_33 (by decide) (fun c33 => ?_) (fun c33 => ?_)
      · have h := k_pos c33 h
        refine lv_iconst (v := 0) hx hb dX11_refusalOfKind_41 (by decide) ?_
        cases h
        exact hret _ _ _ _ hP hS dX11_refusalOfKind_42
      · have h := k_neg c33 h
        refine lv_bipush (v := (-12)) hx hb dX11_refusalOfKind_36 (by decide) ?_
        refine lv_goto (tgt := 42) hx hb dX11_refusalOfKind_38 (by decide) ?_
        cases h
        exact hret _ _ _ _ hP hS dX11_refusalOfKind_42
    · have h := k_neg c18 h
      refine lv_bipush (v := (-11)) hx hb dX11_refusalOfKind_21 (by decide) ?_
      cases h
      exact hret _ _ _ _ hP hS dX11_refusalOfKind_23
  · have h := k_pos c4 h
    refine lv_iconst (v := (-1)) hx hb dX11_refusalOfKind_7 (by decide) ?_
    cases h
    exact hret _ _ _ _ hP hS dX11_refusalOfKind_8
abbrev Wd27 (cI : ClassId) (cS : ClassId) (aV : Nat → Nat) (aN : Nat → Nat) (aS : Nat → Nat) (aT : Nat → Nat) (aW : Nat → Nat) (aK : Nat → Nat) (aH : Nat → Nat → Nat) (dn : Nat) (v_hasImage : Int32) (n_men : Int32) (n_propped : Int32) (n_place : Int32) (n_swings : Int32) (n_crashes : Int32) (n_day : Int32) (n_crashedToday : Int32) (n_kind : Nat → Int32) (n_figure : Nat → Int32) (n_lean : Nat → Int32) (d_kind : Int32) (d_figure : Int32) (d_sort : Int32) (d_size : Int32) (d_held : Int32) : va_W := [((aV 0), .inr (11, [.ref (aN 0), .ref (aS 0), .ref (aT 0), .ref (aW 0), .ref (aV 1), .int v_hasImage])), ((aV 1), .inl (cS, 8, .inr (.inr (.inr (.inr (fun k => some (aH k 0))))))), ((aN 0), .inr (2, [.ref (aN 1), .ref (aN 2), .ref (aN 3), .int n_men, .int n_propped, .int n_place, .int n_swings, .int n_crashes, .int n_day, .int n_crashedToday, .ref (aK 8), .ref (aN 4)])), ((aN 1), .inl (cI, 8, .inl n_kind)), ((aN 2), .inl (cI, 8, .inl n_figure)), ((aN 3), .inl (cI, 8, .inl n_lean)), (((aH dn) 0), .inr (9, [.ref ((aH dn) 1), .int d_kind, .int d_figure, .int d_sort, .int d_size, .int d_held, .ref (aK 8)]))]
theorem kdV_X11_refusalOfKind : yX11_refusalOfKind.cls = RX11 ∧ yX11_refusalOfKind.cls ≠ "java/lang/invoke/MethodHandle" ∧ yX11_refusalOfKind.cls ≠ "java/lang/invoke/VarHandle" ∧ (parseMethodDescriptor yX11_refusalOfKind.desc).map (fun d => d.parameters.length) = some 1 := by decide +kernel
abbrev rm_X11_comes : Room := { frames := 3, cells := 0, slots := 0, locals := 63 }
set_option maxHeartbeats 4000000 in
set_option maxRecDepth 100000 in
theorem c_PL_comes (l : Launch) (D : va_G) (cI cM cS cJ : ClassId) (aV : Nat → Nat) (aN : Nat → Nat) (aS : Nat → Nat) (aT : Nat → Nat) (aW : Nat → Nat) (aK : Nat → Nat) (aH : Nat → Nat → Nat) (dn : Nat) (sz : Nat) (x1 : Int32) (x2 : Int32) (v_hasImage : Int32) (nS : CS) (d_kind : Int32) (d_figure : Int32) (d_sort : Int32) (d_size : Int32) (d_held : Int32) (hdn : ¬ (x1 < 0 ∨ 8 ≤ x1.toNatClampNeg) → x1.toNatClampNeg = dn) {o : (Int32) × (CS)} (hsem : S_PL_comes x1 x2 nS d_kind d_figure d_held = some o) : kMet l yX11_comes wsX11_comes rm_X11_comes [.ref (aV 0), .int x1, .int x2] D (kT cI cM cS cJ) (Wd27 cI cS aV aN aS aT aW aK aH dn v_hasImage nS.1 nS.2.1 nS.2.2.1 nS.2.2.2.1 nS.2.2.2.2.1 nS.2.2.2.2.2.1 nS.2.2.2.2.2.2.1 nS.2.2.2.2.2.2.2.1 nS.2.2.2.2.2.2.2.2.1 nS.2.2.2.2.2.2.2.2.2.1 d_kind d_figure d_sort d_size d_held) sz (some (.int o.1)) (Wd27 cI cS aV aN aS aT aW aK aH dn v_hasImage o.2.1 o.2.2.1 o.2.2.2.1 o.2.2.2.2.1 o.2.2.2.2.2.1 o.2.2.2.2.2.2.1 o.2.2.2.2.2.2.2.1 o.2.2.2.2.2.2.2.2.1 o.2.2.2.2.2.2.2.2.2.1 o.2.2.2.2.2.2.2.2.2.2.1 d_kind d_figure d_sort d_size d_held) := by
  refine k_metI (by decide) rfl rfl (Nat.le_of_ble_eq_true rfl) ?_
  intro p e s m below meth c ls Q A hx hb hml hts hown hK hN hA hP hD hS hl hsz hnm hret
  have hown : s.vm.findClass RX11 = some m.cls := hown
  have hf59 := hts (.fieldLink RX11 59 "PlumbLine" "shelves" "[LPlumbLine$Shelf;") (List.mem_of_getElem? (i := 1) rfl)
  have hf36 := hts (.fieldLink RX11 36 "PlumbLine" "now" "LPlumbLine$City;") (List.mem_of_getElem? (i := 2) rfl)
  have hf128 := hts (.fieldLink RX11 128 "PlumbLine$Shelf" "kind" "I") (List.mem_of_getElem? (i := 3) rfl)
  have hf130 := hts (.fieldLink RX11 130 "PlumbLine$Shelf" "figure" "I") (List.mem_of_getElem? (i := 4) rfl)
  have hf135 := hts (.fieldLink RX11 135 "PlumbLine$City" "men" "I") (List.mem_of_getElem? (i := 5) rfl)
  have hiX11 : ∀ w ∈ u_ws RX11 TX11 6, w ∈ wsX11_comes := fun w h => List.mem_cons_of_mem _ (List.mem_append_left _ (List.mem_append_left _ (List.mem_append_right _ h)))
  have hiX2 : ∀ w ∈ u_ws RX2 TX2 12, w ∈ wsX11_comes := fun w h => List.mem_cons_of_mem _ (List.mem_append_right _ h)
  have hiX9 : ∀ w ∈ u_ws RX9 TX9 7, w ∈ wsX11_comes := fun w h => List.mem_cons_of_mem _ (List.mem_append_left _ (List.mem_append_right _ h))
  replace hl : lv_has ls 5 [(0, .ref (aV 0)), (1, .int x1), (2, .int x2)] := hl
  have h := hsem
  clear hsem
  rw [S_PL_comes] at h
  refine lv_iload_n hx hb dX11_comes_0 rfl (lv_at hl 2 rfl) ?_
  refine lv_bipush (v := (-45)) hx hb dX11_comes_1 (by decide) ?_
  refine lv_bipush (v := 45) hx hb dX11_comes_3 (by decide) ?_
  refine k_callS (As := [.int x2, .int (-45), .int 45]) (rest := []) (st1 := [.int (S_PL_isIn x2 (-45) 45)]) (ws2 := (Wd27 cI cS aV aN aS aT aW aK aH dn v_hasImage nS.1 nS.2.1 nS.2.2.1 nS.2.2.2.1 nS.2.2.2.2.1 nS.2.2.2.2.2.1 nS.2.2.2.2.2.2.1 nS.2.2.2.2.2.2.2.1 nS.2.2.2.2.2.2.2.2.1 nS.2.2.2.2.2.2.2.2.2.1 d_kind d_figure d_sort d_size d_held)) hx hb hml hown hts hK hN hA hP hD hS hl (c_PL_isIn l D cI cM cS cJ s.heap.size x2 (-45) 45 rfl) gX11_comes_X11_isIn rfl kdS_X11_isIn [] ⟨rfl, rfl⟩ ⟨Nat.le_of_ble_eq_true rfl, Nat.le_of_ble_eq_true rfl⟩ ⟨Nat.zero_le _, Nat.zero_le _⟩ rfl rfl (by decide +kernel) rfl rfl rfl (Nat.le_of_ble_eq_true rfl) dX11_comes_5 rfl (fun H locs hP hD hS => ?_)
  refine lv_if_ne (tgt := 13) hx hb dX11_comes_8 (by decide) (fun c8 => ?_) (fun c8 => ?_)
  · have h := k_neg c8 h
    refine lv_aload_n hx hb dX11_comes_13 rfl (lv_at hl 0 rfl) ?_
    refine lv_iload_n hx hb dX11_comes_14 rfl (lv_at hl 1 rfl) ?_
    obtain ⟨r15, g15, h⟩ := k_bind h
    refine k_callV (As := [.int x1]) (rest := []) (st1 := [.int r15]) (ws2 := (Wd27 cI cS aV aN aS aT aW aK aH dn v_hasImage nS.1 nS.2.1 nS.2.2.1 nS.2.2.2.1 nS.2.2.2.2.1 nS.2.2.2.2.2.1 nS.2.2.2.2.2.2.1 nS.2.2.2.2.2.2.2.1 nS.2.2.2.2.2.2.2.2.1 nS.2.2.2.2.2.2.2.2.2.1 d_kind d_figure d_sort d_size d_held)) hx hb hml hown hts hK hN hA hP hD hS hl (c_PL_refusalOfKind l D cI cM cS cJ aV aN aS aT aW aK aH dn H.size x1 v_hasImage d_kind d_figure d_sort d_size d_held hdn g15) gX11_comes_X11_refusalOfKind rfl kdV_X11_refusalOfKind 0 11 rfl rfl rfl [0, 1, 6] ⟨rfl, rfl⟩ ⟨Nat.le_of_ble_eq_true rfl, Nat.le_of_ble_eq_true rfl⟩ ⟨Nat.zero_le _, Nat.zero_le _⟩ rfl rfl (by decide +kernel) rfl rfl rfl (Nat.le_of_ble_eq_true rfl) dX11_comes_15 rfl (fun H locs hP hD hS => ?_)
    refine lv_istore_n (lv' := [(3, .int r15), (0, .ref (aV 0)), (1, .int x1), (2, .int x2)]) hx hb dX11_comes_18 rfl hl (by decide) rfl (fun ls hl => ?_)
    refine lv_iload_n hx hb dX11_comes_19 rfl (lv_at hl 0 rfl) ?_
    refine lv_if_eq (tgt := 25) hx hb dX11_comes_20 (by decide) (fun c20 => ?_) (fun c20 => ?_)
    · have h := k_pos c20 h
      refine lv_aload_n hx hb dX11_comes_25 rfl (lv_at hl 1 rfl) ?_
      refine va_get (D := D) (ci := 11) (v := .ref (aV 1)) (C := RX11) (T := TX11) (N := 6) hx hb hts hiX11 hown hK hP 0 rfl rfl 4 (by decide) hf59 (fun _ z => z) rfl dX11_comes_26 ?_
      refine lv_iload_n hx hb dX11_comes_29 rfl (lv_at hl 2 rfl) ?_
      obtain ⟨g30, h⟩ := k_guard h
      refine k_aldR (f := fun k => aH k 0) hx hb hK hP 1 2 rfl rfl g30 dX11_comes_30 ?_
      rw [show x1.toNatClampNeg = dn from hdn g30]
      refine lv_astore (lv' := [(4, .ref ((aH dn) 0)), (3, .int r15), (0, .ref (aV 0)), (1, .int x1), (2, .int x2)]) hx hb dX11_comes_31 hl (by decide) rfl (fun ls hl => ?_)
      refine lv_aload_n hx hb dX11_comes_33 rfl (lv_at hl 2 rfl) ?_
      refine va_get (D := D) (ci := 11) (v := .ref (aN 0)) (C := RX11) (T := TX11) (N := 6) hx hb hts hiX11 hown hK hP 0 rfl rfl 0 (by decide) hf36 (fun _ z => z) rfl dX11_comes_34 ?_
      refine lv_aload hx hb dX11_comes_37 (lv_at hl 0 rfl) ?_
      refine va_get (D := D) (ci := 9) (v := .int d_kind) (C := RX9) (T := TX9) (N := 7) hx hb hts hiX9 hown hK hP 6 rfl rfl 1 (by decide) hf128 (fun _ z => z) rfl dX11_comes_39 ?_
      refine lv_aload hx hb dX11_comes_42 (lv_at hl 0 rfl) ?_
      refine va_get (D := D) (ci := 9) (v := .int d_figure) (C := RX9) (T := TX9) (N := 7) hx hb hts hiX9 hown hK hP 6 rfl rfl 2 (by decide) hf130 (fun _ z => z) rfl dX11_comes_44 ?_
      refine lv_iload_n hx hb dX11_comes_47 rfl (lv_at hl 4 rfl) ?_
      obtain ⟨r48, g48, h⟩ := k_bind h
      refine k_callV (As := [.int d_kind, .int d_figure, .int x2]) (rest := []) (st1 := [.int r48.1]) (ws2 := (Wd27 cI cS aV aN aS aT aW aK aH dn v_hasImage r48.2.1 nS.2.1 nS.2.2.1 nS.2.2.2.1 nS.2.2.2.2.1 nS.2.2.2.2.2.1 nS.2.2.2.2.2.2.1 r48.2.2.1 r48.2.2.2.1 r48.2.2.2.2 d_kind d_figure d_sort d_size d_held)) hx hb hml hown hts hK hN hA hP hD hS hl (c_City_takesIn l D cI cM cS cJ aN aK H.size d_kind d_figure x2 nS.1 nS.2.1 nS.2.2.1 nS.2.2.2.1 nS.2.2.2.2.1 nS.2.2.2.2.2.1 nS.2.2.2.2.2.2.1 nS.2.2.2.2.2.2.2.1 nS.2.2.2.2.2.2.2.2.1 nS.2.2.2.2.2.2.2.2.2.1 g48) gX11_comes_X2_takesIn rfl kdV_X2_takesIn 0 2 rfl rfl rfl [2, 3, 4, 5] ⟨rfl, rfl⟩ ⟨Nat.le_of_ble_eq_true rfl, Nat.le_of_ble_eq_true rfl⟩ ⟨Nat.zero_le _, Nat.zero_le _⟩ rfl rfl (by decide +kernel) rfl rfl rfl (Nat.le_of_ble_eq_true rfl) dX11_comes_48 rfl (fun H locs hP hD hS => ?_)
      refine lv_if_eq (tgt := 66) hx hb dX11_comes_51 (by decide) (fun c51 => ?_) (fun c51 => ?_)
      · have h := k_pos c51 h
        refine lv_bipush (v := (-2)) hx hb dX11_comes_66 (by decide) ?_
        cases h
        exact hret _ _ _ _ hP hS dX11_comes_68
      · have h := k_neg c51 h
        refine lv_aload_n hx hb dX11_comes_54 rfl (lv_at hl 2 rfl) ?_
        refine va_get (D := D) (ci := 11) (v := .ref (aN 0)) (C := RX11) (T := TX11) (N := 6) hx hb hts hiX11 hown hK hP 0 rfl rfl 0 (by decide) hf36 (fun _ z => z) rfl dX11_comes_55 ?_
        refine va_get (D := D) (ci := 2) (v := .int r48.2.1) (C := RX2) (T := TX2) (N := 12) hx hb hts hiX2 hown hK hP 2 rfl rfl 3 (by decide) hf135 (fun _ z => z) rfl dX11_comes_58 ?_
        refine lv_iconst (v := 1) hx hb dX11_comes_61 (by decide) ?_
        refine lv_isub hx hb dX11_comes_62 ?_
        refine lv_goto (tgt := 68) hx hb dX11_comes_63 (by decide) ?_
        cases h
        exact hret _ _ _ _ hP hS dX11_comes_68
    · have h := k_neg c20 h
      refine lv_iload_n hx hb dX11_comes_23 rfl (lv_at hl 0 rfl) ?_
      cases h
      exact hret _ _ _ _ hP hS dX11_comes_24
  · have h := k_pos c8 h
    refine lv_iconst (v := (-1)) hx hb dX11_comes_11 (by decide) ?_
    cases h
    exact hret _ _ _ _ hP hS dX11_comes_12
abbrev rm_X11_pushes : Room := { frames := 1, cells := 0, slots := 0, locals := 22 }
set_option maxHeartbeats 4000000 in
set_option maxRecDepth 100000 in
theorem c_PL_pushes (l : Launch) (D : va_G) (cI cM cS cJ : ClassId) (aV : Nat → Nat) (aN : Nat → Nat) (aS : Nat → Nat) (aT : Nat → Nat) (aW : Nat → Nat) (aK : Nat → Nat) (sz : Nat) (x1 : Int32) (x2 : Int32) (v_hasImage : Int32) (nS : CS) {o : (Int32) × (CS)} (hsem : S_PL_pushes x1 x2 nS = some o) : kMet l yX11_pushes wsX11_pushes rm_X11_pushes [.ref (aV 0), .int x1, .int x2] D (kT cI cM cS cJ) (Wd25 cI aV aN aS aT aW aK v_hasImage nS.1 nS.2.1 nS.2.2.1 nS.2.2.2.1 nS.2.2.2.2.1 nS.2.2.2.2.2.1 nS.2.2.2.2.2.2.1 nS.2.2.2.2.2.2.2.2.2.1) sz (some (.int o.1)) (Wd25 cI aV aN aS aT aW aK v_hasImage o.2.1 o.2.2.1 o.2.2.2.1 o.2.2.2.2.1 o.2.2.2.2.2.1 o.2.2.2.2.2.2.1 o.2.2.2.2.2.2.2.1 o.2.2.2.2.2.2.2.2.2.2.1) := by
  refine k_metI (by decide) rfl rfl (Nat.le_of_ble_eq_true rfl) ?_
  intro p e s m below meth c ls Q A hx hb hml hts hown hK hN hA hP hD hS hl hsz hnm hret
  have hown : s.vm.findClass RX11 = some m.cls := hown
  have hf36 := hts (.fieldLink RX11 36 "PlumbLine" "now" "LPlumbLine$City;") (List.mem_of_getElem? (i := 1) rfl)
  have hf99 := hts (.fieldLink RX11 99 "PlumbLine$City" "lean" "[I") (List.mem_of_getElem? (i := 3) rfl)
  have hiX11 : ∀ w ∈ u_ws RX11 TX11 6, w ∈ wsX11_pushes := fun w h => List.mem_cons_of_mem _ (List.mem_append_left _ (List.mem_append_right _ h))
  have hiX2 : ∀ w ∈ u_ws RX2 TX2 12, w ∈ wsX11_pushes := fun w h => List.mem_cons_of_mem _ (List.mem_append_right _ h)
  replace hl : lv_has ls 4 [(0, .ref (aV 0)), (1, .int x1), (2, .int x2)] := hl
  have h := hsem
  clear hsem
  rw [S_PL_pushes] at h
  refine lv_aload_n hx hb dX11_pushes_0 rfl (lv_at hl 0 rfl) ?_
  refine va_get (D := D) (ci := 11) (v := .ref (aN 0)) (C := RX11) (T := TX11) (N := 6) hx hb hts hiX11 hown hK hP 0 rfl rfl 0 (by decide) hf36 (fun _ z => z) rfl dX11_pushes_1 ?_
  refine lv_iload_n hx hb dX11_pushes_4 rfl (lv_at hl 1 rfl) ?_
  refine k_callV (As := [.int x1]) (rest := []) (st1 := [.int (S_City_has x1 nS.1)]) (ws2 := (Wd25 cI aV aN aS aT aW aK v_hasImage nS.1 nS.2.1 nS.2.2.1 nS.2.2.2.1 nS.2.2.2.2.1 nS.2.2.2.2.2.1 nS.2.2.2.2.2.2.1 nS.2.2.2.2.2.2.2.2.2.1)) hx hb hml hown hts hK hN hA hP hD hS hl (c_City_has l D cI cM cS cJ aN aK s.heap.size x1 nS.1 nS.2.1 nS.2.2.1 nS.2.2.2.1 nS.2.2.2.2.1 nS.2.2.2.2.2.1 nS.2.2.2.2.2.2.1 rfl) gX11_pushes_X2_has rfl kdV_X2_has 0 2 rfl rfl rfl [1] ⟨rfl, rfl⟩ ⟨Nat.le_of_ble_eq_true rfl, Nat.le_of_ble_eq_true rfl⟩ ⟨Nat.zero_le _, Nat.zero_le _⟩ rfl rfl (by decide +kernel) rfl rfl rfl (Nat.le_of_ble_eq_true rfl) dX11_pushes_5 rfl (fun H locs hP hD hS => ?_)
  refine lv_if_eq (tgt := 22) hx hb dX11_pushes_8 (by decide) (fun c8 => ?_) (fun c8 => ?_)
  · have h := k_pos c8 h
    refine lv_ldc (v := 1000000001) hx hb hown (hts (.constant RX11 102 1000000001) (List.mem_of_getElem? (i := 2) rfl)) dX11_pushes_22 ?_
    cases h
    exact hret _ _ _ _ hP hS dX11_pushes_24
  · have h := k_neg c8 h
    refine lv_iload_n hx hb dX11_pushes_11 rfl (lv_at hl 2 rfl) ?_
    refine lv_bipush (v := (-45)) hx hb dX11_pushes_12 (by decide) ?_
    refine lv_bipush (v := 45) hx hb dX11_pushes_14 (by decide) ?_
    refine k_callS (As := [.int x2, .int (-45), .int 45]) (rest := []) (st1 := [.int (S_PL_isIn x2 (-45) 45)]) (ws2 := (Wd25 cI aV aN aS aT aW aK v_hasImage nS.1 nS.2.1 nS.2.2.1 nS.2.2.2.1 nS.2.2.2.2.1 nS.2.2.2.2.2.1 nS.2.2.2.2.2.2.1 nS.2.2.2.2.2.2.2.2.2.1)) hx hb hml hown hts hK hN hA hP hD hS hl (c_PL_isIn l D cI cM cS cJ H.size x2 (-45) 45 rfl) gX11_pushes_X11_isIn rfl kdS_X11_isIn [] ⟨rfl, rfl⟩ ⟨Nat.le_of_ble_eq_true rfl, Nat.le_of_ble_eq_true rfl⟩ ⟨Nat.zero_le _, Nat.zero_le _⟩ rfl rfl (by decide +kernel) rfl rfl rfl (Nat.le_of_ble_eq_true rfl) dX11_pushes_16 rfl (fun H locs hP hD hS => ?_)
    refine lv_if_ne (tgt := 25) hx hb dX11_pushes_19 (by decide) (fun c19 => ?_) (fun c19 => ?_)
    · have h := k_neg c19 h
      refine lv_aload_n hx hb dX11_pushes_25 rfl (lv_at hl 0 rfl) ?_
      refine va_get (D := D) (ci := 11) (v := .ref (aN 0)) (C := RX11) (T := TX11) (N := 6) hx hb hts hiX11 hown hK hP 0 rfl rfl 0 (by decide) hf36 (fun _ z => z) rfl dX11_pushes_26 ?_
      refine va_get (D := D) (ci := 2) (v := .ref (aN 3)) (C := RX2) (T := TX2) (N := 12) hx hb hts hiX2 hown hK hP 1 rfl rfl 2 (by decide) hf99 (fun _ z => z) rfl dX11_pushes_29 ?_
      refine lv_iload_n hx hb dX11_pushes_32 rfl (lv_at hl 1 rfl) ?_
      obtain ⟨g33, h⟩ := k_guard h
      refine va_iald hx hb hK hP 2 0 rfl rfl g33 dX11_pushes_33 ?_
      refine lv_istore_n (lv' := [(3, .int (nS.2.2.2.2.2.2.2.2.2.1 x1.toNatClampNeg)), (0, .ref (aV 0)), (1, .int x1), (2, .int x2)]) hx hb dX11_pushes_34 rfl hl (by decide) rfl (fun ls hl => ?_)
      refine lv_aload_n hx hb dX11_pushes_35 rfl (lv_at hl 1 rfl) ?_
      refine va_get (D := D) (ci := 11) (v := .ref (aN 0)) (C := RX11) (T := TX11) (N := 6) hx hb hts hiX11 hown hK hP 0 rfl rfl 0 (by decide) hf36 (fun _ z => z) rfl dX11_pushes_36 ?_
      refine va_get (D := D) (ci := 2) (v := .ref (aN 3)) (C := RX2) (T := TX2) (N := 12) hx hb hts hiX2 hown hK hP 1 rfl rfl 2 (by decide) hf99 (fun _ z => z) rfl dX11_pushes_39 ?_
      refine lv_iload_n hx hb dX11_pushes_42 rfl (lv_at hl 2 rfl) ?_
      refine lv_iload_n hx hb dX11_pushes_43 rfl (lv_at hl 3 rfl) ?_
      refine va_iast hx hb hK hP hD hS 2 0 rfl rfl g33 dX11_pushes_44 (fun H locs hP hD hS => ?_)
      replace hP : va_P D vwCl (Wd25 cI aV aN aS aT aW aK v_hasImage nS.1 nS.2.1 nS.2.2.1 nS.2.2.2.1 nS.2.2.2.2.1 nS.2.2.2.2.2.1 nS.2.2.2.2.2.2.1 (upd nS.2.2.2.2.2.2.2.2.2.1 x1.toNatClampNeg x2)) H := hP
      replace hD : va_D A (Wd25 cI aV aN aS aT aW aK v_hasImage nS.1 nS.2.1 nS.2.2.1 nS.2.2.2.1 nS.2.2.2.2.1 nS.2.2.2.2.2.1 nS.2.2.2.2.2.2.1 (upd nS.2.2.2.2.2.2.2.2.2.1 x1.toNatClampNeg x2)) := hD
      refine lv_iload_n hx hb dX11_pushes_45 rfl (lv_at hl 0 rfl) ?_
      cases h
      exact hret _ _ _ _ hP hS dX11_pushes_46
    · have h := k_pos c19 h
      refine lv_ldc (v := 1000000001) hx hb hown (hts (.constant RX11 102 1000000001) (List.mem_of_getElem? (i := 2) rfl)) dX11_pushes_22 ?_
      cases h
      exact hret _ _ _ _ hP hS dX11_pushes_24
abbrev Wd28 (aV : Nat → Nat) (aN : Nat → Nat) (aS : Nat → Nat) (aT : Nat → Nat) (aW : Nat → Nat) (aK : Nat → Nat) (v_hasImage : Int32) (n_men : Int32) (n_propped : Int32) (n_place : Int32) (n_swings : Int32) (n_crashes : Int32) (n_day : Int32) (n_crashedToday : Int32) : va_W := [((aV 0), .inr (11, [.ref (aN 0), .ref (aS 0), .ref (aT 0), .ref (aW 0), .ref (aV 1), .int v_hasImage])), ((aN 0), .inr (2, [.ref (aN 1), .ref (aN 2), .ref (aN 3), .int n_men, .int n_propped, .int n_place, .int n_swings, .int n_crashes, .int n_day, .int n_crashedToday, .ref (aK 8), .ref (aN 4)]))]
abbrev rm_X11_props : Room := { frames := 1, cells := 0, slots := 0, locals := 21 }
set_option maxHeartbeats 4000000 in
set_option maxRecDepth 100000 in
theorem c_PL_props (l : Launch) (D : va_G) (cI cM cS cJ : ClassId) (aV : Nat → Nat) (aN : Nat → Nat) (aS : Nat → Nat) (aT : Nat → Nat) (aW : Nat → Nat) (aK : Nat → Nat) (sz : Nat) (x1 : Int32) (v_hasImage : Int32) (nS : CS) {o : (Int32) × (CS)} (hsem : S_PL_props x1 nS = o) : kMet l yX11_props wsX11_props rm_X11_props [.ref (aV 0), .int x1] D (kT cI cM cS cJ) (Wd28 aV aN aS aT aW aK v_hasImage nS.1 nS.2.1 nS.2.2.1 nS.2.2.2.1 nS.2.2.2.2.1 nS.2.2.2.2.2.1 nS.2.2.2.2.2.2.1) sz (some (.int o.1)) (Wd28 aV aN aS aT aW aK v_hasImage o.2.1 o.2.2.1 o.2.2.2.1 o.2.2.2.2.1 o.2.2.2.2.2.1 o.2.2.2.2.2.2.1 o.2.2.2.2.2.2.2.1) := by
  refine k_metI (by decide) rfl rfl (Nat.le_of_ble_eq_true rfl) ?_
  intro p e s m below meth c ls Q A hx hb hml hts hown hK hN hA hP hD hS hl hsz hnm hret
  have hown : s.vm.findClass RX11 = some m.cls := hown
  have hf36 := hts (.fieldLink RX11 36 "PlumbLine" "now" "LPlumbLine$City;") (List.mem_of_getElem? (i := 1) rfl)
  have hiX11 : ∀ w ∈ u_ws RX11 TX11 6, w ∈ wsX11_props := fun w h => List.mem_cons_of_mem _ (List.mem_append_left _ (List.mem_append_right _ h))
  replace hl : lv_has ls 2 [(0, .ref (aV 0)), (1, .int x1)] := hl
  have h := hsem
  clear hsem
  rw [S_PL_props] at h
  refine lv_aload_n hx hb dX11_props_0 rfl (lv_at hl 0 rfl) ?_
  refine va_get (D := D) (ci := 11) (v := .ref (aN 0)) (C := RX11) (T := TX11) (N := 6) hx hb hts hiX11 hown hK hP 0 rfl rfl 0 (by decide) hf36 (fun _ z => z) rfl dX11_props_1 ?_
  refine lv_iload_n hx hb dX11_props_4 rfl (lv_at hl 1 rfl) ?_
  refine k_callV (As := [.int x1]) (rest := []) (st1 := [.int (S_City_has x1 nS.1)]) (ws2 := (Wd28 aV aN aS aT aW aK v_hasImage nS.1 nS.2.1 nS.2.2.1 nS.2.2.2.1 nS.2.2.2.2.1 nS.2.2.2.2.2.1 nS.2.2.2.2.2.2.1)) hx hb hml hown hts hK hN hA hP hD hS hl (c_City_has l D cI cM cS cJ aN aK s.heap.size x1 nS.1 nS.2.1 nS.2.2.1 nS.2.2.2.1 nS.2.2.2.2.1 nS.2.2.2.2.2.1 nS.2.2.2.2.2.2.1 rfl) gX11_props_X2_has rfl kdV_X2_has 0 2 rfl rfl rfl [1] ⟨rfl, rfl⟩ ⟨Nat.le_of_ble_eq_true rfl, Nat.le_of_ble_eq_true rfl⟩ ⟨Nat.zero_le _, Nat.zero_le _⟩ rfl rfl (by decide +kernel) rfl rfl rfl (Nat.le_of_ble_eq_true rfl) dX11_props_5 rfl (fun H locs hP hD hS => ?_)
  refine lv_if_ne (tgt := 13) hx hb dX11_props_8 (by decide) (fun c8 => ?_) (fun c8 => ?_)
  · have h := k_neg c8 h
    refine lv_aload_n hx hb dX11_props_13 rfl (lv_at hl 0 rfl) ?_
    refine va_get (D := D) (ci := 11) (v := .ref (aN 0)) (C := RX11) (T := TX11) (N := 6) hx hb hts hiX11 hown hK hP 0 rfl rfl 0 (by decide) hf36 (fun _ z => z) rfl dX11_props_14 ?_
    refine lv_iload_n hx hb dX11_props_17 rfl (lv_at hl 1 rfl) ?_
    refine k_callV (As := [.int x1]) (rest := []) (st1 := []) (ws2 := (Wd28 aV aN aS aT aW aK v_hasImage nS.1 (S_City_turnProp x1 nS.2.1) nS.2.2.1 nS.2.2.2.1 nS.2.2.2.2.1 nS.2.2.2.2.2.1 nS.2.2.2.2.2.2.1)) hx hb hml hown hts hK hN hA hP hD hS hl (c_City_turnProp l D cI cM cS cJ aN aK H.size x1 nS.1 nS.2.1 nS.2.2.1 nS.2.2.2.1 nS.2.2.2.2.1 nS.2.2.2.2.2.1 nS.2.2.2.2.2.2.1 rfl) gX11_props_X2_turnProp rfl kdV_X2_turnProp 0 2 rfl rfl rfl [1] ⟨rfl, rfl⟩ ⟨Nat.le_of_ble_eq_true rfl, Nat.le_of_ble_eq_true rfl⟩ ⟨Nat.zero_le _, Nat.zero_le _⟩ rfl rfl (by decide +kernel) rfl rfl rfl (Nat.le_of_ble_eq_true rfl) dX11_props_18 rfl (fun H locs hP hD hS => ?_)
    refine lv_aload_n hx hb dX11_props_21 rfl (lv_at hl 0 rfl) ?_
    refine va_get (D := D) (ci := 11) (v := .ref (aN 0)) (C := RX11) (T := TX11) (N := 6) hx hb hts hiX11 hown hK hP 0 rfl rfl 0 (by decide) hf36 (fun _ z => z) rfl dX11_props_22 ?_
    refine lv_iload_n hx hb dX11_props_25 rfl (lv_at hl 1 rfl) ?_
    refine k_callV (As := [.int x1]) (rest := []) (st1 := [.int (S_City_isPropped x1 (S_City_turnProp x1 nS.2.1))]) (ws2 := (Wd28 aV aN aS aT aW aK v_hasImage nS.1 (S_City_turnProp x1 nS.2.1) nS.2.2.1 nS.2.2.2.1 nS.2.2.2.2.1 nS.2.2.2.2.2.1 nS.2.2.2.2.2.2.1)) hx hb hml hown hts hK hN hA hP hD hS hl (c_City_isPropped l D cI cM cS cJ aN aK H.size x1 nS.1 (S_City_turnProp x1 nS.2.1) nS.2.2.1 nS.2.2.2.1 nS.2.2.2.2.1 nS.2.2.2.2.2.1 nS.2.2.2.2.2.2.1 rfl) gX11_props_X2_isPropped rfl kdV_X2_isPropped 0 2 rfl rfl rfl [1] ⟨rfl, rfl⟩ ⟨Nat.le_of_ble_eq_true rfl, Nat.le_of_ble_eq_true rfl⟩ ⟨Nat.zero_le _, Nat.zero_le _⟩ rfl rfl (by decide +kernel) rfl rfl rfl (Nat.le_of_ble_eq_true rfl) dX11_props_26 rfl (fun H locs hP hD hS => ?_)
    refine lv_if_eq (tgt := 36) hx hb dX11_props_29 (by decide) (fun c29 => ?_) (fun c29 => ?_)
    · have h := k_pos c29 h
      refine lv_iconst (v := 0) hx hb dX11_props_36 (by decide) ?_
      cases h
      exact hret _ _ _ _ hP hS dX11_props_37
    · have h := k_neg c29 h
      refine lv_iconst (v := 1) hx hb dX11_props_32 (by decide) ?_
      refine lv_goto (tgt := 37) hx hb dX11_props_33 (by decide) ?_
      cases h
      exact hret _ _ _ _ hP hS dX11_props_37
  · have h := k_pos c8 h
    refine lv_iconst (v := (-1)) hx hb dX11_props_11 (by decide) ?_
    cases h
    exact hret _ _ _ _ hP hS dX11_props_12
abbrev rm_X11_hangs : Room := { frames := 1, cells := 0, slots := 0, locals := 22 }
set_option maxHeartbeats 4000000 in
set_option maxRecDepth 100000 in
theorem c_PL_hangs (l : Launch) (D : va_G) (cI cM cS cJ : ClassId) (aV : Nat → Nat) (aN : Nat → Nat) (aS : Nat → Nat) (aT : Nat → Nat) (aW : Nat → Nat) (aK : Nat → Nat) (sz : Nat) (x1 : Int32) (x2 : Int32) (v_hasImage : Int32) (nS : CS) {o : (Int32) × (CS)} (hsem : S_PL_hangs x1 x2 nS = o) : kMet l yX11_hangs wsX11_hangs rm_X11_hangs [.ref (aV 0), .int x1, .int x2] D (kT cI cM cS cJ) (Wd28 aV aN aS aT aW aK v_hasImage nS.1 nS.2.1 nS.2.2.1 nS.2.2.2.1 nS.2.2.2.2.1 nS.2.2.2.2.2.1 nS.2.2.2.2.2.2.1) sz (some (.int o.1)) (Wd28 aV aN aS aT aW aK v_hasImage o.2.1 o.2.2.1 o.2.2.2.1 o.2.2.2.2.1 o.2.2.2.2.2.1 o.2.2.2.2.2.2.1 o.2.2.2.2.2.2.2.1) := by
  refine k_metI (by decide) rfl rfl (Nat.le_of_ble_eq_true rfl) ?_
  intro p e s m below meth c ls Q A hx hb hml hts hown hK hN hA hP hD hS hl hsz hnm hret
  have hown : s.vm.findClass RX11 = some m.cls := hown
  have hf36 := hts (.fieldLink RX11 36 "PlumbLine" "now" "LPlumbLine$City;") (List.mem_of_getElem? (i := 1) rfl)
  have hf142 := hts (.fieldLink RX11 142 "PlumbLine$City" "swings" "I") (List.mem_of_getElem? (i := 2) rfl)
  have hf145 := hts (.fieldLink RX11 145 "PlumbLine$City" "place" "I") (List.mem_of_getElem? (i := 3) rfl)
  have hiX11 : ∀ w ∈ u_ws RX11 TX11 6, w ∈ wsX11_hangs := fun w h => List.mem_cons_of_mem _ (List.mem_append_left _ (List.mem_append_right _ h))
  have hiX2 : ∀ w ∈ u_ws RX2 TX2 12, w ∈ wsX11_hangs := fun w h => List.mem_cons_of_mem _ (List.mem_append_right _ h)
  replace hl : lv_has ls 4 [(0, .ref (aV 0)), (1, .int x1), (2, .int x2)] := hl
  have h := hsem
  clear hsem
  rw [S_PL_hangs] at h
  refine lv_iload_n hx hb dX11_hangs_0 rfl (lv_at hl 1 rfl) ?_
  refine lv_iconst (v := 0) hx hb dX11_hangs_1 (by decide) ?_
  refine lv_bipush (v := 9) hx hb dX11_hangs_2 (by decide) ?_
  refine k_callS (As := [.int x1, .int 0, .int 9]) (rest := []) (st1 := [.int (S_PL_isIn x1 0 9)]) (ws2 := (Wd28 aV aN aS aT aW aK v_hasImage nS.1 nS.2.1 nS.2.2.1 nS.2.2.2.1 nS.2.2.2.2.1 nS.2.2.2.2.2.1 nS.2.2.2.2.2.2.1)) hx hb hml hown hts hK hN hA hP hD hS hl (c_PL_isIn l D cI cM cS cJ s.heap.size x1 0 9 rfl) gX11_hangs_X11_isIn rfl kdS_X11_isIn [] ⟨rfl, rfl⟩ ⟨Nat.le_of_ble_eq_true rfl, Nat.le_of_ble_eq_true rfl⟩ ⟨Nat.zero_le _, Nat.zero_le _⟩ rfl rfl (by decide +kernel) rfl rfl rfl (Nat.le_of_ble_eq_true rfl) dX11_hangs_4 rfl (fun H locs hP hD hS => ?_)
  refine lv_if_eq (tgt := 20) hx hb dX11_hangs_7 (by decide) (fun c7 => ?_) (fun c7 => ?_)
  · have h := k_pos c7 h
    refine lv_iconst (v := (-1)) hx hb dX11_hangs_20 (by decide) ?_
    cases h
    exact hret _ _ _ _ hP hS dX11_hangs_21
  · have h := k_neg c7 h
    refine lv_iload_n hx hb dX11_hangs_10 rfl (lv_at hl 2 rfl) ?_
    refine lv_iconst (v := 0) hx hb dX11_hangs_11 (by decide) ?_
    refine lv_bipush (v := 7) hx hb dX11_hangs_12 (by decide) ?_
    refine k_callS (As := [.int x2, .int 0, .int 7]) (rest := []) (st1 := [.int (S_PL_isIn x2 0 7)]) (ws2 := (Wd28 aV aN aS aT aW aK v_hasImage nS.1 nS.2.1 nS.2.2.1 nS.2.2.2.1 nS.2.2.2.2.1 nS.2.2.2.2.2.1 nS.2.2.2.2.2.2.1)) hx hb hml hown hts hK hN hA hP hD hS hl (c_PL_isIn l D cI cM cS cJ H.size x2 0 7 rfl) gX11_hangs_X11_isIn rfl kdS_X11_isIn [] ⟨rfl, rfl⟩ ⟨Nat.le_of_ble_eq_true rfl, Nat.le_of_ble_eq_true rfl⟩ ⟨Nat.zero_le _, Nat.zero_le _⟩ rfl rfl (by decide +kernel) rfl rfl rfl (Nat.le_of_ble_eq_true rfl) dX11_hangs_14 rfl (fun H locs hP hD hS => ?_)
    refine lv_if_ne (tgt := 22) hx hb dX11_hangs_17 (by decide) (fun c17 => ?_) (fun c17 => ?_)
    · have h := k_neg c17 h
      refine lv_bipush (v := 10) hx hb dX11_hangs_22 (by decide) ?_
      refine lv_aload_n hx hb dX11_hangs_24 rfl (lv_at hl 0 rfl) ?_
      refine va_get (D := D) (ci := 11) (v := .ref (aN 0)) (C := RX11) (T := TX11) (N := 6) hx hb hts hiX11 hown hK hP 0 rfl rfl 0 (by decide) hf36 (fun _ z => z) rfl dX11_hangs_25 ?_
      refine va_get (D := D) (ci := 2) (v := .int nS.2.2.2.1) (C := RX2) (T := TX2) (N := 12) hx hb hts hiX2 hown hK hP 1 rfl rfl 6 (by decide) hf142 (fun _ z => z) rfl dX11_hangs_28 ?_
      refine lv_imul hx hb dX11_hangs_31 ?_
      refine lv_aload_n hx hb dX11_hangs_32 rfl (lv_at hl 0 rfl) ?_
      refine va_get (D := D) (ci := 11) (v := .ref (aN 0)) (C := RX11) (T := TX11) (N := 6) hx hb hts hiX11 hown hK hP 0 rfl rfl 0 (by decide) hf36 (fun _ z => z) rfl dX11_hangs_33 ?_
      refine va_get (D := D) (ci := 2) (v := .int nS.2.2.1) (C := RX2) (T := TX2) (N := 12) hx hb hts hiX2 hown hK hP 1 rfl rfl 5 (by decide) hf145 (fun _ z => z) rfl dX11_hangs_36 ?_
      refine lv_iadd hx hb dX11_hangs_39 ?_
      refine lv_istore_n (lv' := [(3, .int (((10 : Int32) * nS.2.2.2.1) + nS.2.2.1)), (0, .ref (aV 0)), (1, .int x1), (2, .int x2)]) hx hb dX11_hangs_40 rfl hl (by decide) rfl (fun ls hl => ?_)
      refine lv_aload_n hx hb dX11_hangs_41 rfl (lv_at hl 1 rfl) ?_
      refine va_get (D := D) (ci := 11) (v := .ref (aN 0)) (C := RX11) (T := TX11) (N := 6) hx hb hts hiX11 hown hK hP 0 rfl rfl 0 (by decide) hf36 (fun _ z => z) rfl dX11_hangs_42 ?_
      refine lv_iload_n hx hb dX11_hangs_45 rfl (lv_at hl 2 rfl) ?_
      refine va_put (D := D) (ci := 2) (v := .int x1) (ty := .int) (C := RX2) (T := TX2) (N := 12) hx hb hts hiX2 tyX2 tyX2_ok nmX2 hown hK hP hD hS 1 rfl rfl 6 (by decide) hf142 (fun _ z => z) rfl (by decide +kernel) rfl rfl (Nat.le_of_ble_eq_true rfl) dX11_hangs_46 (fun H locs hP hD hS => ?_)
      replace hP : va_P D vwCl (Wd28 aV aN aS aT aW aK v_hasImage nS.1 nS.2.1 nS.2.2.1 x1 nS.2.2.2.2.1 nS.2.2.2.2.2.1 nS.2.2.2.2.2.2.1) H := hP
      replace hD : va_D A (Wd28 aV aN aS aT aW aK v_hasImage nS.1 nS.2.1 nS.2.2.1 x1 nS.2.2.2.2.1 nS.2.2.2.2.2.1 nS.2.2.2.2.2.2.1) := hD
      refine lv_aload_n hx hb dX11_hangs_49 rfl (lv_at hl 1 rfl) ?_
      refine va_get (D := D) (ci := 11) (v := .ref (aN 0)) (C := RX11) (T := TX11) (N := 6) hx hb hts hiX11 hown hK hP 0 rfl rfl 0 (by decide) hf36 (fun _ z => z) rfl dX11_hangs_50 ?_
      refine lv_iload_n hx hb dX11_hangs_53 rfl (lv_at hl 3 rfl) ?_
      refine va_put (D := D) (ci := 2) (v := .int x2) (ty := .int) (C := RX2) (T := TX2) (N := 12) hx hb hts hiX2 tyX2 tyX2_ok nmX2 hown hK hP hD hS 1 rfl rfl 5 (by decide) hf145 (fun _ z => z) rfl (by decide +kernel) rfl rfl (Nat.le_of_ble_eq_true rfl) dX11_hangs_54 (fun H locs hP hD hS => ?_)
      replace hP : va_P D vwCl (Wd28 aV aN aS aT aW aK v_hasImage nS.1 nS.2.1 x2 x1 nS.2.2.2.2.1 nS.2.2.2.2.2.1 nS.2.2.2.2.2.2.1) H := hP
      replace hD : va_D A (Wd28 aV aN aS aT aW aK v_hasImage nS.1 nS.2.1 x2 x1 nS.2.2.2.2.1 nS.2.2.2.2.2.1 nS.2.2.2.2.2.2.1) := hD
      refine lv_iload_n hx hb dX11_hangs_57 rfl (lv_at hl 0 rfl) ?_
      cases h
      exact hret _ _ _ _ hP hS dX11_hangs_58
    · have h := k_pos c17 h
      refine lv_iconst (v := (-1)) hx hb dX11_hangs_20 (by decide) ?_
      cases h
      exact hret _ _ _ _ hP hS dX11_hangs_21
abbrev rm_X11_days : Room := { frames := 5, cells := 0, slots := 0, locals := 128 }
set_option maxHeartbeats 4000000 in
set_option maxRecDepth 100000 in
theorem c_PL_days (l : Launch) (D : va_G) (cI cM cS cJ : ClassId) (aV : Nat → Nat) (aN : Nat → Nat) (aS : Nat → Nat) (aT : Nat → Nat) (aW : Nat → Nat) (aK : Nat → Nat) (sz : Nat) (x1 : Int32) (v_hasImage : Int32) (nS : CS) {o : (Int32) × (CS)} (hsem : S_PL_days x1 nS = some o) : kMet l yX11_days wsX11_days rm_X11_days [.ref (aV 0), .int x1] D (kT cI cM cS cJ) (Wd26 cI cM aV aN aS aT aW aK v_hasImage nS.1 nS.2.1 nS.2.2.1 nS.2.2.2.1 nS.2.2.2.2.1 nS.2.2.2.2.2.1 nS.2.2.2.2.2.2.1 nS.2.2.2.2.2.2.2.1 nS.2.2.2.2.2.2.2.2.1 nS.2.2.2.2.2.2.2.2.2.1) sz (some (.int o.1)) (Wd26 cI cM aV aN aS aT aW aK v_hasImage o.2.1 o.2.2.1 o.2.2.2.1 o.2.2.2.2.1 o.2.2.2.2.2.1 o.2.2.2.2.2.2.1 o.2.2.2.2.2.2.2.1 o.2.2.2.2.2.2.2.2.1 o.2.2.2.2.2.2.2.2.2.1 o.2.2.2.2.2.2.2.2.2.2.1) := by
  refine k_metI (by decide) rfl rfl (Nat.le_of_ble_eq_true rfl) ?_
  intro p e s m below meth c ls Q A hx hb hml hts hown hK hN hA hP hD hS hl hsz hnm hret
  have hown : s.vm.findClass RX11 = some m.cls := hown
  have hf36 := hts (.fieldLink RX11 36 "PlumbLine" "now" "LPlumbLine$City;") (List.mem_of_getElem? (i := 1) rfl)
  have hf148 := hts (.fieldLink RX11 148 "PlumbLine$City" "day" "I") (List.mem_of_getElem? (i := 2) rfl)
  have hiX11 : ∀ w ∈ u_ws RX11 TX11 6, w ∈ wsX11_days := fun w h => List.mem_cons_of_mem _ (List.mem_append_left _ (List.mem_append_right _ h))
  have hiX2 : ∀ w ∈ u_ws RX2 TX2 12, w ∈ wsX11_days := fun w h => List.mem_cons_of_mem _ (List.mem_append_right _ h)
  replace hl : lv_has ls 2 [(0, .ref (aV 0)), (1, .int x1)] := hl
  have h := hsem
  clear hsem
  rw [S_PL_days] at h
  refine lv_iload_n hx hb dX11_days_0 rfl (lv_at hl 1 rfl) ?_
  refine lv_iconst (v := 1) hx hb dX11_days_1 (by decide) ?_
  refine lv_bipush (v := 60) hx hb dX11_days_2 (by decide) ?_
  refine k_callS (As := [.int x1, .int 1, .int 60]) (rest := []) (st1 := [.int (S_PL_isIn x1 1 60)]) (ws2 := (Wd26 cI cM aV aN aS aT aW aK v_hasImage nS.1 nS.2.1 nS.2.2.1 nS.2.2.2.1 nS.2.2.2.2.1 nS.2.2.2.2.2.1 nS.2.2.2.2.2.2.1 nS.2.2.2.2.2.2.2.1 nS.2.2.2.2.2.2.2.2.1 nS.2.2.2.2.2.2.2.2.2.1)) hx hb hml hown hts hK hN hA hP hD hS hl (c_PL_isIn l D cI cM cS cJ s.heap.size x1 1 60 rfl) gX11_days_X11_isIn rfl kdS_X11_isIn [] ⟨rfl, rfl⟩ ⟨Nat.le_of_ble_eq_true rfl, Nat.le_of_ble_eq_true rfl⟩ ⟨Nat.zero_le _, Nat.zero_le _⟩ rfl rfl (by decide +kernel) rfl rfl rfl (Nat.le_of_ble_eq_true rfl) dX11_days_4 rfl (fun H locs hP hD hS => ?_)
  refine lv_if_ne (tgt := 12) hx hb dX11_days_7 (by decide) (fun c7 => ?_) (fun c7 => ?_)
  · have h := k_neg c7 h
    refine lv_aload_n hx hb dX11_days_12 rfl (lv_at hl 0 rfl) ?_
    refine va_get (D := D) (ci := 11) (v := .ref (aN 0)) (C := RX11) (T := TX11) (N := 6) hx hb hts hiX11 hown hK hP 0 rfl rfl 0 (by decide) hf36 (fun _ z => z) rfl dX11_days_13 ?_
    refine va_get (D := D) (ci := 2) (v := .int nS.2.2.2.2.2.1) (C := RX2) (T := TX2) (N := 12) hx hb hts hiX2 hown hK hP 1 rfl rfl 8 (by decide) hf148 (fun _ z => z) rfl dX11_days_16 ?_
    refine lv_iload_n hx hb dX11_days_19 rfl (lv_at hl 1 rfl) ?_
    refine lv_iadd hx hb dX11_days_20 ?_
    refine lv_sipush (v := 999) hx hb dX11_days_21 (by decide) ?_
    refine lv_icmp_le (tgt := 30) hx hb dX11_days_24 (by decide) (fun c24 => ?_) (fun c24 => ?_)
    · have h := k_pos c24 h
      refine lv_aload_n hx hb dX11_days_30 rfl (lv_at hl 0 rfl) ?_
      refine va_get (D := D) (ci := 11) (v := .ref (aN 0)) (C := RX11) (T := TX11) (N := 6) hx hb hts hiX11 hown hK hP 0 rfl rfl 0 (by decide) hf36 (fun _ z => z) rfl dX11_days_31 ?_
      refine lv_iload_n hx hb dX11_days_34 rfl (lv_at hl 1 rfl) ?_
      obtain ⟨r35, g35, h⟩ := k_bind h
      refine k_callV (As := [.int x1]) (rest := []) (st1 := [.int r35.1]) (ws2 := (Wd26 cI cM aV aN aS aT aW aK v_hasImage nS.1 nS.2.1 r35.2.1 r35.2.2.1 r35.2.2.2.1 r35.2.2.2.2.1 r35.2.2.2.2.2.1 nS.2.2.2.2.2.2.2.1 nS.2.2.2.2.2.2.2.2.1 r35.2.2.2.2.2.2)) hx hb hml hown hts hK hN hA hP hD hS hl (c_City_passDays l D cI cM cS cJ aN aK H.size x1 nS.1 nS.2.1 nS.2.2.1 nS.2.2.2.1 nS.2.2.2.2.1 nS.2.2.2.2.2.1 nS.2.2.2.2.2.2.1 nS.2.2.2.2.2.2.2.1 nS.2.2.2.2.2.2.2.2.1 nS.2.2.2.2.2.2.2.2.2.1 g35) gX11_days_X2_passDays rfl kdV_X2_passDays 0 2 rfl rfl rfl [1, 2, 3, 4, 5, 6, 7, 8, 9, 10, 11, 12, 13] ⟨rfl, rfl⟩ ⟨Nat.le_of_ble_eq_true rfl, Nat.le_of_ble_eq_true rfl⟩ ⟨Nat.zero_le _, Nat.zero_le _⟩ rfl rfl (by decide +kernel) rfl rfl rfl (Nat.le_of_ble_eq_true rfl) dX11_days_35 rfl (fun H locs hP hD hS => ?_)
      refine lv_pop hx hb dX11_days_38 rfl ?_
      refine lv_aload_n hx hb dX11_days_39 rfl (lv_at hl 0 rfl) ?_
      refine va_get (D := D) (ci := 11) (v := .ref (aN 0)) (C := RX11) (T := TX11) (N := 6) hx hb hts hiX11 hown hK hP 0 rfl rfl 0 (by decide) hf36 (fun _ z => z) rfl dX11_days_40 ?_
      obtain ⟨r43, g43, h⟩ := k_bind h
      refine k_callV (As := []) (rest := []) (st1 := [.int r43]) (ws2 := (Wd26 cI cM aV aN aS aT aW aK v_hasImage nS.1 nS.2.1 r35.2.1 r35.2.2.1 r35.2.2.2.1 r35.2.2.2.2.1 r35.2.2.2.2.2.1 nS.2.2.2.2.2.2.2.1 nS.2.2.2.2.2.2.2.2.1 r35.2.2.2.2.2.2)) hx hb hml hown hts hK hN hA hP hD hS hl (c_City_upright l D cI cM cS cJ aN aK H.size nS.1 nS.2.1 r35.2.1 r35.2.2.1 r35.2.2.2.1 r35.2.2.2.2.1 r35.2.2.2.2.2.1 nS.2.2.2.2.2.2.2.1 nS.2.2.2.2.2.2.2.2.1 r35.2.2.2.2.2.2 g43) gX11_days_X2_upright rfl kdV_X2_upright 0 2 rfl rfl rfl [1, 2, 3, 4, 5, 6, 7, 8, 9, 10, 11, 12, 13] ⟨rfl, rfl⟩ ⟨Nat.le_of_ble_eq_true rfl, Nat.le_of_ble_eq_true rfl⟩ ⟨Nat.zero_le _, Nat.zero_le _⟩ rfl rfl (by decide +kernel) rfl rfl rfl (Nat.le_of_ble_eq_true rfl) dX11_days_43 rfl (fun H locs hP hD hS => ?_)
      refine k_callS (As := [.int r43]) (rest := []) (st1 := [.int (S_J_bitCount r43)]) (ws2 := (Wd26 cI cM aV aN aS aT aW aK v_hasImage nS.1 nS.2.1 r35.2.1 r35.2.2.1 r35.2.2.2.1 r35.2.2.2.2.1 r35.2.2.2.2.2.1 nS.2.2.2.2.2.2.2.1 nS.2.2.2.2.2.2.2.2.1 r35.2.2.2.2.2.2)) hx hb hml hown hts hK hN hA hP hD hS hl (c_J_bitCount l D cI cM cS cJ H.size r43 rfl) gX11_days_J6_bitCount_0f7a4 rfl kdS_J6_bitCount_0f7a4 [] ⟨rfl, rfl⟩ ⟨Nat.le_of_ble_eq_true rfl, Nat.le_of_ble_eq_true rfl⟩ ⟨Nat.zero_le _, Nat.zero_le _⟩ rfl rfl (by decide +kernel) rfl rfl rfl (Nat.le_of_ble_eq_true rfl) dX11_days_46 rfl (fun H locs hP hD hS => ?_)
      cases h
      exact hret _ _ _ _ hP hS dX11_days_49
    · have h := k_neg c24 h
      refine lv_bipush (v := (-3)) hx hb dX11_days_27 (by decide) ?_
      cases h
      exact hret _ _ _ _ hP hS dX11_days_29
  · have h := k_pos c7 h
    refine lv_iconst (v := (-1)) hx hb dX11_days_10 (by decide) ?_
    cases h
    exact hret _ _ _ _ hP hS dX11_days_11
abbrev Wd29 (cI : ClassId) (cM : ClassId) (aV : Nat → Nat) (aN : Nat → Nat) (aS : Nat → Nat) (aT : Nat → Nat) (aW : Nat → Nat) (aM : Nat → Nat) (aK : Nat → Nat) (v_hasImage : Int32) (n_men : Int32) (n_propped : Int32) (n_place : Int32) (n_swings : Int32) (n_crashes : Int32) (n_day : Int32) (n_crashedToday : Int32) (n_kind : Nat → Int32) (n_figure : Nat → Int32) (n_lean : Nat → Int32) (m_men : Int32) (m_propped : Int32) (m_place : Int32) (m_swings : Int32) (m_crashes : Int32) (m_day : Int32) (m_crashedToday : Int32) (m_kind : Nat → Int32) (m_figure : Nat → Int32) (m_lean : Nat → Int32) : va_W := [((aV 0), .inr (11, [.ref (aN 0), .ref (aS 0), .ref (aT 0), .ref (aW 0), .ref (aV 1), .int v_hasImage])), ((aN 0), .inr (2, [.ref (aN 1), .ref (aN 2), .ref (aN 3), .int n_men, .int n_propped, .int n_place, .int n_swings, .int n_crashes, .int n_day, .int n_crashedToday, .ref (aK 8), .ref (aN 4)])), ((aN 1), .inl (cI, 8, .inl n_kind)), ((aN 2), .inl (cI, 8, .inl n_figure)), ((aN 3), .inl (cI, 8, .inl n_lean)), ((aW 0), .inr (5, [.ref (aN 0), .ref (aM 0), .ref (aW 1), .ref (aW 2), .ref (aW 3)])), ((aM 0), .inr (2, [.ref (aM 1), .ref (aM 2), .ref (aM 3), .int m_men, .int m_propped, .int m_place, .int m_swings, .int m_crashes, .int m_day, .int m_crashedToday, .ref (aK 8), .ref (aM 4)])), ((aM 1), .inl (cI, 8, .inl m_kind)), ((aM 2), .inl (cI, 8, .inl m_figure)), ((aM 3), .inl (cI, 8, .inl m_lean)), ((aK 8), .inl (cM, 8, .inr (.inr (.inr (.inr (fun k => some (aK k))))))), ((aK 0), .inr (4, [])), ((aK 1), .inr (0, [])), ((aK 2), .inr (7, [])), ((aK 3), .inr (3, [])), ((aK 4), .inr (1, [])), ((aK 5), .inr (8, [])), ((aK 6), .inr (10, [])), ((aK 7), .inr (6, []))]
abbrev rm_X11_leanThen : Room := { frames := 6, cells := 0, slots := 0, locals := 149 }
set_option maxHeartbeats 4000000 in
set_option maxRecDepth 100000 in
theorem c_PL_leanThen (l : Launch) (D : va_G) (cI cM cS cJ : ClassId) (aV : Nat → Nat) (aN : Nat → Nat) (aS : Nat → Nat) (aT : Nat → Nat) (aW : Nat → Nat) (aM : Nat → Nat) (aK : Nat → Nat) (sz : Nat) (x1 : Int32) (x2 : Int32) (v_hasImage : Int32) (nS : CS) (mS : CS) {o : (Int32) × (CS)} (hsem : S_PL_leanThen x1 x2 nS mS = some o) : kMet l yX11_leanThen wsX11_leanThen rm_X11_leanThen [.ref (aV 0), .int x1, .int x2] D (kT cI cM cS cJ) (Wd29 cI cM aV aN aS aT aW aM aK v_hasImage nS.1 nS.2.1 nS.2.2.1 nS.2.2.2.1 nS.2.2.2.2.1 nS.2.2.2.2.2.1 nS.2.2.2.2.2.2.1 nS.2.2.2.2.2.2.2.1 nS.2.2.2.2.2.2.2.2.1 nS.2.2.2.2.2.2.2.2.2.1 mS.1 mS.2.1 mS.2.2.1 mS.2.2.2.1 mS.2.2.2.2.1 mS.2.2.2.2.2.1 mS.2.2.2.2.2.2.1 mS.2.2.2.2.2.2.2.1 mS.2.2.2.2.2.2.2.2.1 mS.2.2.2.2.2.2.2.2.2.1) sz (some (.int o.1)) (Wd29 cI cM aV aN aS aT aW aM aK v_hasImage nS.1 nS.2.1 nS.2.2.1 nS.2.2.2.1 nS.2.2.2.2.1 nS.2.2.2.2.2.1 nS.2.2.2.2.2.2.1 nS.2.2.2.2.2.2.2.1 nS.2.2.2.2.2.2.2.2.1 nS.2.2.2.2.2.2.2.2.2.1 o.2.1 o.2.2.1 o.2.2.2.1 o.2.2.2.2.1 o.2.2.2.2.2.1 o.2.2.2.2.2.2.1 o.2.2.2.2.2.2.2.1 o.2.2.2.2.2.2.2.2.1 o.2.2.2.2.2.2.2.2.2.1 o.2.2.2.2.2.2.2.2.2.2.1) := by
  refine k_metI (by decide) rfl rfl (Nat.le_of_ble_eq_true rfl) ?_
  intro p e s m below meth c ls Q A hx hb hml hts hown hK hN hA hP hD hS hl hsz hnm hret
  have hown : s.vm.findClass RX11 = some m.cls := hown
  have hf36 := hts (.fieldLink RX11 36 "PlumbLine" "now" "LPlumbLine$City;") (List.mem_of_getElem? (i := 1) rfl)
  have hf53 := hts (.fieldLink RX11 53 "PlumbLine" "mind" "LPlumbLine$Mind;") (List.mem_of_getElem? (i := 3) rfl)
  have hf99 := hts (.fieldLink RX11 99 "PlumbLine$City" "lean" "[I") (List.mem_of_getElem? (i := 4) rfl)
  have hiX11 : ∀ w ∈ u_ws RX11 TX11 6, w ∈ wsX11_leanThen := fun w h => List.mem_cons_of_mem _ (List.mem_append_left _ (List.mem_append_left _ (List.mem_append_right _ h)))
  have hiX2 : ∀ w ∈ u_ws RX2 TX2 12, w ∈ wsX11_leanThen := fun w h => List.mem_cons_of_mem _ (List.mem_append_left _ (List.mem_append_right _ h))
  replace hl : lv_has ls 3 [(0, .ref (aV 0)), (1, .int x1), (2, .int x2)] := hl
  have h := hsem
  clear hsem
  rw [S_PL_leanThen] at h
  refine lv_aload_n hx hb dX11_leanThen_0 rfl (lv_at hl 0 rfl) ?_
  refine va_get (D := D) (ci := 11) (v := .ref (aN 0)) (C := RX11) (T := TX11) (N := 6) hx hb hts hiX11 hown hK hP 0 rfl rfl 0 (by decide) hf36 (fun _ z => z) rfl dX11_leanThen_1 ?_
  refine lv_iload_n hx hb dX11_leanThen_4 rfl (lv_at hl 1 rfl) ?_
  refine k_callV (As := [.int x1]) (rest := []) (st1 := [.int (S_City_has x1 nS.1)]) (ws2 := (Wd29 cI cM aV aN aS aT aW aM aK v_hasImage nS.1 nS.2.1 nS.2.2.1 nS.2.2.2.1 nS.2.2.2.2.1 nS.2.2.2.2.2.1 nS.2.2.2.2.2.2.1 nS.2.2.2.2.2.2.2.1 nS.2.2.2.2.2.2.2.2.1 nS.2.2.2.2.2.2.2.2.2.1 mS.1 mS.2.1 mS.2.2.1 mS.2.2.2.1 mS.2.2.2.2.1 mS.2.2.2.2.2.1 mS.2.2.2.2.2.2.1 mS.2.2.2.2.2.2.2.1 mS.2.2.2.2.2.2.2.2.1 mS.2.2.2.2.2.2.2.2.2.1)) hx hb hml hown hts hK hN hA hP hD hS hl (c_City_has l D cI cM cS cJ aN aK s.heap.size x1 nS.1 nS.2.1 nS.2.2.1 nS.2.2.2.1 nS.2.2.2.2.1 nS.2.2.2.2.2.1 nS.2.2.2.2.2.2.1 rfl) gX11_leanThen_X2_has rfl kdV_X2_has 0 2 rfl rfl rfl [1] ⟨rfl, rfl⟩ ⟨Nat.le_of_ble_eq_true rfl, Nat.le_of_ble_eq_true rfl⟩ ⟨Nat.zero_le _, Nat.zero_le _⟩ rfl rfl (by decide +kernel) rfl rfl rfl (Nat.le_of_ble_eq_true rfl) dX11_leanThen_5 rfl (fun H locs hP hD hS => ?_)
  refine lv_if_eq (tgt := 21) hx hb dX11_leanThen_8 (by decide) (fun c8 => ?_) (fun c8 => ?_)
  · have h := k_pos c8 h
    refine lv_ldc (v := 1000000001) hx hb hown (hts (.constant RX11 102 1000000001) (List.mem_of_getElem? (i := 2) rfl)) dX11_leanThen_21 ?_
    cases h
    exact hret _ _ _ _ hP hS dX11_leanThen_23
  · have h := k_neg c8 h
    refine lv_iload_n hx hb dX11_leanThen_11 rfl (lv_at hl 2 rfl) ?_
    refine lv_iconst (v := 0) hx hb dX11_leanThen_12 (by decide) ?_
    refine lv_bipush (v := 60) hx hb dX11_leanThen_13 (by decide) ?_
    refine k_callS (As := [.int x2, .int 0, .int 60]) (rest := []) (st1 := [.int (S_PL_isIn x2 0 60)]) (ws2 := (Wd29 cI cM aV aN aS aT aW aM aK v_hasImage nS.1 nS.2.1 nS.2.2.1 nS.2.2.2.1 nS.2.2.2.2.1 nS.2.2.2.2.2.1 nS.2.2.2.2.2.2.1 nS.2.2.2.2.2.2.2.1 nS.2.2.2.2.2.2.2.2.1 nS.2.2.2.2.2.2.2.2.2.1 mS.1 mS.2.1 mS.2.2.1 mS.2.2.2.1 mS.2.2.2.2.1 mS.2.2.2.2.2.1 mS.2.2.2.2.2.2.1 mS.2.2.2.2.2.2.2.1 mS.2.2.2.2.2.2.2.2.1 mS.2.2.2.2.2.2.2.2.2.1)) hx hb hml hown hts hK hN hA hP hD hS hl (c_PL_isIn l D cI cM cS cJ H.size x2 0 60 rfl) gX11_leanThen_X11_isIn rfl kdS_X11_isIn [] ⟨rfl, rfl⟩ ⟨Nat.le_of_ble_eq_true rfl, Nat.le_of_ble_eq_true rfl⟩ ⟨Nat.zero_le _, Nat.zero_le _⟩ rfl rfl (by decide +kernel) rfl rfl rfl (Nat.le_of_ble_eq_true rfl) dX11_leanThen_15 rfl (fun H locs hP hD hS => ?_)
    refine lv_if_ne (tgt := 24) hx hb dX11_leanThen_18 (by decide) (fun c18 => ?_) (fun c18 => ?_)
    · have h := k_neg c18 h
      refine lv_aload_n hx hb dX11_leanThen_24 rfl (lv_at hl 0 rfl) ?_
      refine va_get (D := D) (ci := 11) (v := .ref (aW 0)) (C := RX11) (T := TX11) (N := 6) hx hb hts hiX11 hown hK hP 0 rfl rfl 3 (by decide) hf53 (fun _ z => z) rfl dX11_leanThen_25 ?_
      refine lv_iload_n hx hb dX11_leanThen_28 rfl (lv_at hl 2 rfl) ?_
      obtain ⟨r29, g29, h⟩ := k_bind h
      refine k_callV (As := [.int x2]) (rest := []) (st1 := [.ref (aM 0)]) (ws2 := (Wd29 cI cM aV aN aS aT aW aM aK v_hasImage nS.1 nS.2.1 nS.2.2.1 nS.2.2.2.1 nS.2.2.2.2.1 nS.2.2.2.2.2.1 nS.2.2.2.2.2.2.1 nS.2.2.2.2.2.2.2.1 nS.2.2.2.2.2.2.2.2.1 nS.2.2.2.2.2.2.2.2.2.1 r29.1 r29.2.1 r29.2.2.1 r29.2.2.2.1 r29.2.2.2.2.1 r29.2.2.2.2.2.1 r29.2.2.2.2.2.2.1 r29.2.2.2.2.2.2.2.1 r29.2.2.2.2.2.2.2.2.1 r29.2.2.2.2.2.2.2.2.2.1)) hx hb hml hown hts hK hN hA hP hD hS hl (c_Mind_after l D cI cM cS cJ aN aW aM aK H.size x2 nS mS g29) gX11_leanThen_X5_after rfl kdV_X5_after 0 5 rfl rfl rfl [5, 1, 2, 3, 4, 6, 7, 8, 9, 10, 11, 12, 13, 14, 15, 16, 17, 18] ⟨rfl, rfl⟩ ⟨Nat.le_of_ble_eq_true rfl, Nat.le_of_ble_eq_true rfl⟩ ⟨Nat.zero_le _, Nat.zero_le _⟩ rfl rfl (by decide +kernel) rfl rfl rfl (Nat.le_of_ble_eq_true rfl) dX11_leanThen_29 rfl (fun H locs hP hD hS => ?_)
      refine va_get (D := D) (ci := 2) (v := .ref (aM 3)) (C := RX2) (T := TX2) (N := 12) hx hb hts hiX2 hown hK hP 6 rfl rfl 2 (by decide) hf99 (fun _ z => z) rfl dX11_leanThen_32 ?_
      refine lv_iload_n hx hb dX11_leanThen_35 rfl (lv_at hl 1 rfl) ?_
      obtain ⟨g36, h⟩ := k_guard h
      refine va_iald hx hb hK hP 9 0 rfl rfl g36 dX11_leanThen_36 ?_
      cases h
      exact hret _ _ _ _ hP hS dX11_leanThen_37
    · have h := k_pos c18 h
      refine lv_ldc (v := 1000000001) hx hb hown (hts (.constant RX11 102 1000000001) (List.mem_of_getElem? (i := 2) rfl)) dX11_leanThen_21 ?_
      cases h
      exact hret _ _ _ _ hP hS dX11_leanThen_23
abbrev rm_X11_then : Room := { frames := 6, cells := 0, slots := 0, locals := 149 }
set_option maxHeartbeats 4000000 in
set_option maxRecDepth 100000 in
theorem c_PL_then (l : Launch) (D : va_G) (cI cM cS cJ : ClassId) (aV : Nat → Nat) (aN : Nat → Nat) (aS : Nat → Nat) (aT : Nat → Nat) (aW : Nat → Nat) (aM : Nat → Nat) (aK : Nat → Nat) (sz : Nat) (x1 : Int32) (x2 : Int32) (v_hasImage : Int32) (nS : CS) (mS : CS) {o : (Int32) × (CS)} (hsem : S_PL_then x1 x2 nS mS = some o) : kMet l yX11_then wsX11_then rm_X11_then [.ref (aV 0), .int x1, .int x2] D (kT cI cM cS cJ) (Wd29 cI cM aV aN aS aT aW aM aK v_hasImage nS.1 nS.2.1 nS.2.2.1 nS.2.2.2.1 nS.2.2.2.2.1 nS.2.2.2.2.2.1 nS.2.2.2.2.2.2.1 nS.2.2.2.2.2.2.2.1 nS.2.2.2.2.2.2.2.2.1 nS.2.2.2.2.2.2.2.2.2.1 mS.1 mS.2.1 mS.2.2.1 mS.2.2.2.1 mS.2.2.2.2.1 mS.2.2.2.2.2.1 mS.2.2.2.2.2.2.1 mS.2.2.2.2.2.2.2.1 mS.2.2.2.2.2.2.2.2.1 mS.2.2.2.2.2.2.2.2.2.1) sz (some (.int o.1)) (Wd29 cI cM aV aN aS aT aW aM aK v_hasImage nS.1 nS.2.1 nS.2.2.1 nS.2.2.2.1 nS.2.2.2.2.1 nS.2.2.2.2.2.1 nS.2.2.2.2.2.2.1 nS.2.2.2.2.2.2.2.1 nS.2.2.2.2.2.2.2.2.1 nS.2.2.2.2.2.2.2.2.2.1 o.2.1 o.2.2.1 o.2.2.2.1 o.2.2.2.2.1 o.2.2.2.2.2.1 o.2.2.2.2.2.2.1 o.2.2.2.2.2.2.2.1 o.2.2.2.2.2.2.2.2.1 o.2.2.2.2.2.2.2.2.2.1 o.2.2.2.2.2.2.2.2.2.2.1) := by
  refine k_metI (by decide) rfl rfl (Nat.le_of_ble_eq_true rfl) ?_
  intro p e s m below meth c ls Q A hx hb hml hts hown hK hN hA hP hD hS hl hsz hnm hret
  have hown : s.vm.findClass RX11 = some m.cls := hown
  have hf53 := hts (.fieldLink RX11 53 "PlumbLine" "mind" "LPlumbLine$Mind;") (List.mem_of_getElem? (i := 1) rfl)
  have hf145 := hts (.fieldLink RX11 145 "PlumbLine$City" "place" "I") (List.mem_of_getElem? (i := 2) rfl)
  have hf142 := hts (.fieldLink RX11 142 "PlumbLine$City" "swings" "I") (List.mem_of_getElem? (i := 3) rfl)
  have hf166 := hts (.fieldLink RX11 166 "PlumbLine$City" "crashes" "I") (List.mem_of_getElem? (i := 4) rfl)
  have hiX11 : ∀ w ∈ u_ws RX11 TX11 6, w ∈ wsX11_then := fun w h => List.mem_cons_of_mem _ (List.mem_append_left _ (List.mem_append_left _ (List.mem_append_right _ h)))
  have hiX2 : ∀ w ∈ u_ws RX2 TX2 12, w ∈ wsX11_then := fun w h => List.mem_cons_of_mem _ (List.mem_append_left _ (List.mem_append_right _ h))
  replace hl : lv_has ls 4 [(0, .ref (aV 0)), (1, .int x1), (2, .int x2)] := hl
  have h := hsem
  clear hsem
  rw [S_PL_then] at h
  refine lv_iload_n hx hb dX11_then_0 rfl (lv_at hl 1 rfl) ?_
  refine lv_iconst (v := 0) hx hb dX11_then_1 (by decide) ?_
  refine lv_bipush (v := 60) hx hb dX11_then_2 (by decide) ?_
  refine k_callS (As := [.int x1, .int 0, .int 60]) (rest := []) (st1 := [.int (S_PL_isIn x1 0 60)]) (ws2 := (Wd29 cI cM aV aN aS aT aW aM aK v_hasImage nS.1 nS.2.1 nS.2.2.1 nS.2.2.2.1 nS.2.2.2.2.1 nS.2.2.2.2.2.1 nS.2.2.2.2.2.2.1 nS.2.2.2.2.2.2.2.1 nS.2.2.2.2.2.2.2.2.1 nS.2.2.2.2.2.2.2.2.2.1 mS.1 mS.2.1 mS.2.2.1 mS.2.2.2.1 mS.2.2.2.2.1 mS.2.2.2.2.2.1 mS.2.2.2.2.2.2.1 mS.2.2.2.2.2.2.2.1 mS.2.2.2.2.2.2.2.2.1 mS.2.2.2.2.2.2.2.2.2.1)) hx hb hml hown hts hK hN hA hP hD hS hl (c_PL_isIn l D cI cM cS cJ s.heap.size x1 0 60 rfl) gX11_then_X11_isIn rfl kdS_X11_isIn [] ⟨rfl, rfl⟩ ⟨Nat.le_of_ble_eq_true rfl, Nat.le_of_ble_eq_true rfl⟩ ⟨Nat.zero_le _, Nat.zero_le _⟩ rfl rfl (by decide +kernel) rfl rfl rfl (Nat.le_of_ble_eq_true rfl) dX11_then_4 rfl (fun H locs hP hD hS => ?_)
  refine lv_if_eq (tgt := 19) hx hb dX11_then_7 (by decide) (fun c7 => ?_) (fun c7 => ?_)
  · have h := k_pos c7 h
    refine lv_iconst (v := (-1)) hx hb dX11_then_19 (by decide) ?_
    cases h
    exact hret _ _ _ _ hP hS dX11_then_20
  · have h := k_neg c7 h
    refine lv_iload_n hx hb dX11_then_10 rfl (lv_at hl 2 rfl) ?_
    refine lv_iconst (v := 0) hx hb dX11_then_11 (by decide) ?_
    refine lv_iconst (v := 3) hx hb dX11_then_12 (by decide) ?_
    refine k_callS (As := [.int x2, .int 0, .int 3]) (rest := []) (st1 := [.int (S_PL_isIn x2 0 3)]) (ws2 := (Wd29 cI cM aV aN aS aT aW aM aK v_hasImage nS.1 nS.2.1 nS.2.2.1 nS.2.2.2.1 nS.2.2.2.2.1 nS.2.2.2.2.2.1 nS.2.2.2.2.2.2.1 nS.2.2.2.2.2.2.2.1 nS.2.2.2.2.2.2.2.2.1 nS.2.2.2.2.2.2.2.2.2.1 mS.1 mS.2.1 mS.2.2.1 mS.2.2.2.1 mS.2.2.2.2.1 mS.2.2.2.2.2.1 mS.2.2.2.2.2.2.1 mS.2.2.2.2.2.2.2.1 mS.2.2.2.2.2.2.2.2.1 mS.2.2.2.2.2.2.2.2.2.1)) hx hb hml hown hts hK hN hA hP hD hS hl (c_PL_isIn l D cI cM cS cJ H.size x2 0 3 rfl) gX11_then_X11_isIn rfl kdS_X11_isIn [] ⟨rfl, rfl⟩ ⟨Nat.le_of_ble_eq_true rfl, Nat.le_of_ble_eq_true rfl⟩ ⟨Nat.zero_le _, Nat.zero_le _⟩ rfl rfl (by decide +kernel) rfl rfl rfl (Nat.le_of_ble_eq_true rfl) dX11_then_13 rfl (fun H locs hP hD hS => ?_)
    refine lv_if_ne (tgt := 21) hx hb dX11_then_16 (by decide) (fun c16 => ?_) (fun c16 => ?_)
    · have h := k_neg c16 h
      refine lv_aload_n hx hb dX11_then_21 rfl (lv_at hl 0 rfl) ?_
      refine va_get (D := D) (ci := 11) (v := .ref (aW 0)) (C := RX11) (T := TX11) (N := 6) hx hb hts hiX11 hown hK hP 0 rfl rfl 3 (by decide) hf53 (fun _ z => z) rfl dX11_then_22 ?_
      refine lv_iload_n hx hb dX11_then_25 rfl (lv_at hl 1 rfl) ?_
      obtain ⟨r26, g26, h⟩ := k_bind h
      refine k_callV (As := [.int x1]) (rest := []) (st1 := [.ref (aM 0)]) (ws2 := (Wd29 cI cM aV aN aS aT aW aM aK v_hasImage nS.1 nS.2.1 nS.2.2.1 nS.2.2.2.1 nS.2.2.2.2.1 nS.2.2.2.2.2.1 nS.2.2.2.2.2.2.1 nS.2.2.2.2.2.2.2.1 nS.2.2.2.2.2.2.2.2.1 nS.2.2.2.2.2.2.2.2.2.1 r26.1 r26.2.1 r26.2.2.1 r26.2.2.2.1 r26.2.2.2.2.1 r26.2.2.2.2.2.1 r26.2.2.2.2.2.2.1 r26.2.2.2.2.2.2.2.1 r26.2.2.2.2.2.2.2.2.1 r26.2.2.2.2.2.2.2.2.2.1)) hx hb hml hown hts hK hN hA hP hD hS hl (c_Mind_after l D cI cM cS cJ aN aW aM aK H.size x1 nS mS g26) gX11_then_X5_after rfl kdV_X5_after 0 5 rfl rfl rfl [5, 1, 2, 3, 4, 6, 7, 8, 9, 10, 11, 12, 13, 14, 15, 16, 17, 18] ⟨rfl, rfl⟩ ⟨Nat.le_of_ble_eq_true rfl, Nat.le_of_ble_eq_true rfl⟩ ⟨Nat.zero_le _, Nat.zero_le _⟩ rfl rfl (by decide +kernel) rfl rfl rfl (Nat.le_of_ble_eq_true rfl) dX11_then_26 rfl (fun H locs hP hD hS => ?_)
      refine lv_astore_n (lv' := [(3, .ref (aM 0)), (0, .ref (aV 0)), (1, .int x1), (2, .int x2)]) hx hb dX11_then_29 rfl hl (by decide) rfl (fun ls hl => ?_)
      refine lv_iload_n hx hb dX11_then_30 rfl (lv_at hl 3 rfl) ?_
      by_cases s31_0 : x2 = 0
      · refine k_tblI (tgt := 56) (v := 0) hx hb dX11_then_31 s31_0 (by decide) (by decide) rfl (by decide) ?_
        have h := k_pos s31_0 h
        refine lv_aload_n hx hb dX11_then_56 rfl (lv_at hl 0 rfl) ?_
        refine va_get (D := D) (ci := 2) (v := .int r26.2.2.1) (C := RX2) (T := TX2) (N := 12) hx hb hts hiX2 hown hK hP 6 rfl rfl 5 (by decide) hf145 (fun _ z => z) rfl dX11_then_57 ?_
        cases h
        exact hret _ _ _ _ hP hS dX11_then_60
      · have h := k_neg s31_0 h
        by_cases s31_1 : x2 = 1
        · refine k_tblI (tgt := 61) (v := 1) hx hb dX11_then_31 s31_1 (by decide) (by decide) rfl (by decide) ?_
          have h := k_pos s31_1 h
          refine lv_aload_n hx hb dX11_then_61 rfl (lv_at hl 0 rfl) ?_
          refine va_get (D := D) (ci := 2) (v := .int r26.2.2.2.1) (C := RX2) (T := TX2) (N := 12) hx hb hts hiX2 hown hK hP 6 rfl rfl 6 (by decide) hf142 (fun _ z => z) rfl dX11_then_62 ?_
          cases h
          exact hret _ _ _ _ hP hS dX11_then_65
        · have h := k_neg s31_1 h
          by_cases s31_2 : x2 = 2
          · refine k_tblI (tgt := 66) (v := 2) hx hb dX11_then_31 s31_2 (by decide) (by decide) rfl (by decide) ?_
            have h := k_pos s31_2 h
            refine lv_aload_n hx hb dX11_then_66 rfl (lv_at hl 0 rfl) ?_
            refine va_get (D := D) (ci := 2) (v := .int r26.2.2.2.2.1) (C := RX2) (T := TX2) (N := 12) hx hb hts hiX2 hown hK hP 6 rfl rfl 7 (by decide) hf166 (fun _ z => z) rfl dX11_then_67 ?_
            cases h
            exact hret _ _ _ _ hP hS dX11_then_70
          · have h := k_neg s31_2 h
            refine lv_tableOut (tgt := 71) hx hb dX11_then_31 (k_out [0, 1, 2] (by decide) (List.forall_mem_cons.mpr ⟨s31_0, (List.forall_mem_cons.mpr ⟨s31_1, (List.forall_mem_cons.mpr ⟨s31_2, (fun _ z => absurd z List.not_mem_nil)⟩)⟩)⟩)) (by decide) ?_
            refine lv_aload_n hx hb dX11_then_71 rfl (lv_at hl 0 rfl) ?_
            obtain ⟨r72, g72, h⟩ := k_bind h
            refine k_callV (As := []) (rest := []) (st1 := [.int r72]) (ws2 := (Wd29 cI cM aV aN aS aT aW aM aK v_hasImage nS.1 nS.2.1 nS.2.2.1 nS.2.2.2.1 nS.2.2.2.2.1 nS.2.2.2.2.2.1 nS.2.2.2.2.2.2.1 nS.2.2.2.2.2.2.2.1 nS.2.2.2.2.2.2.2.2.1 nS.2.2.2.2.2.2.2.2.2.1 r26.1 r26.2.1 r26.2.2.1 r26.2.2.2.1 r26.2.2.2.2.1 r26.2.2.2.2.2.1 r26.2.2.2.2.2.2.1 r26.2.2.2.2.2.2.2.1 r26.2.2.2.2.2.2.2.2.1 r26.2.2.2.2.2.2.2.2.2.1)) hx hb hml hown hts hK hN hA hP hD hS hl (c_City_upright l D cI cM cS cJ aM aK H.size r26.1 r26.2.1 r26.2.2.1 r26.2.2.2.1 r26.2.2.2.2.1 r26.2.2.2.2.2.1 r26.2.2.2.2.2.2.1 r26.2.2.2.2.2.2.2.1 r26.2.2.2.2.2.2.2.2.1 r26.2.2.2.2.2.2.2.2.2.1 g72) gX11_then_X2_upright rfl kdV_X2_upright 0 2 rfl rfl rfl [6, 7, 8, 9, 10, 11, 12, 13, 14, 15, 16, 17, 18] ⟨rfl, rfl⟩ ⟨Nat.le_of_ble_eq_true rfl, Nat.le_of_ble_eq_true rfl⟩ ⟨Nat.zero_le _, Nat.zero_le _⟩ rfl rfl (by decide +kernel) rfl rfl rfl (Nat.le_of_ble_eq_true rfl) dX11_then_72 rfl (fun H locs hP hD hS => ?_)
            cases h
            exact hret _ _ _ _ hP hS dX11_then_75
    · have h := k_pos c16 h
      refine lv_iconst (v := (-1)) hx hb dX11_then_19 (by decide) ?_
      cases h
      exact hret _ _ _ _ hP hS dX11_then_20
theorem kdV_X5_daysToStraight : yX5_daysToStraight.cls = RX5 ∧ yX5_daysToStraight.cls ≠ "java/lang/invoke/MethodHandle" ∧ yX5_daysToStraight.cls ≠ "java/lang/invoke/VarHandle" ∧ (parseMethodDescriptor yX5_daysToStraight.desc).map (fun d => d.parameters.length) = some 1 := by decide +kernel
abbrev rm_X11_straight : Room := { frames := 5, cells := 0, slots := 0, locals := 127 }
set_option maxHeartbeats 4000000 in
set_option maxRecDepth 100000 in
theorem c_PL_straight (l : Launch) (D : va_G) (cI cM cS cJ : ClassId) (aV : Nat → Nat) (aN : Nat → Nat) (aS : Nat → Nat) (aT : Nat → Nat) (aW : Nat → Nat) (aM : Nat → Nat) (aK : Nat → Nat) (sz : Nat) (x1 : Int32) (v_hasImage : Int32) (nS : CS) (mS : CS) {o : (Int32) × (CS)} (hsem : S_PL_straight x1 nS mS = some o) : kMet l yX11_straight wsX11_straight rm_X11_straight [.ref (aV 0), .int x1] D (kT cI cM cS cJ) (Wd29 cI cM aV aN aS aT aW aM aK v_hasImage nS.1 nS.2.1 nS.2.2.1 nS.2.2.2.1 nS.2.2.2.2.1 nS.2.2.2.2.2.1 nS.2.2.2.2.2.2.1 nS.2.2.2.2.2.2.2.1 nS.2.2.2.2.2.2.2.2.1 nS.2.2.2.2.2.2.2.2.2.1 mS.1 mS.2.1 mS.2.2.1 mS.2.2.2.1 mS.2.2.2.2.1 mS.2.2.2.2.2.1 mS.2.2.2.2.2.2.1 mS.2.2.2.2.2.2.2.1 mS.2.2.2.2.2.2.2.2.1 mS.2.2.2.2.2.2.2.2.2.1) sz (some (.int o.1)) (Wd29 cI cM aV aN aS aT aW aM aK v_hasImage nS.1 nS.2.1 nS.2.2.1 nS.2.2.2.1 nS.2.2.2.2.1 nS.2.2.2.2.2.1 nS.2.2.2.2.2.2.1 nS.2.2.2.2.2.2.2.1 nS.2.2.2.2.2.2.2.2.1 nS.2.2.2.2.2.2.2.2.2.1 o.2.1 o.2.2.1 o.2.2.2.1 o.2.2.2.2.1 o.2.2.2.2.2.1 o.2.2.2.2.2.2.1 o.2.2.2.2.2.2.2.1 o.2.2.2.2.2.2.2.2.1 o.2.2.2.2.2.2.2.2.2.1 o.2.2.2.2.2.2.2.2.2.2.1) := by
  refine k_metI (by decide) rfl rfl (Nat.le_of_ble_eq_true rfl) ?_
  intro p e s m below meth c ls Q A hx hb hml hts hown hK hN hA hP hD hS hl hsz hnm hret
  have hown : s.vm.findClass RX11 = some m.cls := hown
  have hf36 := hts (.fieldLink RX11 36 "PlumbLine" "now" "LPlumbLine$City;") (List.mem_of_getElem? (i := 1) rfl)
  have hf53 := hts (.fieldLink RX11 53 "PlumbLine" "mind" "LPlumbLine$Mind;") (List.mem_of_getElem? (i := 2) rfl)
  have hiX11 : ∀ w ∈ u_ws RX11 TX11 6, w ∈ wsX11_straight := fun w h => List.mem_cons_of_mem _ (List.mem_append_left _ (List.mem_append_left _ (List.mem_append_right _ h)))
  replace hl : lv_has ls 2 [(0, .ref (aV 0)), (1, .int x1)] := hl
  have h := hsem
  clear hsem
  rw [S_PL_straight] at h
  refine lv_aload_n hx hb dX11_straight_0 rfl (lv_at hl 0 rfl) ?_
  refine va_get (D := D) (ci := 11) (v := .ref (aN 0)) (C := RX11) (T := TX11) (N := 6) hx hb hts hiX11 hown hK hP 0 rfl rfl 0 (by decide) hf36 (fun _ z => z) rfl dX11_straight_1 ?_
  refine lv_iload_n hx hb dX11_straight_4 rfl (lv_at hl 1 rfl) ?_
  refine k_callV (As := [.int x1]) (rest := []) (st1 := [.int (S_City_has x1 nS.1)]) (ws2 := (Wd29 cI cM aV aN aS aT aW aM aK v_hasImage nS.1 nS.2.1 nS.2.2.1 nS.2.2.2.1 nS.2.2.2.2.1 nS.2.2.2.2.2.1 nS.2.2.2.2.2.2.1 nS.2.2.2.2.2.2.2.1 nS.2.2.2.2.2.2.2.2.1 nS.2.2.2.2.2.2.2.2.2.1 mS.1 mS.2.1 mS.2.2.1 mS.2.2.2.1 mS.2.2.2.2.1 mS.2.2.2.2.2.1 mS.2.2.2.2.2.2.1 mS.2.2.2.2.2.2.2.1 mS.2.2.2.2.2.2.2.2.1 mS.2.2.2.2.2.2.2.2.2.1)) hx hb hml hown hts hK hN hA hP hD hS hl (c_City_has l D cI cM cS cJ aN aK s.heap.size x1 nS.1 nS.2.1 nS.2.2.1 nS.2.2.2.1 nS.2.2.2.2.1 nS.2.2.2.2.2.1 nS.2.2.2.2.2.2.1 rfl) gX11_straight_X2_has rfl kdV_X2_has 0 2 rfl rfl rfl [1] ⟨rfl, rfl⟩ ⟨Nat.le_of_ble_eq_true rfl, Nat.le_of_ble_eq_true rfl⟩ ⟨Nat.zero_le _, Nat.zero_le _⟩ rfl rfl (by decide +kernel) rfl rfl rfl (Nat.le_of_ble_eq_true rfl) dX11_straight_5 rfl (fun H locs hP hD hS => ?_)
  refine lv_if_eq (tgt := 22) hx hb dX11_straight_8 (by decide) (fun c8 => ?_) (fun c8 => ?_)
  · have h := k_pos c8 h
    refine lv_iconst (v := (-1)) hx hb dX11_straight_22 (by decide) ?_
    cases h
    exact hret _ _ _ _ hP hS dX11_straight_23
  · have h := k_neg c8 h
    refine lv_aload_n hx hb dX11_straight_11 rfl (lv_at hl 0 rfl) ?_
    refine va_get (D := D) (ci := 11) (v := .ref (aW 0)) (C := RX11) (T := TX11) (N := 6) hx hb hts hiX11 hown hK hP 0 rfl rfl 3 (by decide) hf53 (fun _ z => z) rfl dX11_straight_12 ?_
    refine lv_iload_n hx hb dX11_straight_15 rfl (lv_at hl 1 rfl) ?_
    obtain ⟨r16, g16, h⟩ := k_bind h
    refine k_callV (As := [.int x1]) (rest := []) (st1 := [.int r16.1]) (ws2 := (Wd29 cI cM aV aN aS aT aW aM aK v_hasImage nS.1 nS.2.1 nS.2.2.1 nS.2.2.2.1 nS.2.2.2.2.1 nS.2.2.2.2.2.1 nS.2.2.2.2.2.2.1 nS.2.2.2.2.2.2.2.1 nS.2.2.2.2.2.2.2.2.1 nS.2.2.2.2.2.2.2.2.2.1 r16.2.1 r16.2.2.1 r16.2.2.2.1 r16.2.2.2.2.1 r16.2.2.2.2.2.1 r16.2.2.2.2.2.2.1 r16.2.2.2.2.2.2.2.1 r16.2.2.2.2.2.2.2.2.1 r16.2.2.2.2.2.2.2.2.2.1 r16.2.2.2.2.2.2.2.2.2.2.1)) hx hb hml hown hts hK hN hA hP hD hS hl (c_Mind_daysToStraight l D cI cM cS cJ aN aW aM aK H.size x1 nS mS g16) gX11_straight_X5_daysToStraight rfl kdV_X5_daysToStraight 0 5 rfl rfl rfl [5, 1, 2, 3, 4, 6, 7, 8, 9, 10, 11, 12, 13, 14, 15, 16, 17, 18] ⟨rfl, rfl⟩ ⟨Nat.le_of_ble_eq_true rfl, Nat.le_of_ble_eq_true rfl⟩ ⟨Nat.zero_le _, Nat.zero_le _⟩ rfl rfl (by decide +kernel) rfl rfl rfl (Nat.le_of_ble_eq_true rfl) dX11_straight_16 rfl (fun H locs hP hD hS => ?_)
    refine lv_goto (tgt := 23) hx hb dX11_straight_19 (by decide) ?_
    cases h
    exact hret _ _ _ _ hP hS dX11_straight_23
abbrev Wd30 (cI : ClassId) (cM : ClassId) (aV : Nat → Nat) (aN : Nat → Nat) (aS : Nat → Nat) (aT : Nat → Nat) (aW : Nat → Nat) (aM : Nat → Nat) (aK : Nat → Nat) (v_hasImage : Int32) (n_men : Int32) (n_propped : Int32) (n_place : Int32) (n_swings : Int32) (n_crashes : Int32) (n_day : Int32) (n_crashedToday : Int32) (n_kind : Nat → Int32) (n_figure : Nat → Int32) (n_lean : Nat → Int32) (w_before : Nat → Int32) (m_men : Int32) (m_propped : Int32) (m_place : Int32) (m_swings : Int32) (m_crashes : Int32) (m_day : Int32) (m_crashedToday : Int32) (m_kind : Nat → Int32) (m_figure : Nat → Int32) (m_lean : Nat → Int32) : va_W := [((aV 0), .inr (11, [.ref (aN 0), .ref (aS 0), .ref (aT 0), .ref (aW 0), .ref (aV 1), .int v_hasImage])), ((aN 0), .inr (2, [.ref (aN 1), .ref (aN 2), .ref (aN 3), .int n_men, .int n_propped, .int n_place, .int n_swings, .int n_crashes, .int n_day, .int n_crashedToday, .ref (aK 8), .ref (aN 4)])), ((aN 1), .inl (cI, 8, .inl n_kind)), ((aN 2), .inl (cI, 8, .inl n_figure)), ((aN 3), .inl (cI, 8, .inl n_lean)), ((aW 0), .inr (5, [.ref (aN 0), .ref (aM 0), .ref (aW 1), .ref (aW 2), .ref (aW 3)])), ((aW 3), .inl (cI, 8, .inl w_before)), ((aM 0), .inr (2, [.ref (aM 1), .ref (aM 2), .ref (aM 3), .int m_men, .int m_propped, .int m_place, .int m_swings, .int m_crashes, .int m_day, .int m_crashedToday, .ref (aK 8), .ref (aM 4)])), ((aM 1), .inl (cI, 8, .inl m_kind)), ((aM 2), .inl (cI, 8, .inl m_figure)), ((aM 3), .inl (cI, 8, .inl m_lean)), ((aK 8), .inl (cM, 8, .inr (.inr (.inr (.inr (fun k => some (aK k))))))), ((aK 0), .inr (4, [])), ((aK 1), .inr (0, [])), ((aK 2), .inr (7, [])), ((aK 3), .inr (3, [])), ((aK 4), .inr (1, [])), ((aK 5), .inr (8, [])), ((aK 6), .inr (10, [])), ((aK 7), .inr (6, []))]
theorem kdV_X5_daysToCrash : yX5_daysToCrash.cls = RX5 ∧ yX5_daysToCrash.cls ≠ "java/lang/invoke/MethodHandle" ∧ yX5_daysToCrash.cls ≠ "java/lang/invoke/VarHandle" ∧ (parseMethodDescriptor yX5_daysToCrash.desc).map (fun d => d.parameters.length) = some 0 := by decide +kernel
theorem kdV_X5_daysToStill : yX5_daysToStill.cls = RX5 ∧ yX5_daysToStill.cls ≠ "java/lang/invoke/MethodHandle" ∧ yX5_daysToStill.cls ≠ "java/lang/invoke/VarHandle" ∧ (parseMethodDescriptor yX5_daysToStill.desc).map (fun d => d.parameters.length) = some 0 := by decide +kernel
abbrev rm_X11_crash : Room := { frames := 6, cells := 0, slots := 0, locals := 148 }
set_option maxHeartbeats 4000000 in
set_option maxRecDepth 100000 in
theorem c_PL_crash (l : Launch) (D : va_G) (cI cM cS cJ : ClassId) (aV : Nat → Nat) (aN : Nat → Nat) (aS : Nat → Nat) (aT : Nat → Nat) (aW : Nat → Nat) (aM : Nat → Nat) (aK : Nat → Nat) (sz : Nat) (x1 : Int32) (v_hasImage : Int32) (nS : CS) (w_before : Nat → Int32) (mS : CS) {o : (Int32) × (Nat → Int32) × (CS)} (hsem : S_PL_crash x1 nS w_before mS = some o) : kMet l yX11_crash wsX11_crash rm_X11_crash [.ref (aV 0), .int x1] D (kT cI cM cS cJ) (Wd30 cI cM aV aN aS aT aW aM aK v_hasImage nS.1 nS.2.1 nS.2.2.1 nS.2.2.2.1 nS.2.2.2.2.1 nS.2.2.2.2.2.1 nS.2.2.2.2.2.2.1 nS.2.2.2.2.2.2.2.1 nS.2.2.2.2.2.2.2.2.1 nS.2.2.2.2.2.2.2.2.2.1 w_before mS.1 mS.2.1 mS.2.2.1 mS.2.2.2.1 mS.2.2.2.2.1 mS.2.2.2.2.2.1 mS.2.2.2.2.2.2.1 mS.2.2.2.2.2.2.2.1 mS.2.2.2.2.2.2.2.2.1 mS.2.2.2.2.2.2.2.2.2.1) sz (some (.int o.1)) (Wd30 cI cM aV aN aS aT aW aM aK v_hasImage nS.1 nS.2.1 nS.2.2.1 nS.2.2.2.1 nS.2.2.2.2.1 nS.2.2.2.2.2.1 nS.2.2.2.2.2.2.1 nS.2.2.2.2.2.2.2.1 nS.2.2.2.2.2.2.2.2.1 nS.2.2.2.2.2.2.2.2.2.1 o.2.1 o.2.2.1 o.2.2.2.1 o.2.2.2.2.1 o.2.2.2.2.2.1 o.2.2.2.2.2.2.1 o.2.2.2.2.2.2.2.1 o.2.2.2.2.2.2.2.2.1 o.2.2.2.2.2.2.2.2.2.1 o.2.2.2.2.2.2.2.2.2.2.1 o.2.2.2.2.2.2.2.2.2.2.2.1) := by
  refine k_metI (by decide) rfl rfl (Nat.le_of_ble_eq_true rfl) ?_
  intro p e s m below meth c ls Q A hx hb hml hts hown hK hN hA hP hD hS hl hsz hnm hret
  have hown : s.vm.findClass RX11 = some m.cls := hown
  have hf53 := hts (.fieldLink RX11 53 "PlumbLine" "mind" "LPlumbLine$Mind;") (List.mem_of_getElem? (i := 1) rfl)
  have hiX11 : ∀ w ∈ u_ws RX11 TX11 6, w ∈ wsX11_crash := fun w h => List.mem_cons_of_mem _ (List.mem_append_left _ (List.mem_append_left _ (List.mem_append_right _ h)))
  replace hl : lv_has ls 2 [(0, .ref (aV 0)), (1, .int x1)] := hl
  have h := hsem
  clear hsem
  rw [S_PL_crash] at h
  refine lv_iload_n hx hb dX11_crash_0 rfl (lv_at hl 1 rfl) ?_
  by_cases s1_0 : x1 = 0
  · refine k_lkI (tgt := 28) (v := 0) hx hb dX11_crash_1 s1_0 rfl rfl (by decide) ?_
    have h := k_pos s1_0 h
    refine lv_aload_n hx hb dX11_crash_28 rfl (lv_at hl 0 rfl) ?_
    refine va_get (D := D) (ci := 11) (v := .ref (aW 0)) (C := RX11) (T := TX11) (N := 6) hx hb hts hiX11 hown hK hP 0 rfl rfl 3 (by decide) hf53 (fun _ z => z) rfl dX11_crash_29 ?_
    obtain ⟨r32, g32, h⟩ := k_bind h
    refine k_callV (As := []) (rest := []) (st1 := [.int r32.1]) (ws2 := (Wd30 cI cM aV aN aS aT aW aM aK v_hasImage nS.1 nS.2.1 nS.2.2.1 nS.2.2.2.1 nS.2.2.2.2.1 nS.2.2.2.2.2.1 nS.2.2.2.2.2.2.1 nS.2.2.2.2.2.2.2.1 nS.2.2.2.2.2.2.2.2.1 nS.2.2.2.2.2.2.2.2.2.1 w_before r32.2.1 r32.2.2.1 r32.2.2.2.1 r32.2.2.2.2.1 r32.2.2.2.2.2.1 r32.2.2.2.2.2.2.1 r32.2.2.2.2.2.2.2.1 r32.2.2.2.2.2.2.2.2.1 r32.2.2.2.2.2.2.2.2.2.1 r32.2.2.2.2.2.2.2.2.2.2.1)) hx hb hml hown hts hK hN hA hP hD hS hl (c_Mind_daysToCrash l D cI cM cS cJ aN aW aM aK s.heap.size nS mS g32) gX11_crash_X5_daysToCrash rfl kdV_X5_daysToCrash 0 5 rfl rfl rfl [5, 1, 2, 3, 4, 7, 8, 9, 10, 11, 12, 13, 14, 15, 16, 17, 18, 19] ⟨rfl, rfl⟩ ⟨Nat.le_of_ble_eq_true rfl, Nat.le_of_ble_eq_true rfl⟩ ⟨Nat.zero_le _, Nat.zero_le _⟩ rfl rfl (by decide +kernel) rfl rfl rfl (Nat.le_of_ble_eq_true rfl) dX11_crash_32 rfl (fun H locs hP hD hS => ?_)
    cases h
    exact hret _ _ _ _ hP hS dX11_crash_35
  · have h := k_neg s1_0 h
    by_cases s1_1 : x1 = 1
    · refine k_lkI (tgt := 36) (v := 1) hx hb dX11_crash_1 s1_1 rfl rfl (by decide) ?_
      have h := k_pos s1_1 h
      refine lv_aload_n hx hb dX11_crash_36 rfl (lv_at hl 0 rfl) ?_
      refine va_get (D := D) (ci := 11) (v := .ref (aW 0)) (C := RX11) (T := TX11) (N := 6) hx hb hts hiX11 hown hK hP 0 rfl rfl 3 (by decide) hf53 (fun _ z => z) rfl dX11_crash_37 ?_
      obtain ⟨r40, g40, h⟩ := k_bind h
      refine k_callV (As := []) (rest := []) (st1 := [.int r40.1]) (ws2 := (Wd30 cI cM aV aN aS aT aW aM aK v_hasImage nS.1 nS.2.1 nS.2.2.1 nS.2.2.2.1 nS.2.2.2.2.1 nS.2.2.2.2.2.1 nS.2.2.2.2.2.2.1 nS.2.2.2.2.2.2.2.1 nS.2.2.2.2.2.2.2.2.1 nS.2.2.2.2.2.2.2.2.2.1 r40.2.1 r40.2.2.1 r40.2.2.2.1 r40.2.2.2.2.1 r40.2.2.2.2.2.1 r40.2.2.2.2.2.2.1 r40.2.2.2.2.2.2.2.1 r40.2.2.2.2.2.2.2.2.1 r40.2.2.2.2.2.2.2.2.2.1 r40.2.2.2.2.2.2.2.2.2.2.1 r40.2.2.2.2.2.2.2.2.2.2.2.1)) hx hb hml hown hts hK hN hA hP hD hS hl (c_Mind_daysToStill l D cI cM cS cJ aN aW aM aK s.heap.size w_before nS mS g40) gX11_crash_X5_daysToStill rfl kdV_X5_daysToStill 0 5 rfl rfl rfl [5, 6, 1, 2, 3, 4, 7, 8, 9, 10, 11, 12, 13, 14, 15, 16, 17, 18, 19] ⟨rfl, rfl⟩ ⟨Nat.le_of_ble_eq_true rfl, Nat.le_of_ble_eq_true rfl⟩ ⟨Nat.zero_le _, Nat.zero_le _⟩ rfl rfl (by decide +kernel) rfl rfl rfl (Nat.le_of_ble_eq_true rfl) dX11_crash_40 rfl (fun H locs hP hD hS => ?_)
      cases h
      exact hret _ _ _ _ hP hS dX11_crash_43
    · have h := k_neg s1_1 h
      refine lv_lookup (tgt := 44) hx hb dX11_crash_1 rfl (k_lkN _ _ _ (List.forall_mem_cons.mpr ⟨k_ne s1_0 rfl, (List.forall_mem_cons.mpr ⟨k_ne s1_1 rfl, (fun _ z => absurd z List.not_mem_nil)⟩)⟩)) (by decide) ?_
      refine lv_iconst (v := (-1)) hx hb dX11_crash_44 (by decide) ?_
      cases h
      exact hret _ _ _ _ hP hS dX11_crash_45
theorem kdV_X5_daysToFind : yX5_daysToFind.cls = RX5 ∧ yX5_daysToFind.cls ≠ "java/lang/invoke/MethodHandle" ∧ yX5_daysToFind.cls ≠ "java/lang/invoke/VarHandle" ∧ (parseMethodDescriptor yX5_daysToFind.desc).map (fun d => d.parameters.length) = some 1 := by decide +kernel
abbrev rm_X11_finds : Room := { frames := 5, cells := 0, slots := 0, locals := 127 }
set_option maxHeartbeats 4000000 in
set_option maxRecDepth 100000 in
theorem c_PL_finds (l : Launch) (D : va_G) (cI cM cS cJ : ClassId) (aV : Nat → Nat) (aN : Nat → Nat) (aS : Nat → Nat) (aT : Nat → Nat) (aW : Nat → Nat) (aM : Nat → Nat) (aK : Nat → Nat) (sz : Nat) (x1 : Int32) (v_hasImage : Int32) (nS : CS) (mS : CS) {o : (Int32) × (CS)} (hsem : S_PL_finds x1 nS mS = some o) : kMet l yX11_finds wsX11_finds rm_X11_finds [.ref (aV 0), .int x1] D (kT cI cM cS cJ) (Wd29 cI cM aV aN aS aT aW aM aK v_hasImage nS.1 nS.2.1 nS.2.2.1 nS.2.2.2.1 nS.2.2.2.2.1 nS.2.2.2.2.2.1 nS.2.2.2.2.2.2.1 nS.2.2.2.2.2.2.2.1 nS.2.2.2.2.2.2.2.2.1 nS.2.2.2.2.2.2.2.2.2.1 mS.1 mS.2.1 mS.2.2.1 mS.2.2.2.1 mS.2.2.2.2.1 mS.2.2.2.2.2.1 mS.2.2.2.2.2.2.1 mS.2.2.2.2.2.2.2.1 mS.2.2.2.2.2.2.2.2.1 mS.2.2.2.2.2.2.2.2.2.1) sz (some (.int o.1)) (Wd29 cI cM aV aN aS aT aW aM aK v_hasImage nS.1 nS.2.1 nS.2.2.1 nS.2.2.2.1 nS.2.2.2.2.1 nS.2.2.2.2.2.1 nS.2.2.2.2.2.2.1 nS.2.2.2.2.2.2.2.1 nS.2.2.2.2.2.2.2.2.1 nS.2.2.2.2.2.2.2.2.2.1 o.2.1 o.2.2.1 o.2.2.2.1 o.2.2.2.2.1 o.2.2.2.2.2.1 o.2.2.2.2.2.2.1 o.2.2.2.2.2.2.2.1 o.2.2.2.2.2.2.2.2.1 o.2.2.2.2.2.2.2.2.2.1 o.2.2.2.2.2.2.2.2.2.2.1) := by
  refine k_metI (by decide) rfl rfl (Nat.le_of_ble_eq_true rfl) ?_
  intro p e s m below meth c ls Q A hx hb hml hts hown hK hN hA hP hD hS hl hsz hnm hret
  have hown : s.vm.findClass RX11 = some m.cls := hown
  have hf36 := hts (.fieldLink RX11 36 "PlumbLine" "now" "LPlumbLine$City;") (List.mem_of_getElem? (i := 1) rfl)
  have hf53 := hts (.fieldLink RX11 53 "PlumbLine" "mind" "LPlumbLine$Mind;") (List.mem_of_getElem? (i := 2) rfl)
  have hiX11 : ∀ w ∈ u_ws RX11 TX11 6, w ∈ wsX11_finds := fun w h => List.mem_cons_of_mem _ (List.mem_append_left _ (List.mem_append_left _ (List.mem_append_right _ h)))
  replace hl : lv_has ls 2 [(0, .ref (aV 0)), (1, .int x1)] := hl
  have h := hsem
  clear hsem
  rw [S_PL_finds] at h
  refine lv_aload_n hx hb dX11_finds_0 rfl (lv_at hl 0 rfl) ?_
  refine va_get (D := D) (ci := 11) (v := .ref (aN 0)) (C := RX11) (T := TX11) (N := 6) hx hb hts hiX11 hown hK hP 0 rfl rfl 0 (by decide) hf36 (fun _ z => z) rfl dX11_finds_1 ?_
  refine lv_iload_n hx hb dX11_finds_4 rfl (lv_at hl 1 rfl) ?_
  refine k_callV (As := [.int x1]) (rest := []) (st1 := [.int (S_City_has x1 nS.1)]) (ws2 := (Wd29 cI cM aV aN aS aT aW aM aK v_hasImage nS.1 nS.2.1 nS.2.2.1 nS.2.2.2.1 nS.2.2.2.2.1 nS.2.2.2.2.2.1 nS.2.2.2.2.2.2.1 nS.2.2.2.2.2.2.2.1 nS.2.2.2.2.2.2.2.2.1 nS.2.2.2.2.2.2.2.2.2.1 mS.1 mS.2.1 mS.2.2.1 mS.2.2.2.1 mS.2.2.2.2.1 mS.2.2.2.2.2.1 mS.2.2.2.2.2.2.1 mS.2.2.2.2.2.2.2.1 mS.2.2.2.2.2.2.2.2.1 mS.2.2.2.2.2.2.2.2.2.1)) hx hb hml hown hts hK hN hA hP hD hS hl (c_City_has l D cI cM cS cJ aN aK s.heap.size x1 nS.1 nS.2.1 nS.2.2.1 nS.2.2.2.1 nS.2.2.2.2.1 nS.2.2.2.2.2.1 nS.2.2.2.2.2.2.1 rfl) gX11_finds_X2_has rfl kdV_X2_has 0 2 rfl rfl rfl [1] ⟨rfl, rfl⟩ ⟨Nat.le_of_ble_eq_true rfl, Nat.le_of_ble_eq_true rfl⟩ ⟨Nat.zero_le _, Nat.zero_le _⟩ rfl rfl (by decide +kernel) rfl rfl rfl (Nat.le_of_ble_eq_true rfl) dX11_finds_5 rfl (fun H locs hP hD hS => ?_)
  refine lv_if_eq (tgt := 22) hx hb dX11_finds_8 (by decide) (fun c8 => ?_) (fun c8 => ?_)
  · have h := k_pos c8 h
    refine lv_iconst (v := (-1)) hx hb dX11_finds_22 (by decide) ?_
    cases h
    exact hret _ _ _ _ hP hS dX11_finds_23
  · have h := k_neg c8 h
    refine lv_aload_n hx hb dX11_finds_11 rfl (lv_at hl 0 rfl) ?_
    refine va_get (D := D) (ci := 11) (v := .ref (aW 0)) (C := RX11) (T := TX11) (N := 6) hx hb hts hiX11 hown hK hP 0 rfl rfl 3 (by decide) hf53 (fun _ z => z) rfl dX11_finds_12 ?_
    refine lv_iload_n hx hb dX11_finds_15 rfl (lv_at hl 1 rfl) ?_
    obtain ⟨r16, g16, h⟩ := k_bind h
    refine k_callV (As := [.int x1]) (rest := []) (st1 := [.int r16.1]) (ws2 := (Wd29 cI cM aV aN aS aT aW aM aK v_hasImage nS.1 nS.2.1 nS.2.2.1 nS.2.2.2.1 nS.2.2.2.2.1 nS.2.2.2.2.2.1 nS.2.2.2.2.2.2.1 nS.2.2.2.2.2.2.2.1 nS.2.2.2.2.2.2.2.2.1 nS.2.2.2.2.2.2.2.2.2.1 r16.2.1 r16.2.2.1 r16.2.2.2.1 r16.2.2.2.2.1 r16.2.2.2.2.2.1 r16.2.2.2.2.2.2.1 r16.2.2.2.2.2.2.2.1 r16.2.2.2.2.2.2.2.2.1 r16.2.2.2.2.2.2.2.2.2.1 r16.2.2.2.2.2.2.2.2.2.2.1)) hx hb hml hown hts hK hN hA hP hD hS hl (c_Mind_daysToFind l D cI cM cS cJ aN aW aM aK H.size x1 nS mS g16) gX11_finds_X5_daysToFind rfl kdV_X5_daysToFind 0 5 rfl rfl rfl [5, 1, 2, 3, 4, 6, 7, 8, 9, 10, 11, 12, 13, 14, 15, 16, 17, 18] ⟨rfl, rfl⟩ ⟨Nat.le_of_ble_eq_true rfl, Nat.le_of_ble_eq_true rfl⟩ ⟨Nat.zero_le _, Nat.zero_le _⟩ rfl rfl (by decide +kernel) rfl rfl rfl (Nat.le_of_ble_eq_true rfl) dX11_finds_16 rfl (fun H locs hP hD hS => ?_)
    refine lv_goto (tgt := 23) hx hb dX11_finds_19 (by decide) ?_
    cases h
    exact hret _ _ _ _ hP hS dX11_finds_23
theorem kdV_X2_mostTrusted : yX2_mostTrusted.cls = RX2 ∧ yX2_mostTrusted.cls ≠ "java/lang/invoke/MethodHandle" ∧ yX2_mostTrusted.cls ≠ "java/lang/invoke/VarHandle" ∧ (parseMethodDescriptor yX2_mostTrusted.desc).map (fun d => d.parameters.length) = some 0 := by decide +kernel
theorem kdV_X2_rivals : yX2_rivals.cls = RX2 ∧ yX2_rivals.cls ≠ "java/lang/invoke/MethodHandle" ∧ yX2_rivals.cls ≠ "java/lang/invoke/VarHandle" ∧ (parseMethodDescriptor yX2_rivals.desc).map (fun d => d.parameters.length) = some 0 := by decide +kernel
theorem kdV_X2_east : yX2_east.cls = RX2 ∧ yX2_east.cls ≠ "java/lang/invoke/MethodHandle" ∧ yX2_east.cls ≠ "java/lang/invoke/VarHandle" ∧ (parseMethodDescriptor yX2_east.desc).map (fun d => d.parameters.length) = some 0 := by decide +kernel
theorem kdV_X2_discountOfAll : yX2_discountOfAll.cls = RX2 ∧ yX2_discountOfAll.cls ≠ "java/lang/invoke/MethodHandle" ∧ yX2_discountOfAll.cls ≠ "java/lang/invoke/VarHandle" ∧ (parseMethodDescriptor yX2_discountOfAll.desc).map (fun d => d.parameters.length) = some 0 := by decide +kernel
abbrev rm_X11_trust : Room := { frames := 5, cells := 0, slots := 0, locals := 130 }
set_option maxHeartbeats 4000000 in
set_option maxRecDepth 100000 in
theorem c_PL_trust (l : Launch) (D : va_G) (cI cM cS cJ : ClassId) (aV : Nat → Nat) (aN : Nat → Nat) (aS : Nat → Nat) (aT : Nat → Nat) (aW : Nat → Nat) (aK : Nat → Nat) (sz : Nat) (x1 : Int32) (v_hasImage : Int32) (nS : CS) {o : (Int32)} (hsem : S_PL_trust x1 nS = some o) : kMet l yX11_trust wsX11_trust rm_X11_trust [.ref (aV 0), .int x1] D (kT cI cM cS cJ) (Wd26 cI cM aV aN aS aT aW aK v_hasImage nS.1 nS.2.1 nS.2.2.1 nS.2.2.2.1 nS.2.2.2.2.1 nS.2.2.2.2.2.1 nS.2.2.2.2.2.2.1 nS.2.2.2.2.2.2.2.1 nS.2.2.2.2.2.2.2.2.1 nS.2.2.2.2.2.2.2.2.2.1) sz (some (.int o)) (Wd26 cI cM aV aN aS aT aW aK v_hasImage nS.1 nS.2.1 nS.2.2.1 nS.2.2.2.1 nS.2.2.2.2.1 nS.2.2.2.2.2.1 nS.2.2.2.2.2.2.1 nS.2.2.2.2.2.2.2.1 nS.2.2.2.2.2.2.2.2.1 nS.2.2.2.2.2.2.2.2.2.1) := by
  refine k_metI (by decide) rfl rfl (Nat.le_of_ble_eq_true rfl) ?_
  intro p e s m below meth c ls Q A hx hb hml hts hown hK hN hA hP hD hS hl hsz hnm hret
  have hown : s.vm.findClass RX11 = some m.cls := hown
  have hf36 := hts (.fieldLink RX11 36 "PlumbLine" "now" "LPlumbLine$City;") (List.mem_of_getElem? (i := 1) rfl)
  have hiX11 : ∀ w ∈ u_ws RX11 TX11 6, w ∈ wsX11_trust := fun w h => List.mem_cons_of_mem _ (List.mem_append_left _ (List.mem_append_right _ h))
  replace hl : lv_has ls 2 [(0, .ref (aV 0)), (1, .int x1)] := hl
  have h := hsem
  clear hsem
  rw [S_PL_trust] at h
  refine lv_iload_n hx hb dX11_trust_0 rfl (lv_at hl 1 rfl) ?_
  by_cases s1_0 : x1 = 0
  · refine k_tblI (tgt := 36) (v := 0) hx hb dX11_trust_1 s1_0 (by decide) (by decide) rfl (by decide) ?_
    have h := k_pos s1_0 h
    refine lv_aload_n hx hb dX11_trust_36 rfl (lv_at hl 0 rfl) ?_
    refine va_get (D := D) (ci := 11) (v := .ref (aN 0)) (C := RX11) (T := TX11) (N := 6) hx hb hts hiX11 hown hK hP 0 rfl rfl 0 (by decide) hf36 (fun _ z => z) rfl dX11_trust_37 ?_
    obtain ⟨r40, g40, h⟩ := k_bind h
    refine k_callV (As := []) (rest := []) (st1 := [.int r40]) (ws2 := (Wd26 cI cM aV aN aS aT aW aK v_hasImage nS.1 nS.2.1 nS.2.2.1 nS.2.2.2.1 nS.2.2.2.2.1 nS.2.2.2.2.2.1 nS.2.2.2.2.2.2.1 nS.2.2.2.2.2.2.2.1 nS.2.2.2.2.2.2.2.2.1 nS.2.2.2.2.2.2.2.2.2.1)) hx hb hml hown hts hK hN hA hP hD hS hl (c_City_mostTrusted l D cI cM cS cJ aN aK s.heap.size nS.1 nS.2.1 nS.2.2.1 nS.2.2.2.1 nS.2.2.2.2.1 nS.2.2.2.2.2.1 nS.2.2.2.2.2.2.1 nS.2.2.2.2.2.2.2.2.2.1 g40) gX11_trust_X2_mostTrusted rfl kdV_X2_mostTrusted 0 2 rfl rfl rfl [1, 4] ⟨rfl, rfl⟩ ⟨Nat.le_of_ble_eq_true rfl, Nat.le_of_ble_eq_true rfl⟩ ⟨Nat.zero_le _, Nat.zero_le _⟩ rfl rfl (by decide +kernel) rfl rfl rfl (Nat.le_of_ble_eq_true rfl) dX11_trust_40 rfl (fun H locs hP hD hS => ?_)
    cases h
    exact hret _ _ _ _ hP hS dX11_trust_43
  · have h := k_neg s1_0 h
    by_cases s1_1 : x1 = 1
    · refine k_tblI (tgt := 44) (v := 1) hx hb dX11_trust_1 s1_1 (by decide) (by decide) rfl (by decide) ?_
      have h := k_pos s1_1 h
      refine lv_aload_n hx hb dX11_trust_44 rfl (lv_at hl 0 rfl) ?_
      refine va_get (D := D) (ci := 11) (v := .ref (aN 0)) (C := RX11) (T := TX11) (N := 6) hx hb hts hiX11 hown hK hP 0 rfl rfl 0 (by decide) hf36 (fun _ z => z) rfl dX11_trust_45 ?_
      obtain ⟨r48, g48, h⟩ := k_bind h
      refine k_callV (As := []) (rest := []) (st1 := [.int r48]) (ws2 := (Wd26 cI cM aV aN aS aT aW aK v_hasImage nS.1 nS.2.1 nS.2.2.1 nS.2.2.2.1 nS.2.2.2.2.1 nS.2.2.2.2.2.1 nS.2.2.2.2.2.2.1 nS.2.2.2.2.2.2.2.1 nS.2.2.2.2.2.2.2.2.1 nS.2.2.2.2.2.2.2.2.2.1)) hx hb hml hown hts hK hN hA hP hD hS hl (c_City_rivals l D cI cM cS cJ aN aK s.heap.size nS.1 nS.2.1 nS.2.2.1 nS.2.2.2.1 nS.2.2.2.2.1 nS.2.2.2.2.2.1 nS.2.2.2.2.2.2.1 nS.2.2.2.2.2.2.2.2.2.1 g48) gX11_trust_X2_rivals rfl kdV_X2_rivals 0 2 rfl rfl rfl [1, 4] ⟨rfl, rfl⟩ ⟨Nat.le_of_ble_eq_true rfl, Nat.le_of_ble_eq_true rfl⟩ ⟨Nat.zero_le _, Nat.zero_le _⟩ rfl rfl (by decide +kernel) rfl rfl rfl (Nat.le_of_ble_eq_true rfl) dX11_trust_48 rfl (fun H locs hP hD hS => ?_)
      cases h
      exact hret _ _ _ _ hP hS dX11_trust_51
    · have h := k_neg s1_1 h
      by_cases s1_2 : x1 = 2
      · refine k_tblI (tgt := 52) (v := 2) hx hb dX11_trust_1 s1_2 (by decide) (by decide) rfl (by decide) ?_
        have h := k_pos s1_2 h
        refine lv_aload_n hx hb dX11_trust_52 rfl (lv_at hl 0 rfl) ?_
        refine va_get (D := D) (ci := 11) (v := .ref (aN 0)) (C := RX11) (T := TX11) (N := 6) hx hb hts hiX11 hown hK hP 0 rfl rfl 0 (by decide) hf36 (fun _ z => z) rfl dX11_trust_53 ?_
        obtain ⟨r56, g56, h⟩ := k_bind h
        refine k_callV (As := []) (rest := []) (st1 := [.int r56]) (ws2 := (Wd26 cI cM aV aN aS aT aW aK v_hasImage nS.1 nS.2.1 nS.2.2.1 nS.2.2.2.1 nS.2.2.2.2.1 nS.2.2.2.2.2.1 nS.2.2.2.2.2.2.1 nS.2.2.2.2.2.2.2.1 nS.2.2.2.2.2.2.2.2.1 nS.2.2.2.2.2.2.2.2.2.1)) hx hb hml hown hts hK hN hA hP hD hS hl (c_City_plumb l D cI cM cS cJ aN aK s.heap.size nS.1 nS.2.1 nS.2.2.1 nS.2.2.2.1 nS.2.2.2.2.1 nS.2.2.2.2.2.1 nS.2.2.2.2.2.2.1 nS.2.2.2.2.2.2.2.2.2.1 g56) gX11_trust_X2_plumb rfl kdV_X2_plumb 0 2 rfl rfl rfl [1, 4] ⟨rfl, rfl⟩ ⟨Nat.le_of_ble_eq_true rfl, Nat.le_of_ble_eq_true rfl⟩ ⟨Nat.zero_le _, Nat.zero_le _⟩ rfl rfl (by decide +kernel) rfl rfl rfl (Nat.le_of_ble_eq_true rfl) dX11_trust_56 rfl (fun H locs hP hD hS => ?_)
        cases h
        exact hret _ _ _ _ hP hS dX11_trust_59
      · have h := k_neg s1_2 h
        by_cases s1_3 : x1 = 3
        · refine k_tblI (tgt := 60) (v := 3) hx hb dX11_trust_1 s1_3 (by decide) (by decide) rfl (by decide) ?_
          have h := k_pos s1_3 h
          refine lv_aload_n hx hb dX11_trust_60 rfl (lv_at hl 0 rfl) ?_
          refine va_get (D := D) (ci := 11) (v := .ref (aN 0)) (C := RX11) (T := TX11) (N := 6) hx hb hts hiX11 hown hK hP 0 rfl rfl 0 (by decide) hf36 (fun _ z => z) rfl dX11_trust_61 ?_
          obtain ⟨r64, g64, h⟩ := k_bind h
          refine k_callV (As := []) (rest := []) (st1 := [.int r64]) (ws2 := (Wd26 cI cM aV aN aS aT aW aK v_hasImage nS.1 nS.2.1 nS.2.2.1 nS.2.2.2.1 nS.2.2.2.2.1 nS.2.2.2.2.2.1 nS.2.2.2.2.2.2.1 nS.2.2.2.2.2.2.2.1 nS.2.2.2.2.2.2.2.2.1 nS.2.2.2.2.2.2.2.2.2.1)) hx hb hml hown hts hK hN hA hP hD hS hl (c_City_east l D cI cM cS cJ aN aK s.heap.size nS.1 nS.2.1 nS.2.2.1 nS.2.2.2.1 nS.2.2.2.2.1 nS.2.2.2.2.2.1 nS.2.2.2.2.2.2.1 nS.2.2.2.2.2.2.2.2.2.1 g64) gX11_trust_X2_east rfl kdV_X2_east 0 2 rfl rfl rfl [1, 4] ⟨rfl, rfl⟩ ⟨Nat.le_of_ble_eq_true rfl, Nat.le_of_ble_eq_true rfl⟩ ⟨Nat.zero_le _, Nat.zero_le _⟩ rfl rfl (by decide +kernel) rfl rfl rfl (Nat.le_of_ble_eq_true rfl) dX11_trust_64 rfl (fun H locs hP hD hS => ?_)
          cases h
          exact hret _ _ _ _ hP hS dX11_trust_67
        · have h := k_neg s1_3 h
          by_cases s1_4 : x1 = 4
          · refine k_tblI (tgt := 68) (v := 4) hx hb dX11_trust_1 s1_4 (by decide) (by decide) rfl (by decide) ?_
            have h := k_pos s1_4 h
            refine lv_aload_n hx hb dX11_trust_68 rfl (lv_at hl 0 rfl) ?_
            refine va_get (D := D) (ci := 11) (v := .ref (aN 0)) (C := RX11) (T := TX11) (N := 6) hx hb hts hiX11 hown hK hP 0 rfl rfl 0 (by decide) hf36 (fun _ z => z) rfl dX11_trust_69 ?_
            obtain ⟨r72, g72, h⟩ := k_bind h
            refine k_callV (As := []) (rest := []) (st1 := [.int r72]) (ws2 := (Wd26 cI cM aV aN aS aT aW aK v_hasImage nS.1 nS.2.1 nS.2.2.1 nS.2.2.2.1 nS.2.2.2.2.1 nS.2.2.2.2.2.1 nS.2.2.2.2.2.2.1 nS.2.2.2.2.2.2.2.1 nS.2.2.2.2.2.2.2.2.1 nS.2.2.2.2.2.2.2.2.2.1)) hx hb hml hown hts hK hN hA hP hD hS hl (c_City_discountOfAll l D cI cM cS cJ aN aK s.heap.size nS.1 nS.2.1 nS.2.2.1 nS.2.2.2.1 nS.2.2.2.2.1 nS.2.2.2.2.2.1 nS.2.2.2.2.2.2.1 nS.2.2.2.2.2.2.2.1 nS.2.2.2.2.2.2.2.2.1 nS.2.2.2.2.2.2.2.2.2.1 g72) gX11_trust_X2_discountOfAll rfl kdV_X2_discountOfAll 0 2 rfl rfl rfl [1, 2, 3, 4, 5, 6, 7, 8, 9, 10, 11, 12, 13] ⟨rfl, rfl⟩ ⟨Nat.le_of_ble_eq_true rfl, Nat.le_of_ble_eq_true rfl⟩ ⟨Nat.zero_le _, Nat.zero_le _⟩ rfl rfl (by decide +kernel) rfl rfl rfl (Nat.le_of_ble_eq_true rfl) dX11_trust_72 rfl (fun H locs hP hD hS => ?_)
            cases h
            exact hret _ _ _ _ hP hS dX11_trust_75
          · have h := k_neg s1_4 h
            refine lv_tableOut (tgt := 76) hx hb dX11_trust_1 (k_out [0, 1, 2, 3, 4] (by decide) (List.forall_mem_cons.mpr ⟨s1_0, (List.forall_mem_cons.mpr ⟨s1_1, (List.forall_mem_cons.mpr ⟨s1_2, (List.forall_mem_cons.mpr ⟨s1_3, (List.forall_mem_cons.mpr ⟨s1_4, (fun _ z => absurd z List.not_mem_nil)⟩)⟩)⟩)⟩)⟩)) (by decide) ?_
            refine lv_iconst (v := (-1)) hx hb dX11_trust_76 (by decide) ?_
            cases h
            exact hret _ _ _ _ hP hS dX11_trust_77
theorem kdV_X2_tellers : yX2_tellers.cls = RX2 ∧ yX2_tellers.cls ≠ "java/lang/invoke/MethodHandle" ∧ yX2_tellers.cls ≠ "java/lang/invoke/VarHandle" ∧ (parseMethodDescriptor yX2_tellers.desc).map (fun d => d.parameters.length) = some 1 := by decide +kernel
abbrev rm_X11_tells : Room := { frames := 5, cells := 0, slots := 0, locals := 131 }
set_option maxHeartbeats 4000000 in
set_option maxRecDepth 100000 in
theorem c_PL_tells (l : Launch) (D : va_G) (cI cM cS cJ : ClassId) (aV : Nat → Nat) (aN : Nat → Nat) (aS : Nat → Nat) (aT : Nat → Nat) (aW : Nat → Nat) (aK : Nat → Nat) (sz : Nat) (x1 : Int32) (v_hasImage : Int32) (nS : CS) {o : (Int32)} (hsem : S_PL_tells x1 nS = some o) : kMet l yX11_tells wsX11_tells rm_X11_tells [.ref (aV 0), .int x1] D (kT cI cM cS cJ) (Wd25 cI aV aN aS aT aW aK v_hasImage nS.1 nS.2.1 nS.2.2.1 nS.2.2.2.1 nS.2.2.2.2.1 nS.2.2.2.2.2.1 nS.2.2.2.2.2.2.1 nS.2.2.2.2.2.2.2.2.2.1) sz (some (.int o)) (Wd25 cI aV aN aS aT aW aK v_hasImage nS.1 nS.2.1 nS.2.2.1 nS.2.2.2.1 nS.2.2.2.2.1 nS.2.2.2.2.2.1 nS.2.2.2.2.2.2.1 nS.2.2.2.2.2.2.2.2.2.1) := by
  refine k_metI (by decide) rfl rfl (Nat.le_of_ble_eq_true rfl) ?_
  intro p e s m below meth c ls Q A hx hb hml hts hown hK hN hA hP hD hS hl hsz hnm hret
  have hown : s.vm.findClass RX11 = some m.cls := hown
  have hf36 := hts (.fieldLink RX11 36 "PlumbLine" "now" "LPlumbLine$City;") (List.mem_of_getElem? (i := 1) rfl)
  have hiX11 : ∀ w ∈ u_ws RX11 TX11 6, w ∈ wsX11_tells := fun w h => List.mem_cons_of_mem _ (List.mem_append_left _ (List.mem_append_right _ h))
  replace hl : lv_has ls 2 [(0, .ref (aV 0)), (1, .int x1)] := hl
  have h := hsem
  clear hsem
  rw [S_PL_tells] at h
  refine lv_aload_n hx hb dX11_tells_0 rfl (lv_at hl 0 rfl) ?_
  refine va_get (D := D) (ci := 11) (v := .ref (aN 0)) (C := RX11) (T := TX11) (N := 6) hx hb hts hiX11 hown hK hP 0 rfl rfl 0 (by decide) hf36 (fun _ z => z) rfl dX11_tells_1 ?_
  refine lv_iload_n hx hb dX11_tells_4 rfl (lv_at hl 1 rfl) ?_
  refine k_callV (As := [.int x1]) (rest := []) (st1 := [.int (S_City_has x1 nS.1)]) (ws2 := (Wd25 cI aV aN aS aT aW aK v_hasImage nS.1 nS.2.1 nS.2.2.1 nS.2.2.2.1 nS.2.2.2.2.1 nS.2.2.2.2.2.1 nS.2.2.2.2.2.2.1 nS.2.2.2.2.2.2.2.2.2.1)) hx hb hml hown hts hK hN hA hP hD hS hl (c_City_has l D cI cM cS cJ aN aK s.heap.size x1 nS.1 nS.2.1 nS.2.2.1 nS.2.2.2.1 nS.2.2.2.2.1 nS.2.2.2.2.2.1 nS.2.2.2.2.2.2.1 rfl) gX11_tells_X2_has rfl kdV_X2_has 0 2 rfl rfl rfl [1] ⟨rfl, rfl⟩ ⟨Nat.le_of_ble_eq_true rfl, Nat.le_of_ble_eq_true rfl⟩ ⟨Nat.zero_le _, Nat.zero_le _⟩ rfl rfl (by decide +kernel) rfl rfl rfl (Nat.le_of_ble_eq_true rfl) dX11_tells_5 rfl (fun H locs hP hD hS => ?_)
  refine lv_if_eq (tgt := 22) hx hb dX11_tells_8 (by decide) (fun c8 => ?_) (fun c8 => ?_)
  · have h := k_pos c8 h
    refine lv_iconst (v := (-1)) hx hb dX11_tells_22 (by decide) ?_
    cases h
    exact hret _ _ _ _ hP hS dX11_tells_23
  · have h := k_neg c8 h
    refine lv_aload_n hx hb dX11_tells_11 rfl (lv_at hl 0 rfl) ?_
    refine va_get (D := D) (ci := 11) (v := .ref (aN 0)) (C := RX11) (T := TX11) (N := 6) hx hb hts hiX11 hown hK hP 0 rfl rfl 0 (by decide) hf36 (fun _ z => z) rfl dX11_tells_12 ?_
    refine lv_iload_n hx hb dX11_tells_15 rfl (lv_at hl 1 rfl) ?_
    obtain ⟨r16, g16, h⟩ := k_bind h
    refine k_callV (As := [.int x1]) (rest := []) (st1 := [.int r16]) (ws2 := (Wd25 cI aV aN aS aT aW aK v_hasImage nS.1 nS.2.1 nS.2.2.1 nS.2.2.2.1 nS.2.2.2.2.1 nS.2.2.2.2.2.1 nS.2.2.2.2.2.2.1 nS.2.2.2.2.2.2.2.2.2.1)) hx hb hml hown hts hK hN hA hP hD hS hl (c_City_tellers l D cI cM cS cJ aN aK H.size x1 nS.1 nS.2.1 nS.2.2.1 nS.2.2.2.1 nS.2.2.2.2.1 nS.2.2.2.2.2.1 nS.2.2.2.2.2.2.1 nS.2.2.2.2.2.2.2.2.2.1 g16) gX11_tells_X2_tellers rfl kdV_X2_tellers 0 2 rfl rfl rfl [1, 2] ⟨rfl, rfl⟩ ⟨Nat.le_of_ble_eq_true rfl, Nat.le_of_ble_eq_true rfl⟩ ⟨Nat.zero_le _, Nat.zero_le _⟩ rfl rfl (by decide +kernel) rfl rfl rfl (Nat.le_of_ble_eq_true rfl) dX11_tells_16 rfl (fun H locs hP hD hS => ?_)
    refine lv_goto (tgt := 23) hx hb dX11_tells_19 (by decide) ?_
    cases h
    exact hret _ _ _ _ hP hS dX11_tells_23
theorem kdV_X5_propsAgainstCrash : yX5_propsAgainstCrash.cls = RX5 ∧ yX5_propsAgainstCrash.cls ≠ "java/lang/invoke/MethodHandle" ∧ yX5_propsAgainstCrash.cls ≠ "java/lang/invoke/VarHandle" ∧ (parseMethodDescriptor yX5_propsAgainstCrash.desc).map (fun d => d.parameters.length) = some 1 := by decide +kernel
abbrev rm_X11_fewestProps : Room := { frames := 6, cells := 0, slots := 0, locals := 151 }
set_option maxHeartbeats 4000000 in
set_option maxRecDepth 100000 in
theorem c_PL_fewestProps (l : Launch) (D : va_G) (cI cM cS cJ : ClassId) (aV : Nat → Nat) (aN : Nat → Nat) (aS : Nat → Nat) (aT : Nat → Nat) (aW : Nat → Nat) (aM : Nat → Nat) (aK : Nat → Nat) (sz : Nat) (x1 : Int32) (v_hasImage : Int32) (nS : CS) (mS : CS) {o : (Int32) × (CS)} (hsem : S_PL_fewestProps x1 nS mS = some o) : kMet l yX11_fewestProps wsX11_fewestProps rm_X11_fewestProps [.ref (aV 0), .int x1] D (kT cI cM cS cJ) (Wd29 cI cM aV aN aS aT aW aM aK v_hasImage nS.1 nS.2.1 nS.2.2.1 nS.2.2.2.1 nS.2.2.2.2.1 nS.2.2.2.2.2.1 nS.2.2.2.2.2.2.1 nS.2.2.2.2.2.2.2.1 nS.2.2.2.2.2.2.2.2.1 nS.2.2.2.2.2.2.2.2.2.1 mS.1 mS.2.1 mS.2.2.1 mS.2.2.2.1 mS.2.2.2.2.1 mS.2.2.2.2.2.1 mS.2.2.2.2.2.2.1 mS.2.2.2.2.2.2.2.1 mS.2.2.2.2.2.2.2.2.1 mS.2.2.2.2.2.2.2.2.2.1) sz (some (.int o.1)) (Wd29 cI cM aV aN aS aT aW aM aK v_hasImage nS.1 nS.2.1 nS.2.2.1 nS.2.2.2.1 nS.2.2.2.2.1 nS.2.2.2.2.2.1 nS.2.2.2.2.2.2.1 nS.2.2.2.2.2.2.2.1 nS.2.2.2.2.2.2.2.2.1 nS.2.2.2.2.2.2.2.2.2.1 o.2.1 o.2.2.1 o.2.2.2.1 o.2.2.2.2.1 o.2.2.2.2.2.1 o.2.2.2.2.2.2.1 o.2.2.2.2.2.2.2.1 o.2.2.2.2.2.2.2.2.1 o.2.2.2.2.2.2.2.2.2.1 o.2.2.2.2.2.2.2.2.2.2.1) := by
  refine k_metI (by decide) rfl rfl (Nat.le_of_ble_eq_true rfl) ?_
  intro p e s m below meth c ls Q A hx hb hml hts hown hK hN hA hP hD hS hl hsz hnm hret
  have hown : s.vm.findClass RX11 = some m.cls := hown
  have hf53 := hts (.fieldLink RX11 53 "PlumbLine" "mind" "LPlumbLine$Mind;") (List.mem_of_getElem? (i := 1) rfl)
  have hiX11 : ∀ w ∈ u_ws RX11 TX11 6, w ∈ wsX11_fewestProps := fun w h => List.mem_cons_of_mem _ (List.mem_append_left _ (List.mem_append_left _ (List.mem_append_right _ h)))
  replace hl : lv_has ls 2 [(0, .ref (aV 0)), (1, .int x1)] := hl
  have h := hsem
  clear hsem
  rw [S_PL_fewestProps] at h
  refine lv_iload_n hx hb dX11_fewestProps_0 rfl (lv_at hl 1 rfl) ?_
  refine lv_iconst (v := 1) hx hb dX11_fewestProps_1 (by decide) ?_
  refine lv_bipush (v := 30) hx hb dX11_fewestProps_2 (by decide) ?_
  refine k_callS (As := [.int x1, .int 1, .int 30]) (rest := []) (st1 := [.int (S_PL_isIn x1 1 30)]) (ws2 := (Wd29 cI cM aV aN aS aT aW aM aK v_hasImage nS.1 nS.2.1 nS.2.2.1 nS.2.2.2.1 nS.2.2.2.2.1 nS.2.2.2.2.2.1 nS.2.2.2.2.2.2.1 nS.2.2.2.2.2.2.2.1 nS.2.2.2.2.2.2.2.2.1 nS.2.2.2.2.2.2.2.2.2.1 mS.1 mS.2.1 mS.2.2.1 mS.2.2.2.1 mS.2.2.2.2.1 mS.2.2.2.2.2.1 mS.2.2.2.2.2.2.1 mS.2.2.2.2.2.2.2.1 mS.2.2.2.2.2.2.2.2.1 mS.2.2.2.2.2.2.2.2.2.1)) hx hb hml hown hts hK hN hA hP hD hS hl (c_PL_isIn l D cI cM cS cJ s.heap.size x1 1 30 rfl) gX11_fewestProps_X11_isIn rfl kdS_X11_isIn [] ⟨rfl, rfl⟩ ⟨Nat.le_of_ble_eq_true rfl, Nat.le_of_ble_eq_true rfl⟩ ⟨Nat.zero_le _, Nat.zero_le _⟩ rfl rfl (by decide +kernel) rfl rfl rfl (Nat.le_of_ble_eq_true rfl) dX11_fewestProps_4 rfl (fun H locs hP hD hS => ?_)
  refine lv_if_eq (tgt := 21) hx hb dX11_fewestProps_7 (by decide) (fun c7 => ?_) (fun c7 => ?_)
  · have h := k_pos c7 h
    refine lv_iconst (v := (-1)) hx hb dX11_fewestProps_21 (by decide) ?_
    cases h
    exact hret _ _ _ _ hP hS dX11_fewestProps_22
  · have h := k_neg c7 h
    refine lv_aload_n hx hb dX11_fewestProps_10 rfl (lv_at hl 0 rfl) ?_
    refine va_get (D := D) (ci := 11) (v := .ref (aW 0)) (C := RX11) (T := TX11) (N := 6) hx hb hts hiX11 hown hK hP 0 rfl rfl 3 (by decide) hf53 (fun _ z => z) rfl dX11_fewestProps_11 ?_
    refine lv_iload_n hx hb dX11_fewestProps_14 rfl (lv_at hl 1 rfl) ?_
    obtain ⟨r15, g15, h⟩ := k_bind h
    refine k_callV (As := [.int x1]) (rest := []) (st1 := [.int r15.1]) (ws2 := (Wd29 cI cM aV aN aS aT aW aM aK v_hasImage nS.1 nS.2.1 nS.2.2.1 nS.2.2.2.1 nS.2.2.2.2.1 nS.2.2.2.2.2.1 nS.2.2.2.2.2.2.1 nS.2.2.2.2.2.2.2.1 nS.2.2.2.2.2.2.2.2.1 nS.2.2.2.2.2.2.2.2.2.1 r15.2.1 r15.2.2.1 r15.2.2.2.1 r15.2.2.2.2.1 r15.2.2.2.2.2.1 r15.2.2.2.2.2.2.1 r15.2.2.2.2.2.2.2.1 r15.2.2.2.2.2.2.2.2.1 r15.2.2.2.2.2.2.2.2.2.1 r15.2.2.2.2.2.2.2.2.2.2.1)) hx hb hml hown hts hK hN hA hP hD hS hl (c_Mind_propsAgainstCrash l D cI cM cS cJ aN aW aM aK H.size x1 nS mS g15) gX11_fewestProps_X5_propsAgainstCrash rfl kdV_X5_propsAgainstCrash 0 5 rfl rfl rfl [5, 1, 2, 3, 4, 6, 7, 8, 9, 10, 11, 12, 13, 14, 15, 16, 17, 18] ⟨rfl, rfl⟩ ⟨Nat.le_of_ble_eq_true rfl, Nat.le_of_ble_eq_true rfl⟩ ⟨Nat.zero_le _, Nat.zero_le _⟩ rfl rfl (by decide +kernel) rfl rfl rfl (Nat.le_of_ble_eq_true rfl) dX11_fewestProps_15 rfl (fun H locs hP hD hS => ?_)
    refine lv_goto (tgt := 22) hx hb dX11_fewestProps_18 (by decide) ?_
    cases h
    exact hret _ _ _ _ hP hS dX11_fewestProps_22
theorem kdV_X5_bestPush : yX5_bestPush.cls = RX5 ∧ yX5_bestPush.cls ≠ "java/lang/invoke/MethodHandle" ∧ yX5_bestPush.cls ≠ "java/lang/invoke/VarHandle" ∧ (parseMethodDescriptor yX5_bestPush.desc).map (fun d => d.parameters.length) = some 1 := by decide +kernel
abbrev rm_X11_push : Room := { frames := 7, cells := 0, slots := 0, locals := 175 }
set_option maxHeartbeats 4000000 in
set_option maxRecDepth 100000 in
theorem c_PL_push (l : Launch) (D : va_G) (cI cM cS cJ : ClassId) (aV : Nat → Nat) (aN : Nat → Nat) (aS : Nat → Nat) (aT : Nat → Nat) (aW : Nat → Nat) (aM : Nat → Nat) (aK : Nat → Nat) (sz : Nat) (x1 : Int32) (v_hasImage : Int32) (nS : CS) (mS : CS) {o : (Int32) × (CS)} (hsem : S_PL_push x1 nS mS = some o) : kMet l yX11_push wsX11_push rm_X11_push [.ref (aV 0), .int x1] D (kT cI cM cS cJ) (Wd29 cI cM aV aN aS aT aW aM aK v_hasImage nS.1 nS.2.1 nS.2.2.1 nS.2.2.2.1 nS.2.2.2.2.1 nS.2.2.2.2.2.1 nS.2.2.2.2.2.2.1 nS.2.2.2.2.2.2.2.1 nS.2.2.2.2.2.2.2.2.1 nS.2.2.2.2.2.2.2.2.2.1 mS.1 mS.2.1 mS.2.2.1 mS.2.2.2.1 mS.2.2.2.2.1 mS.2.2.2.2.2.1 mS.2.2.2.2.2.2.1 mS.2.2.2.2.2.2.2.1 mS.2.2.2.2.2.2.2.2.1 mS.2.2.2.2.2.2.2.2.2.1) sz (some (.int o.1)) (Wd29 cI cM aV aN aS aT aW aM aK v_hasImage nS.1 nS.2.1 nS.2.2.1 nS.2.2.2.1 nS.2.2.2.2.1 nS.2.2.2.2.2.1 nS.2.2.2.2.2.2.1 nS.2.2.2.2.2.2.2.1 nS.2.2.2.2.2.2.2.2.1 nS.2.2.2.2.2.2.2.2.2.1 o.2.1 o.2.2.1 o.2.2.2.1 o.2.2.2.2.1 o.2.2.2.2.2.1 o.2.2.2.2.2.2.1 o.2.2.2.2.2.2.2.1 o.2.2.2.2.2.2.2.2.1 o.2.2.2.2.2.2.2.2.2.1 o.2.2.2.2.2.2.2.2.2.2.1) := by
  refine k_metI (by decide) rfl rfl (Nat.le_of_ble_eq_true rfl) ?_
  intro p e s m below meth c ls Q A hx hb hml hts hown hK hN hA hP hD hS hl hsz hnm hret
  have hown : s.vm.findClass RX11 = some m.cls := hown
  have hf53 := hts (.fieldLink RX11 53 "PlumbLine" "mind" "LPlumbLine$Mind;") (List.mem_of_getElem? (i := 1) rfl)
  have hiX11 : ∀ w ∈ u_ws RX11 TX11 6, w ∈ wsX11_push := fun w h => List.mem_cons_of_mem _ (List.mem_append_left _ (List.mem_append_left _ (List.mem_append_right _ h)))
  replace hl : lv_has ls 2 [(0, .ref (aV 0)), (1, .int x1)] := hl
  have h := hsem
  clear hsem
  rw [S_PL_push] at h
  refine lv_iload_n hx hb dX11_push_0 rfl (lv_at hl 1 rfl) ?_
  refine lv_iconst (v := 0) hx hb dX11_push_1 (by decide) ?_
  refine lv_bipush (v := 20) hx hb dX11_push_2 (by decide) ?_
  refine k_callS (As := [.int x1, .int 0, .int 20]) (rest := []) (st1 := [.int (S_PL_isIn x1 0 20)]) (ws2 := (Wd29 cI cM aV aN aS aT aW aM aK v_hasImage nS.1 nS.2.1 nS.2.2.1 nS.2.2.2.1 nS.2.2.2.2.1 nS.2.2.2.2.2.1 nS.2.2.2.2.2.2.1 nS.2.2.2.2.2.2.2.1 nS.2.2.2.2.2.2.2.2.1 nS.2.2.2.2.2.2.2.2.2.1 mS.1 mS.2.1 mS.2.2.1 mS.2.2.2.1 mS.2.2.2.2.1 mS.2.2.2.2.2.1 mS.2.2.2.2.2.2.1 mS.2.2.2.2.2.2.2.1 mS.2.2.2.2.2.2.2.2.1 mS.2.2.2.2.2.2.2.2.2.1)) hx hb hml hown hts hK hN hA hP hD hS hl (c_PL_isIn l D cI cM cS cJ s.heap.size x1 0 20 rfl) gX11_push_X11_isIn rfl kdS_X11_isIn [] ⟨rfl, rfl⟩ ⟨Nat.le_of_ble_eq_true rfl, Nat.le_of_ble_eq_true rfl⟩ ⟨Nat.zero_le _, Nat.zero_le _⟩ rfl rfl (by decide +kernel) rfl rfl rfl (Nat.le_of_ble_eq_true rfl) dX11_push_4 rfl (fun H locs hP hD hS => ?_)
  refine lv_if_eq (tgt := 21) hx hb dX11_push_7 (by decide) (fun c7 => ?_) (fun c7 => ?_)
  · have h := k_pos c7 h
    refine lv_iconst (v := (-1)) hx hb dX11_push_21 (by decide) ?_
    cases h
    exact hret _ _ _ _ hP hS dX11_push_22
  · have h := k_neg c7 h
    refine lv_aload_n hx hb dX11_push_10 rfl (lv_at hl 0 rfl) ?_
    refine va_get (D := D) (ci := 11) (v := .ref (aW 0)) (C := RX11) (T := TX11) (N := 6) hx hb hts hiX11 hown hK hP 0 rfl rfl 3 (by decide) hf53 (fun _ z => z) rfl dX11_push_11 ?_
    refine lv_iload_n hx hb dX11_push_14 rfl (lv_at hl 1 rfl) ?_
    obtain ⟨r15, g15, h⟩ := k_bind h
    refine k_callV (As := [.int x1]) (rest := []) (st1 := [.int r15.1]) (ws2 := (Wd29 cI cM aV aN aS aT aW aM aK v_hasImage nS.1 nS.2.1 nS.2.2.1 nS.2.2.2.1 nS.2.2.2.2.1 nS.2.2.2.2.2.1 nS.2.2.2.2.2.2.1 nS.2.2.2.2.2.2.2.1 nS.2.2.2.2.2.2.2.2.1 nS.2.2.2.2.2.2.2.2.2.1 r15.2.1 r15.2.2.1 r15.2.2.2.1 r15.2.2.2.2.1 r15.2.2.2.2.2.1 r15.2.2.2.2.2.2.1 r15.2.2.2.2.2.2.2.1 r15.2.2.2.2.2.2.2.2.1 r15.2.2.2.2.2.2.2.2.2.1 r15.2.2.2.2.2.2.2.2.2.2.1)) hx hb hml hown hts hK hN hA hP hD hS hl (c_Mind_bestPush l D cI cM cS cJ aN aW aM aK H.size x1 nS mS g15) gX11_push_X5_bestPush rfl kdV_X5_bestPush 0 5 rfl rfl rfl [5, 1, 2, 3, 4, 6, 7, 8, 9, 10, 11, 12, 13, 14, 15, 16, 17, 18] ⟨rfl, rfl⟩ ⟨Nat.le_of_ble_eq_true rfl, Nat.le_of_ble_eq_true rfl⟩ ⟨Nat.zero_le _, Nat.zero_le _⟩ rfl rfl (by decide +kernel) rfl rfl rfl (Nat.le_of_ble_eq_true rfl) dX11_push_15 rfl (fun H locs hP hD hS => ?_)
    refine lv_goto (tgt := 22) hx hb dX11_push_18 (by decide) ?_
    cases h
    exact hret _ _ _ _ hP hS dX11_push_22
abbrev Wd31 (cI : ClassId) (cM : ClassId) (aV : Nat → Nat) (aN : Nat → Nat) (aS : Nat → Nat) (aT : Nat → Nat) (aW : Nat → Nat) (aK : Nat → Nat) (v_hasImage : Int32) (n_men : Int32) (n_propped : Int32) (n_place : Int32) (n_swings : Int32) (n_crashes : Int32) (n_day : Int32) (n_crashedToday : Int32) (n_kind : Nat → Int32) (n_figure : Nat → Int32) (n_lean : Nat → Int32) (n_seated : Nat → Int32) : va_W := [((aV 0), .inr (11, [.ref (aN 0), .ref (aS 0), .ref (aT 0), .ref (aW 0), .ref (aV 1), .int v_hasImage])), ((aN 0), .inr (2, [.ref (aN 1), .ref (aN 2), .ref (aN 3), .int n_men, .int n_propped, .int n_place, .int n_swings, .int n_crashes, .int n_day, .int n_crashedToday, .ref (aK 8), .ref (aN 4)])), ((aN 1), .inl (cI, 8, .inl n_kind)), ((aN 2), .inl (cI, 8, .inl n_figure)), ((aN 3), .inl (cI, 8, .inl n_lean)), ((aN 4), .inl (cI, 8, .inl n_seated)), ((aK 8), .inl (cM, 8, .inr (.inr (.inr (.inr (fun k => some (aK k))))))), ((aK 0), .inr (4, [])), ((aK 1), .inr (0, [])), ((aK 2), .inr (7, [])), ((aK 3), .inr (3, [])), ((aK 4), .inr (1, [])), ((aK 5), .inr (8, [])), ((aK 6), .inr (10, [])), ((aK 7), .inr (6, []))]
theorem kdV_X2_rightOne : yX2_rightOne.cls = RX2 ∧ yX2_rightOne.cls ≠ "java/lang/invoke/MethodHandle" ∧ yX2_rightOne.cls ≠ "java/lang/invoke/VarHandle" ∧ (parseMethodDescriptor yX2_rightOne.desc).map (fun d => d.parameters.length) = some 0 := by decide +kernel
theorem kdV_X2_walls : yX2_walls.cls = RX2 ∧ yX2_walls.cls ≠ "java/lang/invoke/MethodHandle" ∧ yX2_walls.cls ≠ "java/lang/invoke/VarHandle" ∧ (parseMethodDescriptor yX2_walls.desc).map (fun d => d.parameters.length) = some 0 := by decide +kernel
theorem kdV_X2_balance : yX2_balance.cls = RX2 ∧ yX2_balance.cls ≠ "java/lang/invoke/MethodHandle" ∧ yX2_balance.cls ≠ "java/lang/invoke/VarHandle" ∧ (parseMethodDescriptor yX2_balance.desc).map (fun d => d.parameters.length) = some 0 := by decide +kernel
abbrev rm_X11_right : Room := { frames := 5, cells := 0, slots := 0, locals := 111 }
set_option maxHeartbeats 4000000 in
set_option maxRecDepth 100000 in
theorem c_PL_right (l : Launch) (D : va_G) (cI cM cS cJ : ClassId) (aV : Nat → Nat) (aN : Nat → Nat) (aS : Nat → Nat) (aT : Nat → Nat) (aW : Nat → Nat) (aK : Nat → Nat) (sz : Nat) (x1 : Int32) (v_hasImage : Int32) (nS : CS) {o : (Int32) × (CS)} (hsem : S_PL_right x1 nS = some o) : kMet l yX11_right wsX11_right rm_X11_right [.ref (aV 0), .int x1] D (kT cI cM cS cJ) (Wd31 cI cM aV aN aS aT aW aK v_hasImage nS.1 nS.2.1 nS.2.2.1 nS.2.2.2.1 nS.2.2.2.2.1 nS.2.2.2.2.2.1 nS.2.2.2.2.2.2.1 nS.2.2.2.2.2.2.2.1 nS.2.2.2.2.2.2.2.2.1 nS.2.2.2.2.2.2.2.2.2.1 nS.2.2.2.2.2.2.2.2.2.2) sz (some (.int o.1)) (Wd31 cI cM aV aN aS aT aW aK v_hasImage o.2.1 o.2.2.1 o.2.2.2.1 o.2.2.2.2.1 o.2.2.2.2.2.1 o.2.2.2.2.2.2.1 o.2.2.2.2.2.2.2.1 o.2.2.2.2.2.2.2.2.1 o.2.2.2.2.2.2.2.2.2.1 o.2.2.2.2.2.2.2.2.2.2.1 o.2.2.2.2.2.2.2.2.2.2.2) := by
  refine k_metI (by decide) rfl rfl (Nat.le_of_ble_eq_true rfl) ?_
  intro p e s m below meth c ls Q A hx hb hml hts hown hK hN hA hP hD hS hl hsz hnm hret
  have hown : s.vm.findClass RX11 = some m.cls := hown
  have hf36 := hts (.fieldLink RX11 36 "PlumbLine" "now" "LPlumbLine$City;") (List.mem_of_getElem? (i := 1) rfl)
  have hiX11 : ∀ w ∈ u_ws RX11 TX11 6, w ∈ wsX11_right := fun w h => List.mem_cons_of_mem _ (List.mem_append_left _ (List.mem_append_right _ h))
  replace hl : lv_has ls 2 [(0, .ref (aV 0)), (1, .int x1)] := hl
  have h := hsem
  clear hsem
  rw [S_PL_right] at h
  refine lv_iload_n hx hb dX11_right_0 rfl (lv_at hl 1 rfl) ?_
  by_cases s1_0 : x1 = 0
  · refine k_tblI (tgt := 28) (v := 0) hx hb dX11_right_1 s1_0 (by decide) (by decide) rfl (by decide) ?_
    have h := k_pos s1_0 h
    refine lv_aload_n hx hb dX11_right_28 rfl (lv_at hl 0 rfl) ?_
    refine va_get (D := D) (ci := 11) (v := .ref (aN 0)) (C := RX11) (T := TX11) (N := 6) hx hb hts hiX11 hown hK hP 0 rfl rfl 0 (by decide) hf36 (fun _ z => z) rfl dX11_right_29 ?_
    obtain ⟨r32, g32, h⟩ := k_bind h
    refine k_callV (As := []) (rest := []) (st1 := [.int r32]) (ws2 := (Wd31 cI cM aV aN aS aT aW aK v_hasImage nS.1 nS.2.1 nS.2.2.1 nS.2.2.2.1 nS.2.2.2.2.1 nS.2.2.2.2.2.1 nS.2.2.2.2.2.2.1 nS.2.2.2.2.2.2.2.1 nS.2.2.2.2.2.2.2.2.1 nS.2.2.2.2.2.2.2.2.2.1 nS.2.2.2.2.2.2.2.2.2.2)) hx hb hml hown hts hK hN hA hP hD hS hl (c_City_rightOne l D cI cM cS cJ aN aK s.heap.size nS.1 nS.2.1 nS.2.2.1 nS.2.2.2.1 nS.2.2.2.2.1 nS.2.2.2.2.2.1 nS.2.2.2.2.2.2.1 nS.2.2.2.2.2.2.2.1 nS.2.2.2.2.2.2.2.2.1 nS.2.2.2.2.2.2.2.2.2.1 g32) gX11_right_X2_rightOne rfl kdV_X2_rightOne 0 2 rfl rfl rfl [1, 2, 3, 4, 6, 7, 8, 9, 10, 11, 12, 13, 14] ⟨rfl, rfl⟩ ⟨Nat.le_of_ble_eq_true rfl, Nat.le_of_ble_eq_true rfl⟩ ⟨Nat.zero_le _, Nat.zero_le _⟩ rfl rfl (by decide +kernel) rfl rfl rfl (Nat.le_of_ble_eq_true rfl) dX11_right_32 rfl (fun H locs hP hD hS => ?_)
    cases h
    exact hret _ _ _ _ hP hS dX11_right_35
  · have h := k_neg s1_0 h
    by_cases s1_1 : x1 = 1
    · refine k_tblI (tgt := 36) (v := 1) hx hb dX11_right_1 s1_1 (by decide) (by decide) rfl (by decide) ?_
      have h := k_pos s1_1 h
      refine lv_aload_n hx hb dX11_right_36 rfl (lv_at hl 0 rfl) ?_
      refine va_get (D := D) (ci := 11) (v := .ref (aN 0)) (C := RX11) (T := TX11) (N := 6) hx hb hts hiX11 hown hK hP 0 rfl rfl 0 (by decide) hf36 (fun _ z => z) rfl dX11_right_37 ?_
      obtain ⟨r40, g40, h⟩ := k_bind h
      refine k_callV (As := []) (rest := []) (st1 := [.int r40.1]) (ws2 := (Wd31 cI cM aV aN aS aT aW aK v_hasImage nS.1 nS.2.1 nS.2.2.1 nS.2.2.2.1 nS.2.2.2.2.1 nS.2.2.2.2.2.1 nS.2.2.2.2.2.2.1 nS.2.2.2.2.2.2.2.1 nS.2.2.2.2.2.2.2.2.1 nS.2.2.2.2.2.2.2.2.2.1 r40.2)) hx hb hml hown hts hK hN hA hP hD hS hl (c_City_walls l D cI cM cS cJ aN aK s.heap.size nS.1 nS.2.1 nS.2.2.1 nS.2.2.2.1 nS.2.2.2.2.1 nS.2.2.2.2.2.1 nS.2.2.2.2.2.2.1 nS.2.2.2.2.2.2.2.2.2.1 nS.2.2.2.2.2.2.2.2.2.2 g40) gX11_right_X2_walls rfl kdV_X2_walls 0 2 rfl rfl rfl [1, 4, 5] ⟨rfl, rfl⟩ ⟨Nat.le_of_ble_eq_true rfl, Nat.le_of_ble_eq_true rfl⟩ ⟨Nat.zero_le _, Nat.zero_le _⟩ rfl rfl (by decide +kernel) rfl rfl rfl (Nat.le_of_ble_eq_true rfl) dX11_right_40 rfl (fun H locs hP hD hS => ?_)
      cases h
      exact hret _ _ _ _ hP hS dX11_right_43
    · have h := k_neg s1_1 h
      by_cases s1_2 : x1 = 2
      · refine k_tblI (tgt := 44) (v := 2) hx hb dX11_right_1 s1_2 (by decide) (by decide) rfl (by decide) ?_
        have h := k_pos s1_2 h
        refine lv_aload_n hx hb dX11_right_44 rfl (lv_at hl 0 rfl) ?_
        refine va_get (D := D) (ci := 11) (v := .ref (aN 0)) (C := RX11) (T := TX11) (N := 6) hx hb hts hiX11 hown hK hP 0 rfl rfl 0 (by decide) hf36 (fun _ z => z) rfl dX11_right_45 ?_
        obtain ⟨r48, g48, h⟩ := k_bind h
        refine k_callV (As := []) (rest := []) (st1 := [.int r48]) (ws2 := (Wd31 cI cM aV aN aS aT aW aK v_hasImage nS.1 nS.2.1 nS.2.2.1 nS.2.2.2.1 nS.2.2.2.2.1 nS.2.2.2.2.2.1 nS.2.2.2.2.2.2.1 nS.2.2.2.2.2.2.2.1 nS.2.2.2.2.2.2.2.2.1 nS.2.2.2.2.2.2.2.2.2.1 nS.2.2.2.2.2.2.2.2.2.2)) hx hb hml hown hts hK hN hA hP hD hS hl (c_City_balance l D cI cM cS cJ aN aK s.heap.size nS.1 nS.2.1 nS.2.2.1 nS.2.2.2.1 nS.2.2.2.2.1 nS.2.2.2.2.2.1 nS.2.2.2.2.2.2.1 nS.2.2.2.2.2.2.2.2.2.1 g48) gX11_right_X2_balance rfl kdV_X2_balance 0 2 rfl rfl rfl [1, 4] ⟨rfl, rfl⟩ ⟨Nat.le_of_ble_eq_true rfl, Nat.le_of_ble_eq_true rfl⟩ ⟨Nat.zero_le _, Nat.zero_le _⟩ rfl rfl (by decide +kernel) rfl rfl rfl (Nat.le_of_ble_eq_true rfl) dX11_right_48 rfl (fun H locs hP hD hS => ?_)
        cases h
        exact hret _ _ _ _ hP hS dX11_right_51
      · have h := k_neg s1_2 h
        refine lv_tableOut (tgt := 52) hx hb dX11_right_1 (k_out [0, 1, 2] (by decide) (List.forall_mem_cons.mpr ⟨s1_0, (List.forall_mem_cons.mpr ⟨s1_1, (List.forall_mem_cons.mpr ⟨s1_2, (fun _ z => absurd z List.not_mem_nil)⟩)⟩)⟩)) (by decide) ?_
        refine lv_iconst (v := (-1)) hx hb dX11_right_52 (by decide) ?_
        cases h
        exact hret _ _ _ _ hP hS dX11_right_53
abbrev Wd32 (cI : ClassId) (cM : ClassId) (cS : ClassId) (aV : Nat → Nat) (aN : Nat → Nat) (aS : Nat → Nat) (aT : Nat → Nat) (aW : Nat → Nat) (aM : Nat → Nat) (aK : Nat → Nat) (aH : Nat → Nat → Nat) (dn : Nat) (v_hasImage : Int32) (n_men : Int32) (n_propped : Int32) (n_place : Int32) (n_swings : Int32) (n_crashes : Int32) (n_day : Int32) (n_crashedToday : Int32) (n_kind : Nat → Int32) (n_figure : Nat → Int32) (n_lean : Nat → Int32) (m_men : Int32) (m_propped : Int32) (m_place : Int32) (m_swings : Int32) (m_crashes : Int32) (m_day : Int32) (m_crashedToday : Int32) (m_kind : Nat → Int32) (m_figure : Nat → Int32) (m_lean : Nat → Int32) (d_kind : Int32) (d_figure : Int32) (d_sort : Int32) (d_size : Int32) (d_held : Int32) (d_el : Nat → Int32) : va_W := [((aV 0), .inr (11, [.ref (aN 0), .ref (aS 0), .ref (aT 0), .ref (aW 0), .ref (aV 1), .int v_hasImage])), ((aV 1), .inl (cS, 8, .inr (.inr (.inr (.inr (fun k => some (aH k 0))))))), ((aN 0), .inr (2, [.ref (aN 1), .ref (aN 2), .ref (aN 3), .int n_men, .int n_propped, .int n_place, .int n_swings, .int n_crashes, .int n_day, .int n_crashedToday, .ref (aK 8), .ref (aN 4)])), ((aN 1), .inl (cI, 8, .inl n_kind)), ((aN 2), .inl (cI, 8, .inl n_figure)), ((aN 3), .inl (cI, 8, .inl n_lean)), ((aW 0), .inr (5, [.ref (aN 0), .ref (aM 0), .ref (aW 1), .ref (aW 2), .ref (aW 3)])), ((aM 0), .inr (2, [.ref (aM 1), .ref (aM 2), .ref (aM 3), .int m_men, .int m_propped, .int m_place, .int m_swings, .int m_crashes, .int m_day, .int m_crashedToday, .ref (aK 8), .ref (aM 4)])), ((aM 1), .inl (cI, 8, .inl m_kind)), ((aM 2), .inl (cI, 8, .inl m_figure)), ((aM 3), .inl (cI, 8, .inl m_lean)), (((aH dn) 0), .inr (9, [.ref ((aH dn) 1), .int d_kind, .int d_figure, .int d_sort, .int d_size, .int d_held, .ref (aK 8)])), (((aH dn) 1), .inl (cI, 100, .inl d_el)), ((aK 8), .inl (cM, 8, .inr (.inr (.inr (.inr (fun k => some (aK k))))))), ((aK 0), .inr (4, [])), ((aK 1), .inr (0, [])), ((aK 2), .inr (7, [])), ((aK 3), .inr (3, [])), ((aK 4), .inr (1, [])), ((aK 5), .inr (8, [])), ((aK 6), .inr (10, [])), ((aK 7), .inr (6, []))]
theorem kdV_X5_figuresThatDid : yX5_figuresThatDid.cls = RX5 ∧ yX5_figuresThatDid.cls ≠ "java/lang/invoke/MethodHandle" ∧ yX5_figuresThatDid.cls ≠ "java/lang/invoke/VarHandle" ∧ (parseMethodDescriptor yX5_figuresThatDid.desc).map (fun d => d.parameters.length) = some 2 := by decide +kernel
theorem kdV_X5_kindsThatDid : yX5_kindsThatDid.cls = RX5 ∧ yX5_kindsThatDid.cls ≠ "java/lang/invoke/MethodHandle" ∧ yX5_kindsThatDid.cls ≠ "java/lang/invoke/VarHandle" ∧ (parseMethodDescriptor yX5_kindsThatDid.desc).map (fun d => d.parameters.length) = some 2 := by decide +kernel
abbrev rm_X11_whatIs : Room := { frames := 6, cells := 0, slots := 0, locals := 152 }
set_option maxHeartbeats 4000000 in
set_option maxRecDepth 100000 in
theorem c_PL_whatIs (l : Launch) (D : va_G) (cI cM cS cJ : ClassId) (aV : Nat → Nat) (aN : Nat → Nat) (aS : Nat → Nat) (aT : Nat → Nat) (aW : Nat → Nat) (aM : Nat → Nat) (aK : Nat → Nat) (aH : Nat → Nat → Nat) (dn : Nat) (sz : Nat) (x1 : Int32) (x2 : Int32) (x3 : Int32) (v_hasImage : Int32) (nS : CS) (mS : CS) (d_kind : Int32) (d_figure : Int32) (d_sort : Int32) (d_size : Int32) (d_held : Int32) (d_el : Nat → Int32) (hdn : ¬ (x1 < 0 ∨ 8 ≤ x1.toNatClampNeg) → x1.toNatClampNeg = dn) {o : (Int32) × (CS)} (hsem : S_PL_whatIs x1 x2 x3 nS mS d_sort d_size d_held d_el = some o) : kMet l yX11_whatIs wsX11_whatIs rm_X11_whatIs [.ref (aV 0), .int x1, .int x2, .int x3] D (kT cI cM cS cJ) (Wd32 cI cM cS aV aN aS aT aW aM aK aH dn v_hasImage nS.1 nS.2.1 nS.2.2.1 nS.2.2.2.1 nS.2.2.2.2.1 nS.2.2.2.2.2.1 nS.2.2.2.2.2.2.1 nS.2.2.2.2.2.2.2.1 nS.2.2.2.2.2.2.2.2.1 nS.2.2.2.2.2.2.2.2.2.1 mS.1 mS.2.1 mS.2.2.1 mS.2.2.2.1 mS.2.2.2.2.1 mS.2.2.2.2.2.1 mS.2.2.2.2.2.2.1 mS.2.2.2.2.2.2.2.1 mS.2.2.2.2.2.2.2.2.1 mS.2.2.2.2.2.2.2.2.2.1 d_kind d_figure d_sort d_size d_held d_el) sz (some (.int o.1)) (Wd32 cI cM cS aV aN aS aT aW aM aK aH dn v_hasImage nS.1 nS.2.1 nS.2.2.1 nS.2.2.2.1 nS.2.2.2.2.1 nS.2.2.2.2.2.1 nS.2.2.2.2.2.2.1 nS.2.2.2.2.2.2.2.1 nS.2.2.2.2.2.2.2.2.1 nS.2.2.2.2.2.2.2.2.2.1 o.2.1 o.2.2.1 o.2.2.2.1 o.2.2.2.2.1 o.2.2.2.2.2.1 o.2.2.2.2.2.2.1 o.2.2.2.2.2.2.2.1 o.2.2.2.2.2.2.2.2.1 o.2.2.2.2.2.2.2.2.2.1 o.2.2.2.2.2.2.2.2.2.2.1 d_kind d_figure d_sort d_size d_held d_el) := by
  refine k_metI (by decide) rfl rfl (Nat.le_of_ble_eq_true rfl) ?_
  intro p e s m below meth c ls Q A hx hb hml hts hown hK hN hA hP hD hS hl hsz hnm hret
  have hown : s.vm.findClass RX11 = some m.cls := hown
  have hf36 := hts (.fieldLink RX11 36 "PlumbLine" "now" "LPlumbLine$City;") (List.mem_of_getElem? (i := 1) rfl)
  have hf53 := hts (.fieldLink RX11 53 "PlumbLine" "mind" "LPlumbLine$Mind;") (List.mem_of_getElem? (i := 2) rfl)
  have hf59 := hts (.fieldLink RX11 59 "PlumbLine" "shelves" "[LPlumbLine$Shelf;") (List.mem_of_getElem? (i := 3) rfl)
  have hiX11 : ∀ w ∈ u_ws RX11 TX11 6, w ∈ wsX11_whatIs := fun w h => List.mem_cons_of_mem _ (List.mem_append_left _ (List.mem_append_left _ (List.mem_append_left _ (List.mem_append_right _ h))))
  replace hl : lv_has ls 5 [(0, .ref (aV 0)), (1, .int x1), (2, .int x2), (3, .int x3)] := hl
  have h := hsem
  clear hsem
  rw [S_PL_whatIs] at h
  refine lv_aload_n hx hb dX11_whatIs_0 rfl (lv_at hl 0 rfl) ?_
  refine va_get (D := D) (ci := 11) (v := .ref (aN 0)) (C := RX11) (T := TX11) (N := 6) hx hb hts hiX11 hown hK hP 0 rfl rfl 0 (by decide) hf36 (fun _ z => z) rfl dX11_whatIs_1 ?_
  refine lv_iload_n hx hb dX11_whatIs_4 rfl (lv_at hl 2 rfl) ?_
  refine k_callV (As := [.int x2]) (rest := []) (st1 := [.int (S_City_has x2 nS.1)]) (ws2 := (Wd32 cI cM cS aV aN aS aT aW aM aK aH dn v_hasImage nS.1 nS.2.1 nS.2.2.1 nS.2.2.2.1 nS.2.2.2.2.1 nS.2.2.2.2.2.1 nS.2.2.2.2.2.2.1 nS.2.2.2.2.2.2.2.1 nS.2.2.2.2.2.2.2.2.1 nS.2.2.2.2.2.2.2.2.2.1 mS.1 mS.2.1 mS.2.2.1 mS.2.2.2.1 mS.2.2.2.2.1 mS.2.2.2.2.2.1 mS.2.2.2.2.2.2.1 mS.2.2.2.2.2.2.2.1 mS.2.2.2.2.2.2.2.2.1 mS.2.2.2.2.2.2.2.2.2.1 d_kind d_figure d_sort d_size d_held d_el)) hx hb hml hown hts hK hN hA hP hD hS hl (c_City_has l D cI cM cS cJ aN aK s.heap.size x2 nS.1 nS.2.1 nS.2.2.1 nS.2.2.2.1 nS.2.2.2.2.1 nS.2.2.2.2.2.1 nS.2.2.2.2.2.2.1 rfl) gX11_whatIs_X2_has rfl kdV_X2_has 0 2 rfl rfl rfl [2] ⟨rfl, rfl⟩ ⟨Nat.le_of_ble_eq_true rfl, Nat.le_of_ble_eq_true rfl⟩ ⟨Nat.zero_le _, Nat.zero_le _⟩ rfl rfl (by decide +kernel) rfl rfl rfl (Nat.le_of_ble_eq_true rfl) dX11_whatIs_5 rfl (fun H locs hP hD hS => ?_)
  refine lv_if_eq (tgt := 20) hx hb dX11_whatIs_8 (by decide) (fun c8 => ?_) (fun c8 => ?_)
  · have h := k_pos c8 h
    refine lv_iconst (v := (-1)) hx hb dX11_whatIs_20 (by decide) ?_
    cases h
    exact hret _ _ _ _ hP hS dX11_whatIs_21
  · have h := k_neg c8 h
    refine lv_iload_n hx hb dX11_whatIs_11 rfl (lv_at hl 3 rfl) ?_
    refine lv_iconst (v := 0) hx hb dX11_whatIs_12 (by decide) ?_
    refine lv_iconst (v := 1) hx hb dX11_whatIs_13 (by decide) ?_
    refine k_callS (As := [.int x3, .int 0, .int 1]) (rest := []) (st1 := [.int (S_PL_isIn x3 0 1)]) (ws2 := (Wd32 cI cM cS aV aN aS aT aW aM aK aH dn v_hasImage nS.1 nS.2.1 nS.2.2.1 nS.2.2.2.1 nS.2.2.2.2.1 nS.2.2.2.2.2.1 nS.2.2.2.2.2.2.1 nS.2.2.2.2.2.2.2.1 nS.2.2.2.2.2.2.2.2.1 nS.2.2.2.2.2.2.2.2.2.1 mS.1 mS.2.1 mS.2.2.1 mS.2.2.2.1 mS.2.2.2.2.1 mS.2.2.2.2.2.1 mS.2.2.2.2.2.2.1 mS.2.2.2.2.2.2.2.1 mS.2.2.2.2.2.2.2.2.1 mS.2.2.2.2.2.2.2.2.2.1 d_kind d_figure d_sort d_size d_held d_el)) hx hb hml hown hts hK hN hA hP hD hS hl (c_PL_isIn l D cI cM cS cJ H.size x3 0 1 rfl) gX11_whatIs_X11_isIn rfl kdS_X11_isIn [] ⟨rfl, rfl⟩ ⟨Nat.le_of_ble_eq_true rfl, Nat.le_of_ble_eq_true rfl⟩ ⟨Nat.zero_le _, Nat.zero_le _⟩ rfl rfl (by decide +kernel) rfl rfl rfl (Nat.le_of_ble_eq_true rfl) dX11_whatIs_14 rfl (fun H locs hP hD hS => ?_)
    refine lv_if_ne (tgt := 22) hx hb dX11_whatIs_17 (by decide) (fun c17 => ?_) (fun c17 => ?_)
    · have h := k_neg c17 h
      refine lv_aload_n hx hb dX11_whatIs_22 rfl (lv_at hl 0 rfl) ?_
      refine lv_iload_n hx hb dX11_whatIs_23 rfl (lv_at hl 1 rfl) ?_
      obtain ⟨r24, g24, h⟩ := k_bind h
      refine k_callV (As := [.int x1]) (rest := []) (st1 := [.int r24]) (ws2 := (Wd32 cI cM cS aV aN aS aT aW aM aK aH dn v_hasImage nS.1 nS.2.1 nS.2.2.1 nS.2.2.2.1 nS.2.2.2.2.1 nS.2.2.2.2.2.1 nS.2.2.2.2.2.2.1 nS.2.2.2.2.2.2.2.1 nS.2.2.2.2.2.2.2.2.1 nS.2.2.2.2.2.2.2.2.2.1 mS.1 mS.2.1 mS.2.2.1 mS.2.2.2.1 mS.2.2.2.2.1 mS.2.2.2.2.2.1 mS.2.2.2.2.2.2.1 mS.2.2.2.2.2.2.2.1 mS.2.2.2.2.2.2.2.2.1 mS.2.2.2.2.2.2.2.2.2.1 d_kind d_figure d_sort d_size d_held d_el)) hx hb hml hown hts hK hN hA hP hD hS hl (c_PL_refusalOfRow l D cI cM cS cJ aV aN aS aT aW aK aH dn H.size x1 v_hasImage d_kind d_figure d_sort d_size d_held hdn g24) gX11_whatIs_X11_refusalOfRow rfl kdV_X11_refusalOfRow 0 11 rfl rfl rfl [0, 1, 11] ⟨rfl, rfl⟩ ⟨Nat.le_of_ble_eq_true rfl, Nat.le_of_ble_eq_true rfl⟩ ⟨Nat.zero_le _, Nat.zero_le _⟩ rfl rfl (by decide +kernel) rfl rfl rfl (Nat.le_of_ble_eq_true rfl) dX11_whatIs_24 rfl (fun H locs hP hD hS => ?_)
      refine lv_istore (lv' := [(4, .int r24), (0, .ref (aV 0)), (1, .int x1), (2, .int x2), (3, .int x3)]) hx hb dX11_whatIs_27 hl (by decide) rfl (fun ls hl => ?_)
      refine lv_iload hx hb dX11_whatIs_29 (lv_at hl 0 rfl) ?_
      refine lv_if_eq (tgt := 37) hx hb dX11_whatIs_31 (by decide) (fun c31 => ?_) (fun c31 => ?_)
      · have h := k_pos c31 h
        refine lv_iload_n hx hb dX11_whatIs_37 rfl (lv_at hl 4 rfl) ?_
        refine lv_if_ne (tgt := 58) hx hb dX11_whatIs_38 (by decide) (fun c38 => ?_) (fun c38 => ?_)
        · have h := k_neg c38 h
          refine lv_aload_n hx hb dX11_whatIs_58 rfl (lv_at hl 1 rfl) ?_
          refine va_get (D := D) (ci := 11) (v := .ref (aW 0)) (C := RX11) (T := TX11) (N := 6) hx hb hts hiX11 hown hK hP 0 rfl rfl 3 (by decide) hf53 (fun _ z => z) rfl dX11_whatIs_59 ?_
          refine lv_iload_n hx hb dX11_whatIs_62 rfl (lv_at hl 3 rfl) ?_
          refine lv_aload_n hx hb dX11_whatIs_63 rfl (lv_at hl 1 rfl) ?_
          refine va_get (D := D) (ci := 11) (v := .ref (aV 1)) (C := RX11) (T := TX11) (N := 6) hx hb hts hiX11 hown hK hP 0 rfl rfl 4 (by decide) hf59 (fun _ z => z) rfl dX11_whatIs_64 ?_
          refine lv_iload_n hx hb dX11_whatIs_67 rfl (lv_at hl 2 rfl) ?_
          obtain ⟨g68, h⟩ := k_guard h
          refine k_aldR (f := fun k => aH k 0) hx hb hK hP 1 2 rfl rfl g68 dX11_whatIs_68 ?_
          rw [show x1.toNatClampNeg = dn from hdn g68]
          obtain ⟨r69, g69, h⟩ := k_bind h
          refine k_callV (As := [.int x2, .ref ((aH dn) 0)]) (rest := []) (st1 := [.int r69.1]) (ws2 := (Wd32 cI cM cS aV aN aS aT aW aM aK aH dn v_hasImage nS.1 nS.2.1 nS.2.2.1 nS.2.2.2.1 nS.2.2.2.2.1 nS.2.2.2.2.2.1 nS.2.2.2.2.2.2.1 nS.2.2.2.2.2.2.2.1 nS.2.2.2.2.2.2.2.2.1 nS.2.2.2.2.2.2.2.2.2.1 r69.2.1 r69.2.2.1 r69.2.2.2.1 r69.2.2.2.2.1 r69.2.2.2.2.2.1 r69.2.2.2.2.2.2.1 r69.2.2.2.2.2.2.2.1 r69.2.2.2.2.2.2.2.2.1 r69.2.2.2.2.2.2.2.2.2.1 r69.2.2.2.2.2.2.2.2.2.2.1 d_kind d_figure d_sort d_size d_held d_el)) hx hb hml hown hts hK hN hA hP hD hS hl (c_Mind_figuresThatDid l D cI cM cS cJ (aH dn) aN aW aM aK H.size x2 nS mS d_kind d_figure d_sort d_size d_held d_el g69) gX11_whatIs_X5_figuresThatDid rfl kdV_X5_figuresThatDid 0 5 rfl rfl rfl [6, 2, 3, 4, 5, 7, 8, 9, 10, 11, 12, 13, 14, 15, 16, 17, 18, 19, 20, 21] ⟨rfl, rfl⟩ ⟨Nat.le_of_ble_eq_true rfl, Nat.le_of_ble_eq_true rfl⟩ ⟨Nat.zero_le _, Nat.zero_le _⟩ rfl rfl (by decide +kernel) rfl rfl rfl (Nat.le_of_ble_eq_true rfl) dX11_whatIs_69 rfl (fun H locs hP hD hS => ?_)
          cases h
          exact hret _ _ _ _ hP hS dX11_whatIs_72
        · have h := k_pos c38 h
          refine lv_aload_n hx hb dX11_whatIs_41 rfl (lv_at hl 1 rfl) ?_
          refine va_get (D := D) (ci := 11) (v := .ref (aW 0)) (C := RX11) (T := TX11) (N := 6) hx hb hts hiX11 hown hK hP 0 rfl rfl 3 (by decide) hf53 (fun _ z => z) rfl dX11_whatIs_42 ?_
          refine lv_iload_n hx hb dX11_whatIs_45 rfl (lv_at hl 3 rfl) ?_
          refine lv_aload_n hx hb dX11_whatIs_46 rfl (lv_at hl 1 rfl) ?_
          refine va_get (D := D) (ci := 11) (v := .ref (aV 1)) (C := RX11) (T := TX11) (N := 6) hx hb hts hiX11 hown hK hP 0 rfl rfl 4 (by decide) hf59 (fun _ z => z) rfl dX11_whatIs_47 ?_
          refine lv_iload_n hx hb dX11_whatIs_50 rfl (lv_at hl 2 rfl) ?_
          obtain ⟨g51, h⟩ := k_guard h
          refine k_aldR (f := fun k => aH k 0) hx hb hK hP 1 2 rfl rfl g51 dX11_whatIs_51 ?_
          rw [show x1.toNatClampNeg = dn from hdn g51]
          obtain ⟨r52, g52, h⟩ := k_bind h
          refine k_callV (As := [.int x2, .ref ((aH dn) 0)]) (rest := []) (st1 := [.int r52.1]) (ws2 := (Wd32 cI cM cS aV aN aS aT aW aM aK aH dn v_hasImage nS.1 nS.2.1 nS.2.2.1 nS.2.2.2.1 nS.2.2.2.2.1 nS.2.2.2.2.2.1 nS.2.2.2.2.2.2.1 nS.2.2.2.2.2.2.2.1 nS.2.2.2.2.2.2.2.2.1 nS.2.2.2.2.2.2.2.2.2.1 r52.2.1 r52.2.2.1 r52.2.2.2.1 r52.2.2.2.2.1 r52.2.2.2.2.2.1 r52.2.2.2.2.2.2.1 r52.2.2.2.2.2.2.2.1 r52.2.2.2.2.2.2.2.2.1 r52.2.2.2.2.2.2.2.2.2.1 r52.2.2.2.2.2.2.2.2.2.2.1 d_kind d_figure d_sort d_size d_held d_el)) hx hb hml hown hts hK hN hA hP hD hS hl (c_Mind_kindsThatDid l D cI cM cS cJ (aH dn) aN aW aM aK H.size x2 nS mS d_kind d_figure d_sort d_size d_held d_el g52) gX11_whatIs_X5_kindsThatDid rfl kdV_X5_kindsThatDid 0 5 rfl rfl rfl [6, 2, 3, 4, 5, 7, 8, 9, 10, 11, 12, 13, 14, 15, 16, 17, 18, 19, 20, 21] ⟨rfl, rfl⟩ ⟨Nat.le_of_ble_eq_true rfl, Nat.le_of_ble_eq_true rfl⟩ ⟨Nat.zero_le _, Nat.zero_le _⟩ rfl rfl (by decide +kernel) rfl rfl rfl (Nat.le_of_ble_eq_true rfl) dX11_whatIs_52 rfl (fun H locs hP hD hS => ?_)
          refine lv_goto (tgt := 72) hx hb dX11_whatIs_55 (by decide) ?_
          cases h
          exact hret _ _ _ _ hP hS dX11_whatIs_72
      · have h := k_neg c31 h
        refine lv_iload hx hb dX11_whatIs_34 (lv_at hl 0 rfl) ?_
        cases h
        exact hret _ _ _ _ hP hS dX11_whatIs_36
    · have h := k_pos c17 h
      refine lv_iconst (v := (-1)) hx hb dX11_whatIs_20 (by decide) ?_
      cases h
      exact hret _ _ _ _ hP hS dX11_whatIs_21
theorem kdV_X5_hangings : yX5_hangings.cls = RX5 ∧ yX5_hangings.cls ≠ "java/lang/invoke/MethodHandle" ∧ yX5_hangings.cls ≠ "java/lang/invoke/VarHandle" ∧ (parseMethodDescriptor yX5_hangings.desc).map (fun d => d.parameters.length) = some 2 := by decide +kernel
abbrev rm_X11_whereHung : Room := { frames := 6, cells := 0, slots := 0, locals := 156 }
set_option maxHeartbeats 4000000 in
set_option maxRecDepth 100000 in
theorem c_PL_whereHung (l : Launch) (D : va_G) (cI cM cS cJ : ClassId) (aV : Nat → Nat) (aN : Nat → Nat) (aS : Nat → Nat) (aT : Nat → Nat) (aW : Nat → Nat) (aM : Nat → Nat) (aK : Nat → Nat) (aH : Nat → Nat → Nat) (dn : Nat) (sz : Nat) (x1 : Int32) (x2 : Int32) (v_hasImage : Int32) (nS : CS) (mS : CS) (d_kind : Int32) (d_figure : Int32) (d_sort : Int32) (d_size : Int32) (d_held : Int32) (d_el : Nat → Int32) (hdn : ¬ (x1 < 0 ∨ 8 ≤ x1.toNatClampNeg) → x1.toNatClampNeg = dn) {o : (Int32) × (CS)} (hsem : S_PL_whereHung x1 x2 nS mS d_sort d_size d_held d_el = some o) : kMet l yX11_whereHung wsX11_whereHung rm_X11_whereHung [.ref (aV 0), .int x1, .int x2] D (kT cI cM cS cJ) (Wd32 cI cM cS aV aN aS aT aW aM aK aH dn v_hasImage nS.1 nS.2.1 nS.2.2.1 nS.2.2.2.1 nS.2.2.2.2.1 nS.2.2.2.2.2.1 nS.2.2.2.2.2.2.1 nS.2.2.2.2.2.2.2.1 nS.2.2.2.2.2.2.2.2.1 nS.2.2.2.2.2.2.2.2.2.1 mS.1 mS.2.1 mS.2.2.1 mS.2.2.2.1 mS.2.2.2.2.1 mS.2.2.2.2.2.1 mS.2.2.2.2.2.2.1 mS.2.2.2.2.2.2.2.1 mS.2.2.2.2.2.2.2.2.1 mS.2.2.2.2.2.2.2.2.2.1 d_kind d_figure d_sort d_size d_held d_el) sz (some (.int o.1)) (Wd32 cI cM cS aV aN aS aT aW aM aK aH dn v_hasImage nS.1 nS.2.1 nS.2.2.1 nS.2.2.2.1 nS.2.2.2.2.1 nS.2.2.2.2.2.1 nS.2.2.2.2.2.2.1 nS.2.2.2.2.2.2.2.1 nS.2.2.2.2.2.2.2.2.1 nS.2.2.2.2.2.2.2.2.2.1 o.2.1 o.2.2.1 o.2.2.2.1 o.2.2.2.2.1 o.2.2.2.2.2.1 o.2.2.2.2.2.2.1 o.2.2.2.2.2.2.2.1 o.2.2.2.2.2.2.2.2.1 o.2.2.2.2.2.2.2.2.2.1 o.2.2.2.2.2.2.2.2.2.2.1 d_kind d_figure d_sort d_size d_held d_el) := by
  refine k_metI (by decide) rfl rfl (Nat.le_of_ble_eq_true rfl) ?_
  intro p e s m below meth c ls Q A hx hb hml hts hown hK hN hA hP hD hS hl hsz hnm hret
  have hown : s.vm.findClass RX11 = some m.cls := hown
  have hf53 := hts (.fieldLink RX11 53 "PlumbLine" "mind" "LPlumbLine$Mind;") (List.mem_of_getElem? (i := 1) rfl)
  have hf59 := hts (.fieldLink RX11 59 "PlumbLine" "shelves" "[LPlumbLine$Shelf;") (List.mem_of_getElem? (i := 2) rfl)
  have hiX11 : ∀ w ∈ u_ws RX11 TX11 6, w ∈ wsX11_whereHung := fun w h => List.mem_cons_of_mem _ (List.mem_append_left _ (List.mem_append_left _ (List.mem_append_left _ (List.mem_append_right _ h))))
  replace hl : lv_has ls 4 [(0, .ref (aV 0)), (1, .int x1), (2, .int x2)] := hl
  have h := hsem
  clear hsem
  rw [S_PL_whereHung] at h
  refine lv_iload_n hx hb dX11_whereHung_0 rfl (lv_at hl 2 rfl) ?_
  refine lv_iconst (v := 0) hx hb dX11_whereHung_1 (by decide) ?_
  refine lv_iconst (v := 2) hx hb dX11_whereHung_2 (by decide) ?_
  refine k_callS (As := [.int x2, .int 0, .int 2]) (rest := []) (st1 := [.int (S_PL_isIn x2 0 2)]) (ws2 := (Wd32 cI cM cS aV aN aS aT aW aM aK aH dn v_hasImage nS.1 nS.2.1 nS.2.2.1 nS.2.2.2.1 nS.2.2.2.2.1 nS.2.2.2.2.2.1 nS.2.2.2.2.2.2.1 nS.2.2.2.2.2.2.2.1 nS.2.2.2.2.2.2.2.2.1 nS.2.2.2.2.2.2.2.2.2.1 mS.1 mS.2.1 mS.2.2.1 mS.2.2.2.1 mS.2.2.2.2.1 mS.2.2.2.2.2.1 mS.2.2.2.2.2.2.1 mS.2.2.2.2.2.2.2.1 mS.2.2.2.2.2.2.2.2.1 mS.2.2.2.2.2.2.2.2.2.1 d_kind d_figure d_sort d_size d_held d_el)) hx hb hml hown hts hK hN hA hP hD hS hl (c_PL_isIn l D cI cM cS cJ s.heap.size x2 0 2 rfl) gX11_whereHung_X11_isIn rfl kdS_X11_isIn [] ⟨rfl, rfl⟩ ⟨Nat.le_of_ble_eq_true rfl, Nat.le_of_ble_eq_true rfl⟩ ⟨Nat.zero_le _, Nat.zero_le _⟩ rfl rfl (by decide +kernel) rfl rfl rfl (Nat.le_of_ble_eq_true rfl) dX11_whereHung_3 rfl (fun H locs hP hD hS => ?_)
  refine lv_if_ne (tgt := 11) hx hb dX11_whereHung_6 (by decide) (fun c6 => ?_) (fun c6 => ?_)
  · have h := k_neg c6 h
    refine lv_aload_n hx hb dX11_whereHung_11 rfl (lv_at hl 0 rfl) ?_
    refine lv_iload_n hx hb dX11_whereHung_12 rfl (lv_at hl 1 rfl) ?_
    obtain ⟨r13, g13, h⟩ := k_bind h
    refine k_callV (As := [.int x1]) (rest := []) (st1 := [.int r13]) (ws2 := (Wd32 cI cM cS aV aN aS aT aW aM aK aH dn v_hasImage nS.1 nS.2.1 nS.2.2.1 nS.2.2.2.1 nS.2.2.2.2.1 nS.2.2.2.2.2.1 nS.2.2.2.2.2.2.1 nS.2.2.2.2.2.2.2.1 nS.2.2.2.2.2.2.2.2.1 nS.2.2.2.2.2.2.2.2.2.1 mS.1 mS.2.1 mS.2.2.1 mS.2.2.2.1 mS.2.2.2.2.1 mS.2.2.2.2.2.1 mS.2.2.2.2.2.2.1 mS.2.2.2.2.2.2.2.1 mS.2.2.2.2.2.2.2.2.1 mS.2.2.2.2.2.2.2.2.2.1 d_kind d_figure d_sort d_size d_held d_el)) hx hb hml hown hts hK hN hA hP hD hS hl (c_PL_refusalOfRow l D cI cM cS cJ aV aN aS aT aW aK aH dn H.size x1 v_hasImage d_kind d_figure d_sort d_size d_held hdn g13) gX11_whereHung_X11_refusalOfRow rfl kdV_X11_refusalOfRow 0 11 rfl rfl rfl [0, 1, 11] ⟨rfl, rfl⟩ ⟨Nat.le_of_ble_eq_true rfl, Nat.le_of_ble_eq_true rfl⟩ ⟨Nat.zero_le _, Nat.zero_le _⟩ rfl rfl (by decide +kernel) rfl rfl rfl (Nat.le_of_ble_eq_true rfl) dX11_whereHung_13 rfl (fun H locs hP hD hS => ?_)
    refine lv_istore_n (lv' := [(3, .int r13), (0, .ref (aV 0)), (1, .int x1), (2, .int x2)]) hx hb dX11_whereHung_16 rfl hl (by decide) rfl (fun ls hl => ?_)
    refine lv_iload_n hx hb dX11_whereHung_17 rfl (lv_at hl 0 rfl) ?_
    refine lv_if_eq (tgt := 25) hx hb dX11_whereHung_18 (by decide) (fun c18 => ?_) (fun c18 => ?_)
    · have h := k_pos c18 h
      refine lv_aload_n hx hb dX11_whereHung_25 rfl (lv_at hl 1 rfl) ?_
      refine va_get (D := D) (ci := 11) (v := .ref (aW 0)) (C := RX11) (T := TX11) (N := 6) hx hb hts hiX11 hown hK hP 0 rfl rfl 3 (by decide) hf53 (fun _ z => z) rfl dX11_whereHung_26 ?_
      refine lv_aload_n hx hb dX11_whereHung_29 rfl (lv_at hl 1 rfl) ?_
      refine va_get (D := D) (ci := 11) (v := .ref (aV 1)) (C := RX11) (T := TX11) (N := 6) hx hb hts hiX11 hown hK hP 0 rfl rfl 4 (by decide) hf59 (fun _ z => z) rfl dX11_whereHung_30 ?_
      refine lv_iload_n hx hb dX11_whereHung_33 rfl (lv_at hl 2 rfl) ?_
      obtain ⟨g34, h⟩ := k_guard h
      refine k_aldR (f := fun k => aH k 0) hx hb hK hP 1 2 rfl rfl g34 dX11_whereHung_34 ?_
      rw [show x1.toNatClampNeg = dn from hdn g34]
      refine lv_iload_n hx hb dX11_whereHung_35 rfl (lv_at hl 3 rfl) ?_
      obtain ⟨r36, g36, h⟩ := k_bind h
      refine k_callV (As := [.ref ((aH dn) 0), .int x2]) (rest := []) (st1 := [.int r36.1]) (ws2 := (Wd32 cI cM cS aV aN aS aT aW aM aK aH dn v_hasImage nS.1 nS.2.1 nS.2.2.1 nS.2.2.2.1 nS.2.2.2.2.1 nS.2.2.2.2.2.1 nS.2.2.2.2.2.2.1 nS.2.2.2.2.2.2.2.1 nS.2.2.2.2.2.2.2.2.1 nS.2.2.2.2.2.2.2.2.2.1 r36.2.1 r36.2.2.1 r36.2.2.2.1 r36.2.2.2.2.1 r36.2.2.2.2.2.1 r36.2.2.2.2.2.2.1 r36.2.2.2.2.2.2.2.1 r36.2.2.2.2.2.2.2.2.1 r36.2.2.2.2.2.2.2.2.2.1 r36.2.2.2.2.2.2.2.2.2.2.1 d_kind d_figure d_sort d_size d_held d_el)) hx hb hml hown hts hK hN hA hP hD hS hl (c_Mind_hangings l D cI cM cS cJ (aH dn) aN aW aM aK H.size x2 nS mS d_kind d_figure d_sort d_size d_held d_el g36) gX11_whereHung_X5_hangings rfl kdV_X5_hangings 0 5 rfl rfl rfl [6, 2, 3, 4, 5, 7, 8, 9, 10, 11, 12, 13, 14, 15, 16, 17, 18, 19, 20, 21] ⟨rfl, rfl⟩ ⟨Nat.le_of_ble_eq_true rfl, Nat.le_of_ble_eq_true rfl⟩ ⟨Nat.zero_le _, Nat.zero_le _⟩ rfl rfl (by decide +kernel) rfl rfl rfl (Nat.le_of_ble_eq_true rfl) dX11_whereHung_36 rfl (fun H locs hP hD hS => ?_)
      cases h
      exact hret _ _ _ _ hP hS dX11_whereHung_39
    · have h := k_neg c18 h
      refine lv_iload_n hx hb dX11_whereHung_21 rfl (lv_at hl 0 rfl) ?_
      refine lv_goto (tgt := 39) hx hb dX11_whereHung_22 (by decide) ?_
      cases h
      exact hret _ _ _ _ hP hS dX11_whereHung_39
  · have h := k_pos c6 h
    refine lv_iconst (v := (-1)) hx hb dX11_whereHung_9 (by decide) ?_
    cases h
    exact hret _ _ _ _ hP hS dX11_whereHung_10
abbrev Wd33 (cI : ClassId) (cM : ClassId) (aV : Nat → Nat) (aN : Nat → Nat) (aS : Nat → Nat) (aT : Nat → Nat) (aW : Nat → Nat) (aM : Nat → Nat) (aK : Nat → Nat) (v_hasImage : Int32) (n_men : Int32) (n_propped : Int32) (n_place : Int32) (n_swings : Int32) (n_crashes : Int32) (n_day : Int32) (n_crashedToday : Int32) (n_kind : Nat → Int32) (n_figure : Nat → Int32) (n_lean : Nat → Int32) (w_gains : Nat → Int32) (w_othersGains : Nat → Int32) (m_men : Int32) (m_propped : Int32) (m_place : Int32) (m_swings : Int32) (m_crashes : Int32) (m_day : Int32) (m_crashedToday : Int32) (m_kind : Nat → Int32) (m_figure : Nat → Int32) (m_lean : Nat → Int32) : va_W := [((aV 0), .inr (11, [.ref (aN 0), .ref (aS 0), .ref (aT 0), .ref (aW 0), .ref (aV 1), .int v_hasImage])), ((aN 0), .inr (2, [.ref (aN 1), .ref (aN 2), .ref (aN 3), .int n_men, .int n_propped, .int n_place, .int n_swings, .int n_crashes, .int n_day, .int n_crashedToday, .ref (aK 8), .ref (aN 4)])), ((aN 1), .inl (cI, 8, .inl n_kind)), ((aN 2), .inl (cI, 8, .inl n_figure)), ((aN 3), .inl (cI, 8, .inl n_lean)), ((aW 0), .inr (5, [.ref (aN 0), .ref (aM 0), .ref (aW 1), .ref (aW 2), .ref (aW 3)])), ((aW 1), .inl (cI, 4, .inl w_gains)), ((aW 2), .inl (cI, 4, .inl w_othersGains)), ((aM 0), .inr (2, [.ref (aM 1), .ref (aM 2), .ref (aM 3), .int m_men, .int m_propped, .int m_place, .int m_swings, .int m_crashes, .int m_day, .int m_crashedToday, .ref (aK 8), .ref (aM 4)])), ((aM 1), .inl (cI, 8, .inl m_kind)), ((aM 2), .inl (cI, 8, .inl m_figure)), ((aM 3), .inl (cI, 8, .inl m_lean)), ((aK 8), .inl (cM, 8, .inr (.inr (.inr (.inr (fun k => some (aK k))))))), ((aK 0), .inr (4, [])), ((aK 1), .inr (0, [])), ((aK 2), .inr (7, [])), ((aK 3), .inr (3, [])), ((aK 4), .inr (1, [])), ((aK 5), .inr (8, [])), ((aK 6), .inr (10, [])), ((aK 7), .inr (6, []))]
theorem kdV_X5_settledPair : yX5_settledPair.cls = RX5 ∧ yX5_settledPair.cls ≠ "java/lang/invoke/MethodHandle" ∧ yX5_settledPair.cls ≠ "java/lang/invoke/VarHandle" ∧ (parseMethodDescriptor yX5_settledPair.desc).map (fun d => d.parameters.length) = some 3 := by decide +kernel
abbrev rm_X11_two : Room := { frames := 6, cells := 0, slots := 0, locals := 154 }
set_option maxHeartbeats 4000000 in
set_option maxRecDepth 100000 in
theorem c_PL_two (l : Launch) (D : va_G) (cI cM cS cJ : ClassId) (aV : Nat → Nat) (aN : Nat → Nat) (aS : Nat → Nat) (aT : Nat → Nat) (aW : Nat → Nat) (aM : Nat → Nat) (aK : Nat → Nat) (sz : Nat) (x1 : Int32) (x2 : Int32) (x3 : Int32) (v_hasImage : Int32) (nS : CS) (w_gains : Nat → Int32) (w_othersGains : Nat → Int32) (mS : CS) {o : (Int32) × (Nat → Int32) × (Nat → Int32) × (CS)} (hsem : S_PL_two x1 x2 x3 nS w_gains w_othersGains mS = some o) : kMet l yX11_two wsX11_two rm_X11_two [.ref (aV 0), .int x1, .int x2, .int x3] D (kT cI cM cS cJ) (Wd33 cI cM aV aN aS aT aW aM aK v_hasImage nS.1 nS.2.1 nS.2.2.1 nS.2.2.2.1 nS.2.2.2.2.1 nS.2.2.2.2.2.1 nS.2.2.2.2.2.2.1 nS.2.2.2.2.2.2.2.1 nS.2.2.2.2.2.2.2.2.1 nS.2.2.2.2.2.2.2.2.2.1 w_gains w_othersGains mS.1 mS.2.1 mS.2.2.1 mS.2.2.2.1 mS.2.2.2.2.1 mS.2.2.2.2.2.1 mS.2.2.2.2.2.2.1 mS.2.2.2.2.2.2.2.1 mS.2.2.2.2.2.2.2.2.1 mS.2.2.2.2.2.2.2.2.2.1) sz (some (.int o.1)) (Wd33 cI cM aV aN aS aT aW aM aK v_hasImage nS.1 nS.2.1 nS.2.2.1 nS.2.2.2.1 nS.2.2.2.2.1 nS.2.2.2.2.2.1 nS.2.2.2.2.2.2.1 nS.2.2.2.2.2.2.2.1 nS.2.2.2.2.2.2.2.2.1 nS.2.2.2.2.2.2.2.2.2.1 o.2.1 o.2.2.1 o.2.2.2.1 o.2.2.2.2.1 o.2.2.2.2.2.1 o.2.2.2.2.2.2.1 o.2.2.2.2.2.2.2.1 o.2.2.2.2.2.2.2.2.1 o.2.2.2.2.2.2.2.2.2.1 o.2.2.2.2.2.2.2.2.2.2.1 o.2.2.2.2.2.2.2.2.2.2.2.1 o.2.2.2.2.2.2.2.2.2.2.2.2.1) := by
  refine k_metI (by decide) rfl rfl (Nat.le_of_ble_eq_true rfl) ?_
  intro p e s m below meth c ls Q A hx hb hml hts hown hK hN hA hP hD hS hl hsz hnm hret
  have hown : s.vm.findClass RX11 = some m.cls := hown
  have hf36 := hts (.fieldLink RX11 36 "PlumbLine" "now" "LPlumbLine$City;") (List.mem_of_getElem? (i := 1) rfl)
  have hf53 := hts (.fieldLink RX11 53 "PlumbLine" "mind" "LPlumbLine$Mind;") (List.mem_of_getElem? (i := 2) rfl)
  have hiX11 : ∀ w ∈ u_ws RX11 TX11 6, w ∈ wsX11_two := fun w h => List.mem_cons_of_mem _ (List.mem_append_left _ (List.mem_append_left _ (List.mem_append_right _ h)))
  replace hl : lv_has ls 4 [(0, .ref (aV 0)), (1, .int x1), (2, .int x2), (3, .int x3)] := hl
  have h := hsem
  clear hsem
  rw [S_PL_two] at h
  refine lv_aload_n hx hb dX11_two_0 rfl (lv_at hl 0 rfl) ?_
  refine va_get (D := D) (ci := 11) (v := .ref (aN 0)) (C := RX11) (T := TX11) (N := 6) hx hb hts hiX11 hown hK hP 0 rfl rfl 0 (by decide) hf36 (fun _ z => z) rfl dX11_two_1 ?_
  refine lv_iload_n hx hb dX11_two_4 rfl (lv_at hl 1 rfl) ?_
  refine k_callV (As := [.int x1]) (rest := []) (st1 := [.int (S_City_has x1 nS.1)]) (ws2 := (Wd33 cI cM aV aN aS aT aW aM aK v_hasImage nS.1 nS.2.1 nS.2.2.1 nS.2.2.2.1 nS.2.2.2.2.1 nS.2.2.2.2.2.1 nS.2.2.2.2.2.2.1 nS.2.2.2.2.2.2.2.1 nS.2.2.2.2.2.2.2.2.1 nS.2.2.2.2.2.2.2.2.2.1 w_gains w_othersGains mS.1 mS.2.1 mS.2.2.1 mS.2.2.2.1 mS.2.2.2.2.1 mS.2.2.2.2.2.1 mS.2.2.2.2.2.2.1 mS.2.2.2.2.2.2.2.1 mS.2.2.2.2.2.2.2.2.1 mS.2.2.2.2.2.2.2.2.2.1)) hx hb hml hown hts hK hN hA hP hD hS hl (c_City_has l D cI cM cS cJ aN aK s.heap.size x1 nS.1 nS.2.1 nS.2.2.1 nS.2.2.2.1 nS.2.2.2.2.1 nS.2.2.2.2.2.1 nS.2.2.2.2.2.2.1 rfl) gX11_two_X2_has rfl kdV_X2_has 0 2 rfl rfl rfl [1] ⟨rfl, rfl⟩ ⟨Nat.le_of_ble_eq_true rfl, Nat.le_of_ble_eq_true rfl⟩ ⟨Nat.zero_le _, Nat.zero_le _⟩ rfl rfl (by decide +kernel) rfl rfl rfl (Nat.le_of_ble_eq_true rfl) dX11_two_5 rfl (fun H locs hP hD hS => ?_)
  refine lv_if_eq (tgt := 37) hx hb dX11_two_8 (by decide) (fun c8 => ?_) (fun c8 => ?_)
  · have h := k_pos c8 h
    refine lv_iconst (v := (-1)) hx hb dX11_two_37 (by decide) ?_
    cases h
    exact hret _ _ _ _ hP hS dX11_two_38
  · have h := k_neg c8 h
    refine lv_aload_n hx hb dX11_two_11 rfl (lv_at hl 0 rfl) ?_
    refine va_get (D := D) (ci := 11) (v := .ref (aN 0)) (C := RX11) (T := TX11) (N := 6) hx hb hts hiX11 hown hK hP 0 rfl rfl 0 (by decide) hf36 (fun _ z => z) rfl dX11_two_12 ?_
    refine lv_iload_n hx hb dX11_two_15 rfl (lv_at hl 2 rfl) ?_
    refine k_callV (As := [.int x2]) (rest := []) (st1 := [.int (S_City_has x2 nS.1)]) (ws2 := (Wd33 cI cM aV aN aS aT aW aM aK v_hasImage nS.1 nS.2.1 nS.2.2.1 nS.2.2.2.1 nS.2.2.2.2.1 nS.2.2.2.2.2.1 nS.2.2.2.2.2.2.1 nS.2.2.2.2.2.2.2.1 nS.2.2.2.2.2.2.2.2.1 nS.2.2.2.2.2.2.2.2.2.1 w_gains w_othersGains mS.1 mS.2.1 mS.2.2.1 mS.2.2.2.1 mS.2.2.2.2.1 mS.2.2.2.2.2.1 mS.2.2.2.2.2.2.1 mS.2.2.2.2.2.2.2.1 mS.2.2.2.2.2.2.2.2.1 mS.2.2.2.2.2.2.2.2.2.1)) hx hb hml hown hts hK hN hA hP hD hS hl (c_City_has l D cI cM cS cJ aN aK H.size x2 nS.1 nS.2.1 nS.2.2.1 nS.2.2.2.1 nS.2.2.2.2.1 nS.2.2.2.2.2.1 nS.2.2.2.2.2.2.1 rfl) gX11_two_X2_has rfl kdV_X2_has 0 2 rfl rfl rfl [1] ⟨rfl, rfl⟩ ⟨Nat.le_of_ble_eq_true rfl, Nat.le_of_ble_eq_true rfl⟩ ⟨Nat.zero_le _, Nat.zero_le _⟩ rfl rfl (by decide +kernel) rfl rfl rfl (Nat.le_of_ble_eq_true rfl) dX11_two_16 rfl (fun H locs hP hD hS => ?_)
    refine lv_if_eq (tgt := 37) hx hb dX11_two_19 (by decide) (fun c19 => ?_) (fun c19 => ?_)
    · have h := k_pos c19 h
      refine lv_iconst (v := (-1)) hx hb dX11_two_37 (by decide) ?_
      cases h
      exact hret _ _ _ _ hP hS dX11_two_38
    · have h := k_neg c19 h
      refine lv_iload_n hx hb dX11_two_22 rfl (lv_at hl 1 rfl) ?_
      refine lv_iload_n hx hb dX11_two_23 rfl (lv_at hl 2 rfl) ?_
      refine lv_icmp_eq (tgt := 37) hx hb dX11_two_24 (by decide) (fun c24 => ?_) (fun c24 => ?_)
      · have h := k_pos c24 h
        refine lv_iconst (v := (-1)) hx hb dX11_two_37 (by decide) ?_
        cases h
        exact hret _ _ _ _ hP hS dX11_two_38
      · have h := k_neg c24 h
        refine lv_iload_n hx hb dX11_two_27 rfl (lv_at hl 3 rfl) ?_
        refine lv_iconst (v := 1) hx hb dX11_two_28 (by decide) ?_
        refine lv_bipush (v := 30) hx hb dX11_two_29 (by decide) ?_
        refine k_callS (As := [.int x3, .int 1, .int 30]) (rest := []) (st1 := [.int (S_PL_isIn x3 1 30)]) (ws2 := (Wd33 cI cM aV aN aS aT aW aM aK v_hasImage nS.1 nS.2.1 nS.2.2.1 nS.2.2.2.1 nS.2.2.2.2.1 nS.2.2.2.2.2.1 nS.2.2.2.2.2.2.1 nS.2.2.2.2.2.2.2.1 nS.2.2.2.2.2.2.2.2.1 nS.2.2.2.2.2.2.2.2.2.1 w_gains w_othersGains mS.1 mS.2.1 mS.2.2.1 mS.2.2.2.1 mS.2.2.2.2.1 mS.2.2.2.2.2.1 mS.2.2.2.2.2.2.1 mS.2.2.2.2.2.2.2.1 mS.2.2.2.2.2.2.2.2.1 mS.2.2.2.2.2.2.2.2.2.1)) hx hb hml hown hts hK hN hA hP hD hS hl (c_PL_isIn l D cI cM cS cJ H.size x3 1 30 rfl) gX11_two_X11_isIn rfl kdS_X11_isIn [] ⟨rfl, rfl⟩ ⟨Nat.le_of_ble_eq_true rfl, Nat.le_of_ble_eq_true rfl⟩ ⟨Nat.zero_le _, Nat.zero_le _⟩ rfl rfl (by decide +kernel) rfl rfl rfl (Nat.le_of_ble_eq_true rfl) dX11_two_31 rfl (fun H locs hP hD hS => ?_)
        refine lv_if_ne (tgt := 39) hx hb dX11_two_34 (by decide) (fun c34 => ?_) (fun c34 => ?_)
        · have h := k_neg c34 h
          refine lv_aload_n hx hb dX11_two_39 rfl (lv_at hl 0 rfl) ?_
          refine va_get (D := D) (ci := 11) (v := .ref (aW 0)) (C := RX11) (T := TX11) (N := 6) hx hb hts hiX11 hown hK hP 0 rfl rfl 3 (by decide) hf53 (fun _ z => z) rfl dX11_two_40 ?_
          refine lv_iload_n hx hb dX11_two_43 rfl (lv_at hl 1 rfl) ?_
          refine lv_iload_n hx hb dX11_two_44 rfl (lv_at hl 2 rfl) ?_
          refine lv_iload_n hx hb dX11_two_45 rfl (lv_at hl 3 rfl) ?_
          obtain ⟨r46, g46, h⟩ := k_bind h
          refine k_callV (As := [.int x1, .int x2, .int x3]) (rest := []) (st1 := [.int r46.1]) (ws2 := (Wd33 cI cM aV aN aS aT aW aM aK v_hasImage nS.1 nS.2.1 nS.2.2.1 nS.2.2.2.1 nS.2.2.2.2.1 nS.2.2.2.2.2.1 nS.2.2.2.2.2.2.1 nS.2.2.2.2.2.2.2.1 nS.2.2.2.2.2.2.2.2.1 nS.2.2.2.2.2.2.2.2.2.1 r46.2.1 r46.2.2.1 r46.2.2.2.1 r46.2.2.2.2.1 r46.2.2.2.2.2.1 r46.2.2.2.2.2.2.1 r46.2.2.2.2.2.2.2.1 r46.2.2.2.2.2.2.2.2.1 r46.2.2.2.2.2.2.2.2.2.1 r46.2.2.2.2.2.2.2.2.2.2.1 r46.2.2.2.2.2.2.2.2.2.2.2.1 r46.2.2.2.2.2.2.2.2.2.2.2.2.1)) hx hb hml hown hts hK hN hA hP hD hS hl (c_Mind_settledPair l D cI cM cS cJ aN aW aM aK H.size x1 x2 x3 w_gains w_othersGains nS mS g46) gX11_two_X5_settledPair rfl kdV_X5_settledPair 0 5 rfl rfl rfl [5, 6, 7, 1, 2, 3, 4, 8, 9, 10, 11, 12, 13, 14, 15, 16, 17, 18, 19, 20] ⟨rfl, rfl⟩ ⟨Nat.le_of_ble_eq_true rfl, Nat.le_of_ble_eq_true rfl⟩ ⟨Nat.zero_le _, Nat.zero_le _⟩ rfl rfl (by decide +kernel) rfl rfl rfl (Nat.le_of_ble_eq_true rfl) dX11_two_46 rfl (fun H locs hP hD hS => ?_)
          cases h
          exact hret _ _ _ _ hP hS dX11_two_49
        · have h := k_pos c34 h
          refine lv_iconst (v := (-1)) hx hb dX11_two_37 (by decide) ?_
          cases h
          exact hret _ _ _ _ hP hS dX11_two_38
abbrev rm_X11_commonDivisor : Room := { frames := 0, cells := 0, slots := 0, locals := 0 }
set_option maxHeartbeats 4000000 in
set_option maxRecDepth 100000 in
theorem c_PL_commonDivisor (l : Launch) (D : va_G) (cI cM cS cJ : ClassId) (sz : Nat) (x0 : Int64) (x2 : Int64) {o : (Int64)} (hsem : S_PL_commonDivisor x0 x2 = some o) : kMet l yX11_commonDivisor wsX11_commonDivisor rm_X11_commonDivisor [.long x0, .long x2] D (kT cI cM cS cJ) (Wd0) sz (some (.long o)) (Wd0) := by
  refine k_metJ (by decide) rfl rfl (Nat.le_of_ble_eq_true rfl) ?_
  intro p e s m below meth c ls Q A hx hb hml hts hown hK hN hA hP hD hS hl hsz hnm hret
  have hown : s.vm.findClass RX11 = some m.cls := hown
  replace hl : lv_has ls 11 [(0, .long x0), (2, .long x2)] := hl
  have h := hsem
  clear hsem
  rw [S_PL_commonDivisor] at h
  refine lv_lload_n hx hb dX11_commonDivisor_0 rfl (lv_at hl 0 rfl) ?_
  refine lv_lstore (lv' := [(4, .long x0), (0, .long x0), (2, .long x2)]) hx hb dX11_commonDivisor_1 hl (by decide) rfl (fun ls hl => ?_)
  refine lv_lload_n hx hb dX11_commonDivisor_3 rfl (lv_at hl 2 rfl) ?_
  refine lv_lstore (lv' := [(6, .long x2), (4, .long x0), (0, .long x0), (2, .long x2)]) hx hb dX11_commonDivisor_4 hl (by decide) rfl (fun ls hl => ?_)
  refine lv_iconst (v := 0) hx hb dX11_commonDivisor_6 (by decide) ?_
  have B9 : ∀ (n9 : Nat) (y4 : Int64) (y6 : Int64) (y8 : Int32) (H : Heap) (locs : List Loc) (ls : Array Slot), va_P D vwCl (Wd0) H → va_D A (Wd0) → va_S A s.heap H locs → lv_has ls 11 [(4, .long y4), (6, .long y6), (8, .int y8)] → S_PL_commonDivisor_L9 n9 y4 y6 y8 = some o → W p l e rm_X11_commonDivisor s m ([.long x0, .long x2] : List Value).toArray below meth c H locs 0 0 Q (F0 m 9 ls []) := by
    intro n9
    induction n9 with
    | zero => intro y4 y6 y8 H locs ls hP hD hS hl h; exact absurd h (by simp [S_PL_commonDivisor_L9])
    | succ n9 ih9 =>
      intro y4 y6 y8 H locs ls hP hD hS hl h
      rw [S_PL_commonDivisor_L9] at h
      refine lv_iload hx hb dX11_commonDivisor_9 (lv_at hl 2 rfl) ?_
      refine lv_sipush (v := 1000) hx hb dX11_commonDivisor_11 (by decide) ?_
      refine lv_icmp_ge (tgt := 45) hx hb dX11_commonDivisor_14 (by decide) (fun c14 => ?_) (fun c14 => ?_)
      · have h := k_pos c14 h
        refine lv_lload hx hb dX11_commonDivisor_45 (lv_at hl 0 rfl) ?_
        cases h
        exact hret _ _ _ _ hP hS dX11_commonDivisor_47
      · have h := k_neg c14 h
        refine lv_lload hx hb dX11_commonDivisor_17 (lv_at hl 1 rfl) ?_
        refine lv_lconst (v := 0) hx hb dX11_commonDivisor_19 (by decide) ?_
        refine W.lcmp hx hb dX11_commonDivisor_20 ?_
        refine lv_if_eq (tgt := 45) hx hb dX11_commonDivisor_21 (by decide) (fun c21 => ?_) (fun c21 => ?_)
        · have h := k_pos c21 h
          refine lv_lload hx hb dX11_commonDivisor_45 (lv_at hl 0 rfl) ?_
          cases h
          exact hret _ _ _ _ hP hS dX11_commonDivisor_47
        · have h := k_neg c21 h
          refine lv_lload hx hb dX11_commonDivisor_24 (lv_at hl 0 rfl) ?_
          refine lv_lload hx hb dX11_commonDivisor_26 (lv_at hl 1 rfl) ?_
          obtain ⟨g28, h⟩ := k_guard h
          refine lv_lrem hx hb dX11_commonDivisor_28 g28 ?_
          refine lv_lstore (lv' := [(9, .long (y4 - y4 / y6 * y6)), (4, .long y4), (6, .long y6), (8, .int y8)]) hx hb dX11_commonDivisor_29 hl (by decide) rfl (fun ls hl => ?_)
          refine lv_lload hx hb dX11_commonDivisor_31 (lv_at hl 2 rfl) ?_
          refine lv_lstore (lv' := [(4, .long y6), (9, .long (y4 - y4 / y6 * y6)), (6, .long y6), (8, .int y8)]) hx hb dX11_commonDivisor_33 hl (by decide) rfl (fun ls hl => ?_)
          refine lv_lload hx hb dX11_commonDivisor_35 (lv_at hl 1 rfl) ?_
          refine lv_lstore (lv' := [(6, .long (y4 - y4 / y6 * y6)), (4, .long y6), (9, .long (y4 - y4 / y6 * y6)), (8, .int y8)]) hx hb dX11_commonDivisor_37 hl (by decide) rfl (fun ls hl => ?_)
          refine lv_iinc (v := (y8 + 1)) (lv' := [(8, .int (y8 + 1)), (6, .long (y4 - y4 / y6 * y6)), (4, .long y6), (9, .long (y4 - y4 / y6 * y6))]) hx hb dX11_commonDivisor_39 hl (k := 3) rfl (by first | rfl | decide) (by decide) rfl (fun ls hl => ?_)
          refine lv_goto (tgt := 9) hx hb dX11_commonDivisor_42 (by decide) ?_
          exact ih9 y6 (y4 - y4 / y6 * y6) (y8 + 1) H locs ls hP hD hS (lv_sub hl [2, 1, 0] rfl) h
  refine lv_istore (lv' := [(8, .int 0), (6, .long x2), (4, .long x0), (0, .long x0), (2, .long x2)]) hx hb dX11_commonDivisor_7 hl (by decide) rfl (fun ls hl => ?_)
  exact B9 lfu x0 x2 0 s.heap [] ls hP hD hS (lv_sub hl [2, 1, 0] rfl) h
theorem kdS_X11_commonDivisor : yX11_commonDivisor.cls ≠ "java/lang/invoke/MethodHandle" ∧ yX11_commonDivisor.cls ≠ "java/lang/invoke/VarHandle" ∧ (parseMethodDescriptor yX11_commonDivisor.desc).map (fun d => d.parameters.length) = some 2 := by decide +kernel
abbrev rm_X11_leastTerm : Room := { frames := 1, cells := 0, slots := 0, locals := 30 }
set_option maxHeartbeats 4000000 in
set_option maxRecDepth 100000 in
theorem c_PL_leastTerm (l : Launch) (D : va_G) (cI cM cS cJ : ClassId) (sz : Nat) (x0 : Int64) (x2 : Int64) (x4 : Int32) {o : (Int64)} (hsem : S_PL_leastTerm x0 x2 x4 = some o) : kMet l yX11_leastTerm wsX11_leastTerm rm_X11_leastTerm [.long x0, .long x2, .int x4] D (kT cI cM cS cJ) (Wd0) sz (some (.long o)) (Wd0) := by
  refine k_metJ (by decide) rfl rfl (Nat.le_of_ble_eq_true rfl) ?_
  intro p e s m below meth c ls Q A hx hb hml hts hown hK hN hA hP hD hS hl hsz hnm hret
  have hown : s.vm.findClass RX11 = some m.cls := hown
  replace hl : lv_has ls 7 [(0, .long x0), (2, .long x2), (4, .int x4)] := hl
  have h := hsem
  clear hsem
  rw [S_PL_leastTerm] at h
  refine lv_lload_n hx hb dX11_leastTerm_0 rfl (lv_at hl 0 rfl) ?_
  refine lv_lload_n hx hb dX11_leastTerm_1 rfl (lv_at hl 1 rfl) ?_
  obtain ⟨r2, g2, h⟩ := k_bind h
  refine k_callS (As := [.long x0, .long x2]) (rest := []) (st1 := [.long r2]) (ws2 := (Wd0)) hx hb hml hown hts hK hN hA hP hD hS hl (c_PL_commonDivisor l D cI cM cS cJ s.heap.size x0 x2 g2) gX11_leastTerm_X11_commonDivisor rfl kdS_X11_commonDivisor [] ⟨rfl, rfl⟩ ⟨Nat.le_of_ble_eq_true rfl, Nat.le_of_ble_eq_true rfl⟩ ⟨Nat.zero_le _, Nat.zero_le _⟩ rfl rfl (by decide +kernel) rfl rfl rfl (Nat.le_of_ble_eq_true rfl) dX11_leastTerm_2 rfl (fun H locs hP hD hS => ?_)
  refine lv_lstore (lv' := [(5, .long r2), (0, .long x0), (2, .long x2), (4, .int x4)]) hx hb dX11_leastTerm_5 hl (by decide) rfl (fun ls hl => ?_)
  refine lv_lload hx hb dX11_leastTerm_7 (lv_at hl 0 rfl) ?_
  refine lv_lconst (v := 0) hx hb dX11_leastTerm_9 (by decide) ?_
  refine W.lcmp hx hb dX11_leastTerm_10 ?_
  refine lv_if_ne (tgt := 18) hx hb dX11_leastTerm_11 (by decide) (fun c11 => ?_) (fun c11 => ?_)
  · have h := k_neg c11 h
    refine lv_iload hx hb dX11_leastTerm_18 (lv_at hl 3 rfl) ?_
    refine lv_if_ne (tgt := 30) hx hb dX11_leastTerm_20 (by decide) (fun c20 => ?_) (fun c20 => ?_)
    · have h := k_neg c20 h
      refine lv_lload_n hx hb dX11_leastTerm_30 rfl (lv_at hl 2 rfl) ?_
      refine lv_lload hx hb dX11_leastTerm_31 (lv_at hl 0 rfl) ?_
      obtain ⟨g33, h⟩ := k_guard h
      refine lv_ldiv hx hb dX11_leastTerm_33 g33 ?_
      cases h
      exact hret _ _ _ _ hP hS dX11_leastTerm_34
    · have h := k_pos c20 h
      refine lv_lload_n hx hb dX11_leastTerm_23 rfl (lv_at hl 1 rfl) ?_
      refine lv_lload hx hb dX11_leastTerm_24 (lv_at hl 0 rfl) ?_
      obtain ⟨g26, h⟩ := k_guard h
      refine lv_ldiv hx hb dX11_leastTerm_26 g26 ?_
      refine lv_goto (tgt := 34) hx hb dX11_leastTerm_27 (by decide) ?_
      cases h
      exact hret _ _ _ _ hP hS dX11_leastTerm_34
  · have h := k_pos c11 h
    refine lv_iload hx hb dX11_leastTerm_14 (lv_at hl 3 rfl) ?_
    refine lv_i2l (v := (x4 : Int32).toInt64) hx hb dX11_leastTerm_16 rfl ?_
    cases h
    exact hret _ _ _ _ hP hS dX11_leastTerm_17
theorem kdV_X5_shockedUpright : yX5_shockedUpright.cls = RX5 ∧ yX5_shockedUpright.cls ≠ "java/lang/invoke/MethodHandle" ∧ yX5_shockedUpright.cls ≠ "java/lang/invoke/VarHandle" ∧ (parseMethodDescriptor yX5_shockedUpright.desc).map (fun d => d.parameters.length) = some 3 := by decide +kernel
theorem kdS_X11_leastTerm : yX11_leastTerm.cls ≠ "java/lang/invoke/MethodHandle" ∧ yX11_leastTerm.cls ≠ "java/lang/invoke/VarHandle" ∧ (parseMethodDescriptor yX11_leastTerm.desc).map (fun d => d.parameters.length) = some 3 := by decide +kernel
abbrev rm_X11_shocks : Room := { frames := 5, cells := 0, slots := 0, locals := 132 }
set_option maxHeartbeats 4000000 in
set_option maxRecDepth 100000 in
theorem c_PL_shocks (l : Launch) (D : va_G) (cI cM cS cJ : ClassId) (aV : Nat → Nat) (aN : Nat → Nat) (aS : Nat → Nat) (aT : Nat → Nat) (aW : Nat → Nat) (aM : Nat → Nat) (aK : Nat → Nat) (sz : Nat) (x1 : Int32) (x2 : Int32) (x3 : Int32) (x4 : Int32) (v_hasImage : Int32) (nS : CS) (mS : CS) {o : (Int64) × (CS)} (hsem : S_PL_shocks x1 x2 x3 x4 nS mS = some o) : kMet l yX11_shocks wsX11_shocks rm_X11_shocks [.ref (aV 0), .int x1, .int x2, .int x3, .int x4] D (kT cI cM cS cJ) (Wd29 cI cM aV aN aS aT aW aM aK v_hasImage nS.1 nS.2.1 nS.2.2.1 nS.2.2.2.1 nS.2.2.2.2.1 nS.2.2.2.2.2.1 nS.2.2.2.2.2.2.1 nS.2.2.2.2.2.2.2.1 nS.2.2.2.2.2.2.2.2.1 nS.2.2.2.2.2.2.2.2.2.1 mS.1 mS.2.1 mS.2.2.1 mS.2.2.2.1 mS.2.2.2.2.1 mS.2.2.2.2.2.1 mS.2.2.2.2.2.2.1 mS.2.2.2.2.2.2.2.1 mS.2.2.2.2.2.2.2.2.1 mS.2.2.2.2.2.2.2.2.2.1) sz (some (.long o.1)) (Wd29 cI cM aV aN aS aT aW aM aK v_hasImage nS.1 nS.2.1 nS.2.2.1 nS.2.2.2.1 nS.2.2.2.2.1 nS.2.2.2.2.2.1 nS.2.2.2.2.2.2.1 nS.2.2.2.2.2.2.2.1 nS.2.2.2.2.2.2.2.2.1 nS.2.2.2.2.2.2.2.2.2.1 o.2.1 o.2.2.1 o.2.2.2.1 o.2.2.2.2.1 o.2.2.2.2.2.1 o.2.2.2.2.2.2.1 o.2.2.2.2.2.2.2.1 o.2.2.2.2.2.2.2.2.1 o.2.2.2.2.2.2.2.2.2.1 o.2.2.2.2.2.2.2.2.2.2.1) := by
  refine k_metJ (by decide) rfl rfl (Nat.le_of_ble_eq_true rfl) ?_
  intro p e s m below meth c ls Q A hx hb hml hts hown hK hN hA hP hD hS hl hsz hnm hret
  have hown : s.vm.findClass RX11 = some m.cls := hown
  have hf36 := hts (.fieldLink RX11 36 "PlumbLine" "now" "LPlumbLine$City;") (List.mem_of_getElem? (i := 1) rfl)
  have hf53 := hts (.fieldLink RX11 53 "PlumbLine" "mind" "LPlumbLine$Mind;") (List.mem_of_getElem? (i := 3) rfl)
  have hiX11 : ∀ w ∈ u_ws RX11 TX11 6, w ∈ wsX11_shocks := fun w h => List.mem_cons_of_mem _ (List.mem_append_left _ (List.mem_append_left _ (List.mem_append_right _ h)))
  replace hl : lv_has ls 5 [(0, .ref (aV 0)), (1, .int x1), (2, .int x2), (3, .int x3), (4, .int x4)] := hl
  have h := hsem
  clear hsem
  rw [S_PL_shocks] at h
  refine lv_aload_n hx hb dX11_shocks_0 rfl (lv_at hl 0 rfl) ?_
  refine va_get (D := D) (ci := 11) (v := .ref (aN 0)) (C := RX11) (T := TX11) (N := 6) hx hb hts hiX11 hown hK hP 0 rfl rfl 0 (by decide) hf36 (fun _ z => z) rfl dX11_shocks_1 ?_
  refine lv_iload_n hx hb dX11_shocks_4 rfl (lv_at hl 1 rfl) ?_
  refine k_callV (As := [.int x1]) (rest := []) (st1 := [.int (S_City_has x1 nS.1)]) (ws2 := (Wd29 cI cM aV aN aS aT aW aM aK v_hasImage nS.1 nS.2.1 nS.2.2.1 nS.2.2.2.1 nS.2.2.2.2.1 nS.2.2.2.2.2.1 nS.2.2.2.2.2.2.1 nS.2.2.2.2.2.2.2.1 nS.2.2.2.2.2.2.2.2.1 nS.2.2.2.2.2.2.2.2.2.1 mS.1 mS.2.1 mS.2.2.1 mS.2.2.2.1 mS.2.2.2.2.1 mS.2.2.2.2.2.1 mS.2.2.2.2.2.2.1 mS.2.2.2.2.2.2.2.1 mS.2.2.2.2.2.2.2.2.1 mS.2.2.2.2.2.2.2.2.2.1)) hx hb hml hown hts hK hN hA hP hD hS hl (c_City_has l D cI cM cS cJ aN aK s.heap.size x1 nS.1 nS.2.1 nS.2.2.1 nS.2.2.2.1 nS.2.2.2.2.1 nS.2.2.2.2.2.1 nS.2.2.2.2.2.2.1 rfl) gX11_shocks_X2_has rfl kdV_X2_has 0 2 rfl rfl rfl [1] ⟨rfl, rfl⟩ ⟨Nat.le_of_ble_eq_true rfl, Nat.le_of_ble_eq_true rfl⟩ ⟨Nat.zero_le _, Nat.zero_le _⟩ rfl rfl (by decide +kernel) rfl rfl rfl (Nat.le_of_ble_eq_true rfl) dX11_shocks_5 rfl (fun H locs hP hD hS => ?_)
  refine lv_if_eq (tgt := 41) hx hb dX11_shocks_8 (by decide) (fun c8 => ?_) (fun c8 => ?_)
  · have h := k_pos c8 h
    refine lv_ldc2 (v := 1000000001) hx hb hown (hts (.constantLong RX11 229 1000000001) (List.mem_of_getElem? (i := 2) rfl)) dX11_shocks_41 ?_
    cases h
    exact hret _ _ _ _ hP hS dX11_shocks_44
  · have h := k_neg c8 h
    refine lv_iload_n hx hb dX11_shocks_11 rfl (lv_at hl 2 rfl) ?_
    refine lv_iconst (v := 0) hx hb dX11_shocks_12 (by decide) ?_
    refine lv_bipush (v := 7) hx hb dX11_shocks_13 (by decide) ?_
    refine k_callS (As := [.int x2, .int 0, .int 7]) (rest := []) (st1 := [.int (S_PL_isIn x2 0 7)]) (ws2 := (Wd29 cI cM aV aN aS aT aW aM aK v_hasImage nS.1 nS.2.1 nS.2.2.1 nS.2.2.2.1 nS.2.2.2.2.1 nS.2.2.2.2.2.1 nS.2.2.2.2.2.2.1 nS.2.2.2.2.2.2.2.1 nS.2.2.2.2.2.2.2.2.1 nS.2.2.2.2.2.2.2.2.2.1 mS.1 mS.2.1 mS.2.2.1 mS.2.2.2.1 mS.2.2.2.2.1 mS.2.2.2.2.2.1 mS.2.2.2.2.2.2.1 mS.2.2.2.2.2.2.2.1 mS.2.2.2.2.2.2.2.2.1 mS.2.2.2.2.2.2.2.2.2.1)) hx hb hml hown hts hK hN hA hP hD hS hl (c_PL_isIn l D cI cM cS cJ H.size x2 0 7 rfl) gX11_shocks_X11_isIn rfl kdS_X11_isIn [] ⟨rfl, rfl⟩ ⟨Nat.le_of_ble_eq_true rfl, Nat.le_of_ble_eq_true rfl⟩ ⟨Nat.zero_le _, Nat.zero_le _⟩ rfl rfl (by decide +kernel) rfl rfl rfl (Nat.le_of_ble_eq_true rfl) dX11_shocks_15 rfl (fun H locs hP hD hS => ?_)
    refine lv_if_eq (tgt := 41) hx hb dX11_shocks_18 (by decide) (fun c18 => ?_) (fun c18 => ?_)
    · have h := k_pos c18 h
      refine lv_ldc2 (v := 1000000001) hx hb hown (hts (.constantLong RX11 229 1000000001) (List.mem_of_getElem? (i := 2) rfl)) dX11_shocks_41 ?_
      cases h
      exact hret _ _ _ _ hP hS dX11_shocks_44
    · have h := k_neg c18 h
      refine lv_iload_n hx hb dX11_shocks_21 rfl (lv_at hl 3 rfl) ?_
      refine lv_iconst (v := 2) hx hb dX11_shocks_22 (by decide) ?_
      refine lv_bipush (v := 20) hx hb dX11_shocks_23 (by decide) ?_
      refine k_callS (As := [.int x3, .int 2, .int 20]) (rest := []) (st1 := [.int (S_PL_isIn x3 2 20)]) (ws2 := (Wd29 cI cM aV aN aS aT aW aM aK v_hasImage nS.1 nS.2.1 nS.2.2.1 nS.2.2.2.1 nS.2.2.2.2.1 nS.2.2.2.2.2.1 nS.2.2.2.2.2.2.1 nS.2.2.2.2.2.2.2.1 nS.2.2.2.2.2.2.2.2.1 nS.2.2.2.2.2.2.2.2.2.1 mS.1 mS.2.1 mS.2.2.1 mS.2.2.2.1 mS.2.2.2.2.1 mS.2.2.2.2.2.1 mS.2.2.2.2.2.2.1 mS.2.2.2.2.2.2.2.1 mS.2.2.2.2.2.2.2.2.1 mS.2.2.2.2.2.2.2.2.2.1)) hx hb hml hown hts hK hN hA hP hD hS hl (c_PL_isIn l D cI cM cS cJ H.size x3 2 20 rfl) gX11_shocks_X11_isIn rfl kdS_X11_isIn [] ⟨rfl, rfl⟩ ⟨Nat.le_of_ble_eq_true rfl, Nat.le_of_ble_eq_true rfl⟩ ⟨Nat.zero_le _, Nat.zero_le _⟩ rfl rfl (by decide +kernel) rfl rfl rfl (Nat.le_of_ble_eq_true rfl) dX11_shocks_25 rfl (fun H locs hP hD hS => ?_)
      refine lv_if_eq (tgt := 41) hx hb dX11_shocks_28 (by decide) (fun c28 => ?_) (fun c28 => ?_)
      · have h := k_pos c28 h
        refine lv_ldc2 (v := 1000000001) hx hb hown (hts (.constantLong RX11 229 1000000001) (List.mem_of_getElem? (i := 2) rfl)) dX11_shocks_41 ?_
        cases h
        exact hret _ _ _ _ hP hS dX11_shocks_44
      · have h := k_neg c28 h
        refine lv_iload hx hb dX11_shocks_31 (lv_at hl 4 rfl) ?_
        refine lv_iconst (v := 0) hx hb dX11_shocks_33 (by decide) ?_
        refine lv_iconst (v := 1) hx hb dX11_shocks_34 (by decide) ?_
        refine k_callS (As := [.int x4, .int 0, .int 1]) (rest := []) (st1 := [.int (S_PL_isIn x4 0 1)]) (ws2 := (Wd29 cI cM aV aN aS aT aW aM aK v_hasImage nS.1 nS.2.1 nS.2.2.1 nS.2.2.2.1 nS.2.2.2.2.1 nS.2.2.2.2.2.1 nS.2.2.2.2.2.2.1 nS.2.2.2.2.2.2.2.1 nS.2.2.2.2.2.2.2.2.1 nS.2.2.2.2.2.2.2.2.2.1 mS.1 mS.2.1 mS.2.2.1 mS.2.2.2.1 mS.2.2.2.2.1 mS.2.2.2.2.2.1 mS.2.2.2.2.2.2.1 mS.2.2.2.2.2.2.2.1 mS.2.2.2.2.2.2.2.2.1 mS.2.2.2.2.2.2.2.2.2.1)) hx hb hml hown hts hK hN hA hP hD hS hl (c_PL_isIn l D cI cM cS cJ H.size x4 0 1 rfl) gX11_shocks_X11_isIn rfl kdS_X11_isIn [] ⟨rfl, rfl⟩ ⟨Nat.le_of_ble_eq_true rfl, Nat.le_of_ble_eq_true rfl⟩ ⟨Nat.zero_le _, Nat.zero_le _⟩ rfl rfl (by decide +kernel) rfl rfl rfl (Nat.le_of_ble_eq_true rfl) dX11_shocks_35 rfl (fun H locs hP hD hS => ?_)
        refine lv_if_ne (tgt := 45) hx hb dX11_shocks_38 (by decide) (fun c38 => ?_) (fun c38 => ?_)
        · have h := k_neg c38 h
          refine lv_aload_n hx hb dX11_shocks_45 rfl (lv_at hl 0 rfl) ?_
          refine va_get (D := D) (ci := 11) (v := .ref (aW 0)) (C := RX11) (T := TX11) (N := 6) hx hb hts hiX11 hown hK hP 0 rfl rfl 3 (by decide) hf53 (fun _ z => z) rfl dX11_shocks_46 ?_
          refine lv_iload_n hx hb dX11_shocks_49 rfl (lv_at hl 1 rfl) ?_
          refine lv_iload_n hx hb dX11_shocks_50 rfl (lv_at hl 2 rfl) ?_
          refine lv_iload_n hx hb dX11_shocks_51 rfl (lv_at hl 3 rfl) ?_
          obtain ⟨r52, g52, h⟩ := k_bind h
          refine k_callV (As := [.int x1, .int x2, .int x3]) (rest := []) (st1 := [.long r52.1]) (ws2 := (Wd29 cI cM aV aN aS aT aW aM aK v_hasImage nS.1 nS.2.1 nS.2.2.1 nS.2.2.2.1 nS.2.2.2.2.1 nS.2.2.2.2.2.1 nS.2.2.2.2.2.2.1 nS.2.2.2.2.2.2.2.1 nS.2.2.2.2.2.2.2.2.1 nS.2.2.2.2.2.2.2.2.2.1 r52.2.1 r52.2.2.1 r52.2.2.2.1 r52.2.2.2.2.1 r52.2.2.2.2.2.1 r52.2.2.2.2.2.2.1 r52.2.2.2.2.2.2.2.1 r52.2.2.2.2.2.2.2.2.1 r52.2.2.2.2.2.2.2.2.2.1 r52.2.2.2.2.2.2.2.2.2.2.1)) hx hb hml hown hts hK hN hA hP hD hS hl (c_Mind_shockedUpright l D cI cM cS cJ aN aW aM aK H.size x1 x2 x3 nS mS g52) gX11_shocks_X5_shockedUpright rfl kdV_X5_shockedUpright 0 5 rfl rfl rfl [5, 1, 2, 3, 4, 6, 7, 8, 9, 10, 11, 12, 13, 14, 15, 16, 17, 18] ⟨rfl, rfl⟩ ⟨Nat.le_of_ble_eq_true rfl, Nat.le_of_ble_eq_true rfl⟩ ⟨Nat.zero_le _, Nat.zero_le _⟩ rfl rfl (by decide +kernel) rfl rfl rfl (Nat.le_of_ble_eq_true rfl) dX11_shocks_52 rfl (fun H locs hP hD hS => ?_)
          refine lv_iload_n hx hb dX11_shocks_55 rfl (lv_at hl 3 rfl) ?_
          refine lv_iload_n hx hb dX11_shocks_56 rfl (lv_at hl 2 rfl) ?_
          obtain ⟨r57, g57, h⟩ := k_bind h
          refine k_callS (As := [.int x3, .int x2]) (rest := [.long r52.1]) (st1 := [.long r57, .long r52.1]) (ws2 := (Wd29 cI cM aV aN aS aT aW aM aK v_hasImage nS.1 nS.2.1 nS.2.2.1 nS.2.2.2.1 nS.2.2.2.2.1 nS.2.2.2.2.2.1 nS.2.2.2.2.2.2.1 nS.2.2.2.2.2.2.2.1 nS.2.2.2.2.2.2.2.2.1 nS.2.2.2.2.2.2.2.2.2.1 r52.2.1 r52.2.2.1 r52.2.2.2.1 r52.2.2.2.2.1 r52.2.2.2.2.2.1 r52.2.2.2.2.2.2.1 r52.2.2.2.2.2.2.2.1 r52.2.2.2.2.2.2.2.2.1 r52.2.2.2.2.2.2.2.2.2.1 r52.2.2.2.2.2.2.2.2.2.2.1)) hx hb hml hown hts hK hN hA hP hD hS hl (c_PL_power l D cI cM cS cJ H.size x3 x2 g57) gX11_shocks_X11_power rfl kdS_X11_power [] ⟨rfl, rfl⟩ ⟨Nat.le_of_ble_eq_true rfl, Nat.le_of_ble_eq_true rfl⟩ ⟨Nat.zero_le _, Nat.zero_le _⟩ rfl rfl (by decide +kernel) rfl rfl rfl (Nat.le_of_ble_eq_true rfl) dX11_shocks_57 rfl (fun H locs hP hD hS => ?_)
          refine lv_iload hx hb dX11_shocks_60 (lv_at hl 4 rfl) ?_
          obtain ⟨r62, g62, h⟩ := k_bind h
          refine k_callS (As := [.long r52.1, .long r57, .int x4]) (rest := []) (st1 := [.long r62]) (ws2 := (Wd29 cI cM aV aN aS aT aW aM aK v_hasImage nS.1 nS.2.1 nS.2.2.1 nS.2.2.2.1 nS.2.2.2.2.1 nS.2.2.2.2.2.1 nS.2.2.2.2.2.2.1 nS.2.2.2.2.2.2.2.1 nS.2.2.2.2.2.2.2.2.1 nS.2.2.2.2.2.2.2.2.2.1 r52.2.1 r52.2.2.1 r52.2.2.2.1 r52.2.2.2.2.1 r52.2.2.2.2.2.1 r52.2.2.2.2.2.2.1 r52.2.2.2.2.2.2.2.1 r52.2.2.2.2.2.2.2.2.1 r52.2.2.2.2.2.2.2.2.2.1 r52.2.2.2.2.2.2.2.2.2.2.1)) hx hb hml hown hts hK hN hA hP hD hS hl (c_PL_leastTerm l D cI cM cS cJ H.size r52.1 r57 x4 g62) gX11_shocks_X11_leastTerm rfl kdS_X11_leastTerm [] ⟨rfl, rfl⟩ ⟨Nat.le_of_ble_eq_true rfl, Nat.le_of_ble_eq_true rfl⟩ ⟨Nat.zero_le _, Nat.zero_le _⟩ rfl rfl (by decide +kernel) rfl rfl rfl (Nat.le_of_ble_eq_true rfl) dX11_shocks_62 rfl (fun H locs hP hD hS => ?_)
          cases h
          exact hret _ _ _ _ hP hS dX11_shocks_65
        · have h := k_pos c38 h
          refine lv_ldc2 (v := 1000000001) hx hb hown (hts (.constantLong RX11 229 1000000001) (List.mem_of_getElem? (i := 2) rfl)) dX11_shocks_41 ?_
          cases h
          exact hret _ _ _ _ hP hS dX11_shocks_44
abbrev rm_X11_mean : Room := { frames := 2, cells := 0, slots := 0, locals := 56 }
set_option maxHeartbeats 4000000 in
set_option maxRecDepth 100000 in
theorem c_PL_mean (l : Launch) (D : va_G) (cI cM cS cJ : ClassId) (aV : Nat → Nat) (aN : Nat → Nat) (aS : Nat → Nat) (aT : Nat → Nat) (aW : Nat → Nat) (aK : Nat → Nat) (sz : Nat) (x1 : Int32) (v_hasImage : Int32) (nS : CS) {o : (Int64)} (hsem : S_PL_mean x1 nS = some o) : kMet l yX11_mean wsX11_mean rm_X11_mean [.ref (aV 0), .int x1] D (kT cI cM cS cJ) (Wd25 cI aV aN aS aT aW aK v_hasImage nS.1 nS.2.1 nS.2.2.1 nS.2.2.2.1 nS.2.2.2.2.1 nS.2.2.2.2.2.1 nS.2.2.2.2.2.2.1 nS.2.2.2.2.2.2.2.2.2.1) sz (some (.long o)) (Wd25 cI aV aN aS aT aW aK v_hasImage nS.1 nS.2.1 nS.2.2.1 nS.2.2.2.1 nS.2.2.2.2.1 nS.2.2.2.2.2.1 nS.2.2.2.2.2.2.1 nS.2.2.2.2.2.2.2.2.2.1) := by
  refine k_metJ (by decide) rfl rfl (Nat.le_of_ble_eq_true rfl) ?_
  intro p e s m below meth c ls Q A hx hb hml hts hown hK hN hA hP hD hS hl hsz hnm hret
  have hown : s.vm.findClass RX11 = some m.cls := hown
  have hf36 := hts (.fieldLink RX11 36 "PlumbLine" "now" "LPlumbLine$City;") (List.mem_of_getElem? (i := 2) rfl)
  have hf135 := hts (.fieldLink RX11 135 "PlumbLine$City" "men" "I") (List.mem_of_getElem? (i := 3) rfl)
  have hiX11 : ∀ w ∈ u_ws RX11 TX11 6, w ∈ wsX11_mean := fun w h => List.mem_cons_of_mem _ (List.mem_append_left _ (List.mem_append_right _ h))
  have hiX2 : ∀ w ∈ u_ws RX2 TX2 12, w ∈ wsX11_mean := fun w h => List.mem_cons_of_mem _ (List.mem_append_right _ h)
  replace hl : lv_has ls 2 [(0, .ref (aV 0)), (1, .int x1)] := hl
  have h := hsem
  clear hsem
  rw [S_PL_mean] at h
  refine lv_iload_n hx hb dX11_mean_0 rfl (lv_at hl 1 rfl) ?_
  refine lv_iconst (v := 0) hx hb dX11_mean_1 (by decide) ?_
  refine lv_iconst (v := 1) hx hb dX11_mean_2 (by decide) ?_
  refine k_callS (As := [.int x1, .int 0, .int 1]) (rest := []) (st1 := [.int (S_PL_isIn x1 0 1)]) (ws2 := (Wd25 cI aV aN aS aT aW aK v_hasImage nS.1 nS.2.1 nS.2.2.1 nS.2.2.2.1 nS.2.2.2.2.1 nS.2.2.2.2.2.1 nS.2.2.2.2.2.2.1 nS.2.2.2.2.2.2.2.2.2.1)) hx hb hml hown hts hK hN hA hP hD hS hl (c_PL_isIn l D cI cM cS cJ s.heap.size x1 0 1 rfl) gX11_mean_X11_isIn rfl kdS_X11_isIn [] ⟨rfl, rfl⟩ ⟨Nat.le_of_ble_eq_true rfl, Nat.le_of_ble_eq_true rfl⟩ ⟨Nat.zero_le _, Nat.zero_le _⟩ rfl rfl (by decide +kernel) rfl rfl rfl (Nat.le_of_ble_eq_true rfl) dX11_mean_3 rfl (fun H locs hP hD hS => ?_)
  refine lv_if_ne (tgt := 13) hx hb dX11_mean_6 (by decide) (fun c6 => ?_) (fun c6 => ?_)
  · have h := k_neg c6 h
    refine lv_aload_n hx hb dX11_mean_13 rfl (lv_at hl 0 rfl) ?_
    refine va_get (D := D) (ci := 11) (v := .ref (aN 0)) (C := RX11) (T := TX11) (N := 6) hx hb hts hiX11 hown hK hP 0 rfl rfl 0 (by decide) hf36 (fun _ z => z) rfl dX11_mean_14 ?_
    refine va_get (D := D) (ci := 2) (v := .int nS.1) (C := RX2) (T := TX2) (N := 12) hx hb hts hiX2 hown hK hP 1 rfl rfl 3 (by decide) hf135 (fun _ z => z) rfl dX11_mean_17 ?_
    refine lv_if_ne (tgt := 26) hx hb dX11_mean_20 (by decide) (fun c20 => ?_) (fun c20 => ?_)
    · have h := k_neg c20 h
      refine lv_aload_n hx hb dX11_mean_26 rfl (lv_at hl 0 rfl) ?_
      refine va_get (D := D) (ci := 11) (v := .ref (aN 0)) (C := RX11) (T := TX11) (N := 6) hx hb hts hiX11 hown hK hP 0 rfl rfl 0 (by decide) hf36 (fun _ z => z) rfl dX11_mean_27 ?_
      obtain ⟨r30, g30, h⟩ := k_bind h
      refine k_callV (As := []) (rest := []) (st1 := [.int r30]) (ws2 := (Wd25 cI aV aN aS aT aW aK v_hasImage nS.1 nS.2.1 nS.2.2.1 nS.2.2.2.1 nS.2.2.2.2.1 nS.2.2.2.2.2.1 nS.2.2.2.2.2.2.1 nS.2.2.2.2.2.2.2.2.2.1)) hx hb hml hown hts hK hN hA hP hD hS hl (c_City_sumOfLeans l D cI cM cS cJ aN aK H.size nS.1 nS.2.1 nS.2.2.1 nS.2.2.2.1 nS.2.2.2.2.1 nS.2.2.2.2.2.1 nS.2.2.2.2.2.2.1 nS.2.2.2.2.2.2.2.2.2.1 g30) gX11_mean_X2_sumOfLeans rfl kdV_X2_sumOfLeans 0 2 rfl rfl rfl [1, 2] ⟨rfl, rfl⟩ ⟨Nat.le_of_ble_eq_true rfl, Nat.le_of_ble_eq_true rfl⟩ ⟨Nat.zero_le _, Nat.zero_le _⟩ rfl rfl (by decide +kernel) rfl rfl rfl (Nat.le_of_ble_eq_true rfl) dX11_mean_30 rfl (fun H locs hP hD hS => ?_)
      refine lv_bipush (v := 45) hx hb dX11_mean_33 (by decide) ?_
      refine lv_aload_n hx hb dX11_mean_35 rfl (lv_at hl 0 rfl) ?_
      refine va_get (D := D) (ci := 11) (v := .ref (aN 0)) (C := RX11) (T := TX11) (N := 6) hx hb hts hiX11 hown hK hP 0 rfl rfl 0 (by decide) hf36 (fun _ z => z) rfl dX11_mean_36 ?_
      refine va_get (D := D) (ci := 2) (v := .int nS.1) (C := RX2) (T := TX2) (N := 12) hx hb hts hiX2 hown hK hP 1 rfl rfl 3 (by decide) hf135 (fun _ z => z) rfl dX11_mean_39 ?_
      refine lv_imul hx hb dX11_mean_42 ?_
      refine lv_iadd hx hb dX11_mean_43 ?_
      refine lv_i2l (v := ((r30 + ((45 : Int32) * nS.1)) : Int32).toInt64) hx hb dX11_mean_44 rfl ?_
      refine lv_aload_n hx hb dX11_mean_45 rfl (lv_at hl 0 rfl) ?_
      refine va_get (D := D) (ci := 11) (v := .ref (aN 0)) (C := RX11) (T := TX11) (N := 6) hx hb hts hiX11 hown hK hP 0 rfl rfl 0 (by decide) hf36 (fun _ z => z) rfl dX11_mean_46 ?_
      refine va_get (D := D) (ci := 2) (v := .int nS.1) (C := RX2) (T := TX2) (N := 12) hx hb hts hiX2 hown hK hP 1 rfl rfl 3 (by decide) hf135 (fun _ z => z) rfl dX11_mean_49 ?_
      refine lv_i2l (v := (nS.1 : Int32).toInt64) hx hb dX11_mean_52 rfl ?_
      refine lv_iload_n hx hb dX11_mean_53 rfl (lv_at hl 1 rfl) ?_
      obtain ⟨r54, g54, h⟩ := k_bind h
      refine k_callS (As := [.long ((r30 + ((45 : Int32) * nS.1)) : Int32).toInt64, .long (nS.1 : Int32).toInt64, .int x1]) (rest := []) (st1 := [.long r54]) (ws2 := (Wd25 cI aV aN aS aT aW aK v_hasImage nS.1 nS.2.1 nS.2.2.1 nS.2.2.2.1 nS.2.2.2.2.1 nS.2.2.2.2.2.1 nS.2.2.2.2.2.2.1 nS.2.2.2.2.2.2.2.2.2.1)) hx hb hml hown hts hK hN hA hP hD hS hl (c_PL_leastTerm l D cI cM cS cJ H.size (((r30 + ((45 : Int32) * nS.1)) : Int32).toInt64) ((nS.1 : Int32).toInt64) x1 g54) gX11_mean_X11_leastTerm rfl kdS_X11_leastTerm [] ⟨rfl, rfl⟩ ⟨Nat.le_of_ble_eq_true rfl, Nat.le_of_ble_eq_true rfl⟩ ⟨Nat.zero_le _, Nat.zero_le _⟩ rfl rfl (by decide +kernel) rfl rfl rfl (Nat.le_of_ble_eq_true rfl) dX11_mean_54 rfl (fun H locs hP hD hS => ?_)
      cases h
      exact hret _ _ _ _ hP hS dX11_mean_57
    · have h := k_pos c20 h
      refine lv_iload_n hx hb dX11_mean_23 rfl (lv_at hl 1 rfl) ?_
      refine lv_i2l (v := (x1 : Int32).toInt64) hx hb dX11_mean_24 rfl ?_
      cases h
      exact hret _ _ _ _ hP hS dX11_mean_25
  · have h := k_pos c6 h
    refine lv_ldc2 (v := 1000000001) hx hb hown (hts (.constantLong RX11 229 1000000001) (List.mem_of_getElem? (i := 1) rfl)) dX11_mean_9 ?_
    cases h
    exact hret _ _ _ _ hP hS dX11_mean_12
abbrev Wd34 (cI : ClassId) (aD : Nat → Nat) (aV : Nat → Nat) (aN : Nat → Nat) (aS : Nat → Nat) (aT : Nat → Nat) (aW : Nat → Nat) (aK : Nat → Nat) (v_hasImage : Int32) (n_men : Int32) (n_propped : Int32) (n_place : Int32) (n_swings : Int32) (n_crashes : Int32) (n_day : Int32) (n_crashedToday : Int32) (n_lean : Nat → Int32) (d_kind : Int32) (d_figure : Int32) (d_sort : Int32) (d_size : Int32) (d_held : Int32) (d_el : Nat → Int32) : va_W := [((aV 0), .inr (11, [.ref (aN 0), .ref (aS 0), .ref (aT 0), .ref (aW 0), .ref (aV 1), .int v_hasImage])), ((aN 0), .inr (2, [.ref (aN 1), .ref (aN 2), .ref (aN 3), .int n_men, .int n_propped, .int n_place, .int n_swings, .int n_crashes, .int n_day, .int n_crashedToday, .ref (aK 8), .ref (aN 4)])), ((aN 3), .inl (cI, 8, .inl n_lean)), ((aD 0), .inr (9, [.ref (aD 1), .int d_kind, .int d_figure, .int d_sort, .int d_size, .int d_held, .ref (aK 8)])), ((aD 1), .inl (cI, 100, .inl d_el))]
abbrev rm_X11_firstForged : Room := { frames := 1, cells := 0, slots := 0, locals := 21 }
set_option maxHeartbeats 4000000 in
set_option maxRecDepth 100000 in
theorem c_PL_firstForged (l : Launch) (D : va_G) (cI cM cS cJ : ClassId) (aD : Nat → Nat) (aV : Nat → Nat) (aN : Nat → Nat) (aS : Nat → Nat) (aT : Nat → Nat) (aW : Nat → Nat) (aK : Nat → Nat) (sz : Nat) (v_hasImage : Int32) (nS : CS) (d_kind : Int32) (d_figure : Int32) (d_sort : Int32) (d_size : Int32) (d_held : Int32) (d_el : Nat → Int32) {o : (Int32)} (hsem : S_PL_firstForged nS d_size d_el = some o) : kMet l yX11_firstForged wsX11_firstForged rm_X11_firstForged [.ref (aV 0), .ref (aD 0)] D (kT cI cM cS cJ) (Wd34 cI aD aV aN aS aT aW aK v_hasImage nS.1 nS.2.1 nS.2.2.1 nS.2.2.2.1 nS.2.2.2.2.1 nS.2.2.2.2.2.1 nS.2.2.2.2.2.2.1 nS.2.2.2.2.2.2.2.2.2.1 d_kind d_figure d_sort d_size d_held d_el) sz (some (.int o)) (Wd34 cI aD aV aN aS aT aW aK v_hasImage nS.1 nS.2.1 nS.2.2.1 nS.2.2.2.1 nS.2.2.2.2.1 nS.2.2.2.2.2.1 nS.2.2.2.2.2.2.1 nS.2.2.2.2.2.2.2.2.2.1 d_kind d_figure d_sort d_size d_held d_el) := by
  refine k_metI (by decide) rfl rfl (Nat.le_of_ble_eq_true rfl) ?_
  intro p e s m below meth c ls Q A hx hb hml hts hown hK hN hA hP hD hS hl hsz hnm hret
  have hown : s.vm.findClass RX11 = some m.cls := hown
  have hf80 := hts (.fieldLink RX11 80 "PlumbLine$Shelf" "size" "I") (List.mem_of_getElem? (i := 1) rfl)
  have hf36 := hts (.fieldLink RX11 36 "PlumbLine" "now" "LPlumbLine$City;") (List.mem_of_getElem? (i := 2) rfl)
  have hf88 := hts (.fieldLink RX11 88 "PlumbLine$Shelf" "elements" "[I") (List.mem_of_getElem? (i := 3) rfl)
  have hf99 := hts (.fieldLink RX11 99 "PlumbLine$City" "lean" "[I") (List.mem_of_getElem? (i := 4) rfl)
  have hiX11 : ∀ w ∈ u_ws RX11 TX11 6, w ∈ wsX11_firstForged := fun w h => List.mem_cons_of_mem _ (List.mem_append_left _ (List.mem_append_right _ h))
  have hiX2 : ∀ w ∈ u_ws RX2 TX2 12, w ∈ wsX11_firstForged := fun w h => List.mem_cons_of_mem _ (List.mem_append_right _ h)
  have hiX9 : ∀ w ∈ u_ws RX9 TX9 7, w ∈ wsX11_firstForged := fun w h => List.mem_cons_of_mem _ (List.mem_append_left _ (List.mem_append_left _ (List.mem_append_right _ h)))
  replace hl : lv_has ls 3 [(0, .ref (aV 0)), (1, .ref (aD 0))] := hl
  have h := hsem
  clear hsem
  rw [S_PL_firstForged] at h
  refine lv_iconst (v := 0) hx hb dX11_firstForged_0 (by decide) ?_
  have B2 : ∀ (n2 : Nat) (y2 : Int32) (H : Heap) (locs : List Loc) (ls : Array Slot), va_P D vwCl (Wd34 cI aD aV aN aS aT aW aK v_hasImage nS.1 nS.2.1 nS.2.2.1 nS.2.2.2.1 nS.2.2.2.2.1 nS.2.2.2.2.2.1 nS.2.2.2.2.2.2.1 nS.2.2.2.2.2.2.2.2.2.1 d_kind d_figure d_sort d_size d_held d_el) H → va_D A (Wd34 cI aD aV aN aS aT aW aK v_hasImage nS.1 nS.2.1 nS.2.2.1 nS.2.2.2.1 nS.2.2.2.2.1 nS.2.2.2.2.2.1 nS.2.2.2.2.2.2.1 nS.2.2.2.2.2.2.2.2.2.1 d_kind d_figure d_sort d_size d_held d_el) → va_S A s.heap H locs → lv_has ls 3 [(0, .ref (aV 0)), (1, .ref (aD 0)), (2, .int y2)] → S_PL_firstForged_L2 nS d_size d_el n2 y2 = some o → W p l e rm_X11_firstForged s m ([.ref (aV 0), .ref (aD 0)] : List Value).toArray below meth c H locs 0 0 Q (F0 m 2 ls []) := by
    intro n2
    induction n2 with
    | zero => intro y2 H locs ls hP hD hS hl h; exact absurd h (by simp [S_PL_firstForged_L2])
    | succ n2 ih2 =>
      intro y2 H locs ls hP hD hS hl h
      rw [S_PL_firstForged_L2] at h
      refine lv_iload_n hx hb dX11_firstForged_2 rfl (lv_at hl 2 rfl) ?_
      refine lv_aload_n hx hb dX11_firstForged_3 rfl (lv_at hl 1 rfl) ?_
      refine va_get (D := D) (ci := 9) (v := .int d_size) (C := RX9) (T := TX9) (N := 7) hx hb hts hiX9 hown hK hP 3 rfl rfl 4 (by decide) hf80 (fun _ z => z) rfl dX11_firstForged_4 ?_
      refine lv_icmp_ge (tgt := 47) hx hb dX11_firstForged_7 (by decide) (fun c7 => ?_) (fun c7 => ?_)
      · have h := k_pos c7 h
        refine lv_bipush (v := (-4)) hx hb dX11_firstForged_47 (by decide) ?_
        cases h
        exact hret _ _ _ _ hP hS dX11_firstForged_49
      · have h := k_neg c7 h
        refine lv_aload_n hx hb dX11_firstForged_10 rfl (lv_at hl 0 rfl) ?_
        refine va_get (D := D) (ci := 11) (v := .ref (aN 0)) (C := RX11) (T := TX11) (N := 6) hx hb hts hiX11 hown hK hP 0 rfl rfl 0 (by decide) hf36 (fun _ z => z) rfl dX11_firstForged_11 ?_
        refine lv_iload_n hx hb dX11_firstForged_14 rfl (lv_at hl 2 rfl) ?_
        refine k_callV (As := [.int y2]) (rest := []) (st1 := [.int (S_City_has y2 nS.1)]) (ws2 := (Wd34 cI aD aV aN aS aT aW aK v_hasImage nS.1 nS.2.1 nS.2.2.1 nS.2.2.2.1 nS.2.2.2.2.1 nS.2.2.2.2.2.1 nS.2.2.2.2.2.2.1 nS.2.2.2.2.2.2.2.2.2.1 d_kind d_figure d_sort d_size d_held d_el)) hx hb hml hown hts hK hN hA hP hD hS hl (c_City_has l D cI cM cS cJ aN aK H.size y2 nS.1 nS.2.1 nS.2.2.1 nS.2.2.2.1 nS.2.2.2.2.1 nS.2.2.2.2.2.1 nS.2.2.2.2.2.2.1 rfl) gX11_firstForged_X2_has rfl kdV_X2_has 0 2 rfl rfl rfl [1] ⟨rfl, rfl⟩ ⟨Nat.le_of_ble_eq_true rfl, Nat.le_of_ble_eq_true rfl⟩ ⟨Nat.zero_le _, Nat.zero_le _⟩ rfl rfl (by decide +kernel) rfl rfl rfl (Nat.le_of_ble_eq_true rfl) dX11_firstForged_15 rfl (fun H locs hP hD hS => ?_)
        refine lv_if_eq (tgt := 39) hx hb dX11_firstForged_18 (by decide) (fun c18 => ?_) (fun c18 => ?_)
        · have h := k_pos c18 h
          refine lv_iload_n hx hb dX11_firstForged_39 rfl (lv_at hl 2 rfl) ?_
          cases h
          exact hret _ _ _ _ hP hS dX11_firstForged_40
        · have h := k_neg c18 h
          refine lv_aload_n hx hb dX11_firstForged_21 rfl (lv_at hl 1 rfl) ?_
          refine va_get (D := D) (ci := 9) (v := .ref (aD 1)) (C := RX9) (T := TX9) (N := 7) hx hb hts hiX9 hown hK hP 3 rfl rfl 0 (by decide) hf88 (fun _ z => z) rfl dX11_firstForged_22 ?_
          refine lv_iload_n hx hb dX11_firstForged_25 rfl (lv_at hl 2 rfl) ?_
          obtain ⟨g26, h⟩ := k_guard h
          refine va_iald hx hb hK hP 4 0 rfl rfl g26 dX11_firstForged_26 ?_
          refine lv_aload_n hx hb dX11_firstForged_27 rfl (lv_at hl 0 rfl) ?_
          refine va_get (D := D) (ci := 11) (v := .ref (aN 0)) (C := RX11) (T := TX11) (N := 6) hx hb hts hiX11 hown hK hP 0 rfl rfl 0 (by decide) hf36 (fun _ z => z) rfl dX11_firstForged_28 ?_
          refine va_get (D := D) (ci := 2) (v := .ref (aN 3)) (C := RX2) (T := TX2) (N := 12) hx hb hts hiX2 hown hK hP 1 rfl rfl 2 (by decide) hf99 (fun _ z => z) rfl dX11_firstForged_31 ?_
          refine lv_iload_n hx hb dX11_firstForged_34 rfl (lv_at hl 2 rfl) ?_
          obtain ⟨g35, h⟩ := k_guard h
          refine va_iald hx hb hK hP 2 0 rfl rfl g35 dX11_firstForged_35 ?_
          refine lv_icmp_eq (tgt := 41) hx hb dX11_firstForged_36 (by decide) (fun c36 => ?_) (fun c36 => ?_)
          · have h := k_pos c36 h
            refine lv_iinc (v := (y2 + 1)) (lv' := [(2, .int (y2 + 1)), (0, .ref (aV 0)), (1, .ref (aD 0))]) hx hb dX11_firstForged_41 hl (k := 2) rfl (by first | rfl | decide) (by decide) rfl (fun ls hl => ?_)
            refine lv_goto (tgt := 2) hx hb dX11_firstForged_44 (by decide) ?_
            exact ih2 (y2 + 1) H locs ls hP hD hS (lv_sub hl [1, 2, 0] rfl) h
          · have h := k_neg c36 h
            refine lv_iload_n hx hb dX11_firstForged_39 rfl (lv_at hl 2 rfl) ?_
            cases h
            exact hret _ _ _ _ hP hS dX11_firstForged_40
  refine lv_istore_n (lv' := [(2, .int 0), (0, .ref (aV 0)), (1, .ref (aD 0))]) hx hb dX11_firstForged_1 rfl hl (by decide) rfl (fun ls hl => ?_)
  exact B2 lfu 0 s.heap [] ls hP hD hS (lv_sub hl [1, 2, 0] rfl) h
abbrev Wd35 (cI : ClassId) (cS : ClassId) (aV : Nat → Nat) (aN : Nat → Nat) (aS : Nat → Nat) (aT : Nat → Nat) (aW : Nat → Nat) (aK : Nat → Nat) (aH : Nat → Nat → Nat) (dn : Nat) (v_hasImage : Int32) (n_men : Int32) (n_propped : Int32) (n_place : Int32) (n_swings : Int32) (n_crashes : Int32) (n_day : Int32) (n_crashedToday : Int32) (n_lean : Nat → Int32) (d_kind : Int32) (d_figure : Int32) (d_sort : Int32) (d_size : Int32) (d_held : Int32) (d_el : Nat → Int32) : va_W := [((aV 0), .inr (11, [.ref (aN 0), .ref (aS 0), .ref (aT 0), .ref (aW 0), .ref (aV 1), .int v_hasImage])), ((aV 1), .inl (cS, 8, .inr (.inr (.inr (.inr (fun k => some (aH k 0))))))), ((aN 0), .inr (2, [.ref (aN 1), .ref (aN 2), .ref (aN 3), .int n_men, .int n_propped, .int n_place, .int n_swings, .int n_crashes, .int n_day, .int n_crashedToday, .ref (aK 8), .ref (aN 4)])), ((aN 3), .inl (cI, 8, .inl n_lean)), (((aH dn) 0), .inr (9, [.ref ((aH dn) 1), .int d_kind, .int d_figure, .int d_sort, .int d_size, .int d_held, .ref (aK 8)])), (((aH dn) 1), .inl (cI, 100, .inl d_el))]
theorem kdV_X11_firstForged : yX11_firstForged.cls = RX11 ∧ yX11_firstForged.cls ≠ "java/lang/invoke/MethodHandle" ∧ yX11_firstForged.cls ≠ "java/lang/invoke/VarHandle" ∧ (parseMethodDescriptor yX11_firstForged.desc).map (fun d => d.parameters.length) = some 1 := by decide +kernel
abbrev rm_X11_forged : Room := { frames := 3, cells := 0, slots := 0, locals := 63 }
set_option maxHeartbeats 4000000 in
set_option maxRecDepth 100000 in
theorem c_PL_forged (l : Launch) (D : va_G) (cI cM cS cJ : ClassId) (aV : Nat → Nat) (aN : Nat → Nat) (aS : Nat → Nat) (aT : Nat → Nat) (aW : Nat → Nat) (aK : Nat → Nat) (aH : Nat → Nat → Nat) (dn : Nat) (sz : Nat) (x1 : Int32) (v_hasImage : Int32) (nS : CS) (d_kind : Int32) (d_figure : Int32) (d_sort : Int32) (d_size : Int32) (d_held : Int32) (d_el : Nat → Int32) (hdn : ¬ (x1 < 0 ∨ 8 ≤ x1.toNatClampNeg) → x1.toNatClampNeg = dn) {o : (Int32)} (hsem : S_PL_forged x1 nS d_size d_held d_el = some o) : kMet l yX11_forged wsX11_forged rm_X11_forged [.ref (aV 0), .int x1] D (kT cI cM cS cJ) (Wd35 cI cS aV aN aS aT aW aK aH dn v_hasImage nS.1 nS.2.1 nS.2.2.1 nS.2.2.2.1 nS.2.2.2.2.1 nS.2.2.2.2.2.1 nS.2.2.2.2.2.2.1 nS.2.2.2.2.2.2.2.2.2.1 d_kind d_figure d_sort d_size d_held d_el) sz (some (.int o)) (Wd35 cI cS aV aN aS aT aW aK aH dn v_hasImage nS.1 nS.2.1 nS.2.2.1 nS.2.2.2.1 nS.2.2.2.2.1 nS.2.2.2.2.2.1 nS.2.2.2.2.2.2.1 nS.2.2.2.2.2.2.2.2.2.1 d_kind d_figure d_sort d_size d_held d_el) := by
  refine k_metI (by decide) rfl rfl (Nat.le_of_ble_eq_true rfl) ?_
  intro p e s m below meth c ls Q A hx hb hml hts hown hK hN hA hP hD hS hl hsz hnm hret
  have hown : s.vm.findClass RX11 = some m.cls := hown
  have hf59 := hts (.fieldLink RX11 59 "PlumbLine" "shelves" "[LPlumbLine$Shelf;") (List.mem_of_getElem? (i := 1) rfl)
  have hiX11 : ∀ w ∈ u_ws RX11 TX11 6, w ∈ wsX11_forged := fun w h => List.mem_cons_of_mem _ (List.mem_append_left _ (List.mem_append_left _ (List.mem_append_right _ h)))
  replace hl : lv_has ls 3 [(0, .ref (aV 0)), (1, .int x1)] := hl
  have h := hsem
  clear hsem
  rw [S_PL_forged] at h
  refine lv_aload_n hx hb dX11_forged_0 rfl (lv_at hl 0 rfl) ?_
  refine lv_iload_n hx hb dX11_forged_1 rfl (lv_at hl 1 rfl) ?_
  obtain ⟨r2, g2, h⟩ := k_bind h
  refine k_callV (As := [.int x1]) (rest := []) (st1 := [.int r2]) (ws2 := (Wd35 cI cS aV aN aS aT aW aK aH dn v_hasImage nS.1 nS.2.1 nS.2.2.1 nS.2.2.2.1 nS.2.2.2.2.1 nS.2.2.2.2.2.1 nS.2.2.2.2.2.2.1 nS.2.2.2.2.2.2.2.2.2.1 d_kind d_figure d_sort d_size d_held d_el)) hx hb hml hown hts hK hN hA hP hD hS hl (c_PL_refusalOfRow l D cI cM cS cJ aV aN aS aT aW aK aH dn s.heap.size x1 v_hasImage d_kind d_figure d_sort d_size d_held hdn g2) gX11_forged_X11_refusalOfRow rfl kdV_X11_refusalOfRow 0 11 rfl rfl rfl [0, 1, 4] ⟨rfl, rfl⟩ ⟨Nat.le_of_ble_eq_true rfl, Nat.le_of_ble_eq_true rfl⟩ ⟨Nat.zero_le _, Nat.zero_le _⟩ rfl rfl (by decide +kernel) rfl rfl rfl (Nat.le_of_ble_eq_true rfl) dX11_forged_2 rfl (fun H locs hP hD hS => ?_)
  refine lv_istore_n (lv' := [(2, .int r2), (0, .ref (aV 0)), (1, .int x1)]) hx hb dX11_forged_5 rfl hl (by decide) rfl (fun ls hl => ?_)
  refine lv_iload_n hx hb dX11_forged_6 rfl (lv_at hl 0 rfl) ?_
  refine lv_if_eq (tgt := 14) hx hb dX11_forged_7 (by decide) (fun c7 => ?_) (fun c7 => ?_)
  · have h := k_pos c7 h
    refine lv_aload_n hx hb dX11_forged_14 rfl (lv_at hl 1 rfl) ?_
    refine lv_aload_n hx hb dX11_forged_15 rfl (lv_at hl 1 rfl) ?_
    refine va_get (D := D) (ci := 11) (v := .ref (aV 1)) (C := RX11) (T := TX11) (N := 6) hx hb hts hiX11 hown hK hP 0 rfl rfl 4 (by decide) hf59 (fun _ z => z) rfl dX11_forged_16 ?_
    refine lv_iload_n hx hb dX11_forged_19 rfl (lv_at hl 2 rfl) ?_
    obtain ⟨g20, h⟩ := k_guard h
    refine k_aldR (f := fun k => aH k 0) hx hb hK hP 1 2 rfl rfl g20 dX11_forged_20 ?_
    rw [show x1.toNatClampNeg = dn from hdn g20]
    obtain ⟨r21, g21, h⟩ := k_bind h
    refine k_callV (As := [.ref ((aH dn) 0)]) (rest := []) (st1 := [.int r21]) (ws2 := (Wd35 cI cS aV aN aS aT aW aK aH dn v_hasImage nS.1 nS.2.1 nS.2.2.1 nS.2.2.2.1 nS.2.2.2.2.1 nS.2.2.2.2.2.1 nS.2.2.2.2.2.2.1 nS.2.2.2.2.2.2.2.2.2.1 d_kind d_figure d_sort d_size d_held d_el)) hx hb hml hown hts hK hN hA hP hD hS hl (c_PL_firstForged l D cI cM cS cJ (aH dn) aV aN aS aT aW aK H.size v_hasImage nS d_kind d_figure d_sort d_size d_held d_el g21) gX11_forged_X11_firstForged rfl kdV_X11_firstForged 0 11 rfl rfl rfl [0, 2, 3, 4, 5] ⟨rfl, rfl⟩ ⟨Nat.le_of_ble_eq_true rfl, Nat.le_of_ble_eq_true rfl⟩ ⟨Nat.zero_le _, Nat.zero_le _⟩ rfl rfl (by decide +kernel) rfl rfl rfl (Nat.le_of_ble_eq_true rfl) dX11_forged_21 rfl (fun H locs hP hD hS => ?_)
    cases h
    exact hret _ _ _ _ hP hS dX11_forged_24
  · have h := k_neg c7 h
    refine lv_iload_n hx hb dX11_forged_10 rfl (lv_at hl 0 rfl) ?_
    refine lv_goto (tgt := 24) hx hb dX11_forged_11 (by decide) ?_
    cases h
    exact hret _ _ _ _ hP hS dX11_forged_24
theorem kdV_X5_firstMisjudged : yX5_firstMisjudged.cls = RX5 ∧ yX5_firstMisjudged.cls ≠ "java/lang/invoke/MethodHandle" ∧ yX5_firstMisjudged.cls ≠ "java/lang/invoke/VarHandle" ∧ (parseMethodDescriptor yX5_firstMisjudged.desc).map (fun d => d.parameters.length) = some 1 := by decide +kernel
abbrev rm_X11_judge : Room := { frames := 5, cells := 0, slots := 0, locals := 127 }
set_option maxHeartbeats 4000000 in
set_option maxRecDepth 100000 in
theorem c_PL_judge (l : Launch) (D : va_G) (cI cM cS cJ : ClassId) (aV : Nat → Nat) (aN : Nat → Nat) (aS : Nat → Nat) (aT : Nat → Nat) (aW : Nat → Nat) (aM : Nat → Nat) (aK : Nat → Nat) (aH : Nat → Nat → Nat) (dn : Nat) (sz : Nat) (x1 : Int32) (v_hasImage : Int32) (nS : CS) (mS : CS) (d_kind : Int32) (d_figure : Int32) (d_sort : Int32) (d_size : Int32) (d_held : Int32) (d_el : Nat → Int32) (hdn : ¬ (x1 < 0 ∨ 8 ≤ x1.toNatClampNeg) → x1.toNatClampNeg = dn) {o : (Int32) × (CS)} (hsem : S_PL_judge x1 nS mS d_sort d_size d_held d_el = some o) : kMet l yX11_judge wsX11_judge rm_X11_judge [.ref (aV 0), .int x1] D (kT cI cM cS cJ) (Wd32 cI cM cS aV aN aS aT aW aM aK aH dn v_hasImage nS.1 nS.2.1 nS.2.2.1 nS.2.2.2.1 nS.2.2.2.2.1 nS.2.2.2.2.2.1 nS.2.2.2.2.2.2.1 nS.2.2.2.2.2.2.2.1 nS.2.2.2.2.2.2.2.2.1 nS.2.2.2.2.2.2.2.2.2.1 mS.1 mS.2.1 mS.2.2.1 mS.2.2.2.1 mS.2.2.2.2.1 mS.2.2.2.2.2.1 mS.2.2.2.2.2.2.1 mS.2.2.2.2.2.2.2.1 mS.2.2.2.2.2.2.2.2.1 mS.2.2.2.2.2.2.2.2.2.1 d_kind d_figure d_sort d_size d_held d_el) sz (some (.int o.1)) (Wd32 cI cM cS aV aN aS aT aW aM aK aH dn v_hasImage nS.1 nS.2.1 nS.2.2.1 nS.2.2.2.1 nS.2.2.2.2.1 nS.2.2.2.2.2.1 nS.2.2.2.2.2.2.1 nS.2.2.2.2.2.2.2.1 nS.2.2.2.2.2.2.2.2.1 nS.2.2.2.2.2.2.2.2.2.1 o.2.1 o.2.2.1 o.2.2.2.1 o.2.2.2.2.1 o.2.2.2.2.2.1 o.2.2.2.2.2.2.1 o.2.2.2.2.2.2.2.1 o.2.2.2.2.2.2.2.2.1 o.2.2.2.2.2.2.2.2.2.1 o.2.2.2.2.2.2.2.2.2.2.1 d_kind d_figure d_sort d_size d_held d_el) := by
  refine k_metI (by decide) rfl rfl (Nat.le_of_ble_eq_true rfl) ?_
  intro p e s m below meth c ls Q A hx hb hml hts hown hK hN hA hP hD hS hl hsz hnm hret
  have hown : s.vm.findClass RX11 = some m.cls := hown
  have hf53 := hts (.fieldLink RX11 53 "PlumbLine" "mind" "LPlumbLine$Mind;") (List.mem_of_getElem? (i := 1) rfl)
  have hf59 := hts (.fieldLink RX11 59 "PlumbLine" "shelves" "[LPlumbLine$Shelf;") (List.mem_of_getElem? (i := 2) rfl)
  have hiX11 : ∀ w ∈ u_ws RX11 TX11 6, w ∈ wsX11_judge := fun w h => List.mem_cons_of_mem _ (List.mem_append_left _ (List.mem_append_left _ (List.mem_append_left _ (List.mem_append_right _ h))))
  replace hl : lv_has ls 3 [(0, .ref (aV 0)), (1, .int x1)] := hl
  have h := hsem
  clear hsem
  rw [S_PL_judge] at h
  refine lv_aload_n hx hb dX11_judge_0 rfl (lv_at hl 0 rfl) ?_
  refine lv_iload_n hx hb dX11_judge_1 rfl (lv_at hl 1 rfl) ?_
  obtain ⟨r2, g2, h⟩ := k_bind h
  refine k_callV (As := [.int x1]) (rest := []) (st1 := [.int r2]) (ws2 := (Wd32 cI cM cS aV aN aS aT aW aM aK aH dn v_hasImage nS.1 nS.2.1 nS.2.2.1 nS.2.2.2.1 nS.2.2.2.2.1 nS.2.2.2.2.2.1 nS.2.2.2.2.2.2.1 nS.2.2.2.2.2.2.2.1 nS.2.2.2.2.2.2.2.2.1 nS.2.2.2.2.2.2.2.2.2.1 mS.1 mS.2.1 mS.2.2.1 mS.2.2.2.1 mS.2.2.2.2.1 mS.2.2.2.2.2.1 mS.2.2.2.2.2.2.1 mS.2.2.2.2.2.2.2.1 mS.2.2.2.2.2.2.2.2.1 mS.2.2.2.2.2.2.2.2.2.1 d_kind d_figure d_sort d_size d_held d_el)) hx hb hml hown hts hK hN hA hP hD hS hl (c_PL_refusalOfRow l D cI cM cS cJ aV aN aS aT aW aK aH dn s.heap.size x1 v_hasImage d_kind d_figure d_sort d_size d_held hdn g2) gX11_judge_X11_refusalOfRow rfl kdV_X11_refusalOfRow 0 11 rfl rfl rfl [0, 1, 11] ⟨rfl, rfl⟩ ⟨Nat.le_of_ble_eq_true rfl, Nat.le_of_ble_eq_true rfl⟩ ⟨Nat.zero_le _, Nat.zero_le _⟩ rfl rfl (by decide +kernel) rfl rfl rfl (Nat.le_of_ble_eq_true rfl) dX11_judge_2 rfl (fun H locs hP hD hS => ?_)
  refine lv_istore_n (lv' := [(2, .int r2), (0, .ref (aV 0)), (1, .int x1)]) hx hb dX11_judge_5 rfl hl (by decide) rfl (fun ls hl => ?_)
  refine lv_iload_n hx hb dX11_judge_6 rfl (lv_at hl 0 rfl) ?_
  refine lv_if_eq (tgt := 14) hx hb dX11_judge_7 (by decide) (fun c7 => ?_) (fun c7 => ?_)
  · have h := k_pos c7 h
    refine lv_aload_n hx hb dX11_judge_14 rfl (lv_at hl 1 rfl) ?_
    refine va_get (D := D) (ci := 11) (v := .ref (aW 0)) (C := RX11) (T := TX11) (N := 6) hx hb hts hiX11 hown hK hP 0 rfl rfl 3 (by decide) hf53 (fun _ z => z) rfl dX11_judge_15 ?_
    refine lv_aload_n hx hb dX11_judge_18 rfl (lv_at hl 1 rfl) ?_
    refine va_get (D := D) (ci := 11) (v := .ref (aV 1)) (C := RX11) (T := TX11) (N := 6) hx hb hts hiX11 hown hK hP 0 rfl rfl 4 (by decide) hf59 (fun _ z => z) rfl dX11_judge_19 ?_
    refine lv_iload_n hx hb dX11_judge_22 rfl (lv_at hl 2 rfl) ?_
    obtain ⟨g23, h⟩ := k_guard h
    refine k_aldR (f := fun k => aH k 0) hx hb hK hP 1 2 rfl rfl g23 dX11_judge_23 ?_
    rw [show x1.toNatClampNeg = dn from hdn g23]
    obtain ⟨r24, g24, h⟩ := k_bind h
    refine k_callV (As := [.ref ((aH dn) 0)]) (rest := []) (st1 := [.int r24.1]) (ws2 := (Wd32 cI cM cS aV aN aS aT aW aM aK aH dn v_hasImage nS.1 nS.2.1 nS.2.2.1 nS.2.2.2.1 nS.2.2.2.2.1 nS.2.2.2.2.2.1 nS.2.2.2.2.2.2.1 nS.2.2.2.2.2.2.2.1 nS.2.2.2.2.2.2.2.2.1 nS.2.2.2.2.2.2.2.2.2.1 r24.2.1 r24.2.2.1 r24.2.2.2.1 r24.2.2.2.2.1 r24.2.2.2.2.2.1 r24.2.2.2.2.2.2.1 r24.2.2.2.2.2.2.2.1 r24.2.2.2.2.2.2.2.2.1 r24.2.2.2.2.2.2.2.2.2.1 r24.2.2.2.2.2.2.2.2.2.2.1 d_kind d_figure d_sort d_size d_held d_el)) hx hb hml hown hts hK hN hA hP hD hS hl (c_Mind_firstMisjudged l D cI cM cS cJ (aH dn) aN aW aM aK H.size nS mS d_kind d_figure d_sort d_size d_held d_el g24) gX11_judge_X5_firstMisjudged rfl kdV_X5_firstMisjudged 0 5 rfl rfl rfl [6, 2, 3, 4, 5, 7, 8, 9, 10, 11, 12, 13, 14, 15, 16, 17, 18, 19, 20, 21] ⟨rfl, rfl⟩ ⟨Nat.le_of_ble_eq_true rfl, Nat.le_of_ble_eq_true rfl⟩ ⟨Nat.zero_le _, Nat.zero_le _⟩ rfl rfl (by decide +kernel) rfl rfl rfl (Nat.le_of_ble_eq_true rfl) dX11_judge_24 rfl (fun H locs hP hD hS => ?_)
    cases h
    exact hret _ _ _ _ hP hS dX11_judge_27
  · have h := k_neg c7 h
    refine lv_iload_n hx hb dX11_judge_10 rfl (lv_at hl 0 rfl) ?_
    refine lv_goto (tgt := 27) hx hb dX11_judge_11 (by decide) ?_
    cases h
    exact hret _ _ _ _ hP hS dX11_judge_27
theorem kdV_X5_drawnYears : yX5_drawnYears.cls = RX5 ∧ yX5_drawnYears.cls ≠ "java/lang/invoke/MethodHandle" ∧ yX5_drawnYears.cls ≠ "java/lang/invoke/VarHandle" ∧ (parseMethodDescriptor yX5_drawnYears.desc).map (fun d => d.parameters.length) = some 3 := by decide +kernel
abbrev rm_X11_years : Room := { frames := 6, cells := 0, slots := 0, locals := 156 }
set_option maxHeartbeats 4000000 in
set_option maxRecDepth 100000 in
theorem c_PL_years (l : Launch) (D : va_G) (cI cM cS cJ : ClassId) (aV : Nat → Nat) (aN : Nat → Nat) (aS : Nat → Nat) (aT : Nat → Nat) (aW : Nat → Nat) (aM : Nat → Nat) (aK : Nat → Nat) (sz : Nat) (x1 : Int32) (x2 : Int32) (x3 : Int32) (v_hasImage : Int32) (nS : CS) (mS : CS) {o : (Int32) × (CS)} (hsem : S_PL_years x1 x2 x3 nS mS = some o) : kMet l yX11_years wsX11_years rm_X11_years [.ref (aV 0), .int x1, .int x2, .int x3] D (kT cI cM cS cJ) (Wd29 cI cM aV aN aS aT aW aM aK v_hasImage nS.1 nS.2.1 nS.2.2.1 nS.2.2.2.1 nS.2.2.2.2.1 nS.2.2.2.2.2.1 nS.2.2.2.2.2.2.1 nS.2.2.2.2.2.2.2.1 nS.2.2.2.2.2.2.2.2.1 nS.2.2.2.2.2.2.2.2.2.1 mS.1 mS.2.1 mS.2.2.1 mS.2.2.2.1 mS.2.2.2.2.1 mS.2.2.2.2.2.1 mS.2.2.2.2.2.2.1 mS.2.2.2.2.2.2.2.1 mS.2.2.2.2.2.2.2.2.1 mS.2.2.2.2.2.2.2.2.2.1) sz (some (.int o.1)) (Wd29 cI cM aV aN aS aT aW aM aK v_hasImage nS.1 nS.2.1 nS.2.2.1 nS.2.2.2.1 nS.2.2.2.2.1 nS.2.2.2.2.2.1 nS.2.2.2.2.2.2.1 nS.2.2.2.2.2.2.2.1 nS.2.2.2.2.2.2.2.2.1 nS.2.2.2.2.2.2.2.2.2.1 o.2.1 o.2.2.1 o.2.2.2.1 o.2.2.2.2.1 o.2.2.2.2.2.1 o.2.2.2.2.2.2.1 o.2.2.2.2.2.2.2.1 o.2.2.2.2.2.2.2.2.1 o.2.2.2.2.2.2.2.2.2.1 o.2.2.2.2.2.2.2.2.2.2.1) := by
  refine k_metI (by decide) rfl rfl (Nat.le_of_ble_eq_true rfl) ?_
  intro p e s m below meth c ls Q A hx hb hml hts hown hK hN hA hP hD hS hl hsz hnm hret
  have hown : s.vm.findClass RX11 = some m.cls := hown
  have hf53 := hts (.fieldLink RX11 53 "PlumbLine" "mind" "LPlumbLine$Mind;") (List.mem_of_getElem? (i := 1) rfl)
  have hiX11 : ∀ w ∈ u_ws RX11 TX11 6, w ∈ wsX11_years := fun w h => List.mem_cons_of_mem _ (List.mem_append_left _ (List.mem_append_left _ (List.mem_append_right _ h)))
  replace hl : lv_has ls 4 [(0, .ref (aV 0)), (1, .int x1), (2, .int x2), (3, .int x3)] := hl
  have h := hsem
  clear hsem
  rw [S_PL_years] at h
  refine lv_iload_n hx hb dX11_years_0 rfl (lv_at hl 1 rfl) ?_
  refine lv_iconst (v := 1) hx hb dX11_years_1 (by decide) ?_
  refine lv_bipush (v := 20) hx hb dX11_years_2 (by decide) ?_
  refine k_callS (As := [.int x1, .int 1, .int 20]) (rest := []) (st1 := [.int (S_PL_isIn x1 1 20)]) (ws2 := (Wd29 cI cM aV aN aS aT aW aM aK v_hasImage nS.1 nS.2.1 nS.2.2.1 nS.2.2.2.1 nS.2.2.2.2.1 nS.2.2.2.2.2.1 nS.2.2.2.2.2.2.1 nS.2.2.2.2.2.2.2.1 nS.2.2.2.2.2.2.2.2.1 nS.2.2.2.2.2.2.2.2.2.1 mS.1 mS.2.1 mS.2.2.1 mS.2.2.2.1 mS.2.2.2.2.1 mS.2.2.2.2.2.1 mS.2.2.2.2.2.2.1 mS.2.2.2.2.2.2.2.1 mS.2.2.2.2.2.2.2.2.1 mS.2.2.2.2.2.2.2.2.2.1)) hx hb hml hown hts hK hN hA hP hD hS hl (c_PL_isIn l D cI cM cS cJ s.heap.size x1 1 20 rfl) gX11_years_X11_isIn rfl kdS_X11_isIn [] ⟨rfl, rfl⟩ ⟨Nat.le_of_ble_eq_true rfl, Nat.le_of_ble_eq_true rfl⟩ ⟨Nat.zero_le _, Nat.zero_le _⟩ rfl rfl (by decide +kernel) rfl rfl rfl (Nat.le_of_ble_eq_true rfl) dX11_years_4 rfl (fun H locs hP hD hS => ?_)
  refine lv_if_eq (tgt := 19) hx hb dX11_years_7 (by decide) (fun c7 => ?_) (fun c7 => ?_)
  · have h := k_pos c7 h
    refine lv_iconst (v := (-1)) hx hb dX11_years_19 (by decide) ?_
    cases h
    exact hret _ _ _ _ hP hS dX11_years_20
  · have h := k_neg c7 h
    refine lv_iload_n hx hb dX11_years_10 rfl (lv_at hl 3 rfl) ?_
    refine lv_iconst (v := 0) hx hb dX11_years_11 (by decide) ?_
    refine lv_iconst (v := 1) hx hb dX11_years_12 (by decide) ?_
    refine k_callS (As := [.int x3, .int 0, .int 1]) (rest := []) (st1 := [.int (S_PL_isIn x3 0 1)]) (ws2 := (Wd29 cI cM aV aN aS aT aW aM aK v_hasImage nS.1 nS.2.1 nS.2.2.1 nS.2.2.2.1 nS.2.2.2.2.1 nS.2.2.2.2.2.1 nS.2.2.2.2.2.2.1 nS.2.2.2.2.2.2.2.1 nS.2.2.2.2.2.2.2.2.1 nS.2.2.2.2.2.2.2.2.2.1 mS.1 mS.2.1 mS.2.2.1 mS.2.2.2.1 mS.2.2.2.2.1 mS.2.2.2.2.2.1 mS.2.2.2.2.2.2.1 mS.2.2.2.2.2.2.2.1 mS.2.2.2.2.2.2.2.2.1 mS.2.2.2.2.2.2.2.2.2.1)) hx hb hml hown hts hK hN hA hP hD hS hl (c_PL_isIn l D cI cM cS cJ H.size x3 0 1 rfl) gX11_years_X11_isIn rfl kdS_X11_isIn [] ⟨rfl, rfl⟩ ⟨Nat.le_of_ble_eq_true rfl, Nat.le_of_ble_eq_true rfl⟩ ⟨Nat.zero_le _, Nat.zero_le _⟩ rfl rfl (by decide +kernel) rfl rfl rfl (Nat.le_of_ble_eq_true rfl) dX11_years_13 rfl (fun H locs hP hD hS => ?_)
    refine lv_if_ne (tgt := 21) hx hb dX11_years_16 (by decide) (fun c16 => ?_) (fun c16 => ?_)
    · have h := k_neg c16 h
      refine lv_aload_n hx hb dX11_years_21 rfl (lv_at hl 0 rfl) ?_
      refine va_get (D := D) (ci := 11) (v := .ref (aW 0)) (C := RX11) (T := TX11) (N := 6) hx hb hts hiX11 hown hK hP 0 rfl rfl 3 (by decide) hf53 (fun _ z => z) rfl dX11_years_22 ?_
      refine lv_iload_n hx hb dX11_years_25 rfl (lv_at hl 1 rfl) ?_
      refine lv_iload_n hx hb dX11_years_26 rfl (lv_at hl 2 rfl) ?_
      refine lv_iload_n hx hb dX11_years_27 rfl (lv_at hl 3 rfl) ?_
      obtain ⟨r28, g28, h⟩ := k_bind h
      refine k_callV (As := [.int x1, .int x2, .int x3]) (rest := []) (st1 := [.int r28.1]) (ws2 := (Wd29 cI cM aV aN aS aT aW aM aK v_hasImage nS.1 nS.2.1 nS.2.2.1 nS.2.2.2.1 nS.2.2.2.2.1 nS.2.2.2.2.2.1 nS.2.2.2.2.2.2.1 nS.2.2.2.2.2.2.2.1 nS.2.2.2.2.2.2.2.2.1 nS.2.2.2.2.2.2.2.2.2.1 r28.2.1 r28.2.2.1 r28.2.2.2.1 r28.2.2.2.2.1 r28.2.2.2.2.2.1 r28.2.2.2.2.2.2.1 r28.2.2.2.2.2.2.2.1 r28.2.2.2.2.2.2.2.2.1 r28.2.2.2.2.2.2.2.2.2.1 r28.2.2.2.2.2.2.2.2.2.2.1)) hx hb hml hown hts hK hN hA hP hD hS hl (c_Mind_drawnYears l D cI cM cS cJ aN aW aM aK H.size x1 x2 x3 nS mS g28) gX11_years_X5_drawnYears rfl kdV_X5_drawnYears 0 5 rfl rfl rfl [5, 1, 2, 3, 4, 6, 7, 8, 9, 10, 11, 12, 13, 14, 15, 16, 17, 18] ⟨rfl, rfl⟩ ⟨Nat.le_of_ble_eq_true rfl, Nat.le_of_ble_eq_true rfl⟩ ⟨Nat.zero_le _, Nat.zero_le _⟩ rfl rfl (by decide +kernel) rfl rfl rfl (Nat.le_of_ble_eq_true rfl) dX11_years_28 rfl (fun H locs hP hD hS => ?_)
      cases h
      exact hret _ _ _ _ hP hS dX11_years_31
    · have h := k_pos c16 h
      refine lv_iconst (v := (-1)) hx hb dX11_years_19 (by decide) ?_
      cases h
      exact hret _ _ _ _ hP hS dX11_years_20
abbrev Wd36 (cI : ClassId) (aV : Nat → Nat) (aN : Nat → Nat) (aS : Nat → Nat) (aT : Nat → Nat) (aW : Nat → Nat) (aK : Nat → Nat) (v_hasImage : Int32) (n_men : Int32) (n_propped : Int32) (n_place : Int32) (n_swings : Int32) (n_crashes : Int32) (n_day : Int32) (n_crashedToday : Int32) (n_kind : Nat → Int32) (n_figure : Nat → Int32) (n_lean : Nat → Int32) (s_men : Int32) (s_propped : Int32) (s_place : Int32) (s_swings : Int32) (s_crashes : Int32) (s_day : Int32) (s_crashedToday : Int32) (s_kind : Nat → Int32) (s_figure : Nat → Int32) (s_lean : Nat → Int32) : va_W := [((aV 0), .inr (11, [.ref (aN 0), .ref (aS 0), .ref (aT 0), .ref (aW 0), .ref (aV 1), .int v_hasImage])), ((aN 0), .inr (2, [.ref (aN 1), .ref (aN 2), .ref (aN 3), .int n_men, .int n_propped, .int n_place, .int n_swings, .int n_crashes, .int n_day, .int n_crashedToday, .ref (aK 8), .ref (aN 4)])), ((aN 1), .inl (cI, 8, .inl n_kind)), ((aN 2), .inl (cI, 8, .inl n_figure)), ((aN 3), .inl (cI, 8, .inl n_lean)), ((aS 0), .inr (2, [.ref (aS 1), .ref (aS 2), .ref (aS 3), .int s_men, .int s_propped, .int s_place, .int s_swings, .int s_crashes, .int s_day, .int s_crashedToday, .ref (aK 8), .ref (aS 4)])), ((aS 1), .inl (cI, 8, .inl s_kind)), ((aS 2), .inl (cI, 8, .inl s_figure)), ((aS 3), .inl (cI, 8, .inl s_lean))]
abbrev rm_X11_image : Room := { frames := 2, cells := 0, slots := 0, locals := 81 }
set_option maxHeartbeats 4000000 in
set_option maxRecDepth 100000 in
theorem c_PL_image (l : Launch) (D : va_G) (cI cM cS cJ : ClassId) (aV : Nat → Nat) (aN : Nat → Nat) (aS : Nat → Nat) (aT : Nat → Nat) (aW : Nat → Nat) (aK : Nat → Nat) (sz : Nat) (v_hasImage : Int32) (nS : CS) (sS : CS) {o : (Int32) × (Int32) × (CS)} (hsem : S_PL_image v_hasImage nS sS = some o) : kMet l yX11_image wsX11_image rm_X11_image [.ref (aV 0)] D (kT cI cM cS cJ) (Wd36 cI aV aN aS aT aW aK v_hasImage nS.1 nS.2.1 nS.2.2.1 nS.2.2.2.1 nS.2.2.2.2.1 nS.2.2.2.2.2.1 nS.2.2.2.2.2.2.1 nS.2.2.2.2.2.2.2.1 nS.2.2.2.2.2.2.2.2.1 nS.2.2.2.2.2.2.2.2.2.1 sS.1 sS.2.1 sS.2.2.1 sS.2.2.2.1 sS.2.2.2.2.1 sS.2.2.2.2.2.1 sS.2.2.2.2.2.2.1 sS.2.2.2.2.2.2.2.1 sS.2.2.2.2.2.2.2.2.1 sS.2.2.2.2.2.2.2.2.2.1) sz (some (.int o.1)) (Wd36 cI aV aN aS aT aW aK o.2.1 nS.1 nS.2.1 nS.2.2.1 nS.2.2.2.1 nS.2.2.2.2.1 nS.2.2.2.2.2.1 nS.2.2.2.2.2.2.1 nS.2.2.2.2.2.2.2.1 nS.2.2.2.2.2.2.2.2.1 nS.2.2.2.2.2.2.2.2.2.1 o.2.2.1 o.2.2.2.1 o.2.2.2.2.1 o.2.2.2.2.2.1 o.2.2.2.2.2.2.1 o.2.2.2.2.2.2.2.1 o.2.2.2.2.2.2.2.2.1 o.2.2.2.2.2.2.2.2.2.1 o.2.2.2.2.2.2.2.2.2.2.1 o.2.2.2.2.2.2.2.2.2.2.2.1) := by
  refine k_metI (by decide) rfl rfl (Nat.le_of_ble_eq_true rfl) ?_
  intro p e s m below meth c ls Q A hx hb hml hts hown hK hN hA hP hD hS hl hsz hnm hret
  have hown : s.vm.findClass RX11 = some m.cls := hown
  have hf42 := hts (.fieldLink RX11 42 "PlumbLine" "saved" "LPlumbLine$City;") (List.mem_of_getElem? (i := 1) rfl)
  have hf36 := hts (.fieldLink RX11 36 "PlumbLine" "now" "LPlumbLine$City;") (List.mem_of_getElem? (i := 2) rfl)
  have hf256 := hts (.fieldLink RX11 256 "PlumbLine" "hasImage" "Z") (List.mem_of_getElem? (i := 3) rfl)
  have hf148 := hts (.fieldLink RX11 148 "PlumbLine$City" "day" "I") (List.mem_of_getElem? (i := 4) rfl)
  have hiX11 : ∀ w ∈ u_ws RX11 TX11 6, w ∈ wsX11_image := fun w h => List.mem_cons_of_mem _ (List.mem_append_left _ (List.mem_append_right _ h))
  have hiX2 : ∀ w ∈ u_ws RX2 TX2 12, w ∈ wsX11_image := fun w h => List.mem_cons_of_mem _ (List.mem_append_right _ h)
  replace hl : lv_has ls 1 [(0, .ref (aV 0))] := hl
  have h := hsem
  clear hsem
  rw [S_PL_image] at h
  refine lv_aload_n hx hb dX11_image_0 rfl (lv_at hl 0 rfl) ?_
  refine va_get (D := D) (ci := 11) (v := .ref (aS 0)) (C := RX11) (T := TX11) (N := 6) hx hb hts hiX11 hown hK hP 0 rfl rfl 1 (by decide) hf42 (fun _ z => z) rfl dX11_image_1 ?_
  refine lv_aload_n hx hb dX11_image_4 rfl (lv_at hl 0 rfl) ?_
  refine va_get (D := D) (ci := 11) (v := .ref (aN 0)) (C := RX11) (T := TX11) (N := 6) hx hb hts hiX11 hown hK hP 0 rfl rfl 0 (by decide) hf36 (fun _ z => z) rfl dX11_image_5 ?_
  obtain ⟨r8, g8, h⟩ := k_bind h
  refine k_callV (As := [.ref (aN 0)]) (rest := []) (st1 := []) (ws2 := (Wd36 cI aV aN aS aT aW aK v_hasImage nS.1 nS.2.1 nS.2.2.1 nS.2.2.2.1 nS.2.2.2.2.1 nS.2.2.2.2.2.1 nS.2.2.2.2.2.2.1 nS.2.2.2.2.2.2.2.1 nS.2.2.2.2.2.2.2.2.1 nS.2.2.2.2.2.2.2.2.2.1 r8.1 r8.2.1 r8.2.2.1 r8.2.2.2.1 r8.2.2.2.2.1 r8.2.2.2.2.2.1 sS.2.2.2.2.2.2.1 r8.2.2.2.2.2.2.1 r8.2.2.2.2.2.2.2.1 r8.2.2.2.2.2.2.2.2)) hx hb hml hown hts hK hN hA hP hD hS hl (c_City_becomes l D cI cM cS cJ aS aN aK s.heap.size sS.1 sS.2.1 sS.2.2.1 sS.2.2.2.1 sS.2.2.2.2.1 sS.2.2.2.2.2.1 sS.2.2.2.2.2.2.1 sS.2.2.2.2.2.2.2.1 sS.2.2.2.2.2.2.2.2.1 sS.2.2.2.2.2.2.2.2.2.1 nS.1 nS.2.1 nS.2.2.1 nS.2.2.2.1 nS.2.2.2.2.1 nS.2.2.2.2.2.1 nS.2.2.2.2.2.2.1 nS.2.2.2.2.2.2.2.1 nS.2.2.2.2.2.2.2.2.1 nS.2.2.2.2.2.2.2.2.2.1 g8) gX11_image_X2_becomes rfl kdV_X2_becomes 0 2 rfl rfl rfl [5, 6, 7, 8, 1, 2, 3, 4] ⟨rfl, rfl⟩ ⟨Nat.le_of_ble_eq_true rfl, Nat.le_of_ble_eq_true rfl⟩ ⟨Nat.zero_le _, Nat.zero_le _⟩ rfl rfl (by decide +kernel) rfl rfl rfl (Nat.le_of_ble_eq_true rfl) dX11_image_8 rfl (fun H locs hP hD hS => ?_)
  refine lv_aload_n hx hb dX11_image_11 rfl (lv_at hl 0 rfl) ?_
  refine lv_iconst (v := 1) hx hb dX11_image_12 (by decide) ?_
  refine va_put (D := D) (ci := 11) (v := .int 1) (ty := .boolean) (C := RX11) (T := TX11) (N := 6) hx hb hts hiX11 tyX11 tyX11_ok nmX11 hown hK hP hD hS 0 rfl rfl 5 (by decide) hf256 (fun _ z => z) rfl (by decide +kernel) rfl rfl (Nat.le_of_ble_eq_true rfl) dX11_image_13 (fun H locs hP hD hS => ?_)
  replace hP : va_P D vwCl (Wd36 cI aV aN aS aT aW aK 1 nS.1 nS.2.1 nS.2.2.1 nS.2.2.2.1 nS.2.2.2.2.1 nS.2.2.2.2.2.1 nS.2.2.2.2.2.2.1 nS.2.2.2.2.2.2.2.1 nS.2.2.2.2.2.2.2.2.1 nS.2.2.2.2.2.2.2.2.2.1 r8.1 r8.2.1 r8.2.2.1 r8.2.2.2.1 r8.2.2.2.2.1 r8.2.2.2.2.2.1 sS.2.2.2.2.2.2.1 r8.2.2.2.2.2.2.1 r8.2.2.2.2.2.2.2.1 r8.2.2.2.2.2.2.2.2) H := hP
  replace hD : va_D A (Wd36 cI aV aN aS aT aW aK 1 nS.1 nS.2.1 nS.2.2.1 nS.2.2.2.1 nS.2.2.2.2.1 nS.2.2.2.2.2.1 nS.2.2.2.2.2.2.1 nS.2.2.2.2.2.2.2.1 nS.2.2.2.2.2.2.2.2.1 nS.2.2.2.2.2.2.2.2.2.1 r8.1 r8.2.1 r8.2.2.1 r8.2.2.2.1 r8.2.2.2.2.1 r8.2.2.2.2.2.1 sS.2.2.2.2.2.2.1 r8.2.2.2.2.2.2.1 r8.2.2.2.2.2.2.2.1 r8.2.2.2.2.2.2.2.2) := hD
  refine lv_aload_n hx hb dX11_image_16 rfl (lv_at hl 0 rfl) ?_
  refine va_get (D := D) (ci := 11) (v := .ref (aN 0)) (C := RX11) (T := TX11) (N := 6) hx hb hts hiX11 hown hK hP 0 rfl rfl 0 (by decide) hf36 (fun _ z => z) rfl dX11_image_17 ?_
  refine va_get (D := D) (ci := 2) (v := .int nS.2.2.2.2.2.1) (C := RX2) (T := TX2) (N := 12) hx hb hts hiX2 hown hK hP 1 rfl rfl 8 (by decide) hf148 (fun _ z => z) rfl dX11_image_20 ?_
  cases h
  exact hret _ _ _ _ hP hS dX11_image_23
abbrev rm_X11_restore : Room := { frames := 2, cells := 0, slots := 0, locals := 81 }
set_option maxHeartbeats 4000000 in
set_option maxRecDepth 100000 in
theorem c_PL_restore (l : Launch) (D : va_G) (cI cM cS cJ : ClassId) (aV : Nat → Nat) (aN : Nat → Nat) (aS : Nat → Nat) (aT : Nat → Nat) (aW : Nat → Nat) (aK : Nat → Nat) (sz : Nat) (v_hasImage : Int32) (nS : CS) (sS : CS) {o : (Int32) × (CS)} (hsem : S_PL_restore v_hasImage nS sS = some o) : kMet l yX11_restore wsX11_restore rm_X11_restore [.ref (aV 0)] D (kT cI cM cS cJ) (Wd36 cI aV aN aS aT aW aK v_hasImage nS.1 nS.2.1 nS.2.2.1 nS.2.2.2.1 nS.2.2.2.2.1 nS.2.2.2.2.2.1 nS.2.2.2.2.2.2.1 nS.2.2.2.2.2.2.2.1 nS.2.2.2.2.2.2.2.2.1 nS.2.2.2.2.2.2.2.2.2.1 sS.1 sS.2.1 sS.2.2.1 sS.2.2.2.1 sS.2.2.2.2.1 sS.2.2.2.2.2.1 sS.2.2.2.2.2.2.1 sS.2.2.2.2.2.2.2.1 sS.2.2.2.2.2.2.2.2.1 sS.2.2.2.2.2.2.2.2.2.1) sz (some (.int o.1)) (Wd36 cI aV aN aS aT aW aK v_hasImage o.2.1 o.2.2.1 o.2.2.2.1 o.2.2.2.2.1 o.2.2.2.2.2.1 o.2.2.2.2.2.2.1 o.2.2.2.2.2.2.2.1 o.2.2.2.2.2.2.2.2.1 o.2.2.2.2.2.2.2.2.2.1 o.2.2.2.2.2.2.2.2.2.2.1 sS.1 sS.2.1 sS.2.2.1 sS.2.2.2.1 sS.2.2.2.2.1 sS.2.2.2.2.2.1 sS.2.2.2.2.2.2.1 sS.2.2.2.2.2.2.2.1 sS.2.2.2.2.2.2.2.2.1 sS.2.2.2.2.2.2.2.2.2.1) := by
  refine k_metI (by decide) rfl rfl (Nat.le_of_ble_eq_true rfl) ?_
  intro p e s m below meth c ls Q A hx hb hml hts hown hK hN hA hP hD hS hl hsz hnm hret
  have hown : s.vm.findClass RX11 = some m.cls := hown
  have hf256 := hts (.fieldLink RX11 256 "PlumbLine" "hasImage" "Z") (List.mem_of_getElem? (i := 1) rfl)
  have hf36 := hts (.fieldLink RX11 36 "PlumbLine" "now" "LPlumbLine$City;") (List.mem_of_getElem? (i := 2) rfl)
  have hf42 := hts (.fieldLink RX11 42 "PlumbLine" "saved" "LPlumbLine$City;") (List.mem_of_getElem? (i := 3) rfl)
  have hf148 := hts (.fieldLink RX11 148 "PlumbLine$City" "day" "I") (List.mem_of_getElem? (i := 4) rfl)
  have hiX11 : ∀ w ∈ u_ws RX11 TX11 6, w ∈ wsX11_restore := fun w h => List.mem_cons_of_mem _ (List.mem_append_left _ (List.mem_append_right _ h))
  have hiX2 : ∀ w ∈ u_ws RX2 TX2 12, w ∈ wsX11_restore := fun w h => List.mem_cons_of_mem _ (List.mem_append_right _ h)
  replace hl : lv_has ls 1 [(0, .ref (aV 0))] := hl
  have h := hsem
  clear hsem
  rw [S_PL_restore] at h
  refine lv_aload_n hx hb dX11_restore_0 rfl (lv_at hl 0 rfl) ?_
  refine va_get (D := D) (ci := 11) (v := .int v_hasImage) (C := RX11) (T := TX11) (N := 6) hx hb hts hiX11 hown hK hP 0 rfl rfl 5 (by decide) hf256 (fun _ z => z) rfl dX11_restore_1 ?_
  refine lv_if_ne (tgt := 10) hx hb dX11_restore_4 (by decide) (fun c4 => ?_) (fun c4 => ?_)
  · have h := k_neg c4 h
    refine lv_aload_n hx hb dX11_restore_10 rfl (lv_at hl 0 rfl) ?_
    refine va_get (D := D) (ci := 11) (v := .ref (aN 0)) (C := RX11) (T := TX11) (N := 6) hx hb hts hiX11 hown hK hP 0 rfl rfl 0 (by decide) hf36 (fun _ z => z) rfl dX11_restore_11 ?_
    refine lv_aload_n hx hb dX11_restore_14 rfl (lv_at hl 0 rfl) ?_
    refine va_get (D := D) (ci := 11) (v := .ref (aS 0)) (C := RX11) (T := TX11) (N := 6) hx hb hts hiX11 hown hK hP 0 rfl rfl 1 (by decide) hf42 (fun _ z => z) rfl dX11_restore_15 ?_
    obtain ⟨r18, g18, h⟩ := k_bind h
    refine k_callV (As := [.ref (aS 0)]) (rest := []) (st1 := []) (ws2 := (Wd36 cI aV aN aS aT aW aK v_hasImage r18.1 r18.2.1 r18.2.2.1 r18.2.2.2.1 r18.2.2.2.2.1 r18.2.2.2.2.2.1 nS.2.2.2.2.2.2.1 r18.2.2.2.2.2.2.1 r18.2.2.2.2.2.2.2.1 r18.2.2.2.2.2.2.2.2 sS.1 sS.2.1 sS.2.2.1 sS.2.2.2.1 sS.2.2.2.2.1 sS.2.2.2.2.2.1 sS.2.2.2.2.2.2.1 sS.2.2.2.2.2.2.2.1 sS.2.2.2.2.2.2.2.2.1 sS.2.2.2.2.2.2.2.2.2.1)) hx hb hml hown hts hK hN hA hP hD hS hl (c_City_becomes l D cI cM cS cJ aN aS aK s.heap.size nS.1 nS.2.1 nS.2.2.1 nS.2.2.2.1 nS.2.2.2.2.1 nS.2.2.2.2.2.1 nS.2.2.2.2.2.2.1 nS.2.2.2.2.2.2.2.1 nS.2.2.2.2.2.2.2.2.1 nS.2.2.2.2.2.2.2.2.2.1 sS.1 sS.2.1 sS.2.2.1 sS.2.2.2.1 sS.2.2.2.2.1 sS.2.2.2.2.2.1 sS.2.2.2.2.2.2.1 sS.2.2.2.2.2.2.2.1 sS.2.2.2.2.2.2.2.2.1 sS.2.2.2.2.2.2.2.2.2.1 g18) gX11_restore_X2_becomes rfl kdV_X2_becomes 0 2 rfl rfl rfl [1, 2, 3, 4, 5, 6, 7, 8] ⟨rfl, rfl⟩ ⟨Nat.le_of_ble_eq_true rfl, Nat.le_of_ble_eq_true rfl⟩ ⟨Nat.zero_le _, Nat.zero_le _⟩ rfl rfl (by decide +kernel) rfl rfl rfl (Nat.le_of_ble_eq_true rfl) dX11_restore_18 rfl (fun H locs hP hD hS => ?_)
    refine lv_aload_n hx hb dX11_restore_21 rfl (lv_at hl 0 rfl) ?_
    refine va_get (D := D) (ci := 11) (v := .ref (aN 0)) (C := RX11) (T := TX11) (N := 6) hx hb hts hiX11 hown hK hP 0 rfl rfl 0 (by decide) hf36 (fun _ z => z) rfl dX11_restore_22 ?_
    refine va_get (D := D) (ci := 2) (v := .int r18.2.2.2.2.2.1) (C := RX2) (T := TX2) (N := 12) hx hb hts hiX2 hown hK hP 1 rfl rfl 8 (by decide) hf148 (fun _ z => z) rfl dX11_restore_25 ?_
    cases h
    exact hret _ _ _ _ hP hS dX11_restore_28
  · have h := k_pos c4 h
    refine lv_bipush (v := (-3)) hx hb dX11_restore_7 (by decide) ?_
    cases h
    exact hret _ _ _ _ hP hS dX11_restore_9
abbrev rm_X11_count : Room := { frames := 3, cells := 0, slots := 0, locals := 64 }
set_option maxHeartbeats 4000000 in
set_option maxRecDepth 100000 in
theorem c_PL_count (l : Launch) (D : va_G) (cI cM cS cJ : ClassId) (aV : Nat → Nat) (aN : Nat → Nat) (aS : Nat → Nat) (aT : Nat → Nat) (aW : Nat → Nat) (aK : Nat → Nat) (sz : Nat) (x1 : Int32) (v_hasImage : Int32) (nS : CS) {o : (Int32)} (hsem : S_PL_count x1 nS = some o) : kMet l yX11_count wsX11_count rm_X11_count [.ref (aV 0), .int x1] D (kT cI cM cS cJ) (Wd26 cI cM aV aN aS aT aW aK v_hasImage nS.1 nS.2.1 nS.2.2.1 nS.2.2.2.1 nS.2.2.2.2.1 nS.2.2.2.2.2.1 nS.2.2.2.2.2.2.1 nS.2.2.2.2.2.2.2.1 nS.2.2.2.2.2.2.2.2.1 nS.2.2.2.2.2.2.2.2.2.1) sz (some (.int o)) (Wd26 cI cM aV aN aS aT aW aK v_hasImage nS.1 nS.2.1 nS.2.2.1 nS.2.2.2.1 nS.2.2.2.2.1 nS.2.2.2.2.2.1 nS.2.2.2.2.2.2.1 nS.2.2.2.2.2.2.2.1 nS.2.2.2.2.2.2.2.2.1 nS.2.2.2.2.2.2.2.2.2.1) := by
  refine k_metI (by decide) rfl rfl (Nat.le_of_ble_eq_true rfl) ?_
  intro p e s m below meth c ls Q A hx hb hml hts hown hK hN hA hP hD hS hl hsz hnm hret
  have hown : s.vm.findClass RX11 = some m.cls := hown
  have hf36 := hts (.fieldLink RX11 36 "PlumbLine" "now" "LPlumbLine$City;") (List.mem_of_getElem? (i := 1) rfl)
  have hf135 := hts (.fieldLink RX11 135 "PlumbLine$City" "men" "I") (List.mem_of_getElem? (i := 2) rfl)
  have hf148 := hts (.fieldLink RX11 148 "PlumbLine$City" "day" "I") (List.mem_of_getElem? (i := 3) rfl)
  have hf145 := hts (.fieldLink RX11 145 "PlumbLine$City" "place" "I") (List.mem_of_getElem? (i := 4) rfl)
  have hf142 := hts (.fieldLink RX11 142 "PlumbLine$City" "swings" "I") (List.mem_of_getElem? (i := 5) rfl)
  have hf166 := hts (.fieldLink RX11 166 "PlumbLine$City" "crashes" "I") (List.mem_of_getElem? (i := 6) rfl)
  have hf260 := hts (.fieldLink RX11 260 "PlumbLine$City" "propped" "I") (List.mem_of_getElem? (i := 7) rfl)
  have hiX11 : ∀ w ∈ u_ws RX11 TX11 6, w ∈ wsX11_count := fun w h => List.mem_cons_of_mem _ (List.mem_append_left _ (List.mem_append_right _ h))
  have hiX2 : ∀ w ∈ u_ws RX2 TX2 12, w ∈ wsX11_count := fun w h => List.mem_cons_of_mem _ (List.mem_append_right _ h)
  replace hl : lv_has ls 2 [(0, .ref (aV 0)), (1, .int x1)] := hl
  have h := hsem
  clear hsem
  rw [S_PL_count] at h
  refine lv_iload_n hx hb dX11_count_0 rfl (lv_at hl 1 rfl) ?_
  by_cases s1_0 : x1 = 0
  · refine k_tblI (tgt := 44) (v := 0) hx hb dX11_count_1 s1_0 (by decide) (by decide) rfl (by decide) ?_
    have h := k_pos s1_0 h
    refine lv_aload_n hx hb dX11_count_44 rfl (lv_at hl 0 rfl) ?_
    refine va_get (D := D) (ci := 11) (v := .ref (aN 0)) (C := RX11) (T := TX11) (N := 6) hx hb hts hiX11 hown hK hP 0 rfl rfl 0 (by decide) hf36 (fun _ z => z) rfl dX11_count_45 ?_
    refine va_get (D := D) (ci := 2) (v := .int nS.1) (C := RX2) (T := TX2) (N := 12) hx hb hts hiX2 hown hK hP 1 rfl rfl 3 (by decide) hf135 (fun _ z => z) rfl dX11_count_48 ?_
    cases h
    exact hret _ _ _ _ hP hS dX11_count_51
  · have h := k_neg s1_0 h
    by_cases s1_1 : x1 = 1
    · refine k_tblI (tgt := 52) (v := 1) hx hb dX11_count_1 s1_1 (by decide) (by decide) rfl (by decide) ?_
      have h := k_pos s1_1 h
      refine lv_aload_n hx hb dX11_count_52 rfl (lv_at hl 0 rfl) ?_
      refine va_get (D := D) (ci := 11) (v := .ref (aN 0)) (C := RX11) (T := TX11) (N := 6) hx hb hts hiX11 hown hK hP 0 rfl rfl 0 (by decide) hf36 (fun _ z => z) rfl dX11_count_53 ?_
      refine va_get (D := D) (ci := 2) (v := .int nS.2.2.2.2.2.1) (C := RX2) (T := TX2) (N := 12) hx hb hts hiX2 hown hK hP 1 rfl rfl 8 (by decide) hf148 (fun _ z => z) rfl dX11_count_56 ?_
      cases h
      exact hret _ _ _ _ hP hS dX11_count_59
    · have h := k_neg s1_1 h
      by_cases s1_2 : x1 = 2
      · refine k_tblI (tgt := 60) (v := 2) hx hb dX11_count_1 s1_2 (by decide) (by decide) rfl (by decide) ?_
        have h := k_pos s1_2 h
        refine lv_aload_n hx hb dX11_count_60 rfl (lv_at hl 0 rfl) ?_
        refine va_get (D := D) (ci := 11) (v := .ref (aN 0)) (C := RX11) (T := TX11) (N := 6) hx hb hts hiX11 hown hK hP 0 rfl rfl 0 (by decide) hf36 (fun _ z => z) rfl dX11_count_61 ?_
        refine va_get (D := D) (ci := 2) (v := .int nS.2.2.1) (C := RX2) (T := TX2) (N := 12) hx hb hts hiX2 hown hK hP 1 rfl rfl 5 (by decide) hf145 (fun _ z => z) rfl dX11_count_64 ?_
        cases h
        exact hret _ _ _ _ hP hS dX11_count_67
      · have h := k_neg s1_2 h
        by_cases s1_3 : x1 = 3
        · refine k_tblI (tgt := 68) (v := 3) hx hb dX11_count_1 s1_3 (by decide) (by decide) rfl (by decide) ?_
          have h := k_pos s1_3 h
          refine lv_aload_n hx hb dX11_count_68 rfl (lv_at hl 0 rfl) ?_
          refine va_get (D := D) (ci := 11) (v := .ref (aN 0)) (C := RX11) (T := TX11) (N := 6) hx hb hts hiX11 hown hK hP 0 rfl rfl 0 (by decide) hf36 (fun _ z => z) rfl dX11_count_69 ?_
          refine va_get (D := D) (ci := 2) (v := .int nS.2.2.2.1) (C := RX2) (T := TX2) (N := 12) hx hb hts hiX2 hown hK hP 1 rfl rfl 6 (by decide) hf142 (fun _ z => z) rfl dX11_count_72 ?_
          cases h
          exact hret _ _ _ _ hP hS dX11_count_75
        · have h := k_neg s1_3 h
          by_cases s1_4 : x1 = 4
          · refine k_tblI (tgt := 76) (v := 4) hx hb dX11_count_1 s1_4 (by decide) (by decide) rfl (by decide) ?_
            have h := k_pos s1_4 h
            refine lv_aload_n hx hb dX11_count_76 rfl (lv_at hl 0 rfl) ?_
            refine va_get (D := D) (ci := 11) (v := .ref (aN 0)) (C := RX11) (T := TX11) (N := 6) hx hb hts hiX11 hown hK hP 0 rfl rfl 0 (by decide) hf36 (fun _ z => z) rfl dX11_count_77 ?_
            refine va_get (D := D) (ci := 2) (v := .int nS.2.2.2.2.1) (C := RX2) (T := TX2) (N := 12) hx hb hts hiX2 hown hK hP 1 rfl rfl 7 (by decide) hf166 (fun _ z => z) rfl dX11_count_80 ?_
            cases h
            exact hret _ _ _ _ hP hS dX11_count_83
          · have h := k_neg s1_4 h
            by_cases s1_5 : x1 = 5
            · refine k_tblI (tgt := 84) (v := 5) hx hb dX11_count_1 s1_5 (by decide) (by decide) rfl (by decide) ?_
              have h := k_pos s1_5 h
              refine lv_aload_n hx hb dX11_count_84 rfl (lv_at hl 0 rfl) ?_
              refine va_get (D := D) (ci := 11) (v := .ref (aN 0)) (C := RX11) (T := TX11) (N := 6) hx hb hts hiX11 hown hK hP 0 rfl rfl 0 (by decide) hf36 (fun _ z => z) rfl dX11_count_85 ?_
              obtain ⟨r88, g88, h⟩ := k_bind h
              refine k_callV (As := []) (rest := []) (st1 := [.int r88]) (ws2 := (Wd26 cI cM aV aN aS aT aW aK v_hasImage nS.1 nS.2.1 nS.2.2.1 nS.2.2.2.1 nS.2.2.2.2.1 nS.2.2.2.2.2.1 nS.2.2.2.2.2.2.1 nS.2.2.2.2.2.2.2.1 nS.2.2.2.2.2.2.2.2.1 nS.2.2.2.2.2.2.2.2.2.1)) hx hb hml hown hts hK hN hA hP hD hS hl (c_City_upright l D cI cM cS cJ aN aK s.heap.size nS.1 nS.2.1 nS.2.2.1 nS.2.2.2.1 nS.2.2.2.2.1 nS.2.2.2.2.2.1 nS.2.2.2.2.2.2.1 nS.2.2.2.2.2.2.2.1 nS.2.2.2.2.2.2.2.2.1 nS.2.2.2.2.2.2.2.2.2.1 g88) gX11_count_X2_upright rfl kdV_X2_upright 0 2 rfl rfl rfl [1, 2, 3, 4, 5, 6, 7, 8, 9, 10, 11, 12, 13] ⟨rfl, rfl⟩ ⟨Nat.le_of_ble_eq_true rfl, Nat.le_of_ble_eq_true rfl⟩ ⟨Nat.zero_le _, Nat.zero_le _⟩ rfl rfl (by decide +kernel) rfl rfl rfl (Nat.le_of_ble_eq_true rfl) dX11_count_88 rfl (fun H locs hP hD hS => ?_)
              cases h
              exact hret _ _ _ _ hP hS dX11_count_91
            · have h := k_neg s1_5 h
              by_cases s1_6 : x1 = 6
              · refine k_tblI (tgt := 92) (v := 6) hx hb dX11_count_1 s1_6 (by decide) (by decide) rfl (by decide) ?_
                have h := k_pos s1_6 h
                refine lv_aload_n hx hb dX11_count_92 rfl (lv_at hl 0 rfl) ?_
                refine va_get (D := D) (ci := 11) (v := .ref (aN 0)) (C := RX11) (T := TX11) (N := 6) hx hb hts hiX11 hown hK hP 0 rfl rfl 0 (by decide) hf36 (fun _ z => z) rfl dX11_count_93 ?_
                refine va_get (D := D) (ci := 2) (v := .int nS.2.1) (C := RX2) (T := TX2) (N := 12) hx hb hts hiX2 hown hK hP 1 rfl rfl 4 (by decide) hf260 (fun _ z => z) rfl dX11_count_96 ?_
                cases h
                exact hret _ _ _ _ hP hS dX11_count_99
              · have h := k_neg s1_6 h
                refine lv_tableOut (tgt := 100) hx hb dX11_count_1 (k_out [0, 1, 2, 3, 4, 5, 6] (by decide) (List.forall_mem_cons.mpr ⟨s1_0, (List.forall_mem_cons.mpr ⟨s1_1, (List.forall_mem_cons.mpr ⟨s1_2, (List.forall_mem_cons.mpr ⟨s1_3, (List.forall_mem_cons.mpr ⟨s1_4, (List.forall_mem_cons.mpr ⟨s1_5, (List.forall_mem_cons.mpr ⟨s1_6, (fun _ z => absurd z List.not_mem_nil)⟩)⟩)⟩)⟩)⟩)⟩)⟩)) (by decide) ?_
                refine lv_iconst (v := (-1)) hx hb dX11_count_100 (by decide) ?_
                cases h
                exact hret _ _ _ _ hP hS dX11_count_101
theorem kdV_X9_holdsKind : yX9_holdsKind.cls = RX9 ∧ yX9_holdsKind.cls ≠ "java/lang/invoke/MethodHandle" ∧ yX9_holdsKind.cls ≠ "java/lang/invoke/VarHandle" ∧ (parseMethodDescriptor yX9_holdsKind.desc).map (fun d => d.parameters.length) = some 2 := by decide +kernel
theorem kdV_X9_clears : yX9_clears.cls = RX9 ∧ yX9_clears.cls ≠ "java/lang/invoke/MethodHandle" ∧ yX9_clears.cls ≠ "java/lang/invoke/VarHandle" ∧ (parseMethodDescriptor yX9_clears.desc).map (fun d => d.parameters.length) = some 0 := by decide +kernel
abbrev rm_X11_keep : Room := { frames := 2, cells := 0, slots := 0, locals := 42 }
set_option maxHeartbeats 4000000 in
set_option maxRecDepth 100000 in
theorem c_PL_keep (l : Launch) (D : va_G) (cI cM cS cJ : ClassId) (aV : Nat → Nat) (aN : Nat → Nat) (aS : Nat → Nat) (aT : Nat → Nat) (aW : Nat → Nat) (aK : Nat → Nat) (aH : Nat → Nat → Nat) (dn : Nat) (sz : Nat) (x1 : Int32) (x2 : Int32) (x3 : Int32) (x4 : Int32) (v_hasImage : Int32) (d_kind : Int32) (d_figure : Int32) (d_sort : Int32) (d_size : Int32) (d_held : Int32) (hdn : ¬ (x1 < 0 ∨ 8 ≤ x1.toNatClampNeg) → x1.toNatClampNeg = dn) {o : (Int32) × (Int32) × (Int32) × (Int32)} (hsem : S_PL_keep x1 x2 x3 x4 d_kind d_figure d_held = some o) : kMet l yX11_keep wsX11_keep rm_X11_keep [.ref (aV 0), .int x1, .int x2, .int x3, .int x4] D (kT cI cM cS cJ) (Wd23 cS aV aN aS aT aW aK aH dn v_hasImage d_kind d_figure d_sort d_size d_held) sz (some (.int o.1)) (Wd23 cS aV aN aS aT aW aK aH dn v_hasImage o.2.1 o.2.2.1 d_sort d_size o.2.2.2) := by
  refine k_metI (by decide) rfl rfl (Nat.le_of_ble_eq_true rfl) ?_
  intro p e s m below meth c ls Q A hx hb hml hts hown hK hN hA hP hD hS hl hsz hnm hret
  have hown : s.vm.findClass RX11 = some m.cls := hown
  have hf59 := hts (.fieldLink RX11 59 "PlumbLine" "shelves" "[LPlumbLine$Shelf;") (List.mem_of_getElem? (i := 1) rfl)
  have hiX11 : ∀ w ∈ u_ws RX11 TX11 6, w ∈ wsX11_keep := fun w h => List.mem_cons_of_mem _ (List.mem_append_left _ (List.mem_append_right _ h))
  replace hl : lv_has ls 5 [(0, .ref (aV 0)), (1, .int x1), (2, .int x2), (3, .int x3), (4, .int x4)] := hl
  have h := hsem
  clear hsem
  rw [S_PL_keep] at h
  refine lv_iload_n hx hb dX11_keep_0 rfl (lv_at hl 1 rfl) ?_
  obtain ⟨r1, g1, h⟩ := k_bind h
  refine k_callS (As := [.int x1]) (rest := []) (st1 := [.int r1]) (ws2 := (Wd23 cS aV aN aS aT aW aK aH dn v_hasImage d_kind d_figure d_sort d_size d_held)) hx hb hml hown hts hK hN hA hP hD hS hl (c_PL_isShelf l D cI cM cS cJ s.heap.size x1 g1) gX11_keep_X11_isShelf rfl kdS_X11_isShelf [] ⟨rfl, rfl⟩ ⟨Nat.le_of_ble_eq_true rfl, Nat.le_of_ble_eq_true rfl⟩ ⟨Nat.zero_le _, Nat.zero_le _⟩ rfl rfl (by decide +kernel) rfl rfl rfl (Nat.le_of_ble_eq_true rfl) dX11_keep_1 rfl (fun H locs hP hD hS => ?_)
  refine lv_if_eq (tgt := 16) hx hb dX11_keep_4 (by decide) (fun c4 => ?_) (fun c4 => ?_)
  · have h := k_pos c4 h
    refine lv_iconst (v := (-1)) hx hb dX11_keep_16 (by decide) ?_
    cases h
    exact hret _ _ _ _ hP hS dX11_keep_17
  · have h := k_neg c4 h
    refine lv_iload_n hx hb dX11_keep_7 rfl (lv_at hl 2 rfl) ?_
    refine lv_iconst (v := 0) hx hb dX11_keep_8 (by decide) ?_
    refine lv_iconst (v := 1) hx hb dX11_keep_9 (by decide) ?_
    refine k_callS (As := [.int x2, .int 0, .int 1]) (rest := []) (st1 := [.int (S_PL_isIn x2 0 1)]) (ws2 := (Wd23 cS aV aN aS aT aW aK aH dn v_hasImage d_kind d_figure d_sort d_size d_held)) hx hb hml hown hts hK hN hA hP hD hS hl (c_PL_isIn l D cI cM cS cJ H.size x2 0 1 rfl) gX11_keep_X11_isIn rfl kdS_X11_isIn [] ⟨rfl, rfl⟩ ⟨Nat.le_of_ble_eq_true rfl, Nat.le_of_ble_eq_true rfl⟩ ⟨Nat.zero_le _, Nat.zero_le _⟩ rfl rfl (by decide +kernel) rfl rfl rfl (Nat.le_of_ble_eq_true rfl) dX11_keep_10 rfl (fun H locs hP hD hS => ?_)
    refine lv_if_ne (tgt := 18) hx hb dX11_keep_13 (by decide) (fun c13 => ?_) (fun c13 => ?_)
    · have h := k_neg c13 h
      refine lv_iload_n hx hb dX11_keep_18 rfl (lv_at hl 2 rfl) ?_
      refine lv_if_ne (tgt := 33) hx hb dX11_keep_19 (by decide) (fun c19 => ?_) (fun c19 => ?_)
      · have h := k_neg c19 h
        refine lv_iload_n hx hb dX11_keep_33 rfl (lv_at hl 3 rfl) ?_
        refine lv_iconst (v := 0) hx hb dX11_keep_34 (by decide) ?_
        refine lv_bipush (v := 7) hx hb dX11_keep_35 (by decide) ?_
        refine k_callS (As := [.int x3, .int 0, .int 7]) (rest := []) (st1 := [.int (S_PL_isIn x3 0 7)]) (ws2 := (Wd23 cS aV aN aS aT aW aK aH dn v_hasImage d_kind d_figure d_sort d_size d_held)) hx hb hml hown hts hK hN hA hP hD hS hl (c_PL_isIn l D cI cM cS cJ H.size x3 0 7 rfl) gX11_keep_X11_isIn rfl kdS_X11_isIn [] ⟨rfl, rfl⟩ ⟨Nat.le_of_ble_eq_true rfl, Nat.le_of_ble_eq_true rfl⟩ ⟨Nat.zero_le _, Nat.zero_le _⟩ rfl rfl (by decide +kernel) rfl rfl rfl (Nat.le_of_ble_eq_true rfl) dX11_keep_37 rfl (fun H locs hP hD hS => ?_)
        refine lv_if_eq (tgt := 54) hx hb dX11_keep_40 (by decide) (fun c40 => ?_) (fun c40 => ?_)
        · have h := k_pos c40 h
          refine lv_iconst (v := (-1)) hx hb dX11_keep_54 (by decide) ?_
          cases h
          exact hret _ _ _ _ hP hS dX11_keep_55
        · have h := k_neg c40 h
          refine lv_iload hx hb dX11_keep_43 (lv_at hl 4 rfl) ?_
          refine lv_iconst (v := 0) hx hb dX11_keep_45 (by decide) ?_
          refine lv_bipush (v := 9) hx hb dX11_keep_46 (by decide) ?_
          refine k_callS (As := [.int x4, .int 0, .int 9]) (rest := []) (st1 := [.int (S_PL_isIn x4 0 9)]) (ws2 := (Wd23 cS aV aN aS aT aW aK aH dn v_hasImage d_kind d_figure d_sort d_size d_held)) hx hb hml hown hts hK hN hA hP hD hS hl (c_PL_isIn l D cI cM cS cJ H.size x4 0 9 rfl) gX11_keep_X11_isIn rfl kdS_X11_isIn [] ⟨rfl, rfl⟩ ⟨Nat.le_of_ble_eq_true rfl, Nat.le_of_ble_eq_true rfl⟩ ⟨Nat.zero_le _, Nat.zero_le _⟩ rfl rfl (by decide +kernel) rfl rfl rfl (Nat.le_of_ble_eq_true rfl) dX11_keep_48 rfl (fun H locs hP hD hS => ?_)
          refine lv_if_ne (tgt := 56) hx hb dX11_keep_51 (by decide) (fun c51 => ?_) (fun c51 => ?_)
          · have h := k_neg c51 h
            refine lv_aload_n hx hb dX11_keep_56 rfl (lv_at hl 0 rfl) ?_
            refine va_get (D := D) (ci := 11) (v := .ref (aV 1)) (C := RX11) (T := TX11) (N := 6) hx hb hts hiX11 hown hK hP 0 rfl rfl 4 (by decide) hf59 (fun _ z => z) rfl dX11_keep_57 ?_
            refine lv_iload_n hx hb dX11_keep_60 rfl (lv_at hl 1 rfl) ?_
            obtain ⟨g61, h⟩ := k_guard h
            refine k_aldR (f := fun k => aH k 0) hx hb hK hP 1 2 rfl rfl g61 dX11_keep_61 ?_
            rw [show x1.toNatClampNeg = dn from hdn g61]
            refine lv_iload_n hx hb dX11_keep_62 rfl (lv_at hl 3 rfl) ?_
            refine lv_iload hx hb dX11_keep_63 (lv_at hl 4 rfl) ?_
            refine k_callV (As := [.int x3, .int x4]) (rest := []) (st1 := []) (ws2 := (Wd23 cS aV aN aS aT aW aK aH dn v_hasImage ((S_Shelf_holdsKind x3 x4 d_kind d_figure d_held).1) ((S_Shelf_holdsKind x3 x4 d_kind d_figure d_held).2.1) d_sort d_size ((S_Shelf_holdsKind x3 x4 d_kind d_figure d_held).2.2))) hx hb hml hown hts hK hN hA hP hD hS hl (c_Shelf_holdsKind l D cI cM cS cJ (aH dn) aK H.size x3 x4 d_kind d_figure d_sort d_size d_held rfl) gX11_keep_X9_holdsKind rfl kdV_X9_holdsKind 0 9 rfl rfl rfl [2] ⟨rfl, rfl⟩ ⟨Nat.le_of_ble_eq_true rfl, Nat.le_of_ble_eq_true rfl⟩ ⟨Nat.zero_le _, Nat.zero_le _⟩ rfl rfl (by decide +kernel) rfl rfl rfl (Nat.le_of_ble_eq_true rfl) dX11_keep_65 rfl (fun H locs hP hD hS => ?_)
            refine lv_iconst (v := 0) hx hb dX11_keep_68 (by decide) ?_
            cases h
            exact hret _ _ _ _ hP hS dX11_keep_69
          · have h := k_pos c51 h
            refine lv_iconst (v := (-1)) hx hb dX11_keep_54 (by decide) ?_
            cases h
            exact hret _ _ _ _ hP hS dX11_keep_55
      · have h := k_pos c19 h
        refine lv_aload_n hx hb dX11_keep_22 rfl (lv_at hl 0 rfl) ?_
        refine va_get (D := D) (ci := 11) (v := .ref (aV 1)) (C := RX11) (T := TX11) (N := 6) hx hb hts hiX11 hown hK hP 0 rfl rfl 4 (by decide) hf59 (fun _ z => z) rfl dX11_keep_23 ?_
        refine lv_iload_n hx hb dX11_keep_26 rfl (lv_at hl 1 rfl) ?_
        obtain ⟨g27, h⟩ := k_guard h
        refine k_aldR (f := fun k => aH k 0) hx hb hK hP 1 2 rfl rfl g27 dX11_keep_27 ?_
        rw [show x1.toNatClampNeg = dn from hdn g27]
        refine k_callV (As := []) (rest := []) (st1 := []) (ws2 := (Wd23 cS aV aN aS aT aW aK aH dn v_hasImage d_kind d_figure d_sort d_size (S_Shelf_clears d_held))) hx hb hml hown hts hK hN hA hP hD hS hl (c_Shelf_clears l D cI cM cS cJ (aH dn) aK H.size d_kind d_figure d_sort d_size d_held rfl) gX11_keep_X9_clears rfl kdV_X9_clears 0 9 rfl rfl rfl [2] ⟨rfl, rfl⟩ ⟨Nat.le_of_ble_eq_true rfl, Nat.le_of_ble_eq_true rfl⟩ ⟨Nat.zero_le _, Nat.zero_le _⟩ rfl rfl (by decide +kernel) rfl rfl rfl (Nat.le_of_ble_eq_true rfl) dX11_keep_28 rfl (fun H locs hP hD hS => ?_)
        refine lv_iconst (v := 0) hx hb dX11_keep_31 (by decide) ?_
        cases h
        exact hret _ _ _ _ hP hS dX11_keep_32
    · have h := k_pos c13 h
      refine lv_iconst (v := (-1)) hx hb dX11_keep_16 (by decide) ?_
      cases h
      exact hret _ _ _ _ hP hS dX11_keep_17
abbrev Wd37 (cI : ClassId) (cS : ClassId) (aV : Nat → Nat) (aN : Nat → Nat) (aS : Nat → Nat) (aT : Nat → Nat) (aW : Nat → Nat) (aK : Nat → Nat) (aH : Nat → Nat → Nat) (dn : Nat) (v_hasImage : Int32) (d_kind : Int32) (d_figure : Int32) (d_sort : Int32) (d_size : Int32) (d_held : Int32) (d_el : Nat → Int32) : va_W := [((aV 0), .inr (11, [.ref (aN 0), .ref (aS 0), .ref (aT 0), .ref (aW 0), .ref (aV 1), .int v_hasImage])), ((aV 1), .inl (cS, 8, .inr (.inr (.inr (.inr (fun k => some (aH k 0))))))), (((aH dn) 0), .inr (9, [.ref ((aH dn) 1), .int d_kind, .int d_figure, .int d_sort, .int d_size, .int d_held, .ref (aK 8)])), (((aH dn) 1), .inl (cI, 100, .inl d_el))]
theorem kdV_X9_holdsRow : yX9_holdsRow.cls = RX9 ∧ yX9_holdsRow.cls ≠ "java/lang/invoke/MethodHandle" ∧ yX9_holdsRow.cls ≠ "java/lang/invoke/VarHandle" ∧ (parseMethodDescriptor yX9_holdsRow.desc).map (fun d => d.parameters.length) = some 2 := by decide +kernel
abbrev rm_X11_row : Room := { frames := 2, cells := 0, slots := 0, locals := 42 }
set_option maxHeartbeats 4000000 in
set_option maxRecDepth 100000 in
theorem c_PL_row (l : Launch) (D : va_G) (cI cM cS cJ : ClassId) (aV : Nat → Nat) (aN : Nat → Nat) (aS : Nat → Nat) (aT : Nat → Nat) (aW : Nat → Nat) (aK : Nat → Nat) (aH : Nat → Nat → Nat) (dn : Nat) (sz : Nat) (x1 : Int32) (x2 : Int32) (x3 : Int32) (v_hasImage : Int32) (d_kind : Int32) (d_figure : Int32) (d_sort : Int32) (d_size : Int32) (d_held : Int32) (d_el : Nat → Int32) (hdn : ¬ (x1 < 0 ∨ 8 ≤ x1.toNatClampNeg) → x1.toNatClampNeg = dn) {o : (Int32) × (Int32) × (Int32) × (Int32) × (Nat → Int32)} (hsem : S_PL_row x1 x2 x3 d_sort d_size d_held d_el = some o) : kMet l yX11_row wsX11_row rm_X11_row [.ref (aV 0), .int x1, .int x2, .int x3] D (kT cI cM cS cJ) (Wd37 cI cS aV aN aS aT aW aK aH dn v_hasImage d_kind d_figure d_sort d_size d_held d_el) sz (some (.int o.1)) (Wd37 cI cS aV aN aS aT aW aK aH dn v_hasImage d_kind d_figure o.2.1 o.2.2.1 o.2.2.2.1 o.2.2.2.2) := by
  refine k_metI (by decide) rfl rfl (Nat.le_of_ble_eq_true rfl) ?_
  intro p e s m below meth c ls Q A hx hb hml hts hown hK hN hA hP hD hS hl hsz hnm hret
  have hown : s.vm.findClass RX11 = some m.cls := hown
  have hf59 := hts (.fieldLink RX11 59 "PlumbLine" "shelves" "[LPlumbLine$Shelf;") (List.mem_of_getElem? (i := 1) rfl)
  have hiX11 : ∀ w ∈ u_ws RX11 TX11 6, w ∈ wsX11_row := fun w h => List.mem_cons_of_mem _ (List.mem_append_left _ (List.mem_append_right _ h))
  replace hl : lv_has ls 4 [(0, .ref (aV 0)), (1, .int x1), (2, .int x2), (3, .int x3)] := hl
  have h := hsem
  clear hsem
  rw [S_PL_row] at h
  refine lv_iload_n hx hb dX11_row_0 rfl (lv_at hl 1 rfl) ?_
  obtain ⟨r1, g1, h⟩ := k_bind h
  refine k_callS (As := [.int x1]) (rest := []) (st1 := [.int r1]) (ws2 := (Wd37 cI cS aV aN aS aT aW aK aH dn v_hasImage d_kind d_figure d_sort d_size d_held d_el)) hx hb hml hown hts hK hN hA hP hD hS hl (c_PL_isShelf l D cI cM cS cJ s.heap.size x1 g1) gX11_row_X11_isShelf rfl kdS_X11_isShelf [] ⟨rfl, rfl⟩ ⟨Nat.le_of_ble_eq_true rfl, Nat.le_of_ble_eq_true rfl⟩ ⟨Nat.zero_le _, Nat.zero_le _⟩ rfl rfl (by decide +kernel) rfl rfl rfl (Nat.le_of_ble_eq_true rfl) dX11_row_1 rfl (fun H locs hP hD hS => ?_)
  refine lv_if_eq (tgt := 22) hx hb dX11_row_4 (by decide) (fun c4 => ?_) (fun c4 => ?_)
  · have h := k_pos c4 h
    refine lv_iconst (v := (-1)) hx hb dX11_row_22 (by decide) ?_
    cases h
    exact hret _ _ _ _ hP hS dX11_row_23
  · have h := k_neg c4 h
    refine lv_iload_n hx hb dX11_row_7 rfl (lv_at hl 2 rfl) ?_
    refine lv_iconst (v := 0) hx hb dX11_row_8 (by decide) ?_
    refine lv_iconst (v := 2) hx hb dX11_row_9 (by decide) ?_
    refine k_callS (As := [.int x2, .int 0, .int 2]) (rest := []) (st1 := [.int (S_PL_isIn x2 0 2)]) (ws2 := (Wd37 cI cS aV aN aS aT aW aK aH dn v_hasImage d_kind d_figure d_sort d_size d_held d_el)) hx hb hml hown hts hK hN hA hP hD hS hl (c_PL_isIn l D cI cM cS cJ H.size x2 0 2 rfl) gX11_row_X11_isIn rfl kdS_X11_isIn [] ⟨rfl, rfl⟩ ⟨Nat.le_of_ble_eq_true rfl, Nat.le_of_ble_eq_true rfl⟩ ⟨Nat.zero_le _, Nat.zero_le _⟩ rfl rfl (by decide +kernel) rfl rfl rfl (Nat.le_of_ble_eq_true rfl) dX11_row_10 rfl (fun H locs hP hD hS => ?_)
    refine lv_if_eq (tgt := 22) hx hb dX11_row_13 (by decide) (fun c13 => ?_) (fun c13 => ?_)
    · have h := k_pos c13 h
      refine lv_iconst (v := (-1)) hx hb dX11_row_22 (by decide) ?_
      cases h
      exact hret _ _ _ _ hP hS dX11_row_23
    · have h := k_neg c13 h
      refine lv_iload_n hx hb dX11_row_16 rfl (lv_at hl 3 rfl) ?_
      refine lv_bipush (v := 100) hx hb dX11_row_17 (by decide) ?_
      refine lv_icmp_le (tgt := 24) hx hb dX11_row_19 (by decide) (fun c19 => ?_) (fun c19 => ?_)
      · have h := k_pos c19 h
        refine lv_iload_n hx hb dX11_row_24 rfl (lv_at hl 3 rfl) ?_
        refine lv_if_ge (tgt := 31) hx hb dX11_row_25 (by decide) (fun c25 => ?_) (fun c25 => ?_)
        · have h := k_pos c25 h
          refine lv_aload_n hx hb dX11_row_31 rfl (lv_at hl 0 rfl) ?_
          refine va_get (D := D) (ci := 11) (v := .ref (aV 1)) (C := RX11) (T := TX11) (N := 6) hx hb hts hiX11 hown hK hP 0 rfl rfl 4 (by decide) hf59 (fun _ z => z) rfl dX11_row_32 ?_
          refine lv_iload_n hx hb dX11_row_35 rfl (lv_at hl 1 rfl) ?_
          obtain ⟨g36, h⟩ := k_guard h
          refine k_aldR (f := fun k => aH k 0) hx hb hK hP 1 2 rfl rfl g36 dX11_row_36 ?_
          rw [show x1.toNatClampNeg = dn from hdn g36]
          refine lv_iload_n hx hb dX11_row_37 rfl (lv_at hl 2 rfl) ?_
          refine lv_iload_n hx hb dX11_row_38 rfl (lv_at hl 3 rfl) ?_
          obtain ⟨r39, g39, h⟩ := k_bind h
          refine k_callV (As := [.int x2, .int x3]) (rest := []) (st1 := []) (ws2 := (Wd37 cI cS aV aN aS aT aW aK aH dn v_hasImage d_kind d_figure r39.1 r39.2.1 r39.2.2.1 r39.2.2.2)) hx hb hml hown hts hK hN hA hP hD hS hl (c_Shelf_holdsRow l D cI cM cS cJ (aH dn) aK H.size x2 x3 d_kind d_figure d_sort d_size d_held d_el g39) gX11_row_X9_holdsRow rfl kdV_X9_holdsRow 0 9 rfl rfl rfl [2, 3] ⟨rfl, rfl⟩ ⟨Nat.le_of_ble_eq_true rfl, Nat.le_of_ble_eq_true rfl⟩ ⟨Nat.zero_le _, Nat.zero_le _⟩ rfl rfl (by decide +kernel) rfl rfl rfl (Nat.le_of_ble_eq_true rfl) dX11_row_39 rfl (fun H locs hP hD hS => ?_)
          refine lv_iconst (v := 0) hx hb dX11_row_42 (by decide) ?_
          cases h
          exact hret _ _ _ _ hP hS dX11_row_43
        · have h := k_neg c25 h
          refine lv_bipush (v := (-14)) hx hb dX11_row_28 (by decide) ?_
          cases h
          exact hret _ _ _ _ hP hS dX11_row_30
      · have h := k_neg c19 h
        refine lv_iconst (v := (-1)) hx hb dX11_row_22 (by decide) ?_
        cases h
        exact hret _ _ _ _ hP hS dX11_row_23
theorem kdV_X9_sets : yX9_sets.cls = RX9 ∧ yX9_sets.cls ≠ "java/lang/invoke/MethodHandle" ∧ yX9_sets.cls ≠ "java/lang/invoke/VarHandle" ∧ (parseMethodDescriptor yX9_sets.desc).map (fun d => d.parameters.length) = some 2 := by decide +kernel
abbrev rm_X11_put : Room := { frames := 3, cells := 0, slots := 0, locals := 63 }
set_option maxHeartbeats 4000000 in
set_option maxRecDepth 100000 in
theorem c_PL_put (l : Launch) (D : va_G) (cI cM cS cJ : ClassId) (aV : Nat → Nat) (aN : Nat → Nat) (aS : Nat → Nat) (aT : Nat → Nat) (aW : Nat → Nat) (aK : Nat → Nat) (aH : Nat → Nat → Nat) (dn : Nat) (sz : Nat) (x1 : Int32) (x2 : Int32) (x3 : Int32) (v_hasImage : Int32) (d_kind : Int32) (d_figure : Int32) (d_sort : Int32) (d_size : Int32) (d_held : Int32) (d_el : Nat → Int32) (hdn : ¬ (x1 < 0 ∨ 8 ≤ x1.toNatClampNeg) → x1.toNatClampNeg = dn) {o : (Int32) × (Nat → Int32)} (hsem : S_PL_put x1 x2 x3 d_sort d_size d_held d_el = some o) : kMet l yX11_put wsX11_put rm_X11_put [.ref (aV 0), .int x1, .int x2, .int x3] D (kT cI cM cS cJ) (Wd37 cI cS aV aN aS aT aW aK aH dn v_hasImage d_kind d_figure d_sort d_size d_held d_el) sz (some (.int o.1)) (Wd37 cI cS aV aN aS aT aW aK aH dn v_hasImage d_kind d_figure d_sort d_size d_held o.2) := by
  refine k_metI (by decide) rfl rfl (Nat.le_of_ble_eq_true rfl) ?_
  intro p e s m below meth c ls Q A hx hb hml hts hown hK hN hA hP hD hS hl hsz hnm hret
  have hown : s.vm.findClass RX11 = some m.cls := hown
  have hf59 := hts (.fieldLink RX11 59 "PlumbLine" "shelves" "[LPlumbLine$Shelf;") (List.mem_of_getElem? (i := 1) rfl)
  have hiX11 : ∀ w ∈ u_ws RX11 TX11 6, w ∈ wsX11_put := fun w h => List.mem_cons_of_mem _ (List.mem_append_left _ (List.mem_append_right _ h))
  replace hl : lv_has ls 5 [(0, .ref (aV 0)), (1, .int x1), (2, .int x2), (3, .int x3)] := hl
  have h := hsem
  clear hsem
  rw [S_PL_put] at h
  refine lv_aload_n hx hb dX11_put_0 rfl (lv_at hl 0 rfl) ?_
  refine lv_iload_n hx hb dX11_put_1 rfl (lv_at hl 1 rfl) ?_
  obtain ⟨r2, g2, h⟩ := k_bind h
  refine k_callV (As := [.int x1]) (rest := []) (st1 := [.int r2]) (ws2 := (Wd37 cI cS aV aN aS aT aW aK aH dn v_hasImage d_kind d_figure d_sort d_size d_held d_el)) hx hb hml hown hts hK hN hA hP hD hS hl (c_PL_refusalOfRow l D cI cM cS cJ aV aN aS aT aW aK aH dn s.heap.size x1 v_hasImage d_kind d_figure d_sort d_size d_held hdn g2) gX11_put_X11_refusalOfRow rfl kdV_X11_refusalOfRow 0 11 rfl rfl rfl [0, 1, 2] ⟨rfl, rfl⟩ ⟨Nat.le_of_ble_eq_true rfl, Nat.le_of_ble_eq_true rfl⟩ ⟨Nat.zero_le _, Nat.zero_le _⟩ rfl rfl (by decide +kernel) rfl rfl rfl (Nat.le_of_ble_eq_true rfl) dX11_put_2 rfl (fun H locs hP hD hS => ?_)
  refine lv_istore (lv' := [(4, .int r2), (0, .ref (aV 0)), (1, .int x1), (2, .int x2), (3, .int x3)]) hx hb dX11_put_5 hl (by decide) rfl (fun ls hl => ?_)
  refine lv_iload hx hb dX11_put_7 (lv_at hl 0 rfl) ?_
  refine lv_if_eq (tgt := 15) hx hb dX11_put_9 (by decide) (fun c9 => ?_) (fun c9 => ?_)
  · have h := k_pos c9 h
    refine lv_aload_n hx hb dX11_put_15 rfl (lv_at hl 1 rfl) ?_
    refine va_get (D := D) (ci := 11) (v := .ref (aV 1)) (C := RX11) (T := TX11) (N := 6) hx hb hts hiX11 hown hK hP 0 rfl rfl 4 (by decide) hf59 (fun _ z => z) rfl dX11_put_16 ?_
    refine lv_iload_n hx hb dX11_put_19 rfl (lv_at hl 2 rfl) ?_
    obtain ⟨g20, h⟩ := k_guard h
    refine k_aldR (f := fun k => aH k 0) hx hb hK hP 1 2 rfl rfl g20 dX11_put_20 ?_
    rw [show x1.toNatClampNeg = dn from hdn g20]
    refine lv_iload_n hx hb dX11_put_21 rfl (lv_at hl 3 rfl) ?_
    refine k_callV (As := [.int x2]) (rest := []) (st1 := [.int (S_Shelf_hasElement x2 d_size)]) (ws2 := (Wd37 cI cS aV aN aS aT aW aK aH dn v_hasImage d_kind d_figure d_sort d_size d_held d_el)) hx hb hml hown hts hK hN hA hP hD hS hl (c_Shelf_hasElement l D cI cM cS cJ (aH dn) aK H.size x2 d_kind d_figure d_sort d_size d_held rfl) gX11_put_X9_hasElement rfl kdV_X9_hasElement 0 9 rfl rfl rfl [2] ⟨rfl, rfl⟩ ⟨Nat.le_of_ble_eq_true rfl, Nat.le_of_ble_eq_true rfl⟩ ⟨Nat.zero_le _, Nat.zero_le _⟩ rfl rfl (by decide +kernel) rfl rfl rfl (Nat.le_of_ble_eq_true rfl) dX11_put_22 rfl (fun H locs hP hD hS => ?_)
    refine lv_if_ne (tgt := 31) hx hb dX11_put_25 (by decide) (fun c25 => ?_) (fun c25 => ?_)
    · have h := k_neg c25 h
      refine lv_aload_n hx hb dX11_put_31 rfl (lv_at hl 1 rfl) ?_
      refine va_get (D := D) (ci := 11) (v := .ref (aV 1)) (C := RX11) (T := TX11) (N := 6) hx hb hts hiX11 hown hK hP 0 rfl rfl 4 (by decide) hf59 (fun _ z => z) rfl dX11_put_32 ?_
      refine lv_iload_n hx hb dX11_put_35 rfl (lv_at hl 2 rfl) ?_
      refine k_aldR (f := fun k => aH k 0) hx hb hK hP 1 2 rfl rfl g20 dX11_put_36 ?_
      rw [show x1.toNatClampNeg = dn from hdn g20]
      refine lv_iload_n hx hb dX11_put_37 rfl (lv_at hl 3 rfl) ?_
      refine lv_iload_n hx hb dX11_put_38 rfl (lv_at hl 4 rfl) ?_
      obtain ⟨r39, g39, h⟩ := k_bind h
      refine k_callV (As := [.int x2, .int x3]) (rest := []) (st1 := []) (ws2 := (Wd37 cI cS aV aN aS aT aW aK aH dn v_hasImage d_kind d_figure d_sort d_size d_held r39)) hx hb hml hown hts hK hN hA hP hD hS hl (c_Shelf_sets l D cI cM cS cJ (aH dn) aK H.size x2 x3 d_kind d_figure d_sort d_size d_held d_el g39) gX11_put_X9_sets rfl kdV_X9_sets 0 9 rfl rfl rfl [2, 3] ⟨rfl, rfl⟩ ⟨Nat.le_of_ble_eq_true rfl, Nat.le_of_ble_eq_true rfl⟩ ⟨Nat.zero_le _, Nat.zero_le _⟩ rfl rfl (by decide +kernel) rfl rfl rfl (Nat.le_of_ble_eq_true rfl) dX11_put_39 rfl (fun H locs hP hD hS => ?_)
      refine lv_iconst (v := 0) hx hb dX11_put_42 (by decide) ?_
      cases h
      exact hret _ _ _ _ hP hS dX11_put_43
    · have h := k_pos c25 h
      refine lv_bipush (v := (-13)) hx hb dX11_put_28 (by decide) ?_
      cases h
      exact hret _ _ _ _ hP hS dX11_put_30
  · have h := k_neg c9 h
    refine lv_iload hx hb dX11_put_12 (lv_at hl 0 rfl) ?_
    cases h
    exact hret _ _ _ _ hP hS dX11_put_14
abbrev Wd38 (cM : ClassId) (cS : ClassId) (aV : Nat → Nat) (aN : Nat → Nat) (aS : Nat → Nat) (aT : Nat → Nat) (aW : Nat → Nat) (aK : Nat → Nat) (aH : Nat → Nat → Nat) (dn : Nat) (v_hasImage : Int32) (d_kind : Int32) (d_figure : Int32) (d_sort : Int32) (d_size : Int32) (d_held : Int32) : va_W := [((aV 0), .inr (11, [.ref (aN 0), .ref (aS 0), .ref (aT 0), .ref (aW 0), .ref (aV 1), .int v_hasImage])), ((aV 1), .inl (cS, 8, .inr (.inr (.inr (.inr (fun k => some (aH k 0))))))), (((aH dn) 0), .inr (9, [.ref ((aH dn) 1), .int d_kind, .int d_figure, .int d_sort, .int d_size, .int d_held, .ref (aK 8)])), ((aK 8), .inl (cM, 8, .inr (.inr (.inr (.inr (fun k => some (aK k))))))), ((aK 0), .inr (4, [])), ((aK 1), .inr (0, [])), ((aK 2), .inr (7, [])), ((aK 3), .inr (3, [])), ((aK 4), .inr (1, [])), ((aK 5), .inr (8, [])), ((aK 6), .inr (10, [])), ((aK 7), .inr (6, []))]
theorem kdV_X9_price : yX9_price.cls = RX9 ∧ yX9_price.cls ≠ "java/lang/invoke/MethodHandle" ∧ yX9_price.cls ≠ "java/lang/invoke/VarHandle" ∧ (parseMethodDescriptor yX9_price.desc).map (fun d => d.parameters.length) = some 0 := by decide +kernel
abbrev rm_X11_cost : Room := { frames := 4, cells := 0, slots := 0, locals := 83 }
set_option maxHeartbeats 4000000 in
set_option maxRecDepth 100000 in
theorem c_PL_cost (l : Launch) (D : va_G) (cI cM cS cJ : ClassId) (aV : Nat → Nat) (aN : Nat → Nat) (aS : Nat → Nat) (aT : Nat → Nat) (aW : Nat → Nat) (aK : Nat → Nat) (aH : Nat → Nat → Nat) (dn : Nat) (sz : Nat) (x1 : Int32) (v_hasImage : Int32) (d_kind : Int32) (d_figure : Int32) (d_sort : Int32) (d_size : Int32) (d_held : Int32) (hdn : ¬ (x1 < 0 ∨ 8 ≤ x1.toNatClampNeg) → x1.toNatClampNeg = dn) {o : (Int32)} (hsem : S_PL_cost x1 d_kind d_figure d_held = some o) : kMet l yX11_cost wsX11_cost rm_X11_cost [.ref (aV 0), .int x1] D (kT cI cM cS cJ) (Wd38 cM cS aV aN aS aT aW aK aH dn v_hasImage d_kind d_figure d_sort d_size d_held) sz (some (.int o)) (Wd38 cM cS aV aN aS aT aW aK aH dn v_hasImage d_kind d_figure d_sort d_size d_held) := by
  refine k_metI (by decide) rfl rfl (Nat.le_of_ble_eq_true rfl) ?_
  intro p e s m below meth c ls Q A hx hb hml hts hown hK hN hA hP hD hS hl hsz hnm hret
  have hown : s.vm.findClass RX11 = some m.cls := hown
  have hf59 := hts (.fieldLink RX11 59 "PlumbLine" "shelves" "[LPlumbLine$Shelf;") (List.mem_of_getElem? (i := 1) rfl)
  have hiX11 : ∀ w ∈ u_ws RX11 TX11 6, w ∈ wsX11_cost := fun w h => List.mem_cons_of_mem _ (List.mem_append_left _ (List.mem_append_right _ h))
  replace hl : lv_has ls 3 [(0, .ref (aV 0)), (1, .int x1)] := hl
  have h := hsem
  clear hsem
  rw [S_PL_cost] at h
  refine lv_aload_n hx hb dX11_cost_0 rfl (lv_at hl 0 rfl) ?_
  refine lv_iload_n hx hb dX11_cost_1 rfl (lv_at hl 1 rfl) ?_
  obtain ⟨r2, g2, h⟩ := k_bind h
  refine k_callV (As := [.int x1]) (rest := []) (st1 := [.int r2]) (ws2 := (Wd38 cM cS aV aN aS aT aW aK aH dn v_hasImage d_kind d_figure d_sort d_size d_held)) hx hb hml hown hts hK hN hA hP hD hS hl (c_PL_refusalOfKind l D cI cM cS cJ aV aN aS aT aW aK aH dn s.heap.size x1 v_hasImage d_kind d_figure d_sort d_size d_held hdn g2) gX11_cost_X11_refusalOfKind rfl kdV_X11_refusalOfKind 0 11 rfl rfl rfl [0, 1, 2] ⟨rfl, rfl⟩ ⟨Nat.le_of_ble_eq_true rfl, Nat.le_of_ble_eq_true rfl⟩ ⟨Nat.zero_le _, Nat.zero_le _⟩ rfl rfl (by decide +kernel) rfl rfl rfl (Nat.le_of_ble_eq_true rfl) dX11_cost_2 rfl (fun H locs hP hD hS => ?_)
  refine lv_istore_n (lv' := [(2, .int r2), (0, .ref (aV 0)), (1, .int x1)]) hx hb dX11_cost_5 rfl hl (by decide) rfl (fun ls hl => ?_)
  refine lv_iload_n hx hb dX11_cost_6 rfl (lv_at hl 0 rfl) ?_
  refine lv_if_eq (tgt := 14) hx hb dX11_cost_7 (by decide) (fun c7 => ?_) (fun c7 => ?_)
  · have h := k_pos c7 h
    refine lv_aload_n hx hb dX11_cost_14 rfl (lv_at hl 1 rfl) ?_
    refine va_get (D := D) (ci := 11) (v := .ref (aV 1)) (C := RX11) (T := TX11) (N := 6) hx hb hts hiX11 hown hK hP 0 rfl rfl 4 (by decide) hf59 (fun _ z => z) rfl dX11_cost_15 ?_
    refine lv_iload_n hx hb dX11_cost_18 rfl (lv_at hl 2 rfl) ?_
    obtain ⟨g19, h⟩ := k_guard h
    refine k_aldR (f := fun k => aH k 0) hx hb hK hP 1 2 rfl rfl g19 dX11_cost_19 ?_
    rw [show x1.toNatClampNeg = dn from hdn g19]
    obtain ⟨r20, g20, h⟩ := k_bind h
    refine k_callV (As := []) (rest := []) (st1 := [.int r20]) (ws2 := (Wd38 cM cS aV aN aS aT aW aK aH dn v_hasImage d_kind d_figure d_sort d_size d_held)) hx hb hml hown hts hK hN hA hP hD hS hl (c_Shelf_price l D cI cM cS cJ (aH dn) aK H.size d_kind d_figure d_sort d_size d_held g20) gX11_cost_X9_price rfl kdV_X9_price 0 9 rfl rfl rfl [2, 3, 4, 5, 6, 7, 8, 9, 10, 11] ⟨rfl, rfl⟩ ⟨Nat.le_of_ble_eq_true rfl, Nat.le_of_ble_eq_true rfl⟩ ⟨Nat.zero_le _, Nat.zero_le _⟩ rfl rfl (by decide +kernel) rfl rfl rfl (Nat.le_of_ble_eq_true rfl) dX11_cost_20 rfl (fun H locs hP hD hS => ?_)
    cases h
    exact hret _ _ _ _ hP hS dX11_cost_23
  · have h := k_neg c7 h
    refine lv_iload_n hx hb dX11_cost_10 rfl (lv_at hl 0 rfl) ?_
    refine lv_goto (tgt := 23) hx hb dX11_cost_11 (by decide) ?_
    cases h
    exact hret _ _ _ _ hP hS dX11_cost_23
