abbrev Wd23 (cS : ClassId) (aV : Nat → Nat) (aN : Nat → Nat) (aS : Nat → Nat) (aT : Nat → Nat) (aW : Nat → Nat) (aK : Nat → Nat) (aH : Nat → Nat → Nat) (dn : Nat) (v_hasImage : Int32) (d_kind : Int32) (d_figure : Int32) (d_sort : Int32) (d_size : Int32) (d_held : Int32) : va_W := [((aV 0), .inr (11, [.ref (aN 0), .ref (aS 0), .ref (aT 0), .ref (aW 0), .ref (aV 1), .int v_hasImage])), ((aV 1), .inl (cS, 8, .inr (.inr (.inr (.inr (fun k => some (aH k 0))))))), (((aH dn) 0), .inr (9, [.ref ((aH dn) 1), .int d_kind, .int d_figure, .int d_sort, .int d_size, .int d_held, .ref (aK 8)]))]
theorem kdS_X11_isShelf : yX11_isShelf.cls ≠ "java/lang/invoke/MethodHandle" ∧ yX11_isShelf.cls ≠ "java/lang/invoke/VarHandle" ∧ (parseMethodDescriptor yX11_isShelf.desc).map (fun d => d.parameters.length) = some 1 := by decide +kernel
theorem kdV_X9_isEmpty : yX9_isEmpty.cls = RX9 ∧ yX9_isEmpty.cls ≠ "java/lang/invoke/MethodHandle" ∧ yX9_isEmpty.cls ≠ "java/lang/invoke/VarHandle" ∧ (parseMethodDescriptor yX9_isEmpty.desc).map (fun d => d.parameters.length) = some 0 := by decide +kernel
theorem kdV_X9_hasRow : yX9_hasRow.cls = RX9 ∧ yX9_hasRow.cls ≠ "java/lang/invoke/MethodHandle" ∧ yX9_hasRow.cls ≠ "java/lang/invoke/VarHandle" ∧ (parseMethodDescriptor yX9_hasRow.desc).map (fun d => d.parameters.length) = some 0 := by decide +kernel
abbrev rm_X11_refusalOfRow : Room := { frames := 2, cells := 0, slots := 0, locals := 42 }
set_option maxHeartbeats 4000000 in
set_option maxRecDepth 100000 in
theorem c_PL_refusalOfRow (l : Launch) (D : va_G) (cI cM cS cJ : ClassId) (aV : Nat → Nat) (aN : Nat → Nat) (aS : Nat → Nat) (aT : Nat → Nat) (aW : Nat → Nat) (aK : Nat → Nat) (aH : Nat → Nat → Nat) (dn : Nat) (sz : Nat) (x1 : Int32) (v_hasImage : Int32) (d_kind : Int32) (d_figure : Int32) (d_sort : Int32) (d_size : Int32) (d_held : Int32) (hdn : ¬ (x1 < 0 ∨ 8 ≤ x1.toNatClampNeg) → x1.toNatClampNeg = dn) {o : (Int32)} (hsem : S_PL_refusalOfRow x1 d_held = some o) : kMet l yX11_refusalOfRow wsX11_refusalOfRow rm_X11_refusalOfRow [.ref (aV 0), .int x1] D (kT cI cM cS cJ) (Wd23 cS aV aN aS aT aW aK aH dn v_hasImage d_kind d_figure d_sort d_size d_held) sz (some (.int o)) (Wd23 cS aV aN aS aT aW aK aH dn v_hasImage d_kind d_figure d_sort d_size d_held) := by
  refine k_metI (by decide) rfl rfl (Nat.le_of_ble_eq_true rfl) ?_
  intro p e s m below meth c ls Q A hx hb hml hts hown hK hN hA hP hD hS hl hsz hnm hret
  have hown : s.vm.findClass RX11 = some m.cls := hown
  have hf59 := hts (.fieldLink RX11 59 "PlumbLine" "shelves" "[LPlumbLine$Shelf;") (List.mem_of_getElem? (i := 1) rfl)
  have hiX11 : ∀ w ∈ u_ws RX11 TX11 6, w ∈ wsX11_refusalOfRow := fun w h => List.mem_cons_of_mem _ (List.mem_append_left _ (List.mem_append_right _ h))
  replace hl : lv_has ls 2 [(0, .ref (aV 0)), (1, .int x1)] := hl
  have h := hsem
  clear hsem
  rw [S_PL_refusalOfRow] at h
  refine lv_iload_n hx hb dX11_refusalOfRow_0 rfl (lv_at hl 1 rfl) ?_
  obtain ⟨r1, g1, h⟩ := k_bind h
  refine k_callS (As := [.int x1]) (rest := []) (st1 := [.int r1]) (ws2 := (Wd23 cS aV aN aS aT aW aK aH dn v_hasImage d_kind d_figure d_sort d_size d_held)) hx hb hml hown hts hK hN hA hP hD hS hl (c_PL_isShelf l D cI cM cS cJ s.heap.size x1 g1) gX11_refusalOfRow_X11_isShelf rfl kdS_X11_isShelf [] ⟨rfl, rfl⟩ ⟨Nat.le_of_ble_eq_true rfl, Nat.le_of_ble_eq_true rfl⟩ ⟨Nat.zero_le _, Nat.zero_le _⟩ rfl rfl (by decide +kernel) (k_rp rfl (by decide +kernel)) rfl rfl (Nat.le_of_ble_eq_true rfl) dX11_refusalOfRow_1 rfl (fun H locs hP hD hS => ?_)
  refine lv_if_ne (tgt := 9) hx hb dX11_refusalOfRow_4 (by decide) (fun c4 => ?_) (fun c4 => ?_)
  · have h := k_neg c4 h
    refine lv_aload_n hx hb dX11_refusalOfRow_9 rfl (lv_at hl 0 rfl) ?_
    refine va_get (D := D) (ci := 11) (v := .ref (aV 1)) (C := RX11) (T := TX11) (N := 6) hx hb hts hiX11 hown hK hP 0 rfl rfl 4 (by decide) hf59 (fun _ z => z) rfl dX11_refusalOfRow_10 ?_
    refine lv_iload_n hx hb dX11_refusalOfRow_13 rfl (lv_at hl 1 rfl) ?_
    obtain ⟨g14, h⟩ := k_guard h
    refine k_aldR (f := fun k => aH k 0) hx hb hK hP 1 2 rfl rfl g14 dX11_refusalOfRow_14 ?_
    rw [show x1.toNatClampNeg = dn from hdn g14]
    refine k_callV (As := []) (rest := []) (st1 := [.int (S_Shelf_isEmpty d_held)]) (ws2 := (Wd23 cS aV aN aS aT aW aK aH dn v_hasImage d_kind d_figure d_sort d_size d_held)) hx hb hml hown hts hK hN hA hP hD hS hl (c_Shelf_isEmpty l D cI cM cS cJ (aH dn) aK H.size d_kind d_figure d_sort d_size d_held rfl) gX11_refusalOfRow_X9_isEmpty rfl kdV_X9_isEmpty 0 9 rfl rfl rfl [2] ⟨rfl, rfl⟩ ⟨Nat.le_of_ble_eq_true rfl, Nat.le_of_ble_eq_true rfl⟩ ⟨Nat.zero_le _, Nat.zero_le _⟩ rfl rfl (by decide +kernel) (k_rp rfl (by decide +kernel)) rfl rfl (Nat.le_of_ble_eq_true rfl) dX11_refusalOfRow_15 rfl (fun H locs hP hD hS => ?_)
    refine lv_if_eq (tgt := 24) hx hb dX11_refusalOfRow_18 (by decide) (fun c18 => ?_) (fun c18 => ?_)
    · have h := k_pos c18 h
      refine lv_aload_n hx hb dX11_refusalOfRow_24 rfl (lv_at hl 0 rfl) ?_
      refine va_get (D := D) (ci := 11) (v := .ref (aV 1)) (C := RX11) (T := TX11) (N := 6) hx hb hts hiX11 hown hK hP 0 rfl rfl 4 (by decide) hf59 (fun _ z => z) rfl dX11_refusalOfRow_25 ?_
      refine lv_iload_n hx hb dX11_refusalOfRow_28 rfl (lv_at hl 1 rfl) ?_
      refine k_aldR (f := fun k => aH k 0) hx hb hK hP 1 2 rfl rfl g14 dX11_refusalOfRow_29 ?_
      rw [show x1.toNatClampNeg = dn from hdn g14]
      refine k_callV (As := []) (rest := []) (st1 := [.int (S_Shelf_hasRow d_held)]) (ws2 := (Wd23 cS aV aN aS aT aW aK aH dn v_hasImage d_kind d_figure d_sort d_size d_held)) hx hb hml hown hts hK hN hA hP hD hS hl (c_Shelf_hasRow l D cI cM cS cJ (aH dn) aK H.size d_kind d_figure d_sort d_size d_held rfl) gX11_refusalOfRow_X9_hasRow rfl kdV_X9_hasRow 0 9 rfl rfl rfl [2] ⟨rfl, rfl⟩ ⟨Nat.le_of_ble_eq_true rfl, Nat.le_of_ble_eq_true rfl⟩ ⟨Nat.zero_le _, Nat.zero_le _⟩ rfl rfl (by decide +kernel) (k_rp rfl (by decide +kernel)) rfl rfl (Nat.le_of_ble_eq_true rfl) dX11_refusalOfRow_30 rfl (fun H locs hP hD hS => ?_)
      refine lv_if_eq (tgt := 40) hx hb dX11_refusalOfRow_33 (by decide) (fun c33 => ?_) (fun c33 => ?_)
      · have h := k_pos c33 h
        refine lv_bipush (v := (-12)) hx hb dX11_refusalOfRow_40 (by decide) ?_
        have h := Option.some.inj h; subst h
        exact hret _ _ _ _ hP hS dX11_refusalOfRow_42
      · have h := k_neg c33 h
        refine lv_iconst (v := 0) hx hb dX11_refusalOfRow_36 (by decide) ?_
        refine lv_goto (tgt := 42) hx hb dX11_refusalOfRow_37 (by decide) ?_
        have h := Option.some.inj h; subst h
        exact hret _ _ _ _ hP hS dX11_refusalOfRow_42
    · have h := k_neg c18 h
      refine lv_bipush (v := (-11)) hx hb dX11_refusalOfRow_21 (by decide) ?_
      have h := Option.some.inj h; subst h
      exact hret _ _ _ _ hP hS dX11_refusalOfRow_23
  · have h := k_pos c4 h
    refine lv_iconst (v := (-1)) hx hb dX11_refusalOfRow_7 (by decide) ?_
    have h := Option.some.inj h; subst h
    exact hret _ _ _ _ hP hS dX11_refusalOfRow_8
abbrev Wd24 (cI : ClassId) (cM : ClassId) (cS : ClassId) (aV : Nat → Nat) (aN : Nat → Nat) (aS : Nat → Nat) (aT : Nat → Nat) (aW : Nat → Nat) (aK : Nat → Nat) (aH : Nat → Nat → Nat) (dn : Nat) (v_hasImage : Int32) (n_men : Int32) (n_propped : Int32) (n_place : Int32) (n_swings : Int32) (n_crashes : Int32) (n_day : Int32) (n_crashedToday : Int32) (n_kind : Nat → Int32) (n_figure : Nat → Int32) (n_lean : Nat → Int32) (t_men : Int32) (t_propped : Int32) (t_place : Int32) (t_swings : Int32) (t_crashes : Int32) (t_day : Int32) (t_crashedToday : Int32) (t_kind : Nat → Int32) (t_figure : Nat → Int32) (t_lean : Nat → Int32) (d_kind : Int32) (d_figure : Int32) (d_sort : Int32) (d_size : Int32) (d_held : Int32) (d_el : Nat → Int32) : va_W := [((aV 0), .inr (11, [.ref (aN 0), .ref (aS 0), .ref (aT 0), .ref (aW 0), .ref (aV 1), .int v_hasImage])), ((aV 1), .inl (cS, 8, .inr (.inr (.inr (.inr (fun k => some (aH k 0))))))), ((aN 0), .inr (2, [.ref (aN 1), .ref (aN 2), .ref (aN 3), .int n_men, .int n_propped, .int n_place, .int n_swings, .int n_crashes, .int n_day, .int n_crashedToday, .ref (aK 8), .ref (aN 4)])), ((aN 1), .inl (cI, 8, .inl n_kind)), ((aN 2), .inl (cI, 8, .inl n_figure)), ((aN 3), .inl (cI, 8, .inl n_lean)), ((aT 0), .inr (2, [.ref (aT 1), .ref (aT 2), .ref (aT 3), .int t_men, .int t_propped, .int t_place, .int t_swings, .int t_crashes, .int t_day, .int t_crashedToday, .ref (aK 8), .ref (aT 4)])), ((aT 1), .inl (cI, 8, .inl t_kind)), ((aT 2), .inl (cI, 8, .inl t_figure)), ((aT 3), .inl (cI, 8, .inl t_lean)), (((aH dn) 0), .inr (9, [.ref ((aH dn) 1), .int d_kind, .int d_figure, .int d_sort, .int d_size, .int d_held, .ref (aK 8)])), (((aH dn) 1), .inl (cI, 100, .inl d_el)), ((aK 8), .inl (cM, 8, .inr (.inr (.inr (.inr (fun k => some (aK k))))))), ((aK 0), .inr (4, [])), ((aK 1), .inr (0, [])), ((aK 2), .inr (7, [])), ((aK 3), .inr (3, [])), ((aK 4), .inr (1, [])), ((aK 5), .inr (8, [])), ((aK 6), .inr (10, [])), ((aK 7), .inr (6, []))]
theorem kdV_X11_refusalOfRow : yX11_refusalOfRow.cls = RX11 ∧ yX11_refusalOfRow.cls ≠ "java/lang/invoke/MethodHandle" ∧ yX11_refusalOfRow.cls ≠ "java/lang/invoke/VarHandle" ∧ (parseMethodDescriptor yX11_refusalOfRow.desc).map (fun d => d.parameters.length) = some 1 := by decide +kernel
theorem kdV_X9_isText : yX9_isText.cls = RX9 ∧ yX9_isText.cls ≠ "java/lang/invoke/MethodHandle" ∧ yX9_isText.cls ≠ "java/lang/invoke/VarHandle" ∧ (parseMethodDescriptor yX9_isText.desc).map (fun d => d.parameters.length) = some 0 := by decide +kernel
theorem kdV_X9_faultOfForm : yX9_faultOfForm.cls = RX9 ∧ yX9_faultOfForm.cls ≠ "java/lang/invoke/MethodHandle" ∧ yX9_faultOfForm.cls ≠ "java/lang/invoke/VarHandle" ∧ (parseMethodDescriptor yX9_faultOfForm.desc).map (fun d => d.parameters.length) = some 0 := by decide +kernel
theorem kdV_X2_takesStatement : yX2_takesStatement.cls = RX2 ∧ yX2_takesStatement.cls ≠ "java/lang/invoke/MethodHandle" ∧ yX2_takesStatement.cls ≠ "java/lang/invoke/VarHandle" ∧ (parseMethodDescriptor yX2_takesStatement.desc).map (fun d => d.parameters.length) = some 2 := by decide +kernel
abbrev rm_X11_city : Room := { frames := 7, cells := 0, slots := 0, locals := 173 }
set_option maxHeartbeats 4000000 in
set_option maxRecDepth 100000 in
theorem c_PL_city (l : Launch) (D : va_G) (cI cM cS cJ : ClassId) (aV : Nat → Nat) (aN : Nat → Nat) (aS : Nat → Nat) (aT : Nat → Nat) (aW : Nat → Nat) (aK : Nat → Nat) (aH : Nat → Nat → Nat) (dn : Nat) (sz : Nat) (x1 : Int32) (v_hasImage : Int32) (nS : CS) (tS : CS) (d_kind : Int32) (d_figure : Int32) (d_sort : Int32) (d_size : Int32) (d_held : Int32) (d_el : Nat → Int32) (hdn : ¬ (x1 < 0 ∨ 8 ≤ x1.toNatClampNeg) → x1.toNatClampNeg = dn) {o : (Int32) × (CS) × (CS)} (hsem : S_PL_city x1 nS tS d_sort d_size d_held d_el = some o) : kMet l yX11_city wsX11_city rm_X11_city [.ref (aV 0), .int x1] D (kT cI cM cS cJ) (Wd24 cI cM cS aV aN aS aT aW aK aH dn v_hasImage nS.1 nS.2.1 nS.2.2.1 nS.2.2.2.1 nS.2.2.2.2.1 nS.2.2.2.2.2.1 nS.2.2.2.2.2.2.1 nS.2.2.2.2.2.2.2.1 nS.2.2.2.2.2.2.2.2.1 nS.2.2.2.2.2.2.2.2.2.1 tS.1 tS.2.1 tS.2.2.1 tS.2.2.2.1 tS.2.2.2.2.1 tS.2.2.2.2.2.1 tS.2.2.2.2.2.2.1 tS.2.2.2.2.2.2.2.1 tS.2.2.2.2.2.2.2.2.1 tS.2.2.2.2.2.2.2.2.2.1 d_kind d_figure d_sort d_size d_held d_el) sz (some (.int o.1)) (Wd24 cI cM cS aV aN aS aT aW aK aH dn v_hasImage o.2.1.1 o.2.1.2.1 o.2.1.2.2.1 o.2.1.2.2.2.1 o.2.1.2.2.2.2.1 o.2.1.2.2.2.2.2.1 o.2.1.2.2.2.2.2.2.1 o.2.1.2.2.2.2.2.2.2.1 o.2.1.2.2.2.2.2.2.2.2.1 o.2.1.2.2.2.2.2.2.2.2.2.1 o.2.2.1 o.2.2.2.1 o.2.2.2.2.1 o.2.2.2.2.2.1 o.2.2.2.2.2.2.1 o.2.2.2.2.2.2.2.1 o.2.2.2.2.2.2.2.2.1 o.2.2.2.2.2.2.2.2.2.1 o.2.2.2.2.2.2.2.2.2.2.1 o.2.2.2.2.2.2.2.2.2.2.2.1 d_kind d_figure d_sort d_size d_held d_el) := by
  refine k_metI (by decide) rfl rfl (Nat.le_of_ble_eq_true rfl) ?_
  intro p e s m below meth c ls Q A hx hb hml hts hown hK hN hA hP hD hS hl hsz hnm hret
  have hown : s.vm.findClass RX11 = some m.cls := hown
  have hf59 := hts (.fieldLink RX11 59 "PlumbLine" "shelves" "[LPlumbLine$Shelf;") (List.mem_of_getElem? (i := 1) rfl)
  have hf45 := hts (.fieldLink RX11 45 "PlumbLine" "tried" "LPlumbLine$City;") (List.mem_of_getElem? (i := 2) rfl)
  have hf36 := hts (.fieldLink RX11 36 "PlumbLine" "now" "LPlumbLine$City;") (List.mem_of_getElem? (i := 3) rfl)
  have hf80 := hts (.fieldLink RX11 80 "PlumbLine$Shelf" "size" "I") (List.mem_of_getElem? (i := 4) rfl)
  have hf88 := hts (.fieldLink RX11 88 "PlumbLine$Shelf" "elements" "[I") (List.mem_of_getElem? (i := 5) rfl)
  have hiX11 : ∀ w ∈ u_ws RX11 TX11 6, w ∈ wsX11_city := fun w h => List.mem_cons_of_mem _ (List.mem_append_left _ (List.mem_append_left _ (List.mem_append_right _ h)))
  have hiX9 : ∀ w ∈ u_ws RX9 TX9 7, w ∈ wsX11_city := fun w h => List.mem_cons_of_mem _ (List.mem_append_left _ (List.mem_append_right _ h))
  replace hl : lv_has ls 7 [(0, .ref (aV 0)), (1, .int x1)] := hl
  have h := hsem
  clear hsem
  rw [S_PL_city] at h
  refine lv_aload_n hx hb dX11_city_0 rfl (lv_at hl 0 rfl) ?_
  refine lv_iload_n hx hb dX11_city_1 rfl (lv_at hl 1 rfl) ?_
  obtain ⟨r2, g2, h⟩ := k_bind h
  refine k_callV (As := [.int x1]) (rest := []) (st1 := [.int r2]) (ws2 := (Wd24 cI cM cS aV aN aS aT aW aK aH dn v_hasImage nS.1 nS.2.1 nS.2.2.1 nS.2.2.2.1 nS.2.2.2.2.1 nS.2.2.2.2.2.1 nS.2.2.2.2.2.2.1 nS.2.2.2.2.2.2.2.1 nS.2.2.2.2.2.2.2.2.1 nS.2.2.2.2.2.2.2.2.2.1 tS.1 tS.2.1 tS.2.2.1 tS.2.2.2.1 tS.2.2.2.2.1 tS.2.2.2.2.2.1 tS.2.2.2.2.2.2.1 tS.2.2.2.2.2.2.2.1 tS.2.2.2.2.2.2.2.2.1 tS.2.2.2.2.2.2.2.2.2.1 d_kind d_figure d_sort d_size d_held d_el)) hx hb hml hown hts hK hN hA hP hD hS hl (c_PL_refusalOfRow l D cI cM cS cJ aV aN aS aT aW aK aH dn s.heap.size x1 v_hasImage d_kind d_figure d_sort d_size d_held hdn g2) gX11_city_X11_refusalOfRow rfl kdV_X11_refusalOfRow 0 11 rfl rfl rfl [0, 1, 10] ⟨rfl, rfl⟩ ⟨Nat.le_of_ble_eq_true rfl, Nat.le_of_ble_eq_true rfl⟩ ⟨Nat.zero_le _, Nat.zero_le _⟩ rfl rfl (by decide +kernel) (k_rp rfl (by decide +kernel)) rfl rfl (Nat.le_of_ble_eq_true rfl) dX11_city_2 rfl (fun H locs hP hD hS => ?_)
  refine lv_istore_n (lv' := [(2, .int r2), (0, .ref (aV 0)), (1, .int x1)]) hx hb dX11_city_5 rfl hl (by decide) rfl (fun ls hl => ?_)
  refine lv_iload_n hx hb dX11_city_6 rfl (lv_at hl 0 rfl) ?_
  refine lv_if_eq (tgt := 12) hx hb dX11_city_7 (by decide) (fun c7 => ?_) (fun c7 => ?_)
  · have h := k_pos c7 h
    refine lv_aload_n hx hb dX11_city_12 rfl (lv_at hl 1 rfl) ?_
    refine va_get (D := D) (ci := 11) (v := .ref (aV 1)) (C := RX11) (T := TX11) (N := 6) hx hb hts hiX11 hown hK hP 0 rfl rfl 4 (by decide) hf59 (fun _ z => z) rfl dX11_city_13 ?_
    refine lv_iload_n hx hb dX11_city_16 rfl (lv_at hl 2 rfl) ?_
    obtain ⟨g17, h⟩ := k_guard h
    refine k_aldR (f := fun k => aH k 0) hx hb hK hP 1 2 rfl rfl g17 dX11_city_17 ?_
    rw [show x1.toNatClampNeg = dn from hdn g17]
    refine lv_astore_n (lv' := [(3, .ref ((aH dn) 0)), (2, .int r2), (0, .ref (aV 0)), (1, .int x1)]) hx hb dX11_city_18 rfl hl (by decide) rfl (fun ls hl => ?_)
    refine lv_aload_n hx hb dX11_city_19 rfl (lv_at hl 0 rfl) ?_
    refine k_callV (As := []) (rest := []) (st1 := [.int (S_Shelf_isText d_sort)]) (ws2 := (Wd24 cI cM cS aV aN aS aT aW aK aH dn v_hasImage nS.1 nS.2.1 nS.2.2.1 nS.2.2.2.1 nS.2.2.2.2.1 nS.2.2.2.2.2.1 nS.2.2.2.2.2.2.1 nS.2.2.2.2.2.2.2.1 nS.2.2.2.2.2.2.2.2.1 nS.2.2.2.2.2.2.2.2.2.1 tS.1 tS.2.1 tS.2.2.1 tS.2.2.2.1 tS.2.2.2.2.1 tS.2.2.2.2.2.1 tS.2.2.2.2.2.2.1 tS.2.2.2.2.2.2.2.1 tS.2.2.2.2.2.2.2.2.1 tS.2.2.2.2.2.2.2.2.2.1 d_kind d_figure d_sort d_size d_held d_el)) hx hb hml hown hts hK hN hA hP hD hS hl (c_Shelf_isText l D cI cM cS cJ (aH dn) aK H.size d_kind d_figure d_sort d_size d_held rfl) gX11_city_X9_isText rfl kdV_X9_isText 0 9 rfl rfl rfl [10] ⟨rfl, rfl⟩ ⟨Nat.le_of_ble_eq_true rfl, Nat.le_of_ble_eq_true rfl⟩ ⟨Nat.zero_le _, Nat.zero_le _⟩ rfl rfl (by decide +kernel) (k_rp rfl (by decide +kernel)) rfl rfl (Nat.le_of_ble_eq_true rfl) dX11_city_20 rfl (fun H locs hP hD hS => ?_)
    refine lv_if_ne (tgt := 29) hx hb dX11_city_23 (by decide) (fun c23 => ?_) (fun c23 => ?_)
    · have h := k_neg c23 h
      refine lv_aload_n hx hb dX11_city_29 rfl (lv_at hl 0 rfl) ?_
      obtain ⟨r30, g30, h⟩ := k_bind h
      refine k_callV (As := []) (rest := []) (st1 := [.int r30]) (ws2 := (Wd24 cI cM cS aV aN aS aT aW aK aH dn v_hasImage nS.1 nS.2.1 nS.2.2.1 nS.2.2.2.1 nS.2.2.2.2.1 nS.2.2.2.2.2.1 nS.2.2.2.2.2.2.1 nS.2.2.2.2.2.2.2.1 nS.2.2.2.2.2.2.2.2.1 nS.2.2.2.2.2.2.2.2.2.1 tS.1 tS.2.1 tS.2.2.1 tS.2.2.2.1 tS.2.2.2.2.1 tS.2.2.2.2.2.1 tS.2.2.2.2.2.2.1 tS.2.2.2.2.2.2.2.1 tS.2.2.2.2.2.2.2.2.1 tS.2.2.2.2.2.2.2.2.2.1 d_kind d_figure d_sort d_size d_held d_el)) hx hb hml hown hts hK hN hA hP hD hS hl (c_Shelf_faultOfForm l D cI cM cS cJ (aH dn) aK H.size d_kind d_figure d_sort d_size d_held d_el g30) gX11_city_X9_faultOfForm rfl kdV_X9_faultOfForm 0 9 rfl rfl rfl [10, 11] ⟨rfl, rfl⟩ ⟨Nat.le_of_ble_eq_true rfl, Nat.le_of_ble_eq_true rfl⟩ ⟨Nat.zero_le _, Nat.zero_le _⟩ rfl rfl (by decide +kernel) (k_rp rfl (by decide +kernel)) rfl rfl (Nat.le_of_ble_eq_true rfl) dX11_city_30 rfl (fun H locs hP hD hS => ?_)
      refine lv_istore (lv' := [(4, .int r30), (3, .ref ((aH dn) 0)), (2, .int r2), (0, .ref (aV 0)), (1, .int x1)]) hx hb dX11_city_33 hl (by decide) rfl (fun ls hl => ?_)
      refine lv_iload hx hb dX11_city_35 (lv_at hl 0 rfl) ?_
      refine lv_if_lt (tgt := 47) hx hb dX11_city_37 (by decide) (fun c37 => ?_) (fun c37 => ?_)
      · have h := k_pos c37 h
        refine lv_aload_n hx hb dX11_city_47 rfl (lv_at hl 3 rfl) ?_
        refine va_get (D := D) (ci := 11) (v := .ref (aT 0)) (C := RX11) (T := TX11) (N := 6) hx hb hts hiX11 hown hK hP 0 rfl rfl 2 (by decide) hf45 (fun _ z => z) rfl dX11_city_48 ?_
        refine lv_aload_n hx hb dX11_city_51 rfl (lv_at hl 3 rfl) ?_
        refine va_get (D := D) (ci := 11) (v := .ref (aN 0)) (C := RX11) (T := TX11) (N := 6) hx hb hts hiX11 hown hK hP 0 rfl rfl 0 (by decide) hf36 (fun _ z => z) rfl dX11_city_52 ?_
        obtain ⟨r55, g55, h⟩ := k_bind h
        refine k_callV (As := [.ref (aN 0)]) (rest := []) (st1 := []) (ws2 := (Wd24 cI cM cS aV aN aS aT aW aK aH dn v_hasImage nS.1 nS.2.1 nS.2.2.1 nS.2.2.2.1 nS.2.2.2.2.1 nS.2.2.2.2.2.1 nS.2.2.2.2.2.2.1 nS.2.2.2.2.2.2.2.1 nS.2.2.2.2.2.2.2.2.1 nS.2.2.2.2.2.2.2.2.2.1 r55.1 r55.2.1 r55.2.2.1 r55.2.2.2.1 r55.2.2.2.2.1 r55.2.2.2.2.2.1 tS.2.2.2.2.2.2.1 r55.2.2.2.2.2.2.1 r55.2.2.2.2.2.2.2.1 r55.2.2.2.2.2.2.2.2 d_kind d_figure d_sort d_size d_held d_el)) hx hb hml hown hts hK hN hA hP hD hS hl (c_City_becomes l D cI cM cS cJ aT aN aK H.size tS.1 tS.2.1 tS.2.2.1 tS.2.2.2.1 tS.2.2.2.2.1 tS.2.2.2.2.2.1 tS.2.2.2.2.2.2.1 tS.2.2.2.2.2.2.2.1 tS.2.2.2.2.2.2.2.2.1 tS.2.2.2.2.2.2.2.2.2.1 nS.1 nS.2.1 nS.2.2.1 nS.2.2.2.1 nS.2.2.2.2.1 nS.2.2.2.2.2.1 nS.2.2.2.2.2.2.1 nS.2.2.2.2.2.2.2.1 nS.2.2.2.2.2.2.2.2.1 nS.2.2.2.2.2.2.2.2.2.1 g55) gX11_city_X2_becomes rfl kdV_X2_becomes 0 2 rfl rfl rfl [6, 7, 8, 9, 2, 3, 4, 5] ⟨rfl, rfl⟩ ⟨Nat.le_of_ble_eq_true rfl, Nat.le_of_ble_eq_true rfl⟩ ⟨Nat.zero_le _, Nat.zero_le _⟩ rfl rfl (by decide +kernel) (k_rp rfl (by decide +kernel)) rfl rfl (Nat.le_of_ble_eq_true rfl) dX11_city_55 rfl (fun H locs hP hD hS => ?_)
        refine lv_iconst (v := 0) hx hb dX11_city_58 (by decide) ?_
        refine lv_istore (lv' := [(5, .int 0), (4, .int r30), (3, .ref ((aH dn) 0)), (2, .int r2), (0, .ref (aV 0)), (1, .int x1)]) hx hb dX11_city_59 hl (by decide) rfl (fun ls hl => ?_)
        refine lv_iconst (v := 0) hx hb dX11_city_61 (by decide) ?_
        have B64 : ∀ (nS : CS) (n64 : Nat) (y5 : Int32) (y6 : Int32) (tS : CS) (H : Heap) (locs : List Loc) (ls : Array Slot), va_P D vwCl (Wd24 cI cM cS aV aN aS aT aW aK aH dn v_hasImage nS.1 nS.2.1 nS.2.2.1 nS.2.2.2.1 nS.2.2.2.2.1 nS.2.2.2.2.2.1 nS.2.2.2.2.2.2.1 nS.2.2.2.2.2.2.2.1 nS.2.2.2.2.2.2.2.2.1 nS.2.2.2.2.2.2.2.2.2.1 tS.1 tS.2.1 tS.2.2.1 tS.2.2.2.1 tS.2.2.2.2.1 tS.2.2.2.2.2.1 tS.2.2.2.2.2.2.1 tS.2.2.2.2.2.2.2.1 tS.2.2.2.2.2.2.2.2.1 tS.2.2.2.2.2.2.2.2.2.1 d_kind d_figure d_sort d_size d_held d_el) H → va_D A (Wd24 cI cM cS aV aN aS aT aW aK aH dn v_hasImage nS.1 nS.2.1 nS.2.2.1 nS.2.2.2.1 nS.2.2.2.2.1 nS.2.2.2.2.2.1 nS.2.2.2.2.2.2.1 nS.2.2.2.2.2.2.2.1 nS.2.2.2.2.2.2.2.2.1 nS.2.2.2.2.2.2.2.2.2.1 tS.1 tS.2.1 tS.2.2.1 tS.2.2.2.1 tS.2.2.2.2.1 tS.2.2.2.2.2.1 tS.2.2.2.2.2.2.1 tS.2.2.2.2.2.2.2.1 tS.2.2.2.2.2.2.2.2.1 tS.2.2.2.2.2.2.2.2.2.1 d_kind d_figure d_sort d_size d_held d_el) → va_S A s.heap H locs → lv_has ls 7 [(0, .ref (aV 0)), (3, .ref ((aH dn) 0)), (5, .int y5), (6, .int y6)] → S_PL_city_L64 d_size d_el nS n64 y5 y6 tS = some o → W p l e rm_X11_city s m ([.ref (aV 0), .int x1] : List Value).toArray below meth c H locs 0 0 Q (F0 m 64 ls []) := by
          intro nS
          intro n64
          induction n64 with
          | zero => intro y5 y6 tS H locs ls hP hD hS hl h; exact absurd h (by simp [S_PL_city_L64])
          | succ n64 ih64 =>
            intro y5 y6 tS H locs ls hP hD hS hl h
            rw [S_PL_city_L64] at h
            refine lv_iload hx hb dX11_city_64 (lv_at hl 3 rfl) ?_
            refine lv_aload_n hx hb dX11_city_66 rfl (lv_at hl 1 rfl) ?_
            refine va_get (D := D) (ci := 9) (v := .int d_size) (C := RX9) (T := TX9) (N := 7) hx hb hts hiX9 hown hK hP 10 rfl rfl 4 (by decide) hf80 (fun _ z => z) rfl dX11_city_67 ?_
            refine lv_icmp_ge (tgt := 114) hx hb dX11_city_70 (by decide) (fun c70 => ?_) (fun c70 => ?_)
            · have h := k_pos c70 h
              refine lv_aload_n hx hb dX11_city_114 rfl (lv_at hl 0 rfl) ?_
              refine va_get (D := D) (ci := 11) (v := .ref (aN 0)) (C := RX11) (T := TX11) (N := 6) hx hb hts hiX11 hown hK hP 0 rfl rfl 0 (by decide) hf36 (fun _ z => z) rfl dX11_city_115 ?_
              refine lv_aload_n hx hb dX11_city_118 rfl (lv_at hl 0 rfl) ?_
              refine va_get (D := D) (ci := 11) (v := .ref (aT 0)) (C := RX11) (T := TX11) (N := 6) hx hb hts hiX11 hown hK hP 0 rfl rfl 2 (by decide) hf45 (fun _ z => z) rfl dX11_city_119 ?_
              obtain ⟨r122, g122, h⟩ := k_bind h
              refine k_callV (As := [.ref (aT 0)]) (rest := []) (st1 := []) (ws2 := (Wd24 cI cM cS aV aN aS aT aW aK aH dn v_hasImage r122.1 r122.2.1 r122.2.2.1 r122.2.2.2.1 r122.2.2.2.2.1 r122.2.2.2.2.2.1 nS.2.2.2.2.2.2.1 r122.2.2.2.2.2.2.1 r122.2.2.2.2.2.2.2.1 r122.2.2.2.2.2.2.2.2 tS.1 tS.2.1 tS.2.2.1 tS.2.2.2.1 tS.2.2.2.2.1 tS.2.2.2.2.2.1 tS.2.2.2.2.2.2.1 tS.2.2.2.2.2.2.2.1 tS.2.2.2.2.2.2.2.2.1 tS.2.2.2.2.2.2.2.2.2.1 d_kind d_figure d_sort d_size d_held d_el)) hx hb hml hown hts hK hN hA hP hD hS hl (c_City_becomes l D cI cM cS cJ aN aT aK H.size nS.1 nS.2.1 nS.2.2.1 nS.2.2.2.1 nS.2.2.2.2.1 nS.2.2.2.2.2.1 nS.2.2.2.2.2.2.1 nS.2.2.2.2.2.2.2.1 nS.2.2.2.2.2.2.2.2.1 nS.2.2.2.2.2.2.2.2.2.1 tS.1 tS.2.1 tS.2.2.1 tS.2.2.2.1 tS.2.2.2.2.1 tS.2.2.2.2.2.1 tS.2.2.2.2.2.2.1 tS.2.2.2.2.2.2.2.1 tS.2.2.2.2.2.2.2.2.1 tS.2.2.2.2.2.2.2.2.2.1 g122) gX11_city_X2_becomes rfl kdV_X2_becomes 0 2 rfl rfl rfl [2, 3, 4, 5, 6, 7, 8, 9] ⟨rfl, rfl⟩ ⟨Nat.le_of_ble_eq_true rfl, Nat.le_of_ble_eq_true rfl⟩ ⟨Nat.zero_le _, Nat.zero_le _⟩ rfl rfl (by decide +kernel) (k_rp rfl (by decide +kernel)) rfl rfl (Nat.le_of_ble_eq_true rfl) dX11_city_122 rfl (fun H locs hP hD hS => ?_)
              refine lv_iload hx hb dX11_city_125 (lv_at hl 2 rfl) ?_
              have h := Option.some.inj h; subst h
              exact hret _ _ _ _ hP hS dX11_city_127
            · have h := k_neg c70 h
              refine lv_aload_n hx hb dX11_city_73 rfl (lv_at hl 0 rfl) ?_
              refine va_get (D := D) (ci := 11) (v := .ref (aT 0)) (C := RX11) (T := TX11) (N := 6) hx hb hts hiX11 hown hK hP 0 rfl rfl 2 (by decide) hf45 (fun _ z => z) rfl dX11_city_74 ?_
              refine lv_aload_n hx hb dX11_city_77 rfl (lv_at hl 1 rfl) ?_
              refine lv_iload hx hb dX11_city_78 (lv_at hl 3 rfl) ?_
              obtain ⟨r80, g80, h⟩ := k_bind h
              refine k_callV (As := [.ref ((aH dn) 0), .int y6]) (rest := []) (st1 := [.int r80.1]) (ws2 := (Wd24 cI cM cS aV aN aS aT aW aK aH dn v_hasImage nS.1 nS.2.1 nS.2.2.1 nS.2.2.2.1 nS.2.2.2.2.1 nS.2.2.2.2.2.1 nS.2.2.2.2.2.2.1 nS.2.2.2.2.2.2.2.1 nS.2.2.2.2.2.2.2.2.1 nS.2.2.2.2.2.2.2.2.2.1 r80.2.1 r80.2.2.1 r80.2.2.2.1 r80.2.2.2.2.1 r80.2.2.2.2.2.1 r80.2.2.2.2.2.2.1 r80.2.2.2.2.2.2.2.1 r80.2.2.2.2.2.2.2.2.1 r80.2.2.2.2.2.2.2.2.2.1 r80.2.2.2.2.2.2.2.2.2.2 d_kind d_figure d_sort d_size d_held d_el)) hx hb hml hown hts hK hN hA hP hD hS hl (c_City_takesStatement l D cI cM cS cJ aT (aH dn) aK H.size y6 tS.1 tS.2.1 tS.2.2.1 tS.2.2.2.1 tS.2.2.2.2.1 tS.2.2.2.2.2.1 tS.2.2.2.2.2.2.1 tS.2.2.2.2.2.2.2.1 tS.2.2.2.2.2.2.2.2.1 tS.2.2.2.2.2.2.2.2.2.1 d_kind d_figure d_sort d_size d_held d_el g80) gX11_city_X2_takesStatement rfl kdV_X2_takesStatement 0 2 rfl rfl rfl [6, 7, 8, 9, 10, 11, 12, 13, 14, 15, 16, 17, 18, 19, 20] ⟨rfl, rfl⟩ ⟨Nat.le_of_ble_eq_true rfl, Nat.le_of_ble_eq_true rfl⟩ ⟨Nat.zero_le _, Nat.zero_le _⟩ rfl rfl (by decide +kernel) (k_rp rfl (by decide +kernel)) rfl rfl (Nat.le_of_ble_eq_true rfl) dX11_city_80 rfl (fun H locs hP hD hS => ?_)
              refine lv_if_ne (tgt := 93) hx hb dX11_city_83 (by decide) (fun c83 => ?_) (fun c83 => ?_)
              · have h := k_neg c83 h
                refine lv_iinc (v := (y5 + 1)) (lv' := [(5, .int (y5 + 1)), (0, .ref (aV 0)), (3, .ref ((aH dn) 0)), (6, .int y6)]) hx hb dX11_city_93 hl (k := 2) rfl (by first | rfl | decide) (by decide) rfl (fun ls hl => ?_)
                refine lv_iload hx hb dX11_city_96 (lv_at hl 3 rfl) ?_
                refine lv_aload_n hx hb dX11_city_98 rfl (lv_at hl 2 rfl) ?_
                refine va_get (D := D) (ci := 9) (v := .ref ((aH dn) 1)) (C := RX9) (T := TX9) (N := 7) hx hb hts hiX9 hown hK hP 10 rfl rfl 0 (by decide) hf88 (fun _ z => z) rfl dX11_city_99 ?_
                refine lv_iload hx hb dX11_city_102 (lv_at hl 3 rfl) ?_
                obtain ⟨g104, h⟩ := k_guard h
                refine va_iald hx hb hK hP 11 0 rfl rfl g104 dX11_city_104 ?_
                refine k_callS (As := [.int (d_el y6.toNatClampNeg)]) (rest := [.int y6]) (st1 := [.int (S_Shelf_lengthBy (d_el y6.toNatClampNeg)), .int y6]) (ws2 := (Wd24 cI cM cS aV aN aS aT aW aK aH dn v_hasImage nS.1 nS.2.1 nS.2.2.1 nS.2.2.2.1 nS.2.2.2.2.1 nS.2.2.2.2.2.1 nS.2.2.2.2.2.2.1 nS.2.2.2.2.2.2.2.1 nS.2.2.2.2.2.2.2.2.1 nS.2.2.2.2.2.2.2.2.2.1 r80.2.1 r80.2.2.1 r80.2.2.2.1 r80.2.2.2.2.1 r80.2.2.2.2.2.1 r80.2.2.2.2.2.2.1 r80.2.2.2.2.2.2.2.1 r80.2.2.2.2.2.2.2.2.1 r80.2.2.2.2.2.2.2.2.2.1 r80.2.2.2.2.2.2.2.2.2.2 d_kind d_figure d_sort d_size d_held d_el)) hx hb hml hown hts hK hN hA hP hD hS hl (c_Shelf_lengthBy l D cI cM cS cJ H.size (d_el y6.toNatClampNeg) rfl) gX11_city_X9_lengthBy rfl kdS_X9_lengthBy [] ⟨rfl, rfl⟩ ⟨Nat.le_of_ble_eq_true rfl, Nat.le_of_ble_eq_true rfl⟩ ⟨Nat.zero_le _, Nat.zero_le _⟩ rfl rfl (by decide +kernel) (k_rp rfl (by decide +kernel)) rfl rfl (Nat.le_of_ble_eq_true rfl) dX11_city_105 rfl (fun H locs hP hD hS => ?_)
                refine lv_iadd hx hb dX11_city_108 ?_
                refine lv_istore (lv' := [(6, .int (y6 + (S_Shelf_lengthBy (d_el y6.toNatClampNeg)))), (5, .int (y5 + 1)), (0, .ref (aV 0)), (3, .ref ((aH dn) 0))]) hx hb dX11_city_109 hl (by decide) rfl (fun ls hl => ?_)
                refine lv_goto (tgt := 64) hx hb dX11_city_111 (by decide) ?_
                exact ih64 (y5 + 1) (y6 + (S_Shelf_lengthBy (d_el y6.toNatClampNeg))) (r80.2.1, r80.2.2.1, r80.2.2.2.1, r80.2.2.2.2.1, r80.2.2.2.2.2.1, r80.2.2.2.2.2.2.1, r80.2.2.2.2.2.2.2.1, r80.2.2.2.2.2.2.2.2.1, r80.2.2.2.2.2.2.2.2.2.1, r80.2.2.2.2.2.2.2.2.2.2, tS.2.2.2.2.2.2.2.2.2.2) H locs ls hP hD hS (lv_sub hl [2, 3, 1, 0] rfl) h
              · have h := k_pos c83 h
                refine lv_sipush (v := (-2000)) hx hb dX11_city_86 (by decide) ?_
                refine lv_iload hx hb dX11_city_89 (lv_at hl 3 rfl) ?_
                refine lv_isub hx hb dX11_city_91 ?_
                have h := Option.some.inj h; subst h
                exact hret _ _ _ _ hP hS dX11_city_92
        refine lv_istore (lv' := [(6, .int 0), (5, .int 0), (4, .int r30), (3, .ref ((aH dn) 0)), (2, .int r2), (0, .ref (aV 0)), (1, .int x1)]) hx hb dX11_city_62 hl (by decide) rfl (fun ls hl => ?_)
        exact B64 nS lfu 0 0 (r55.1, r55.2.1, r55.2.2.1, r55.2.2.2.1, r55.2.2.2.2.1, r55.2.2.2.2.2.1, tS.2.2.2.2.2.2.1, r55.2.2.2.2.2.2.1, r55.2.2.2.2.2.2.2.1, r55.2.2.2.2.2.2.2.2, tS.2.2.2.2.2.2.2.2.2.2) H locs ls hP hD hS (lv_sub hl [5, 3, 1, 0] rfl) h
      · have h := k_neg c37 h
        refine lv_sipush (v := (-1000)) hx hb dX11_city_40 (by decide) ?_
        refine lv_iload hx hb dX11_city_43 (lv_at hl 0 rfl) ?_
        refine lv_isub hx hb dX11_city_45 ?_
        have h := Option.some.inj h; subst h
        exact hret _ _ _ _ hP hS dX11_city_46
    · have h := k_pos c23 h
      refine lv_bipush (v := (-12)) hx hb dX11_city_26 (by decide) ?_
      have h := Option.some.inj h; subst h
      exact hret _ _ _ _ hP hS dX11_city_28
  · have h := k_neg c7 h
    refine lv_iload_n hx hb dX11_city_10 rfl (lv_at hl 0 rfl) ?_
    have h := Option.some.inj h; subst h
    exact hret _ _ _ _ hP hS dX11_city_11
abbrev Wd25 (cI : ClassId) (aV : Nat → Nat) (aN : Nat → Nat) (aS : Nat → Nat) (aT : Nat → Nat) (aW : Nat → Nat) (aK : Nat → Nat) (v_hasImage : Int32) (n_men : Int32) (n_propped : Int32) (n_place : Int32) (n_swings : Int32) (n_crashes : Int32) (n_day : Int32) (n_crashedToday : Int32) (n_lean : Nat → Int32) : va_W := [((aV 0), .inr (11, [.ref (aN 0), .ref (aS 0), .ref (aT 0), .ref (aW 0), .ref (aV 1), .int v_hasImage])), ((aN 0), .inr (2, [.ref (aN 1), .ref (aN 2), .ref (aN 3), .int n_men, .int n_propped, .int n_place, .int n_swings, .int n_crashes, .int n_day, .int n_crashedToday, .ref (aK 8), .ref (aN 4)])), ((aN 3), .inl (cI, 8, .inl n_lean))]
abbrev rm_X11_lean : Room := { frames := 1, cells := 0, slots := 0, locals := 21 }
set_option maxHeartbeats 4000000 in
set_option maxRecDepth 100000 in
theorem c_PL_lean (l : Launch) (D : va_G) (cI cM cS cJ : ClassId) (aV : Nat → Nat) (aN : Nat → Nat) (aS : Nat → Nat) (aT : Nat → Nat) (aW : Nat → Nat) (aK : Nat → Nat) (sz : Nat) (x1 : Int32) (v_hasImage : Int32) (nS : CS) {o : (Int32)} (hsem : S_PL_lean x1 nS = some o) : kMet l yX11_lean wsX11_lean rm_X11_lean [.ref (aV 0), .int x1] D (kT cI cM cS cJ) (Wd25 cI aV aN aS aT aW aK v_hasImage nS.1 nS.2.1 nS.2.2.1 nS.2.2.2.1 nS.2.2.2.2.1 nS.2.2.2.2.2.1 nS.2.2.2.2.2.2.1 nS.2.2.2.2.2.2.2.2.2.1) sz (some (.int o)) (Wd25 cI aV aN aS aT aW aK v_hasImage nS.1 nS.2.1 nS.2.2.1 nS.2.2.2.1 nS.2.2.2.2.1 nS.2.2.2.2.2.1 nS.2.2.2.2.2.2.1 nS.2.2.2.2.2.2.2.2.2.1) := by
  refine k_metI (by decide) rfl rfl (Nat.le_of_ble_eq_true rfl) ?_
  intro p e s m below meth c ls Q A hx hb hml hts hown hK hN hA hP hD hS hl hsz hnm hret
  have hown : s.vm.findClass RX11 = some m.cls := hown
  have hf36 := hts (.fieldLink RX11 36 "PlumbLine" "now" "LPlumbLine$City;") (List.mem_of_getElem? (i := 1) rfl)
  have hf99 := hts (.fieldLink RX11 99 "PlumbLine$City" "lean" "[I") (List.mem_of_getElem? (i := 2) rfl)
  have hiX11 : ∀ w ∈ u_ws RX11 TX11 6, w ∈ wsX11_lean := fun w h => List.mem_cons_of_mem _ (List.mem_append_left _ (List.mem_append_right _ h))
  have hiX2 : ∀ w ∈ u_ws RX2 TX2 12, w ∈ wsX11_lean := fun w h => List.mem_cons_of_mem _ (List.mem_append_right _ h)
  replace hl : lv_has ls 2 [(0, .ref (aV 0)), (1, .int x1)] := hl
  have h := hsem
  clear hsem
  rw [S_PL_lean] at h
  refine lv_aload_n hx hb dX11_lean_0 rfl (lv_at hl 0 rfl) ?_
  refine va_get (D := D) (ci := 11) (v := .ref (aN 0)) (C := RX11) (T := TX11) (N := 6) hx hb hts hiX11 hown hK hP 0 rfl rfl 0 (by decide) hf36 (fun _ z => z) rfl dX11_lean_1 ?_
  refine lv_iload_n hx hb dX11_lean_4 rfl (lv_at hl 1 rfl) ?_
  refine k_callV (As := [.int x1]) (rest := []) (st1 := [.int (S_City_has x1 nS.1)]) (ws2 := (Wd25 cI aV aN aS aT aW aK v_hasImage nS.1 nS.2.1 nS.2.2.1 nS.2.2.2.1 nS.2.2.2.2.1 nS.2.2.2.2.2.1 nS.2.2.2.2.2.2.1 nS.2.2.2.2.2.2.2.2.2.1)) hx hb hml hown hts hK hN hA hP hD hS hl (c_City_has l D cI cM cS cJ aN aK s.heap.size x1 nS.1 nS.2.1 nS.2.2.1 nS.2.2.2.1 nS.2.2.2.2.1 nS.2.2.2.2.2.1 nS.2.2.2.2.2.2.1 rfl) gX11_lean_X2_has rfl kdV_X2_has 0 2 rfl rfl rfl [1] ⟨rfl, rfl⟩ ⟨Nat.le_of_ble_eq_true rfl, Nat.le_of_ble_eq_true rfl⟩ ⟨Nat.zero_le _, Nat.zero_le _⟩ rfl rfl (by decide +kernel) (k_rp rfl (by decide +kernel)) rfl rfl (Nat.le_of_ble_eq_true rfl) dX11_lean_5 rfl (fun H locs hP hD hS => ?_)
  refine lv_if_eq (tgt := 23) hx hb dX11_lean_8 (by decide) (fun c8 => ?_) (fun c8 => ?_)
  · have h := k_pos c8 h
    refine lv_ldc (v := 1000000001) hx hb hown (hts (.constant RX11 102 1000000001) (List.mem_of_getElem? (i := 3) rfl)) dX11_lean_23 ?_
    have h := Option.some.inj h; subst h
    exact hret _ _ _ _ hP hS dX11_lean_25
  · have h := k_neg c8 h
    refine lv_aload_n hx hb dX11_lean_11 rfl (lv_at hl 0 rfl) ?_
    refine va_get (D := D) (ci := 11) (v := .ref (aN 0)) (C := RX11) (T := TX11) (N := 6) hx hb hts hiX11 hown hK hP 0 rfl rfl 0 (by decide) hf36 (fun _ z => z) rfl dX11_lean_12 ?_
    refine va_get (D := D) (ci := 2) (v := .ref (aN 3)) (C := RX2) (T := TX2) (N := 12) hx hb hts hiX2 hown hK hP 1 rfl rfl 2 (by decide) hf99 (fun _ z => z) rfl dX11_lean_15 ?_
    refine lv_iload_n hx hb dX11_lean_18 rfl (lv_at hl 1 rfl) ?_
    obtain ⟨g19, h⟩ := k_guard h
    refine va_iald hx hb hK hP 2 0 rfl rfl g19 dX11_lean_19 ?_
    refine lv_goto (tgt := 25) hx hb dX11_lean_20 (by decide) ?_
    have h := Option.some.inj h; subst h
    exact hret _ _ _ _ hP hS dX11_lean_25
abbrev Wd26 (cI : ClassId) (cM : ClassId) (aV : Nat → Nat) (aN : Nat → Nat) (aS : Nat → Nat) (aT : Nat → Nat) (aW : Nat → Nat) (aK : Nat → Nat) (v_hasImage : Int32) (n_men : Int32) (n_propped : Int32) (n_place : Int32) (n_swings : Int32) (n_crashes : Int32) (n_day : Int32) (n_crashedToday : Int32) (n_kind : Nat → Int32) (n_figure : Nat → Int32) (n_lean : Nat → Int32) : va_W := [((aV 0), .inr (11, [.ref (aN 0), .ref (aS 0), .ref (aT 0), .ref (aW 0), .ref (aV 1), .int v_hasImage])), ((aN 0), .inr (2, [.ref (aN 1), .ref (aN 2), .ref (aN 3), .int n_men, .int n_propped, .int n_place, .int n_swings, .int n_crashes, .int n_day, .int n_crashedToday, .ref (aK 8), .ref (aN 4)])), ((aN 1), .inl (cI, 8, .inl n_kind)), ((aN 2), .inl (cI, 8, .inl n_figure)), ((aN 3), .inl (cI, 8, .inl n_lean)), ((aK 8), .inl (cM, 8, .inr (.inr (.inr (.inr (fun k => some (aK k))))))), ((aK 0), .inr (4, [])), ((aK 1), .inr (0, [])), ((aK 2), .inr (7, [])), ((aK 3), .inr (3, [])), ((aK 4), .inr (1, [])), ((aK 5), .inr (8, [])), ((aK 6), .inr (10, [])), ((aK 7), .inr (6, []))]
abbrev rm_X11_man : Room := { frames := 4, cells := 0, slots := 0, locals := 106 }
set_option maxHeartbeats 4000000 in
set_option maxRecDepth 100000 in
theorem c_PL_man (l : Launch) (D : va_G) (cI cM cS cJ : ClassId) (aV : Nat → Nat) (aN : Nat → Nat) (aS : Nat → Nat) (aT : Nat → Nat) (aW : Nat → Nat) (aK : Nat → Nat) (sz : Nat) (x1 : Int32) (x2 : Int32) (v_hasImage : Int32) (nS : CS) {o : (Int32)} (hsem : S_PL_man x1 x2 nS = some o) : kMet l yX11_man wsX11_man rm_X11_man [.ref (aV 0), .int x1, .int x2] D (kT cI cM cS cJ) (Wd26 cI cM aV aN aS aT aW aK v_hasImage nS.1 nS.2.1 nS.2.2.1 nS.2.2.2.1 nS.2.2.2.2.1 nS.2.2.2.2.2.1 nS.2.2.2.2.2.2.1 nS.2.2.2.2.2.2.2.1 nS.2.2.2.2.2.2.2.2.1 nS.2.2.2.2.2.2.2.2.2.1) sz (some (.int o)) (Wd26 cI cM aV aN aS aT aW aK v_hasImage nS.1 nS.2.1 nS.2.2.1 nS.2.2.2.1 nS.2.2.2.2.1 nS.2.2.2.2.2.1 nS.2.2.2.2.2.2.1 nS.2.2.2.2.2.2.2.1 nS.2.2.2.2.2.2.2.2.1 nS.2.2.2.2.2.2.2.2.2.1) := by
  refine k_metI (by decide) rfl rfl (Nat.le_of_ble_eq_true rfl) ?_
  intro p e s m below meth c ls Q A hx hb hml hts hown hK hN hA hP hD hS hl hsz hnm hret
  have hown : s.vm.findClass RX11 = some m.cls := hown
  have hf36 := hts (.fieldLink RX11 36 "PlumbLine" "now" "LPlumbLine$City;") (List.mem_of_getElem? (i := 1) rfl)
  have hf103 := hts (.fieldLink RX11 103 "PlumbLine$City" "kind" "[I") (List.mem_of_getElem? (i := 2) rfl)
  have hf106 := hts (.fieldLink RX11 106 "PlumbLine$City" "figure" "[I") (List.mem_of_getElem? (i := 3) rfl)
  have hiX11 : ∀ w ∈ u_ws RX11 TX11 6, w ∈ wsX11_man := fun w h => List.mem_cons_of_mem _ (List.mem_append_left _ (List.mem_append_right _ h))
  have hiX2 : ∀ w ∈ u_ws RX2 TX2 12, w ∈ wsX11_man := fun w h => List.mem_cons_of_mem _ (List.mem_append_right _ h)
  replace hl : lv_has ls 3 [(0, .ref (aV 0)), (1, .int x1), (2, .int x2)] := hl
  have h := hsem
  clear hsem
  rw [S_PL_man] at h
  refine lv_aload_n hx hb dX11_man_0 rfl (lv_at hl 0 rfl) ?_
  refine va_get (D := D) (ci := 11) (v := .ref (aN 0)) (C := RX11) (T := TX11) (N := 6) hx hb hts hiX11 hown hK hP 0 rfl rfl 0 (by decide) hf36 (fun _ z => z) rfl dX11_man_1 ?_
  refine lv_iload_n hx hb dX11_man_4 rfl (lv_at hl 1 rfl) ?_
  refine k_callV (As := [.int x1]) (rest := []) (st1 := [.int (S_City_has x1 nS.1)]) (ws2 := (Wd26 cI cM aV aN aS aT aW aK v_hasImage nS.1 nS.2.1 nS.2.2.1 nS.2.2.2.1 nS.2.2.2.2.1 nS.2.2.2.2.2.1 nS.2.2.2.2.2.2.1 nS.2.2.2.2.2.2.2.1 nS.2.2.2.2.2.2.2.2.1 nS.2.2.2.2.2.2.2.2.2.1)) hx hb hml hown hts hK hN hA hP hD hS hl (c_City_has l D cI cM cS cJ aN aK s.heap.size x1 nS.1 nS.2.1 nS.2.2.1 nS.2.2.2.1 nS.2.2.2.2.1 nS.2.2.2.2.2.1 nS.2.2.2.2.2.2.1 rfl) gX11_man_X2_has rfl kdV_X2_has 0 2 rfl rfl rfl [1] ⟨rfl, rfl⟩ ⟨Nat.le_of_ble_eq_true rfl, Nat.le_of_ble_eq_true rfl⟩ ⟨Nat.zero_le _, Nat.zero_le _⟩ rfl rfl (by decide +kernel) (k_rp rfl (by decide +kernel)) rfl rfl (Nat.le_of_ble_eq_true rfl) dX11_man_5 rfl (fun H locs hP hD hS => ?_)
  refine lv_if_ne (tgt := 13) hx hb dX11_man_8 (by decide) (fun c8 => ?_) (fun c8 => ?_)
  · have h := k_neg c8 h
    refine lv_iload_n hx hb dX11_man_13 rfl (lv_at hl 2 rfl) ?_
    by_cases s14_0 : x2 = 0
    · refine k_tblI (tgt := 52) (v := 0) hx hb dX11_man_14 s14_0 (by decide) (by decide) rfl (by decide) ?_
      have h := k_pos s14_0 h
      refine lv_aload_n hx hb dX11_man_52 rfl (lv_at hl 0 rfl) ?_
      refine va_get (D := D) (ci := 11) (v := .ref (aN 0)) (C := RX11) (T := TX11) (N := 6) hx hb hts hiX11 hown hK hP 0 rfl rfl 0 (by decide) hf36 (fun _ z => z) rfl dX11_man_53 ?_
      refine va_get (D := D) (ci := 2) (v := .ref (aN 1)) (C := RX2) (T := TX2) (N := 12) hx hb hts hiX2 hown hK hP 1 rfl rfl 0 (by decide) hf103 (fun _ z => z) rfl dX11_man_56 ?_
      refine lv_iload_n hx hb dX11_man_59 rfl (lv_at hl 1 rfl) ?_
      obtain ⟨g60, h⟩ := k_guard h
      refine va_iald hx hb hK hP 2 0 rfl rfl g60 dX11_man_60 ?_
      have h := Option.some.inj h; subst h
      exact hret _ _ _ _ hP hS dX11_man_61
    · have h := k_neg s14_0 h
      by_cases s14_1 : x2 = 1
      · refine k_tblI (tgt := 62) (v := 1) hx hb dX11_man_14 s14_1 (by decide) (by decide) rfl (by decide) ?_
        have h := k_pos s14_1 h
        refine lv_aload_n hx hb dX11_man_62 rfl (lv_at hl 0 rfl) ?_
        refine va_get (D := D) (ci := 11) (v := .ref (aN 0)) (C := RX11) (T := TX11) (N := 6) hx hb hts hiX11 hown hK hP 0 rfl rfl 0 (by decide) hf36 (fun _ z => z) rfl dX11_man_63 ?_
        refine va_get (D := D) (ci := 2) (v := .ref (aN 2)) (C := RX2) (T := TX2) (N := 12) hx hb hts hiX2 hown hK hP 1 rfl rfl 1 (by decide) hf106 (fun _ z => z) rfl dX11_man_66 ?_
        refine lv_iload_n hx hb dX11_man_69 rfl (lv_at hl 1 rfl) ?_
        obtain ⟨g70, h⟩ := k_guard h
        refine va_iald hx hb hK hP 3 0 rfl rfl g70 dX11_man_70 ?_
        have h := Option.some.inj h; subst h
        exact hret _ _ _ _ hP hS dX11_man_71
      · have h := k_neg s14_1 h
        by_cases s14_2 : x2 = 2
        · refine k_tblI (tgt := 72) (v := 2) hx hb dX11_man_14 s14_2 (by decide) (by decide) rfl (by decide) ?_
          have h := k_pos s14_2 h
          refine lv_aload_n hx hb dX11_man_72 rfl (lv_at hl 0 rfl) ?_
          refine va_get (D := D) (ci := 11) (v := .ref (aN 0)) (C := RX11) (T := TX11) (N := 6) hx hb hts hiX11 hown hK hP 0 rfl rfl 0 (by decide) hf36 (fun _ z => z) rfl dX11_man_73 ?_
          refine lv_iload_n hx hb dX11_man_76 rfl (lv_at hl 1 rfl) ?_
          refine k_callV (As := [.int x1]) (rest := []) (st1 := [.int (S_City_isPropped x1 nS.2.1)]) (ws2 := (Wd26 cI cM aV aN aS aT aW aK v_hasImage nS.1 nS.2.1 nS.2.2.1 nS.2.2.2.1 nS.2.2.2.2.1 nS.2.2.2.2.2.1 nS.2.2.2.2.2.2.1 nS.2.2.2.2.2.2.2.1 nS.2.2.2.2.2.2.2.2.1 nS.2.2.2.2.2.2.2.2.2.1)) hx hb hml hown hts hK hN hA hP hD hS hl (c_City_isPropped l D cI cM cS cJ aN aK H.size x1 nS.1 nS.2.1 nS.2.2.1 nS.2.2.2.1 nS.2.2.2.2.1 nS.2.2.2.2.2.1 nS.2.2.2.2.2.2.1 rfl) gX11_man_X2_isPropped rfl kdV_X2_isPropped 0 2 rfl rfl rfl [1] ⟨rfl, rfl⟩ ⟨Nat.le_of_ble_eq_true rfl, Nat.le_of_ble_eq_true rfl⟩ ⟨Nat.zero_le _, Nat.zero_le _⟩ rfl rfl (by decide +kernel) (k_rp rfl (by decide +kernel)) rfl rfl (Nat.le_of_ble_eq_true rfl) dX11_man_77 rfl (fun H locs hP hD hS => ?_)
          refine lv_if_eq (tgt := 87) hx hb dX11_man_80 (by decide) (fun c80 => ?_) (fun c80 => ?_)
          · have h := k_pos c80 h
            refine lv_iconst (v := 0) hx hb dX11_man_87 (by decide) ?_
            have h := Option.some.inj h; subst h
            exact hret _ _ _ _ hP hS dX11_man_88
          · have h := k_neg c80 h
            refine lv_iconst (v := 1) hx hb dX11_man_83 (by decide) ?_
            refine lv_goto (tgt := 88) hx hb dX11_man_84 (by decide) ?_
            have h := Option.some.inj h; subst h
            exact hret _ _ _ _ hP hS dX11_man_88
        · have h := k_neg s14_2 h
          by_cases s14_3 : x2 = 3
          · refine k_tblI (tgt := 89) (v := 3) hx hb dX11_man_14 s14_3 (by decide) (by decide) rfl (by decide) ?_
            have h := k_pos s14_3 h
            refine lv_aload_n hx hb dX11_man_89 rfl (lv_at hl 0 rfl) ?_
            refine va_get (D := D) (ci := 11) (v := .ref (aN 0)) (C := RX11) (T := TX11) (N := 6) hx hb hts hiX11 hown hK hP 0 rfl rfl 0 (by decide) hf36 (fun _ z => z) rfl dX11_man_90 ?_
            refine lv_iload_n hx hb dX11_man_93 rfl (lv_at hl 1 rfl) ?_
            obtain ⟨r94, g94, h⟩ := k_bind h
            refine k_callV (As := [.int x1]) (rest := []) (st1 := [.int r94]) (ws2 := (Wd26 cI cM aV aN aS aT aW aK v_hasImage nS.1 nS.2.1 nS.2.2.1 nS.2.2.2.1 nS.2.2.2.2.1 nS.2.2.2.2.2.1 nS.2.2.2.2.2.2.1 nS.2.2.2.2.2.2.2.1 nS.2.2.2.2.2.2.2.2.1 nS.2.2.2.2.2.2.2.2.2.1)) hx hb hml hown hts hK hN hA hP hD hS hl (c_City_isUpright l D cI cM cS cJ aN aK H.size x1 nS.1 nS.2.1 nS.2.2.1 nS.2.2.2.1 nS.2.2.2.2.1 nS.2.2.2.2.2.1 nS.2.2.2.2.2.2.1 nS.2.2.2.2.2.2.2.1 nS.2.2.2.2.2.2.2.2.1 nS.2.2.2.2.2.2.2.2.2.1 g94) gX11_man_X2_isUpright rfl kdV_X2_isUpright 0 2 rfl rfl rfl [1, 2, 3, 4, 5, 6, 7, 8, 9, 10, 11, 12, 13] ⟨rfl, rfl⟩ ⟨Nat.le_of_ble_eq_true rfl, Nat.le_of_ble_eq_true rfl⟩ ⟨Nat.zero_le _, Nat.zero_le _⟩ rfl rfl (by decide +kernel) (k_rp rfl (by decide +kernel)) rfl rfl (Nat.le_of_ble_eq_true rfl) dX11_man_94 rfl (fun H locs hP hD hS => ?_)
            refine lv_if_eq (tgt := 104) hx hb dX11_man_97 (by decide) (fun c97 => ?_) (fun c97 => ?_)
            · have h := k_pos c97 h
              refine lv_iconst (v := 0) hx hb dX11_man_104 (by decide) ?_
              have h := Option.some.inj h; subst h
              exact hret _ _ _ _ hP hS dX11_man_105
            · have h := k_neg c97 h
              refine lv_iconst (v := 1) hx hb dX11_man_100 (by decide) ?_
              refine lv_goto (tgt := 105) hx hb dX11_man_101 (by decide) ?_
              have h := Option.some.inj h; subst h
              exact hret _ _ _ _ hP hS dX11_man_105
          · have h := k_neg s14_3 h
            by_cases s14_4 : x2 = 4
            · refine k_tblI (tgt := 106) (v := 4) hx hb dX11_man_14 s14_4 (by decide) (by decide) rfl (by decide) ?_
              have h := k_pos s14_4 h
              refine lv_aload_n hx hb dX11_man_106 rfl (lv_at hl 0 rfl) ?_
              refine va_get (D := D) (ci := 11) (v := .ref (aN 0)) (C := RX11) (T := TX11) (N := 6) hx hb hts hiX11 hown hK hP 0 rfl rfl 0 (by decide) hf36 (fun _ z => z) rfl dX11_man_107 ?_
              refine lv_iload_n hx hb dX11_man_110 rfl (lv_at hl 1 rfl) ?_
              obtain ⟨r111, g111, h⟩ := k_bind h
              refine k_callV (As := [.int x1]) (rest := []) (st1 := [.int r111]) (ws2 := (Wd26 cI cM aV aN aS aT aW aK v_hasImage nS.1 nS.2.1 nS.2.2.1 nS.2.2.2.1 nS.2.2.2.2.1 nS.2.2.2.2.2.1 nS.2.2.2.2.2.2.1 nS.2.2.2.2.2.2.2.1 nS.2.2.2.2.2.2.2.2.1 nS.2.2.2.2.2.2.2.2.2.1)) hx hb hml hown hts hK hN hA hP hD hS hl (c_City_discountOf l D cI cM cS cJ aN aK H.size x1 nS.1 nS.2.1 nS.2.2.1 nS.2.2.2.1 nS.2.2.2.2.1 nS.2.2.2.2.2.1 nS.2.2.2.2.2.2.1 nS.2.2.2.2.2.2.2.1 nS.2.2.2.2.2.2.2.2.1 nS.2.2.2.2.2.2.2.2.2.1 g111) gX11_man_X2_discountOf rfl kdV_X2_discountOf 0 2 rfl rfl rfl [1, 2, 3, 4, 5, 6, 7, 8, 9, 10, 11, 12, 13] ⟨rfl, rfl⟩ ⟨Nat.le_of_ble_eq_true rfl, Nat.le_of_ble_eq_true rfl⟩ ⟨Nat.zero_le _, Nat.zero_le _⟩ rfl rfl (by decide +kernel) (k_rp rfl (by decide +kernel)) rfl rfl (Nat.le_of_ble_eq_true rfl) dX11_man_111 rfl (fun H locs hP hD hS => ?_)
              have h := Option.some.inj h; subst h
              exact hret _ _ _ _ hP hS dX11_man_114
            · have h := k_neg s14_4 h
              by_cases s14_5 : x2 = 5
              · refine k_tblI (tgt := 115) (v := 5) hx hb dX11_man_14 s14_5 (by decide) (by decide) rfl (by decide) ?_
                have h := k_pos s14_5 h
                refine lv_aload_n hx hb dX11_man_115 rfl (lv_at hl 0 rfl) ?_
                refine va_get (D := D) (ci := 11) (v := .ref (aN 0)) (C := RX11) (T := TX11) (N := 6) hx hb hts hiX11 hown hK hP 0 rfl rfl 0 (by decide) hf36 (fun _ z => z) rfl dX11_man_116 ?_
                refine lv_iload_n hx hb dX11_man_119 rfl (lv_at hl 1 rfl) ?_
                obtain ⟨r120, g120, h⟩ := k_bind h
                refine k_callV (As := [.int x1]) (rest := []) (st1 := [.int r120]) (ws2 := (Wd26 cI cM aV aN aS aT aW aK v_hasImage nS.1 nS.2.1 nS.2.2.1 nS.2.2.2.1 nS.2.2.2.2.1 nS.2.2.2.2.2.1 nS.2.2.2.2.2.2.1 nS.2.2.2.2.2.2.2.1 nS.2.2.2.2.2.2.2.2.1 nS.2.2.2.2.2.2.2.2.2.1)) hx hb hml hown hts hK hN hA hP hD hS hl (c_City_trustedBy l D cI cM cS cJ aN aK H.size x1 nS.1 nS.2.1 nS.2.2.1 nS.2.2.2.1 nS.2.2.2.2.1 nS.2.2.2.2.2.1 nS.2.2.2.2.2.2.1 nS.2.2.2.2.2.2.2.2.2.1 g120) gX11_man_X2_trustedBy rfl kdV_X2_trustedBy 0 2 rfl rfl rfl [1, 4] ⟨rfl, rfl⟩ ⟨Nat.le_of_ble_eq_true rfl, Nat.le_of_ble_eq_true rfl⟩ ⟨Nat.zero_le _, Nat.zero_le _⟩ rfl rfl (by decide +kernel) (k_rp rfl (by decide +kernel)) rfl rfl (Nat.le_of_ble_eq_true rfl) dX11_man_120 rfl (fun H locs hP hD hS => ?_)
                have h := Option.some.inj h; subst h
                exact hret _ _ _ _ hP hS dX11_man_123
              · have h := k_neg s14_5 h
                refine lv_tableOut (tgt := 124) hx hb dX11_man_14 (k_out [0, 1, 2, 3, 4, 5] (by decide) (List.forall_mem_cons.mpr ⟨s14_0, (List.forall_mem_cons.mpr ⟨s14_1, (List.forall_mem_cons.mpr ⟨s14_2, (List.forall_mem_cons.mpr ⟨s14_3, (List.forall_mem_cons.mpr ⟨s14_4, (List.forall_mem_cons.mpr ⟨s14_5, (fun _ z => absurd z List.not_mem_nil)⟩)⟩)⟩)⟩)⟩)⟩)) (by decide) ?_
                refine lv_iconst (v := (-1)) hx hb dX11_man_124 (by decide) ?_
                have h := Option.some.inj h; subst h
                exact hret _ _ _ _ hP hS dX11_man_125
  · have h := k_pos c8 h
    refine lv_iconst (v := (-1)) hx hb dX11_man_11 (by decide) ?_
    have h := Option.some.inj h; subst h
    exact hret _ _ _ _ hP hS dX11_man_12
abbrev rm_X11_refusalOfKind : Room := { frames := 2, cells := 0, slots := 0, locals := 42 }
set_option maxHeartbeats 4000000 in
set_option maxRecDepth 100000 in
theorem c_PL_refusalOfKind (l : Launch) (D : va_G) (cI cM cS cJ : ClassId) (aV : Nat → Nat) (aN : Nat → Nat) (aS : Nat → Nat) (aT : Nat → Nat) (aW : Nat → Nat) (aK : Nat → Nat) (aH : Nat → Nat → Nat) (dn : Nat) (sz : Nat) (x1 : Int32) (v_hasImage : Int32) (d_kind : Int32) (d_figure : Int32) (d_sort : Int32) (d_size : Int32) (d_held : Int32) (hdn : ¬ (x1 < 0 ∨ 8 ≤ x1.toNatClampNeg) → x1.toNatClampNeg = dn) {o : (Int32)} (hsem : S_PL_refusalOfKind x1 d_held = some o) : kMet l yX11_refusalOfKind wsX11_refusalOfKind rm_X11_refusalOfKind [.ref (aV 0), .int x1] D (kT cI cM cS cJ) (Wd23 cS aV aN aS aT aW aK aH dn v_hasImage d_kind d_figure d_sort d_size d_held) sz (some (.int o)) (Wd23 cS aV aN aS aT aW aK aH dn v_hasImage d_kind d_figure d_sort d_size d_held) := by
  refine k_metI (by decide) rfl rfl (Nat.le_of_ble_eq_true rfl) ?_
  intro p e s m below meth c ls Q A hx hb hml hts hown hK hN hA hP hD hS hl hsz hnm hret
  have hown : s.vm.findClass RX11 = some m.cls := hown
  have hf59 := hts (.fieldLink RX11 59 "PlumbLine" "shelves" "[LPlumbLine$Shelf;") (List.mem_of_getElem? (i := 1) rfl)
  have hiX11 : ∀ w ∈ u_ws RX11 TX11 6, w ∈ wsX11_refusalOfKind := fun w h => List.mem_cons_of_mem _ (List.mem_append_left _ (List.mem_append_right _ h))
  replace hl : lv_has ls 2 [(0, .ref (aV 0)), (1, .int x1)] := hl
  have h := hsem
  clear hsem
  rw [S_PL_refusalOfKind] at h
  refine lv_iload_n hx hb dX11_refusalOfKind_0 rfl (lv_at hl 1 rfl) ?_
  obtain ⟨r1, g1, h⟩ := k_bind h
  refine k_callS (As := [.int x1]) (rest := []) (st1 := [.int r1]) (ws2 := (Wd23 cS aV aN aS aT aW aK aH dn v_hasImage d_kind d_figure d_sort d_size d_held)) hx hb hml hown hts hK hN hA hP hD hS hl (c_PL_isShelf l D cI cM cS cJ s.heap.size x1 g1) gX11_refusalOfKind_X11_isShelf rfl kdS_X11_isShelf [] ⟨rfl, rfl⟩ ⟨Nat.le_of_ble_eq_true rfl, Nat.le_of_ble_eq_true rfl⟩ ⟨Nat.zero_le _, Nat.zero_le _⟩ rfl rfl (by decide +kernel) (k_rp rfl (by decide +kernel)) rfl rfl (Nat.le_of_ble_eq_true rfl) dX11_refusalOfKind_1 rfl (fun H locs hP hD hS => ?_)
  refine lv_if_ne (tgt := 9) hx hb dX11_refusalOfKind_4 (by decide) (fun c4 => ?_) (fun c4 => ?_)
  · have h := k_neg c4 h
    refine lv_aload_n hx hb dX11_refusalOfKind_9 rfl (lv_at hl 0 rfl) ?_
    refine va_get (D := D) (ci := 11) (v := .ref (aV 1)) (C := RX11) (T := TX11) (N := 6) hx hb hts hiX11 hown hK hP 0 rfl rfl 4 (by decide) hf59 (fun _ z => z) rfl dX11_refusalOfKind_10 ?_
    refine lv_iload_n hx hb dX11_refusalOfKind_13 rfl (lv_at hl 1 rfl) ?_
    obtain ⟨g14, h⟩ := k_guard h
    refine k_aldR (f := fun k => aH k 0) hx hb hK hP 1 2 rfl rfl g14 dX11_refusalOfKind_14 ?_
    rw [show x1.toNatClampNeg = dn from hdn g14]
    refine k_callV (As := []) (rest := []) (st1 := [.int (S_Shelf_isEmpty d_held)]) (ws2 := (Wd23 cS aV aN aS aT aW aK aH dn v_hasImage d_kind d_figure d_sort d_size d_held)) hx hb hml hown hts hK hN hA hP hD hS hl (c_Shelf_isEmpty l D cI cM cS cJ (aH dn) aK H.size d_kind d_figure d_sort d_size d_held rfl) gX11_refusalOfKind_X9_isEmpty rfl kdV_X9_isEmpty 0 9 rfl rfl rfl [2] ⟨rfl, rfl⟩ ⟨Nat.le_of_ble_eq_true rfl, Nat.le_of_ble_eq_true rfl⟩ ⟨Nat.zero_le _, Nat.zero_le _⟩ rfl rfl (by decide +kernel) (k_rp rfl (by decide +kernel)) rfl rfl (Nat.le_of_ble_eq_true rfl) dX11_refusalOfKind_15 rfl (fun H locs hP hD hS => ?_)
    refine lv_if_eq (tgt := 24) hx hb dX11_refusalOfKind_18 (by decide) (fun c18 => ?_) (fun c18 => ?_)
    · have h := k_pos c18 h
      refine lv_aload_n hx hb dX11_refusalOfKind_24 rfl (lv_at hl 0 rfl) ?_
      refine va_get (D := D) (ci := 11) (v := .ref (aV 1)) (C := RX11) (T := TX11) (N := 6) hx hb hts hiX11 hown hK hP 0 rfl rfl 4 (by decide) hf59 (fun _ z => z) rfl dX11_refusalOfKind_25 ?_
      refine lv_iload_n hx hb dX11_refusalOfKind_28 rfl (lv_at hl 1 rfl) ?_
      refine k_aldR (f := fun k => aH k 0) hx hb hK hP 1 2 rfl rfl g14 dX11_refusalOfKind_29 ?_
      rw [show x1.toNatClampNeg = dn from hdn g14]
      refine k_callV (As := []) (rest := []) (st1 := [.int (S_Shelf_hasRow d_held)]) (ws2 := (Wd23 cS aV aN aS aT aW aK aH dn v_hasImage d_kind d_figure d_sort d_size d_held)) hx hb hml hown hts hK hN hA hP hD hS hl (c_Shelf_hasRow l D cI cM cS cJ (aH dn) aK H.size d_kind d_figure d_sort d_size d_held rfl) gX11_refusalOfKind_X9_hasRow rfl kdV_X9_hasRow 0 9 rfl rfl rfl [2] ⟨rfl, rfl⟩ ⟨Nat.le_of_ble_eq_true rfl, Nat.le_of_ble_eq_true rfl⟩ ⟨Nat.zero_le _, Nat.zero_le _⟩ rfl rfl (by decide +kernel) (k_rp rfl (by decide +kernel)) rfl rfl (Nat.le_of_ble_eq_true rfl) dX11_refusalOfKind_30 rfl (fun H locs hP hD hS => ?_)
      refine lv_if_eq (tgt := 41) hx hb dX11_refusalOfKind_33 (by decide) (fun c33 => ?_) (fun c33 => ?_)
      · have h := k_pos c33 h
        refine lv_iconst (v := 0) hx hb dX11_refusalOfKind_41 (by decide) ?_
        have h := Option.some.inj h; subst h
        exact hret _ _ _ _ hP hS dX11_refusalOfKind_42
      · have h := k_neg c33 h
        refine lv_bipush (v := (-12)) hx hb dX11_refusalOfKind_36 (by decide) ?_
        refine lv_goto (tgt := 42) hx hb dX11_refusalOfKind_38 (by decide) ?_
        have h := Option.some.inj h; subst h
        exact hret _ _ _ _ hP hS dX11_refusalOfKind_42
    · have h := k_neg c18 h
      refine lv_bipush (v := (-11)) hx hb dX11_refusalOfKind_21 (by decide) ?_
      have h := Option.some.inj h; subst h
      exact hret _ _ _ _ hP hS dX11_refusalOfKind_23
  · have h := k_pos c4 h
    refine lv_iconst (v := (-1)) hx hb dX11_refusalOfKind_7 (by decide) ?_
    have h := Option.some.inj h; subst h
    exact hret _ _ _ _ hP hS dX11_refusalOfKind_8
abbrev Wd27 (cI : ClassId) (cS : ClassId) (aV : Nat → Nat) (aN : Nat → Nat) (aS : Nat → Nat) (aT : Nat → Nat) (aW : Nat → Nat) (aK : Nat → Nat) (aH : Nat → Nat → Nat) (dn : Nat) (v_hasImage : Int32) (n_men : Int32) (n_propped : Int32) (n_place : Int32) (n_swings : Int32) (n_crashes : Int32) (n_day : Int32) (n_crashedToday : Int32) (n_kind : Nat → Int32) (n_figure : Nat → Int32) (n_lean : Nat → Int32) (d_kind : Int32) (d_figure : Int32) (d_sort : Int32) (d_size : Int32) (d_held : Int32) : va_W := [((aV 0), .inr (11, [.ref (aN 0), .ref (aS 0), .ref (aT 0), .ref (aW 0), .ref (aV 1), .int v_hasImage])), ((aV 1), .inl (cS, 8, .inr (.inr (.inr (.inr (fun k => some (aH k 0))))))), ((aN 0), .inr (2, [.ref (aN 1), .ref (aN 2), .ref (aN 3), .int n_men, .int n_propped, .int n_place, .int n_swings, .int n_crashes, .int n_day, .int n_crashedToday, .ref (aK 8), .ref (aN 4)])), ((aN 1), .inl (cI, 8, .inl n_kind)), ((aN 2), .inl (cI, 8, .inl n_figure)), ((aN 3), .inl (cI, 8, .inl n_lean)), (((aH dn) 0), .inr (9, [.ref ((aH dn) 1), .int d_kind, .int d_figure, .int d_sort, .int d_size, .int d_held, .ref (aK 8)]))]
theorem kdV_X11_refusalOfKind : yX11_refusalOfKind.cls = RX11 ∧ yX11_refusalOfKind.cls ≠ "java/lang/invoke/MethodHandle" ∧ yX11_refusalOfKind.cls ≠ "java/lang/invoke/VarHandle" ∧ (parseMethodDescriptor yX11_refusalOfKind.desc).map (fun d => d.parameters.length) = some 1 := by decide +kernel
abbrev rm_X11_comes : Room := { frames := 3, cells := 0, slots := 0, locals := 63 }
set_option maxHeartbeats 4000000 in
set_option maxRecDepth 100000 in
theorem c_PL_comes (l : Launch) (D : va_G) (cI cM cS cJ : ClassId) (aV : Nat → Nat) (aN : Nat → Nat) (aS : Nat → Nat) (aT : Nat → Nat) (aW : Nat → Nat) (aK : Nat → Nat) (aH : Nat → Nat → Nat) (dn : Nat) (sz : Nat) (x1 : Int32) (x2 : Int32) (v_hasImage : Int32) (nS : CS) (d_kind : Int32) (d_figure : Int32) (d_sort : Int32) (d_size : Int32) (d_held : Int32) (hdn : ¬ (x1 < 0 ∨ 8 ≤ x1.toNatClampNeg) → x1.toNatClampNeg = dn) {o : (Int32) × (CS)} (hsem : S_PL_comes x1 x2 nS d_kind d_figure d_held = some o) : kMet l yX11_comes wsX11_comes rm_X11_comes [.ref (aV 0), .int x1, .int x2] D (kT cI cM cS cJ) (Wd27 cI cS aV aN aS aT aW aK aH dn v_hasImage nS.1 nS.2.1 nS.2.2.1 nS.2.2.2.1 nS.2.2.2.2.1 nS.2.2.2.2.2.1 nS.2.2.2.2.2.2.1 nS.2.2.2.2.2.2.2.1 nS.2.2.2.2.2.2.2.2.1 nS.2.2.2.2.2.2.2.2.2.1 d_kind d_figure d_sort d_size d_held) sz (some (.int o.1)) (Wd27 cI cS aV aN aS aT aW aK aH dn v_hasImage o.2.1 o.2.2.1 o.2.2.2.1 o.2.2.2.2.1 o.2.2.2.2.2.1 o.2.2.2.2.2.2.1 o.2.2.2.2.2.2.2.1 o.2.2.2.2.2.2.2.2.1 o.2.2.2.2.2.2.2.2.2.1 o.2.2.2.2.2.2.2.2.2.2.1 d_kind d_figure d_sort d_size d_held) := by
  refine k_metI (by decide) rfl rfl (Nat.le_of_ble_eq_true rfl) ?_
  intro p e s m below meth c ls Q A hx hb hml hts hown hK hN hA hP hD hS hl hsz hnm hret
  have hown : s.vm.findClass RX11 = some m.cls := hown
  have hf59 := hts (.fieldLink RX11 59 "PlumbLine" "shelves" "[LPlumbLine$Shelf;") (List.mem_of_getElem? (i := 1) rfl)
  have hf36 := hts (.fieldLink RX11 36 "PlumbLine" "now" "LPlumbLine$City;") (List.mem_of_getElem? (i := 2) rfl)
  have hf128 := hts (.fieldLink RX11 128 "PlumbLine$Shelf" "kind" "I") (List.mem_of_getElem? (i := 3) rfl)
  have hf130 := hts (.fieldLink RX11 130 "PlumbLine$Shelf" "figure" "I") (List.mem_of_getElem? (i := 4) rfl)
  have hf135 := hts (.fieldLink RX11 135 "PlumbLine$City" "men" "I") (List.mem_of_getElem? (i := 5) rfl)
  have hiX11 : ∀ w ∈ u_ws RX11 TX11 6, w ∈ wsX11_comes := fun w h => List.mem_cons_of_mem _ (List.mem_append_left _ (List.mem_append_left _ (List.mem_append_right _ h)))
  have hiX2 : ∀ w ∈ u_ws RX2 TX2 12, w ∈ wsX11_comes := fun w h => List.mem_cons_of_mem _ (List.mem_append_right _ h)
  have hiX9 : ∀ w ∈ u_ws RX9 TX9 7, w ∈ wsX11_comes := fun w h => List.mem_cons_of_mem _ (List.mem_append_left _ (List.mem_append_right _ h))
  replace hl : lv_has ls 5 [(0, .ref (aV 0)), (1, .int x1), (2, .int x2)] := hl
  have h := hsem
  clear hsem
  rw [S_PL_comes] at h
  refine lv_iload_n hx hb dX11_comes_0 rfl (lv_at hl 2 rfl) ?_
  refine lv_bipush (v := (-45)) hx hb dX11_comes_1 (by decide) ?_
  refine lv_bipush (v := 45) hx hb dX11_comes_3 (by decide) ?_
  refine k_callS (As := [.int x2, .int (-45), .int 45]) (rest := []) (st1 := [.int (S_PL_isIn x2 (-45) 45)]) (ws2 := (Wd27 cI cS aV aN aS aT aW aK aH dn v_hasImage nS.1 nS.2.1 nS.2.2.1 nS.2.2.2.1 nS.2.2.2.2.1 nS.2.2.2.2.2.1 nS.2.2.2.2.2.2.1 nS.2.2.2.2.2.2.2.1 nS.2.2.2.2.2.2.2.2.1 nS.2.2.2.2.2.2.2.2.2.1 d_kind d_figure d_sort d_size d_held)) hx hb hml hown hts hK hN hA hP hD hS hl (c_PL_isIn l D cI cM cS cJ s.heap.size x2 (-45) 45 rfl) gX11_comes_X11_isIn rfl kdS_X11_isIn [] ⟨rfl, rfl⟩ ⟨Nat.le_of_ble_eq_true rfl, Nat.le_of_ble_eq_true rfl⟩ ⟨Nat.zero_le _, Nat.zero_le _⟩ rfl rfl (by decide +kernel) (k_rp rfl (by decide +kernel)) rfl rfl (Nat.le_of_ble_eq_true rfl) dX11_comes_5 rfl (fun H locs hP hD hS => ?_)
  refine lv_if_ne (tgt := 13) hx hb dX11_comes_8 (by decide) (fun c8 => ?_) (fun c8 => ?_)
  · have h := k_neg c8 h
    refine lv_aload_n hx hb dX11_comes_13 rfl (lv_at hl 0 rfl) ?_
    refine lv_iload_n hx hb dX11_comes_14 rfl (lv_at hl 1 rfl) ?_
    obtain ⟨r15, g15, h⟩ := k_bind h
    refine k_callV (As := [.int x1]) (rest := []) (st1 := [.int r15]) (ws2 := (Wd27 cI cS aV aN aS aT aW aK aH dn v_hasImage nS.1 nS.2.1 nS.2.2.1 nS.2.2.2.1 nS.2.2.2.2.1 nS.2.2.2.2.2.1 nS.2.2.2.2.2.2.1 nS.2.2.2.2.2.2.2.1 nS.2.2.2.2.2.2.2.2.1 nS.2.2.2.2.2.2.2.2.2.1 d_kind d_figure d_sort d_size d_held)) hx hb hml hown hts hK hN hA hP hD hS hl (c_PL_refusalOfKind l D cI cM cS cJ aV aN aS aT aW aK aH dn H.size x1 v_hasImage d_kind d_figure d_sort d_size d_held hdn g15) gX11_comes_X11_refusalOfKind rfl kdV_X11_refusalOfKind 0 11 rfl rfl rfl [0, 1, 6] ⟨rfl, rfl⟩ ⟨Nat.le_of_ble_eq_true rfl, Nat.le_of_ble_eq_true rfl⟩ ⟨Nat.zero_le _, Nat.zero_le _⟩ rfl rfl (by decide +kernel) (k_rp rfl (by decide +kernel)) rfl rfl (Nat.le_of_ble_eq_true rfl) dX11_comes_15 rfl (fun H locs hP hD hS => ?_)
    refine lv_istore_n (lv' := [(3, .int r15), (0, .ref (aV 0)), (1, .int x1), (2, .int x2)]) hx hb dX11_comes_18 rfl hl (by decide) rfl (fun ls hl => ?_)
    refine lv_iload_n hx hb dX11_comes_19 rfl (lv_at hl 0 rfl) ?_
    refine lv_if_eq (tgt := 25) hx hb dX11_comes_20 (by decide) (fun c20 => ?_) (fun c20 => ?_)
    · have h := k_pos c20 h
      refine lv_aload_n hx hb dX11_comes_25 rfl (lv_at hl 1 rfl) ?_
      refine va_get (D := D) (ci := 11) (v := .ref (aV 1)) (C := RX11) (T := TX11) (N := 6) hx hb hts hiX11 hown hK hP 0 rfl rfl 4 (by decide) hf59 (fun _ z => z) rfl dX11_comes_26 ?_
      refine lv_iload_n hx hb dX11_comes_29 rfl (lv_at hl 2 rfl) ?_
      obtain ⟨g30, h⟩ := k_guard h
      refine k_aldR (f := fun k => aH k 0) hx hb hK hP 1 2 rfl rfl g30 dX11_comes_30 ?_
      rw [show x1.toNatClampNeg = dn from hdn g30]
      refine lv_astore (lv' := [(4, .ref ((aH dn) 0)), (3, .int r15), (0, .ref (aV 0)), (1, .int x1), (2, .int x2)]) hx hb dX11_comes_31 hl (by decide) rfl (fun ls hl => ?_)
      refine lv_aload_n hx hb dX11_comes_33 rfl (lv_at hl 2 rfl) ?_
      refine va_get (D := D) (ci := 11) (v := .ref (aN 0)) (C := RX11) (T := TX11) (N := 6) hx hb hts hiX11 hown hK hP 0 rfl rfl 0 (by decide) hf36 (fun _ z => z) rfl dX11_comes_34 ?_
      refine lv_aload hx hb dX11_comes_37 (lv_at hl 0 rfl) ?_
      refine va_get (D := D) (ci := 9) (v := .int d_kind) (C := RX9) (T := TX9) (N := 7) hx hb hts hiX9 hown hK hP 6 rfl rfl 1 (by decide) hf128 (fun _ z => z) rfl dX11_comes_39 ?_
      refine lv_aload hx hb dX11_comes_42 (lv_at hl 0 rfl) ?_
      refine va_get (D := D) (ci := 9) (v := .int d_figure) (C := RX9) (T := TX9) (N := 7) hx hb hts hiX9 hown hK hP 6 rfl rfl 2 (by decide) hf130 (fun _ z => z) rfl dX11_comes_44 ?_
      refine lv_iload_n hx hb dX11_comes_47 rfl (lv_at hl 4 rfl) ?_
      obtain ⟨r48, g48, h⟩ := k_bind h
      refine k_callV (As := [.int d_kind, .int d_figure, .int x2]) (rest := []) (st1 := [.int r48.1]) (ws2 := (Wd27 cI cS aV aN aS aT aW aK aH dn v_hasImage r48.2.1 nS.2.1 nS.2.2.1 nS.2.2.2.1 nS.2.2.2.2.1 nS.2.2.2.2.2.1 nS.2.2.2.2.2.2.1 r48.2.2.1 r48.2.2.2.1 r48.2.2.2.2 d_kind d_figure d_sort d_size d_held)) hx hb hml hown hts hK hN hA hP hD hS hl (c_City_takesIn l D cI cM cS cJ aN aK H.size d_kind d_figure x2 nS.1 nS.2.1 nS.2.2.1 nS.2.2.2.1 nS.2.2.2.2.1 nS.2.2.2.2.2.1 nS.2.2.2.2.2.2.1 nS.2.2.2.2.2.2.2.1 nS.2.2.2.2.2.2.2.2.1 nS.2.2.2.2.2.2.2.2.2.1 g48) gX11_comes_X2_takesIn rfl kdV_X2_takesIn 0 2 rfl rfl rfl [2, 3, 4, 5] ⟨rfl, rfl⟩ ⟨Nat.le_of_ble_eq_true rfl, Nat.le_of_ble_eq_true rfl⟩ ⟨Nat.zero_le _, Nat.zero_le _⟩ rfl rfl (by decide +kernel) (k_rp rfl (by decide +kernel)) rfl rfl (Nat.le_of_ble_eq_true rfl) dX11_comes_48 rfl (fun H locs hP hD hS => ?_)
      refine lv_if_eq (tgt := 66) hx hb dX11_comes_51 (by decide) (fun c51 => ?_) (fun c51 => ?_)
      · have h := k_pos c51 h
        refine lv_bipush (v := (-2)) hx hb dX11_comes_66 (by decide) ?_
        have h := Option.some.inj h; subst h
        exact hret _ _ _ _ hP hS dX11_comes_68
      · have h := k_neg c51 h
        refine lv_aload_n hx hb dX11_comes_54 rfl (lv_at hl 2 rfl) ?_
        refine va_get (D := D) (ci := 11) (v := .ref (aN 0)) (C := RX11) (T := TX11) (N := 6) hx hb hts hiX11 hown hK hP 0 rfl rfl 0 (by decide) hf36 (fun _ z => z) rfl dX11_comes_55 ?_
        refine va_get (D := D) (ci := 2) (v := .int r48.2.1) (C := RX2) (T := TX2) (N := 12) hx hb hts hiX2 hown hK hP 2 rfl rfl 3 (by decide) hf135 (fun _ z => z) rfl dX11_comes_58 ?_
        refine lv_iconst (v := 1) hx hb dX11_comes_61 (by decide) ?_
        refine lv_isub hx hb dX11_comes_62 ?_
        refine lv_goto (tgt := 68) hx hb dX11_comes_63 (by decide) ?_
        have h := Option.some.inj h; subst h
        exact hret _ _ _ _ hP hS dX11_comes_68
    · have h := k_neg c20 h
      refine lv_iload_n hx hb dX11_comes_23 rfl (lv_at hl 0 rfl) ?_
      have h := Option.some.inj h; subst h
      exact hret _ _ _ _ hP hS dX11_comes_24
  · have h := k_pos c8 h
    refine lv_iconst (v := (-1)) hx hb dX11_comes_11 (by decide) ?_
    have h := Option.some.inj h; subst h
    exact hret _ _ _ _ hP hS dX11_comes_12
