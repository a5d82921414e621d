abbrev Wd2 (aD : Nat → Nat) (aK : Nat → Nat) (d_kind : Int32) (d_figure : Int32) (d_sort : Int32) (d_size : Int32) (d_held : Int32) : va_W := [((aD 0), .inr (9, [.ref (aD 1), .int d_kind, .int d_figure, .int d_sort, .int d_size, .int d_held, .ref (aK 8)]))]
abbrev rm_X9_isEmpty : Room := { frames := 0, cells := 0, slots := 0, locals := 0 }
set_option maxHeartbeats 4000000 in
set_option maxRecDepth 100000 in
theorem c_Shelf_isEmpty (l : Launch) (D : va_G) (cI cM cS cJ : ClassId) (aD : Nat → Nat) (aK : Nat → Nat) (sz : Nat) (d_kind : Int32) (d_figure : Int32) (d_sort : Int32) (d_size : Int32) (d_held : Int32) {o : (Int32)} (hsem : S_Shelf_isEmpty d_held = o) : kMet l yX9_isEmpty wsX9_isEmpty rm_X9_isEmpty [.ref (aD 0)] D (kT cI cM cS cJ) (Wd2 aD aK d_kind d_figure d_sort d_size d_held) sz (some (.int o)) (Wd2 aD aK d_kind d_figure d_sort d_size d_held) := by
  refine k_metZ (by decide) rfl rfl (Nat.le_of_ble_eq_true rfl) ?_
  intro p e s m below meth c ls Q A hx hb hml hts hown hK hN hA hP hD hS hl hsz hnm hret
  have hown : s.vm.findClass RX9 = some m.cls := hown
  have hf19 := hts (.fieldLink RX9 19 "PlumbLine$Shelf" "held" "I") (List.mem_of_getElem? (i := 1) rfl)
  have hiX9 : ∀ w ∈ u_ws RX9 TX9 7, w ∈ wsX9_isEmpty := fun w h => List.mem_cons_of_mem _ (List.mem_append_right _ h)
  replace hl : lv_has ls 1 [(0, .ref (aD 0))] := hl
  have h := hsem
  clear hsem
  rw [S_Shelf_isEmpty] at h
  refine lv_aload_n hx hb dX9_isEmpty_0 rfl (lv_at hl 0 rfl) ?_
  refine va_get (D := D) (ci := 9) (v := .int d_held) (C := RX9) (T := TX9) (N := 7) hx hb hts hiX9 hown hK hP 0 rfl rfl 5 (by decide) hf19 (fun _ z => z) rfl dX9_isEmpty_1 ?_
  refine lv_if_ne (tgt := 11) hx hb dX9_isEmpty_4 (by decide) (fun c4 => ?_) (fun c4 => ?_)
  · have h := k_neg c4 h
    refine lv_iconst (v := 0) hx hb dX9_isEmpty_11 (by decide) ?_
    cases h
    exact hret _ _ _ _ rfl hP hS dX9_isEmpty_12
  · have h := k_pos c4 h
    refine lv_iconst (v := 1) hx hb dX9_isEmpty_7 (by decide) ?_
    refine lv_goto (tgt := 12) hx hb dX9_isEmpty_8 (by decide) ?_
    cases h
    exact hret _ _ _ _ rfl hP hS dX9_isEmpty_12
abbrev rm_X9_hasRow : Room := { frames := 0, cells := 0, slots := 0, locals := 0 }
set_option maxHeartbeats 4000000 in
set_option maxRecDepth 100000 in
theorem c_Shelf_hasRow (l : Launch) (D : va_G) (cI cM cS cJ : ClassId) (aD : Nat → Nat) (aK : Nat → Nat) (sz : Nat) (d_kind : Int32) (d_figure : Int32) (d_sort : Int32) (d_size : Int32) (d_held : Int32) {o : (Int32)} (hsem : S_Shelf_hasRow d_held = o) : kMet l yX9_hasRow wsX9_hasRow rm_X9_hasRow [.ref (aD 0)] D (kT cI cM cS cJ) (Wd2 aD aK d_kind d_figure d_sort d_size d_held) sz (some (.int o)) (Wd2 aD aK d_kind d_figure d_sort d_size d_held) := by
  refine k_metZ (by decide) rfl rfl (Nat.le_of_ble_eq_true rfl) ?_
  intro p e s m below meth c ls Q A hx hb hml hts hown hK hN hA hP hD hS hl hsz hnm hret
  have hown : s.vm.findClass RX9 = some m.cls := hown
  have hf19 := hts (.fieldLink RX9 19 "PlumbLine$Shelf" "held" "I") (List.mem_of_getElem? (i := 1) rfl)
  have hiX9 : ∀ w ∈ u_ws RX9 TX9 7, w ∈ wsX9_hasRow := fun w h => List.mem_cons_of_mem _ (List.mem_append_right _ h)
  replace hl : lv_has ls 1 [(0, .ref (aD 0))] := hl
  have h := hsem
  clear hsem
  rw [S_Shelf_hasRow] at h
  refine lv_aload_n hx hb dX9_hasRow_0 rfl (lv_at hl 0 rfl) ?_
  refine va_get (D := D) (ci := 9) (v := .int d_held) (C := RX9) (T := TX9) (N := 7) hx hb hts hiX9 hown hK hP 0 rfl rfl 5 (by decide) hf19 (fun _ z => z) rfl dX9_hasRow_1 ?_
  refine lv_iconst (v := 2) hx hb dX9_hasRow_4 (by decide) ?_
  refine lv_icmp_ne (tgt := 12) hx hb dX9_hasRow_5 (by decide) (fun c5 => ?_) (fun c5 => ?_)
  · have h := k_neg c5 h
    refine lv_iconst (v := 0) hx hb dX9_hasRow_12 (by decide) ?_
    cases h
    exact hret _ _ _ _ rfl hP hS dX9_hasRow_13
  · have h := k_pos c5 h
    refine lv_iconst (v := 1) hx hb dX9_hasRow_8 (by decide) ?_
    refine lv_goto (tgt := 13) hx hb dX9_hasRow_9 (by decide) ?_
    cases h
    exact hret _ _ _ _ rfl hP hS dX9_hasRow_13
abbrev rm_X9_clears : Room := { frames := 0, cells := 0, slots := 0, locals := 0 }
set_option maxHeartbeats 4000000 in
set_option maxRecDepth 100000 in
theorem c_Shelf_clears (l : Launch) (D : va_G) (cI cM cS cJ : ClassId) (aD : Nat → Nat) (aK : Nat → Nat) (sz : Nat) (d_kind : Int32) (d_figure : Int32) (d_sort : Int32) (d_size : Int32) (d_held : Int32) {o : (Int32)} (hsem : S_Shelf_clears d_held = o) : kMet l yX9_clears wsX9_clears rm_X9_clears [.ref (aD 0)] D (kT cI cM cS cJ) (Wd2 aD aK d_kind d_figure d_sort d_size d_held) sz none (Wd2 aD aK d_kind d_figure d_sort d_size o) := by
  refine k_metV (by decide) rfl rfl (Nat.le_of_ble_eq_true rfl) ?_
  intro p e s m below meth c ls Q A hx hb hml hts hown hK hN hA hP hD hS hl hsz hnm hret
  have hown : s.vm.findClass RX9 = some m.cls := hown
  have hf19 := hts (.fieldLink RX9 19 "PlumbLine$Shelf" "held" "I") (List.mem_of_getElem? (i := 1) rfl)
  have hiX9 : ∀ w ∈ u_ws RX9 TX9 7, w ∈ wsX9_clears := fun w h => List.mem_cons_of_mem _ (List.mem_append_right _ h)
  replace hl : lv_has ls 1 [(0, .ref (aD 0))] := hl
  have h := hsem
  clear hsem
  rw [S_Shelf_clears] at h
  refine lv_aload_n hx hb dX9_clears_0 rfl (lv_at hl 0 rfl) ?_
  refine lv_iconst (v := 0) hx hb dX9_clears_1 (by decide) ?_
  refine va_put (D := D) (ci := 9) (v := .int 0) (ty := .int) (C := RX9) (T := TX9) (N := 7) hx hb hts hiX9 tyX9 tyX9_ok nmX9 hown hK hP hD hS 0 rfl rfl 5 (by decide) hf19 (fun _ z => z) rfl (by decide +kernel) rfl rfl (Nat.le_of_ble_eq_true rfl) dX9_clears_2 (fun H locs hP hD hS => ?_)
  replace hP : va_P D vwCl (Wd2 aD aK d_kind d_figure d_sort d_size 0) H := hP
  replace hD : va_D A (Wd2 aD aK d_kind d_figure d_sort d_size 0) := hD
  cases h
  exact hret _ _ _ _ hP hS dX9_clears_5
abbrev rm_X9_holdsKind : Room := { frames := 0, cells := 0, slots := 0, locals := 0 }
set_option maxHeartbeats 4000000 in
set_option maxRecDepth 100000 in
theorem c_Shelf_holdsKind (l : Launch) (D : va_G) (cI cM cS cJ : ClassId) (aD : Nat → Nat) (aK : Nat → Nat) (sz : Nat) (x1 : Int32) (x2 : Int32) (d_kind : Int32) (d_figure : Int32) (d_sort : Int32) (d_size : Int32) (d_held : Int32) {o : (Int32) × (Int32) × (Int32)} (hsem : S_Shelf_holdsKind x1 x2 d_kind d_figure d_held = o) : kMet l yX9_holdsKind wsX9_holdsKind rm_X9_holdsKind [.ref (aD 0), .int x1, .int x2] D (kT cI cM cS cJ) (Wd2 aD aK d_kind d_figure d_sort d_size d_held) sz none (Wd2 aD aK o.1 o.2.1 d_sort d_size o.2.2) := by
  refine k_metV (by decide) rfl rfl (Nat.le_of_ble_eq_true rfl) ?_
  intro p e s m below meth c ls Q A hx hb hml hts hown hK hN hA hP hD hS hl hsz hnm hret
  have hown : s.vm.findClass RX9 = some m.cls := hown
  have hf19 := hts (.fieldLink RX9 19 "PlumbLine$Shelf" "held" "I") (List.mem_of_getElem? (i := 1) rfl)
  have hf23 := hts (.fieldLink RX9 23 "PlumbLine$Shelf" "kind" "I") (List.mem_of_getElem? (i := 2) rfl)
  have hf26 := hts (.fieldLink RX9 26 "PlumbLine$Shelf" "figure" "I") (List.mem_of_getElem? (i := 3) rfl)
  have hiX9 : ∀ w ∈ u_ws RX9 TX9 7, w ∈ wsX9_holdsKind := fun w h => List.mem_cons_of_mem _ (List.mem_append_right _ h)
  replace hl : lv_has ls 3 [(0, .ref (aD 0)), (1, .int x1), (2, .int x2)] := hl
  have h := hsem
  clear hsem
  rw [S_Shelf_holdsKind] at h
  refine lv_aload_n hx hb dX9_holdsKind_0 rfl (lv_at hl 0 rfl) ?_
  refine lv_iconst (v := 1) hx hb dX9_holdsKind_1 (by decide) ?_
  refine va_put (D := D) (ci := 9) (v := .int 1) (ty := .int) (C := RX9) (T := TX9) (N := 7) hx hb hts hiX9 tyX9 tyX9_ok nmX9 hown hK hP hD hS 0 rfl rfl 5 (by decide) hf19 (fun _ z => z) rfl (by decide +kernel) rfl rfl (Nat.le_of_ble_eq_true rfl) dX9_holdsKind_2 (fun H locs hP hD hS => ?_)
  replace hP : va_P D vwCl (Wd2 aD aK d_kind d_figure d_sort d_size 1) H := hP
  replace hD : va_D A (Wd2 aD aK d_kind d_figure d_sort d_size 1) := hD
  refine lv_aload_n hx hb dX9_holdsKind_5 rfl (lv_at hl 0 rfl) ?_
  refine lv_iload_n hx hb dX9_holdsKind_6 rfl (lv_at hl 1 rfl) ?_
  refine va_put (D := D) (ci := 9) (v := .int x1) (ty := .int) (C := RX9) (T := TX9) (N := 7) hx hb hts hiX9 tyX9 tyX9_ok nmX9 hown hK hP hD hS 0 rfl rfl 1 (by decide) hf23 (fun _ z => z) rfl (by decide +kernel) rfl rfl (Nat.le_of_ble_eq_true rfl) dX9_holdsKind_7 (fun H locs hP hD hS => ?_)
  replace hP : va_P D vwCl (Wd2 aD aK x1 d_figure d_sort d_size 1) H := hP
  replace hD : va_D A (Wd2 aD aK x1 d_figure d_sort d_size 1) := hD
  refine lv_aload_n hx hb dX9_holdsKind_10 rfl (lv_at hl 0 rfl) ?_
  refine lv_iload_n hx hb dX9_holdsKind_11 rfl (lv_at hl 2 rfl) ?_
  refine va_put (D := D) (ci := 9) (v := .int x2) (ty := .int) (C := RX9) (T := TX9) (N := 7) hx hb hts hiX9 tyX9 tyX9_ok nmX9 hown hK hP hD hS 0 rfl rfl 2 (by decide) hf26 (fun _ z => z) rfl (by decide +kernel) rfl rfl (Nat.le_of_ble_eq_true rfl) dX9_holdsKind_12 (fun H locs hP hD hS => ?_)
  replace hP : va_P D vwCl (Wd2 aD aK x1 x2 d_sort d_size 1) H := hP
  replace hD : va_D A (Wd2 aD aK x1 x2 d_sort d_size 1) := hD
  cases h
  exact hret _ _ _ _ hP hS dX9_holdsKind_15
abbrev Wd3 (cM : ClassId) (aD : Nat → Nat) (aK : Nat → Nat) (d_kind : Int32) (d_figure : Int32) (d_sort : Int32) (d_size : Int32) (d_held : Int32) : va_W := [((aD 0), .inr (9, [.ref (aD 1), .int d_kind, .int d_figure, .int d_sort, .int d_size, .int d_held, .ref (aK 8)])), ((aK 8), .inl (cM, 8, .inr (.inr (.inr (.inr (fun k => some (aK k))))))), ((aK 0), .inr (4, [])), ((aK 1), .inr (0, [])), ((aK 2), .inr (7, [])), ((aK 3), .inr (3, [])), ((aK 4), .inr (1, [])), ((aK 5), .inr (8, [])), ((aK 6), .inr (10, [])), ((aK 7), .inr (6, []))]
theorem kdV_X4_priceBy : yX4_priceBy.cls = RX4 ∧ yX4_priceBy.cls ≠ "java/lang/invoke/MethodHandle" ∧ yX4_priceBy.cls ≠ "java/lang/invoke/VarHandle" ∧ (parseMethodDescriptor yX4_priceBy.desc).map (fun d => d.parameters.length) = some 1 := by decide +kernel
theorem kdM_priceBy : "PlumbLine$Man" ≠ "java/lang/invoke/MethodHandle" ∧ "PlumbLine$Man" ≠ "java/lang/invoke/VarHandle" ∧ (parseMethodDescriptor "(I)I").map (fun d => d.parameters.length) = some 1 := by decide +kernel
abbrev rm_X9_price : Room := { frames := 3, cells := 0, slots := 0, locals := 63 }
set_option maxHeartbeats 4000000 in
set_option maxRecDepth 100000 in
theorem c_Shelf_price (l : Launch) (D : va_G) (cI cM cS cJ : ClassId) (aD : Nat → Nat) (aK : Nat → Nat) (sz : Nat) (d_kind : Int32) (d_figure : Int32) (d_sort : Int32) (d_size : Int32) (d_held : Int32) {o : (Int32)} (hsem : S_Shelf_price d_kind d_figure = some o) : kMet l yX9_price wsX9_price rm_X9_price [.ref (aD 0)] D (kT cI cM cS cJ) (Wd3 cM aD aK d_kind d_figure d_sort d_size d_held) sz (some (.int o)) (Wd3 cM aD aK d_kind d_figure d_sort d_size d_held) := by
  refine k_metI (by decide) rfl rfl (Nat.le_of_ble_eq_true rfl) ?_
  intro p e s m below meth c ls Q A hx hb hml hts hown hK hN hA hP hD hS hl hsz hnm hret
  have hown : s.vm.findClass RX9 = some m.cls := hown
  have hf15 := hts (.fieldLink RX9 15 "PlumbLine$Shelf" "kinds" "[LPlumbLine$Man;") (List.mem_of_getElem? (i := 1) rfl)
  have hf23 := hts (.fieldLink RX9 23 "PlumbLine$Shelf" "kind" "I") (List.mem_of_getElem? (i := 2) rfl)
  have hf26 := hts (.fieldLink RX9 26 "PlumbLine$Shelf" "figure" "I") (List.mem_of_getElem? (i := 3) rfl)
  have hiX9 : ∀ w ∈ u_ws RX9 TX9 7, w ∈ wsX9_price := fun w h => List.mem_cons_of_mem _ (List.mem_append_right _ h)
  replace hl : lv_has ls 1 [(0, .ref (aD 0))] := hl
  have h := hsem
  clear hsem
  rw [S_Shelf_price] at h
  refine lv_aload_n hx hb dX9_price_0 rfl (lv_at hl 0 rfl) ?_
  refine va_get (D := D) (ci := 9) (v := .ref (aK 8)) (C := RX9) (T := TX9) (N := 7) hx hb hts hiX9 hown hK hP 0 rfl rfl 6 (by decide) hf15 (fun _ z => z) rfl dX9_price_1 ?_
  refine lv_aload_n hx hb dX9_price_4 rfl (lv_at hl 0 rfl) ?_
  refine va_get (D := D) (ci := 9) (v := .int d_kind) (C := RX9) (T := TX9) (N := 7) hx hb hts hiX9 hown hK hP 0 rfl rfl 1 (by decide) hf23 (fun _ z => z) rfl dX9_price_5 ?_
  obtain ⟨g8, h⟩ := k_guard h
  refine k_aldR (f := aK) hx hb hK hP 1 1 rfl rfl g8 dX9_price_8 ?_
  refine lv_aload_n hx hb dX9_price_9 rfl (lv_at hl 0 rfl) ?_
  refine va_get (D := D) (ci := 9) (v := .int d_figure) (C := RX9) (T := TX9) (N := 7) hx hb hts hiX9 hown hK hP 0 rfl rfl 2 (by decide) hf26 (fun _ z => z) rfl dX9_price_10 ?_
  have V13 : ∀ (H : Heap) (locs : List Loc), va_P D vwCl (Wd3 cM aD aK d_kind d_figure d_sort d_size d_held) H → va_D A (Wd3 cM aD aK d_kind d_figure d_sort d_size d_held) → va_S A s.heap H locs → W p l e rm_X9_price s m ([.ref (aD 0)] : List Value).toArray below meth c H locs 0 0 Q (F0 m 16 ls [.int (V_priceBy d_kind.toNatClampNeg d_figure)]) := by
    intro H locs hP hD hS
    cases h
    exact hret _ _ _ _ hP hS dX9_price_16
  generalize hk13 : d_kind.toNatClampNeg = k13 at V13 ⊢
  have hb13 : k13 < 8 := by rw [← hk13]; exact Nat.not_le.mp (fun z => g8 (Or.inr z))
  rcases k_8 hb13 with e | e | e | e | e | e | e | e <;> subst e
  · exact k_callV (As := [.int d_figure]) (rest := []) (st1 := [.int (S_Man_priceBy d_figure)]) hx hb hml hown hts hK hN hA hP hD hS hl (c_Man_priceBy l D cI cM cS cJ (aK 0) 4 s.heap.size d_figure rfl) gX9_price_X4_priceBy rfl kdV_X4_priceBy 0 4 rfl rfl rfl [2] ⟨rfl, rfl⟩ ⟨Nat.le_of_ble_eq_true rfl, Nat.le_of_ble_eq_true rfl⟩ ⟨Nat.zero_le _, Nat.zero_le _⟩ rfl rfl (by decide +kernel) (k_rp rfl (by decide +kernel)) rfl rfl (Nat.le_of_ble_eq_true rfl) dX9_price_13 rfl V13
  · exact k_callU (wy' := []) (As := [.int d_figure]) (rest := []) (st1 := [.int (S_Banker_priceBy d_figure)]) hx hb hml hown hts hK hN hA hP hD hS hl (c_Banker_priceBy l D cI cM cS cJ (aK 1) 0 s.heap.size d_figure rfl rfl) (va_cwO 1 hts gX9_price_X0_priceBy_u29X0 rfl rfl rfl (List.mem_of_getElem? (i := 15) rfl) kdM_priceBy ⟨Nat.le_of_ble_eq_true rfl, Nat.le_of_ble_eq_true rfl⟩) 0 0 rfl rfl rfl [3] ⟨Nat.zero_le _, Nat.zero_le _⟩ rfl rfl (by decide +kernel) (k_rp rfl (by decide +kernel)) rfl rfl (Nat.le_of_ble_eq_true rfl) dX9_price_13 rfl V13
  · exact k_callU (wy' := []) (As := [.int d_figure]) (rest := []) (st1 := [.int (S_Quaker_priceBy d_figure)]) hx hb hml hown hts hK hN hA hP hD hS hl (c_Quaker_priceBy l D cI cM cS cJ (aK 2) 7 s.heap.size d_figure rfl) (va_cwO 1 hts gX9_price_X7_priceBy_u29X7 rfl rfl rfl (List.mem_of_getElem? (i := 15) rfl) kdM_priceBy ⟨Nat.le_of_ble_eq_true rfl, Nat.le_of_ble_eq_true rfl⟩) 0 7 rfl rfl rfl [4] ⟨Nat.zero_le _, Nat.zero_le _⟩ rfl rfl (by decide +kernel) (k_rp rfl (by decide +kernel)) rfl rfl (Nat.le_of_ble_eq_true rfl) dX9_price_13 rfl V13
  · exact k_callU (wy' := []) (As := [.int d_figure]) (rest := []) (st1 := [.int (S_Clerk_priceBy d_figure)]) hx hb hml hown hts hK hN hA hP hD hS hl (c_Clerk_priceBy l D cI cM cS cJ (aK 3) 3 s.heap.size d_figure rfl) (va_cwO 1 hts gX9_price_X3_priceBy_u29X3 rfl rfl rfl (List.mem_of_getElem? (i := 15) rfl) kdM_priceBy ⟨Nat.le_of_ble_eq_true rfl, Nat.le_of_ble_eq_true rfl⟩) 0 3 rfl rfl rfl [5] ⟨Nat.zero_le _, Nat.zero_le _⟩ rfl rfl (by decide +kernel) (k_rp rfl (by decide +kernel)) rfl rfl (Nat.le_of_ble_eq_true rfl) dX9_price_13 rfl V13
  · exact k_callU (wy' := []) (As := [.int d_figure]) (rest := []) (st1 := [.int (S_Broker_priceBy d_figure)]) hx hb hml hown hts hK hN hA hP hD hS hl (c_Broker_priceBy l D cI cM cS cJ (aK 4) 1 s.heap.size d_figure rfl rfl) (va_cwO 1 hts gX9_price_X1_priceBy_u29X1 rfl rfl rfl (List.mem_of_getElem? (i := 15) rfl) kdM_priceBy ⟨Nat.le_of_ble_eq_true rfl, Nat.le_of_ble_eq_true rfl⟩) 0 1 rfl rfl rfl [6] ⟨Nat.zero_le _, Nat.zero_le _⟩ rfl rfl (by decide +kernel) (k_rp rfl (by decide +kernel)) rfl rfl (Nat.le_of_ble_eq_true rfl) dX9_price_13 rfl V13
  · exact k_callU (wy' := []) (As := [.int d_figure]) (rest := []) (st1 := [.int (S_Scrubber_priceBy d_figure)]) hx hb hml hown hts hK hN hA hP hD hS hl (c_Scrubber_priceBy l D cI cM cS cJ (aK 5) 8 s.heap.size d_figure rfl) (va_cwO 1 hts gX9_price_X8_priceBy_u29X8 rfl rfl rfl (List.mem_of_getElem? (i := 15) rfl) kdM_priceBy ⟨Nat.le_of_ble_eq_true rfl, Nat.le_of_ble_eq_true rfl⟩) 0 8 rfl rfl rfl [7] ⟨Nat.zero_le _, Nat.zero_le _⟩ rfl rfl (by decide +kernel) (k_rp rfl (by decide +kernel)) rfl rfl (Nat.le_of_ble_eq_true rfl) dX9_price_13 rfl V13
  · exact k_callU (wy' := []) (As := [.int d_figure]) (rest := []) (st1 := [.int (S_Broker_priceBy d_figure)]) hx hb hml hown hts hK hN hA hP hD hS hl (c_Broker_priceBy l D cI cM cS cJ (aK 6) 10 s.heap.size d_figure rfl rfl) (va_cwO 1 hts gX9_price_X1_priceBy_u29X10 rfl rfl rfl (List.mem_of_getElem? (i := 15) rfl) kdM_priceBy ⟨Nat.le_of_ble_eq_true rfl, Nat.le_of_ble_eq_true rfl⟩) 0 10 rfl rfl rfl [8] ⟨Nat.zero_le _, Nat.zero_le _⟩ rfl rfl (by decide +kernel) (k_rp rfl (by decide +kernel)) rfl rfl (Nat.le_of_ble_eq_true rfl) dX9_price_13 rfl V13
  · exact k_callU (wy' := []) (As := [.int d_figure]) (rest := []) (st1 := [.int (S_Partner_priceBy d_figure)]) hx hb hml hown hts hK hN hA hP hD hS hl (c_Partner_priceBy l D cI cM cS cJ (aK 7) 6 s.heap.size d_figure rfl rfl) (va_cwO 1 hts gX9_price_X6_priceBy_u29X6 rfl rfl rfl (List.mem_of_getElem? (i := 15) rfl) kdM_priceBy ⟨Nat.le_of_ble_eq_true rfl, Nat.le_of_ble_eq_true rfl⟩) 0 6 rfl rfl rfl [9] ⟨Nat.zero_le _, Nat.zero_le _⟩ rfl rfl (by decide +kernel) (k_rp rfl (by decide +kernel)) rfl rfl (Nat.le_of_ble_eq_true rfl) dX9_price_13 rfl V13
abbrev Wd4 (cI : ClassId) (aD : Nat → Nat) (aK : Nat → Nat) (d_kind : Int32) (d_figure : Int32) (d_sort : Int32) (d_size : Int32) (d_held : Int32) (d_el : Nat → Int32) : va_W := [((aD 0), .inr (9, [.ref (aD 1), .int d_kind, .int d_figure, .int d_sort, .int d_size, .int d_held, .ref (aK 8)])), ((aD 1), .inl (cI, 100, .inl d_el))]
abbrev rm_X9_holdsRow : Room := { frames := 0, cells := 0, slots := 0, locals := 0 }
set_option maxHeartbeats 4000000 in
set_option maxRecDepth 100000 in
theorem c_Shelf_holdsRow (l : Launch) (D : va_G) (cI cM cS cJ : ClassId) (aD : Nat → Nat) (aK : Nat → Nat) (sz : Nat) (x1 : Int32) (x2 : Int32) (d_kind : Int32) (d_figure : Int32) (d_sort : Int32) (d_size : Int32) (d_held : Int32) (d_el : Nat → Int32) {o : (Int32) × (Int32) × (Int32) × (Nat → Int32)} (hsem : S_Shelf_holdsRow x1 x2 d_sort d_size d_held d_el = some o) : kMet l yX9_holdsRow wsX9_holdsRow rm_X9_holdsRow [.ref (aD 0), .int x1, .int x2] D (kT cI cM cS cJ) (Wd4 cI aD aK d_kind d_figure d_sort d_size d_held d_el) sz none (Wd4 cI aD aK d_kind d_figure o.1 o.2.1 o.2.2.1 o.2.2.2) := by
  refine k_metV (by decide) rfl rfl (Nat.le_of_ble_eq_true rfl) ?_
  intro p e s m below meth c ls Q A hx hb hml hts hown hK hN hA hP hD hS hl hsz hnm hret
  have hown : s.vm.findClass RX9 = some m.cls := hown
  have hf19 := hts (.fieldLink RX9 19 "PlumbLine$Shelf" "held" "I") (List.mem_of_getElem? (i := 1) rfl)
  have hf39 := hts (.fieldLink RX9 39 "PlumbLine$Shelf" "sort" "I") (List.mem_of_getElem? (i := 2) rfl)
  have hf42 := hts (.fieldLink RX9 42 "PlumbLine$Shelf" "size" "I") (List.mem_of_getElem? (i := 3) rfl)
  have hf9 := hts (.fieldLink RX9 9 "PlumbLine$Shelf" "elements" "[I") (List.mem_of_getElem? (i := 4) rfl)
  have hiX9 : ∀ w ∈ u_ws RX9 TX9 7, w ∈ wsX9_holdsRow := fun w h => List.mem_cons_of_mem _ (List.mem_append_right _ h)
  replace hl : lv_has ls 4 [(0, .ref (aD 0)), (1, .int x1), (2, .int x2)] := hl
  have h := hsem
  clear hsem
  rw [S_Shelf_holdsRow] at h
  refine lv_aload_n hx hb dX9_holdsRow_0 rfl (lv_at hl 0 rfl) ?_
  refine lv_iconst (v := 2) hx hb dX9_holdsRow_1 (by decide) ?_
  refine va_put (D := D) (ci := 9) (v := .int 2) (ty := .int) (C := RX9) (T := TX9) (N := 7) hx hb hts hiX9 tyX9 tyX9_ok nmX9 hown hK hP hD hS 0 rfl rfl 5 (by decide) hf19 (fun _ z => z) rfl (by decide +kernel) rfl rfl (Nat.le_of_ble_eq_true rfl) dX9_holdsRow_2 (fun H locs hP hD hS => ?_)
  replace hP : va_P D vwCl (Wd4 cI aD aK d_kind d_figure d_sort d_size 2 d_el) H := hP
  replace hD : va_D A (Wd4 cI aD aK d_kind d_figure d_sort d_size 2 d_el) := hD
  refine lv_aload_n hx hb dX9_holdsRow_5 rfl (lv_at hl 0 rfl) ?_
  refine lv_iload_n hx hb dX9_holdsRow_6 rfl (lv_at hl 1 rfl) ?_
  refine va_put (D := D) (ci := 9) (v := .int x1) (ty := .int) (C := RX9) (T := TX9) (N := 7) hx hb hts hiX9 tyX9 tyX9_ok nmX9 hown hK hP hD hS 0 rfl rfl 3 (by decide) hf39 (fun _ z => z) rfl (by decide +kernel) rfl rfl (Nat.le_of_ble_eq_true rfl) dX9_holdsRow_7 (fun H locs hP hD hS => ?_)
  replace hP : va_P D vwCl (Wd4 cI aD aK d_kind d_figure x1 d_size 2 d_el) H := hP
  replace hD : va_D A (Wd4 cI aD aK d_kind d_figure x1 d_size 2 d_el) := hD
  refine lv_aload_n hx hb dX9_holdsRow_10 rfl (lv_at hl 0 rfl) ?_
  refine lv_iload_n hx hb dX9_holdsRow_11 rfl (lv_at hl 2 rfl) ?_
  refine va_put (D := D) (ci := 9) (v := .int x2) (ty := .int) (C := RX9) (T := TX9) (N := 7) hx hb hts hiX9 tyX9 tyX9_ok nmX9 hown hK hP hD hS 0 rfl rfl 4 (by decide) hf42 (fun _ z => z) rfl (by decide +kernel) rfl rfl (Nat.le_of_ble_eq_true rfl) dX9_holdsRow_12 (fun H locs hP hD hS => ?_)
  replace hP : va_P D vwCl (Wd4 cI aD aK d_kind d_figure x1 x2 2 d_el) H := hP
  replace hD : va_D A (Wd4 cI aD aK d_kind d_figure x1 x2 2 d_el) := hD
  refine lv_iconst (v := 0) hx hb dX9_holdsRow_15 (by decide) ?_
  have B17 : ∀ (d_sort : Int32) (d_size : Int32) (d_held : Int32) (n17 : Nat) (y3 : Int32) (d_el : Nat → Int32) (H : Heap) (locs : List Loc) (ls : Array Slot), va_P D vwCl (Wd4 cI aD aK d_kind d_figure d_sort d_size d_held d_el) H → va_D A (Wd4 cI aD aK d_kind d_figure d_sort d_size d_held d_el) → va_S A s.heap H locs → lv_has ls 4 [(0, .ref (aD 0)), (3, .int y3)] → S_Shelf_holdsRow_L17 d_sort d_size d_held n17 y3 d_el = some o → W p l e rm_X9_holdsRow s m ([.ref (aD 0), .int x1, .int x2] : List Value).toArray below meth c H locs 0 0 Q (F0 m 17 ls []) := by
    intro d_sort d_size d_held
    intro n17
    induction n17 with
    | zero => intro y3 d_el H locs ls hP hD hS hl h; exact absurd h (by simp [S_Shelf_holdsRow_L17])
    | succ n17 ih17 =>
      intro y3 d_el H locs ls hP hD hS hl h
      rw [S_Shelf_holdsRow_L17] at h
      refine lv_iload_n hx hb dX9_holdsRow_17 rfl (lv_at hl 1 rfl) ?_
      refine lv_bipush (v := 100) hx hb dX9_holdsRow_18 (by decide) ?_
      refine lv_icmp_ge (tgt := 36) hx hb dX9_holdsRow_20 (by decide) (fun c20 => ?_) (fun c20 => ?_)
      · have h := k_pos c20 h
        cases h
        exact hret _ _ _ _ hP hS dX9_holdsRow_36
      · have h := k_neg c20 h
        refine lv_aload_n hx hb dX9_holdsRow_23 rfl (lv_at hl 0 rfl) ?_
        refine va_get (D := D) (ci := 9) (v := .ref (aD 1)) (C := RX9) (T := TX9) (N := 7) hx hb hts hiX9 hown hK hP 0 rfl rfl 0 (by decide) hf9 (fun _ z => z) rfl dX9_holdsRow_24 ?_
        refine lv_iload_n hx hb dX9_holdsRow_27 rfl (lv_at hl 1 rfl) ?_
        refine lv_iconst (v := 0) hx hb dX9_holdsRow_28 (by decide) ?_
        obtain ⟨g29, h⟩ := k_guard h
        refine va_iast hx hb hK hP hD hS 1 0 rfl rfl g29 dX9_holdsRow_29 (fun H locs hP hD hS => ?_)
        replace hP : va_P D vwCl (Wd4 cI aD aK d_kind d_figure d_sort d_size d_held (upd d_el y3.toNatClampNeg 0)) H := hP
        replace hD : va_D A (Wd4 cI aD aK d_kind d_figure d_sort d_size d_held (upd d_el y3.toNatClampNeg 0)) := hD
        refine lv_iinc (v := (y3 + 1)) (lv' := [(3, .int (y3 + 1)), (0, .ref (aD 0))]) hx hb dX9_holdsRow_30 hl (k := 1) rfl (by first | rfl | decide) (by decide) rfl (fun ls hl => ?_)
        refine lv_goto (tgt := 17) hx hb dX9_holdsRow_33 (by decide) ?_
        exact ih17 (y3 + 1) (upd d_el y3.toNatClampNeg 0) H locs ls hP hD hS (lv_sub hl [1, 0] rfl) h
  refine lv_istore_n (lv' := [(3, .int 0), (0, .ref (aD 0)), (1, .int x1), (2, .int x2)]) hx hb dX9_holdsRow_16 rfl hl (by decide) rfl (fun ls hl => ?_)
  exact B17 x1 x2 2 lfu 0 d_el H locs ls hP hD hS (lv_sub hl [1, 0] rfl) h
abbrev rm_X9_hasElement : Room := { frames := 0, cells := 0, slots := 0, locals := 0 }
set_option maxHeartbeats 4000000 in
set_option maxRecDepth 100000 in
theorem c_Shelf_hasElement (l : Launch) (D : va_G) (cI cM cS cJ : ClassId) (aD : Nat → Nat) (aK : Nat → Nat) (sz : Nat) (x1 : Int32) (d_kind : Int32) (d_figure : Int32) (d_sort : Int32) (d_size : Int32) (d_held : Int32) {o : (Int32)} (hsem : S_Shelf_hasElement x1 d_size = o) : kMet l yX9_hasElement wsX9_hasElement rm_X9_hasElement [.ref (aD 0), .int x1] D (kT cI cM cS cJ) (Wd2 aD aK d_kind d_figure d_sort d_size d_held) sz (some (.int o)) (Wd2 aD aK d_kind d_figure d_sort d_size d_held) := by
  refine k_metZ (by decide) rfl rfl (Nat.le_of_ble_eq_true rfl) ?_
  intro p e s m below meth c ls Q A hx hb hml hts hown hK hN hA hP hD hS hl hsz hnm hret
  have hown : s.vm.findClass RX9 = some m.cls := hown
  have hf42 := hts (.fieldLink RX9 42 "PlumbLine$Shelf" "size" "I") (List.mem_of_getElem? (i := 1) rfl)
  have hiX9 : ∀ w ∈ u_ws RX9 TX9 7, w ∈ wsX9_hasElement := fun w h => List.mem_cons_of_mem _ (List.mem_append_right _ h)
  replace hl : lv_has ls 2 [(0, .ref (aD 0)), (1, .int x1)] := hl
  have h := hsem
  clear hsem
  rw [S_Shelf_hasElement] at h
  refine lv_iload_n hx hb dX9_hasElement_0 rfl (lv_at hl 1 rfl) ?_
  refine lv_if_lt (tgt := 16) hx hb dX9_hasElement_1 (by decide) (fun c1 => ?_) (fun c1 => ?_)
  · have h := k_pos c1 h
    refine lv_iconst (v := 0) hx hb dX9_hasElement_16 (by decide) ?_
    cases h
    exact hret _ _ _ _ rfl hP hS dX9_hasElement_17
  · have h := k_neg c1 h
    refine lv_iload_n hx hb dX9_hasElement_4 rfl (lv_at hl 1 rfl) ?_
    refine lv_aload_n hx hb dX9_hasElement_5 rfl (lv_at hl 0 rfl) ?_
    refine va_get (D := D) (ci := 9) (v := .int d_size) (C := RX9) (T := TX9) (N := 7) hx hb hts hiX9 hown hK hP 0 rfl rfl 4 (by decide) hf42 (fun _ z => z) rfl dX9_hasElement_6 ?_
    refine lv_icmp_ge (tgt := 16) hx hb dX9_hasElement_9 (by decide) (fun c9 => ?_) (fun c9 => ?_)
    · have h := k_pos c9 h
      refine lv_iconst (v := 0) hx hb dX9_hasElement_16 (by decide) ?_
      cases h
      exact hret _ _ _ _ rfl hP hS dX9_hasElement_17
    · have h := k_neg c9 h
      refine lv_iconst (v := 1) hx hb dX9_hasElement_12 (by decide) ?_
      refine lv_goto (tgt := 17) hx hb dX9_hasElement_13 (by decide) ?_
      cases h
      exact hret _ _ _ _ rfl hP hS dX9_hasElement_17
abbrev rm_X9_hasElements : Room := { frames := 0, cells := 0, slots := 0, locals := 0 }
set_option maxHeartbeats 4000000 in
set_option maxRecDepth 100000 in
theorem c_Shelf_hasElements (l : Launch) (D : va_G) (cI cM cS cJ : ClassId) (aD : Nat → Nat) (aK : Nat → Nat) (sz : Nat) (x1 : Int32) (x2 : Int32) (d_kind : Int32) (d_figure : Int32) (d_sort : Int32) (d_size : Int32) (d_held : Int32) {o : (Int32)} (hsem : S_Shelf_hasElements x1 x2 d_size = o) : kMet l yX9_hasElements wsX9_hasElements rm_X9_hasElements [.ref (aD 0), .int x1, .int x2] D (kT cI cM cS cJ) (Wd2 aD aK d_kind d_figure d_sort d_size d_held) sz (some (.int o)) (Wd2 aD aK d_kind d_figure d_sort d_size d_held) := by
  refine k_metZ (by decide) rfl rfl (Nat.le_of_ble_eq_true rfl) ?_
  intro p e s m below meth c ls Q A hx hb hml hts hown hK hN hA hP hD hS hl hsz hnm hret
  have hown : s.vm.findClass RX9 = some m.cls := hown
  have hf42 := hts (.fieldLink RX9 42 "PlumbLine$Shelf" "size" "I") (List.mem_of_getElem? (i := 1) rfl)
  have hiX9 : ∀ w ∈ u_ws RX9 TX9 7, w ∈ wsX9_hasElements := fun w h => List.mem_cons_of_mem _ (List.mem_append_right _ h)
  replace hl : lv_has ls 3 [(0, .ref (aD 0)), (1, .int x1), (2, .int x2)] := hl
  have h := hsem
  clear hsem
  rw [S_Shelf_hasElements] at h
  refine lv_iload_n hx hb dX9_hasElements_0 rfl (lv_at hl 1 rfl) ?_
  refine lv_if_lt (tgt := 30) hx hb dX9_hasElements_1 (by decide) (fun c1 => ?_) (fun c1 => ?_)
  · have h := k_pos c1 h
    refine lv_iconst (v := 0) hx hb dX9_hasElements_30 (by decide) ?_
    cases h
    exact hret _ _ _ _ rfl hP hS dX9_hasElements_31
  · have h := k_neg c1 h
    refine lv_iload_n hx hb dX9_hasElements_4 rfl (lv_at hl 2 rfl) ?_
    refine lv_if_lt (tgt := 30) hx hb dX9_hasElements_5 (by decide) (fun c5 => ?_) (fun c5 => ?_)
    · have h := k_pos c5 h
      refine lv_iconst (v := 0) hx hb dX9_hasElements_30 (by decide) ?_
      cases h
      exact hret _ _ _ _ rfl hP hS dX9_hasElements_31
    · have h := k_neg c5 h
      refine lv_iload_n hx hb dX9_hasElements_8 rfl (lv_at hl 1 rfl) ?_
      refine lv_aload_n hx hb dX9_hasElements_9 rfl (lv_at hl 0 rfl) ?_
      refine va_get (D := D) (ci := 9) (v := .int d_size) (C := RX9) (T := TX9) (N := 7) hx hb hts hiX9 hown hK hP 0 rfl rfl 4 (by decide) hf42 (fun _ z => z) rfl dX9_hasElements_10 ?_
      refine lv_icmp_gt (tgt := 30) hx hb dX9_hasElements_13 (by decide) (fun c13 => ?_) (fun c13 => ?_)
      · have h := k_pos c13 h
        refine lv_iconst (v := 0) hx hb dX9_hasElements_30 (by decide) ?_
        cases h
        exact hret _ _ _ _ rfl hP hS dX9_hasElements_31
      · have h := k_neg c13 h
        refine lv_iload_n hx hb dX9_hasElements_16 rfl (lv_at hl 2 rfl) ?_
        refine lv_aload_n hx hb dX9_hasElements_17 rfl (lv_at hl 0 rfl) ?_
        refine va_get (D := D) (ci := 9) (v := .int d_size) (C := RX9) (T := TX9) (N := 7) hx hb hts hiX9 hown hK hP 0 rfl rfl 4 (by decide) hf42 (fun _ z => z) rfl dX9_hasElements_18 ?_
        refine lv_iload_n hx hb dX9_hasElements_21 rfl (lv_at hl 1 rfl) ?_
        refine lv_isub hx hb dX9_hasElements_22 ?_
        refine lv_icmp_gt (tgt := 30) hx hb dX9_hasElements_23 (by decide) (fun c23 => ?_) (fun c23 => ?_)
        · have h := k_pos c23 h
          refine lv_iconst (v := 0) hx hb dX9_hasElements_30 (by decide) ?_
          cases h
          exact hret _ _ _ _ rfl hP hS dX9_hasElements_31
        · have h := k_neg c23 h
          refine lv_iconst (v := 1) hx hb dX9_hasElements_26 (by decide) ?_
          refine lv_goto (tgt := 31) hx hb dX9_hasElements_27 (by decide) ?_
          cases h
          exact hret _ _ _ _ rfl hP hS dX9_hasElements_31
abbrev rm_X9_sets : Room := { frames := 0, cells := 0, slots := 0, locals := 0 }
set_option maxHeartbeats 4000000 in
set_option maxRecDepth 100000 in
theorem c_Shelf_sets (l : Launch) (D : va_G) (cI cM cS cJ : ClassId) (aD : Nat → Nat) (aK : Nat → Nat) (sz : Nat) (x1 : Int32) (x2 : Int32) (d_kind : Int32) (d_figure : Int32) (d_sort : Int32) (d_size : Int32) (d_held : Int32) (d_el : Nat → Int32) {o : (Nat → Int32)} (hsem : S_Shelf_sets x1 x2 d_sort d_el = some o) : kMet l yX9_sets wsX9_sets rm_X9_sets [.ref (aD 0), .int x1, .int x2] D (kT cI cM cS cJ) (Wd4 cI aD aK d_kind d_figure d_sort d_size d_held d_el) sz none (Wd4 cI aD aK d_kind d_figure d_sort d_size d_held o) := by
  refine k_metV (by decide) rfl rfl (Nat.le_of_ble_eq_true rfl) ?_
  intro p e s m below meth c ls Q A hx hb hml hts hown hK hN hA hP hD hS hl hsz hnm hret
  have hown : s.vm.findClass RX9 = some m.cls := hown
  have hf9 := hts (.fieldLink RX9 9 "PlumbLine$Shelf" "elements" "[I") (List.mem_of_getElem? (i := 1) rfl)
  have hf39 := hts (.fieldLink RX9 39 "PlumbLine$Shelf" "sort" "I") (List.mem_of_getElem? (i := 2) rfl)
  have hiX9 : ∀ w ∈ u_ws RX9 TX9 7, w ∈ wsX9_sets := fun w h => List.mem_cons_of_mem _ (List.mem_append_right _ h)
  replace hl : lv_has ls 3 [(0, .ref (aD 0)), (1, .int x1), (2, .int x2)] := hl
  have h := hsem
  clear hsem
  rw [S_Shelf_sets] at h
  refine lv_aload_n hx hb dX9_sets_0 rfl (lv_at hl 0 rfl) ?_
  refine va_get (D := D) (ci := 9) (v := .ref (aD 1)) (C := RX9) (T := TX9) (N := 7) hx hb hts hiX9 hown hK hP 0 rfl rfl 0 (by decide) hf9 (fun _ z => z) rfl dX9_sets_1 ?_
  refine lv_iload_n hx hb dX9_sets_4 rfl (lv_at hl 1 rfl) ?_
  refine lv_aload_n hx hb dX9_sets_5 rfl (lv_at hl 0 rfl) ?_
  refine va_get (D := D) (ci := 9) (v := .int d_sort) (C := RX9) (T := TX9) (N := 7) hx hb hts hiX9 hown hK hP 0 rfl rfl 3 (by decide) hf39 (fun _ z => z) rfl dX9_sets_6 ?_
  refine lv_if_ne (tgt := 17) hx hb dX9_sets_9 (by decide) (fun c9 => ?_) (fun c9 => ?_)
  · have h := k_neg c9 h
    refine lv_aload_n hx hb dX9_sets_17 rfl (lv_at hl 0 rfl) ?_
    refine va_get (D := D) (ci := 9) (v := .int d_sort) (C := RX9) (T := TX9) (N := 7) hx hb hts hiX9 hown hK hP 0 rfl rfl 3 (by decide) hf39 (fun _ z => z) rfl dX9_sets_18 ?_
    refine lv_iconst (v := 1) hx hb dX9_sets_21 (by decide) ?_
    refine lv_icmp_ne (tgt := 30) hx hb dX9_sets_22 (by decide) (fun c22 => ?_) (fun c22 => ?_)
    · have h := k_neg c22 h
      refine lv_iload_n hx hb dX9_sets_30 rfl (lv_at hl 2 rfl) ?_
      obtain ⟨g31, h⟩ := k_guard h
      refine va_iast hx hb hK hP hD hS 1 0 rfl rfl g31 dX9_sets_31 (fun H locs hP hD hS => ?_)
      replace hP : va_P D vwCl (Wd4 cI aD aK d_kind d_figure d_sort d_size d_held (upd d_el x1.toNatClampNeg x2)) H := hP
      replace hD : va_D A (Wd4 cI aD aK d_kind d_figure d_sort d_size d_held (upd d_el x1.toNatClampNeg x2)) := hD
      cases h
      exact hret _ _ _ _ hP hS dX9_sets_32
    · have h := k_pos c22 h
      refine lv_iload_n hx hb dX9_sets_25 rfl (lv_at hl 2 rfl) ?_
      refine lv_i2s (v := (x2 : Int32).toInt16.toInt32) hx hb dX9_sets_26 rfl ?_
      refine lv_goto (tgt := 31) hx hb dX9_sets_27 (by decide) ?_
      obtain ⟨g31, h⟩ := k_guard h
      refine va_iast hx hb hK hP hD hS 1 0 rfl rfl g31 dX9_sets_31 (fun H locs hP hD hS => ?_)
      replace hP : va_P D vwCl (Wd4 cI aD aK d_kind d_figure d_sort d_size d_held (upd d_el x1.toNatClampNeg (x2 : Int32).toInt16.toInt32)) H := hP
      replace hD : va_D A (Wd4 cI aD aK d_kind d_figure d_sort d_size d_held (upd d_el x1.toNatClampNeg (x2 : Int32).toInt16.toInt32)) := hD
      cases h
      exact hret _ _ _ _ hP hS dX9_sets_32
  · have h := k_pos c9 h
    refine lv_iload_n hx hb dX9_sets_12 rfl (lv_at hl 2 rfl) ?_
    refine lv_i2b (v := (x2 : Int32).toInt8.toInt32) hx hb dX9_sets_13 rfl ?_
    refine lv_goto (tgt := 31) hx hb dX9_sets_14 (by decide) ?_
    obtain ⟨g31, h⟩ := k_guard h
    refine va_iast hx hb hK hP hD hS 1 0 rfl rfl g31 dX9_sets_31 (fun H locs hP hD hS => ?_)
    replace hP : va_P D vwCl (Wd4 cI aD aK d_kind d_figure d_sort d_size d_held (upd d_el x1.toNatClampNeg (x2 : Int32).toInt8.toInt32)) H := hP
    replace hD : va_D A (Wd4 cI aD aK d_kind d_figure d_sort d_size d_held (upd d_el x1.toNatClampNeg (x2 : Int32).toInt8.toInt32)) := hD
    cases h
    exact hret _ _ _ _ hP hS dX9_sets_32
abbrev rm_X9_leastOfSort : Room := { frames := 0, cells := 0, slots := 0, locals := 0 }
set_option maxHeartbeats 4000000 in
set_option maxRecDepth 100000 in
theorem c_Shelf_leastOfSort (l : Launch) (D : va_G) (cI cM cS cJ : ClassId) (aD : Nat → Nat) (aK : Nat → Nat) (sz : Nat) (d_kind : Int32) (d_figure : Int32) (d_sort : Int32) (d_size : Int32) (d_held : Int32) {o : (Int32)} (hsem : S_Shelf_leastOfSort d_sort = o) : kMet l yX9_leastOfSort wsX9_leastOfSort rm_X9_leastOfSort [.ref (aD 0)] D (kT cI cM cS cJ) (Wd2 aD aK d_kind d_figure d_sort d_size d_held) sz (some (.int o)) (Wd2 aD aK d_kind d_figure d_sort d_size d_held) := by
  refine k_metI (by decide) rfl rfl (Nat.le_of_ble_eq_true rfl) ?_
  intro p e s m below meth c ls Q A hx hb hml hts hown hK hN hA hP hD hS hl hsz hnm hret
  have hown : s.vm.findClass RX9 = some m.cls := hown
  have hf39 := hts (.fieldLink RX9 39 "PlumbLine$Shelf" "sort" "I") (List.mem_of_getElem? (i := 1) rfl)
  have hiX9 : ∀ w ∈ u_ws RX9 TX9 7, w ∈ wsX9_leastOfSort := fun w h => List.mem_cons_of_mem _ (List.mem_append_right _ h)
  replace hl : lv_has ls 1 [(0, .ref (aD 0))] := hl
  have h := hsem
  clear hsem
  rw [S_Shelf_leastOfSort] at h
  refine lv_aload_n hx hb dX9_leastOfSort_0 rfl (lv_at hl 0 rfl) ?_
  refine va_get (D := D) (ci := 9) (v := .int d_sort) (C := RX9) (T := TX9) (N := 7) hx hb hts hiX9 hown hK hP 0 rfl rfl 3 (by decide) hf39 (fun _ z => z) rfl dX9_leastOfSort_1 ?_
  refine lv_if_ne (tgt := 12) hx hb dX9_leastOfSort_4 (by decide) (fun c4 => ?_) (fun c4 => ?_)
  · have h := k_neg c4 h
    refine lv_aload_n hx hb dX9_leastOfSort_12 rfl (lv_at hl 0 rfl) ?_
    refine va_get (D := D) (ci := 9) (v := .int d_sort) (C := RX9) (T := TX9) (N := 7) hx hb hts hiX9 hown hK hP 0 rfl rfl 3 (by decide) hf39 (fun _ z => z) rfl dX9_leastOfSort_13 ?_
    refine lv_iconst (v := 1) hx hb dX9_leastOfSort_16 (by decide) ?_
    refine lv_icmp_ne (tgt := 26) hx hb dX9_leastOfSort_17 (by decide) (fun c17 => ?_) (fun c17 => ?_)
    · have h := k_neg c17 h
      refine lv_ldc (v := (-2147483648)) hx hb hown (hts (.constant RX9 45 (-2147483648)) (List.mem_of_getElem? (i := 2) rfl)) dX9_leastOfSort_26 ?_
      cases h
      exact hret _ _ _ _ hP hS dX9_leastOfSort_28
    · have h := k_pos c17 h
      refine lv_sipush (v := (-32768)) hx hb dX9_leastOfSort_20 (by decide) ?_
      refine lv_goto (tgt := 28) hx hb dX9_leastOfSort_23 (by decide) ?_
      cases h
      exact hret _ _ _ _ hP hS dX9_leastOfSort_28
  · have h := k_pos c4 h
    refine lv_bipush (v := (-128)) hx hb dX9_leastOfSort_7 (by decide) ?_
    refine lv_goto (tgt := 28) hx hb dX9_leastOfSort_9 (by decide) ?_
    cases h
    exact hret _ _ _ _ hP hS dX9_leastOfSort_28
theorem kdV_X9_leastOfSort : yX9_leastOfSort.cls = RX9 ∧ yX9_leastOfSort.cls ≠ "java/lang/invoke/MethodHandle" ∧ yX9_leastOfSort.cls ≠ "java/lang/invoke/VarHandle" ∧ (parseMethodDescriptor yX9_leastOfSort.desc).map (fun d => d.parameters.length) = some 0 := by decide +kernel
abbrev rm_X9_agrees : Room := { frames := 1, cells := 0, slots := 0, locals := 20 }
set_option maxHeartbeats 4000000 in
set_option maxRecDepth 100000 in
theorem c_Shelf_agrees (l : Launch) (D : va_G) (cI cM cS cJ : ClassId) (aD : Nat → Nat) (aK : Nat → Nat) (sz : Nat) (x1 : Int32) (x2 : Int32) (d_kind : Int32) (d_figure : Int32) (d_sort : Int32) (d_size : Int32) (d_held : Int32) (d_el : Nat → Int32) {o : (Int32)} (hsem : S_Shelf_agrees x1 x2 d_sort d_el = some o) : kMet l yX9_agrees wsX9_agrees rm_X9_agrees [.ref (aD 0), .int x1, .int x2] D (kT cI cM cS cJ) (Wd4 cI aD aK d_kind d_figure d_sort d_size d_held d_el) sz (some (.int o)) (Wd4 cI aD aK d_kind d_figure d_sort d_size d_held d_el) := by
  refine k_metZ (by decide) rfl rfl (Nat.le_of_ble_eq_true rfl) ?_
  intro p e s m below meth c ls Q A hx hb hml hts hown hK hN hA hP hD hS hl hsz hnm hret
  have hown : s.vm.findClass RX9 = some m.cls := hown
  have hf9 := hts (.fieldLink RX9 9 "PlumbLine$Shelf" "elements" "[I") (List.mem_of_getElem? (i := 1) rfl)
  have hiX9 : ∀ w ∈ u_ws RX9 TX9 7, w ∈ wsX9_agrees := fun w h => List.mem_cons_of_mem _ (List.mem_append_right _ h)
  replace hl : lv_has ls 3 [(0, .ref (aD 0)), (1, .int x1), (2, .int x2)] := hl
  have h := hsem
  clear hsem
  rw [S_Shelf_agrees] at h
  refine lv_aload_n hx hb dX9_agrees_0 rfl (lv_at hl 0 rfl) ?_
  refine va_get (D := D) (ci := 9) (v := .ref (aD 1)) (C := RX9) (T := TX9) (N := 7) hx hb hts hiX9 hown hK hP 0 rfl rfl 0 (by decide) hf9 (fun _ z => z) rfl dX9_agrees_1 ?_
  refine lv_iload_n hx hb dX9_agrees_4 rfl (lv_at hl 1 rfl) ?_
  obtain ⟨g5, h⟩ := k_guard h
  refine va_iald hx hb hK hP 1 0 rfl rfl g5 dX9_agrees_5 ?_
  refine lv_iload_n hx hb dX9_agrees_6 rfl (lv_at hl 2 rfl) ?_
  refine lv_icmp_eq (tgt := 23) hx hb dX9_agrees_7 (by decide) (fun c7 => ?_) (fun c7 => ?_)
  · have h := k_pos c7 h
    refine lv_iconst (v := 1) hx hb dX9_agrees_23 (by decide) ?_
    refine lv_goto (tgt := 28) hx hb dX9_agrees_24 (by decide) ?_
    cases h
    exact hret _ _ _ _ rfl hP hS dX9_agrees_28
  · have h := k_neg c7 h
    refine lv_aload_n hx hb dX9_agrees_10 rfl (lv_at hl 0 rfl) ?_
    refine va_get (D := D) (ci := 9) (v := .ref (aD 1)) (C := RX9) (T := TX9) (N := 7) hx hb hts hiX9 hown hK hP 0 rfl rfl 0 (by decide) hf9 (fun _ z => z) rfl dX9_agrees_11 ?_
    refine lv_iload_n hx hb dX9_agrees_14 rfl (lv_at hl 1 rfl) ?_
    refine va_iald hx hb hK hP 1 0 rfl rfl g5 dX9_agrees_15 ?_
    refine lv_aload_n hx hb dX9_agrees_16 rfl (lv_at hl 0 rfl) ?_
    refine k_callV (As := []) (rest := [.int (d_el x1.toNatClampNeg)]) (st1 := [.int (S_Shelf_leastOfSort d_sort), .int (d_el x1.toNatClampNeg)]) (ws2 := (Wd4 cI aD aK d_kind d_figure d_sort d_size d_held d_el)) hx hb hml hown hts hK hN hA hP hD hS hl (c_Shelf_leastOfSort l D cI cM cS cJ aD aK s.heap.size d_kind d_figure d_sort d_size d_held rfl) gX9_agrees_X9_leastOfSort rfl kdV_X9_leastOfSort 0 9 rfl rfl rfl [0] ⟨rfl, rfl⟩ ⟨Nat.le_of_ble_eq_true rfl, Nat.le_of_ble_eq_true rfl⟩ ⟨Nat.zero_le _, Nat.zero_le _⟩ rfl rfl (by decide +kernel) (k_rp rfl (by decide +kernel)) rfl rfl (Nat.le_of_ble_eq_true rfl) dX9_agrees_17 rfl (fun H locs hP hD hS => ?_)
    refine lv_icmp_ne (tgt := 27) hx hb dX9_agrees_20 (by decide) (fun c20 => ?_) (fun c20 => ?_)
    · have h := k_neg c20 h
      refine lv_iconst (v := 0) hx hb dX9_agrees_27 (by decide) ?_
      cases h
      exact hret _ _ _ _ rfl hP hS dX9_agrees_28
    · have h := k_pos c20 h
      refine lv_iconst (v := 1) hx hb dX9_agrees_23 (by decide) ?_
      refine lv_goto (tgt := 28) hx hb dX9_agrees_24 (by decide) ?_
      cases h
      exact hret _ _ _ _ rfl hP hS dX9_agrees_28
abbrev rm_X9_isText : Room := { frames := 0, cells := 0, slots := 0, locals := 0 }
set_option maxHeartbeats 4000000 in
set_option maxRecDepth 100000 in
theorem c_Shelf_isText (l : Launch) (D : va_G) (cI cM cS cJ : ClassId) (aD : Nat → Nat) (aK : Nat → Nat) (sz : Nat) (d_kind : Int32) (d_figure : Int32) (d_sort : Int32) (d_size : Int32) (d_held : Int32) {o : (Int32)} (hsem : S_Shelf_isText d_sort = o) : kMet l yX9_isText wsX9_isText rm_X9_isText [.ref (aD 0)] D (kT cI cM cS cJ) (Wd2 aD aK d_kind d_figure d_sort d_size d_held) sz (some (.int o)) (Wd2 aD aK d_kind d_figure d_sort d_size d_held) := by
  refine k_metZ (by decide) rfl rfl (Nat.le_of_ble_eq_true rfl) ?_
  intro p e s m below meth c ls Q A hx hb hml hts hown hK hN hA hP hD hS hl hsz hnm hret
  have hown : s.vm.findClass RX9 = some m.cls := hown
  have hf39 := hts (.fieldLink RX9 39 "PlumbLine$Shelf" "sort" "I") (List.mem_of_getElem? (i := 1) rfl)
  have hiX9 : ∀ w ∈ u_ws RX9 TX9 7, w ∈ wsX9_isText := fun w h => List.mem_cons_of_mem _ (List.mem_append_right _ h)
  replace hl : lv_has ls 1 [(0, .ref (aD 0))] := hl
  have h := hsem
  clear hsem
  rw [S_Shelf_isText] at h
  refine lv_aload_n hx hb dX9_isText_0 rfl (lv_at hl 0 rfl) ?_
  refine va_get (D := D) (ci := 9) (v := .int d_sort) (C := RX9) (T := TX9) (N := 7) hx hb hts hiX9 hown hK hP 0 rfl rfl 3 (by decide) hf39 (fun _ z => z) rfl dX9_isText_1 ?_
  refine lv_if_ne (tgt := 11) hx hb dX9_isText_4 (by decide) (fun c4 => ?_) (fun c4 => ?_)
  · have h := k_neg c4 h
    refine lv_iconst (v := 0) hx hb dX9_isText_11 (by decide) ?_
    cases h
    exact hret _ _ _ _ rfl hP hS dX9_isText_12
  · have h := k_pos c4 h
    refine lv_iconst (v := 1) hx hb dX9_isText_7 (by decide) ?_
    refine lv_goto (tgt := 12) hx hb dX9_isText_8 (by decide) ?_
    cases h
    exact hret _ _ _ _ rfl hP hS dX9_isText_12
abbrev rm_X9_digitsBehind : Room := { frames := 0, cells := 0, slots := 0, locals := 0 }
set_option maxHeartbeats 4000000 in
set_option maxRecDepth 100000 in
theorem c_Shelf_digitsBehind (l : Launch) (D : va_G) (cI cM cS cJ : ClassId) (sz : Nat) (x0 : Int32) {o : (Int32)} (hsem : S_Shelf_digitsBehind x0 = o) : kMet l yX9_digitsBehind wsX9_digitsBehind rm_X9_digitsBehind [.int x0] D (kT cI cM cS cJ) (Wd0) sz (some (.int o)) (Wd0) := by
  refine k_metI (by decide) rfl rfl (Nat.le_of_ble_eq_true rfl) ?_
  intro p e s m below meth c ls Q A hx hb hml hts hown hK hN hA hP hD hS hl hsz hnm hret
  have hown : s.vm.findClass RX9 = some m.cls := hown
  replace hl : lv_has ls 1 [(0, .int x0)] := hl
  have h := hsem
  clear hsem
  rw [S_Shelf_digitsBehind] at h
  refine lv_iload_n hx hb dX9_digitsBehind_0 rfl (lv_at hl 0 rfl) ?_
  by_cases s1_100 : x0 = 100
  · refine k_lkI (tgt := 60) (v := 100) hx hb dX9_digitsBehind_1 s1_100 rfl rfl (by decide) ?_
    have h := k_pos s1_100 h
    refine lv_iconst (v := 2) hx hb dX9_digitsBehind_60 (by decide) ?_
    cases h
    exact hret _ _ _ _ hP hS dX9_digitsBehind_61
  · have h := k_neg s1_100 h
    by_cases s1_108 : x0 = 108
    · refine k_lkI (tgt := 54) (v := 108) hx hb dX9_digitsBehind_1 s1_108 rfl rfl (by decide) ?_
      have h := k_pos s1_108 h
      refine lv_iconst (v := 3) hx hb dX9_digitsBehind_54 (by decide) ?_
      cases h
      exact hret _ _ _ _ hP hS dX9_digitsBehind_55
    · have h := k_neg s1_108 h
      by_cases s1_109 : x0 = 109
      · refine k_lkI (tgt := 52) (v := 109) hx hb dX9_digitsBehind_1 s1_109 rfl rfl (by decide) ?_
        have h := k_pos s1_109 h
        refine lv_iconst (v := 4) hx hb dX9_digitsBehind_52 (by decide) ?_
        cases h
        exact hret _ _ _ _ hP hS dX9_digitsBehind_53
      · have h := k_neg s1_109 h
        by_cases s1_114 : x0 = 114
        · refine k_lkI (tgt := 56) (v := 114) hx hb dX9_digitsBehind_1 s1_114 rfl rfl (by decide) ?_
          have h := k_pos s1_114 h
          refine lv_iconst (v := 1) hx hb dX9_digitsBehind_56 (by decide) ?_
          cases h
          exact hret _ _ _ _ hP hS dX9_digitsBehind_57
        · have h := k_neg s1_114 h
          by_cases s1_119 : x0 = 119
          · refine k_lkI (tgt := 58) (v := 119) hx hb dX9_digitsBehind_1 s1_119 rfl rfl (by decide) ?_
            have h := k_pos s1_119 h
            refine lv_iconst (v := 2) hx hb dX9_digitsBehind_58 (by decide) ?_
            cases h
            exact hret _ _ _ _ hP hS dX9_digitsBehind_59
          · have h := k_neg s1_119 h
            refine lv_lookup (tgt := 62) hx hb dX9_digitsBehind_1 rfl (k_lkN _ _ _ (List.forall_mem_cons.mpr ⟨k_ne s1_100 rfl, (List.forall_mem_cons.mpr ⟨k_ne s1_108 rfl, (List.forall_mem_cons.mpr ⟨k_ne s1_109 rfl, (List.forall_mem_cons.mpr ⟨k_ne s1_114 rfl, (List.forall_mem_cons.mpr ⟨k_ne s1_119 rfl, (fun _ z => absurd z List.not_mem_nil)⟩)⟩)⟩)⟩)⟩)) (by decide) ?_
            refine lv_iconst (v := 0) hx hb dX9_digitsBehind_62 (by decide) ?_
            cases h
            exact hret _ _ _ _ hP hS dX9_digitsBehind_63
theorem kdS_X9_digitsBehind : yX9_digitsBehind.cls ≠ "java/lang/invoke/MethodHandle" ∧ yX9_digitsBehind.cls ≠ "java/lang/invoke/VarHandle" ∧ (parseMethodDescriptor yX9_digitsBehind.desc).map (fun d => d.parameters.length) = some 1 := by decide +kernel
abbrev rm_X9_lengthBy : Room := { frames := 1, cells := 0, slots := 0, locals := 20 }
set_option maxHeartbeats 4000000 in
set_option maxRecDepth 100000 in
theorem c_Shelf_lengthBy (l : Launch) (D : va_G) (cI cM cS cJ : ClassId) (sz : Nat) (x0 : Int32) {o : (Int32)} (hsem : S_Shelf_lengthBy x0 = o) : kMet l yX9_lengthBy wsX9_lengthBy rm_X9_lengthBy [.int x0] D (kT cI cM cS cJ) (Wd0) sz (some (.int o)) (Wd0) := by
  refine k_metI (by decide) rfl rfl (Nat.le_of_ble_eq_true rfl) ?_
  intro p e s m below meth c ls Q A hx hb hml hts hown hK hN hA hP hD hS hl hsz hnm hret
  have hown : s.vm.findClass RX9 = some m.cls := hown
  replace hl : lv_has ls 1 [(0, .int x0)] := hl
  have h := hsem
  clear hsem
  rw [S_Shelf_lengthBy] at h
  refine lv_iload_n hx hb dX9_lengthBy_0 rfl (lv_at hl 0 rfl) ?_
  refine k_callS (As := [.int x0]) (rest := []) (st1 := [.int (S_Shelf_digitsBehind x0)]) (ws2 := (Wd0)) hx hb hml hown hts hK hN hA hP hD hS hl (c_Shelf_digitsBehind l D cI cM cS cJ s.heap.size x0 rfl) gX9_lengthBy_X9_digitsBehind rfl kdS_X9_digitsBehind [] ⟨rfl, rfl⟩ ⟨Nat.le_of_ble_eq_true rfl, Nat.le_of_ble_eq_true rfl⟩ ⟨Nat.zero_le _, Nat.zero_le _⟩ rfl rfl (by decide +kernel) (k_rp rfl (by decide +kernel)) rfl rfl (Nat.le_of_ble_eq_true rfl) dX9_lengthBy_1 rfl (fun H locs hP hD hS => ?_)
  refine lv_iconst (v := 2) hx hb dX9_lengthBy_4 (by decide) ?_
  refine lv_iadd hx hb dX9_lengthBy_5 ?_
  cases h
  exact hret _ _ _ _ hP hS dX9_lengthBy_6
theorem kdV_X9_hasElement : yX9_hasElement.cls = RX9 ∧ yX9_hasElement.cls ≠ "java/lang/invoke/MethodHandle" ∧ yX9_hasElement.cls ≠ "java/lang/invoke/VarHandle" ∧ (parseMethodDescriptor yX9_hasElement.desc).map (fun d => d.parameters.length) = some 1 := by decide +kernel
theorem kdS_X9_lengthBy : yX9_lengthBy.cls ≠ "java/lang/invoke/MethodHandle" ∧ yX9_lengthBy.cls ≠ "java/lang/invoke/VarHandle" ∧ (parseMethodDescriptor yX9_lengthBy.desc).map (fun d => d.parameters.length) = some 1 := by decide +kernel
abbrev rm_X9_faultOfStatement : Room := { frames := 2, cells := 0, slots := 0, locals := 40 }
set_option maxHeartbeats 4000000 in
set_option maxRecDepth 100000 in
theorem c_Shelf_faultOfStatement (l : Launch) (D : va_G) (cI cM cS cJ : ClassId) (aD : Nat → Nat) (aK : Nat → Nat) (sz : Nat) (x1 : Int32) (d_kind : Int32) (d_figure : Int32) (d_sort : Int32) (d_size : Int32) (d_held : Int32) (d_el : Nat → Int32) {o : (Int32)} (hsem : S_Shelf_faultOfStatement x1 d_size d_el = some o) : kMet l yX9_faultOfStatement wsX9_faultOfStatement rm_X9_faultOfStatement [.ref (aD 0), .int x1] D (kT cI cM cS cJ) (Wd4 cI aD aK d_kind d_figure d_sort d_size d_held d_el) sz (some (.int o)) (Wd4 cI aD aK d_kind d_figure d_sort d_size d_held d_el) := by
  refine k_metI (by decide) rfl rfl (Nat.le_of_ble_eq_true rfl) ?_
  intro p e s m below meth c ls Q A hx hb hml hts hown hK hN hA hP hD hS hl hsz hnm hret
  have hown : s.vm.findClass RX9 = some m.cls := hown
  have hf9 := hts (.fieldLink RX9 9 "PlumbLine$Shelf" "elements" "[I") (List.mem_of_getElem? (i := 1) rfl)
  have hiX9 : ∀ w ∈ u_ws RX9 TX9 7, w ∈ wsX9_faultOfStatement := fun w h => List.mem_cons_of_mem _ (List.mem_append_right _ h)
  replace hl : lv_has ls 4 [(0, .ref (aD 0)), (1, .int x1)] := hl
  have h := hsem
  clear hsem
  rw [S_Shelf_faultOfStatement] at h
  refine lv_aload_n hx hb dX9_faultOfStatement_0 rfl (lv_at hl 0 rfl) ?_
  refine lv_iload_n hx hb dX9_faultOfStatement_1 rfl (lv_at hl 1 rfl) ?_
  refine k_callV (As := [.int x1]) (rest := []) (st1 := [.int (S_Shelf_hasElement x1 d_size)]) (ws2 := (Wd4 cI aD aK d_kind d_figure d_sort d_size d_held d_el)) hx hb hml hown hts hK hN hA hP hD hS hl (c_Shelf_hasElement l D cI cM cS cJ aD aK s.heap.size x1 d_kind d_figure d_sort d_size d_held rfl) gX9_faultOfStatement_X9_hasElement rfl kdV_X9_hasElement 0 9 rfl rfl rfl [0] ⟨rfl, rfl⟩ ⟨Nat.le_of_ble_eq_true rfl, Nat.le_of_ble_eq_true rfl⟩ ⟨Nat.zero_le _, Nat.zero_le _⟩ rfl rfl (by decide +kernel) (k_rp rfl (by decide +kernel)) rfl rfl (Nat.le_of_ble_eq_true rfl) dX9_faultOfStatement_2 rfl (fun H locs hP hD hS => ?_)
  refine lv_if_eq (tgt := 20) hx hb dX9_faultOfStatement_5 (by decide) (fun c5 => ?_) (fun c5 => ?_)
  · have h := k_pos c5 h
    refine lv_iload_n hx hb dX9_faultOfStatement_20 rfl (lv_at hl 1 rfl) ?_
    cases h
    exact hret _ _ _ _ hP hS dX9_faultOfStatement_21
  · have h := k_neg c5 h
    refine lv_aload_n hx hb dX9_faultOfStatement_8 rfl (lv_at hl 0 rfl) ?_
    refine va_get (D := D) (ci := 9) (v := .ref (aD 1)) (C := RX9) (T := TX9) (N := 7) hx hb hts hiX9 hown hK hP 0 rfl rfl 0 (by decide) hf9 (fun _ z => z) rfl dX9_faultOfStatement_9 ?_
    refine lv_iload_n hx hb dX9_faultOfStatement_12 rfl (lv_at hl 1 rfl) ?_
    obtain ⟨g13, h⟩ := k_guard h
    refine va_iald hx hb hK hP 1 0 rfl rfl g13 dX9_faultOfStatement_13 ?_
    refine k_callS (As := [.int (d_el x1.toNatClampNeg)]) (rest := []) (st1 := [.int (S_Shelf_digitsBehind (d_el x1.toNatClampNeg))]) (ws2 := (Wd4 cI aD aK d_kind d_figure d_sort d_size d_held d_el)) hx hb hml hown hts hK hN hA hP hD hS hl (c_Shelf_digitsBehind l D cI cM cS cJ H.size (d_el x1.toNatClampNeg) rfl) gX9_faultOfStatement_X9_digitsBehind rfl kdS_X9_digitsBehind [] ⟨rfl, rfl⟩ ⟨Nat.le_of_ble_eq_true rfl, Nat.le_of_ble_eq_true rfl⟩ ⟨Nat.zero_le _, Nat.zero_le _⟩ rfl rfl (by decide +kernel) (k_rp rfl (by decide +kernel)) rfl rfl (Nat.le_of_ble_eq_true rfl) dX9_faultOfStatement_14 rfl (fun H locs hP hD hS => ?_)
    refine lv_if_ne (tgt := 22) hx hb dX9_faultOfStatement_17 (by decide) (fun c17 => ?_) (fun c17 => ?_)
    · have h := k_neg c17 h
      refine lv_iload_n hx hb dX9_faultOfStatement_22 rfl (lv_at hl 1 rfl) ?_
      refine lv_aload_n hx hb dX9_faultOfStatement_23 rfl (lv_at hl 0 rfl) ?_
      refine va_get (D := D) (ci := 9) (v := .ref (aD 1)) (C := RX9) (T := TX9) (N := 7) hx hb hts hiX9 hown hK hP 0 rfl rfl 0 (by decide) hf9 (fun _ z => z) rfl dX9_faultOfStatement_24 ?_
      refine lv_iload_n hx hb dX9_faultOfStatement_27 rfl (lv_at hl 1 rfl) ?_
      refine va_iald hx hb hK hP 1 0 rfl rfl g13 dX9_faultOfStatement_28 ?_
      refine k_callS (As := [.int (d_el x1.toNatClampNeg)]) (rest := [.int x1]) (st1 := [.int (S_Shelf_lengthBy (d_el x1.toNatClampNeg)), .int x1]) (ws2 := (Wd4 cI aD aK d_kind d_figure d_sort d_size d_held d_el)) hx hb hml hown hts hK hN hA hP hD hS hl (c_Shelf_lengthBy l D cI cM cS cJ H.size (d_el x1.toNatClampNeg) rfl) gX9_faultOfStatement_X9_lengthBy rfl kdS_X9_lengthBy [] ⟨rfl, rfl⟩ ⟨Nat.le_of_ble_eq_true rfl, Nat.le_of_ble_eq_true rfl⟩ ⟨Nat.zero_le _, Nat.zero_le _⟩ rfl rfl (by decide +kernel) (k_rp rfl (by decide +kernel)) rfl rfl (Nat.le_of_ble_eq_true rfl) dX9_faultOfStatement_29 rfl (fun H locs hP hD hS => ?_)
      refine lv_iadd hx hb dX9_faultOfStatement_32 ?_
      refine lv_iconst (v := 1) hx hb dX9_faultOfStatement_33 (by decide) ?_
      refine lv_isub hx hb dX9_faultOfStatement_34 ?_
      refine lv_istore_n (lv' := [(2, .int ((x1 + (S_Shelf_lengthBy (d_el x1.toNatClampNeg))) - 1)), (0, .ref (aD 0)), (1, .int x1)]) hx hb dX9_faultOfStatement_35 rfl hl (by decide) rfl (fun ls hl => ?_)
      refine lv_iload_n hx hb dX9_faultOfStatement_36 rfl (lv_at hl 2 rfl) ?_
      refine lv_iconst (v := 1) hx hb dX9_faultOfStatement_37 (by decide) ?_
      refine lv_iadd hx hb dX9_faultOfStatement_38 ?_
      have B40 : ∀ (y2 : Int32) (n40 : Nat) (y3 : Int32) (H : Heap) (locs : List Loc) (ls : Array Slot), va_P D vwCl (Wd4 cI aD aK d_kind d_figure d_sort d_size d_held d_el) H → va_D A (Wd4 cI aD aK d_kind d_figure d_sort d_size d_held d_el) → va_S A s.heap H locs → lv_has ls 4 [(0, .ref (aD 0)), (2, .int y2), (3, .int y3)] → S_Shelf_faultOfStatement_L40 y2 d_size d_el n40 y3 = some o → W p l e rm_X9_faultOfStatement s m ([.ref (aD 0), .int x1] : List Value).toArray below meth c H locs 0 0 Q (F0 m 40 ls []) := by
        intro y2
        intro n40
        induction n40 with
        | zero => intro y3 H locs ls hP hD hS hl h; exact absurd h (by simp [S_Shelf_faultOfStatement_L40])
        | succ n40 ih40 =>
          intro y3 H locs ls hP hD hS hl h
          rw [S_Shelf_faultOfStatement_L40] at h
          refine lv_iload_n hx hb dX9_faultOfStatement_40 rfl (lv_at hl 2 rfl) ?_
          refine lv_iload_n hx hb dX9_faultOfStatement_41 rfl (lv_at hl 1 rfl) ?_
          refine lv_icmp_ge (tgt := 77) hx hb dX9_faultOfStatement_42 (by decide) (fun c42 => ?_) (fun c42 => ?_)
          · have h := k_pos c42 h
            refine lv_aload_n hx hb dX9_faultOfStatement_77 rfl (lv_at hl 0 rfl) ?_
            refine lv_iload_n hx hb dX9_faultOfStatement_78 rfl (lv_at hl 1 rfl) ?_
            refine k_callV (As := [.int y2]) (rest := []) (st1 := [.int (S_Shelf_hasElement y2 d_size)]) (ws2 := (Wd4 cI aD aK d_kind d_figure d_sort d_size d_held d_el)) hx hb hml hown hts hK hN hA hP hD hS hl (c_Shelf_hasElement l D cI cM cS cJ aD aK H.size y2 d_kind d_figure d_sort d_size d_held rfl) gX9_faultOfStatement_X9_hasElement rfl kdV_X9_hasElement 0 9 rfl rfl rfl [0] ⟨rfl, rfl⟩ ⟨Nat.le_of_ble_eq_true rfl, Nat.le_of_ble_eq_true rfl⟩ ⟨Nat.zero_le _, Nat.zero_le _⟩ rfl rfl (by decide +kernel) (k_rp rfl (by decide +kernel)) rfl rfl (Nat.le_of_ble_eq_true rfl) dX9_faultOfStatement_79 rfl (fun H locs hP hD hS => ?_)
            refine lv_if_eq (tgt := 100) hx hb dX9_faultOfStatement_82 (by decide) (fun c82 => ?_) (fun c82 => ?_)
            · have h := k_pos c82 h
              refine lv_iload_n hx hb dX9_faultOfStatement_100 rfl (lv_at hl 1 rfl) ?_
              cases h
              exact hret _ _ _ _ hP hS dX9_faultOfStatement_101
            · have h := k_neg c82 h
              refine lv_aload_n hx hb dX9_faultOfStatement_85 rfl (lv_at hl 0 rfl) ?_
              refine va_get (D := D) (ci := 9) (v := .ref (aD 1)) (C := RX9) (T := TX9) (N := 7) hx hb hts hiX9 hown hK hP 0 rfl rfl 0 (by decide) hf9 (fun _ z => z) rfl dX9_faultOfStatement_86 ?_
              refine lv_iload_n hx hb dX9_faultOfStatement_89 rfl (lv_at hl 1 rfl) ?_
              obtain ⟨g90, h⟩ := k_guard h
              refine va_iald hx hb hK hP 1 0 rfl rfl g90 dX9_faultOfStatement_90 ?_
              refine lv_bipush (v := 59) hx hb dX9_faultOfStatement_91 (by decide) ?_
              refine lv_icmp_ne (tgt := 100) hx hb dX9_faultOfStatement_93 (by decide) (fun c93 => ?_) (fun c93 => ?_)
              · have h := k_neg c93 h
                refine lv_iload_n hx hb dX9_faultOfStatement_100 rfl (lv_at hl 1 rfl) ?_
                cases h
                exact hret _ _ _ _ hP hS dX9_faultOfStatement_101
              · have h := k_pos c93 h
                refine lv_iconst (v := (-1)) hx hb dX9_faultOfStatement_96 (by decide) ?_
                refine lv_goto (tgt := 101) hx hb dX9_faultOfStatement_97 (by decide) ?_
                cases h
                exact hret _ _ _ _ hP hS dX9_faultOfStatement_101
          · have h := k_neg c42 h
            refine lv_aload_n hx hb dX9_faultOfStatement_45 rfl (lv_at hl 0 rfl) ?_
            refine lv_iload_n hx hb dX9_faultOfStatement_46 rfl (lv_at hl 2 rfl) ?_
            refine k_callV (As := [.int y3]) (rest := []) (st1 := [.int (S_Shelf_hasElement y3 d_size)]) (ws2 := (Wd4 cI aD aK d_kind d_figure d_sort d_size d_held d_el)) hx hb hml hown hts hK hN hA hP hD hS hl (c_Shelf_hasElement l D cI cM cS cJ aD aK H.size y3 d_kind d_figure d_sort d_size d_held rfl) gX9_faultOfStatement_X9_hasElement rfl kdV_X9_hasElement 0 9 rfl rfl rfl [0] ⟨rfl, rfl⟩ ⟨Nat.le_of_ble_eq_true rfl, Nat.le_of_ble_eq_true rfl⟩ ⟨Nat.zero_le _, Nat.zero_le _⟩ rfl rfl (by decide +kernel) (k_rp rfl (by decide +kernel)) rfl rfl (Nat.le_of_ble_eq_true rfl) dX9_faultOfStatement_47 rfl (fun H locs hP hD hS => ?_)
            refine lv_if_eq (tgt := 69) hx hb dX9_faultOfStatement_50 (by decide) (fun c50 => ?_) (fun c50 => ?_)
            · have h := k_pos c50 h
              refine lv_iload_n hx hb dX9_faultOfStatement_69 rfl (lv_at hl 2 rfl) ?_
              cases h
              exact hret _ _ _ _ hP hS dX9_faultOfStatement_70
            · have h := k_neg c50 h
              refine lv_aload_n hx hb dX9_faultOfStatement_53 rfl (lv_at hl 0 rfl) ?_
              refine va_get (D := D) (ci := 9) (v := .ref (aD 1)) (C := RX9) (T := TX9) (N := 7) hx hb hts hiX9 hown hK hP 0 rfl rfl 0 (by decide) hf9 (fun _ z => z) rfl dX9_faultOfStatement_54 ?_
              refine lv_iload_n hx hb dX9_faultOfStatement_57 rfl (lv_at hl 2 rfl) ?_
              obtain ⟨g58, h⟩ := k_guard h
              refine va_iald hx hb hK hP 1 0 rfl rfl g58 dX9_faultOfStatement_58 ?_
              refine lv_bipush (v := 48) hx hb dX9_faultOfStatement_59 (by decide) ?_
              refine lv_bipush (v := 57) hx hb dX9_faultOfStatement_61 (by decide) ?_
              refine k_callN (As := [.int (d_el y3.toNatClampNeg), .int 48, .int 57]) (rest := []) (st1 := [.int (S_PL_isIn (d_el y3.toNatClampNeg) 48 57)]) (ws2 := (Wd4 cI aD aK d_kind d_figure d_sort d_size d_held d_el)) hx hb hml hown hts hK hN hA hP hD hS hl (c_PL_isIn l D cI cM cS cJ H.size (d_el y3.toNatClampNeg) 48 57 rfl) gX9_faultOfStatement_X11_isIn_n63 rfl (List.mem_of_getElem? (i := 16) rfl) (hts _ (List.mem_of_getElem? (i := 15) rfl)) (hts _ (List.mem_of_getElem? (i := 14) rfl)) kdS_X11_isIn [] ⟨rfl, rfl⟩ ⟨Nat.le_of_ble_eq_true rfl, Nat.le_of_ble_eq_true rfl⟩ ⟨Nat.zero_le _, Nat.zero_le _⟩ rfl rfl (by decide +kernel) (k_rp rfl (by decide +kernel)) rfl rfl (Nat.le_of_ble_eq_true rfl) dX9_faultOfStatement_63 rfl (fun H locs hP hD hS => ?_)
              refine lv_if_ne (tgt := 71) hx hb dX9_faultOfStatement_66 (by decide) (fun c66 => ?_) (fun c66 => ?_)
              · have h := k_neg c66 h
                refine lv_iinc (v := (y3 + 1)) (lv' := [(3, .int (y3 + 1)), (0, .ref (aD 0)), (2, .int y2)]) hx hb dX9_faultOfStatement_71 hl (k := 2) rfl (by first | rfl | decide) (by decide) rfl (fun ls hl => ?_)
                refine lv_goto (tgt := 40) hx hb dX9_faultOfStatement_74 (by decide) ?_
                exact ih40 (y3 + 1) H locs ls hP hD hS (lv_sub hl [1, 2, 0] rfl) h
              · have h := k_pos c66 h
                refine lv_iload_n hx hb dX9_faultOfStatement_69 rfl (lv_at hl 2 rfl) ?_
                cases h
                exact hret _ _ _ _ hP hS dX9_faultOfStatement_70
      refine lv_istore_n (lv' := [(3, .int (x1 + 1)), (2, .int ((x1 + (S_Shelf_lengthBy (d_el x1.toNatClampNeg))) - 1)), (0, .ref (aD 0)), (1, .int x1)]) hx hb dX9_faultOfStatement_39 rfl hl (by decide) rfl (fun ls hl => ?_)
      exact B40 ((x1 + (S_Shelf_lengthBy (d_el x1.toNatClampNeg))) - 1) lfu (x1 + 1) H locs ls hP hD hS (lv_sub hl [2, 1, 0] rfl) h
    · have h := k_pos c17 h
      refine lv_iload_n hx hb dX9_faultOfStatement_20 rfl (lv_at hl 1 rfl) ?_
      cases h
      exact hret _ _ _ _ hP hS dX9_faultOfStatement_21
theorem kdV_X9_faultOfStatement : yX9_faultOfStatement.cls = RX9 ∧ yX9_faultOfStatement.cls ≠ "java/lang/invoke/MethodHandle" ∧ yX9_faultOfStatement.cls ≠ "java/lang/invoke/VarHandle" ∧ (parseMethodDescriptor yX9_faultOfStatement.desc).map (fun d => d.parameters.length) = some 1 := by decide +kernel
abbrev rm_X9_faultOfForm : Room := { frames := 3, cells := 0, slots := 0, locals := 63 }
set_option maxHeartbeats 4000000 in
set_option maxRecDepth 100000 in
theorem c_Shelf_faultOfForm (l : Launch) (D : va_G) (cI cM cS cJ : ClassId) (aD : Nat → Nat) (aK : Nat → Nat) (sz : Nat) (d_kind : Int32) (d_figure : Int32) (d_sort : Int32) (d_size : Int32) (d_held : Int32) (d_el : Nat → Int32) {o : (Int32)} (hsem : S_Shelf_faultOfForm d_size d_el = some o) : kMet l yX9_faultOfForm wsX9_faultOfForm rm_X9_faultOfForm [.ref (aD 0)] D (kT cI cM cS cJ) (Wd4 cI aD aK d_kind d_figure d_sort d_size d_held d_el) sz (some (.int o)) (Wd4 cI aD aK d_kind d_figure d_sort d_size d_held d_el) := by
  refine k_metI (by decide) rfl rfl (Nat.le_of_ble_eq_true rfl) ?_
  intro p e s m below meth c ls Q A hx hb hml hts hown hK hN hA hP hD hS hl hsz hnm hret
  have hown : s.vm.findClass RX9 = some m.cls := hown
  have hf9 := hts (.fieldLink RX9 9 "PlumbLine$Shelf" "elements" "[I") (List.mem_of_getElem? (i := 1) rfl)
  have hf42 := hts (.fieldLink RX9 42 "PlumbLine$Shelf" "size" "I") (List.mem_of_getElem? (i := 2) rfl)
  have hiX9 : ∀ w ∈ u_ws RX9 TX9 7, w ∈ wsX9_faultOfForm := fun w h => List.mem_cons_of_mem _ (List.mem_append_right _ h)
  replace hl : lv_has ls 3 [(0, .ref (aD 0))] := hl
  have h := hsem
  clear hsem
  rw [S_Shelf_faultOfForm] at h
  refine lv_iconst (v := 0) hx hb dX9_faultOfForm_0 (by decide) ?_
  have B2 : ∀ (n2 : Nat) (y1 : Int32) (H : Heap) (locs : List Loc) (ls : Array Slot), va_P D vwCl (Wd4 cI aD aK d_kind d_figure d_sort d_size d_held d_el) H → va_D A (Wd4 cI aD aK d_kind d_figure d_sort d_size d_held d_el) → va_S A s.heap H locs → lv_has ls 3 [(0, .ref (aD 0)), (1, .int y1)] → S_Shelf_faultOfForm_L2 d_size d_el n2 y1 = some o → W p l e rm_X9_faultOfForm s m ([.ref (aD 0)] : List Value).toArray below meth c H locs 0 0 Q (F0 m 2 ls []) := by
    intro n2
    induction n2 with
    | zero => intro y1 H locs ls hP hD hS hl h; exact absurd h (by simp [S_Shelf_faultOfForm_L2])
    | succ n2 ih2 =>
      intro y1 H locs ls hP hD hS hl h
      rw [S_Shelf_faultOfForm_L2] at h
      refine lv_aload_n hx hb dX9_faultOfForm_2 rfl (lv_at hl 0 rfl) ?_
      refine lv_iload_n hx hb dX9_faultOfForm_3 rfl (lv_at hl 1 rfl) ?_
      obtain ⟨r4, g4, h⟩ := k_bind h
      refine k_callV (As := [.int y1]) (rest := []) (st1 := [.int r4]) (ws2 := (Wd4 cI aD aK d_kind d_figure d_sort d_size d_held d_el)) hx hb hml hown hts hK hN hA hP hD hS hl (c_Shelf_faultOfStatement l D cI cM cS cJ aD aK H.size y1 d_kind d_figure d_sort d_size d_held d_el g4) gX9_faultOfForm_X9_faultOfStatement rfl kdV_X9_faultOfStatement 0 9 rfl rfl rfl [0, 1] ⟨rfl, rfl⟩ ⟨Nat.le_of_ble_eq_true rfl, Nat.le_of_ble_eq_true rfl⟩ ⟨Nat.zero_le _, Nat.zero_le _⟩ rfl rfl (by decide +kernel) (k_rp rfl (by decide +kernel)) rfl rfl (Nat.le_of_ble_eq_true rfl) dX9_faultOfForm_4 rfl (fun H locs hP hD hS => ?_)
      refine lv_istore_n (lv' := [(2, .int r4), (0, .ref (aD 0)), (1, .int y1)]) hx hb dX9_faultOfForm_7 rfl hl (by decide) rfl (fun ls hl => ?_)
      refine lv_iload_n hx hb dX9_faultOfForm_8 rfl (lv_at hl 0 rfl) ?_
      refine lv_if_lt (tgt := 14) hx hb dX9_faultOfForm_9 (by decide) (fun c9 => ?_) (fun c9 => ?_)
      · have h := k_pos c9 h
        refine lv_iload_n hx hb dX9_faultOfForm_14 rfl (lv_at hl 2 rfl) ?_
        refine lv_aload_n hx hb dX9_faultOfForm_15 rfl (lv_at hl 1 rfl) ?_
        refine va_get (D := D) (ci := 9) (v := .ref (aD 1)) (C := RX9) (T := TX9) (N := 7) hx hb hts hiX9 hown hK hP 0 rfl rfl 0 (by decide) hf9 (fun _ z => z) rfl dX9_faultOfForm_16 ?_
        refine lv_iload_n hx hb dX9_faultOfForm_19 rfl (lv_at hl 2 rfl) ?_
        obtain ⟨g20, h⟩ := k_guard h
        refine va_iald hx hb hK hP 1 0 rfl rfl g20 dX9_faultOfForm_20 ?_
        refine k_callS (As := [.int (d_el y1.toNatClampNeg)]) (rest := [.int y1]) (st1 := [.int (S_Shelf_lengthBy (d_el y1.toNatClampNeg)), .int y1]) (ws2 := (Wd4 cI aD aK d_kind d_figure d_sort d_size d_held d_el)) hx hb hml hown hts hK hN hA hP hD hS hl (c_Shelf_lengthBy l D cI cM cS cJ H.size (d_el y1.toNatClampNeg) rfl) gX9_faultOfForm_X9_lengthBy rfl kdS_X9_lengthBy [] ⟨rfl, rfl⟩ ⟨Nat.le_of_ble_eq_true rfl, Nat.le_of_ble_eq_true rfl⟩ ⟨Nat.zero_le _, Nat.zero_le _⟩ rfl rfl (by decide +kernel) (k_rp rfl (by decide +kernel)) rfl rfl (Nat.le_of_ble_eq_true rfl) dX9_faultOfForm_21 rfl (fun H locs hP hD hS => ?_)
        refine lv_iadd hx hb dX9_faultOfForm_24 ?_
        refine lv_istore_n (lv' := [(1, .int (y1 + (S_Shelf_lengthBy (d_el y1.toNatClampNeg)))), (2, .int r4), (0, .ref (aD 0))]) hx hb dX9_faultOfForm_25 rfl hl (by decide) rfl (fun ls hl => ?_)
        refine lv_iload_n hx hb dX9_faultOfForm_26 rfl (lv_at hl 0 rfl) ?_
        refine lv_aload_n hx hb dX9_faultOfForm_27 rfl (lv_at hl 2 rfl) ?_
        refine va_get (D := D) (ci := 9) (v := .int d_size) (C := RX9) (T := TX9) (N := 7) hx hb hts hiX9 hown hK hP 0 rfl rfl 4 (by decide) hf42 (fun _ z => z) rfl dX9_faultOfForm_28 ?_
        refine lv_icmp_lt (tgt := 2) hx hb dX9_faultOfForm_31 (by decide) (fun c31 => ?_) (fun c31 => ?_)
        · have h := k_pos c31 h
          exact ih2 (y1 + (S_Shelf_lengthBy (d_el y1.toNatClampNeg))) H locs ls hP hD hS (lv_sub hl [2, 0] rfl) h
        · have h := k_neg c31 h
          refine lv_iconst (v := (-1)) hx hb dX9_faultOfForm_34 (by decide) ?_
          cases h
          exact hret _ _ _ _ hP hS dX9_faultOfForm_35
      · have h := k_neg c9 h
        refine lv_iload_n hx hb dX9_faultOfForm_12 rfl (lv_at hl 0 rfl) ?_
        cases h
        exact hret _ _ _ _ hP hS dX9_faultOfForm_13
  refine lv_istore_n (lv' := [(1, .int 0), (0, .ref (aD 0))]) hx hb dX9_faultOfForm_1 rfl hl (by decide) rfl (fun ls hl => ?_)
  exact B2 lfu 0 s.heap [] ls hP hD hS (lv_sub hl [1, 0] rfl) h
abbrev rm_X9_digit : Room := { frames := 1, cells := 0, slots := 0, locals := 21 }
set_option maxHeartbeats 4000000 in
set_option maxRecDepth 100000 in
theorem c_Shelf_digit (l : Launch) (D : va_G) (cI cM cS cJ : ClassId) (aD : Nat → Nat) (aK : Nat → Nat) (sz : Nat) (x1 : Int32) (d_kind : Int32) (d_figure : Int32) (d_sort : Int32) (d_size : Int32) (d_held : Int32) (d_el : Nat → Int32) {o : (Int32)} (hsem : S_Shelf_digit x1 d_size d_el = some o) : kMet l yX9_digit wsX9_digit rm_X9_digit [.ref (aD 0), .int x1] D (kT cI cM cS cJ) (Wd4 cI aD aK d_kind d_figure d_sort d_size d_held d_el) sz (some (.int o)) (Wd4 cI aD aK d_kind d_figure d_sort d_size d_held d_el) := by
  refine k_metI (by decide) rfl rfl (Nat.le_of_ble_eq_true rfl) ?_
  intro p e s m below meth c ls Q A hx hb hml hts hown hK hN hA hP hD hS hl hsz hnm hret
  have hown : s.vm.findClass RX9 = some m.cls := hown
  have hf9 := hts (.fieldLink RX9 9 "PlumbLine$Shelf" "elements" "[I") (List.mem_of_getElem? (i := 1) rfl)
  have hiX9 : ∀ w ∈ u_ws RX9 TX9 7, w ∈ wsX9_digit := fun w h => List.mem_cons_of_mem _ (List.mem_append_right _ h)
  replace hl : lv_has ls 2 [(0, .ref (aD 0)), (1, .int x1)] := hl
  have h := hsem
  clear hsem
  rw [S_Shelf_digit] at h
  refine lv_aload_n hx hb dX9_digit_0 rfl (lv_at hl 0 rfl) ?_
  refine lv_iload_n hx hb dX9_digit_1 rfl (lv_at hl 1 rfl) ?_
  refine k_callV (As := [.int x1]) (rest := []) (st1 := [.int (S_Shelf_hasElement x1 d_size)]) (ws2 := (Wd4 cI aD aK d_kind d_figure d_sort d_size d_held d_el)) hx hb hml hown hts hK hN hA hP hD hS hl (c_Shelf_hasElement l D cI cM cS cJ aD aK s.heap.size x1 d_kind d_figure d_sort d_size d_held rfl) gX9_digit_X9_hasElement rfl kdV_X9_hasElement 0 9 rfl rfl rfl [0] ⟨rfl, rfl⟩ ⟨Nat.le_of_ble_eq_true rfl, Nat.le_of_ble_eq_true rfl⟩ ⟨Nat.zero_le _, Nat.zero_le _⟩ rfl rfl (by decide +kernel) (k_rp rfl (by decide +kernel)) rfl rfl (Nat.le_of_ble_eq_true rfl) dX9_digit_2 rfl (fun H locs hP hD hS => ?_)
  refine lv_if_eq (tgt := 20) hx hb dX9_digit_5 (by decide) (fun c5 => ?_) (fun c5 => ?_)
  · have h := k_pos c5 h
    refine lv_iconst (v := 0) hx hb dX9_digit_20 (by decide) ?_
    cases h
    exact hret _ _ _ _ hP hS dX9_digit_21
  · have h := k_neg c5 h
    refine lv_aload_n hx hb dX9_digit_8 rfl (lv_at hl 0 rfl) ?_
    refine va_get (D := D) (ci := 9) (v := .ref (aD 1)) (C := RX9) (T := TX9) (N := 7) hx hb hts hiX9 hown hK hP 0 rfl rfl 0 (by decide) hf9 (fun _ z => z) rfl dX9_digit_9 ?_
    refine lv_iload_n hx hb dX9_digit_12 rfl (lv_at hl 1 rfl) ?_
    obtain ⟨g13, h⟩ := k_guard h
    refine va_iald hx hb hK hP 1 0 rfl rfl g13 dX9_digit_13 ?_
    refine lv_bipush (v := 48) hx hb dX9_digit_14 (by decide) ?_
    refine lv_isub hx hb dX9_digit_16 ?_
    refine lv_goto (tgt := 21) hx hb dX9_digit_17 (by decide) ?_
    cases h
    exact hret _ _ _ _ hP hS dX9_digit_21
theorem kdV_X9_digit : yX9_digit.cls = RX9 ∧ yX9_digit.cls ≠ "java/lang/invoke/MethodHandle" ∧ yX9_digit.cls ≠ "java/lang/invoke/VarHandle" ∧ (parseMethodDescriptor yX9_digit.desc).map (fun d => d.parameters.length) = some 1 := by decide +kernel
abbrev rm_X9_twoDigits : Room := { frames := 2, cells := 0, slots := 0, locals := 42 }
set_option maxHeartbeats 4000000 in
set_option maxRecDepth 100000 in
theorem c_Shelf_twoDigits (l : Launch) (D : va_G) (cI cM cS cJ : ClassId) (aD : Nat → Nat) (aK : Nat → Nat) (sz : Nat) (x1 : Int32) (d_kind : Int32) (d_figure : Int32) (d_sort : Int32) (d_size : Int32) (d_held : Int32) (d_el : Nat → Int32) {o : (Int32)} (hsem : S_Shelf_twoDigits x1 d_size d_el = some o) : kMet l yX9_twoDigits wsX9_twoDigits rm_X9_twoDigits [.ref (aD 0), .int x1] D (kT cI cM cS cJ) (Wd4 cI aD aK d_kind d_figure d_sort d_size d_held d_el) sz (some (.int o)) (Wd4 cI aD aK d_kind d_figure d_sort d_size d_held d_el) := by
  refine k_metI (by decide) rfl rfl (Nat.le_of_ble_eq_true rfl) ?_
  intro p e s m below meth c ls Q A hx hb hml hts hown hK hN hA hP hD hS hl hsz hnm hret
  have hown : s.vm.findClass RX9 = some m.cls := hown
  replace hl : lv_has ls 2 [(0, .ref (aD 0)), (1, .int x1)] := hl
  have h := hsem
  clear hsem
  rw [S_Shelf_twoDigits] at h
  refine lv_bipush (v := 10) hx hb dX9_twoDigits_0 (by decide) ?_
  refine lv_aload_n hx hb dX9_twoDigits_2 rfl (lv_at hl 0 rfl) ?_
  refine lv_iload_n hx hb dX9_twoDigits_3 rfl (lv_at hl 1 rfl) ?_
  obtain ⟨r4, g4, h⟩ := k_bind h
  refine k_callV (As := [.int x1]) (rest := [.int 10]) (st1 := [.int r4, .int 10]) (ws2 := (Wd4 cI aD aK d_kind d_figure d_sort d_size d_held d_el)) hx hb hml hown hts hK hN hA hP hD hS hl (c_Shelf_digit l D cI cM cS cJ aD aK s.heap.size x1 d_kind d_figure d_sort d_size d_held d_el g4) gX9_twoDigits_X9_digit rfl kdV_X9_digit 0 9 rfl rfl rfl [0, 1] ⟨rfl, rfl⟩ ⟨Nat.le_of_ble_eq_true rfl, Nat.le_of_ble_eq_true rfl⟩ ⟨Nat.zero_le _, Nat.zero_le _⟩ rfl rfl (by decide +kernel) (k_rp rfl (by decide +kernel)) rfl rfl (Nat.le_of_ble_eq_true rfl) dX9_twoDigits_4 rfl (fun H locs hP hD hS => ?_)
  refine lv_imul hx hb dX9_twoDigits_7 ?_
  refine lv_aload_n hx hb dX9_twoDigits_8 rfl (lv_at hl 0 rfl) ?_
  refine lv_iload_n hx hb dX9_twoDigits_9 rfl (lv_at hl 1 rfl) ?_
  refine lv_iconst (v := 1) hx hb dX9_twoDigits_10 (by decide) ?_
  refine lv_iadd hx hb dX9_twoDigits_11 ?_
  obtain ⟨r12, g12, h⟩ := k_bind h
  refine k_callV (As := [.int (x1 + 1)]) (rest := [.int ((10 : Int32) * r4)]) (st1 := [.int r12, .int ((10 : Int32) * r4)]) (ws2 := (Wd4 cI aD aK d_kind d_figure d_sort d_size d_held d_el)) hx hb hml hown hts hK hN hA hP hD hS hl (c_Shelf_digit l D cI cM cS cJ aD aK H.size (x1 + 1) d_kind d_figure d_sort d_size d_held d_el g12) gX9_twoDigits_X9_digit rfl kdV_X9_digit 0 9 rfl rfl rfl [0, 1] ⟨rfl, rfl⟩ ⟨Nat.le_of_ble_eq_true rfl, Nat.le_of_ble_eq_true rfl⟩ ⟨Nat.zero_le _, Nat.zero_le _⟩ rfl rfl (by decide +kernel) (k_rp rfl (by decide +kernel)) rfl rfl (Nat.le_of_ble_eq_true rfl) dX9_twoDigits_12 rfl (fun H locs hP hD hS => ?_)
  refine lv_iadd hx hb dX9_twoDigits_15 ?_
  cases h
  exact hret _ _ _ _ hP hS dX9_twoDigits_16
