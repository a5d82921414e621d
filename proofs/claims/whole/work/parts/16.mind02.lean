abbrev rm_X5_figuresThatDid : Room := { frames := 5, cells := 0, slots := 0, locals := 128 }
set_option maxHeartbeats 4000000 in
set_option maxRecDepth 100000 in
theorem c_Mind_figuresThatDid (l : Launch) (D : va_G) (cI cM cS cJ : ClassId) (aD : Nat → Nat) (aN : Nat → Nat) (aW : Nat → Nat) (aM : Nat → Nat) (aK : Nat → Nat) (sz : Nat) (x1 : Int32) (nS : CS) (mS : CS) (d_kind : Int32) (d_figure : Int32) (d_sort : Int32) (d_size : Int32) (d_held : Int32) (d_el : Nat → Int32) {o : (Int32) × (CS)} (hsem : S_Mind_figuresThatDid x1 nS mS d_sort d_size d_el = some o) : kMet l yX5_figuresThatDid wsX5_figuresThatDid rm_X5_figuresThatDid [.ref (aW 0), .int x1, .ref (aD 0)] D (kT cI cM cS cJ) (Wd20 cI cM aD aN aW aM aK nS.1 nS.2.1 nS.2.2.1 nS.2.2.2.1 nS.2.2.2.2.1 nS.2.2.2.2.2.1 nS.2.2.2.2.2.2.1 nS.2.2.2.2.2.2.2.1 nS.2.2.2.2.2.2.2.2.1 nS.2.2.2.2.2.2.2.2.2.1 mS.1 mS.2.1 mS.2.2.1 mS.2.2.2.1 mS.2.2.2.2.1 mS.2.2.2.2.2.1 mS.2.2.2.2.2.2.1 mS.2.2.2.2.2.2.2.1 mS.2.2.2.2.2.2.2.2.1 mS.2.2.2.2.2.2.2.2.2.1 d_kind d_figure d_sort d_size d_held d_el) sz (some (.int o.1)) (Wd20 cI cM aD aN aW aM aK nS.1 nS.2.1 nS.2.2.1 nS.2.2.2.1 nS.2.2.2.2.1 nS.2.2.2.2.2.1 nS.2.2.2.2.2.2.1 nS.2.2.2.2.2.2.2.1 nS.2.2.2.2.2.2.2.2.1 nS.2.2.2.2.2.2.2.2.2.1 o.2.1 o.2.2.1 o.2.2.2.1 o.2.2.2.2.1 o.2.2.2.2.2.1 o.2.2.2.2.2.2.1 o.2.2.2.2.2.2.2.1 o.2.2.2.2.2.2.2.2.1 o.2.2.2.2.2.2.2.2.2.1 o.2.2.2.2.2.2.2.2.2.2.1 d_kind d_figure d_sort d_size d_held d_el) := by
  refine k_metI (by decide) rfl rfl (Nat.le_of_ble_eq_true rfl) ?_
  intro p e s m below meth c ls Q A hx hb hml hts hown hK hN hA hP hD hS hl hsz hnm hret
  have hown : s.vm.findClass RX5 = some m.cls := hown
  have hf25 := hts (.fieldLink RX5 25 "PlumbLine$Mind" "then" "LPlumbLine$City;") (List.mem_of_getElem? (i := 1) rfl)
  have hf21 := hts (.fieldLink RX5 21 "PlumbLine$Mind" "now" "LPlumbLine$City;") (List.mem_of_getElem? (i := 2) rfl)
  have hf92 := hts (.fieldLink RX5 92 "PlumbLine$City" "figure" "[I") (List.mem_of_getElem? (i := 3) rfl)
  have hiX2 : ∀ w ∈ u_ws RX2 TX2 12, w ∈ wsX5_figuresThatDid := fun w h => List.mem_cons_of_mem _ (List.mem_append_left _ (List.mem_append_right _ h))
  have hiX5 : ∀ w ∈ u_ws RX5 TX5 5, w ∈ wsX5_figuresThatDid := fun w h => List.mem_cons_of_mem _ (List.mem_append_left _ (List.mem_append_left _ (List.mem_append_right _ h)))
  replace hl : lv_has ls 5 [(0, .ref (aW 0)), (1, .int x1), (2, .ref (aD 0))] := hl
  have h := hsem
  clear hsem
  rw [S_Mind_figuresThatDid] at h
  refine lv_iconst (v := 0) hx hb dX5_figuresThatDid_0 (by decide) ?_
  refine lv_istore_n (lv' := [(3, .int 0), (0, .ref (aW 0)), (1, .int x1), (2, .ref (aD 0))]) hx hb dX5_figuresThatDid_1 rfl hl (by decide) rfl (fun ls hl => ?_)
  refine lv_iconst (v := 0) hx hb dX5_figuresThatDid_2 (by decide) ?_
  have B5 : ∀ (n5 : Nat) (y3 : Int32) (y4 : Int32) (mS : CS) (H : Heap) (locs : List Loc) (ls : Array Slot), va_P D vwCl (Wd20 cI cM aD aN aW aM aK nS.1 nS.2.1 nS.2.2.1 nS.2.2.2.1 nS.2.2.2.2.1 nS.2.2.2.2.2.1 nS.2.2.2.2.2.2.1 nS.2.2.2.2.2.2.2.1 nS.2.2.2.2.2.2.2.2.1 nS.2.2.2.2.2.2.2.2.2.1 mS.1 mS.2.1 mS.2.2.1 mS.2.2.2.1 mS.2.2.2.2.1 mS.2.2.2.2.2.1 mS.2.2.2.2.2.2.1 mS.2.2.2.2.2.2.2.1 mS.2.2.2.2.2.2.2.2.1 mS.2.2.2.2.2.2.2.2.2.1 d_kind d_figure d_sort d_size d_held d_el) H → va_D A (Wd20 cI cM aD aN aW aM aK nS.1 nS.2.1 nS.2.2.1 nS.2.2.2.1 nS.2.2.2.2.1 nS.2.2.2.2.2.1 nS.2.2.2.2.2.2.1 nS.2.2.2.2.2.2.2.1 nS.2.2.2.2.2.2.2.2.1 nS.2.2.2.2.2.2.2.2.2.1 mS.1 mS.2.1 mS.2.2.1 mS.2.2.2.1 mS.2.2.2.2.1 mS.2.2.2.2.2.1 mS.2.2.2.2.2.2.1 mS.2.2.2.2.2.2.2.1 mS.2.2.2.2.2.2.2.2.1 mS.2.2.2.2.2.2.2.2.2.1 d_kind d_figure d_sort d_size d_held d_el) → va_S A s.heap H locs → lv_has ls 5 [(0, .ref (aW 0)), (1, .int x1), (2, .ref (aD 0)), (3, .int y3), (4, .int y4)] → S_Mind_figuresThatDid_L5 x1 nS d_sort d_size d_el n5 y3 y4 mS = some o → W p l e rm_X5_figuresThatDid s m ([.ref (aW 0), .int x1, .ref (aD 0)] : List Value).toArray below meth c H locs 0 0 Q (F0 m 5 ls []) := by
    intro n5
    induction n5 with
    | zero => intro y3 y4 mS H locs ls hP hD hS hl h; exact absurd h (by simp [S_Mind_figuresThatDid_L5])
    | succ n5 ih5 =>
      intro y3 y4 mS H locs ls hP hD hS hl h
      rw [S_Mind_figuresThatDid_L5] at h
      refine lv_iload hx hb dX5_figuresThatDid_5 (lv_at hl 4 rfl) ?_
      refine lv_bipush (v := 10) hx hb dX5_figuresThatDid_7 (by decide) ?_
      refine lv_icmp_ge (tgt := 56) hx hb dX5_figuresThatDid_9 (by decide) (fun c9 => ?_) (fun c9 => ?_)
      · have h := k_pos c9 h
        refine lv_iload_n hx hb dX5_figuresThatDid_56 rfl (lv_at hl 3 rfl) ?_
        cases h
        exact hret _ _ _ _ hP hS dX5_figuresThatDid_57
      · have h := k_neg c9 h
        refine lv_aload_n hx hb dX5_figuresThatDid_12 rfl (lv_at hl 0 rfl) ?_
        refine va_get (D := D) (ci := 5) (v := .ref (aM 0)) (C := RX5) (T := TX5) (N := 5) hx hb hts hiX5 hown hK hP 0 rfl rfl 1 (by decide) hf25 (fun _ z => z) rfl dX5_figuresThatDid_13 ?_
        refine lv_aload_n hx hb dX5_figuresThatDid_16 rfl (lv_at hl 0 rfl) ?_
        refine va_get (D := D) (ci := 5) (v := .ref (aN 0)) (C := RX5) (T := TX5) (N := 5) hx hb hts hiX5 hown hK hP 0 rfl rfl 0 (by decide) hf21 (fun _ z => z) rfl dX5_figuresThatDid_17 ?_
        obtain ⟨r20, g20, h⟩ := k_bind h
        refine k_callV (As := [.ref (aN 0)]) (rest := []) (st1 := []) (ws2 := (Wd20 cI cM aD aN aW aM aK nS.1 nS.2.1 nS.2.2.1 nS.2.2.2.1 nS.2.2.2.2.1 nS.2.2.2.2.2.1 nS.2.2.2.2.2.2.1 nS.2.2.2.2.2.2.2.1 nS.2.2.2.2.2.2.2.2.1 nS.2.2.2.2.2.2.2.2.2.1 r20.1 r20.2.1 r20.2.2.1 r20.2.2.2.1 r20.2.2.2.2.1 r20.2.2.2.2.2.1 mS.2.2.2.2.2.2.1 r20.2.2.2.2.2.2.1 r20.2.2.2.2.2.2.2.1 r20.2.2.2.2.2.2.2.2 d_kind d_figure d_sort d_size d_held d_el)) hx hb hml hown hts hK hN hA hP hD hS hl (c_City_becomes l D cI cM cS cJ aM aN aK H.size mS.1 mS.2.1 mS.2.2.1 mS.2.2.2.1 mS.2.2.2.2.1 mS.2.2.2.2.2.1 mS.2.2.2.2.2.2.1 mS.2.2.2.2.2.2.2.1 mS.2.2.2.2.2.2.2.2.1 mS.2.2.2.2.2.2.2.2.2.1 nS.1 nS.2.1 nS.2.2.1 nS.2.2.2.1 nS.2.2.2.2.1 nS.2.2.2.2.2.1 nS.2.2.2.2.2.2.1 nS.2.2.2.2.2.2.2.1 nS.2.2.2.2.2.2.2.2.1 nS.2.2.2.2.2.2.2.2.2.1 g20) gX5_figuresThatDid_X2_becomes rfl kdV_X2_becomes 0 2 rfl rfl rfl [5, 6, 7, 8, 1, 2, 3, 4] ⟨rfl, rfl⟩ ⟨Nat.le_of_ble_eq_true rfl, Nat.le_of_ble_eq_true rfl⟩ ⟨Nat.zero_le _, Nat.zero_le _⟩ rfl rfl (by decide +kernel) (k_rp rfl (by decide +kernel)) rfl rfl (Nat.le_of_ble_eq_true rfl) dX5_figuresThatDid_20 rfl (fun H locs hP hD hS => ?_)
        refine lv_aload_n hx hb dX5_figuresThatDid_23 rfl (lv_at hl 0 rfl) ?_
        refine va_get (D := D) (ci := 5) (v := .ref (aM 0)) (C := RX5) (T := TX5) (N := 5) hx hb hts hiX5 hown hK hP 0 rfl rfl 1 (by decide) hf25 (fun _ z => z) rfl dX5_figuresThatDid_24 ?_
        refine va_get (D := D) (ci := 2) (v := .ref (aM 2)) (C := RX2) (T := TX2) (N := 12) hx hb hts hiX2 hown hK hP 5 rfl rfl 1 (by decide) hf92 (fun _ z => z) rfl dX5_figuresThatDid_27 ?_
        refine lv_iload_n hx hb dX5_figuresThatDid_30 rfl (lv_at hl 1 rfl) ?_
        refine lv_iload hx hb dX5_figuresThatDid_31 (lv_at hl 4 rfl) ?_
        obtain ⟨g33, h⟩ := k_guard h
        refine va_iast hx hb hK hP hD hS 7 0 rfl rfl g33 dX5_figuresThatDid_33 (fun H locs hP hD hS => ?_)
        replace hP : va_P D vwCl (Wd20 cI cM aD aN aW aM aK nS.1 nS.2.1 nS.2.2.1 nS.2.2.2.1 nS.2.2.2.2.1 nS.2.2.2.2.2.1 nS.2.2.2.2.2.2.1 nS.2.2.2.2.2.2.2.1 nS.2.2.2.2.2.2.2.2.1 nS.2.2.2.2.2.2.2.2.2.1 r20.1 r20.2.1 r20.2.2.1 r20.2.2.2.1 r20.2.2.2.2.1 r20.2.2.2.2.2.1 mS.2.2.2.2.2.2.1 r20.2.2.2.2.2.2.1 (upd r20.2.2.2.2.2.2.2.1 x1.toNatClampNeg y4) r20.2.2.2.2.2.2.2.2 d_kind d_figure d_sort d_size d_held d_el) H := hP
        replace hD : va_D A (Wd20 cI cM aD aN aW aM aK nS.1 nS.2.1 nS.2.2.1 nS.2.2.2.1 nS.2.2.2.2.1 nS.2.2.2.2.2.1 nS.2.2.2.2.2.2.1 nS.2.2.2.2.2.2.2.1 nS.2.2.2.2.2.2.2.2.1 nS.2.2.2.2.2.2.2.2.2.1 r20.1 r20.2.1 r20.2.2.1 r20.2.2.2.1 r20.2.2.2.2.1 r20.2.2.2.2.2.1 mS.2.2.2.2.2.2.1 r20.2.2.2.2.2.2.1 (upd r20.2.2.2.2.2.2.2.1 x1.toNatClampNeg y4) r20.2.2.2.2.2.2.2.2 d_kind d_figure d_sort d_size d_held d_el) := hD
        refine lv_aload_n hx hb dX5_figuresThatDid_34 rfl (lv_at hl 0 rfl) ?_
        refine lv_iload_n hx hb dX5_figuresThatDid_35 rfl (lv_at hl 1 rfl) ?_
        refine lv_aload_n hx hb dX5_figuresThatDid_36 rfl (lv_at hl 2 rfl) ?_
        obtain ⟨r37, g37, h⟩ := k_bind h
        refine k_callV (As := [.int x1, .ref (aD 0)]) (rest := []) (st1 := [.int r37.1]) (ws2 := (Wd20 cI cM aD aN aW aM aK nS.1 nS.2.1 nS.2.2.1 nS.2.2.2.1 nS.2.2.2.2.1 nS.2.2.2.2.2.1 nS.2.2.2.2.2.2.1 nS.2.2.2.2.2.2.2.1 nS.2.2.2.2.2.2.2.2.1 nS.2.2.2.2.2.2.2.2.2.1 r37.2.1 r37.2.2.1 r37.2.2.2.1 r37.2.2.2.2.1 r37.2.2.2.2.2.1 r37.2.2.2.2.2.2.1 r37.2.2.2.2.2.2.2.1 r37.2.2.2.2.2.2.2.2.1 r37.2.2.2.2.2.2.2.2.2.1 r37.2.2.2.2.2.2.2.2.2.2.1 d_kind d_figure d_sort d_size d_held d_el)) hx hb hml hown hts hK hN hA hP hD hS hl (c_Mind_leansAsTold l D cI cM cS cJ aD aN aW aM aK H.size x1 (r20.1, r20.2.1, r20.2.2.1, r20.2.2.2.1, r20.2.2.2.2.1, r20.2.2.2.2.2.1, mS.2.2.2.2.2.2.1, r20.2.2.2.2.2.2.1, (upd r20.2.2.2.2.2.2.2.1 x1.toNatClampNeg y4), r20.2.2.2.2.2.2.2.2, mS.2.2.2.2.2.2.2.2.2.2) d_kind d_figure d_sort d_size d_held d_el g37) gX5_figuresThatDid_X5_leansAsTold rfl kdV_X5_leansAsTold 0 5 rfl rfl rfl [0, 5, 6, 7, 8, 9, 10, 11, 12, 13, 14, 15, 16, 17, 18, 19] ⟨rfl, rfl⟩ ⟨Nat.le_of_ble_eq_true rfl, Nat.le_of_ble_eq_true rfl⟩ ⟨Nat.zero_le _, Nat.zero_le _⟩ rfl rfl (by decide +kernel) (k_rp rfl (by decide +kernel)) rfl rfl (Nat.le_of_ble_eq_true rfl) dX5_figuresThatDid_37 rfl (fun H locs hP hD hS => ?_)
        refine lv_if_eq (tgt := 50) hx hb dX5_figuresThatDid_40 (by decide) (fun c40 => ?_) (fun c40 => ?_)
        · have h := k_pos c40 h
          refine lv_iinc (v := (y4 + 1)) (lv' := [(4, .int (y4 + 1)), (0, .ref (aW 0)), (1, .int x1), (2, .ref (aD 0)), (3, .int y3)]) hx hb dX5_figuresThatDid_50 hl (k := 4) rfl (by first | rfl | decide) (by decide) rfl (fun ls hl => ?_)
          refine lv_goto (tgt := 5) hx hb dX5_figuresThatDid_53 (by decide) ?_
          exact ih5 y3 (y4 + 1) r37.2 H locs ls hP hD hS (lv_sub hl [1, 2, 3, 4, 0] rfl) h
        · have h := k_neg c40 h
          refine lv_iload_n hx hb dX5_figuresThatDid_43 rfl (lv_at hl 3 rfl) ?_
          refine lv_iconst (v := 1) hx hb dX5_figuresThatDid_44 (by decide) ?_
          refine lv_iload hx hb dX5_figuresThatDid_45 (lv_at hl 4 rfl) ?_
          refine lv_ishl hx hb dX5_figuresThatDid_47 ?_
          refine lv_ior hx hb dX5_figuresThatDid_48 ?_
          refine lv_istore_n (lv' := [(3, .int (y3 ||| ((1 : Int32) <<< (y4 &&& 31)))), (0, .ref (aW 0)), (1, .int x1), (2, .ref (aD 0)), (4, .int y4)]) hx hb dX5_figuresThatDid_49 rfl hl (by decide) rfl (fun ls hl => ?_)
          refine lv_iinc (v := (y4 + 1)) (lv' := [(4, .int (y4 + 1)), (3, .int (y3 ||| ((1 : Int32) <<< (y4 &&& 31)))), (0, .ref (aW 0)), (1, .int x1), (2, .ref (aD 0))]) hx hb dX5_figuresThatDid_50 hl (k := 4) rfl (by first | rfl | decide) (by decide) rfl (fun ls hl => ?_)
          refine lv_goto (tgt := 5) hx hb dX5_figuresThatDid_53 (by decide) ?_
          exact ih5 (y3 ||| ((1 : Int32) <<< (y4 &&& 31))) (y4 + 1) r37.2 H locs ls hP hD hS (lv_sub hl [2, 3, 4, 1, 0] rfl) h
  refine lv_istore (lv' := [(4, .int 0), (3, .int 0), (0, .ref (aW 0)), (1, .int x1), (2, .ref (aD 0))]) hx hb dX5_figuresThatDid_3 hl (by decide) rfl (fun ls hl => ?_)
  exact B5 lfu 0 0 mS s.heap [] ls hP hD hS (lv_sub hl [2, 3, 4, 1, 0] rfl) h
abbrev rm_X5_hangsAsTold : Room := { frames := 4, cells := 0, slots := 0, locals := 105 }
set_option maxHeartbeats 4000000 in
set_option maxRecDepth 100000 in
theorem c_Mind_hangsAsTold (l : Launch) (D : va_G) (cI cM cS cJ : ClassId) (aD : Nat → Nat) (aN : Nat → Nat) (aW : Nat → Nat) (aM : Nat → Nat) (aK : Nat → Nat) (sz : Nat) (x1 : Int32) (x2 : Int32) (nS : CS) (mS : CS) (d_kind : Int32) (d_figure : Int32) (d_sort : Int32) (d_size : Int32) (d_held : Int32) (d_el : Nat → Int32) {o : (Int32) × (CS)} (hsem : S_Mind_hangsAsTold x1 x2 nS mS d_sort d_size d_el = some o) : kMet l yX5_hangsAsTold wsX5_hangsAsTold rm_X5_hangsAsTold [.ref (aW 0), .int x1, .int x2, .ref (aD 0)] D (kT cI cM cS cJ) (Wd20 cI cM aD aN aW aM aK nS.1 nS.2.1 nS.2.2.1 nS.2.2.2.1 nS.2.2.2.2.1 nS.2.2.2.2.2.1 nS.2.2.2.2.2.2.1 nS.2.2.2.2.2.2.2.1 nS.2.2.2.2.2.2.2.2.1 nS.2.2.2.2.2.2.2.2.2.1 mS.1 mS.2.1 mS.2.2.1 mS.2.2.2.1 mS.2.2.2.2.1 mS.2.2.2.2.2.1 mS.2.2.2.2.2.2.1 mS.2.2.2.2.2.2.2.1 mS.2.2.2.2.2.2.2.2.1 mS.2.2.2.2.2.2.2.2.2.1 d_kind d_figure d_sort d_size d_held d_el) sz (some (.int o.1)) (Wd20 cI cM aD aN aW aM aK nS.1 nS.2.1 nS.2.2.1 nS.2.2.2.1 nS.2.2.2.2.1 nS.2.2.2.2.2.1 nS.2.2.2.2.2.2.1 nS.2.2.2.2.2.2.2.1 nS.2.2.2.2.2.2.2.2.1 nS.2.2.2.2.2.2.2.2.2.1 o.2.1 o.2.2.1 o.2.2.2.1 o.2.2.2.2.1 o.2.2.2.2.2.1 o.2.2.2.2.2.2.1 o.2.2.2.2.2.2.2.1 o.2.2.2.2.2.2.2.2.1 o.2.2.2.2.2.2.2.2.2.1 o.2.2.2.2.2.2.2.2.2.2.1 d_kind d_figure d_sort d_size d_held d_el) := by
  refine k_metZ (by decide) rfl rfl (Nat.le_of_ble_eq_true rfl) ?_
  intro p e s m below meth c ls Q A hx hb hml hts hown hK hN hA hP hD hS hl hsz hnm hret
  have hown : s.vm.findClass RX5 = some m.cls := hown
  have hf25 := hts (.fieldLink RX5 25 "PlumbLine$Mind" "then" "LPlumbLine$City;") (List.mem_of_getElem? (i := 1) rfl)
  have hf21 := hts (.fieldLink RX5 21 "PlumbLine$Mind" "now" "LPlumbLine$City;") (List.mem_of_getElem? (i := 2) rfl)
  have hf107 := hts (.fieldLink RX5 107 "PlumbLine$City" "swings" "I") (List.mem_of_getElem? (i := 3) rfl)
  have hf48 := hts (.fieldLink RX5 48 "PlumbLine$City" "place" "I") (List.mem_of_getElem? (i := 4) rfl)
  have hf95 := hts (.fieldLink RX5 95 "PlumbLine$Shelf" "size" "I") (List.mem_of_getElem? (i := 5) rfl)
  have hiX2 : ∀ w ∈ u_ws RX2 TX2 12, w ∈ wsX5_hangsAsTold := fun w h => List.mem_cons_of_mem _ (List.mem_append_left _ (List.mem_append_right _ h))
  have hiX5 : ∀ w ∈ u_ws RX5 TX5 5, w ∈ wsX5_hangsAsTold := fun w h => List.mem_cons_of_mem _ (List.mem_append_left _ (List.mem_append_left _ (List.mem_append_right _ h)))
  have hiX9 : ∀ w ∈ u_ws RX9 TX9 7, w ∈ wsX5_hangsAsTold := fun w h => List.mem_cons_of_mem _ (List.mem_append_right _ h)
  replace hl : lv_has ls 5 [(0, .ref (aW 0)), (1, .int x1), (2, .int x2), (3, .ref (aD 0))] := hl
  have h := hsem
  clear hsem
  rw [S_Mind_hangsAsTold] at h
  refine lv_aload_n hx hb dX5_hangsAsTold_0 rfl (lv_at hl 0 rfl) ?_
  refine va_get (D := D) (ci := 5) (v := .ref (aM 0)) (C := RX5) (T := TX5) (N := 5) hx hb hts hiX5 hown hK hP 0 rfl rfl 1 (by decide) hf25 (fun _ z => z) rfl dX5_hangsAsTold_1 ?_
  refine lv_aload_n hx hb dX5_hangsAsTold_4 rfl (lv_at hl 0 rfl) ?_
  refine va_get (D := D) (ci := 5) (v := .ref (aN 0)) (C := RX5) (T := TX5) (N := 5) hx hb hts hiX5 hown hK hP 0 rfl rfl 0 (by decide) hf21 (fun _ z => z) rfl dX5_hangsAsTold_5 ?_
  obtain ⟨r8, g8, h⟩ := k_bind h
  refine k_callV (As := [.ref (aN 0)]) (rest := []) (st1 := []) (ws2 := (Wd20 cI cM aD aN aW aM aK nS.1 nS.2.1 nS.2.2.1 nS.2.2.2.1 nS.2.2.2.2.1 nS.2.2.2.2.2.1 nS.2.2.2.2.2.2.1 nS.2.2.2.2.2.2.2.1 nS.2.2.2.2.2.2.2.2.1 nS.2.2.2.2.2.2.2.2.2.1 r8.1 r8.2.1 r8.2.2.1 r8.2.2.2.1 r8.2.2.2.2.1 r8.2.2.2.2.2.1 mS.2.2.2.2.2.2.1 r8.2.2.2.2.2.2.1 r8.2.2.2.2.2.2.2.1 r8.2.2.2.2.2.2.2.2 d_kind d_figure d_sort d_size d_held d_el)) hx hb hml hown hts hK hN hA hP hD hS hl (c_City_becomes l D cI cM cS cJ aM aN aK s.heap.size mS.1 mS.2.1 mS.2.2.1 mS.2.2.2.1 mS.2.2.2.2.1 mS.2.2.2.2.2.1 mS.2.2.2.2.2.2.1 mS.2.2.2.2.2.2.2.1 mS.2.2.2.2.2.2.2.2.1 mS.2.2.2.2.2.2.2.2.2.1 nS.1 nS.2.1 nS.2.2.1 nS.2.2.2.1 nS.2.2.2.2.1 nS.2.2.2.2.2.1 nS.2.2.2.2.2.2.1 nS.2.2.2.2.2.2.2.1 nS.2.2.2.2.2.2.2.2.1 nS.2.2.2.2.2.2.2.2.2.1 g8) gX5_hangsAsTold_X2_becomes rfl kdV_X2_becomes 0 2 rfl rfl rfl [5, 6, 7, 8, 1, 2, 3, 4] ⟨rfl, rfl⟩ ⟨Nat.le_of_ble_eq_true rfl, Nat.le_of_ble_eq_true rfl⟩ ⟨Nat.zero_le _, Nat.zero_le _⟩ rfl rfl (by decide +kernel) (k_rp rfl (by decide +kernel)) rfl rfl (Nat.le_of_ble_eq_true rfl) dX5_hangsAsTold_8 rfl (fun H locs hP hD hS => ?_)
  refine lv_aload_n hx hb dX5_hangsAsTold_11 rfl (lv_at hl 0 rfl) ?_
  refine va_get (D := D) (ci := 5) (v := .ref (aM 0)) (C := RX5) (T := TX5) (N := 5) hx hb hts hiX5 hown hK hP 0 rfl rfl 1 (by decide) hf25 (fun _ z => z) rfl dX5_hangsAsTold_12 ?_
  refine lv_iload_n hx hb dX5_hangsAsTold_15 rfl (lv_at hl 1 rfl) ?_
  refine va_put (D := D) (ci := 2) (v := .int x1) (ty := .int) (C := RX2) (T := TX2) (N := 12) hx hb hts hiX2 tyX2 tyX2_ok nmX2 hown hK hP hD hS 5 rfl rfl 6 (by decide) hf107 (fun _ z => z) rfl (by decide +kernel) rfl rfl (Nat.le_of_ble_eq_true rfl) dX5_hangsAsTold_16 (fun H locs hP hD hS => ?_)
  replace hP : va_P D vwCl (Wd20 cI cM aD aN aW aM aK nS.1 nS.2.1 nS.2.2.1 nS.2.2.2.1 nS.2.2.2.2.1 nS.2.2.2.2.2.1 nS.2.2.2.2.2.2.1 nS.2.2.2.2.2.2.2.1 nS.2.2.2.2.2.2.2.2.1 nS.2.2.2.2.2.2.2.2.2.1 r8.1 r8.2.1 r8.2.2.1 x1 r8.2.2.2.2.1 r8.2.2.2.2.2.1 mS.2.2.2.2.2.2.1 r8.2.2.2.2.2.2.1 r8.2.2.2.2.2.2.2.1 r8.2.2.2.2.2.2.2.2 d_kind d_figure d_sort d_size d_held d_el) H := hP
  replace hD : va_D A (Wd20 cI cM aD aN aW aM aK nS.1 nS.2.1 nS.2.2.1 nS.2.2.2.1 nS.2.2.2.2.1 nS.2.2.2.2.2.1 nS.2.2.2.2.2.2.1 nS.2.2.2.2.2.2.2.1 nS.2.2.2.2.2.2.2.2.1 nS.2.2.2.2.2.2.2.2.2.1 r8.1 r8.2.1 r8.2.2.1 x1 r8.2.2.2.2.1 r8.2.2.2.2.2.1 mS.2.2.2.2.2.2.1 r8.2.2.2.2.2.2.1 r8.2.2.2.2.2.2.2.1 r8.2.2.2.2.2.2.2.2 d_kind d_figure d_sort d_size d_held d_el) := hD
  refine lv_aload_n hx hb dX5_hangsAsTold_19 rfl (lv_at hl 0 rfl) ?_
  refine va_get (D := D) (ci := 5) (v := .ref (aM 0)) (C := RX5) (T := TX5) (N := 5) hx hb hts hiX5 hown hK hP 0 rfl rfl 1 (by decide) hf25 (fun _ z => z) rfl dX5_hangsAsTold_20 ?_
  refine lv_iload_n hx hb dX5_hangsAsTold_23 rfl (lv_at hl 2 rfl) ?_
  refine va_put (D := D) (ci := 2) (v := .int x2) (ty := .int) (C := RX2) (T := TX2) (N := 12) hx hb hts hiX2 tyX2 tyX2_ok nmX2 hown hK hP hD hS 5 rfl rfl 5 (by decide) hf48 (fun _ z => z) rfl (by decide +kernel) rfl rfl (Nat.le_of_ble_eq_true rfl) dX5_hangsAsTold_24 (fun H locs hP hD hS => ?_)
  replace hP : va_P D vwCl (Wd20 cI cM aD aN aW aM aK nS.1 nS.2.1 nS.2.2.1 nS.2.2.2.1 nS.2.2.2.2.1 nS.2.2.2.2.2.1 nS.2.2.2.2.2.2.1 nS.2.2.2.2.2.2.2.1 nS.2.2.2.2.2.2.2.2.1 nS.2.2.2.2.2.2.2.2.2.1 r8.1 r8.2.1 x2 x1 r8.2.2.2.2.1 r8.2.2.2.2.2.1 mS.2.2.2.2.2.2.1 r8.2.2.2.2.2.2.1 r8.2.2.2.2.2.2.2.1 r8.2.2.2.2.2.2.2.2 d_kind d_figure d_sort d_size d_held d_el) H := hP
  replace hD : va_D A (Wd20 cI cM aD aN aW aM aK nS.1 nS.2.1 nS.2.2.1 nS.2.2.2.1 nS.2.2.2.2.1 nS.2.2.2.2.2.1 nS.2.2.2.2.2.2.1 nS.2.2.2.2.2.2.2.1 nS.2.2.2.2.2.2.2.2.1 nS.2.2.2.2.2.2.2.2.2.1 r8.1 r8.2.1 x2 x1 r8.2.2.2.2.1 r8.2.2.2.2.2.1 mS.2.2.2.2.2.2.1 r8.2.2.2.2.2.2.1 r8.2.2.2.2.2.2.2.1 r8.2.2.2.2.2.2.2.2 d_kind d_figure d_sort d_size d_held d_el) := hD
  refine lv_iconst (v := 0) hx hb dX5_hangsAsTold_27 (by decide) ?_
  have B30 : ∀ (n30 : Nat) (y4 : Int32) (mS : CS) (H : Heap) (locs : List Loc) (ls : Array Slot), va_P D vwCl (Wd20 cI cM aD aN aW aM aK nS.1 nS.2.1 nS.2.2.1 nS.2.2.2.1 nS.2.2.2.2.1 nS.2.2.2.2.2.1 nS.2.2.2.2.2.2.1 nS.2.2.2.2.2.2.2.1 nS.2.2.2.2.2.2.2.2.1 nS.2.2.2.2.2.2.2.2.2.1 mS.1 mS.2.1 mS.2.2.1 mS.2.2.2.1 mS.2.2.2.2.1 mS.2.2.2.2.2.1 mS.2.2.2.2.2.2.1 mS.2.2.2.2.2.2.2.1 mS.2.2.2.2.2.2.2.2.1 mS.2.2.2.2.2.2.2.2.2.1 d_kind d_figure d_sort d_size d_held d_el) H → va_D A (Wd20 cI cM aD aN aW aM aK nS.1 nS.2.1 nS.2.2.1 nS.2.2.2.1 nS.2.2.2.2.1 nS.2.2.2.2.2.1 nS.2.2.2.2.2.2.1 nS.2.2.2.2.2.2.2.1 nS.2.2.2.2.2.2.2.2.1 nS.2.2.2.2.2.2.2.2.2.1 mS.1 mS.2.1 mS.2.2.1 mS.2.2.2.1 mS.2.2.2.2.1 mS.2.2.2.2.2.1 mS.2.2.2.2.2.2.1 mS.2.2.2.2.2.2.2.1 mS.2.2.2.2.2.2.2.2.1 mS.2.2.2.2.2.2.2.2.2.1 d_kind d_figure d_sort d_size d_held d_el) → va_S A s.heap H locs → lv_has ls 5 [(0, .ref (aW 0)), (3, .ref (aD 0)), (4, .int y4)] → S_Mind_hangsAsTold_L30 d_sort d_size d_el n30 y4 mS = some o → W p l e rm_X5_hangsAsTold s m ([.ref (aW 0), .int x1, .int x2, .ref (aD 0)] : List Value).toArray below meth c H locs 0 0 Q (F0 m 30 ls []) := by
    intro n30
    induction n30 with
    | zero => intro y4 mS H locs ls hP hD hS hl h; exact absurd h (by simp [S_Mind_hangsAsTold_L30])
    | succ n30 ih30 =>
      intro y4 mS H locs ls hP hD hS hl h
      rw [S_Mind_hangsAsTold_L30] at h
      refine lv_iload hx hb dX5_hangsAsTold_30 (lv_at hl 2 rfl) ?_
      refine lv_aload_n hx hb dX5_hangsAsTold_32 rfl (lv_at hl 1 rfl) ?_
      refine va_get (D := D) (ci := 9) (v := .int d_size) (C := RX9) (T := TX9) (N := 7) hx hb hts hiX9 hown hK hP 9 rfl rfl 4 (by decide) hf95 (fun _ z => z) rfl dX5_hangsAsTold_33 ?_
      refine lv_icmp_ge (tgt := 70) hx hb dX5_hangsAsTold_36 (by decide) (fun c36 => ?_) (fun c36 => ?_)
      · have h := k_pos c36 h
        refine lv_iconst (v := 1) hx hb dX5_hangsAsTold_70 (by decide) ?_
        cases h
        exact hret _ _ _ _ (k_z01 (fun z => z (Or.inr rfl))) hP hS dX5_hangsAsTold_71
      · have h := k_neg c36 h
        refine lv_aload_n hx hb dX5_hangsAsTold_39 rfl (lv_at hl 1 rfl) ?_
        refine lv_iload hx hb dX5_hangsAsTold_40 (lv_at hl 2 rfl) ?_
        refine lv_aload_n hx hb dX5_hangsAsTold_42 rfl (lv_at hl 0 rfl) ?_
        refine va_get (D := D) (ci := 5) (v := .ref (aM 0)) (C := RX5) (T := TX5) (N := 5) hx hb hts hiX5 hown hK hP 0 rfl rfl 1 (by decide) hf25 (fun _ z => z) rfl dX5_hangsAsTold_43 ?_
        refine va_get (D := D) (ci := 2) (v := .int mS.2.2.1) (C := RX2) (T := TX2) (N := 12) hx hb hts hiX2 hown hK hP 5 rfl rfl 5 (by decide) hf48 (fun _ z => z) rfl dX5_hangsAsTold_46 ?_
        obtain ⟨r49, g49, h⟩ := k_bind h
        refine k_callV (As := [.int y4, .int mS.2.2.1]) (rest := []) (st1 := [.int r49]) (ws2 := (Wd20 cI cM aD aN aW aM aK nS.1 nS.2.1 nS.2.2.1 nS.2.2.2.1 nS.2.2.2.2.1 nS.2.2.2.2.2.1 nS.2.2.2.2.2.2.1 nS.2.2.2.2.2.2.2.1 nS.2.2.2.2.2.2.2.2.1 nS.2.2.2.2.2.2.2.2.2.1 mS.1 mS.2.1 mS.2.2.1 mS.2.2.2.1 mS.2.2.2.2.1 mS.2.2.2.2.2.1 mS.2.2.2.2.2.2.1 mS.2.2.2.2.2.2.2.1 mS.2.2.2.2.2.2.2.2.1 mS.2.2.2.2.2.2.2.2.2.1 d_kind d_figure d_sort d_size d_held d_el)) hx hb hml hown hts hK hN hA hP hD hS hl (c_Shelf_agrees l D cI cM cS cJ aD aK H.size y4 mS.2.2.1 d_kind d_figure d_sort d_size d_held d_el g49) gX5_hangsAsTold_X9_agrees rfl kdV_X9_agrees 0 9 rfl rfl rfl [9, 10] ⟨rfl, rfl⟩ ⟨Nat.le_of_ble_eq_true rfl, Nat.le_of_ble_eq_true rfl⟩ ⟨Nat.zero_le _, Nat.zero_le _⟩ rfl rfl (by decide +kernel) (k_rp rfl (by decide +kernel)) rfl rfl (Nat.le_of_ble_eq_true rfl) dX5_hangsAsTold_49 rfl (fun H locs hP hD hS => ?_)
        refine lv_if_ne (tgt := 57) hx hb dX5_hangsAsTold_52 (by decide) (fun c52 => ?_) (fun c52 => ?_)
        · have h := k_neg c52 h
          refine lv_aload_n hx hb dX5_hangsAsTold_57 rfl (lv_at hl 0 rfl) ?_
          refine va_get (D := D) (ci := 5) (v := .ref (aM 0)) (C := RX5) (T := TX5) (N := 5) hx hb hts hiX5 hown hK hP 0 rfl rfl 1 (by decide) hf25 (fun _ z => z) rfl dX5_hangsAsTold_58 ?_
          obtain ⟨r61, g61, h⟩ := k_bind h
          refine k_callV (As := []) (rest := []) (st1 := []) (ws2 := (Wd20 cI cM aD aN aW aM aK nS.1 nS.2.1 nS.2.2.1 nS.2.2.2.1 nS.2.2.2.2.1 nS.2.2.2.2.2.1 nS.2.2.2.2.2.2.1 nS.2.2.2.2.2.2.2.1 nS.2.2.2.2.2.2.2.2.1 nS.2.2.2.2.2.2.2.2.2.1 mS.1 mS.2.1 r61.1 r61.2.1 r61.2.2.1 r61.2.2.2.1 r61.2.2.2.2.1 mS.2.2.2.2.2.2.2.1 mS.2.2.2.2.2.2.2.2.1 r61.2.2.2.2.2 d_kind d_figure d_sort d_size d_held d_el)) hx hb hml hown hts hK hN hA hP hD hS hl (c_City_passDay l D cI cM cS cJ aM aK H.size mS.1 mS.2.1 mS.2.2.1 mS.2.2.2.1 mS.2.2.2.2.1 mS.2.2.2.2.2.1 mS.2.2.2.2.2.2.1 mS.2.2.2.2.2.2.2.1 mS.2.2.2.2.2.2.2.2.1 mS.2.2.2.2.2.2.2.2.2.1 g61) gX5_hangsAsTold_X2_passDay rfl kdV_X2_passDay 0 2 rfl rfl rfl [5, 6, 7, 8, 11, 12, 13, 14, 15, 16, 17, 18, 19] ⟨rfl, rfl⟩ ⟨Nat.le_of_ble_eq_true rfl, Nat.le_of_ble_eq_true rfl⟩ ⟨Nat.zero_le _, Nat.zero_le _⟩ rfl rfl (by decide +kernel) (k_rp rfl (by decide +kernel)) rfl rfl (Nat.le_of_ble_eq_true rfl) dX5_hangsAsTold_61 rfl (fun H locs hP hD hS => ?_)
          refine lv_iinc (v := (y4 + 1)) (lv' := [(4, .int (y4 + 1)), (0, .ref (aW 0)), (3, .ref (aD 0))]) hx hb dX5_hangsAsTold_64 hl (k := 2) rfl (by first | rfl | decide) (by decide) rfl (fun ls hl => ?_)
          refine lv_goto (tgt := 30) hx hb dX5_hangsAsTold_67 (by decide) ?_
          exact ih30 (y4 + 1) (mS.1, mS.2.1, r61.1, r61.2.1, r61.2.2.1, r61.2.2.2.1, r61.2.2.2.2.1, mS.2.2.2.2.2.2.2.1, mS.2.2.2.2.2.2.2.2.1, r61.2.2.2.2.2, mS.2.2.2.2.2.2.2.2.2.2) H locs ls hP hD hS (lv_sub hl [1, 2, 0] rfl) h
        · have h := k_pos c52 h
          refine lv_iconst (v := 0) hx hb dX5_hangsAsTold_55 (by decide) ?_
          cases h
          exact hret _ _ _ _ (k_z01 (fun z => z (Or.inl rfl))) hP hS dX5_hangsAsTold_56
  refine lv_istore (lv' := [(4, .int 0), (0, .ref (aW 0)), (1, .int x1), (2, .int x2), (3, .ref (aD 0))]) hx hb dX5_hangsAsTold_28 hl (by decide) rfl (fun ls hl => ?_)
  exact B30 lfu 0 (r8.1, r8.2.1, x2, x1, r8.2.2.2.2.1, r8.2.2.2.2.2.1, mS.2.2.2.2.2.2.1, r8.2.2.2.2.2.2.1, r8.2.2.2.2.2.2.2.1, r8.2.2.2.2.2.2.2.2, mS.2.2.2.2.2.2.2.2.2.2) H locs ls hP hD hS (lv_sub hl [1, 4, 0] rfl) h
theorem kdV_X5_hangsAsTold : yX5_hangsAsTold.cls = RX5 ∧ yX5_hangsAsTold.cls ≠ "java/lang/invoke/MethodHandle" ∧ yX5_hangsAsTold.cls ≠ "java/lang/invoke/VarHandle" ∧ (parseMethodDescriptor yX5_hangsAsTold.desc).map (fun d => d.parameters.length) = some 3 := by decide +kernel
abbrev rm_X5_hangings : Room := { frames := 5, cells := 0, slots := 0, locals := 129 }
set_option maxHeartbeats 4000000 in
set_option maxRecDepth 100000 in
theorem c_Mind_hangings (l : Launch) (D : va_G) (cI cM cS cJ : ClassId) (aD : Nat → Nat) (aN : Nat → Nat) (aW : Nat → Nat) (aM : Nat → Nat) (aK : Nat → Nat) (sz : Nat) (x2 : Int32) (nS : CS) (mS : CS) (d_kind : Int32) (d_figure : Int32) (d_sort : Int32) (d_size : Int32) (d_held : Int32) (d_el : Nat → Int32) {o : (Int32) × (CS)} (hsem : S_Mind_hangings x2 nS mS d_sort d_size d_el = some o) : kMet l yX5_hangings wsX5_hangings rm_X5_hangings [.ref (aW 0), .ref (aD 0), .int x2] D (kT cI cM cS cJ) (Wd20 cI cM aD aN aW aM aK nS.1 nS.2.1 nS.2.2.1 nS.2.2.2.1 nS.2.2.2.2.1 nS.2.2.2.2.2.1 nS.2.2.2.2.2.2.1 nS.2.2.2.2.2.2.2.1 nS.2.2.2.2.2.2.2.2.1 nS.2.2.2.2.2.2.2.2.2.1 mS.1 mS.2.1 mS.2.2.1 mS.2.2.2.1 mS.2.2.2.2.1 mS.2.2.2.2.2.1 mS.2.2.2.2.2.2.1 mS.2.2.2.2.2.2.2.1 mS.2.2.2.2.2.2.2.2.1 mS.2.2.2.2.2.2.2.2.2.1 d_kind d_figure d_sort d_size d_held d_el) sz (some (.int o.1)) (Wd20 cI cM aD aN aW aM aK nS.1 nS.2.1 nS.2.2.1 nS.2.2.2.1 nS.2.2.2.2.1 nS.2.2.2.2.2.1 nS.2.2.2.2.2.2.1 nS.2.2.2.2.2.2.2.1 nS.2.2.2.2.2.2.2.2.1 nS.2.2.2.2.2.2.2.2.2.1 o.2.1 o.2.2.1 o.2.2.2.1 o.2.2.2.2.1 o.2.2.2.2.2.1 o.2.2.2.2.2.2.1 o.2.2.2.2.2.2.2.1 o.2.2.2.2.2.2.2.2.1 o.2.2.2.2.2.2.2.2.2.1 o.2.2.2.2.2.2.2.2.2.2.1 d_kind d_figure d_sort d_size d_held d_el) := by
  refine k_metI (by decide) rfl rfl (Nat.le_of_ble_eq_true rfl) ?_
  intro p e s m below meth c ls Q A hx hb hml hts hown hK hN hA hP hD hS hl hsz hnm hret
  have hown : s.vm.findClass RX5 = some m.cls := hown
  replace hl : lv_has ls 8 [(0, .ref (aW 0)), (1, .ref (aD 0)), (2, .int x2)] := hl
  have h := hsem
  clear hsem
  rw [S_Mind_hangings] at h
  refine lv_iconst (v := 0) hx hb dX5_hangings_0 (by decide) ?_
  refine lv_istore_n (lv' := [(3, .int 0), (0, .ref (aW 0)), (1, .ref (aD 0)), (2, .int x2)]) hx hb dX5_hangings_1 rfl hl (by decide) rfl (fun ls hl => ?_)
  refine lv_bipush (v := (-4)) hx hb dX5_hangings_2 (by decide) ?_
  refine lv_istore (lv' := [(4, .int (-4)), (3, .int 0), (0, .ref (aW 0)), (1, .ref (aD 0)), (2, .int x2)]) hx hb dX5_hangings_4 hl (by decide) rfl (fun ls hl => ?_)
  refine lv_bipush (v := (-4)) hx hb dX5_hangings_6 (by decide) ?_
  refine lv_istore (lv' := [(5, .int (-4)), (4, .int (-4)), (3, .int 0), (0, .ref (aW 0)), (1, .ref (aD 0)), (2, .int x2)]) hx hb dX5_hangings_8 hl (by decide) rfl (fun ls hl => ?_)
  refine lv_iconst (v := 0) hx hb dX5_hangings_10 (by decide) ?_
  have B13 : ∀ (n13 : Nat) (y3 : Int32) (y4 : Int32) (y5 : Int32) (y6 : Int32) (mS : CS) (H : Heap) (locs : List Loc) (ls : Array Slot), va_P D vwCl (Wd20 cI cM aD aN aW aM aK nS.1 nS.2.1 nS.2.2.1 nS.2.2.2.1 nS.2.2.2.2.1 nS.2.2.2.2.2.1 nS.2.2.2.2.2.2.1 nS.2.2.2.2.2.2.2.1 nS.2.2.2.2.2.2.2.2.1 nS.2.2.2.2.2.2.2.2.2.1 mS.1 mS.2.1 mS.2.2.1 mS.2.2.2.1 mS.2.2.2.2.1 mS.2.2.2.2.2.1 mS.2.2.2.2.2.2.1 mS.2.2.2.2.2.2.2.1 mS.2.2.2.2.2.2.2.2.1 mS.2.2.2.2.2.2.2.2.2.1 d_kind d_figure d_sort d_size d_held d_el) H → va_D A (Wd20 cI cM aD aN aW aM aK nS.1 nS.2.1 nS.2.2.1 nS.2.2.2.1 nS.2.2.2.2.1 nS.2.2.2.2.2.1 nS.2.2.2.2.2.2.1 nS.2.2.2.2.2.2.2.1 nS.2.2.2.2.2.2.2.2.1 nS.2.2.2.2.2.2.2.2.2.1 mS.1 mS.2.1 mS.2.2.1 mS.2.2.2.1 mS.2.2.2.2.1 mS.2.2.2.2.2.1 mS.2.2.2.2.2.2.1 mS.2.2.2.2.2.2.2.1 mS.2.2.2.2.2.2.2.2.1 mS.2.2.2.2.2.2.2.2.2.1 d_kind d_figure d_sort d_size d_held d_el) → va_S A s.heap H locs → lv_has ls 8 [(0, .ref (aW 0)), (1, .ref (aD 0)), (2, .int x2), (3, .int y3), (4, .int y4), (5, .int y5), (6, .int y6)] → S_Mind_hangings_L13 x2 nS d_sort d_size d_el n13 y3 y4 y5 y6 mS = some o → W p l e rm_X5_hangings s m ([.ref (aW 0), .ref (aD 0), .int x2] : List Value).toArray below meth c H locs 0 0 Q (F0 m 13 ls []) := by
    intro n13
    induction n13 with
    | zero => intro y3 y4 y5 y6 mS H locs ls hP hD hS hl h; exact absurd h (by simp [S_Mind_hangings_L13])
    | succ n13 ih13 =>
      intro y3 y4 y5 y6 mS H locs ls hP hD hS hl h
      rw [S_Mind_hangings_L13] at h
      refine lv_iload hx hb dX5_hangings_13 (lv_at hl 6 rfl) ?_
      refine lv_bipush (v := 9) hx hb dX5_hangings_15 (by decide) ?_
      refine lv_icmp_gt (tgt := 83) hx hb dX5_hangings_17 (by decide) (fun c17 => ?_) (fun c17 => ?_)
      · have h := k_pos c17 h
        refine lv_iload_n hx hb dX5_hangings_83 rfl (lv_at hl 2 rfl) ?_
        refine lv_if_ne (tgt := 89) hx hb dX5_hangings_84 (by decide) (fun c84 => ?_) (fun c84 => ?_)
        · have h := k_neg c84 h
          refine lv_iload_n hx hb dX5_hangings_89 rfl (lv_at hl 2 rfl) ?_
          refine lv_iconst (v := 1) hx hb dX5_hangings_90 (by decide) ?_
          refine lv_icmp_ne (tgt := 99) hx hb dX5_hangings_91 (by decide) (fun c91 => ?_) (fun c91 => ?_)
          · have h := k_neg c91 h
            refine lv_iload hx hb dX5_hangings_99 (lv_at hl 5 rfl) ?_
            cases h
            exact hret _ _ _ _ hP hS dX5_hangings_101
          · have h := k_pos c91 h
            refine lv_iload hx hb dX5_hangings_94 (lv_at hl 4 rfl) ?_
            refine lv_goto (tgt := 101) hx hb dX5_hangings_96 (by decide) ?_
            cases h
            exact hret _ _ _ _ hP hS dX5_hangings_101
        · have h := k_pos c84 h
          refine lv_iload_n hx hb dX5_hangings_87 rfl (lv_at hl 3 rfl) ?_
          cases h
          exact hret _ _ _ _ hP hS dX5_hangings_88
      · have h := k_neg c17 h
        refine lv_iconst (v := 0) hx hb dX5_hangings_20 (by decide) ?_
        have B23 : ∀ (y6 : Int32) (n23 : Nat) (y3 : Int32) (y4 : Int32) (y5 : Int32) (y7 : Int32) (mS : CS) (H : Heap) (locs : List Loc) (ls : Array Slot), va_P D vwCl (Wd20 cI cM aD aN aW aM aK nS.1 nS.2.1 nS.2.2.1 nS.2.2.2.1 nS.2.2.2.2.1 nS.2.2.2.2.2.1 nS.2.2.2.2.2.2.1 nS.2.2.2.2.2.2.2.1 nS.2.2.2.2.2.2.2.2.1 nS.2.2.2.2.2.2.2.2.2.1 mS.1 mS.2.1 mS.2.2.1 mS.2.2.2.1 mS.2.2.2.2.1 mS.2.2.2.2.2.1 mS.2.2.2.2.2.2.1 mS.2.2.2.2.2.2.2.1 mS.2.2.2.2.2.2.2.2.1 mS.2.2.2.2.2.2.2.2.2.1 d_kind d_figure d_sort d_size d_held d_el) H → va_D A (Wd20 cI cM aD aN aW aM aK nS.1 nS.2.1 nS.2.2.1 nS.2.2.2.1 nS.2.2.2.2.1 nS.2.2.2.2.2.1 nS.2.2.2.2.2.2.1 nS.2.2.2.2.2.2.2.1 nS.2.2.2.2.2.2.2.2.1 nS.2.2.2.2.2.2.2.2.2.1 mS.1 mS.2.1 mS.2.2.1 mS.2.2.2.1 mS.2.2.2.2.1 mS.2.2.2.2.2.1 mS.2.2.2.2.2.2.1 mS.2.2.2.2.2.2.2.1 mS.2.2.2.2.2.2.2.2.1 mS.2.2.2.2.2.2.2.2.2.1 d_kind d_figure d_sort d_size d_held d_el) → va_S A s.heap H locs → lv_has ls 8 [(0, .ref (aW 0)), (1, .ref (aD 0)), (2, .int x2), (3, .int y3), (4, .int y4), (5, .int y5), (6, .int y6), (7, .int y7)] → S_Mind_hangings_L23 (S_Mind_hangings_L13 x2 nS d_sort d_size d_el n13) y6 nS d_sort d_size d_el n23 y3 y4 y5 y7 mS = some o → W p l e rm_X5_hangings s m ([.ref (aW 0), .ref (aD 0), .int x2] : List Value).toArray below meth c H locs 0 0 Q (F0 m 23 ls []) := by
          intro y6
          intro n23
          induction n23 with
          | zero => intro y3 y4 y5 y7 mS H locs ls hP hD hS hl h; exact absurd h (by simp [S_Mind_hangings_L23])
          | succ n23 ih23 =>
            intro y3 y4 y5 y7 mS H locs ls hP hD hS hl h
            rw [S_Mind_hangings_L23] at h
            refine lv_iload hx hb dX5_hangings_23 (lv_at hl 7 rfl) ?_
            refine lv_bipush (v := 8) hx hb dX5_hangings_25 (by decide) ?_
            refine lv_icmp_ge (tgt := 77) hx hb dX5_hangings_27 (by decide) (fun c27 => ?_) (fun c27 => ?_)
            · have h := k_pos c27 h
              refine lv_iinc (v := (y6 + 1)) (lv' := [(6, .int (y6 + 1)), (0, .ref (aW 0)), (1, .ref (aD 0)), (2, .int x2), (3, .int y3), (4, .int y4), (5, .int y5), (7, .int y7)]) hx hb dX5_hangings_77 hl (k := 6) rfl (by first | rfl | decide) (by decide) rfl (fun ls hl => ?_)
              refine lv_goto (tgt := 13) hx hb dX5_hangings_80 (by decide) ?_
              exact ih13 y3 y4 y5 (y6 + 1) mS H locs ls hP hD hS (lv_sub hl [1, 2, 3, 4, 5, 6, 0] rfl) h
            · have h := k_neg c27 h
              refine lv_aload_n hx hb dX5_hangings_30 rfl (lv_at hl 0 rfl) ?_
              refine lv_iload hx hb dX5_hangings_31 (lv_at hl 6 rfl) ?_
              refine lv_iload hx hb dX5_hangings_33 (lv_at hl 7 rfl) ?_
              refine lv_aload_n hx hb dX5_hangings_35 rfl (lv_at hl 1 rfl) ?_
              obtain ⟨r36, g36, h⟩ := k_bind h
              refine k_callV (As := [.int y6, .int y7, .ref (aD 0)]) (rest := []) (st1 := [.int r36.1]) (ws2 := (Wd20 cI cM aD aN aW aM aK nS.1 nS.2.1 nS.2.2.1 nS.2.2.2.1 nS.2.2.2.2.1 nS.2.2.2.2.2.1 nS.2.2.2.2.2.2.1 nS.2.2.2.2.2.2.2.1 nS.2.2.2.2.2.2.2.2.1 nS.2.2.2.2.2.2.2.2.2.1 r36.2.1 r36.2.2.1 r36.2.2.2.1 r36.2.2.2.2.1 r36.2.2.2.2.2.1 r36.2.2.2.2.2.2.1 r36.2.2.2.2.2.2.2.1 r36.2.2.2.2.2.2.2.2.1 r36.2.2.2.2.2.2.2.2.2.1 r36.2.2.2.2.2.2.2.2.2.2.1 d_kind d_figure d_sort d_size d_held d_el)) hx hb hml hown hts hK hN hA hP hD hS hl (c_Mind_hangsAsTold l D cI cM cS cJ aD aN aW aM aK H.size y6 y7 nS mS d_kind d_figure d_sort d_size d_held d_el g36) gX5_hangings_X5_hangsAsTold rfl kdV_X5_hangsAsTold 0 5 rfl rfl rfl [0, 1, 2, 3, 4, 5, 6, 7, 8, 9, 10, 11, 12, 13, 14, 15, 16, 17, 18, 19] ⟨rfl, rfl⟩ ⟨Nat.le_of_ble_eq_true rfl, Nat.le_of_ble_eq_true rfl⟩ ⟨Nat.zero_le _, Nat.zero_le _⟩ rfl rfl (by decide +kernel) (k_rp rfl (by decide +kernel)) rfl rfl (Nat.le_of_ble_eq_true rfl) dX5_hangings_36 rfl (fun H locs hP hD hS => ?_)
              refine lv_if_eq (tgt := 71) hx hb dX5_hangings_39 (by decide) (fun c39 => ?_) (fun c39 => ?_)
              · have h := k_pos c39 h
                refine lv_iinc (v := (y7 + 1)) (lv' := [(7, .int (y7 + 1)), (0, .ref (aW 0)), (1, .ref (aD 0)), (2, .int x2), (3, .int y3), (4, .int y4), (5, .int y5), (6, .int y6)]) hx hb dX5_hangings_71 hl (k := 7) rfl (by first | rfl | decide) (by decide) rfl (fun ls hl => ?_)
                refine lv_goto (tgt := 23) hx hb dX5_hangings_74 (by decide) ?_
                exact ih23 y3 y4 y5 (y7 + 1) r36.2 H locs ls hP hD hS (lv_sub hl [1, 2, 3, 4, 5, 6, 7, 0] rfl) h
              · have h := k_neg c39 h
                refine lv_iinc (v := (y3 + 1)) (lv' := [(3, .int (y3 + 1)), (0, .ref (aW 0)), (1, .ref (aD 0)), (2, .int x2), (4, .int y4), (5, .int y5), (6, .int y6), (7, .int y7)]) hx hb dX5_hangings_42 hl (k := 3) rfl (by first | rfl | decide) (by decide) rfl (fun ls hl => ?_)
                refine lv_bipush (v := 10) hx hb dX5_hangings_45 (by decide) ?_
                refine lv_iload hx hb dX5_hangings_47 (lv_at hl 6 rfl) ?_
                refine lv_imul hx hb dX5_hangings_49 ?_
                refine lv_iload hx hb dX5_hangings_50 (lv_at hl 7 rfl) ?_
                refine lv_iadd hx hb dX5_hangings_52 ?_
                refine lv_istore (lv' := [(5, .int (((10 : Int32) * y6) + y7)), (3, .int (y3 + 1)), (0, .ref (aW 0)), (1, .ref (aD 0)), (2, .int x2), (4, .int y4), (6, .int y6), (7, .int y7)]) hx hb dX5_hangings_53 hl (by decide) rfl (fun ls hl => ?_)
                refine lv_iload hx hb dX5_hangings_55 (lv_at hl 5 rfl) ?_
                refine lv_bipush (v := (-4)) hx hb dX5_hangings_57 (by decide) ?_
                refine lv_icmp_ne (tgt := 67) hx hb dX5_hangings_59 (by decide) (fun c59 => ?_) (fun c59 => ?_)
                · have h := k_neg c59 h
                  refine lv_iload hx hb dX5_hangings_67 (lv_at hl 5 rfl) ?_
                  refine lv_istore (lv' := [(4, .int y4), (5, .int (((10 : Int32) * y6) + y7)), (3, .int (y3 + 1)), (0, .ref (aW 0)), (1, .ref (aD 0)), (2, .int x2), (6, .int y6), (7, .int y7)]) hx hb dX5_hangings_69 hl (by decide) rfl (fun ls hl => ?_)
                  refine lv_iinc (v := (y7 + 1)) (lv' := [(7, .int (y7 + 1)), (4, .int y4), (5, .int (((10 : Int32) * y6) + y7)), (3, .int (y3 + 1)), (0, .ref (aW 0)), (1, .ref (aD 0)), (2, .int x2), (6, .int y6)]) hx hb dX5_hangings_71 hl (k := 7) rfl (by first | rfl | decide) (by decide) rfl (fun ls hl => ?_)
                  refine lv_goto (tgt := 23) hx hb dX5_hangings_74 (by decide) ?_
                  exact ih23 (y3 + 1) y4 (((10 : Int32) * y6) + y7) (y7 + 1) r36.2 H locs ls hP hD hS (lv_sub hl [4, 5, 6, 3, 1, 2, 7, 0] rfl) h
                · have h := k_pos c59 h
                  refine lv_iload hx hb dX5_hangings_62 (lv_at hl 0 rfl) ?_
                  refine lv_goto (tgt := 69) hx hb dX5_hangings_64 (by decide) ?_
                  refine lv_istore (lv' := [(4, .int (((10 : Int32) * y6) + y7)), (5, .int (((10 : Int32) * y6) + y7)), (3, .int (y3 + 1)), (0, .ref (aW 0)), (1, .ref (aD 0)), (2, .int x2), (6, .int y6), (7, .int y7)]) hx hb dX5_hangings_69 hl (by decide) rfl (fun ls hl => ?_)
                  refine lv_iinc (v := (y7 + 1)) (lv' := [(7, .int (y7 + 1)), (4, .int (((10 : Int32) * y6) + y7)), (5, .int (((10 : Int32) * y6) + y7)), (3, .int (y3 + 1)), (0, .ref (aW 0)), (1, .ref (aD 0)), (2, .int x2), (6, .int y6)]) hx hb dX5_hangings_71 hl (k := 7) rfl (by first | rfl | decide) (by decide) rfl (fun ls hl => ?_)
                  refine lv_goto (tgt := 23) hx hb dX5_hangings_74 (by decide) ?_
                  exact ih23 (y3 + 1) (((10 : Int32) * y6) + y7) (((10 : Int32) * y6) + y7) (y7 + 1) r36.2 H locs ls hP hD hS (lv_sub hl [4, 5, 6, 3, 1, 2, 7, 0] rfl) h
        refine lv_istore (lv' := [(7, .int 0), (0, .ref (aW 0)), (1, .ref (aD 0)), (2, .int x2), (3, .int y3), (4, .int y4), (5, .int y5), (6, .int y6)]) hx hb dX5_hangings_21 hl (by decide) rfl (fun ls hl => ?_)
        exact B23 y6 lfu y3 y4 y5 0 mS H locs ls hP hD hS (lv_sub hl [1, 2, 3, 4, 5, 6, 7, 0] rfl) h
  refine lv_istore (lv' := [(6, .int 0), (5, .int (-4)), (4, .int (-4)), (3, .int 0), (0, .ref (aW 0)), (1, .ref (aD 0)), (2, .int x2)]) hx hb dX5_hangings_11 hl (by decide) rfl (fun ls hl => ?_)
  exact B13 lfu 0 (-4) (-4) 0 mS s.heap [] ls hP hD hS (lv_sub hl [4, 5, 6, 3, 2, 1, 0] rfl) h
abbrev rm_X5_firstMisjudged : Room := { frames := 4, cells := 0, slots := 0, locals := 105 }
set_option maxHeartbeats 4000000 in
set_option maxRecDepth 100000 in
theorem c_Mind_firstMisjudged (l : Launch) (D : va_G) (cI cM cS cJ : ClassId) (aD : Nat → Nat) (aN : Nat → Nat) (aW : Nat → Nat) (aM : Nat → Nat) (aK : Nat → Nat) (sz : Nat) (nS : CS) (mS : CS) (d_kind : Int32) (d_figure : Int32) (d_sort : Int32) (d_size : Int32) (d_held : Int32) (d_el : Nat → Int32) {o : (Int32) × (CS)} (hsem : S_Mind_firstMisjudged nS mS d_sort d_size d_el = some o) : kMet l yX5_firstMisjudged wsX5_firstMisjudged rm_X5_firstMisjudged [.ref (aW 0), .ref (aD 0)] D (kT cI cM cS cJ) (Wd20 cI cM aD aN aW aM aK nS.1 nS.2.1 nS.2.2.1 nS.2.2.2.1 nS.2.2.2.2.1 nS.2.2.2.2.2.1 nS.2.2.2.2.2.2.1 nS.2.2.2.2.2.2.2.1 nS.2.2.2.2.2.2.2.2.1 nS.2.2.2.2.2.2.2.2.2.1 mS.1 mS.2.1 mS.2.2.1 mS.2.2.2.1 mS.2.2.2.2.1 mS.2.2.2.2.2.1 mS.2.2.2.2.2.2.1 mS.2.2.2.2.2.2.2.1 mS.2.2.2.2.2.2.2.2.1 mS.2.2.2.2.2.2.2.2.2.1 d_kind d_figure d_sort d_size d_held d_el) sz (some (.int o.1)) (Wd20 cI cM aD aN aW aM aK nS.1 nS.2.1 nS.2.2.1 nS.2.2.2.1 nS.2.2.2.2.1 nS.2.2.2.2.2.1 nS.2.2.2.2.2.2.1 nS.2.2.2.2.2.2.2.1 nS.2.2.2.2.2.2.2.2.1 nS.2.2.2.2.2.2.2.2.2.1 o.2.1 o.2.2.1 o.2.2.2.1 o.2.2.2.2.1 o.2.2.2.2.2.1 o.2.2.2.2.2.2.1 o.2.2.2.2.2.2.2.1 o.2.2.2.2.2.2.2.2.1 o.2.2.2.2.2.2.2.2.2.1 o.2.2.2.2.2.2.2.2.2.2.1 d_kind d_figure d_sort d_size d_held d_el) := by
  refine k_metI (by decide) rfl rfl (Nat.le_of_ble_eq_true rfl) ?_
  intro p e s m below meth c ls Q A hx hb hml hts hown hK hN hA hP hD hS hl hsz hnm hret
  have hown : s.vm.findClass RX5 = some m.cls := hown
  have hf25 := hts (.fieldLink RX5 25 "PlumbLine$Mind" "then" "LPlumbLine$City;") (List.mem_of_getElem? (i := 1) rfl)
  have hf21 := hts (.fieldLink RX5 21 "PlumbLine$Mind" "now" "LPlumbLine$City;") (List.mem_of_getElem? (i := 2) rfl)
  have hf95 := hts (.fieldLink RX5 95 "PlumbLine$Shelf" "size" "I") (List.mem_of_getElem? (i := 3) rfl)
  have hiX5 : ∀ w ∈ u_ws RX5 TX5 5, w ∈ wsX5_firstMisjudged := fun w h => List.mem_cons_of_mem _ (List.mem_append_left _ (List.mem_append_left _ (List.mem_append_right _ h)))
  have hiX9 : ∀ w ∈ u_ws RX9 TX9 7, w ∈ wsX5_firstMisjudged := fun w h => List.mem_cons_of_mem _ (List.mem_append_left _ (List.mem_append_right _ h))
  replace hl : lv_has ls 3 [(0, .ref (aW 0)), (1, .ref (aD 0))] := hl
  have h := hsem
  clear hsem
  rw [S_Mind_firstMisjudged] at h
  refine lv_aload_n hx hb dX5_firstMisjudged_0 rfl (lv_at hl 0 rfl) ?_
  refine va_get (D := D) (ci := 5) (v := .ref (aM 0)) (C := RX5) (T := TX5) (N := 5) hx hb hts hiX5 hown hK hP 0 rfl rfl 1 (by decide) hf25 (fun _ z => z) rfl dX5_firstMisjudged_1 ?_
  refine lv_aload_n hx hb dX5_firstMisjudged_4 rfl (lv_at hl 0 rfl) ?_
  refine va_get (D := D) (ci := 5) (v := .ref (aN 0)) (C := RX5) (T := TX5) (N := 5) hx hb hts hiX5 hown hK hP 0 rfl rfl 0 (by decide) hf21 (fun _ z => z) rfl dX5_firstMisjudged_5 ?_
  obtain ⟨r8, g8, h⟩ := k_bind h
  refine k_callV (As := [.ref (aN 0)]) (rest := []) (st1 := []) (ws2 := (Wd20 cI cM aD aN aW aM aK nS.1 nS.2.1 nS.2.2.1 nS.2.2.2.1 nS.2.2.2.2.1 nS.2.2.2.2.2.1 nS.2.2.2.2.2.2.1 nS.2.2.2.2.2.2.2.1 nS.2.2.2.2.2.2.2.2.1 nS.2.2.2.2.2.2.2.2.2.1 r8.1 r8.2.1 r8.2.2.1 r8.2.2.2.1 r8.2.2.2.2.1 r8.2.2.2.2.2.1 mS.2.2.2.2.2.2.1 r8.2.2.2.2.2.2.1 r8.2.2.2.2.2.2.2.1 r8.2.2.2.2.2.2.2.2 d_kind d_figure d_sort d_size d_held d_el)) hx hb hml hown hts hK hN hA hP hD hS hl (c_City_becomes l D cI cM cS cJ aM aN aK s.heap.size mS.1 mS.2.1 mS.2.2.1 mS.2.2.2.1 mS.2.2.2.2.1 mS.2.2.2.2.2.1 mS.2.2.2.2.2.2.1 mS.2.2.2.2.2.2.2.1 mS.2.2.2.2.2.2.2.2.1 mS.2.2.2.2.2.2.2.2.2.1 nS.1 nS.2.1 nS.2.2.1 nS.2.2.2.1 nS.2.2.2.2.1 nS.2.2.2.2.2.1 nS.2.2.2.2.2.2.1 nS.2.2.2.2.2.2.2.1 nS.2.2.2.2.2.2.2.2.1 nS.2.2.2.2.2.2.2.2.2.1 g8) gX5_firstMisjudged_X2_becomes rfl kdV_X2_becomes 0 2 rfl rfl rfl [5, 6, 7, 8, 1, 2, 3, 4] ⟨rfl, rfl⟩ ⟨Nat.le_of_ble_eq_true rfl, Nat.le_of_ble_eq_true rfl⟩ ⟨Nat.zero_le _, Nat.zero_le _⟩ rfl rfl (by decide +kernel) (k_rp rfl (by decide +kernel)) rfl rfl (Nat.le_of_ble_eq_true rfl) dX5_firstMisjudged_8 rfl (fun H locs hP hD hS => ?_)
  refine lv_iconst (v := 0) hx hb dX5_firstMisjudged_11 (by decide) ?_
  have B13 : ∀ (n13 : Nat) (y2 : Int32) (mS : CS) (H : Heap) (locs : List Loc) (ls : Array Slot), va_P D vwCl (Wd20 cI cM aD aN aW aM aK nS.1 nS.2.1 nS.2.2.1 nS.2.2.2.1 nS.2.2.2.2.1 nS.2.2.2.2.2.1 nS.2.2.2.2.2.2.1 nS.2.2.2.2.2.2.2.1 nS.2.2.2.2.2.2.2.2.1 nS.2.2.2.2.2.2.2.2.2.1 mS.1 mS.2.1 mS.2.2.1 mS.2.2.2.1 mS.2.2.2.2.1 mS.2.2.2.2.2.1 mS.2.2.2.2.2.2.1 mS.2.2.2.2.2.2.2.1 mS.2.2.2.2.2.2.2.2.1 mS.2.2.2.2.2.2.2.2.2.1 d_kind d_figure d_sort d_size d_held d_el) H → va_D A (Wd20 cI cM aD aN aW aM aK nS.1 nS.2.1 nS.2.2.1 nS.2.2.2.1 nS.2.2.2.2.1 nS.2.2.2.2.2.1 nS.2.2.2.2.2.2.1 nS.2.2.2.2.2.2.2.1 nS.2.2.2.2.2.2.2.2.1 nS.2.2.2.2.2.2.2.2.2.1 mS.1 mS.2.1 mS.2.2.1 mS.2.2.2.1 mS.2.2.2.2.1 mS.2.2.2.2.2.1 mS.2.2.2.2.2.2.1 mS.2.2.2.2.2.2.2.1 mS.2.2.2.2.2.2.2.2.1 mS.2.2.2.2.2.2.2.2.2.1 d_kind d_figure d_sort d_size d_held d_el) → va_S A s.heap H locs → lv_has ls 3 [(0, .ref (aW 0)), (1, .ref (aD 0)), (2, .int y2)] → S_Mind_firstMisjudged_L13 d_sort d_size d_el n13 y2 mS = some o → W p l e rm_X5_firstMisjudged s m ([.ref (aW 0), .ref (aD 0)] : List Value).toArray below meth c H locs 0 0 Q (F0 m 13 ls []) := by
    intro n13
    induction n13 with
    | zero => intro y2 mS H locs ls hP hD hS hl h; exact absurd h (by simp [S_Mind_firstMisjudged_L13])
    | succ n13 ih13 =>
      intro y2 mS H locs ls hP hD hS hl h
      rw [S_Mind_firstMisjudged_L13] at h
      refine lv_iload_n hx hb dX5_firstMisjudged_13 rfl (lv_at hl 2 rfl) ?_
      refine lv_aload_n hx hb dX5_firstMisjudged_14 rfl (lv_at hl 1 rfl) ?_
      refine va_get (D := D) (ci := 9) (v := .int d_size) (C := RX9) (T := TX9) (N := 7) hx hb hts hiX9 hown hK hP 9 rfl rfl 4 (by decide) hf95 (fun _ z => z) rfl dX5_firstMisjudged_15 ?_
      refine lv_icmp_ge (tgt := 54) hx hb dX5_firstMisjudged_18 (by decide) (fun c18 => ?_) (fun c18 => ?_)
      · have h := k_pos c18 h
        refine lv_bipush (v := (-4)) hx hb dX5_firstMisjudged_54 (by decide) ?_
        cases h
        exact hret _ _ _ _ hP hS dX5_firstMisjudged_56
      · have h := k_neg c18 h
        refine lv_aload_n hx hb dX5_firstMisjudged_21 rfl (lv_at hl 1 rfl) ?_
        refine lv_iload_n hx hb dX5_firstMisjudged_22 rfl (lv_at hl 2 rfl) ?_
        refine lv_aload_n hx hb dX5_firstMisjudged_23 rfl (lv_at hl 0 rfl) ?_
        refine va_get (D := D) (ci := 5) (v := .ref (aM 0)) (C := RX5) (T := TX5) (N := 5) hx hb hts hiX5 hown hK hP 0 rfl rfl 1 (by decide) hf25 (fun _ z => z) rfl dX5_firstMisjudged_24 ?_
        obtain ⟨r27, g27, h⟩ := k_bind h
        refine k_callV (As := []) (rest := [.int y2, .ref (aD 0)]) (st1 := [.int r27, .int y2, .ref (aD 0)]) (ws2 := (Wd20 cI cM aD aN aW aM aK nS.1 nS.2.1 nS.2.2.1 nS.2.2.2.1 nS.2.2.2.2.1 nS.2.2.2.2.2.1 nS.2.2.2.2.2.2.1 nS.2.2.2.2.2.2.2.1 nS.2.2.2.2.2.2.2.2.1 nS.2.2.2.2.2.2.2.2.2.1 mS.1 mS.2.1 mS.2.2.1 mS.2.2.2.1 mS.2.2.2.2.1 mS.2.2.2.2.2.1 mS.2.2.2.2.2.2.1 mS.2.2.2.2.2.2.2.1 mS.2.2.2.2.2.2.2.2.1 mS.2.2.2.2.2.2.2.2.2.1 d_kind d_figure d_sort d_size d_held d_el)) hx hb hml hown hts hK hN hA hP hD hS hl (c_City_upright l D cI cM cS cJ aM aK H.size mS.1 mS.2.1 mS.2.2.1 mS.2.2.2.1 mS.2.2.2.2.1 mS.2.2.2.2.2.1 mS.2.2.2.2.2.2.1 mS.2.2.2.2.2.2.2.1 mS.2.2.2.2.2.2.2.2.1 mS.2.2.2.2.2.2.2.2.2.1 g27) gX5_firstMisjudged_X2_upright rfl kdV_X2_upright 0 2 rfl rfl rfl [5, 6, 7, 8, 11, 12, 13, 14, 15, 16, 17, 18, 19] ⟨rfl, rfl⟩ ⟨Nat.le_of_ble_eq_true rfl, Nat.le_of_ble_eq_true rfl⟩ ⟨Nat.zero_le _, Nat.zero_le _⟩ rfl rfl (by decide +kernel) (k_rp rfl (by decide +kernel)) rfl rfl (Nat.le_of_ble_eq_true rfl) dX5_firstMisjudged_27 rfl (fun H locs hP hD hS => ?_)
        refine k_callS (As := [.int r27]) (rest := [.int y2, .ref (aD 0)]) (st1 := [.int (S_J_bitCount r27), .int y2, .ref (aD 0)]) (ws2 := (Wd20 cI cM aD aN aW aM aK nS.1 nS.2.1 nS.2.2.1 nS.2.2.2.1 nS.2.2.2.2.1 nS.2.2.2.2.2.1 nS.2.2.2.2.2.2.1 nS.2.2.2.2.2.2.2.1 nS.2.2.2.2.2.2.2.2.1 nS.2.2.2.2.2.2.2.2.2.1 mS.1 mS.2.1 mS.2.2.1 mS.2.2.2.1 mS.2.2.2.2.1 mS.2.2.2.2.2.1 mS.2.2.2.2.2.2.1 mS.2.2.2.2.2.2.2.1 mS.2.2.2.2.2.2.2.2.1 mS.2.2.2.2.2.2.2.2.2.1 d_kind d_figure d_sort d_size d_held d_el)) hx hb hml hown hts hK hN hA hP hD hS hl (c_J_bitCount l D cI cM cS cJ H.size r27 rfl) gX5_firstMisjudged_J6_bitCount_0f7a4 rfl kdS_J6_bitCount_0f7a4 [] ⟨rfl, rfl⟩ ⟨Nat.le_of_ble_eq_true rfl, Nat.le_of_ble_eq_true rfl⟩ ⟨Nat.zero_le _, Nat.zero_le _⟩ rfl rfl (by decide +kernel) (k_rp rfl (by decide +kernel)) rfl rfl (Nat.le_of_ble_eq_true rfl) dX5_firstMisjudged_30 rfl (fun H locs hP hD hS => ?_)
        obtain ⟨r33, g33, h⟩ := k_bind h
        refine k_callV (As := [.int y2, .int (S_J_bitCount r27)]) (rest := []) (st1 := [.int r33]) (ws2 := (Wd20 cI cM aD aN aW aM aK nS.1 nS.2.1 nS.2.2.1 nS.2.2.2.1 nS.2.2.2.2.1 nS.2.2.2.2.2.1 nS.2.2.2.2.2.2.1 nS.2.2.2.2.2.2.2.1 nS.2.2.2.2.2.2.2.2.1 nS.2.2.2.2.2.2.2.2.2.1 mS.1 mS.2.1 mS.2.2.1 mS.2.2.2.1 mS.2.2.2.2.1 mS.2.2.2.2.2.1 mS.2.2.2.2.2.2.1 mS.2.2.2.2.2.2.2.1 mS.2.2.2.2.2.2.2.2.1 mS.2.2.2.2.2.2.2.2.2.1 d_kind d_figure d_sort d_size d_held d_el)) hx hb hml hown hts hK hN hA hP hD hS hl (c_Shelf_agrees l D cI cM cS cJ aD aK H.size y2 (S_J_bitCount r27) d_kind d_figure d_sort d_size d_held d_el g33) gX5_firstMisjudged_X9_agrees rfl kdV_X9_agrees 0 9 rfl rfl rfl [9, 10] ⟨rfl, rfl⟩ ⟨Nat.le_of_ble_eq_true rfl, Nat.le_of_ble_eq_true rfl⟩ ⟨Nat.zero_le _, Nat.zero_le _⟩ rfl rfl (by decide +kernel) (k_rp rfl (by decide +kernel)) rfl rfl (Nat.le_of_ble_eq_true rfl) dX5_firstMisjudged_33 rfl (fun H locs hP hD hS => ?_)
        refine lv_if_ne (tgt := 41) hx hb dX5_firstMisjudged_36 (by decide) (fun c36 => ?_) (fun c36 => ?_)
        · have h := k_neg c36 h
          refine lv_aload_n hx hb dX5_firstMisjudged_41 rfl (lv_at hl 0 rfl) ?_
          refine va_get (D := D) (ci := 5) (v := .ref (aM 0)) (C := RX5) (T := TX5) (N := 5) hx hb hts hiX5 hown hK hP 0 rfl rfl 1 (by decide) hf25 (fun _ z => z) rfl dX5_firstMisjudged_42 ?_
          obtain ⟨r45, g45, h⟩ := k_bind h
          refine k_callV (As := []) (rest := []) (st1 := []) (ws2 := (Wd20 cI cM aD aN aW aM aK nS.1 nS.2.1 nS.2.2.1 nS.2.2.2.1 nS.2.2.2.2.1 nS.2.2.2.2.2.1 nS.2.2.2.2.2.2.1 nS.2.2.2.2.2.2.2.1 nS.2.2.2.2.2.2.2.2.1 nS.2.2.2.2.2.2.2.2.2.1 mS.1 mS.2.1 r45.1 r45.2.1 r45.2.2.1 r45.2.2.2.1 r45.2.2.2.2.1 mS.2.2.2.2.2.2.2.1 mS.2.2.2.2.2.2.2.2.1 r45.2.2.2.2.2 d_kind d_figure d_sort d_size d_held d_el)) hx hb hml hown hts hK hN hA hP hD hS hl (c_City_passDay l D cI cM cS cJ aM aK H.size mS.1 mS.2.1 mS.2.2.1 mS.2.2.2.1 mS.2.2.2.2.1 mS.2.2.2.2.2.1 mS.2.2.2.2.2.2.1 mS.2.2.2.2.2.2.2.1 mS.2.2.2.2.2.2.2.2.1 mS.2.2.2.2.2.2.2.2.2.1 g45) gX5_firstMisjudged_X2_passDay rfl kdV_X2_passDay 0 2 rfl rfl rfl [5, 6, 7, 8, 11, 12, 13, 14, 15, 16, 17, 18, 19] ⟨rfl, rfl⟩ ⟨Nat.le_of_ble_eq_true rfl, Nat.le_of_ble_eq_true rfl⟩ ⟨Nat.zero_le _, Nat.zero_le _⟩ rfl rfl (by decide +kernel) (k_rp rfl (by decide +kernel)) rfl rfl (Nat.le_of_ble_eq_true rfl) dX5_firstMisjudged_45 rfl (fun H locs hP hD hS => ?_)
          refine lv_iinc (v := (y2 + 1)) (lv' := [(2, .int (y2 + 1)), (0, .ref (aW 0)), (1, .ref (aD 0))]) hx hb dX5_firstMisjudged_48 hl (k := 2) rfl (by first | rfl | decide) (by decide) rfl (fun ls hl => ?_)
          refine lv_goto (tgt := 13) hx hb dX5_firstMisjudged_51 (by decide) ?_
          exact ih13 (y2 + 1) (mS.1, mS.2.1, r45.1, r45.2.1, r45.2.2.1, r45.2.2.2.1, r45.2.2.2.2.1, mS.2.2.2.2.2.2.2.1, mS.2.2.2.2.2.2.2.2.1, r45.2.2.2.2.2, mS.2.2.2.2.2.2.2.2.2.2) H locs ls hP hD hS (lv_sub hl [1, 2, 0] rfl) h
        · have h := k_pos c36 h
          refine lv_iload_n hx hb dX5_firstMisjudged_39 rfl (lv_at hl 2 rfl) ?_
          cases h
          exact hret _ _ _ _ hP hS dX5_firstMisjudged_40
  refine lv_istore_n (lv' := [(2, .int 0), (0, .ref (aW 0)), (1, .ref (aD 0))]) hx hb dX5_firstMisjudged_12 rfl hl (by decide) rfl (fun ls hl => ?_)
  exact B13 lfu 0 (r8.1, r8.2.1, r8.2.2.1, r8.2.2.2.1, r8.2.2.2.2.1, r8.2.2.2.2.2.1, mS.2.2.2.2.2.2.1, r8.2.2.2.2.2.2.1, r8.2.2.2.2.2.2.2.1, r8.2.2.2.2.2.2.2.2, mS.2.2.2.2.2.2.2.2.2.2) H locs ls hP hD hS (lv_sub hl [1, 2, 0] rfl) h
abbrev Wd21 (cI : ClassId) (cM : ClassId) (aN : Nat → Nat) (aW : Nat → Nat) (aM : Nat → Nat) (aK : Nat → Nat) (m_men : Int32) (m_propped : Int32) (m_place : Int32) (m_swings : Int32) (m_crashes : Int32) (m_day : Int32) (m_crashedToday : Int32) (m_kind : Nat → Int32) (m_figure : Nat → Int32) (m_lean : Nat → Int32) : va_W := [((aW 0), .inr (5, [.ref (aN 0), .ref (aM 0), .ref (aW 1), .ref (aW 2), .ref (aW 3)])), ((aM 0), .inr (2, [.ref (aM 1), .ref (aM 2), .ref (aM 3), .int m_men, .int m_propped, .int m_place, .int m_swings, .int m_crashes, .int m_day, .int m_crashedToday, .ref (aK 8), .ref (aM 4)])), ((aM 1), .inl (cI, 8, .inl m_kind)), ((aM 2), .inl (cI, 8, .inl m_figure)), ((aM 3), .inl (cI, 8, .inl m_lean)), ((aK 8), .inl (cM, 8, .inr (.inr (.inr (.inr (fun k => some (aK k))))))), ((aK 0), .inr (4, [])), ((aK 1), .inr (0, [])), ((aK 2), .inr (7, [])), ((aK 3), .inr (3, [])), ((aK 4), .inr (1, [])), ((aK 5), .inr (8, [])), ((aK 6), .inr (10, [])), ((aK 7), .inr (6, []))]
theorem kdV_X2_isUpright : yX2_isUpright.cls = RX2 ∧ yX2_isUpright.cls ≠ "java/lang/invoke/MethodHandle" ∧ yX2_isUpright.cls ≠ "java/lang/invoke/VarHandle" ∧ (parseMethodDescriptor yX2_isUpright.desc).map (fun d => d.parameters.length) = some 1 := by decide +kernel
abbrev rm_X5_gainOf : Room := { frames := 4, cells := 0, slots := 0, locals := 85 }
set_option maxHeartbeats 4000000 in
set_option maxRecDepth 100000 in
theorem c_Mind_gainOf (l : Launch) (D : va_G) (cI cM cS cJ : ClassId) (aN : Nat → Nat) (aW : Nat → Nat) (aM : Nat → Nat) (aK : Nat → Nat) (sz : Nat) (x1 : Int32) (x2 : Int32) (x3 : Int32) (mS : CS) {o : (Int32)} (hsem : S_Mind_gainOf x1 x2 x3 mS = some o) : kMet l yX5_gainOf wsX5_gainOf rm_X5_gainOf [.ref (aW 0), .int x1, .int x2, .int x3] D (kT cI cM cS cJ) (Wd21 cI cM aN aW aM aK mS.1 mS.2.1 mS.2.2.1 mS.2.2.2.1 mS.2.2.2.2.1 mS.2.2.2.2.2.1 mS.2.2.2.2.2.2.1 mS.2.2.2.2.2.2.2.1 mS.2.2.2.2.2.2.2.2.1 mS.2.2.2.2.2.2.2.2.2.1) sz (some (.int o)) (Wd21 cI cM aN aW aM aK mS.1 mS.2.1 mS.2.2.1 mS.2.2.2.1 mS.2.2.2.2.1 mS.2.2.2.2.2.1 mS.2.2.2.2.2.2.1 mS.2.2.2.2.2.2.2.1 mS.2.2.2.2.2.2.2.2.1 mS.2.2.2.2.2.2.2.2.2.1) := by
  refine k_metI (by decide) rfl rfl (Nat.le_of_ble_eq_true rfl) ?_
  intro p e s m below meth c ls Q A hx hb hml hts hown hK hN hA hP hD hS hl hsz hnm hret
  have hown : s.vm.findClass RX5 = some m.cls := hown
  have hf25 := hts (.fieldLink RX5 25 "PlumbLine$Mind" "then" "LPlumbLine$City;") (List.mem_of_getElem? (i := 1) rfl)
  have hiX5 : ∀ w ∈ u_ws RX5 TX5 5, w ∈ wsX5_gainOf := fun w h => List.mem_cons_of_mem _ (List.mem_append_left _ (List.mem_append_right _ h))
  replace hl : lv_has ls 5 [(0, .ref (aW 0)), (1, .int x1), (2, .int x2), (3, .int x3)] := hl
  have h := hsem
  clear hsem
  rw [S_Mind_gainOf] at h
  refine lv_aload_n hx hb dX5_gainOf_0 rfl (lv_at hl 0 rfl) ?_
  refine va_get (D := D) (ci := 5) (v := .ref (aM 0)) (C := RX5) (T := TX5) (N := 5) hx hb hts hiX5 hown hK hP 0 rfl rfl 1 (by decide) hf25 (fun _ z => z) rfl dX5_gainOf_1 ?_
  refine lv_iload_n hx hb dX5_gainOf_4 rfl (lv_at hl 1 rfl) ?_
  obtain ⟨r5, g5, h⟩ := k_bind h
  refine k_callV (As := [.int x1]) (rest := []) (st1 := [.int r5]) (ws2 := (Wd21 cI cM aN aW aM aK mS.1 mS.2.1 mS.2.2.1 mS.2.2.2.1 mS.2.2.2.2.1 mS.2.2.2.2.2.1 mS.2.2.2.2.2.2.1 mS.2.2.2.2.2.2.2.1 mS.2.2.2.2.2.2.2.2.1 mS.2.2.2.2.2.2.2.2.2.1)) hx hb hml hown hts hK hN hA hP hD hS hl (c_City_isUpright l D cI cM cS cJ aM aK s.heap.size x1 mS.1 mS.2.1 mS.2.2.1 mS.2.2.2.1 mS.2.2.2.2.1 mS.2.2.2.2.2.1 mS.2.2.2.2.2.2.1 mS.2.2.2.2.2.2.2.1 mS.2.2.2.2.2.2.2.2.1 mS.2.2.2.2.2.2.2.2.2.1 g5) gX5_gainOf_X2_isUpright rfl kdV_X2_isUpright 0 2 rfl rfl rfl [1, 2, 3, 4, 5, 6, 7, 8, 9, 10, 11, 12, 13] ⟨rfl, rfl⟩ ⟨Nat.le_of_ble_eq_true rfl, Nat.le_of_ble_eq_true rfl⟩ ⟨Nat.zero_le _, Nat.zero_le _⟩ rfl rfl (by decide +kernel) (k_rp rfl (by decide +kernel)) rfl rfl (Nat.le_of_ble_eq_true rfl) dX5_gainOf_5 rfl (fun H locs hP hD hS => ?_)
  refine lv_if_eq (tgt := 16) hx hb dX5_gainOf_8 (by decide) (fun c8 => ?_) (fun c8 => ?_)
  · have h := k_pos c8 h
    refine lv_iconst (v := 0) hx hb dX5_gainOf_16 (by decide) ?_
    refine lv_istore (lv' := [(4, .int 0), (0, .ref (aW 0)), (1, .int x1), (2, .int x2), (3, .int x3)]) hx hb dX5_gainOf_17 hl (by decide) rfl (fun ls hl => ?_)
    refine lv_iload hx hb dX5_gainOf_19 (lv_at hl 0 rfl) ?_
    refine lv_iconst (v := 2) hx hb dX5_gainOf_21 (by decide) ?_
    refine lv_iload_n hx hb dX5_gainOf_22 rfl (lv_at hl 3 rfl) ?_
    refine lv_imul hx hb dX5_gainOf_23 ?_
    refine lv_isub hx hb dX5_gainOf_24 ?_
    refine lv_iload_n hx hb dX5_gainOf_25 rfl (lv_at hl 4 rfl) ?_
    refine lv_isub hx hb dX5_gainOf_26 ?_
    cases h
    exact hret _ _ _ _ hP hS dX5_gainOf_27
  · have h := k_neg c8 h
    refine lv_bipush (v := 6) hx hb dX5_gainOf_11 (by decide) ?_
    refine lv_goto (tgt := 17) hx hb dX5_gainOf_13 (by decide) ?_
    refine lv_istore (lv' := [(4, .int 6), (0, .ref (aW 0)), (1, .int x1), (2, .int x2), (3, .int x3)]) hx hb dX5_gainOf_17 hl (by decide) rfl (fun ls hl => ?_)
    refine lv_iload hx hb dX5_gainOf_19 (lv_at hl 0 rfl) ?_
    refine lv_iconst (v := 2) hx hb dX5_gainOf_21 (by decide) ?_
    refine lv_iload_n hx hb dX5_gainOf_22 rfl (lv_at hl 3 rfl) ?_
    refine lv_imul hx hb dX5_gainOf_23 ?_
    refine lv_isub hx hb dX5_gainOf_24 ?_
    refine lv_iload_n hx hb dX5_gainOf_25 rfl (lv_at hl 4 rfl) ?_
    refine lv_isub hx hb dX5_gainOf_26 ?_
    cases h
    exact hret _ _ _ _ hP hS dX5_gainOf_27
abbrev Wd22 (cI : ClassId) (cM : ClassId) (aN : Nat → Nat) (aW : Nat → Nat) (aM : Nat → Nat) (aK : Nat → Nat) (w_gains : Nat → Int32) (w_othersGains : Nat → Int32) (n_men : Int32) (n_propped : Int32) (n_place : Int32) (n_swings : Int32) (n_crashes : Int32) (n_day : Int32) (n_crashedToday : Int32) (n_kind : Nat → Int32) (n_figure : Nat → Int32) (n_lean : Nat → Int32) (m_men : Int32) (m_propped : Int32) (m_place : Int32) (m_swings : Int32) (m_crashes : Int32) (m_day : Int32) (m_crashedToday : Int32) (m_kind : Nat → Int32) (m_figure : Nat → Int32) (m_lean : Nat → Int32) : va_W := [((aW 0), .inr (5, [.ref (aN 0), .ref (aM 0), .ref (aW 1), .ref (aW 2), .ref (aW 3)])), ((aW 1), .inl (cI, 4, .inl w_gains)), ((aW 2), .inl (cI, 4, .inl w_othersGains)), ((aN 0), .inr (2, [.ref (aN 1), .ref (aN 2), .ref (aN 3), .int n_men, .int n_propped, .int n_place, .int n_swings, .int n_crashes, .int n_day, .int n_crashedToday, .ref (aK 8), .ref (aN 4)])), ((aN 1), .inl (cI, 8, .inl n_kind)), ((aN 2), .inl (cI, 8, .inl n_figure)), ((aN 3), .inl (cI, 8, .inl n_lean)), ((aM 0), .inr (2, [.ref (aM 1), .ref (aM 2), .ref (aM 3), .int m_men, .int m_propped, .int m_place, .int m_swings, .int m_crashes, .int m_day, .int m_crashedToday, .ref (aK 8), .ref (aM 4)])), ((aM 1), .inl (cI, 8, .inl m_kind)), ((aM 2), .inl (cI, 8, .inl m_figure)), ((aM 3), .inl (cI, 8, .inl m_lean)), ((aK 8), .inl (cM, 8, .inr (.inr (.inr (.inr (fun k => some (aK k))))))), ((aK 0), .inr (4, [])), ((aK 1), .inr (0, [])), ((aK 2), .inr (7, [])), ((aK 3), .inr (3, [])), ((aK 4), .inr (1, [])), ((aK 5), .inr (8, [])), ((aK 6), .inr (10, [])), ((aK 7), .inr (6, []))]
theorem kdV_X5_gainOf : yX5_gainOf.cls = RX5 ∧ yX5_gainOf.cls ≠ "java/lang/invoke/MethodHandle" ∧ yX5_gainOf.cls ≠ "java/lang/invoke/VarHandle" ∧ (parseMethodDescriptor yX5_gainOf.desc).map (fun d => d.parameters.length) = some 3 := by decide +kernel
abbrev rm_X5_settledPair : Room := { frames := 5, cells := 0, slots := 0, locals := 128 }
set_option maxHeartbeats 4000000 in
set_option maxRecDepth 100000 in
theorem c_Mind_settledPair (l : Launch) (D : va_G) (cI cM cS cJ : ClassId) (aN : Nat → Nat) (aW : Nat → Nat) (aM : Nat → Nat) (aK : Nat → Nat) (sz : Nat) (x1 : Int32) (x2 : Int32) (x3 : Int32) (w_gains : Nat → Int32) (w_othersGains : Nat → Int32) (nS : CS) (mS : CS) {o : (Int32) × (Nat → Int32) × (Nat → Int32) × (CS)} (hsem : S_Mind_settledPair x1 x2 x3 w_gains w_othersGains nS mS = some o) : kMet l yX5_settledPair wsX5_settledPair rm_X5_settledPair [.ref (aW 0), .int x1, .int x2, .int x3] D (kT cI cM cS cJ) (Wd22 cI cM aN aW aM aK w_gains w_othersGains nS.1 nS.2.1 nS.2.2.1 nS.2.2.2.1 nS.2.2.2.2.1 nS.2.2.2.2.2.1 nS.2.2.2.2.2.2.1 nS.2.2.2.2.2.2.2.1 nS.2.2.2.2.2.2.2.2.1 nS.2.2.2.2.2.2.2.2.2.1 mS.1 mS.2.1 mS.2.2.1 mS.2.2.2.1 mS.2.2.2.2.1 mS.2.2.2.2.2.1 mS.2.2.2.2.2.2.1 mS.2.2.2.2.2.2.2.1 mS.2.2.2.2.2.2.2.2.1 mS.2.2.2.2.2.2.2.2.2.1) sz (some (.int o.1)) (Wd22 cI cM aN aW aM aK o.2.1 o.2.2.1 nS.1 nS.2.1 nS.2.2.1 nS.2.2.2.1 nS.2.2.2.2.1 nS.2.2.2.2.2.1 nS.2.2.2.2.2.2.1 nS.2.2.2.2.2.2.2.1 nS.2.2.2.2.2.2.2.2.1 nS.2.2.2.2.2.2.2.2.2.1 o.2.2.2.1 o.2.2.2.2.1 o.2.2.2.2.2.1 o.2.2.2.2.2.2.1 o.2.2.2.2.2.2.2.1 o.2.2.2.2.2.2.2.2.1 o.2.2.2.2.2.2.2.2.2.1 o.2.2.2.2.2.2.2.2.2.2.1 o.2.2.2.2.2.2.2.2.2.2.2.1 o.2.2.2.2.2.2.2.2.2.2.2.2.1) := by
  refine k_metI (by decide) rfl rfl (Nat.le_of_ble_eq_true rfl) ?_
  intro p e s m below meth c ls Q A hx hb hml hts hown hK hN hA hP hD hS hl hsz hnm hret
  have hown : s.vm.findClass RX5 = some m.cls := hown
  have hf9 := hts (.fieldLink RX5 9 "PlumbLine$Mind" "gains" "[I") (List.mem_of_getElem? (i := 4) rfl)
  have hf15 := hts (.fieldLink RX5 15 "PlumbLine$Mind" "othersGains" "[I") (List.mem_of_getElem? (i := 5) rfl)
  have hf25 := hts (.fieldLink RX5 25 "PlumbLine$Mind" "then" "LPlumbLine$City;") (List.mem_of_getElem? (i := 1) rfl)
  have hf21 := hts (.fieldLink RX5 21 "PlumbLine$Mind" "now" "LPlumbLine$City;") (List.mem_of_getElem? (i := 2) rfl)
  have hf70 := hts (.fieldLink RX5 70 "PlumbLine$City" "propped" "I") (List.mem_of_getElem? (i := 3) rfl)
  have hiX2 : ∀ w ∈ u_ws RX2 TX2 12, w ∈ wsX5_settledPair := fun w h => List.mem_cons_of_mem _ (List.mem_append_right _ h)
  have hiX5 : ∀ w ∈ u_ws RX5 TX5 5, w ∈ wsX5_settledPair := fun w h => List.mem_cons_of_mem _ (List.mem_append_left _ (List.mem_append_right _ h))
  replace hl : lv_has ls 7 [(0, .ref (aW 0)), (1, .int x1), (2, .int x2), (3, .int x3)] := hl
  have h := hsem
  clear hsem
  rw [S_Mind_settledPair] at h
  refine lv_iconst (v := 0) hx hb dX5_settledPair_0 (by decide) ?_
  have B3 : ∀ (n3 : Nat) (y4 : Int32) (w_gains : Nat → Int32) (w_othersGains : Nat → Int32) (mS : CS) (H : Heap) (locs : List Loc) (ls : Array Slot), va_P D vwCl (Wd22 cI cM aN aW aM aK w_gains w_othersGains nS.1 nS.2.1 nS.2.2.1 nS.2.2.2.1 nS.2.2.2.2.1 nS.2.2.2.2.2.1 nS.2.2.2.2.2.2.1 nS.2.2.2.2.2.2.2.1 nS.2.2.2.2.2.2.2.2.1 nS.2.2.2.2.2.2.2.2.2.1 mS.1 mS.2.1 mS.2.2.1 mS.2.2.2.1 mS.2.2.2.2.1 mS.2.2.2.2.2.1 mS.2.2.2.2.2.2.1 mS.2.2.2.2.2.2.2.1 mS.2.2.2.2.2.2.2.2.1 mS.2.2.2.2.2.2.2.2.2.1) H → va_D A (Wd22 cI cM aN aW aM aK w_gains w_othersGains nS.1 nS.2.1 nS.2.2.1 nS.2.2.2.1 nS.2.2.2.2.1 nS.2.2.2.2.2.1 nS.2.2.2.2.2.2.1 nS.2.2.2.2.2.2.2.1 nS.2.2.2.2.2.2.2.2.1 nS.2.2.2.2.2.2.2.2.2.1 mS.1 mS.2.1 mS.2.2.1 mS.2.2.2.1 mS.2.2.2.2.1 mS.2.2.2.2.2.1 mS.2.2.2.2.2.2.1 mS.2.2.2.2.2.2.2.1 mS.2.2.2.2.2.2.2.2.1 mS.2.2.2.2.2.2.2.2.2.1) → va_S A s.heap H locs → lv_has ls 7 [(0, .ref (aW 0)), (1, .int x1), (2, .int x2), (3, .int x3), (4, .int y4)] → S_Mind_settledPair_L3 x1 x2 x3 nS n3 y4 w_gains w_othersGains mS = some o → W p l e rm_X5_settledPair s m ([.ref (aW 0), .int x1, .int x2, .int x3] : List Value).toArray below meth c H locs 0 0 Q (F0 m 3 ls []) := by
    intro n3
    induction n3 with
    | zero => intro y4 w_gains w_othersGains mS H locs ls hP hD hS hl h; exact absurd h (by simp [S_Mind_settledPair_L3])
    | succ n3 ih3 =>
      intro y4 w_gains w_othersGains mS H locs ls hP hD hS hl h
      rw [S_Mind_settledPair_L3] at h
      refine lv_iload hx hb dX5_settledPair_3 (lv_at hl 4 rfl) ?_
      refine lv_iconst (v := 4) hx hb dX5_settledPair_5 (by decide) ?_
      refine lv_icmp_ge (tgt := 101) hx hb dX5_settledPair_6 (by decide) (fun c6 => ?_) (fun c6 => ?_)
      · have h := k_pos c6 h
        refine lv_iconst (v := 0) hx hb dX5_settledPair_101 (by decide) ?_
        have B104 : ∀ (w_gains : Nat → Int32) (w_othersGains : Nat → Int32) (mS : CS) (n104 : Nat) (y4 : Int32) (H : Heap) (locs : List Loc) (ls : Array Slot), va_P D vwCl (Wd22 cI cM aN aW aM aK w_gains w_othersGains nS.1 nS.2.1 nS.2.2.1 nS.2.2.2.1 nS.2.2.2.2.1 nS.2.2.2.2.2.1 nS.2.2.2.2.2.2.1 nS.2.2.2.2.2.2.2.1 nS.2.2.2.2.2.2.2.2.1 nS.2.2.2.2.2.2.2.2.2.1 mS.1 mS.2.1 mS.2.2.1 mS.2.2.2.1 mS.2.2.2.2.1 mS.2.2.2.2.2.1 mS.2.2.2.2.2.2.1 mS.2.2.2.2.2.2.2.1 mS.2.2.2.2.2.2.2.2.1 mS.2.2.2.2.2.2.2.2.2.1) H → va_D A (Wd22 cI cM aN aW aM aK w_gains w_othersGains nS.1 nS.2.1 nS.2.2.1 nS.2.2.2.1 nS.2.2.2.2.1 nS.2.2.2.2.2.1 nS.2.2.2.2.2.2.1 nS.2.2.2.2.2.2.2.1 nS.2.2.2.2.2.2.2.2.1 nS.2.2.2.2.2.2.2.2.2.1 mS.1 mS.2.1 mS.2.2.1 mS.2.2.2.1 mS.2.2.2.2.1 mS.2.2.2.2.2.1 mS.2.2.2.2.2.2.1 mS.2.2.2.2.2.2.2.1 mS.2.2.2.2.2.2.2.2.1 mS.2.2.2.2.2.2.2.2.2.1) → va_S A s.heap H locs → lv_has ls 7 [(0, .ref (aW 0)), (4, .int y4)] → S_Mind_settledPair_L104 w_gains w_othersGains mS n104 y4 = some o → W p l e rm_X5_settledPair s m ([.ref (aW 0), .int x1, .int x2, .int x3] : List Value).toArray below meth c H locs 0 0 Q (F0 m 104 ls []) := by
          intro w_gains w_othersGains mS
          intro n104
          induction n104 with
          | zero => intro y4 H locs ls hP hD hS hl h; exact absurd h (by simp [S_Mind_settledPair_L104])
          | succ n104 ih104 =>
            intro y4 H locs ls hP hD hS hl h
            rw [S_Mind_settledPair_L104] at h
            refine lv_iload hx hb dX5_settledPair_104 (lv_at hl 1 rfl) ?_
            refine lv_iconst (v := 4) hx hb dX5_settledPair_106 (by decide) ?_
            refine lv_icmp_ge (tgt := 167) hx hb dX5_settledPair_107 (by decide) (fun c107 => ?_) (fun c107 => ?_)
            · have h := k_pos c107 h
              refine lv_bipush (v := (-4)) hx hb dX5_settledPair_167 (by decide) ?_
              cases h
              exact hret _ _ _ _ hP hS dX5_settledPair_169
            · have h := k_neg c107 h
              refine lv_aload_n hx hb dX5_settledPair_110 rfl (lv_at hl 0 rfl) ?_
              refine va_get (D := D) (ci := 5) (v := .ref (aW 1)) (C := RX5) (T := TX5) (N := 5) hx hb hts hiX5 hown hK hP 0 rfl rfl 2 (by decide) hf9 (fun _ z => z) rfl dX5_settledPair_111 ?_
              refine lv_iload hx hb dX5_settledPair_114 (lv_at hl 1 rfl) ?_
              obtain ⟨g116, h⟩ := k_guard h
              refine va_iald hx hb hK hP 1 0 rfl rfl g116 dX5_settledPair_116 ?_
              refine lv_aload_n hx hb dX5_settledPair_117 rfl (lv_at hl 0 rfl) ?_
              refine va_get (D := D) (ci := 5) (v := .ref (aW 1)) (C := RX5) (T := TX5) (N := 5) hx hb hts hiX5 hown hK hP 0 rfl rfl 2 (by decide) hf9 (fun _ z => z) rfl dX5_settledPair_118 ?_
              refine lv_iload hx hb dX5_settledPair_121 (lv_at hl 1 rfl) ?_
              refine lv_iconst (v := 2) hx hb dX5_settledPair_123 (by decide) ?_
              refine lv_ixor hx hb dX5_settledPair_124 ?_
              obtain ⟨g125, h⟩ := k_guard h
              refine va_iald hx hb hK hP 1 0 rfl rfl g125 dX5_settledPair_125 ?_
              refine lv_icmp_lt (tgt := 161) hx hb dX5_settledPair_126 (by decide) (fun c126 => ?_) (fun c126 => ?_)
              · have h := k_pos c126 h
                refine lv_iinc (v := (y4 + 1)) (lv' := [(4, .int (y4 + 1)), (0, .ref (aW 0))]) hx hb dX5_settledPair_161 hl (k := 1) rfl (by first | rfl | decide) (by decide) rfl (fun ls hl => ?_)
                refine lv_goto (tgt := 104) hx hb dX5_settledPair_164 (by decide) ?_
                exact ih104 (y4 + 1) H locs ls hP hD hS (lv_sub hl [1, 0] rfl) h
              · have h := k_neg c126 h
                refine lv_aload_n hx hb dX5_settledPair_129 rfl (lv_at hl 0 rfl) ?_
                refine va_get (D := D) (ci := 5) (v := .ref (aW 2)) (C := RX5) (T := TX5) (N := 5) hx hb hts hiX5 hown hK hP 0 rfl rfl 3 (by decide) hf15 (fun _ z => z) rfl dX5_settledPair_130 ?_
                refine lv_iload hx hb dX5_settledPair_133 (lv_at hl 1 rfl) ?_
                refine va_iald hx hb hK hP 2 0 rfl rfl g116 dX5_settledPair_135 ?_
                refine lv_aload_n hx hb dX5_settledPair_136 rfl (lv_at hl 0 rfl) ?_
                refine va_get (D := D) (ci := 5) (v := .ref (aW 2)) (C := RX5) (T := TX5) (N := 5) hx hb hts hiX5 hown hK hP 0 rfl rfl 3 (by decide) hf15 (fun _ z => z) rfl dX5_settledPair_137 ?_
                refine lv_iload hx hb dX5_settledPair_140 (lv_at hl 1 rfl) ?_
                refine lv_iconst (v := 1) hx hb dX5_settledPair_142 (by decide) ?_
                refine lv_ixor hx hb dX5_settledPair_143 ?_
                obtain ⟨g144, h⟩ := k_guard h
                refine va_iald hx hb hK hP 2 0 rfl rfl g144 dX5_settledPair_144 ?_
                refine lv_icmp_lt (tgt := 161) hx hb dX5_settledPair_145 (by decide) (fun c145 => ?_) (fun c145 => ?_)
                · have h := k_pos c145 h
                  refine lv_iinc (v := (y4 + 1)) (lv' := [(4, .int (y4 + 1)), (0, .ref (aW 0))]) hx hb dX5_settledPair_161 hl (k := 1) rfl (by first | rfl | decide) (by decide) rfl (fun ls hl => ?_)
                  refine lv_goto (tgt := 104) hx hb dX5_settledPair_164 (by decide) ?_
                  exact ih104 (y4 + 1) H locs ls hP hD hS (lv_sub hl [1, 0] rfl) h
                · have h := k_neg c145 h
                  refine lv_bipush (v := 10) hx hb dX5_settledPair_148 (by decide) ?_
                  refine lv_iload hx hb dX5_settledPair_150 (lv_at hl 1 rfl) ?_
                  refine lv_iconst (v := 1) hx hb dX5_settledPair_152 (by decide) ?_
                  refine lv_ishr hx hb dX5_settledPair_153 ?_
                  refine lv_imul hx hb dX5_settledPair_154 ?_
                  refine lv_iload hx hb dX5_settledPair_155 (lv_at hl 1 rfl) ?_
                  refine lv_iconst (v := 1) hx hb dX5_settledPair_157 (by decide) ?_
                  refine lv_iand hx hb dX5_settledPair_158 ?_
                  refine lv_iadd hx hb dX5_settledPair_159 ?_
                  cases h
                  exact hret _ _ _ _ hP hS dX5_settledPair_160
        refine lv_istore (lv' := [(4, .int 0), (0, .ref (aW 0)), (1, .int x1), (2, .int x2), (3, .int x3)]) hx hb dX5_settledPair_102 hl (by decide) rfl (fun ls hl => ?_)
        exact B104 w_gains w_othersGains mS lfu 0 H locs ls hP hD hS (lv_sub hl [1, 0] rfl) h
      · have h := k_neg c6 h
        refine lv_iload hx hb dX5_settledPair_9 (lv_at hl 4 rfl) ?_
        refine lv_iconst (v := 1) hx hb dX5_settledPair_11 (by decide) ?_
        refine lv_ishr hx hb dX5_settledPair_12 ?_
        refine lv_iload_n hx hb dX5_settledPair_13 rfl (lv_at hl 1 rfl) ?_
        refine lv_ishl hx hb dX5_settledPair_14 ?_
        refine lv_iload hx hb dX5_settledPair_15 (lv_at hl 4 rfl) ?_
        refine lv_iconst (v := 1) hx hb dX5_settledPair_17 (by decide) ?_
        refine lv_iand hx hb dX5_settledPair_18 ?_
        refine lv_iload_n hx hb dX5_settledPair_19 rfl (lv_at hl 2 rfl) ?_
        refine lv_ishl hx hb dX5_settledPair_20 ?_
        refine lv_ior hx hb dX5_settledPair_21 ?_
        refine lv_istore (lv' := [(5, .int (((y4 >>> (1 &&& 31)) <<< (x1 &&& 31)) ||| ((y4 &&& 1) <<< (x2 &&& 31)))), (0, .ref (aW 0)), (1, .int x1), (2, .int x2), (3, .int x3), (4, .int y4)]) hx hb dX5_settledPair_22 hl (by decide) rfl (fun ls hl => ?_)
        refine lv_aload_n hx hb dX5_settledPair_24 rfl (lv_at hl 1 rfl) ?_
        refine va_get (D := D) (ci := 5) (v := .ref (aM 0)) (C := RX5) (T := TX5) (N := 5) hx hb hts hiX5 hown hK hP 0 rfl rfl 1 (by decide) hf25 (fun _ z => z) rfl dX5_settledPair_25 ?_
        refine lv_aload_n hx hb dX5_settledPair_28 rfl (lv_at hl 1 rfl) ?_
        refine va_get (D := D) (ci := 5) (v := .ref (aN 0)) (C := RX5) (T := TX5) (N := 5) hx hb hts hiX5 hown hK hP 0 rfl rfl 0 (by decide) hf21 (fun _ z => z) rfl dX5_settledPair_29 ?_
        obtain ⟨r32, g32, h⟩ := k_bind h
        refine k_callV (As := [.ref (aN 0)]) (rest := []) (st1 := []) (ws2 := (Wd22 cI cM aN aW aM aK w_gains w_othersGains nS.1 nS.2.1 nS.2.2.1 nS.2.2.2.1 nS.2.2.2.2.1 nS.2.2.2.2.2.1 nS.2.2.2.2.2.2.1 nS.2.2.2.2.2.2.2.1 nS.2.2.2.2.2.2.2.2.1 nS.2.2.2.2.2.2.2.2.2.1 r32.1 r32.2.1 r32.2.2.1 r32.2.2.2.1 r32.2.2.2.2.1 r32.2.2.2.2.2.1 mS.2.2.2.2.2.2.1 r32.2.2.2.2.2.2.1 r32.2.2.2.2.2.2.2.1 r32.2.2.2.2.2.2.2.2)) hx hb hml hown hts hK hN hA hP hD hS hl (c_City_becomes l D cI cM cS cJ aM aN aK H.size mS.1 mS.2.1 mS.2.2.1 mS.2.2.2.1 mS.2.2.2.2.1 mS.2.2.2.2.2.1 mS.2.2.2.2.2.2.1 mS.2.2.2.2.2.2.2.1 mS.2.2.2.2.2.2.2.2.1 mS.2.2.2.2.2.2.2.2.2.1 nS.1 nS.2.1 nS.2.2.1 nS.2.2.2.1 nS.2.2.2.2.1 nS.2.2.2.2.2.1 nS.2.2.2.2.2.2.1 nS.2.2.2.2.2.2.2.1 nS.2.2.2.2.2.2.2.2.1 nS.2.2.2.2.2.2.2.2.2.1 g32) gX5_settledPair_X2_becomes rfl kdV_X2_becomes 0 2 rfl rfl rfl [7, 8, 9, 10, 3, 4, 5, 6] ⟨rfl, rfl⟩ ⟨Nat.le_of_ble_eq_true rfl, Nat.le_of_ble_eq_true rfl⟩ ⟨Nat.zero_le _, Nat.zero_le _⟩ rfl rfl (by decide +kernel) (k_rp rfl (by decide +kernel)) rfl rfl (Nat.le_of_ble_eq_true rfl) dX5_settledPair_32 rfl (fun H locs hP hD hS => ?_)
        refine lv_aload_n hx hb dX5_settledPair_35 rfl (lv_at hl 1 rfl) ?_
        refine va_get (D := D) (ci := 5) (v := .ref (aM 0)) (C := RX5) (T := TX5) (N := 5) hx hb hts hiX5 hown hK hP 0 rfl rfl 1 (by decide) hf25 (fun _ z => z) rfl dX5_settledPair_36 ?_
        refine lv_dup hx hb dX5_settledPair_39 rfl ?_
        refine va_get (D := D) (ci := 2) (v := .int r32.2.1) (C := RX2) (T := TX2) (N := 12) hx hb hts hiX2 hown hK hP 7 rfl rfl 4 (by decide) hf70 (fun _ z => z) rfl dX5_settledPair_40 ?_
        refine lv_iload hx hb dX5_settledPair_43 (lv_at hl 0 rfl) ?_
        refine lv_ior hx hb dX5_settledPair_45 ?_
        refine va_put (D := D) (ci := 2) (v := .int (r32.2.1 ||| (((y4 >>> (1 &&& 31)) <<< (x1 &&& 31)) ||| ((y4 &&& 1) <<< (x2 &&& 31))))) (ty := .int) (C := RX2) (T := TX2) (N := 12) hx hb hts hiX2 tyX2 tyX2_ok nmX2 hown hK hP hD hS 7 rfl rfl 4 (by decide) hf70 (fun _ z => z) rfl (by decide +kernel) rfl rfl (Nat.le_of_ble_eq_true rfl) dX5_settledPair_46 (fun H locs hP hD hS => ?_)
        replace hP : va_P D vwCl (Wd22 cI cM aN aW aM aK w_gains w_othersGains nS.1 nS.2.1 nS.2.2.1 nS.2.2.2.1 nS.2.2.2.2.1 nS.2.2.2.2.2.1 nS.2.2.2.2.2.2.1 nS.2.2.2.2.2.2.2.1 nS.2.2.2.2.2.2.2.2.1 nS.2.2.2.2.2.2.2.2.2.1 r32.1 (r32.2.1 ||| (((y4 >>> (1 &&& 31)) <<< (x1 &&& 31)) ||| ((y4 &&& 1) <<< (x2 &&& 31)))) r32.2.2.1 r32.2.2.2.1 r32.2.2.2.2.1 r32.2.2.2.2.2.1 mS.2.2.2.2.2.2.1 r32.2.2.2.2.2.2.1 r32.2.2.2.2.2.2.2.1 r32.2.2.2.2.2.2.2.2) H := hP
        replace hD : va_D A (Wd22 cI cM aN aW aM aK w_gains w_othersGains nS.1 nS.2.1 nS.2.2.1 nS.2.2.2.1 nS.2.2.2.2.1 nS.2.2.2.2.2.1 nS.2.2.2.2.2.2.1 nS.2.2.2.2.2.2.2.1 nS.2.2.2.2.2.2.2.2.1 nS.2.2.2.2.2.2.2.2.2.1 r32.1 (r32.2.1 ||| (((y4 >>> (1 &&& 31)) <<< (x1 &&& 31)) ||| ((y4 &&& 1) <<< (x2 &&& 31)))) r32.2.2.1 r32.2.2.2.1 r32.2.2.2.2.1 r32.2.2.2.2.2.1 mS.2.2.2.2.2.2.1 r32.2.2.2.2.2.2.1 r32.2.2.2.2.2.2.2.1 r32.2.2.2.2.2.2.2.2) := hD
        refine lv_aload_n hx hb dX5_settledPair_49 rfl (lv_at hl 1 rfl) ?_
        refine va_get (D := D) (ci := 5) (v := .ref (aM 0)) (C := RX5) (T := TX5) (N := 5) hx hb hts hiX5 hown hK hP 0 rfl rfl 1 (by decide) hf25 (fun _ z => z) rfl dX5_settledPair_50 ?_
        refine lv_iload_n hx hb dX5_settledPair_53 rfl (lv_at hl 4 rfl) ?_
        obtain ⟨r54, g54, h⟩ := k_bind h
        refine k_callV (As := [.int x3]) (rest := []) (st1 := [.int r54.1]) (ws2 := (Wd22 cI cM aN aW aM aK w_gains w_othersGains nS.1 nS.2.1 nS.2.2.1 nS.2.2.2.1 nS.2.2.2.2.1 nS.2.2.2.2.2.1 nS.2.2.2.2.2.2.1 nS.2.2.2.2.2.2.2.1 nS.2.2.2.2.2.2.2.2.1 nS.2.2.2.2.2.2.2.2.2.1 r32.1 (r32.2.1 ||| (((y4 >>> (1 &&& 31)) <<< (x1 &&& 31)) ||| ((y4 &&& 1) <<< (x2 &&& 31)))) r54.2.1 r54.2.2.1 r54.2.2.2.1 r54.2.2.2.2.1 r54.2.2.2.2.2.1 r32.2.2.2.2.2.2.1 r32.2.2.2.2.2.2.2.1 r54.2.2.2.2.2.2)) hx hb hml hown hts hK hN hA hP hD hS hl (c_City_passDays l D cI cM cS cJ aM aK H.size x3 r32.1 (r32.2.1 ||| (((y4 >>> (1 &&& 31)) <<< (x1 &&& 31)) ||| ((y4 &&& 1) <<< (x2 &&& 31)))) r32.2.2.1 r32.2.2.2.1 r32.2.2.2.2.1 r32.2.2.2.2.2.1 mS.2.2.2.2.2.2.1 r32.2.2.2.2.2.2.1 r32.2.2.2.2.2.2.2.1 r32.2.2.2.2.2.2.2.2 g54) gX5_settledPair_X2_passDays rfl kdV_X2_passDays 0 2 rfl rfl rfl [7, 8, 9, 10, 11, 12, 13, 14, 15, 16, 17, 18, 19] ⟨rfl, rfl⟩ ⟨Nat.le_of_ble_eq_true rfl, Nat.le_of_ble_eq_true rfl⟩ ⟨Nat.zero_le _, Nat.zero_le _⟩ rfl rfl (by decide +kernel) (k_rp rfl (by decide +kernel)) rfl rfl (Nat.le_of_ble_eq_true rfl) dX5_settledPair_54 rfl (fun H locs hP hD hS => ?_)
        refine lv_istore (lv' := [(6, .int r54.1), (5, .int (((y4 >>> (1 &&& 31)) <<< (x1 &&& 31)) ||| ((y4 &&& 1) <<< (x2 &&& 31)))), (0, .ref (aW 0)), (1, .int x1), (2, .int x2), (3, .int x3), (4, .int y4)]) hx hb dX5_settledPair_57 hl (by decide) rfl (fun ls hl => ?_)
        refine lv_aload_n hx hb dX5_settledPair_59 rfl (lv_at hl 2 rfl) ?_
        refine va_get (D := D) (ci := 5) (v := .ref (aW 1)) (C := RX5) (T := TX5) (N := 5) hx hb hts hiX5 hown hK hP 0 rfl rfl 2 (by decide) hf9 (fun _ z => z) rfl dX5_settledPair_60 ?_
        refine lv_iload hx hb dX5_settledPair_63 (lv_at hl 6 rfl) ?_
        refine lv_aload_n hx hb dX5_settledPair_65 rfl (lv_at hl 2 rfl) ?_
        refine lv_iload_n hx hb dX5_settledPair_66 rfl (lv_at hl 3 rfl) ?_
        refine lv_iload hx hb dX5_settledPair_67 (lv_at hl 6 rfl) ?_
        refine lv_iconst (v := 1) hx hb dX5_settledPair_69 (by decide) ?_
        refine lv_ishr hx hb dX5_settledPair_70 ?_
        refine lv_iload hx hb dX5_settledPair_71 (lv_at hl 0 rfl) ?_
        obtain ⟨r73, g73, h⟩ := k_bind h
        refine k_callV (As := [.int x1, .int (y4 >>> (1 &&& 31)), .int r54.1]) (rest := [.int y4, .ref (aW 1)]) (st1 := [.int r73, .int y4, .ref (aW 1)]) (ws2 := (Wd22 cI cM aN aW aM aK w_gains w_othersGains nS.1 nS.2.1 nS.2.2.1 nS.2.2.2.1 nS.2.2.2.2.1 nS.2.2.2.2.2.1 nS.2.2.2.2.2.2.1 nS.2.2.2.2.2.2.2.1 nS.2.2.2.2.2.2.2.2.1 nS.2.2.2.2.2.2.2.2.2.1 r32.1 (r32.2.1 ||| (((y4 >>> (1 &&& 31)) <<< (x1 &&& 31)) ||| ((y4 &&& 1) <<< (x2 &&& 31)))) r54.2.1 r54.2.2.1 r54.2.2.2.1 r54.2.2.2.2.1 r54.2.2.2.2.2.1 r32.2.2.2.2.2.2.1 r32.2.2.2.2.2.2.2.1 r54.2.2.2.2.2.2)) hx hb hml hown hts hK hN hA hP hD hS hl (c_Mind_gainOf l D cI cM cS cJ aN aW aM aK H.size x1 (y4 >>> (1 &&& 31)) r54.1 (r32.1, (r32.2.1 ||| (((y4 >>> (1 &&& 31)) <<< (x1 &&& 31)) ||| ((y4 &&& 1) <<< (x2 &&& 31)))), r54.2.1, r54.2.2.1, r54.2.2.2.1, r54.2.2.2.2.1, r54.2.2.2.2.2.1, r32.2.2.2.2.2.2.1, r32.2.2.2.2.2.2.2.1, r54.2.2.2.2.2.2, mS.2.2.2.2.2.2.2.2.2.2) g73) gX5_settledPair_X5_gainOf rfl kdV_X5_gainOf 0 5 rfl rfl rfl [0, 7, 8, 9, 10, 11, 12, 13, 14, 15, 16, 17, 18, 19] ⟨rfl, rfl⟩ ⟨Nat.le_of_ble_eq_true rfl, Nat.le_of_ble_eq_true rfl⟩ ⟨Nat.zero_le _, Nat.zero_le _⟩ rfl rfl (by decide +kernel) (k_rp rfl (by decide +kernel)) rfl rfl (Nat.le_of_ble_eq_true rfl) dX5_settledPair_73 rfl (fun H locs hP hD hS => ?_)
        obtain ⟨g76, h⟩ := k_guard h
        refine va_iast hx hb hK hP hD hS 1 0 rfl rfl g76 dX5_settledPair_76 (fun H locs hP hD hS => ?_)
        replace hP : va_P D vwCl (Wd22 cI cM aN aW aM aK (upd w_gains y4.toNatClampNeg r73) w_othersGains nS.1 nS.2.1 nS.2.2.1 nS.2.2.2.1 nS.2.2.2.2.1 nS.2.2.2.2.2.1 nS.2.2.2.2.2.2.1 nS.2.2.2.2.2.2.2.1 nS.2.2.2.2.2.2.2.2.1 nS.2.2.2.2.2.2.2.2.2.1 r32.1 (r32.2.1 ||| (((y4 >>> (1 &&& 31)) <<< (x1 &&& 31)) ||| ((y4 &&& 1) <<< (x2 &&& 31)))) r54.2.1 r54.2.2.1 r54.2.2.2.1 r54.2.2.2.2.1 r54.2.2.2.2.2.1 r32.2.2.2.2.2.2.1 r32.2.2.2.2.2.2.2.1 r54.2.2.2.2.2.2) H := hP
        replace hD : va_D A (Wd22 cI cM aN aW aM aK (upd w_gains y4.toNatClampNeg r73) w_othersGains nS.1 nS.2.1 nS.2.2.1 nS.2.2.2.1 nS.2.2.2.2.1 nS.2.2.2.2.2.1 nS.2.2.2.2.2.2.1 nS.2.2.2.2.2.2.2.1 nS.2.2.2.2.2.2.2.2.1 nS.2.2.2.2.2.2.2.2.2.1 r32.1 (r32.2.1 ||| (((y4 >>> (1 &&& 31)) <<< (x1 &&& 31)) ||| ((y4 &&& 1) <<< (x2 &&& 31)))) r54.2.1 r54.2.2.1 r54.2.2.2.1 r54.2.2.2.2.1 r54.2.2.2.2.2.1 r32.2.2.2.2.2.2.1 r32.2.2.2.2.2.2.2.1 r54.2.2.2.2.2.2) := hD
        refine lv_aload_n hx hb dX5_settledPair_77 rfl (lv_at hl 2 rfl) ?_
        refine va_get (D := D) (ci := 5) (v := .ref (aW 2)) (C := RX5) (T := TX5) (N := 5) hx hb hts hiX5 hown hK hP 0 rfl rfl 3 (by decide) hf15 (fun _ z => z) rfl dX5_settledPair_78 ?_
        refine lv_iload hx hb dX5_settledPair_81 (lv_at hl 6 rfl) ?_
        refine lv_aload_n hx hb dX5_settledPair_83 rfl (lv_at hl 2 rfl) ?_
        refine lv_iload_n hx hb dX5_settledPair_84 rfl (lv_at hl 4 rfl) ?_
        refine lv_iload hx hb dX5_settledPair_85 (lv_at hl 6 rfl) ?_
        refine lv_iconst (v := 1) hx hb dX5_settledPair_87 (by decide) ?_
        refine lv_iand hx hb dX5_settledPair_88 ?_
        refine lv_iload hx hb dX5_settledPair_89 (lv_at hl 0 rfl) ?_
        obtain ⟨r91, g91, h⟩ := k_bind h
        refine k_callV (As := [.int x2, .int (y4 &&& 1), .int r54.1]) (rest := [.int y4, .ref (aW 2)]) (st1 := [.int r91, .int y4, .ref (aW 2)]) (ws2 := (Wd22 cI cM aN aW aM aK (upd w_gains y4.toNatClampNeg r73) w_othersGains nS.1 nS.2.1 nS.2.2.1 nS.2.2.2.1 nS.2.2.2.2.1 nS.2.2.2.2.2.1 nS.2.2.2.2.2.2.1 nS.2.2.2.2.2.2.2.1 nS.2.2.2.2.2.2.2.2.1 nS.2.2.2.2.2.2.2.2.2.1 r32.1 (r32.2.1 ||| (((y4 >>> (1 &&& 31)) <<< (x1 &&& 31)) ||| ((y4 &&& 1) <<< (x2 &&& 31)))) r54.2.1 r54.2.2.1 r54.2.2.2.1 r54.2.2.2.2.1 r54.2.2.2.2.2.1 r32.2.2.2.2.2.2.1 r32.2.2.2.2.2.2.2.1 r54.2.2.2.2.2.2)) hx hb hml hown hts hK hN hA hP hD hS hl (c_Mind_gainOf l D cI cM cS cJ aN aW aM aK H.size x2 (y4 &&& 1) r54.1 (r32.1, (r32.2.1 ||| (((y4 >>> (1 &&& 31)) <<< (x1 &&& 31)) ||| ((y4 &&& 1) <<< (x2 &&& 31)))), r54.2.1, r54.2.2.1, r54.2.2.2.1, r54.2.2.2.2.1, r54.2.2.2.2.2.1, r32.2.2.2.2.2.2.1, r32.2.2.2.2.2.2.2.1, r54.2.2.2.2.2.2, mS.2.2.2.2.2.2.2.2.2.2) g91) gX5_settledPair_X5_gainOf rfl kdV_X5_gainOf 0 5 rfl rfl rfl [0, 7, 8, 9, 10, 11, 12, 13, 14, 15, 16, 17, 18, 19] ⟨rfl, rfl⟩ ⟨Nat.le_of_ble_eq_true rfl, Nat.le_of_ble_eq_true rfl⟩ ⟨Nat.zero_le _, Nat.zero_le _⟩ rfl rfl (by decide +kernel) (k_rp rfl (by decide +kernel)) rfl rfl (Nat.le_of_ble_eq_true rfl) dX5_settledPair_91 rfl (fun H locs hP hD hS => ?_)
        refine va_iast hx hb hK hP hD hS 2 0 rfl rfl g76 dX5_settledPair_94 (fun H locs hP hD hS => ?_)
        replace hP : va_P D vwCl (Wd22 cI cM aN aW aM aK (upd w_gains y4.toNatClampNeg r73) (upd w_othersGains y4.toNatClampNeg r91) nS.1 nS.2.1 nS.2.2.1 nS.2.2.2.1 nS.2.2.2.2.1 nS.2.2.2.2.2.1 nS.2.2.2.2.2.2.1 nS.2.2.2.2.2.2.2.1 nS.2.2.2.2.2.2.2.2.1 nS.2.2.2.2.2.2.2.2.2.1 r32.1 (r32.2.1 ||| (((y4 >>> (1 &&& 31)) <<< (x1 &&& 31)) ||| ((y4 &&& 1) <<< (x2 &&& 31)))) r54.2.1 r54.2.2.1 r54.2.2.2.1 r54.2.2.2.2.1 r54.2.2.2.2.2.1 r32.2.2.2.2.2.2.1 r32.2.2.2.2.2.2.2.1 r54.2.2.2.2.2.2) H := hP
        replace hD : va_D A (Wd22 cI cM aN aW aM aK (upd w_gains y4.toNatClampNeg r73) (upd w_othersGains y4.toNatClampNeg r91) nS.1 nS.2.1 nS.2.2.1 nS.2.2.2.1 nS.2.2.2.2.1 nS.2.2.2.2.2.1 nS.2.2.2.2.2.2.1 nS.2.2.2.2.2.2.2.1 nS.2.2.2.2.2.2.2.2.1 nS.2.2.2.2.2.2.2.2.2.1 r32.1 (r32.2.1 ||| (((y4 >>> (1 &&& 31)) <<< (x1 &&& 31)) ||| ((y4 &&& 1) <<< (x2 &&& 31)))) r54.2.1 r54.2.2.1 r54.2.2.2.1 r54.2.2.2.2.1 r54.2.2.2.2.2.1 r32.2.2.2.2.2.2.1 r32.2.2.2.2.2.2.2.1 r54.2.2.2.2.2.2) := hD
        refine lv_iinc (v := (y4 + 1)) (lv' := [(4, .int (y4 + 1)), (6, .int r54.1), (5, .int (((y4 >>> (1 &&& 31)) <<< (x1 &&& 31)) ||| ((y4 &&& 1) <<< (x2 &&& 31)))), (0, .ref (aW 0)), (1, .int x1), (2, .int x2), (3, .int x3)]) hx hb dX5_settledPair_95 hl (k := 6) rfl (by first | rfl | decide) (by decide) rfl (fun ls hl => ?_)
        refine lv_goto (tgt := 3) hx hb dX5_settledPair_98 (by decide) ?_
        exact ih3 (y4 + 1) (upd w_gains y4.toNatClampNeg r73) (upd w_othersGains y4.toNatClampNeg r91) (r32.1, (r32.2.1 ||| (((y4 >>> (1 &&& 31)) <<< (x1 &&& 31)) ||| ((y4 &&& 1) <<< (x2 &&& 31)))), r54.2.1, r54.2.2.1, r54.2.2.2.1, r54.2.2.2.2.1, r54.2.2.2.2.2.1, r32.2.2.2.2.2.2.1, r32.2.2.2.2.2.2.2.1, r54.2.2.2.2.2.2, mS.2.2.2.2.2.2.2.2.2.2) H locs ls hP hD hS (lv_sub hl [3, 4, 5, 6, 0] rfl) h
  refine lv_istore (lv' := [(4, .int 0), (0, .ref (aW 0)), (1, .int x1), (2, .int x2), (3, .int x3)]) hx hb dX5_settledPair_1 hl (by decide) rfl (fun ls hl => ?_)
  exact B3 lfu 0 w_gains w_othersGains mS s.heap [] ls hP hD hS (lv_sub hl [1, 2, 3, 4, 0] rfl) h
