abbrev Wd62 (cI : ClassId) (cS : ClassId) (aV : Nat → Nat) (aN : Nat → Nat) (aS : Nat → Nat) (aT : Nat → Nat) (aW : Nat → Nat) (aK : Nat → Nat) (aH : Nat → Nat → Nat) (dn : Nat) (en : Nat) (v_hasImage : Int32) (d_kind : Int32) (d_figure : Int32) (d_sort : Int32) (d_size : Int32) (d_held : Int32) (d_el : Nat → Int32) (e_kind : Int32) (e_figure : Int32) (e_sort : Int32) (e_size : Int32) (e_held : Int32) (e_el : Nat → Int32) : va_W := [((aV 0), .inr (11, [.ref (aN 0), .ref (aS 0), .ref (aT 0), .ref (aW 0), .ref (aV 1), .int v_hasImage])), ((aV 1), .inl (cS, 8, .inr (.inr (.inr (.inr (fun k => some (aH k 0))))))), (((aH dn) 0), .inr (9, [.ref ((aH dn) 1), .int d_kind, .int d_figure, .int d_sort, .int d_size, .int d_held, .ref (aK 8)])), (((aH dn) 1), .inl (cI, 100, .inl d_el)), (((aH en) 0), .inr (9, [.ref ((aH en) 1), .int e_kind, .int e_figure, .int e_sort, .int e_size, .int e_held, .ref (aK 8)])), (((aH en) 1), .inl (cI, 100, .inl e_el))]
theorem kdV_X9_hasElements : yX9_hasElements.cls = RX9 ∧ yX9_hasElements.cls ≠ "java/lang/invoke/MethodHandle" ∧ yX9_hasElements.cls ≠ "java/lang/invoke/VarHandle" ∧ (parseMethodDescriptor yX9_hasElements.desc).map (fun d => d.parameters.length) = some 2 := by decide +kernel
def S_PL_copy2 (x1 : Int32) (x2 : Int32) (x3 : Int32) (x4 : Int32) (x5 : Int32) (d_sort : Int32) (d_size : Int32) (d_held : Int32) (d_el : Nat → Int32) (e_sort : Int32) (e_size : Int32) (e_held : Int32) (e_el : Nat → Int32) : Option ((Int32) × (Nat → Int32)) :=
  ((S_PL_isShelf x1).bind (fun r1 => (if r1 = 0 then some ((-1), e_el) else ((S_PL_isShelf x3).bind (fun r8 => (if r8 = 0 then some ((-1), e_el) else (if x1 < 0 ∨ 8 ≤ x1.toNatClampNeg then none else (if x3 < 0 ∨ 8 ≤ x3.toNatClampNeg then none else (if (S_Shelf_isEmpty d_held) = 0 then (if (S_Shelf_isEmpty e_held) = 0 then (if (S_Shelf_hasRow d_held) = 0 then some ((-12), e_el) else (if (S_Shelf_hasRow e_held) = 0 then some ((-12), e_el) else (if d_sort = e_sort then (if (S_Shelf_hasElements x2 x5 d_size) = 0 then some ((-13), e_el) else (if (S_Shelf_hasElements x4 x5 e_size) = 0 then some ((-13), e_el) else (if (x2 : Int32) < 0 ∨ (x4 : Int32) < 0 ∨ (x5 : Int32) < 0 ∨ 100 < (x2 : Int32).toNatClampNeg + (x5 : Int32).toNatClampNeg ∨ 100 < (x4 : Int32).toNatClampNeg + (x5 : Int32).toNatClampNeg then none else some (x5, (va_cpy d_el e_el (x2 : Int32).toNatClampNeg (x4 : Int32).toNatClampNeg (x5 : Int32).toNatClampNeg))))) else some ((-12), e_el)))) else some ((-11), e_el)) else some ((-11), e_el))))))))))
abbrev rm_X11_copy : Room := { frames := 2, cells := 0, slots := 0, locals := 60 }
set_option maxHeartbeats 4000000 in
set_option maxRecDepth 100000 in
theorem c_PL_copy2 (l : Launch) (D : va_G) (cI cM cS cJ : ClassId) (aV : Nat → Nat) (aN : Nat → Nat) (aS : Nat → Nat) (aT : Nat → Nat) (aW : Nat → Nat) (aK : Nat → Nat) (aH : Nat → Nat → Nat) (dn : Nat) (en : Nat) (sz : Nat) (x1 : Int32) (x2 : Int32) (x3 : Int32) (x4 : Int32) (x5 : Int32) (v_hasImage : Int32) (d_kind : Int32) (d_figure : Int32) (d_sort : Int32) (d_size : Int32) (d_held : Int32) (d_el : Nat → Int32) (e_kind : Int32) (e_figure : Int32) (e_sort : Int32) (e_size : Int32) (e_held : Int32) (e_el : Nat → Int32) (hdn : ¬ (x1 < 0 ∨ 8 ≤ x1.toNatClampNeg) → x1.toNatClampNeg = dn) (hen : ¬ (x3 < 0 ∨ 8 ≤ x3.toNatClampNeg) → x3.toNatClampNeg = en) {o : (Int32) × (Nat → Int32)} (hsem : S_PL_copy2 x1 x2 x3 x4 x5 d_sort d_size d_held d_el e_sort e_size e_held e_el = some o) : kMet l yX11_copy wsX11_copy rm_X11_copy [.ref (aV 0), .int x1, .int x2, .int x3, .int x4, .int x5] D (kT cI cM cS cJ) (Wd62 cI cS aV aN aS aT aW aK aH dn en v_hasImage d_kind d_figure d_sort d_size d_held d_el e_kind e_figure e_sort e_size e_held e_el) sz (some (.int o.1)) (Wd62 cI cS aV aN aS aT aW aK aH dn en v_hasImage d_kind d_figure d_sort d_size d_held d_el e_kind e_figure e_sort e_size e_held o.2) := by
  refine k_metI (by decide) rfl rfl (Nat.le_of_ble_eq_true rfl) ?_
  intro p e s m below meth c ls Q A hx hb hml hts hown hK hN hA hP hD hS hl hsz hnm hret
  have hown : s.vm.findClass RX11 = some m.cls := hown
  have hf59 := hts (.fieldLink RX11 59 "PlumbLine" "shelves" "[LPlumbLine$Shelf;") (List.mem_of_getElem? (i := 1) rfl)
  have hf300 := hts (.fieldLink RX11 300 "PlumbLine$Shelf" "sort" "I") (List.mem_of_getElem? (i := 2) rfl)
  have hf88 := hts (.fieldLink RX11 88 "PlumbLine$Shelf" "elements" "[I") (List.mem_of_getElem? (i := 3) rfl)
  have hiX11 : ∀ w ∈ u_ws RX11 TX11 6, w ∈ wsX11_copy := fun w h => List.mem_cons_of_mem _ (List.mem_append_left _ (List.mem_append_right _ h))
  have hiX9 : ∀ w ∈ u_ws RX9 TX9 7, w ∈ wsX11_copy := fun w h => List.mem_cons_of_mem _ (List.mem_append_right _ h)
  replace hl : lv_has ls 8 [(0, .ref (aV 0)), (1, .int x1), (2, .int x2), (3, .int x3), (4, .int x4), (5, .int x5)] := hl
  have h := hsem
  clear hsem
  rw [S_PL_copy2] at h
  refine lv_iload_n hx hb dX11_copy_0 rfl (lv_at hl 1 rfl) ?_
  obtain ⟨r1, g1, h⟩ := k_bind h
  refine k_callS (As := [.int x1]) (rest := []) (st1 := [.int r1]) (ws2 := (Wd62 cI cS aV aN aS aT aW aK aH dn en v_hasImage d_kind d_figure d_sort d_size d_held d_el e_kind e_figure e_sort e_size e_held e_el)) hx hb hml hown hts hK hN hA hP hD hS hl (c_PL_isShelf l D cI cM cS cJ s.heap.size x1 g1) gX11_copy_X11_isShelf rfl kdS_X11_isShelf [] ⟨rfl, rfl⟩ ⟨Nat.le_of_ble_eq_true rfl, Nat.le_of_ble_eq_true rfl⟩ ⟨Nat.zero_le _, Nat.zero_le _⟩ rfl rfl (by decide +kernel) (k_rp rfl (by decide +kernel)) rfl rfl (Nat.le_of_ble_eq_true rfl) dX11_copy_1 rfl (fun H locs hP hD hS => ?_)
  refine lv_if_eq (tgt := 14) hx hb dX11_copy_4 (by decide) (fun c4 => ?_) (fun c4 => ?_)
  · have h := k_pos c4 h
    refine lv_iconst (v := (-1)) hx hb dX11_copy_14 (by decide) ?_
    have h := Option.some.inj h; subst h
    exact hret _ _ _ _ hP hS dX11_copy_15
  · have h := k_neg c4 h
    refine lv_iload_n hx hb dX11_copy_7 rfl (lv_at hl 3 rfl) ?_
    obtain ⟨r8, g8, h⟩ := k_bind h
    refine k_callS (As := [.int x3]) (rest := []) (st1 := [.int r8]) (ws2 := (Wd62 cI cS aV aN aS aT aW aK aH dn en v_hasImage d_kind d_figure d_sort d_size d_held d_el e_kind e_figure e_sort e_size e_held e_el)) hx hb hml hown hts hK hN hA hP hD hS hl (c_PL_isShelf l D cI cM cS cJ H.size x3 g8) gX11_copy_X11_isShelf rfl kdS_X11_isShelf [] ⟨rfl, rfl⟩ ⟨Nat.le_of_ble_eq_true rfl, Nat.le_of_ble_eq_true rfl⟩ ⟨Nat.zero_le _, Nat.zero_le _⟩ rfl rfl (by decide +kernel) (k_rp rfl (by decide +kernel)) rfl rfl (Nat.le_of_ble_eq_true rfl) dX11_copy_8 rfl (fun H locs hP hD hS => ?_)
    refine lv_if_ne (tgt := 16) hx hb dX11_copy_11 (by decide) (fun c11 => ?_) (fun c11 => ?_)
    · have h := k_neg c11 h
      refine lv_aload_n hx hb dX11_copy_16 rfl (lv_at hl 0 rfl) ?_
      refine va_get (D := D) (ci := 11) (v := .ref (aV 1)) (C := RX11) (T := TX11) (N := 6) hx hb hts hiX11 hown hK hP 0 rfl rfl 4 (by decide) hf59 (fun _ z => z) rfl dX11_copy_17 ?_
      refine lv_iload_n hx hb dX11_copy_20 rfl (lv_at hl 1 rfl) ?_
      obtain ⟨g21, h⟩ := k_guard h
      refine k_aldR (f := fun k => aH k 0) hx hb hK hP 1 2 rfl rfl g21 dX11_copy_21 ?_
      rw [show x1.toNatClampNeg = dn from hdn g21]
      refine lv_astore (lv' := [(6, .ref ((aH dn) 0)), (0, .ref (aV 0)), (1, .int x1), (2, .int x2), (3, .int x3), (4, .int x4), (5, .int x5)]) hx hb dX11_copy_22 hl (by decide) rfl (fun ls hl => ?_)
      refine lv_aload_n hx hb dX11_copy_24 rfl (lv_at hl 1 rfl) ?_
      refine va_get (D := D) (ci := 11) (v := .ref (aV 1)) (C := RX11) (T := TX11) (N := 6) hx hb hts hiX11 hown hK hP 0 rfl rfl 4 (by decide) hf59 (fun _ z => z) rfl dX11_copy_25 ?_
      refine lv_iload_n hx hb dX11_copy_28 rfl (lv_at hl 4 rfl) ?_
      obtain ⟨g29, h⟩ := k_guard h
      refine k_aldR (f := fun k => aH k 0) hx hb hK hP 1 2 rfl rfl g29 dX11_copy_29 ?_
      rw [show x3.toNatClampNeg = en from hen g29]
      refine lv_astore (lv' := [(7, .ref ((aH en) 0)), (6, .ref ((aH dn) 0)), (0, .ref (aV 0)), (1, .int x1), (2, .int x2), (3, .int x3), (4, .int x4), (5, .int x5)]) hx hb dX11_copy_30 hl (by decide) rfl (fun ls hl => ?_)
      refine lv_aload hx hb dX11_copy_32 (lv_at hl 1 rfl) ?_
      refine k_callV (As := []) (rest := []) (st1 := [.int (S_Shelf_isEmpty d_held)]) (ws2 := (Wd62 cI cS aV aN aS aT aW aK aH dn en v_hasImage d_kind d_figure d_sort d_size d_held d_el e_kind e_figure e_sort e_size e_held e_el)) hx hb hml hown hts hK hN hA hP hD hS hl (c_Shelf_isEmpty l D cI cM cS cJ (aH dn) aK H.size d_kind d_figure d_sort d_size d_held rfl) gX11_copy_X9_isEmpty rfl kdV_X9_isEmpty 0 9 rfl rfl rfl [2] ⟨rfl, rfl⟩ ⟨Nat.le_of_ble_eq_true rfl, Nat.le_of_ble_eq_true rfl⟩ ⟨Nat.zero_le _, Nat.zero_le _⟩ rfl rfl (by decide +kernel) (k_rp rfl (by decide +kernel)) rfl rfl (Nat.le_of_ble_eq_true rfl) dX11_copy_34 rfl (fun H locs hP hD hS => ?_)
      refine lv_if_ne (tgt := 48) hx hb dX11_copy_37 (by decide) (fun c37 => ?_) (fun c37 => ?_)
      · have h := k_neg c37 h
        refine lv_bipush (v := (-11)) hx hb dX11_copy_48 (by decide) ?_
        have h := Option.some.inj h; subst h
        exact hret _ _ _ _ hP hS dX11_copy_50
      · have h := k_pos c37 h
        refine lv_aload hx hb dX11_copy_40 (lv_at hl 0 rfl) ?_
        refine k_callV (As := []) (rest := []) (st1 := [.int (S_Shelf_isEmpty e_held)]) (ws2 := (Wd62 cI cS aV aN aS aT aW aK aH dn en v_hasImage d_kind d_figure d_sort d_size d_held d_el e_kind e_figure e_sort e_size e_held e_el)) hx hb hml hown hts hK hN hA hP hD hS hl (c_Shelf_isEmpty l D cI cM cS cJ (aH en) aK H.size e_kind e_figure e_sort e_size e_held rfl) gX11_copy_X9_isEmpty rfl kdV_X9_isEmpty 0 9 rfl rfl rfl [4] ⟨rfl, rfl⟩ ⟨Nat.le_of_ble_eq_true rfl, Nat.le_of_ble_eq_true rfl⟩ ⟨Nat.zero_le _, Nat.zero_le _⟩ rfl rfl (by decide +kernel) (k_rp rfl (by decide +kernel)) rfl rfl (Nat.le_of_ble_eq_true rfl) dX11_copy_42 rfl (fun H locs hP hD hS => ?_)
        refine lv_if_eq (tgt := 51) hx hb dX11_copy_45 (by decide) (fun c45 => ?_) (fun c45 => ?_)
        · have h := k_pos c45 h
          refine lv_aload hx hb dX11_copy_51 (lv_at hl 1 rfl) ?_
          refine k_callV (As := []) (rest := []) (st1 := [.int (S_Shelf_hasRow d_held)]) (ws2 := (Wd62 cI cS aV aN aS aT aW aK aH dn en v_hasImage d_kind d_figure d_sort d_size d_held d_el e_kind e_figure e_sort e_size e_held e_el)) hx hb hml hown hts hK hN hA hP hD hS hl (c_Shelf_hasRow l D cI cM cS cJ (aH dn) aK H.size d_kind d_figure d_sort d_size d_held rfl) gX11_copy_X9_hasRow rfl kdV_X9_hasRow 0 9 rfl rfl rfl [2] ⟨rfl, rfl⟩ ⟨Nat.le_of_ble_eq_true rfl, Nat.le_of_ble_eq_true rfl⟩ ⟨Nat.zero_le _, Nat.zero_le _⟩ rfl rfl (by decide +kernel) (k_rp rfl (by decide +kernel)) rfl rfl (Nat.le_of_ble_eq_true rfl) dX11_copy_53 rfl (fun H locs hP hD hS => ?_)
          refine lv_if_eq (tgt := 80) hx hb dX11_copy_56 (by decide) (fun c56 => ?_) (fun c56 => ?_)
          · have h := k_pos c56 h
            refine lv_bipush (v := (-12)) hx hb dX11_copy_80 (by decide) ?_
            have h := Option.some.inj h; subst h
            exact hret _ _ _ _ hP hS dX11_copy_82
          · have h := k_neg c56 h
            refine lv_aload hx hb dX11_copy_59 (lv_at hl 0 rfl) ?_
            refine k_callV (As := []) (rest := []) (st1 := [.int (S_Shelf_hasRow e_held)]) (ws2 := (Wd62 cI cS aV aN aS aT aW aK aH dn en v_hasImage d_kind d_figure d_sort d_size d_held d_el e_kind e_figure e_sort e_size e_held e_el)) hx hb hml hown hts hK hN hA hP hD hS hl (c_Shelf_hasRow l D cI cM cS cJ (aH en) aK H.size e_kind e_figure e_sort e_size e_held rfl) gX11_copy_X9_hasRow rfl kdV_X9_hasRow 0 9 rfl rfl rfl [4] ⟨rfl, rfl⟩ ⟨Nat.le_of_ble_eq_true rfl, Nat.le_of_ble_eq_true rfl⟩ ⟨Nat.zero_le _, Nat.zero_le _⟩ rfl rfl (by decide +kernel) (k_rp rfl (by decide +kernel)) rfl rfl (Nat.le_of_ble_eq_true rfl) dX11_copy_61 rfl (fun H locs hP hD hS => ?_)
            refine lv_if_eq (tgt := 80) hx hb dX11_copy_64 (by decide) (fun c64 => ?_) (fun c64 => ?_)
            · have h := k_pos c64 h
              refine lv_bipush (v := (-12)) hx hb dX11_copy_80 (by decide) ?_
              have h := Option.some.inj h; subst h
              exact hret _ _ _ _ hP hS dX11_copy_82
            · have h := k_neg c64 h
              refine lv_aload hx hb dX11_copy_67 (lv_at hl 1 rfl) ?_
              refine va_get (D := D) (ci := 9) (v := .int d_sort) (C := RX9) (T := TX9) (N := 7) hx hb hts hiX9 hown hK hP 2 rfl rfl 3 (by decide) hf300 (fun _ z => z) rfl dX11_copy_69 ?_
              refine lv_aload hx hb dX11_copy_72 (lv_at hl 0 rfl) ?_
              refine va_get (D := D) (ci := 9) (v := .int e_sort) (C := RX9) (T := TX9) (N := 7) hx hb hts hiX9 hown hK hP 4 rfl rfl 3 (by decide) hf300 (fun _ z => z) rfl dX11_copy_74 ?_
              refine lv_icmp_eq (tgt := 83) hx hb dX11_copy_77 (by decide) (fun c77 => ?_) (fun c77 => ?_)
              · have h := k_pos c77 h
                refine lv_aload hx hb dX11_copy_83 (lv_at hl 1 rfl) ?_
                refine lv_iload_n hx hb dX11_copy_85 rfl (lv_at hl 4 rfl) ?_
                refine lv_iload hx hb dX11_copy_86 (lv_at hl 7 rfl) ?_
                refine k_callV (As := [.int x2, .int x5]) (rest := []) (st1 := [.int (S_Shelf_hasElements x2 x5 d_size)]) (ws2 := (Wd62 cI cS aV aN aS aT aW aK aH dn en v_hasImage d_kind d_figure d_sort d_size d_held d_el e_kind e_figure e_sort e_size e_held e_el)) hx hb hml hown hts hK hN hA hP hD hS hl (c_Shelf_hasElements l D cI cM cS cJ (aH dn) aK H.size x2 x5 d_kind d_figure d_sort d_size d_held rfl) gX11_copy_X9_hasElements rfl kdV_X9_hasElements 0 9 rfl rfl rfl [2] ⟨rfl, rfl⟩ ⟨Nat.le_of_ble_eq_true rfl, Nat.le_of_ble_eq_true rfl⟩ ⟨Nat.zero_le _, Nat.zero_le _⟩ rfl rfl (by decide +kernel) (k_rp rfl (by decide +kernel)) rfl rfl (Nat.le_of_ble_eq_true rfl) dX11_copy_88 rfl (fun H locs hP hD hS => ?_)
                refine lv_if_eq (tgt := 106) hx hb dX11_copy_91 (by decide) (fun c91 => ?_) (fun c91 => ?_)
                · have h := k_pos c91 h
                  refine lv_bipush (v := (-13)) hx hb dX11_copy_106 (by decide) ?_
                  have h := Option.some.inj h; subst h
                  exact hret _ _ _ _ hP hS dX11_copy_108
                · have h := k_neg c91 h
                  refine lv_aload hx hb dX11_copy_94 (lv_at hl 0 rfl) ?_
                  refine lv_iload hx hb dX11_copy_96 (lv_at hl 6 rfl) ?_
                  refine lv_iload hx hb dX11_copy_98 (lv_at hl 7 rfl) ?_
                  refine k_callV (As := [.int x4, .int x5]) (rest := []) (st1 := [.int (S_Shelf_hasElements x4 x5 e_size)]) (ws2 := (Wd62 cI cS aV aN aS aT aW aK aH dn en v_hasImage d_kind d_figure d_sort d_size d_held d_el e_kind e_figure e_sort e_size e_held e_el)) hx hb hml hown hts hK hN hA hP hD hS hl (c_Shelf_hasElements l D cI cM cS cJ (aH en) aK H.size x4 x5 e_kind e_figure e_sort e_size e_held rfl) gX11_copy_X9_hasElements rfl kdV_X9_hasElements 0 9 rfl rfl rfl [4] ⟨rfl, rfl⟩ ⟨Nat.le_of_ble_eq_true rfl, Nat.le_of_ble_eq_true rfl⟩ ⟨Nat.zero_le _, Nat.zero_le _⟩ rfl rfl (by decide +kernel) (k_rp rfl (by decide +kernel)) rfl rfl (Nat.le_of_ble_eq_true rfl) dX11_copy_100 rfl (fun H locs hP hD hS => ?_)
                  refine lv_if_ne (tgt := 109) hx hb dX11_copy_103 (by decide) (fun c103 => ?_) (fun c103 => ?_)
                  · have h := k_neg c103 h
                    refine lv_aload hx hb dX11_copy_109 (lv_at hl 1 rfl) ?_
                    refine va_get (D := D) (ci := 9) (v := .ref ((aH dn) 1)) (C := RX9) (T := TX9) (N := 7) hx hb hts hiX9 hown hK hP 2 rfl rfl 0 (by decide) hf88 (fun _ z => z) rfl dX11_copy_111 ?_
                    refine lv_iload_n hx hb dX11_copy_114 rfl (lv_at hl 4 rfl) ?_
                    refine lv_aload hx hb dX11_copy_115 (lv_at hl 0 rfl) ?_
                    refine va_get (D := D) (ci := 9) (v := .ref ((aH en) 1)) (C := RX9) (T := TX9) (N := 7) hx hb hts hiX9 hown hK hP 4 rfl rfl 0 (by decide) hf88 (fun _ z => z) rfl dX11_copy_117 ?_
                    refine lv_iload hx hb dX11_copy_120 (lv_at hl 6 rfl) ?_
                    refine lv_iload hx hb dX11_copy_122 (lv_at hl 7 rfl) ?_
                    obtain ⟨g124, h⟩ := k_guard h
                    refine va_copyi (own := RX11) (index := 307) (ty := .int) hx hb (hml.trans hl.1.symm) hown (hts _ (List.mem_of_getElem? (i := 4) rfl)) (hts _ (List.mem_of_getElem? (i := 5) rfl)) (hts _ (List.mem_of_getElem? (i := 6) rfl)) (hts _ (List.mem_of_getElem? (i := 7) rfl)) hK hP hD hS 3 5 0 0 rfl rfl rfl rfl rfl (fun z => g124 (Or.inl z)) (fun z => g124 (Or.inr (Or.inl z))) (fun z => g124 (Or.inr (Or.inr (Or.inl z)))) (Nat.not_lt.mp (fun z => g124 (Or.inr (Or.inr (Or.inr (Or.inl z)))))) (Nat.not_lt.mp (fun z => g124 (Or.inr (Or.inr (Or.inr (Or.inr z)))))) (fun _ _ => rfl) (Nat.le_of_ble_eq_true rfl) (by decide +kernel) dX11_copy_124 (fun H locs hP hD hS => ?_)
                    replace hP : va_P D vwCl (Wd62 cI cS aV aN aS aT aW aK aH dn en v_hasImage d_kind d_figure d_sort d_size d_held d_el e_kind e_figure e_sort e_size e_held (va_cpy d_el e_el (x2 : Int32).toNatClampNeg (x4 : Int32).toNatClampNeg (x5 : Int32).toNatClampNeg)) H := hP
                    replace hD : va_D A (Wd62 cI cS aV aN aS aT aW aK aH dn en v_hasImage d_kind d_figure d_sort d_size d_held d_el e_kind e_figure e_sort e_size e_held (va_cpy d_el e_el (x2 : Int32).toNatClampNeg (x4 : Int32).toNatClampNeg (x5 : Int32).toNatClampNeg)) := hD
                    refine lv_iload hx hb dX11_copy_127 (lv_at hl 7 rfl) ?_
                    have h := Option.some.inj h; subst h
                    exact hret _ _ _ _ hP hS dX11_copy_129
                  · have h := k_pos c103 h
                    refine lv_bipush (v := (-13)) hx hb dX11_copy_106 (by decide) ?_
                    have h := Option.some.inj h; subst h
                    exact hret _ _ _ _ hP hS dX11_copy_108
              · have h := k_neg c77 h
                refine lv_bipush (v := (-12)) hx hb dX11_copy_80 (by decide) ?_
                have h := Option.some.inj h; subst h
                exact hret _ _ _ _ hP hS dX11_copy_82
        · have h := k_neg c45 h
          refine lv_bipush (v := (-11)) hx hb dX11_copy_48 (by decide) ?_
          have h := Option.some.inj h; subst h
          exact hret _ _ _ _ hP hS dX11_copy_50
    · have h := k_pos c11 h
      refine lv_iconst (v := (-1)) hx hb dX11_copy_14 (by decide) ?_
      have h := Option.some.inj h; subst h
      exact hret _ _ _ _ hP hS dX11_copy_15

def S_PL_copy1 (x1 : Int32) (x2 : Int32) (x3 : Int32) (x4 : Int32) (x5 : Int32) (d_sort : Int32) (d_size : Int32) (d_held : Int32) (d_el : Nat → Int32) : Option ((Int32) × (Nat → Int32)) :=
  ((S_PL_isShelf x1).bind (fun r1 => (if r1 = 0 then some ((-1), d_el) else ((S_PL_isShelf x3).bind (fun r8 => (if r8 = 0 then some ((-1), d_el) else (if x1 < 0 ∨ 8 ≤ x1.toNatClampNeg then none else (if x3 < 0 ∨ 8 ≤ x3.toNatClampNeg then none else (if (S_Shelf_isEmpty d_held) = 0 then (if (S_Shelf_isEmpty d_held) = 0 then (if (S_Shelf_hasRow d_held) = 0 then some ((-12), d_el) else (if (S_Shelf_hasRow d_held) = 0 then some ((-12), d_el) else (if d_sort = d_sort then (if (S_Shelf_hasElements x2 x5 d_size) = 0 then some ((-13), d_el) else (if (S_Shelf_hasElements x4 x5 d_size) = 0 then some ((-13), d_el) else (if (x2 : Int32) < 0 ∨ (x4 : Int32) < 0 ∨ (x5 : Int32) < 0 ∨ 100 < (x2 : Int32).toNatClampNeg + (x5 : Int32).toNatClampNeg ∨ 100 < (x4 : Int32).toNatClampNeg + (x5 : Int32).toNatClampNeg then none else some (x5, (va_cpy d_el d_el (x2 : Int32).toNatClampNeg (x4 : Int32).toNatClampNeg (x5 : Int32).toNatClampNeg))))) else some ((-12), d_el)))) else some ((-11), d_el)) else some ((-11), d_el))))))))))
set_option maxHeartbeats 4000000 in
set_option maxRecDepth 100000 in
theorem c_PL_copy1 (l : Launch) (D : va_G) (cI cM cS cJ : ClassId) (aV : Nat → Nat) (aN : Nat → Nat) (aS : Nat → Nat) (aT : Nat → Nat) (aW : Nat → Nat) (aK : Nat → Nat) (aH : Nat → Nat → Nat) (dn : Nat) (sz : Nat) (x1 : Int32) (x2 : Int32) (x3 : Int32) (x4 : Int32) (x5 : Int32) (v_hasImage : Int32) (d_kind : Int32) (d_figure : Int32) (d_sort : Int32) (d_size : Int32) (d_held : Int32) (d_el : Nat → Int32) (hdn : ¬ (x1 < 0 ∨ 8 ≤ x1.toNatClampNeg) → x1.toNatClampNeg = dn) (hdn2 : ¬ (x3 < 0 ∨ 8 ≤ x3.toNatClampNeg) → x3.toNatClampNeg = dn) {o : (Int32) × (Nat → Int32)} (hsem : S_PL_copy1 x1 x2 x3 x4 x5 d_sort d_size d_held d_el = some o) : kMet l yX11_copy wsX11_copy rm_X11_copy [.ref (aV 0), .int x1, .int x2, .int x3, .int x4, .int x5] D (kT cI cM cS cJ) (Wd37 cI cS aV aN aS aT aW aK aH dn v_hasImage d_kind d_figure d_sort d_size d_held d_el) sz (some (.int o.1)) (Wd37 cI cS aV aN aS aT aW aK aH dn v_hasImage d_kind d_figure d_sort d_size d_held o.2) := by
  refine k_metI (by decide) rfl rfl (Nat.le_of_ble_eq_true rfl) ?_
  intro p e s m below meth c ls Q A hx hb hml hts hown hK hN hA hP hD hS hl hsz hnm hret
  have hown : s.vm.findClass RX11 = some m.cls := hown
  have hf59 := hts (.fieldLink RX11 59 "PlumbLine" "shelves" "[LPlumbLine$Shelf;") (List.mem_of_getElem? (i := 1) rfl)
  have hf300 := hts (.fieldLink RX11 300 "PlumbLine$Shelf" "sort" "I") (List.mem_of_getElem? (i := 2) rfl)
  have hf88 := hts (.fieldLink RX11 88 "PlumbLine$Shelf" "elements" "[I") (List.mem_of_getElem? (i := 3) rfl)
  have hiX11 : ∀ w ∈ u_ws RX11 TX11 6, w ∈ wsX11_copy := fun w h => List.mem_cons_of_mem _ (List.mem_append_left _ (List.mem_append_right _ h))
  have hiX9 : ∀ w ∈ u_ws RX9 TX9 7, w ∈ wsX11_copy := fun w h => List.mem_cons_of_mem _ (List.mem_append_right _ h)
  replace hl : lv_has ls 8 [(0, .ref (aV 0)), (1, .int x1), (2, .int x2), (3, .int x3), (4, .int x4), (5, .int x5)] := hl
  have h := hsem
  clear hsem
  rw [S_PL_copy1] at h
  refine lv_iload_n hx hb dX11_copy_0 rfl (lv_at hl 1 rfl) ?_
  obtain ⟨r1, g1, h⟩ := k_bind h
  refine k_callS (As := [.int x1]) (rest := []) (st1 := [.int r1]) (ws2 := (Wd37 cI cS aV aN aS aT aW aK aH dn v_hasImage d_kind d_figure d_sort d_size d_held d_el)) hx hb hml hown hts hK hN hA hP hD hS hl (c_PL_isShelf l D cI cM cS cJ s.heap.size x1 g1) gX11_copy_X11_isShelf rfl kdS_X11_isShelf [] ⟨rfl, rfl⟩ ⟨Nat.le_of_ble_eq_true rfl, Nat.le_of_ble_eq_true rfl⟩ ⟨Nat.zero_le _, Nat.zero_le _⟩ rfl rfl (by decide +kernel) (k_rp rfl (by decide +kernel)) rfl rfl (Nat.le_of_ble_eq_true rfl) dX11_copy_1 rfl (fun H locs hP hD hS => ?_)
  refine lv_if_eq (tgt := 14) hx hb dX11_copy_4 (by decide) (fun c4 => ?_) (fun c4 => ?_)
  · have h := k_pos c4 h
    refine lv_iconst (v := (-1)) hx hb dX11_copy_14 (by decide) ?_
    have h := Option.some.inj h; subst h
    exact hret _ _ _ _ hP hS dX11_copy_15
  · have h := k_neg c4 h
    refine lv_iload_n hx hb dX11_copy_7 rfl (lv_at hl 3 rfl) ?_
    obtain ⟨r8, g8, h⟩ := k_bind h
    refine k_callS (As := [.int x3]) (rest := []) (st1 := [.int r8]) (ws2 := (Wd37 cI cS aV aN aS aT aW aK aH dn v_hasImage d_kind d_figure d_sort d_size d_held d_el)) hx hb hml hown hts hK hN hA hP hD hS hl (c_PL_isShelf l D cI cM cS cJ H.size x3 g8) gX11_copy_X11_isShelf rfl kdS_X11_isShelf [] ⟨rfl, rfl⟩ ⟨Nat.le_of_ble_eq_true rfl, Nat.le_of_ble_eq_true rfl⟩ ⟨Nat.zero_le _, Nat.zero_le _⟩ rfl rfl (by decide +kernel) (k_rp rfl (by decide +kernel)) rfl rfl (Nat.le_of_ble_eq_true rfl) dX11_copy_8 rfl (fun H locs hP hD hS => ?_)
    refine lv_if_ne (tgt := 16) hx hb dX11_copy_11 (by decide) (fun c11 => ?_) (fun c11 => ?_)
    · have h := k_neg c11 h
      refine lv_aload_n hx hb dX11_copy_16 rfl (lv_at hl 0 rfl) ?_
      refine va_get (D := D) (ci := 11) (v := .ref (aV 1)) (C := RX11) (T := TX11) (N := 6) hx hb hts hiX11 hown hK hP 0 rfl rfl 4 (by decide) hf59 (fun _ z => z) rfl dX11_copy_17 ?_
      refine lv_iload_n hx hb dX11_copy_20 rfl (lv_at hl 1 rfl) ?_
      obtain ⟨g21, h⟩ := k_guard h
      refine k_aldR (f := fun k => aH k 0) hx hb hK hP 1 2 rfl rfl g21 dX11_copy_21 ?_
      rw [show x1.toNatClampNeg = dn from hdn g21]
      refine lv_astore (lv' := [(6, .ref ((aH dn) 0)), (0, .ref (aV 0)), (1, .int x1), (2, .int x2), (3, .int x3), (4, .int x4), (5, .int x5)]) hx hb dX11_copy_22 hl (by decide) rfl (fun ls hl => ?_)
      refine lv_aload_n hx hb dX11_copy_24 rfl (lv_at hl 1 rfl) ?_
      refine va_get (D := D) (ci := 11) (v := .ref (aV 1)) (C := RX11) (T := TX11) (N := 6) hx hb hts hiX11 hown hK hP 0 rfl rfl 4 (by decide) hf59 (fun _ z => z) rfl dX11_copy_25 ?_
      refine lv_iload_n hx hb dX11_copy_28 rfl (lv_at hl 4 rfl) ?_
      obtain ⟨g29, h⟩ := k_guard h
      refine k_aldR (f := fun k => aH k 0) hx hb hK hP 1 2 rfl rfl g29 dX11_copy_29 ?_
      rw [show x3.toNatClampNeg = dn from hdn2 g29]
      refine lv_astore (lv' := [(7, .ref ((aH dn) 0)), (6, .ref ((aH dn) 0)), (0, .ref (aV 0)), (1, .int x1), (2, .int x2), (3, .int x3), (4, .int x4), (5, .int x5)]) hx hb dX11_copy_30 hl (by decide) rfl (fun ls hl => ?_)
      refine lv_aload hx hb dX11_copy_32 (lv_at hl 1 rfl) ?_
      refine k_callV (As := []) (rest := []) (st1 := [.int (S_Shelf_isEmpty d_held)]) (ws2 := (Wd37 cI cS aV aN aS aT aW aK aH dn v_hasImage d_kind d_figure d_sort d_size d_held d_el)) hx hb hml hown hts hK hN hA hP hD hS hl (c_Shelf_isEmpty l D cI cM cS cJ (aH dn) aK H.size d_kind d_figure d_sort d_size d_held rfl) gX11_copy_X9_isEmpty rfl kdV_X9_isEmpty 0 9 rfl rfl rfl [2] ⟨rfl, rfl⟩ ⟨Nat.le_of_ble_eq_true rfl, Nat.le_of_ble_eq_true rfl⟩ ⟨Nat.zero_le _, Nat.zero_le _⟩ rfl rfl (by decide +kernel) (k_rp rfl (by decide +kernel)) rfl rfl (Nat.le_of_ble_eq_true rfl) dX11_copy_34 rfl (fun H locs hP hD hS => ?_)
      refine lv_if_ne (tgt := 48) hx hb dX11_copy_37 (by decide) (fun c37 => ?_) (fun c37 => ?_)
      · have h := k_neg c37 h
        refine lv_bipush (v := (-11)) hx hb dX11_copy_48 (by decide) ?_
        have h := Option.some.inj h; subst h
        exact hret _ _ _ _ hP hS dX11_copy_50
      · have h := k_pos c37 h
        refine lv_aload hx hb dX11_copy_40 (lv_at hl 0 rfl) ?_
        refine k_callV (As := []) (rest := []) (st1 := [.int (S_Shelf_isEmpty d_held)]) (ws2 := (Wd37 cI cS aV aN aS aT aW aK aH dn v_hasImage d_kind d_figure d_sort d_size d_held d_el)) hx hb hml hown hts hK hN hA hP hD hS hl (c_Shelf_isEmpty l D cI cM cS cJ (aH dn) aK H.size d_kind d_figure d_sort d_size d_held rfl) gX11_copy_X9_isEmpty rfl kdV_X9_isEmpty 0 9 rfl rfl rfl [2] ⟨rfl, rfl⟩ ⟨Nat.le_of_ble_eq_true rfl, Nat.le_of_ble_eq_true rfl⟩ ⟨Nat.zero_le _, Nat.zero_le _⟩ rfl rfl (by decide +kernel) (k_rp rfl (by decide +kernel)) rfl rfl (Nat.le_of_ble_eq_true rfl) dX11_copy_42 rfl (fun H locs hP hD hS => ?_)
        refine lv_if_eq (tgt := 51) hx hb dX11_copy_45 (by decide) (fun c45 => ?_) (fun c45 => ?_)
        · have h := k_pos c45 h
          refine lv_aload hx hb dX11_copy_51 (lv_at hl 1 rfl) ?_
          refine k_callV (As := []) (rest := []) (st1 := [.int (S_Shelf_hasRow d_held)]) (ws2 := (Wd37 cI cS aV aN aS aT aW aK aH dn v_hasImage d_kind d_figure d_sort d_size d_held d_el)) hx hb hml hown hts hK hN hA hP hD hS hl (c_Shelf_hasRow l D cI cM cS cJ (aH dn) aK H.size d_kind d_figure d_sort d_size d_held rfl) gX11_copy_X9_hasRow rfl kdV_X9_hasRow 0 9 rfl rfl rfl [2] ⟨rfl, rfl⟩ ⟨Nat.le_of_ble_eq_true rfl, Nat.le_of_ble_eq_true rfl⟩ ⟨Nat.zero_le _, Nat.zero_le _⟩ rfl rfl (by decide +kernel) (k_rp rfl (by decide +kernel)) rfl rfl (Nat.le_of_ble_eq_true rfl) dX11_copy_53 rfl (fun H locs hP hD hS => ?_)
          refine lv_if_eq (tgt := 80) hx hb dX11_copy_56 (by decide) (fun c56 => ?_) (fun c56 => ?_)
          · have h := k_pos c56 h
            refine lv_bipush (v := (-12)) hx hb dX11_copy_80 (by decide) ?_
            have h := Option.some.inj h; subst h
            exact hret _ _ _ _ hP hS dX11_copy_82
          · have h := k_neg c56 h
            refine lv_aload hx hb dX11_copy_59 (lv_at hl 0 rfl) ?_
            refine k_callV (As := []) (rest := []) (st1 := [.int (S_Shelf_hasRow d_held)]) (ws2 := (Wd37 cI cS aV aN aS aT aW aK aH dn v_hasImage d_kind d_figure d_sort d_size d_held d_el)) hx hb hml hown hts hK hN hA hP hD hS hl (c_Shelf_hasRow l D cI cM cS cJ (aH dn) aK H.size d_kind d_figure d_sort d_size d_held rfl) gX11_copy_X9_hasRow rfl kdV_X9_hasRow 0 9 rfl rfl rfl [2] ⟨rfl, rfl⟩ ⟨Nat.le_of_ble_eq_true rfl, Nat.le_of_ble_eq_true rfl⟩ ⟨Nat.zero_le _, Nat.zero_le _⟩ rfl rfl (by decide +kernel) (k_rp rfl (by decide +kernel)) rfl rfl (Nat.le_of_ble_eq_true rfl) dX11_copy_61 rfl (fun H locs hP hD hS => ?_)
            refine lv_if_eq (tgt := 80) hx hb dX11_copy_64 (by decide) (fun c64 => ?_) (fun c64 => ?_)
            · have h := k_pos c64 h
              refine lv_bipush (v := (-12)) hx hb dX11_copy_80 (by decide) ?_
              have h := Option.some.inj h; subst h
              exact hret _ _ _ _ hP hS dX11_copy_82
            · have h := k_neg c64 h
              refine lv_aload hx hb dX11_copy_67 (lv_at hl 1 rfl) ?_
              refine va_get (D := D) (ci := 9) (v := .int d_sort) (C := RX9) (T := TX9) (N := 7) hx hb hts hiX9 hown hK hP 2 rfl rfl 3 (by decide) hf300 (fun _ z => z) rfl dX11_copy_69 ?_
              refine lv_aload hx hb dX11_copy_72 (lv_at hl 0 rfl) ?_
              refine va_get (D := D) (ci := 9) (v := .int d_sort) (C := RX9) (T := TX9) (N := 7) hx hb hts hiX9 hown hK hP 2 rfl rfl 3 (by decide) hf300 (fun _ z => z) rfl dX11_copy_74 ?_
              refine lv_icmp_eq (tgt := 83) hx hb dX11_copy_77 (by decide) (fun c77 => ?_) (fun c77 => ?_)
              · have h := k_pos c77 h
                refine lv_aload hx hb dX11_copy_83 (lv_at hl 1 rfl) ?_
                refine lv_iload_n hx hb dX11_copy_85 rfl (lv_at hl 4 rfl) ?_
                refine lv_iload hx hb dX11_copy_86 (lv_at hl 7 rfl) ?_
                refine k_callV (As := [.int x2, .int x5]) (rest := []) (st1 := [.int (S_Shelf_hasElements x2 x5 d_size)]) (ws2 := (Wd37 cI cS aV aN aS aT aW aK aH dn v_hasImage d_kind d_figure d_sort d_size d_held d_el)) hx hb hml hown hts hK hN hA hP hD hS hl (c_Shelf_hasElements l D cI cM cS cJ (aH dn) aK H.size x2 x5 d_kind d_figure d_sort d_size d_held rfl) gX11_copy_X9_hasElements rfl kdV_X9_hasElements 0 9 rfl rfl rfl [2] ⟨rfl, rfl⟩ ⟨Nat.le_of_ble_eq_true rfl, Nat.le_of_ble_eq_true rfl⟩ ⟨Nat.zero_le _, Nat.zero_le _⟩ rfl rfl (by decide +kernel) (k_rp rfl (by decide +kernel)) rfl rfl (Nat.le_of_ble_eq_true rfl) dX11_copy_88 rfl (fun H locs hP hD hS => ?_)
                refine lv_if_eq (tgt := 106) hx hb dX11_copy_91 (by decide) (fun c91 => ?_) (fun c91 => ?_)
                · have h := k_pos c91 h
                  refine lv_bipush (v := (-13)) hx hb dX11_copy_106 (by decide) ?_
                  have h := Option.some.inj h; subst h
                  exact hret _ _ _ _ hP hS dX11_copy_108
                · have h := k_neg c91 h
                  refine lv_aload hx hb dX11_copy_94 (lv_at hl 0 rfl) ?_
                  refine lv_iload hx hb dX11_copy_96 (lv_at hl 6 rfl) ?_
                  refine lv_iload hx hb dX11_copy_98 (lv_at hl 7 rfl) ?_
                  refine k_callV (As := [.int x4, .int x5]) (rest := []) (st1 := [.int (S_Shelf_hasElements x4 x5 d_size)]) (ws2 := (Wd37 cI cS aV aN aS aT aW aK aH dn v_hasImage d_kind d_figure d_sort d_size d_held d_el)) hx hb hml hown hts hK hN hA hP hD hS hl (c_Shelf_hasElements l D cI cM cS cJ (aH dn) aK H.size x4 x5 d_kind d_figure d_sort d_size d_held rfl) gX11_copy_X9_hasElements rfl kdV_X9_hasElements 0 9 rfl rfl rfl [2] ⟨rfl, rfl⟩ ⟨Nat.le_of_ble_eq_true rfl, Nat.le_of_ble_eq_true rfl⟩ ⟨Nat.zero_le _, Nat.zero_le _⟩ rfl rfl (by decide +kernel) (k_rp rfl (by decide +kernel)) rfl rfl (Nat.le_of_ble_eq_true rfl) dX11_copy_100 rfl (fun H locs hP hD hS => ?_)
                  refine lv_if_ne (tgt := 109) hx hb dX11_copy_103 (by decide) (fun c103 => ?_) (fun c103 => ?_)
                  · have h := k_neg c103 h
                    refine lv_aload hx hb dX11_copy_109 (lv_at hl 1 rfl) ?_
                    refine va_get (D := D) (ci := 9) (v := .ref ((aH dn) 1)) (C := RX9) (T := TX9) (N := 7) hx hb hts hiX9 hown hK hP 2 rfl rfl 0 (by decide) hf88 (fun _ z => z) rfl dX11_copy_111 ?_
                    refine lv_iload_n hx hb dX11_copy_114 rfl (lv_at hl 4 rfl) ?_
                    refine lv_aload hx hb dX11_copy_115 (lv_at hl 0 rfl) ?_
                    refine va_get (D := D) (ci := 9) (v := .ref ((aH dn) 1)) (C := RX9) (T := TX9) (N := 7) hx hb hts hiX9 hown hK hP 2 rfl rfl 0 (by decide) hf88 (fun _ z => z) rfl dX11_copy_117 ?_
                    refine lv_iload hx hb dX11_copy_120 (lv_at hl 6 rfl) ?_
                    refine lv_iload hx hb dX11_copy_122 (lv_at hl 7 rfl) ?_
                    obtain ⟨g124, h⟩ := k_guard h
                    refine va_copyi (own := RX11) (index := 307) (ty := .int) hx hb (hml.trans hl.1.symm) hown (hts _ (List.mem_of_getElem? (i := 4) rfl)) (hts _ (List.mem_of_getElem? (i := 5) rfl)) (hts _ (List.mem_of_getElem? (i := 6) rfl)) (hts _ (List.mem_of_getElem? (i := 7) rfl)) hK hP hD hS 3 3 0 0 rfl rfl rfl rfl rfl (fun z => g124 (Or.inl z)) (fun z => g124 (Or.inr (Or.inl z))) (fun z => g124 (Or.inr (Or.inr (Or.inl z)))) (Nat.not_lt.mp (fun z => g124 (Or.inr (Or.inr (Or.inr (Or.inl z)))))) (Nat.not_lt.mp (fun z => g124 (Or.inr (Or.inr (Or.inr (Or.inr z)))))) (fun _ _ => rfl) (Nat.le_of_ble_eq_true rfl) (by decide +kernel) dX11_copy_124 (fun H locs hP hD hS => ?_)
                    replace hP : va_P D vwCl (Wd37 cI cS aV aN aS aT aW aK aH dn v_hasImage d_kind d_figure d_sort d_size d_held (va_cpy d_el d_el (x2 : Int32).toNatClampNeg (x4 : Int32).toNatClampNeg (x5 : Int32).toNatClampNeg)) H := hP
                    replace hD : va_D A (Wd37 cI cS aV aN aS aT aW aK aH dn v_hasImage d_kind d_figure d_sort d_size d_held (va_cpy d_el d_el (x2 : Int32).toNatClampNeg (x4 : Int32).toNatClampNeg (x5 : Int32).toNatClampNeg)) := hD
                    refine lv_iload hx hb dX11_copy_127 (lv_at hl 7 rfl) ?_
                    have h := Option.some.inj h; subst h
                    exact hret _ _ _ _ hP hS dX11_copy_129
                  · have h := k_pos c103 h
                    refine lv_bipush (v := (-13)) hx hb dX11_copy_106 (by decide) ?_
                    have h := Option.some.inj h; subst h
                    exact hret _ _ _ _ hP hS dX11_copy_108
              · have h := k_neg c77 h
                refine lv_bipush (v := (-12)) hx hb dX11_copy_80 (by decide) ?_
                have h := Option.some.inj h; subst h
                exact hret _ _ _ _ hP hS dX11_copy_82
        · have h := k_neg c45 h
          refine lv_bipush (v := (-11)) hx hb dX11_copy_48 (by decide) ?_
          have h := Option.some.inj h; subst h
          exact hret _ _ _ _ hP hS dX11_copy_50
    · have h := k_pos c11 h
      refine lv_iconst (v := (-1)) hx hb dX11_copy_14 (by decide) ?_
      have h := Option.some.inj h; subst h
      exact hret _ _ _ _ hP hS dX11_copy_15
