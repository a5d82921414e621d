abbrev rm_X12_mostTrusted : Room := { frames := 3, cells := 0, slots := 0, locals := 68 }
set_option maxHeartbeats 4000000 in
set_option maxRecDepth 100000 in
theorem c_MD_mostTrusted (l : Launch) (D : va_G) (cI cM cS cJ : ClassId) (aR : Nat → Nat) (sz : Nat) (q_hasImage : Int32) (q_place : Int32) (q_rowAt : Int32) (q_rowEnd : Int32) (q_seed : Int32) (q_thrown : Int32) (q_s : Nat → Int32) {o : (Int32)} (hsem : S_MD_mostTrusted q_s = some o) : kMet l yX12_mostTrusted wsX12_mostTrusted rm_X12_mostTrusted [.ref (aR 0)] D (kT cI cM cS cJ) (Wd40 cI aR q_hasImage q_place q_rowAt q_rowEnd q_seed q_thrown q_s) sz (some (.int o)) (Wd40 cI aR q_hasImage q_place q_rowAt q_rowEnd q_seed q_thrown q_s) := by
  refine k_metI (by decide) rfl rfl (Nat.le_of_ble_eq_true rfl) ?_
  intro p e s m below meth c ls Q A hx hb hml hts hown hK hN hA hP hD hS hl hsz hnm hret
  have hown : s.vm.findClass RX12 = some m.cls := hown
  have hf9 := hts (.fieldLink RX12 9 "PlumbLineModel" "s" "[I") (List.mem_of_getElem? (i := 1) rfl)
  have hiX12 : ∀ w ∈ u_ws RX12 TX12 18, w ∈ wsX12_mostTrusted := fun w h => List.mem_cons_of_mem _ (List.mem_append_right _ h)
  replace hl : lv_has ls 3 [(0, .ref (aR 0))] := hl
  have h := hsem
  clear hsem
  rw [S_MD_mostTrusted] at h
  refine lv_bipush (v := (-4)) hx hb dX12_mostTrusted_0 (by decide) ?_
  refine lv_istore_n (lv' := [(1, .int (-4)), (0, .ref (aR 0))]) hx hb dX12_mostTrusted_2 rfl hl (by decide) rfl (fun ls hl => ?_)
  refine lv_iconst (v := 0) hx hb dX12_mostTrusted_3 (by decide) ?_
  have B5 : ∀ (n5 : Nat) (y1 : Int32) (y2 : Int32) (H : Heap) (locs : List Loc) (ls : Array Slot), va_P D vwCl (Wd40 cI aR q_hasImage q_place q_rowAt q_rowEnd q_seed q_thrown q_s) H → va_D A (Wd40 cI aR q_hasImage q_place q_rowAt q_rowEnd q_seed q_thrown q_s) → va_S A s.heap H locs → lv_has ls 3 [(0, .ref (aR 0)), (1, .int y1), (2, .int y2)] → S_MD_mostTrusted_L5 q_s n5 y1 y2 = some o → W p l e rm_X12_mostTrusted s m ([.ref (aR 0)] : List Value).toArray below meth c H locs 0 0 Q (F0 m 5 ls []) := by
    intro n5
    induction n5 with
    | zero => intro y1 y2 H locs ls hP hD hS hl h; exact absurd h (by simp [S_MD_mostTrusted_L5])
    | succ n5 ih5 =>
      intro y1 y2 H locs ls hP hD hS hl h
      rw [S_MD_mostTrusted_L5] at h
      refine lv_iload_n hx hb dX12_mostTrusted_5 rfl (lv_at hl 2 rfl) ?_
      refine lv_aload_n hx hb dX12_mostTrusted_6 rfl (lv_at hl 0 rfl) ?_
      refine va_get (D := D) (ci := 12) (v := .ref (aR 1)) (C := RX12) (T := TX12) (N := 18) hx hb hts hiX12 hown hK hP 0 rfl rfl 0 (by decide) hf9 (fun _ z => z) rfl dX12_mostTrusted_7 ?_
      refine lv_iconst (v := 0) hx hb dX12_mostTrusted_10 (by decide) ?_
      refine va_iald hx hb hK hP 1 0 rfl rfl (show ¬ ((0 : Int32) < 0 ∨ 37 ≤ (0 : Int32).toNatClampNeg) by decide) dX12_mostTrusted_11 ?_
      refine lv_icmp_ge (tgt := 46) hx hb dX12_mostTrusted_12 (by decide) (fun c12 => ?_) (fun c12 => ?_)
      · have h := k_pos c12 h
        refine lv_iload_n hx hb dX12_mostTrusted_46 rfl (lv_at hl 1 rfl) ?_
        have h := Option.some.inj h; subst h
        exact hret _ _ _ _ hP hS dX12_mostTrusted_47
      · have h := k_neg c12 h
        refine lv_iload_n hx hb dX12_mostTrusted_15 rfl (lv_at hl 1 rfl) ?_
        refine lv_if_lt (tgt := 38) hx hb dX12_mostTrusted_16 (by decide) (fun c16 => ?_) (fun c16 => ?_)
        · have h := k_pos c16 h
          refine lv_iload_n hx hb dX12_mostTrusted_38 rfl (lv_at hl 2 rfl) ?_
          refine lv_istore_n (lv' := [(1, .int y2), (0, .ref (aR 0)), (2, .int y2)]) hx hb dX12_mostTrusted_39 rfl hl (by decide) rfl (fun ls hl => ?_)
          refine lv_iinc (v := (y2 + 1)) (lv' := [(2, .int (y2 + 1)), (1, .int y2), (0, .ref (aR 0))]) hx hb dX12_mostTrusted_40 hl (k := 2) rfl (by first | rfl | decide) (by decide) rfl (fun ls hl => ?_)
          refine lv_goto (tgt := 5) hx hb dX12_mostTrusted_43 (by decide) ?_
          exact ih5 y2 (y2 + 1) H locs ls hP hD hS (lv_sub hl [2, 1, 0] rfl) h
        · have h := k_neg c16 h
          refine lv_aload_n hx hb dX12_mostTrusted_19 rfl (lv_at hl 0 rfl) ?_
          refine lv_iload_n hx hb dX12_mostTrusted_20 rfl (lv_at hl 2 rfl) ?_
          obtain ⟨r21, g21, h⟩ := k_bind h
          refine k_callV (As := [.int y2]) (rest := []) (st1 := [.int r21]) (ws2 := (Wd40 cI aR q_hasImage q_place q_rowAt q_rowEnd q_seed q_thrown q_s)) hx hb hml hown hts hK hN hA hP hD hS hl (c_MD_trustedBy l D cI cM cS cJ aR H.size y2 q_hasImage q_place q_rowAt q_rowEnd q_seed q_thrown q_s g21) gX12_mostTrusted_X12_trustedBy rfl kdV_X12_trustedBy 0 12 rfl rfl rfl [0, 1] ⟨rfl, rfl⟩ ⟨Nat.le_of_ble_eq_true rfl, Nat.le_of_ble_eq_true rfl⟩ ⟨Nat.zero_le _, Nat.zero_le _⟩ rfl rfl (by decide +kernel) (k_rp rfl (by decide +kernel)) rfl rfl (Nat.le_of_ble_eq_true rfl) dX12_mostTrusted_21 rfl (fun H locs hP hD hS => ?_)
          obtain ⟨r24, g24, h⟩ := k_bind h
          refine k_callS (As := [.int r21]) (rest := []) (st1 := [.int r24]) (ws2 := (Wd40 cI aR q_hasImage q_place q_rowAt q_rowEnd q_seed q_thrown q_s)) hx hb hml hown hts hK hN hA hP hD hS hl (c_MD_bits l D cI cM cS cJ H.size r21 g24) gX12_mostTrusted_X12_bits rfl kdS_X12_bits [] ⟨rfl, rfl⟩ ⟨Nat.le_of_ble_eq_true rfl, Nat.le_of_ble_eq_true rfl⟩ ⟨Nat.zero_le _, Nat.zero_le _⟩ rfl rfl (by decide +kernel) (k_rp rfl (by decide +kernel)) rfl rfl (Nat.le_of_ble_eq_true rfl) dX12_mostTrusted_24 rfl (fun H locs hP hD hS => ?_)
          refine lv_aload_n hx hb dX12_mostTrusted_27 rfl (lv_at hl 0 rfl) ?_
          refine lv_iload_n hx hb dX12_mostTrusted_28 rfl (lv_at hl 1 rfl) ?_
          obtain ⟨r29, g29, h⟩ := k_bind h
          refine k_callV (As := [.int y1]) (rest := [.int r24]) (st1 := [.int r29, .int r24]) (ws2 := (Wd40 cI aR q_hasImage q_place q_rowAt q_rowEnd q_seed q_thrown q_s)) hx hb hml hown hts hK hN hA hP hD hS hl (c_MD_trustedBy l D cI cM cS cJ aR H.size y1 q_hasImage q_place q_rowAt q_rowEnd q_seed q_thrown q_s g29) gX12_mostTrusted_X12_trustedBy rfl kdV_X12_trustedBy 0 12 rfl rfl rfl [0, 1] ⟨rfl, rfl⟩ ⟨Nat.le_of_ble_eq_true rfl, Nat.le_of_ble_eq_true rfl⟩ ⟨Nat.zero_le _, Nat.zero_le _⟩ rfl rfl (by decide +kernel) (k_rp rfl (by decide +kernel)) rfl rfl (Nat.le_of_ble_eq_true rfl) dX12_mostTrusted_29 rfl (fun H locs hP hD hS => ?_)
          obtain ⟨r32, g32, h⟩ := k_bind h
          refine k_callS (As := [.int r29]) (rest := [.int r24]) (st1 := [.int r32, .int r24]) (ws2 := (Wd40 cI aR q_hasImage q_place q_rowAt q_rowEnd q_seed q_thrown q_s)) hx hb hml hown hts hK hN hA hP hD hS hl (c_MD_bits l D cI cM cS cJ H.size r29 g32) gX12_mostTrusted_X12_bits rfl kdS_X12_bits [] ⟨rfl, rfl⟩ ⟨Nat.le_of_ble_eq_true rfl, Nat.le_of_ble_eq_true rfl⟩ ⟨Nat.zero_le _, Nat.zero_le _⟩ rfl rfl (by decide +kernel) (k_rp rfl (by decide +kernel)) rfl rfl (Nat.le_of_ble_eq_true rfl) dX12_mostTrusted_32 rfl (fun H locs hP hD hS => ?_)
          refine lv_icmp_le (tgt := 40) hx hb dX12_mostTrusted_35 (by decide) (fun c35 => ?_) (fun c35 => ?_)
          · have h := k_pos c35 h
            refine lv_iinc (v := (y2 + 1)) (lv' := [(2, .int (y2 + 1)), (0, .ref (aR 0)), (1, .int y1)]) hx hb dX12_mostTrusted_40 hl (k := 2) rfl (by first | rfl | decide) (by decide) rfl (fun ls hl => ?_)
            refine lv_goto (tgt := 5) hx hb dX12_mostTrusted_43 (by decide) ?_
            exact ih5 y1 (y2 + 1) H locs ls hP hD hS (lv_sub hl [1, 2, 0] rfl) h
          · have h := k_neg c35 h
            refine lv_iload_n hx hb dX12_mostTrusted_38 rfl (lv_at hl 2 rfl) ?_
            refine lv_istore_n (lv' := [(1, .int y2), (0, .ref (aR 0)), (2, .int y2)]) hx hb dX12_mostTrusted_39 rfl hl (by decide) rfl (fun ls hl => ?_)
            refine lv_iinc (v := (y2 + 1)) (lv' := [(2, .int (y2 + 1)), (1, .int y2), (0, .ref (aR 0))]) hx hb dX12_mostTrusted_40 hl (k := 2) rfl (by first | rfl | decide) (by decide) rfl (fun ls hl => ?_)
            refine lv_goto (tgt := 5) hx hb dX12_mostTrusted_43 (by decide) ?_
            exact ih5 y2 (y2 + 1) H locs ls hP hD hS (lv_sub hl [2, 1, 0] rfl) h
  refine lv_istore_n (lv' := [(2, .int 0), (1, .int (-4)), (0, .ref (aR 0))]) hx hb dX12_mostTrusted_4 rfl hl (by decide) rfl (fun ls hl => ?_)
  exact B5 lfu (-4) 0 s.heap [] ls hP hD hS (lv_sub hl [2, 1, 0] rfl) h
theorem kdV_X12_mostTrusted : yX12_mostTrusted.cls = RX12 ∧ yX12_mostTrusted.cls ≠ "java/lang/invoke/MethodHandle" ∧ yX12_mostTrusted.cls ≠ "java/lang/invoke/VarHandle" ∧ (parseMethodDescriptor yX12_mostTrusted.desc).map (fun d => d.parameters.length) = some 0 := by decide +kernel
abbrev rm_X12_trust : Room := { frames := 4, cells := 0, slots := 0, locals := 90 }
set_option maxHeartbeats 4000000 in
set_option maxRecDepth 100000 in
theorem c_MD_trust (l : Launch) (D : va_G) (cI cM cS cJ : ClassId) (aR : Nat → Nat) (sz : Nat) (x1 : Int32) (q_hasImage : Int32) (q_place : Int32) (q_rowAt : Int32) (q_rowEnd : Int32) (q_seed : Int32) (q_thrown : Int32) (q_s : Nat → Int32) {o : (Int32)} (hsem : S_MD_trust x1 q_s = some o) : kMet l yX12_trust wsX12_trust rm_X12_trust [.ref (aR 0), .int x1] D (kT cI cM cS cJ) (Wd40 cI aR q_hasImage q_place q_rowAt q_rowEnd q_seed q_thrown q_s) sz (some (.int o)) (Wd40 cI aR q_hasImage q_place q_rowAt q_rowEnd q_seed q_thrown q_s) := by
  refine k_metI (by decide) rfl rfl (Nat.le_of_ble_eq_true rfl) ?_
  intro p e s m below meth c ls Q A hx hb hml hts hown hK hN hA hP hD hS hl hsz hnm hret
  have hown : s.vm.findClass RX12 = some m.cls := hown
  have hf9 := hts (.fieldLink RX12 9 "PlumbLineModel" "s" "[I") (List.mem_of_getElem? (i := 1) rfl)
  have hiX12 : ∀ w ∈ u_ws RX12 TX12 18, w ∈ wsX12_trust := fun w h => List.mem_cons_of_mem _ (List.mem_append_right _ h)
  replace hl : lv_has ls 7 [(0, .ref (aR 0)), (1, .int x1)] := hl
  have h := hsem
  clear hsem
  rw [S_MD_trust] at h
  refine lv_iload_n hx hb dX12_trust_0 rfl (lv_at hl 1 rfl) ?_
  refine lv_iconst (v := 0) hx hb dX12_trust_1 (by decide) ?_
  refine lv_iconst (v := 4) hx hb dX12_trust_2 (by decide) ?_
  refine k_callS (As := [.int x1, .int 0, .int 4]) (rest := []) (st1 := [.int (S_MD_isIn x1 0 4)]) (ws2 := (Wd40 cI aR q_hasImage q_place q_rowAt q_rowEnd q_seed q_thrown q_s)) hx hb hml hown hts hK hN hA hP hD hS hl (c_MD_isIn l D cI cM cS cJ s.heap.size x1 0 4 rfl) gX12_trust_X12_isIn rfl kdS_X12_isIn [] ⟨rfl, rfl⟩ ⟨Nat.le_of_ble_eq_true rfl, Nat.le_of_ble_eq_true rfl⟩ ⟨Nat.zero_le _, Nat.zero_le _⟩ rfl rfl (by decide +kernel) (k_rp rfl (by decide +kernel)) rfl rfl (Nat.le_of_ble_eq_true rfl) dX12_trust_3 rfl (fun H locs hP hD hS => ?_)
  refine lv_if_ne (tgt := 11) hx hb dX12_trust_6 (by decide) (fun c6 => ?_) (fun c6 => ?_)
  · have h := k_neg c6 h
    refine lv_iconst (v := 0) hx hb dX12_trust_11 (by decide) ?_
    refine lv_istore_n (lv' := [(2, .int 0), (0, .ref (aR 0)), (1, .int x1)]) hx hb dX12_trust_12 rfl hl (by decide) rfl (fun ls hl => ?_)
    refine lv_iconst (v := 0) hx hb dX12_trust_13 (by decide) ?_
    refine lv_istore_n (lv' := [(3, .int 0), (2, .int 0), (0, .ref (aR 0)), (1, .int x1)]) hx hb dX12_trust_14 rfl hl (by decide) rfl (fun ls hl => ?_)
    refine lv_iconst (v := 0) hx hb dX12_trust_15 (by decide) ?_
    refine lv_istore (lv' := [(4, .int 0), (3, .int 0), (2, .int 0), (0, .ref (aR 0)), (1, .int x1)]) hx hb dX12_trust_16 hl (by decide) rfl (fun ls hl => ?_)
    refine lv_iconst (v := 0) hx hb dX12_trust_18 (by decide) ?_
    have B21 : ∀ (n21 : Nat) (y2 : Int32) (y3 : Int32) (y4 : Int32) (y5 : Int32) (H : Heap) (locs : List Loc) (ls : Array Slot), va_P D vwCl (Wd40 cI aR q_hasImage q_place q_rowAt q_rowEnd q_seed q_thrown q_s) H → va_D A (Wd40 cI aR q_hasImage q_place q_rowAt q_rowEnd q_seed q_thrown q_s) → va_S A s.heap H locs → lv_has ls 7 [(0, .ref (aR 0)), (1, .int x1), (2, .int y2), (3, .int y3), (4, .int y4), (5, .int y5)] → S_MD_trust_L21 x1 q_s n21 y2 y3 y4 y5 = some o → W p l e rm_X12_trust s m ([.ref (aR 0), .int x1] : List Value).toArray below meth c H locs 0 0 Q (F0 m 21 ls []) := by
      intro n21
      induction n21 with
      | zero => intro y2 y3 y4 y5 H locs ls hP hD hS hl h; exact absurd h (by simp [S_MD_trust_L21])
      | succ n21 ih21 =>
        intro y2 y3 y4 y5 H locs ls hP hD hS hl h
        rw [S_MD_trust_L21] at h
        refine lv_iload hx hb dX12_trust_21 (lv_at hl 5 rfl) ?_
        refine lv_aload_n hx hb dX12_trust_23 rfl (lv_at hl 0 rfl) ?_
        refine va_get (D := D) (ci := 12) (v := .ref (aR 1)) (C := RX12) (T := TX12) (N := 18) hx hb hts hiX12 hown hK hP 0 rfl rfl 0 (by decide) hf9 (fun _ z => z) rfl dX12_trust_24 ?_
        refine lv_iconst (v := 0) hx hb dX12_trust_27 (by decide) ?_
        refine va_iald hx hb hK hP 1 0 rfl rfl (show ¬ ((0 : Int32) < 0 ∨ 37 ≤ (0 : Int32).toNatClampNeg) by decide) dX12_trust_28 ?_
        refine lv_icmp_ge (tgt := 124) hx hb dX12_trust_29 (by decide) (fun c29 => ?_) (fun c29 => ?_)
        · have h := k_pos c29 h
          refine lv_iload_n hx hb dX12_trust_124 rfl (lv_at hl 1 rfl) ?_
          refine lv_if_ne (tgt := 135) hx hb dX12_trust_125 (by decide) (fun c125 => ?_) (fun c125 => ?_)
          · have h := k_neg c125 h
            refine lv_iload_n hx hb dX12_trust_135 rfl (lv_at hl 1 rfl) ?_
            refine lv_iconst (v := 1) hx hb dX12_trust_136 (by decide) ?_
            refine lv_icmp_ne (tgt := 144) hx hb dX12_trust_137 (by decide) (fun c137 => ?_) (fun c137 => ?_)
            · have h := k_neg c137 h
              refine lv_iload_n hx hb dX12_trust_144 rfl (lv_at hl 1 rfl) ?_
              refine lv_iconst (v := 2) hx hb dX12_trust_145 (by decide) ?_
              refine lv_icmp_ne (tgt := 159) hx hb dX12_trust_146 (by decide) (fun c146 => ?_) (fun c146 => ?_)
              · have h := k_neg c146 h
                refine lv_iload_n hx hb dX12_trust_159 rfl (lv_at hl 1 rfl) ?_
                refine lv_iconst (v := 3) hx hb dX12_trust_160 (by decide) ?_
                refine lv_icmp_ne (tgt := 168) hx hb dX12_trust_161 (by decide) (fun c161 => ?_) (fun c161 => ?_)
                · have h := k_neg c161 h
                  refine lv_iload hx hb dX12_trust_168 (lv_at hl 4 rfl) ?_
                  have h := Option.some.inj h; subst h
                  exact hret _ _ _ _ hP hS dX12_trust_170
                · have h := k_pos c161 h
                  refine lv_iload_n hx hb dX12_trust_164 rfl (lv_at hl 3 rfl) ?_
                  refine lv_goto (tgt := 170) hx hb dX12_trust_165 (by decide) ?_
                  have h := Option.some.inj h; subst h
                  exact hret _ _ _ _ hP hS dX12_trust_170
              · have h := k_pos c146 h
                refine lv_aload_n hx hb dX12_trust_149 rfl (lv_at hl 0 rfl) ?_
                refine va_get (D := D) (ci := 12) (v := .ref (aR 1)) (C := RX12) (T := TX12) (N := 18) hx hb hts hiX12 hown hK hP 0 rfl rfl 0 (by decide) hf9 (fun _ z => z) rfl dX12_trust_150 ?_
                obtain ⟨r153, g153, h⟩ := k_bind h
                refine k_callS (As := [.ref (aR 1)]) (rest := []) (st1 := [.int r153]) (ws2 := (Wd40 cI aR q_hasImage q_place q_rowAt q_rowEnd q_seed q_thrown q_s)) hx hb hml hown hts hK hN hA hP hD hS hl (c_MD_plumb l D cI cM cS cJ (aR 1) H.size q_s g153) gX12_trust_X12_plumb rfl kdS_X12_plumb [1] ⟨rfl, rfl⟩ ⟨Nat.le_of_ble_eq_true rfl, Nat.le_of_ble_eq_true rfl⟩ ⟨Nat.zero_le _, Nat.zero_le _⟩ rfl rfl (by decide +kernel) (k_rp rfl (by decide +kernel)) rfl rfl (Nat.le_of_ble_eq_true rfl) dX12_trust_153 rfl (fun H locs hP hD hS => ?_)
                refine lv_goto (tgt := 170) hx hb dX12_trust_156 (by decide) ?_
                have h := Option.some.inj h; subst h
                exact hret _ _ _ _ hP hS dX12_trust_170
            · have h := k_pos c137 h
              refine lv_iload_n hx hb dX12_trust_140 rfl (lv_at hl 2 rfl) ?_
              refine lv_goto (tgt := 170) hx hb dX12_trust_141 (by decide) ?_
              have h := Option.some.inj h; subst h
              exact hret _ _ _ _ hP hS dX12_trust_170
          · have h := k_pos c125 h
            refine lv_aload_n hx hb dX12_trust_128 rfl (lv_at hl 0 rfl) ?_
            obtain ⟨r129, g129, h⟩ := k_bind h
            refine k_callV (As := []) (rest := []) (st1 := [.int r129]) (ws2 := (Wd40 cI aR q_hasImage q_place q_rowAt q_rowEnd q_seed q_thrown q_s)) hx hb hml hown hts hK hN hA hP hD hS hl (c_MD_mostTrusted l D cI cM cS cJ aR H.size q_hasImage q_place q_rowAt q_rowEnd q_seed q_thrown q_s g129) gX12_trust_X12_mostTrusted rfl kdV_X12_mostTrusted 0 12 rfl rfl rfl [0, 1] ⟨rfl, rfl⟩ ⟨Nat.le_of_ble_eq_true rfl, Nat.le_of_ble_eq_true rfl⟩ ⟨Nat.zero_le _, Nat.zero_le _⟩ rfl rfl (by decide +kernel) (k_rp rfl (by decide +kernel)) rfl rfl (Nat.le_of_ble_eq_true rfl) dX12_trust_129 rfl (fun H locs hP hD hS => ?_)
            refine lv_goto (tgt := 170) hx hb dX12_trust_132 (by decide) ?_
            have h := Option.some.inj h; subst h
            exact hret _ _ _ _ hP hS dX12_trust_170
        · have h := k_neg c29 h
          refine lv_iload_n hx hb dX12_trust_32 rfl (lv_at hl 3 rfl) ?_
          refine lv_aload_n hx hb dX12_trust_33 rfl (lv_at hl 0 rfl) ?_
          refine va_get (D := D) (ci := 12) (v := .ref (aR 1)) (C := RX12) (T := TX12) (N := 18) hx hb hts hiX12 hown hK hP 0 rfl rfl 0 (by decide) hf9 (fun _ z => z) rfl dX12_trust_34 ?_
          refine lv_iload hx hb dX12_trust_37 (lv_at hl 5 rfl) ?_
          refine lv_iconst (v := 2) hx hb dX12_trust_39 (by decide) ?_
          refine k_callS (As := [.int y5, .int 2]) (rest := [.ref (aR 1), .int y3]) (st1 := [.int (S_MD_of y5 2), .ref (aR 1), .int y3]) (ws2 := (Wd40 cI aR q_hasImage q_place q_rowAt q_rowEnd q_seed q_thrown q_s)) hx hb hml hown hts hK hN hA hP hD hS hl (c_MD_of l D cI cM cS cJ H.size y5 2 rfl) gX12_trust_X12_of rfl kdS_X12_of [] ⟨rfl, rfl⟩ ⟨Nat.le_of_ble_eq_true rfl, Nat.le_of_ble_eq_true rfl⟩ ⟨Nat.zero_le _, Nat.zero_le _⟩ rfl rfl (by decide +kernel) (k_rp rfl (by decide +kernel)) rfl rfl (Nat.le_of_ble_eq_true rfl) dX12_trust_40 rfl (fun H locs hP hD hS => ?_)
          obtain ⟨g43, h⟩ := k_guard h
          refine va_iald hx hb hK hP 1 0 rfl rfl g43 dX12_trust_43 ?_
          have B52 : ∀ (y2 : Int32) (y4 : Int32) (y5 : Int32) (v0 : Int32) (v1 : Int32) (H : Heap) (locs : List Loc) (ls : Array Slot), va_P D vwCl (Wd40 cI aR q_hasImage q_place q_rowAt q_rowEnd q_seed q_thrown q_s) H → va_D A (Wd40 cI aR q_hasImage q_place q_rowAt q_rowEnd q_seed q_thrown q_s) → va_S A s.heap H locs → lv_has ls 7 [(0, .ref (aR 0)), (1, .int x1), (2, .int y2), (4, .int y4), (5, .int y5)] → S_MD_trust_J52 (S_MD_trust_L21 x1 q_s n21) y2 y4 y5 v0 v1 q_s = some o → W p l e rm_X12_trust s m ([.ref (aR 0), .int x1] : List Value).toArray below meth c H locs 0 0 Q (F0 m 52 ls [.int v1, .int v0]) := by
            intro y2 y4 y5 v0 v1 H locs ls hP hD hS hl h
            rw [S_MD_trust_J52] at h
            refine lv_iadd hx hb dX12_trust_52 ?_
            refine lv_istore_n (lv' := [(3, .int (v0 + v1)), (0, .ref (aR 0)), (1, .int x1), (2, .int y2), (4, .int y4), (5, .int y5)]) hx hb dX12_trust_53 rfl hl (by decide) rfl (fun ls hl => ?_)
            refine lv_iload hx hb dX12_trust_54 (lv_at hl 4 rfl) ?_
            refine lv_aload_n hx hb dX12_trust_56 rfl (lv_at hl 1 rfl) ?_
            refine lv_iload hx hb dX12_trust_57 (lv_at hl 5 rfl) ?_
            obtain ⟨r59, g59, h⟩ := k_bind h
            refine k_callV (As := [.int y5]) (rest := [.int y4]) (st1 := [.int r59, .int y4]) (ws2 := (Wd40 cI aR q_hasImage q_place q_rowAt q_rowEnd q_seed q_thrown q_s)) hx hb hml hown hts hK hN hA hP hD hS hl (c_MD_discount l D cI cM cS cJ aR H.size y5 q_hasImage q_place q_rowAt q_rowEnd q_seed q_thrown q_s g59) gX12_trust_X12_discount rfl kdV_X12_discount 0 12 rfl rfl rfl [0, 1] ⟨rfl, rfl⟩ ⟨Nat.le_of_ble_eq_true rfl, Nat.le_of_ble_eq_true rfl⟩ ⟨Nat.zero_le _, Nat.zero_le _⟩ rfl rfl (by decide +kernel) (k_rp rfl (by decide +kernel)) rfl rfl (Nat.le_of_ble_eq_true rfl) dX12_trust_59 rfl (fun H locs hP hD hS => ?_)
            refine lv_iadd hx hb dX12_trust_62 ?_
            refine lv_istore (lv' := [(4, .int (y4 + r59)), (3, .int (v0 + v1)), (0, .ref (aR 0)), (1, .int x1), (2, .int y2), (5, .int y5)]) hx hb dX12_trust_63 hl (by decide) rfl (fun ls hl => ?_)
            refine lv_iload hx hb dX12_trust_65 (lv_at hl 5 rfl) ?_
            refine lv_iconst (v := 1) hx hb dX12_trust_67 (by decide) ?_
            refine lv_iadd hx hb dX12_trust_68 ?_
            have B71 : ∀ (y3 : Int32) (y4 : Int32) (y5 : Int32) (n71 : Nat) (y2 : Int32) (y6 : Int32) (H : Heap) (locs : List Loc) (ls : Array Slot), va_P D vwCl (Wd40 cI aR q_hasImage q_place q_rowAt q_rowEnd q_seed q_thrown q_s) H → va_D A (Wd40 cI aR q_hasImage q_place q_rowAt q_rowEnd q_seed q_thrown q_s) → va_S A s.heap H locs → lv_has ls 7 [(0, .ref (aR 0)), (1, .int x1), (2, .int y2), (3, .int y3), (4, .int y4), (5, .int y5), (6, .int y6)] → S_MD_trust_L71 (S_MD_trust_L21 x1 q_s n21) y3 y4 y5 q_s n71 y2 y6 = some o → W p l e rm_X12_trust s m ([.ref (aR 0), .int x1] : List Value).toArray below meth c H locs 0 0 Q (F0 m 71 ls []) := by
              intro y3 y4 y5
              intro n71
              induction n71 with
              | zero => intro y2 y6 H locs ls hP hD hS hl h; exact absurd h (by simp [S_MD_trust_L71])
              | succ n71 ih71 =>
                intro y2 y6 H locs ls hP hD hS hl h
                rw [S_MD_trust_L71] at h
                refine lv_iload hx hb dX12_trust_71 (lv_at hl 6 rfl) ?_
                refine lv_aload_n hx hb dX12_trust_73 rfl (lv_at hl 0 rfl) ?_
                refine va_get (D := D) (ci := 12) (v := .ref (aR 1)) (C := RX12) (T := TX12) (N := 18) hx hb hts hiX12 hown hK hP 0 rfl rfl 0 (by decide) hf9 (fun _ z => z) rfl dX12_trust_74 ?_
                refine lv_iconst (v := 0) hx hb dX12_trust_77 (by decide) ?_
                refine va_iald hx hb hK hP 1 0 rfl rfl (show ¬ ((0 : Int32) < 0 ∨ 37 ≤ (0 : Int32).toNatClampNeg) by decide) dX12_trust_78 ?_
                refine lv_icmp_ge (tgt := 118) hx hb dX12_trust_79 (by decide) (fun c79 => ?_) (fun c79 => ?_)
                · have h := k_pos c79 h
                  refine lv_iinc (v := (y5 + 1)) (lv' := [(5, .int (y5 + 1)), (0, .ref (aR 0)), (1, .int x1), (2, .int y2), (3, .int y3), (4, .int y4), (6, .int y6)]) hx hb dX12_trust_118 hl (k := 5) rfl (by first | rfl | decide) (by decide) rfl (fun ls hl => ?_)
                  refine lv_goto (tgt := 21) hx hb dX12_trust_121 (by decide) ?_
                  exact ih21 y2 y3 y4 (y5 + 1) H locs ls hP hD hS (lv_sub hl [1, 2, 3, 4, 5, 0] rfl) h
                · have h := k_neg c79 h
                  refine lv_iload_n hx hb dX12_trust_82 rfl (lv_at hl 2 rfl) ?_
                  refine lv_aload_n hx hb dX12_trust_83 rfl (lv_at hl 0 rfl) ?_
                  refine lv_iload hx hb dX12_trust_84 (lv_at hl 5 rfl) ?_
                  refine lv_iload hx hb dX12_trust_86 (lv_at hl 6 rfl) ?_
                  obtain ⟨r88, g88, h⟩ := k_bind h
                  refine k_callV (As := [.int y5, .int y6]) (rest := [.int y2]) (st1 := [.int r88, .int y2]) (ws2 := (Wd40 cI aR q_hasImage q_place q_rowAt q_rowEnd q_seed q_thrown q_s)) hx hb hml hown hts hK hN hA hP hD hS hl (c_MD_doesTrust l D cI cM cS cJ aR H.size y5 y6 q_hasImage q_place q_rowAt q_rowEnd q_seed q_thrown q_s g88) gX12_trust_X12_doesTrust rfl kdV_X12_doesTrust 0 12 rfl rfl rfl [0, 1] ⟨rfl, rfl⟩ ⟨Nat.le_of_ble_eq_true rfl, Nat.le_of_ble_eq_true rfl⟩ ⟨Nat.zero_le _, Nat.zero_le _⟩ rfl rfl (by decide +kernel) (k_rp rfl (by decide +kernel)) rfl rfl (Nat.le_of_ble_eq_true rfl) dX12_trust_88 rfl (fun H locs hP hD hS => ?_)
                  refine lv_if_ne (tgt := 105) hx hb dX12_trust_91 (by decide) (fun c91 => ?_) (fun c91 => ?_)
                  · have h := k_neg c91 h
                    refine lv_iconst (v := 0) hx hb dX12_trust_105 (by decide) ?_
                    refine lv_goto (tgt := 110) hx hb dX12_trust_106 (by decide) ?_
                    refine lv_iadd hx hb dX12_trust_110 ?_
                    refine lv_istore_n (lv' := [(2, .int (y2 + 0)), (0, .ref (aR 0)), (1, .int x1), (3, .int y3), (4, .int y4), (5, .int y5), (6, .int y6)]) hx hb dX12_trust_111 rfl hl (by decide) rfl (fun ls hl => ?_)
                    refine lv_iinc (v := (y6 + 1)) (lv' := [(6, .int (y6 + 1)), (2, .int (y2 + 0)), (0, .ref (aR 0)), (1, .int x1), (3, .int y3), (4, .int y4), (5, .int y5)]) hx hb dX12_trust_112 hl (k := 6) rfl (by first | rfl | decide) (by decide) rfl (fun ls hl => ?_)
                    refine lv_goto (tgt := 71) hx hb dX12_trust_115 (by decide) ?_
                    exact ih71 (y2 + 0) (y6 + 1) H locs ls hP hD hS (lv_sub hl [2, 3, 1, 4, 5, 6, 0] rfl) h
                  · have h := k_pos c91 h
                    refine lv_aload_n hx hb dX12_trust_94 rfl (lv_at hl 0 rfl) ?_
                    refine lv_iload hx hb dX12_trust_95 (lv_at hl 6 rfl) ?_
                    refine lv_iload hx hb dX12_trust_97 (lv_at hl 5 rfl) ?_
                    obtain ⟨r99, g99, h⟩ := k_bind h
                    refine k_callV (As := [.int y6, .int y5]) (rest := [.int y2]) (st1 := [.int r99, .int y2]) (ws2 := (Wd40 cI aR q_hasImage q_place q_rowAt q_rowEnd q_seed q_thrown q_s)) hx hb hml hown hts hK hN hA hP hD hS hl (c_MD_doesTrust l D cI cM cS cJ aR H.size y6 y5 q_hasImage q_place q_rowAt q_rowEnd q_seed q_thrown q_s g99) gX12_trust_X12_doesTrust rfl kdV_X12_doesTrust 0 12 rfl rfl rfl [0, 1] ⟨rfl, rfl⟩ ⟨Nat.le_of_ble_eq_true rfl, Nat.le_of_ble_eq_true rfl⟩ ⟨Nat.zero_le _, Nat.zero_le _⟩ rfl rfl (by decide +kernel) (k_rp rfl (by decide +kernel)) rfl rfl (Nat.le_of_ble_eq_true rfl) dX12_trust_99 rfl (fun H locs hP hD hS => ?_)
                    refine lv_if_eq (tgt := 109) hx hb dX12_trust_102 (by decide) (fun c102 => ?_) (fun c102 => ?_)
                    · have h := k_pos c102 h
                      refine lv_iconst (v := 1) hx hb dX12_trust_109 (by decide) ?_
                      refine lv_iadd hx hb dX12_trust_110 ?_
                      refine lv_istore_n (lv' := [(2, .int (y2 + 1)), (0, .ref (aR 0)), (1, .int x1), (3, .int y3), (4, .int y4), (5, .int y5), (6, .int y6)]) hx hb dX12_trust_111 rfl hl (by decide) rfl (fun ls hl => ?_)
                      refine lv_iinc (v := (y6 + 1)) (lv' := [(6, .int (y6 + 1)), (2, .int (y2 + 1)), (0, .ref (aR 0)), (1, .int x1), (3, .int y3), (4, .int y4), (5, .int y5)]) hx hb dX12_trust_112 hl (k := 6) rfl (by first | rfl | decide) (by decide) rfl (fun ls hl => ?_)
                      refine lv_goto (tgt := 71) hx hb dX12_trust_115 (by decide) ?_
                      exact ih71 (y2 + 1) (y6 + 1) H locs ls hP hD hS (lv_sub hl [2, 3, 1, 4, 5, 6, 0] rfl) h
                    · have h := k_neg c102 h
                      refine lv_iconst (v := 0) hx hb dX12_trust_105 (by decide) ?_
                      refine lv_goto (tgt := 110) hx hb dX12_trust_106 (by decide) ?_
                      refine lv_iadd hx hb dX12_trust_110 ?_
                      refine lv_istore_n (lv' := [(2, .int (y2 + 0)), (0, .ref (aR 0)), (1, .int x1), (3, .int y3), (4, .int y4), (5, .int y5), (6, .int y6)]) hx hb dX12_trust_111 rfl hl (by decide) rfl (fun ls hl => ?_)
                      refine lv_iinc (v := (y6 + 1)) (lv' := [(6, .int (y6 + 1)), (2, .int (y2 + 0)), (0, .ref (aR 0)), (1, .int x1), (3, .int y3), (4, .int y4), (5, .int y5)]) hx hb dX12_trust_112 hl (k := 6) rfl (by first | rfl | decide) (by decide) rfl (fun ls hl => ?_)
                      refine lv_goto (tgt := 71) hx hb dX12_trust_115 (by decide) ?_
                      exact ih71 (y2 + 0) (y6 + 1) H locs ls hP hD hS (lv_sub hl [2, 3, 1, 4, 5, 6, 0] rfl) h
            refine lv_istore (lv' := [(6, .int (y5 + 1)), (4, .int (y4 + r59)), (3, .int (v0 + v1)), (0, .ref (aR 0)), (1, .int x1), (2, .int y2), (5, .int y5)]) hx hb dX12_trust_69 hl (by decide) rfl (fun ls hl => ?_)
            exact B71 (v0 + v1) (y4 + r59) y5 lfu y2 (y5 + 1) H locs ls hP hD hS (lv_sub hl [3, 4, 5, 2, 1, 6, 0] rfl) h
          refine lv_if_le (tgt := 51) hx hb dX12_trust_44 (by decide) (fun c44 => ?_) (fun c44 => ?_)
          · have h := k_pos c44 h
            refine lv_iconst (v := 0) hx hb dX12_trust_51 (by decide) ?_
            exact B52 y2 y4 y5 y3 0 H locs ls hP hD hS (lv_sub hl [0, 1, 2, 4, 5] rfl) h
          · have h := k_neg c44 h
            refine lv_iconst (v := 1) hx hb dX12_trust_47 (by decide) ?_
            refine lv_goto (tgt := 52) hx hb dX12_trust_48 (by decide) ?_
            exact B52 y2 y4 y5 y3 1 H locs ls hP hD hS (lv_sub hl [0, 1, 2, 4, 5] rfl) h
    refine lv_istore (lv' := [(5, .int 0), (4, .int 0), (3, .int 0), (2, .int 0), (0, .ref (aR 0)), (1, .int x1)]) hx hb dX12_trust_19 hl (by decide) rfl (fun ls hl => ?_)
    exact B21 lfu 0 0 0 0 H locs ls hP hD hS (lv_sub hl [4, 5, 3, 2, 1, 0] rfl) h
  · have h := k_pos c6 h
    refine lv_iconst (v := (-1)) hx hb dX12_trust_9 (by decide) ?_
    have h := Option.some.inj h; subst h
    exact hret _ _ _ _ hP hS dX12_trust_10
theorem kdS_X12_has : yX12_has.cls ≠ "java/lang/invoke/MethodHandle" ∧ yX12_has.cls ≠ "java/lang/invoke/VarHandle" ∧ (parseMethodDescriptor yX12_has.desc).map (fun d => d.parameters.length) = some 2 := by decide +kernel
abbrev rm_X12_tells : Room := { frames := 3, cells := 0, slots := 0, locals := 68 }
set_option maxHeartbeats 4000000 in
set_option maxRecDepth 100000 in
theorem c_MD_tells (l : Launch) (D : va_G) (cI cM cS cJ : ClassId) (aR : Nat → Nat) (sz : Nat) (x1 : Int32) (q_hasImage : Int32) (q_place : Int32) (q_rowAt : Int32) (q_rowEnd : Int32) (q_seed : Int32) (q_thrown : Int32) (q_s : Nat → Int32) {o : (Int32)} (hsem : S_MD_tells x1 q_s = some o) : kMet l yX12_tells wsX12_tells rm_X12_tells [.ref (aR 0), .int x1] D (kT cI cM cS cJ) (Wd40 cI aR q_hasImage q_place q_rowAt q_rowEnd q_seed q_thrown q_s) sz (some (.int o)) (Wd40 cI aR q_hasImage q_place q_rowAt q_rowEnd q_seed q_thrown q_s) := by
  refine k_metI (by decide) rfl rfl (Nat.le_of_ble_eq_true rfl) ?_
  intro p e s m below meth c ls Q A hx hb hml hts hown hK hN hA hP hD hS hl hsz hnm hret
  have hown : s.vm.findClass RX12 = some m.cls := hown
  have hf9 := hts (.fieldLink RX12 9 "PlumbLineModel" "s" "[I") (List.mem_of_getElem? (i := 1) rfl)
  have hiX12 : ∀ w ∈ u_ws RX12 TX12 18, w ∈ wsX12_tells := fun w h => List.mem_cons_of_mem _ (List.mem_append_right _ h)
  replace hl : lv_has ls 5 [(0, .ref (aR 0)), (1, .int x1)] := hl
  have h := hsem
  clear hsem
  rw [S_MD_tells] at h
  refine lv_aload_n hx hb dX12_tells_0 rfl (lv_at hl 0 rfl) ?_
  refine lv_iload_n hx hb dX12_tells_1 rfl (lv_at hl 1 rfl) ?_
  obtain ⟨r2, g2, h⟩ := k_bind h
  refine k_callV (As := [.int x1]) (rest := []) (st1 := [.int r2]) (ws2 := (Wd40 cI aR q_hasImage q_place q_rowAt q_rowEnd q_seed q_thrown q_s)) hx hb hml hown hts hK hN hA hP hD hS hl (c_MD_isMan l D cI cM cS cJ aR s.heap.size x1 q_hasImage q_place q_rowAt q_rowEnd q_seed q_thrown q_s g2) gX12_tells_X12_isMan rfl kdV_X12_isMan 0 12 rfl rfl rfl [0, 1] ⟨rfl, rfl⟩ ⟨Nat.le_of_ble_eq_true rfl, Nat.le_of_ble_eq_true rfl⟩ ⟨Nat.zero_le _, Nat.zero_le _⟩ rfl rfl (by decide +kernel) (k_rp rfl (by decide +kernel)) rfl rfl (Nat.le_of_ble_eq_true rfl) dX12_tells_2 rfl (fun H locs hP hD hS => ?_)
  refine lv_if_ne (tgt := 10) hx hb dX12_tells_5 (by decide) (fun c5 => ?_) (fun c5 => ?_)
  · have h := k_neg c5 h
    refine lv_aload_n hx hb dX12_tells_10 rfl (lv_at hl 0 rfl) ?_
    refine lv_iload_n hx hb dX12_tells_11 rfl (lv_at hl 1 rfl) ?_
    obtain ⟨r12, g12, h⟩ := k_bind h
    refine k_callV (As := [.int x1]) (rest := []) (st1 := [.int r12]) (ws2 := (Wd40 cI aR q_hasImage q_place q_rowAt q_rowEnd q_seed q_thrown q_s)) hx hb hml hown hts hK hN hA hP hD hS hl (c_MD_trustedBy l D cI cM cS cJ aR H.size x1 q_hasImage q_place q_rowAt q_rowEnd q_seed q_thrown q_s g12) gX12_tells_X12_trustedBy rfl kdV_X12_trustedBy 0 12 rfl rfl rfl [0, 1] ⟨rfl, rfl⟩ ⟨Nat.le_of_ble_eq_true rfl, Nat.le_of_ble_eq_true rfl⟩ ⟨Nat.zero_le _, Nat.zero_le _⟩ rfl rfl (by decide +kernel) (k_rp rfl (by decide +kernel)) rfl rfl (Nat.le_of_ble_eq_true rfl) dX12_tells_12 rfl (fun H locs hP hD hS => ?_)
    refine lv_istore_n (lv' := [(2, .int r12), (0, .ref (aR 0)), (1, .int x1)]) hx hb dX12_tells_15 rfl hl (by decide) rfl (fun ls hl => ?_)
    refine lv_iconst (v := 0) hx hb dX12_tells_16 (by decide) ?_
    have B18 : ∀ (n18 : Nat) (y2 : Int32) (y3 : Int32) (H : Heap) (locs : List Loc) (ls : Array Slot), va_P D vwCl (Wd40 cI aR q_hasImage q_place q_rowAt q_rowEnd q_seed q_thrown q_s) H → va_D A (Wd40 cI aR q_hasImage q_place q_rowAt q_rowEnd q_seed q_thrown q_s) → va_S A s.heap H locs → lv_has ls 5 [(0, .ref (aR 0)), (2, .int y2), (3, .int y3)] → S_MD_tells_L18 q_s n18 y2 y3 = some o → W p l e rm_X12_tells s m ([.ref (aR 0), .int x1] : List Value).toArray below meth c H locs 0 0 Q (F0 m 18 ls []) := by
      intro n18
      induction n18 with
      | zero => intro y2 y3 H locs ls hP hD hS hl h; exact absurd h (by simp [S_MD_tells_L18])
      | succ n18 ih18 =>
        intro y2 y3 H locs ls hP hD hS hl h
        rw [S_MD_tells_L18] at h
        refine lv_iload_n hx hb dX12_tells_18 rfl (lv_at hl 2 rfl) ?_
        refine lv_bipush (v := 8) hx hb dX12_tells_19 (by decide) ?_
        refine lv_icmp_ge (tgt := 68) hx hb dX12_tells_21 (by decide) (fun c21 => ?_) (fun c21 => ?_)
        · have h := k_pos c21 h
          refine lv_iload_n hx hb dX12_tells_68 rfl (lv_at hl 1 rfl) ?_
          have h := Option.some.inj h; subst h
          exact hret _ _ _ _ hP hS dX12_tells_69
        · have h := k_neg c21 h
          refine lv_iconst (v := 0) hx hb dX12_tells_24 (by decide) ?_
          have B27 : ∀ (y3 : Int32) (n27 : Nat) (y2 : Int32) (y4 : Int32) (H : Heap) (locs : List Loc) (ls : Array Slot), va_P D vwCl (Wd40 cI aR q_hasImage q_place q_rowAt q_rowEnd q_seed q_thrown q_s) H → va_D A (Wd40 cI aR q_hasImage q_place q_rowAt q_rowEnd q_seed q_thrown q_s) → va_S A s.heap H locs → lv_has ls 5 [(0, .ref (aR 0)), (2, .int y2), (3, .int y3), (4, .int y4)] → S_MD_tells_L27 (S_MD_tells_L18 q_s n18) y3 q_s n27 y2 y4 = some o → W p l e rm_X12_tells s m ([.ref (aR 0), .int x1] : List Value).toArray below meth c H locs 0 0 Q (F0 m 27 ls []) := by
            intro y3
            intro n27
            induction n27 with
            | zero => intro y2 y4 H locs ls hP hD hS hl h; exact absurd h (by simp [S_MD_tells_L27])
            | succ n27 ih27 =>
              intro y2 y4 H locs ls hP hD hS hl h
              rw [S_MD_tells_L27] at h
              refine lv_iload hx hb dX12_tells_27 (lv_at hl 3 rfl) ?_
              refine lv_aload_n hx hb dX12_tells_29 rfl (lv_at hl 0 rfl) ?_
              refine va_get (D := D) (ci := 12) (v := .ref (aR 1)) (C := RX12) (T := TX12) (N := 18) hx hb hts hiX12 hown hK hP 0 rfl rfl 0 (by decide) hf9 (fun _ z => z) rfl dX12_tells_30 ?_
              refine lv_iconst (v := 0) hx hb dX12_tells_33 (by decide) ?_
              refine va_iald hx hb hK hP 1 0 rfl rfl (show ¬ ((0 : Int32) < 0 ∨ 37 ≤ (0 : Int32).toNatClampNeg) by decide) dX12_tells_34 ?_
              refine lv_icmp_ge (tgt := 62) hx hb dX12_tells_35 (by decide) (fun c35 => ?_) (fun c35 => ?_)
              · have h := k_pos c35 h
                refine lv_iinc (v := (y3 + 1)) (lv' := [(3, .int (y3 + 1)), (0, .ref (aR 0)), (2, .int y2), (4, .int y4)]) hx hb dX12_tells_62 hl (k := 2) rfl (by first | rfl | decide) (by decide) rfl (fun ls hl => ?_)
                refine lv_goto (tgt := 18) hx hb dX12_tells_65 (by decide) ?_
                exact ih18 y2 (y3 + 1) H locs ls hP hD hS (lv_sub hl [1, 2, 0] rfl) h
              · have h := k_neg c35 h
                refine lv_iload_n hx hb dX12_tells_38 rfl (lv_at hl 1 rfl) ?_
                refine lv_iload hx hb dX12_tells_39 (lv_at hl 3 rfl) ?_
                refine k_callS (As := [.int y2, .int y4]) (rest := []) (st1 := [.int (S_MD_has y2 y4)]) (ws2 := (Wd40 cI aR q_hasImage q_place q_rowAt q_rowEnd q_seed q_thrown q_s)) hx hb hml hown hts hK hN hA hP hD hS hl (c_MD_has l D cI cM cS cJ H.size y2 y4 rfl) gX12_tells_X12_has rfl kdS_X12_has [] ⟨rfl, rfl⟩ ⟨Nat.le_of_ble_eq_true rfl, Nat.le_of_ble_eq_true rfl⟩ ⟨Nat.zero_le _, Nat.zero_le _⟩ rfl rfl (by decide +kernel) (k_rp rfl (by decide +kernel)) rfl rfl (Nat.le_of_ble_eq_true rfl) dX12_tells_41 rfl (fun H locs hP hD hS => ?_)
                refine lv_if_eq (tgt := 56) hx hb dX12_tells_44 (by decide) (fun c44 => ?_) (fun c44 => ?_)
                · have h := k_pos c44 h
                  refine lv_iinc (v := (y4 + 1)) (lv' := [(4, .int (y4 + 1)), (0, .ref (aR 0)), (2, .int y2), (3, .int y3)]) hx hb dX12_tells_56 hl (k := 3) rfl (by first | rfl | decide) (by decide) rfl (fun ls hl => ?_)
                  refine lv_goto (tgt := 27) hx hb dX12_tells_59 (by decide) ?_
                  exact ih27 y2 (y4 + 1) H locs ls hP hD hS (lv_sub hl [1, 2, 3, 0] rfl) h
                · have h := k_neg c44 h
                  refine lv_iload_n hx hb dX12_tells_47 rfl (lv_at hl 1 rfl) ?_
                  refine lv_aload_n hx hb dX12_tells_48 rfl (lv_at hl 0 rfl) ?_
                  refine lv_iload hx hb dX12_tells_49 (lv_at hl 3 rfl) ?_
                  obtain ⟨r51, g51, h⟩ := k_bind h
                  refine k_callV (As := [.int y4]) (rest := [.int y2]) (st1 := [.int r51, .int y2]) (ws2 := (Wd40 cI aR q_hasImage q_place q_rowAt q_rowEnd q_seed q_thrown q_s)) hx hb hml hown hts hK hN hA hP hD hS hl (c_MD_trustedBy l D cI cM cS cJ aR H.size y4 q_hasImage q_place q_rowAt q_rowEnd q_seed q_thrown q_s g51) gX12_tells_X12_trustedBy rfl kdV_X12_trustedBy 0 12 rfl rfl rfl [0, 1] ⟨rfl, rfl⟩ ⟨Nat.le_of_ble_eq_true rfl, Nat.le_of_ble_eq_true rfl⟩ ⟨Nat.zero_le _, Nat.zero_le _⟩ rfl rfl (by decide +kernel) (k_rp rfl (by decide +kernel)) rfl rfl (Nat.le_of_ble_eq_true rfl) dX12_tells_51 rfl (fun H locs hP hD hS => ?_)
                  refine lv_ior hx hb dX12_tells_54 ?_
                  refine lv_istore_n (lv' := [(2, .int (y2 ||| r51)), (0, .ref (aR 0)), (3, .int y3), (4, .int y4)]) hx hb dX12_tells_55 rfl hl (by decide) rfl (fun ls hl => ?_)
                  refine lv_iinc (v := (y4 + 1)) (lv' := [(4, .int (y4 + 1)), (2, .int (y2 ||| r51)), (0, .ref (aR 0)), (3, .int y3)]) hx hb dX12_tells_56 hl (k := 3) rfl (by first | rfl | decide) (by decide) rfl (fun ls hl => ?_)
                  refine lv_goto (tgt := 27) hx hb dX12_tells_59 (by decide) ?_
                  exact ih27 (y2 ||| r51) (y4 + 1) H locs ls hP hD hS (lv_sub hl [2, 1, 3, 0] rfl) h
          refine lv_istore (lv' := [(4, .int 0), (0, .ref (aR 0)), (2, .int y2), (3, .int y3)]) hx hb dX12_tells_25 hl (by decide) rfl (fun ls hl => ?_)
          exact B27 y3 lfu y2 0 H locs ls hP hD hS (lv_sub hl [1, 2, 3, 0] rfl) h
    refine lv_istore_n (lv' := [(3, .int 0), (2, .int r12), (0, .ref (aR 0)), (1, .int x1)]) hx hb dX12_tells_17 rfl hl (by decide) rfl (fun ls hl => ?_)
    exact B18 lfu r12 0 H locs ls hP hD hS (lv_sub hl [2, 1, 0] rfl) h
  · have h := k_pos c5 h
    refine lv_iconst (v := (-1)) hx hb dX12_tells_8 (by decide) ?_
    have h := Option.some.inj h; subst h
    exact hret _ _ _ _ hP hS dX12_tells_9
abbrev rm_X12_fewestProps : Room := { frames := 5, cells := 0, slots := 0, locals := 112 }
set_option maxHeartbeats 4000000 in
set_option maxRecDepth 100000 in
theorem c_MD_fewestProps (l : Launch) (D : va_G) (cI cM cS cJ : ClassId) (aR : Nat → Nat) (sz : Nat) (x1 : Int32) (q_hasImage : Int32) (q_place : Int32) (q_rowAt : Int32) (q_rowEnd : Int32) (q_seed : Int32) (q_thrown : Int32) (q_s : Nat → Int32) (q_m : Nat → Int32) {o : (Int32) × (Nat → Int32)} (hsem : S_MD_fewestProps x1 q_s q_m = some o) : kMet l yX12_fewestProps wsX12_fewestProps rm_X12_fewestProps [.ref (aR 0), .int x1] D (kT cI cM cS cJ) (Wd49 cI aR q_hasImage q_place q_rowAt q_rowEnd q_seed q_thrown q_s q_m) sz (some (.int o.1)) (Wd49 cI aR q_hasImage q_place q_rowAt q_rowEnd q_seed q_thrown q_s o.2) := by
  refine k_metI (by decide) rfl rfl (Nat.le_of_ble_eq_true rfl) ?_
  intro p e s m below meth c ls Q A hx hb hml hts hown hK hN hA hP hD hS hl hsz hnm hret
  have hown : s.vm.findClass RX12 = some m.cls := hown
  have hf9 := hts (.fieldLink RX12 9 "PlumbLineModel" "s" "[I") (List.mem_of_getElem? (i := 1) rfl)
  have hf13 := hts (.fieldLink RX12 13 "PlumbLineModel" "m" "[I") (List.mem_of_getElem? (i := 2) rfl)
  have hiX12 : ∀ w ∈ u_ws RX12 TX12 18, w ∈ wsX12_fewestProps := fun w h => List.mem_cons_of_mem _ (List.mem_append_right _ h)
  replace hl : lv_has ls 5 [(0, .ref (aR 0)), (1, .int x1)] := hl
  have h := hsem
  clear hsem
  rw [S_MD_fewestProps] at h
  refine lv_iload_n hx hb dX12_fewestProps_0 rfl (lv_at hl 1 rfl) ?_
  refine lv_iconst (v := 1) hx hb dX12_fewestProps_1 (by decide) ?_
  refine lv_bipush (v := 30) hx hb dX12_fewestProps_2 (by decide) ?_
  refine k_callS (As := [.int x1, .int 1, .int 30]) (rest := []) (st1 := [.int (S_MD_isIn x1 1 30)]) (ws2 := (Wd49 cI aR q_hasImage q_place q_rowAt q_rowEnd q_seed q_thrown q_s q_m)) hx hb hml hown hts hK hN hA hP hD hS hl (c_MD_isIn l D cI cM cS cJ s.heap.size x1 1 30 rfl) gX12_fewestProps_X12_isIn rfl kdS_X12_isIn [] ⟨rfl, rfl⟩ ⟨Nat.le_of_ble_eq_true rfl, Nat.le_of_ble_eq_true rfl⟩ ⟨Nat.zero_le _, Nat.zero_le _⟩ rfl rfl (by decide +kernel) (k_rp rfl (by decide +kernel)) rfl rfl (Nat.le_of_ble_eq_true rfl) dX12_fewestProps_4 rfl (fun H locs hP hD hS => ?_)
  refine lv_if_ne (tgt := 12) hx hb dX12_fewestProps_7 (by decide) (fun c7 => ?_) (fun c7 => ?_)
  · have h := k_neg c7 h
    refine lv_bipush (v := (-4)) hx hb dX12_fewestProps_12 (by decide) ?_
    refine lv_istore_n (lv' := [(2, .int (-4)), (0, .ref (aR 0)), (1, .int x1)]) hx hb dX12_fewestProps_14 rfl hl (by decide) rfl (fun ls hl => ?_)
    refine lv_iconst (v := 0) hx hb dX12_fewestProps_15 (by decide) ?_
    have B17 : ∀ (n17 : Nat) (y2 : Int32) (y3 : Int32) (q_m : Nat → Int32) (H : Heap) (locs : List Loc) (ls : Array Slot), va_P D vwCl (Wd49 cI aR q_hasImage q_place q_rowAt q_rowEnd q_seed q_thrown q_s q_m) H → va_D A (Wd49 cI aR q_hasImage q_place q_rowAt q_rowEnd q_seed q_thrown q_s q_m) → va_S A s.heap H locs → lv_has ls 5 [(0, .ref (aR 0)), (1, .int x1), (2, .int y2), (3, .int y3)] → S_MD_fewestProps_L17 x1 q_s n17 y2 y3 q_m = some o → W p l e rm_X12_fewestProps s m ([.ref (aR 0), .int x1] : List Value).toArray below meth c H locs 0 0 Q (F0 m 17 ls []) := by
      intro n17
      induction n17 with
      | zero => intro y2 y3 q_m H locs ls hP hD hS hl h; exact absurd h (by simp [S_MD_fewestProps_L17])
      | succ n17 ih17 =>
        intro y2 y3 q_m H locs ls hP hD hS hl h
        rw [S_MD_fewestProps_L17] at h
        refine lv_iload_n hx hb dX12_fewestProps_17 rfl (lv_at hl 3 rfl) ?_
        refine lv_iconst (v := 1) hx hb dX12_fewestProps_18 (by decide) ?_
        refine lv_aload_n hx hb dX12_fewestProps_19 rfl (lv_at hl 0 rfl) ?_
        refine va_get (D := D) (ci := 12) (v := .ref (aR 1)) (C := RX12) (T := TX12) (N := 18) hx hb hts hiX12 hown hK hP 0 rfl rfl 0 (by decide) hf9 (fun _ z => z) rfl dX12_fewestProps_20 ?_
        refine lv_iconst (v := 0) hx hb dX12_fewestProps_23 (by decide) ?_
        refine va_iald hx hb hK hP 1 0 rfl rfl (show ¬ ((0 : Int32) < 0 ∨ 37 ≤ (0 : Int32).toNatClampNeg) by decide) dX12_fewestProps_24 ?_
        refine lv_ishl hx hb dX12_fewestProps_25 ?_
        refine lv_icmp_ge (tgt := 131) hx hb dX12_fewestProps_26 (by decide) (fun c26 => ?_) (fun c26 => ?_)
        · have h := k_pos c26 h
          refine lv_iload_n hx hb dX12_fewestProps_131 rfl (lv_at hl 2 rfl) ?_
          have h := Option.some.inj h; subst h
          exact hret _ _ _ _ hP hS dX12_fewestProps_132
        · have h := k_neg c26 h
          refine lv_iload_n hx hb dX12_fewestProps_29 rfl (lv_at hl 2 rfl) ?_
          have B47 : ∀ (y2 : Int32) (y3 : Int32) (q_m : Nat → Int32) (H : Heap) (locs : List Loc) (ls : Array Slot), va_P D vwCl (Wd49 cI aR q_hasImage q_place q_rowAt q_rowEnd q_seed q_thrown q_s q_m) H → va_D A (Wd49 cI aR q_hasImage q_place q_rowAt q_rowEnd q_seed q_thrown q_s q_m) → va_S A s.heap H locs → lv_has ls 5 [(0, .ref (aR 0)), (1, .int x1), (2, .int y2), (3, .int y3)] → S_MD_fewestProps_J47 (S_MD_fewestProps_L17 x1 q_s n17) x1 y2 y3 q_s q_m = some o → W p l e rm_X12_fewestProps s m ([.ref (aR 0), .int x1] : List Value).toArray below meth c H locs 0 0 Q (F0 m 47 ls []) := by
            intro y2 y3 q_m H locs ls hP hD hS hl h
            rw [S_MD_fewestProps_J47] at h
            refine lv_aload_n hx hb dX12_fewestProps_47 rfl (lv_at hl 0 rfl) ?_
            refine va_get (D := D) (ci := 12) (v := .ref (aR 1)) (C := RX12) (T := TX12) (N := 18) hx hb hts hiX12 hown hK hP 0 rfl rfl 0 (by decide) hf9 (fun _ z => z) rfl dX12_fewestProps_48 ?_
            refine lv_aload_n hx hb dX12_fewestProps_51 rfl (lv_at hl 0 rfl) ?_
            refine va_get (D := D) (ci := 12) (v := .ref (aR 2)) (C := RX12) (T := TX12) (N := 18) hx hb hts hiX12 hown hK hP 0 rfl rfl 1 (by decide) hf13 (fun _ z => z) rfl dX12_fewestProps_52 ?_
            obtain ⟨r55, g55, h⟩ := k_bind h
            refine k_callS (As := [.ref (aR 1), .ref (aR 2)]) (rest := []) (st1 := []) (ws2 := (Wd49 cI aR q_hasImage q_place q_rowAt q_rowEnd q_seed q_thrown q_s r55)) hx hb hml hown hts hK hN hA hP hD hS hl (c_MD_copies l D cI cM cS cJ (aR 1) (aR 2) H.size q_s q_m g55) gX12_fewestProps_X12_copies rfl kdS_X12_copies [1, 2] ⟨rfl, rfl⟩ ⟨Nat.le_of_ble_eq_true rfl, Nat.le_of_ble_eq_true rfl⟩ ⟨Nat.zero_le _, Nat.zero_le _⟩ rfl rfl (by decide +kernel) (k_rp rfl (by decide +kernel)) rfl rfl (Nat.le_of_ble_eq_true rfl) dX12_fewestProps_55 rfl (fun H locs hP hD hS => ?_)
            refine lv_aload_n hx hb dX12_fewestProps_58 rfl (lv_at hl 0 rfl) ?_
            refine va_get (D := D) (ci := 12) (v := .ref (aR 2)) (C := RX12) (T := TX12) (N := 18) hx hb hts hiX12 hown hK hP 0 rfl rfl 1 (by decide) hf13 (fun _ z => z) rfl dX12_fewestProps_59 ?_
            refine lv_iconst (v := 4) hx hb dX12_fewestProps_62 (by decide) ?_
            refine lv_iconst (v := 0) hx hb dX12_fewestProps_63 (by decide) ?_
            refine va_iast hx hb hK hP hD hS 2 0 rfl rfl (show ¬ ((4 : Int32) < 0 ∨ 37 ≤ (4 : Int32).toNatClampNeg) by decide) dX12_fewestProps_64 (fun H locs hP hD hS => ?_)
            replace hP : va_P D vwCl (Wd49 cI aR q_hasImage q_place q_rowAt q_rowEnd q_seed q_thrown q_s (upd r55 (4 : Int32).toNatClampNeg 0)) H := hP
            replace hD : va_D A (Wd49 cI aR q_hasImage q_place q_rowAt q_rowEnd q_seed q_thrown q_s (upd r55 (4 : Int32).toNatClampNeg 0)) := hD
            refine lv_iconst (v := 0) hx hb dX12_fewestProps_65 (by decide) ?_
            have B68 : ∀ (y2 : Int32) (y3 : Int32) (n68 : Nat) (y4 : Int32) (q_m : Nat → Int32) (H : Heap) (locs : List Loc) (ls : Array Slot), va_P D vwCl (Wd49 cI aR q_hasImage q_place q_rowAt q_rowEnd q_seed q_thrown q_s q_m) H → va_D A (Wd49 cI aR q_hasImage q_place q_rowAt q_rowEnd q_seed q_thrown q_s q_m) → va_S A s.heap H locs → lv_has ls 5 [(0, .ref (aR 0)), (1, .int x1), (2, .int y2), (3, .int y3), (4, .int y4)] → S_MD_fewestProps_L68 (S_MD_fewestProps_L17 x1 q_s n17) x1 y2 y3 q_s n68 y4 q_m = some o → W p l e rm_X12_fewestProps s m ([.ref (aR 0), .int x1] : List Value).toArray below meth c H locs 0 0 Q (F0 m 68 ls []) := by
              intro y2 y3
              intro n68
              induction n68 with
              | zero => intro y4 q_m H locs ls hP hD hS hl h; exact absurd h (by simp [S_MD_fewestProps_L68])
              | succ n68 ih68 =>
                intro y4 q_m H locs ls hP hD hS hl h
                rw [S_MD_fewestProps_L68] at h
                refine lv_iload hx hb dX12_fewestProps_68 (lv_at hl 4 rfl) ?_
                refine lv_aload_n hx hb dX12_fewestProps_70 rfl (lv_at hl 0 rfl) ?_
                refine va_get (D := D) (ci := 12) (v := .ref (aR 1)) (C := RX12) (T := TX12) (N := 18) hx hb hts hiX12 hown hK hP 0 rfl rfl 0 (by decide) hf9 (fun _ z => z) rfl dX12_fewestProps_71 ?_
                refine lv_iconst (v := 0) hx hb dX12_fewestProps_74 (by decide) ?_
                refine va_iald hx hb hK hP 1 0 rfl rfl (show ¬ ((0 : Int32) < 0 ∨ 37 ≤ (0 : Int32).toNatClampNeg) by decide) dX12_fewestProps_75 ?_
                refine lv_icmp_ge (tgt := 106) hx hb dX12_fewestProps_76 (by decide) (fun c76 => ?_) (fun c76 => ?_)
                · have h := k_pos c76 h
                  refine lv_aload_n hx hb dX12_fewestProps_106 rfl (lv_at hl 0 rfl) ?_
                  refine va_get (D := D) (ci := 12) (v := .ref (aR 2)) (C := RX12) (T := TX12) (N := 18) hx hb hts hiX12 hown hK hP 0 rfl rfl 1 (by decide) hf13 (fun _ z => z) rfl dX12_fewestProps_107 ?_
                  refine lv_iload_n hx hb dX12_fewestProps_110 rfl (lv_at hl 1 rfl) ?_
                  obtain ⟨r111, g111, h⟩ := k_bind h
                  refine k_callS (As := [.ref (aR 2), .int x1]) (rest := []) (st1 := []) (ws2 := (Wd49 cI aR q_hasImage q_place q_rowAt q_rowEnd q_seed q_thrown q_s r111)) hx hb hml hown hts hK hN hA hP hD hS hl (c_MD_daysOn l D cI cM cS cJ (aR 2) H.size x1 q_m g111) gX12_fewestProps_X12_daysOn rfl kdS_X12_daysOn [2] ⟨rfl, rfl⟩ ⟨Nat.le_of_ble_eq_true rfl, Nat.le_of_ble_eq_true rfl⟩ ⟨Nat.zero_le _, Nat.zero_le _⟩ rfl rfl (by decide +kernel) (k_rp rfl (by decide +kernel)) rfl rfl (Nat.le_of_ble_eq_true rfl) dX12_fewestProps_111 rfl (fun H locs hP hD hS => ?_)
                  refine lv_aload_n hx hb dX12_fewestProps_114 rfl (lv_at hl 0 rfl) ?_
                  refine va_get (D := D) (ci := 12) (v := .ref (aR 2)) (C := RX12) (T := TX12) (N := 18) hx hb hts hiX12 hown hK hP 0 rfl rfl 1 (by decide) hf13 (fun _ z => z) rfl dX12_fewestProps_115 ?_
                  refine lv_iconst (v := 4) hx hb dX12_fewestProps_118 (by decide) ?_
                  refine va_iald hx hb hK hP 2 0 rfl rfl (show ¬ ((4 : Int32) < 0 ∨ 37 ≤ (4 : Int32).toNatClampNeg) by decide) dX12_fewestProps_119 ?_
                  refine lv_if_ne (tgt := 125) hx hb dX12_fewestProps_120 (by decide) (fun c120 => ?_) (fun c120 => ?_)
                  · have h := k_neg c120 h
                    refine lv_iinc (v := (y3 + 1)) (lv' := [(3, .int (y3 + 1)), (0, .ref (aR 0)), (1, .int x1), (2, .int y2), (4, .int y4)]) hx hb dX12_fewestProps_125 hl (k := 3) rfl (by first | rfl | decide) (by decide) rfl (fun ls hl => ?_)
                    refine lv_goto (tgt := 17) hx hb dX12_fewestProps_128 (by decide) ?_
                    exact ih17 y2 (y3 + 1) r111 H locs ls hP hD hS (lv_sub hl [1, 2, 3, 0] rfl) h
                  · have h := k_pos c120 h
                    refine lv_iload_n hx hb dX12_fewestProps_123 rfl (lv_at hl 3 rfl) ?_
                    refine lv_istore_n (lv' := [(2, .int y3), (0, .ref (aR 0)), (1, .int x1), (3, .int y3), (4, .int y4)]) hx hb dX12_fewestProps_124 rfl hl (by decide) rfl (fun ls hl => ?_)
                    refine lv_iinc (v := (y3 + 1)) (lv' := [(3, .int (y3 + 1)), (2, .int y3), (0, .ref (aR 0)), (1, .int x1), (4, .int y4)]) hx hb dX12_fewestProps_125 hl (k := 3) rfl (by first | rfl | decide) (by decide) rfl (fun ls hl => ?_)
                    refine lv_goto (tgt := 17) hx hb dX12_fewestProps_128 (by decide) ?_
                    exact ih17 y3 (y3 + 1) r111 H locs ls hP hD hS (lv_sub hl [2, 3, 1, 0] rfl) h
                · have h := k_neg c76 h
                  refine lv_iload_n hx hb dX12_fewestProps_79 rfl (lv_at hl 3 rfl) ?_
                  refine lv_iload hx hb dX12_fewestProps_80 (lv_at hl 4 rfl) ?_
                  refine k_callS (As := [.int y3, .int y4]) (rest := []) (st1 := [.int (S_MD_has y3 y4)]) (ws2 := (Wd49 cI aR q_hasImage q_place q_rowAt q_rowEnd q_seed q_thrown q_s q_m)) hx hb hml hown hts hK hN hA hP hD hS hl (c_MD_has l D cI cM cS cJ H.size y3 y4 rfl) gX12_fewestProps_X12_has rfl kdS_X12_has [] ⟨rfl, rfl⟩ ⟨Nat.le_of_ble_eq_true rfl, Nat.le_of_ble_eq_true rfl⟩ ⟨Nat.zero_le _, Nat.zero_le _⟩ rfl rfl (by decide +kernel) (k_rp rfl (by decide +kernel)) rfl rfl (Nat.le_of_ble_eq_true rfl) dX12_fewestProps_82 rfl (fun H locs hP hD hS => ?_)
                  refine lv_if_eq (tgt := 100) hx hb dX12_fewestProps_85 (by decide) (fun c85 => ?_) (fun c85 => ?_)
                  · have h := k_pos c85 h
                    refine lv_iinc (v := (y4 + 1)) (lv' := [(4, .int (y4 + 1)), (0, .ref (aR 0)), (1, .int x1), (2, .int y2), (3, .int y3)]) hx hb dX12_fewestProps_100 hl (k := 4) rfl (by first | rfl | decide) (by decide) rfl (fun ls hl => ?_)
                    refine lv_goto (tgt := 68) hx hb dX12_fewestProps_103 (by decide) ?_
                    exact ih68 (y4 + 1) q_m H locs ls hP hD hS (lv_sub hl [1, 2, 3, 4, 0] rfl) h
                  · have h := k_neg c85 h
                    refine lv_aload_n hx hb dX12_fewestProps_88 rfl (lv_at hl 0 rfl) ?_
                    refine va_get (D := D) (ci := 12) (v := .ref (aR 2)) (C := RX12) (T := TX12) (N := 18) hx hb hts hiX12 hown hK hP 0 rfl rfl 1 (by decide) hf13 (fun _ z => z) rfl dX12_fewestProps_89 ?_
                    refine lv_iload hx hb dX12_fewestProps_92 (lv_at hl 4 rfl) ?_
                    refine lv_iconst (v := 3) hx hb dX12_fewestProps_94 (by decide) ?_
                    refine k_callS (As := [.int y4, .int 3]) (rest := [.ref (aR 2)]) (st1 := [.int (S_MD_of y4 3), .ref (aR 2)]) (ws2 := (Wd49 cI aR q_hasImage q_place q_rowAt q_rowEnd q_seed q_thrown q_s q_m)) hx hb hml hown hts hK hN hA hP hD hS hl (c_MD_of l D cI cM cS cJ H.size y4 3 rfl) gX12_fewestProps_X12_of rfl kdS_X12_of [] ⟨rfl, rfl⟩ ⟨Nat.le_of_ble_eq_true rfl, Nat.le_of_ble_eq_true rfl⟩ ⟨Nat.zero_le _, Nat.zero_le _⟩ rfl rfl (by decide +kernel) (k_rp rfl (by decide +kernel)) rfl rfl (Nat.le_of_ble_eq_true rfl) dX12_fewestProps_95 rfl (fun H locs hP hD hS => ?_)
                    refine lv_iconst (v := 1) hx hb dX12_fewestProps_98 (by decide) ?_
                    obtain ⟨g99, h⟩ := k_guard h
                    refine va_iast hx hb hK hP hD hS 2 0 rfl rfl g99 dX12_fewestProps_99 (fun H locs hP hD hS => ?_)
                    replace hP : va_P D vwCl (Wd49 cI aR q_hasImage q_place q_rowAt q_rowEnd q_seed q_thrown q_s (upd q_m (S_MD_of y4 3).toNatClampNeg 1)) H := hP
                    replace hD : va_D A (Wd49 cI aR q_hasImage q_place q_rowAt q_rowEnd q_seed q_thrown q_s (upd q_m (S_MD_of y4 3).toNatClampNeg 1)) := hD
                    refine lv_iinc (v := (y4 + 1)) (lv' := [(4, .int (y4 + 1)), (0, .ref (aR 0)), (1, .int x1), (2, .int y2), (3, .int y3)]) hx hb dX12_fewestProps_100 hl (k := 4) rfl (by first | rfl | decide) (by decide) rfl (fun ls hl => ?_)
                    refine lv_goto (tgt := 68) hx hb dX12_fewestProps_103 (by decide) ?_
                    exact ih68 (y4 + 1) (upd q_m (S_MD_of y4 3).toNatClampNeg 1) H locs ls hP hD hS (lv_sub hl [1, 2, 3, 4, 0] rfl) h
            refine lv_istore (lv' := [(4, .int 0), (0, .ref (aR 0)), (1, .int x1), (2, .int y2), (3, .int y3)]) hx hb dX12_fewestProps_66 hl (by decide) rfl (fun ls hl => ?_)
            exact B68 y2 y3 lfu 0 (upd r55 (4 : Int32).toNatClampNeg 0) H locs ls hP hD hS (lv_sub hl [1, 2, 3, 4, 0] rfl) h
          refine lv_if_lt (tgt := 47) hx hb dX12_fewestProps_30 (by decide) (fun c30 => ?_) (fun c30 => ?_)
          · have h := k_pos c30 h
            exact B47 y2 y3 q_m H locs ls hP hD hS hl h
          · have h := k_neg c30 h
            refine lv_iload_n hx hb dX12_fewestProps_33 rfl (lv_at hl 3 rfl) ?_
            obtain ⟨r34, g34, h⟩ := k_bind h
            refine k_callS (As := [.int y3]) (rest := []) (st1 := [.int r34]) (ws2 := (Wd49 cI aR q_hasImage q_place q_rowAt q_rowEnd q_seed q_thrown q_s q_m)) hx hb hml hown hts hK hN hA hP hD hS hl (c_MD_bits l D cI cM cS cJ H.size y3 g34) gX12_fewestProps_X12_bits rfl kdS_X12_bits [] ⟨rfl, rfl⟩ ⟨Nat.le_of_ble_eq_true rfl, Nat.le_of_ble_eq_true rfl⟩ ⟨Nat.zero_le _, Nat.zero_le _⟩ rfl rfl (by decide +kernel) (k_rp rfl (by decide +kernel)) rfl rfl (Nat.le_of_ble_eq_true rfl) dX12_fewestProps_34 rfl (fun H locs hP hD hS => ?_)
            refine lv_iload_n hx hb dX12_fewestProps_37 rfl (lv_at hl 2 rfl) ?_
            obtain ⟨r38, g38, h⟩ := k_bind h
            refine k_callS (As := [.int y2]) (rest := [.int r34]) (st1 := [.int r38, .int r34]) (ws2 := (Wd49 cI aR q_hasImage q_place q_rowAt q_rowEnd q_seed q_thrown q_s q_m)) hx hb hml hown hts hK hN hA hP hD hS hl (c_MD_bits l D cI cM cS cJ H.size y2 g38) gX12_fewestProps_X12_bits rfl kdS_X12_bits [] ⟨rfl, rfl⟩ ⟨Nat.le_of_ble_eq_true rfl, Nat.le_of_ble_eq_true rfl⟩ ⟨Nat.zero_le _, Nat.zero_le _⟩ rfl rfl (by decide +kernel) (k_rp rfl (by decide +kernel)) rfl rfl (Nat.le_of_ble_eq_true rfl) dX12_fewestProps_38 rfl (fun H locs hP hD hS => ?_)
            refine lv_icmp_lt (tgt := 47) hx hb dX12_fewestProps_41 (by decide) (fun c41 => ?_) (fun c41 => ?_)
            · have h := k_pos c41 h
              exact B47 y2 y3 q_m H locs ls hP hD hS hl h
            · have h := k_neg c41 h
              refine lv_goto (tgt := 125) hx hb dX12_fewestProps_44 (by decide) ?_
              refine lv_iinc (v := (y3 + 1)) (lv' := [(3, .int (y3 + 1)), (0, .ref (aR 0)), (1, .int x1), (2, .int y2)]) hx hb dX12_fewestProps_125 hl (k := 3) rfl (by first | rfl | decide) (by decide) rfl (fun ls hl => ?_)
              refine lv_goto (tgt := 17) hx hb dX12_fewestProps_128 (by decide) ?_
              exact ih17 y2 (y3 + 1) q_m H locs ls hP hD hS (lv_sub hl [1, 2, 3, 0] rfl) h
    refine lv_istore_n (lv' := [(3, .int 0), (2, .int (-4)), (0, .ref (aR 0)), (1, .int x1)]) hx hb dX12_fewestProps_16 rfl hl (by decide) rfl (fun ls hl => ?_)
    exact B17 lfu (-4) 0 q_m H locs ls hP hD hS (lv_sub hl [2, 3, 1, 0] rfl) h
  · have h := k_pos c7 h
    refine lv_iconst (v := (-1)) hx hb dX12_fewestProps_10 (by decide) ?_
    have h := Option.some.inj h; subst h
    exact hret _ _ _ _ hP hS dX12_fewestProps_11
abbrev rm_X12_push : Room := { frames := 6, cells := 0, slots := 0, locals := 133 }
set_option maxHeartbeats 4000000 in
set_option maxRecDepth 100000 in
theorem c_MD_push (l : Launch) (D : va_G) (cI cM cS cJ : ClassId) (aR : Nat → Nat) (sz : Nat) (x1 : Int32) (q_hasImage : Int32) (q_place : Int32) (q_rowAt : Int32) (q_rowEnd : Int32) (q_seed : Int32) (q_thrown : Int32) (q_s : Nat → Int32) (q_m : Nat → Int32) {o : (Int32) × (Nat → Int32)} (hsem : S_MD_push x1 q_s q_m = some o) : kMet l yX12_push wsX12_push rm_X12_push [.ref (aR 0), .int x1] D (kT cI cM cS cJ) (Wd49 cI aR q_hasImage q_place q_rowAt q_rowEnd q_seed q_thrown q_s q_m) sz (some (.int o.1)) (Wd49 cI aR q_hasImage q_place q_rowAt q_rowEnd q_seed q_thrown q_s o.2) := by
  refine k_metI (by decide) rfl rfl (Nat.le_of_ble_eq_true rfl) ?_
  intro p e s m below meth c ls Q A hx hb hml hts hown hK hN hA hP hD hS hl hsz hnm hret
  have hown : s.vm.findClass RX12 = some m.cls := hown
  have hf13 := hts (.fieldLink RX12 13 "PlumbLineModel" "m" "[I") (List.mem_of_getElem? (i := 1) rfl)
  have hf9 := hts (.fieldLink RX12 9 "PlumbLineModel" "s" "[I") (List.mem_of_getElem? (i := 2) rfl)
  have hiX12 : ∀ w ∈ u_ws RX12 TX12 18, w ∈ wsX12_push := fun w h => List.mem_cons_of_mem _ (List.mem_append_right _ h)
  replace hl : lv_has ls 6 [(0, .ref (aR 0)), (1, .int x1)] := hl
  have h := hsem
  clear hsem
  rw [S_MD_push] at h
  refine lv_iload_n hx hb dX12_push_0 rfl (lv_at hl 1 rfl) ?_
  refine lv_iconst (v := 0) hx hb dX12_push_1 (by decide) ?_
  refine lv_bipush (v := 20) hx hb dX12_push_2 (by decide) ?_
  refine k_callS (As := [.int x1, .int 0, .int 20]) (rest := []) (st1 := [.int (S_MD_isIn x1 0 20)]) (ws2 := (Wd49 cI aR q_hasImage q_place q_rowAt q_rowEnd q_seed q_thrown q_s q_m)) hx hb hml hown hts hK hN hA hP hD hS hl (c_MD_isIn l D cI cM cS cJ s.heap.size x1 0 20 rfl) gX12_push_X12_isIn rfl kdS_X12_isIn [] ⟨rfl, rfl⟩ ⟨Nat.le_of_ble_eq_true rfl, Nat.le_of_ble_eq_true rfl⟩ ⟨Nat.zero_le _, Nat.zero_le _⟩ rfl rfl (by decide +kernel) (k_rp rfl (by decide +kernel)) rfl rfl (Nat.le_of_ble_eq_true rfl) dX12_push_4 rfl (fun H locs hP hD hS => ?_)
  refine lv_if_ne (tgt := 12) hx hb dX12_push_7 (by decide) (fun c7 => ?_) (fun c7 => ?_)
  · have h := k_neg c7 h
    refine lv_aload_n hx hb dX12_push_12 rfl (lv_at hl 0 rfl) ?_
    refine lv_iload_n hx hb dX12_push_13 rfl (lv_at hl 1 rfl) ?_
    obtain ⟨r14, g14, h⟩ := k_bind h
    refine k_callV (As := [.int x1]) (rest := []) (st1 := []) (ws2 := (Wd49 cI aR q_hasImage q_place q_rowAt q_rowEnd q_seed q_thrown q_s r14)) hx hb hml hown hts hK hN hA hP hD hS hl (c_MD_takes l D cI cM cS cJ aR H.size x1 q_hasImage q_place q_rowAt q_rowEnd q_seed q_thrown q_s q_m g14) gX12_push_X12_takes rfl kdV_X12_takes 0 12 rfl rfl rfl [0, 1, 2] ⟨rfl, rfl⟩ ⟨Nat.le_of_ble_eq_true rfl, Nat.le_of_ble_eq_true rfl⟩ ⟨Nat.zero_le _, Nat.zero_le _⟩ rfl rfl (by decide +kernel) (k_rp rfl (by decide +kernel)) rfl rfl (Nat.le_of_ble_eq_true rfl) dX12_push_14 rfl (fun H locs hP hD hS => ?_)
    refine lv_aload_n hx hb dX12_push_17 rfl (lv_at hl 0 rfl) ?_
    refine va_get (D := D) (ci := 12) (v := .ref (aR 2)) (C := RX12) (T := TX12) (N := 18) hx hb hts hiX12 hown hK hP 0 rfl rfl 1 (by decide) hf13 (fun _ z => z) rfl dX12_push_18 ?_
    obtain ⟨r21, g21, h⟩ := k_bind h
    refine k_callS (As := [.ref (aR 2)]) (rest := []) (st1 := [.int r21]) (ws2 := (Wd49 cI aR q_hasImage q_place q_rowAt q_rowEnd q_seed q_thrown q_s r14)) hx hb hml hown hts hK hN hA hP hD hS hl (c_MD_upright l D cI cM cS cJ (aR 2) H.size r14 g21) gX12_push_X12_upright rfl kdS_X12_upright [2] ⟨rfl, rfl⟩ ⟨Nat.le_of_ble_eq_true rfl, Nat.le_of_ble_eq_true rfl⟩ ⟨Nat.zero_le _, Nat.zero_le _⟩ rfl rfl (by decide +kernel) (k_rp rfl (by decide +kernel)) rfl rfl (Nat.le_of_ble_eq_true rfl) dX12_push_21 rfl (fun H locs hP hD hS => ?_)
    obtain ⟨r24, g24, h⟩ := k_bind h
    refine k_callS (As := [.int r21]) (rest := []) (st1 := [.int r24]) (ws2 := (Wd49 cI aR q_hasImage q_place q_rowAt q_rowEnd q_seed q_thrown q_s r14)) hx hb hml hown hts hK hN hA hP hD hS hl (c_MD_bits l D cI cM cS cJ H.size r21 g24) gX12_push_X12_bits rfl kdS_X12_bits [] ⟨rfl, rfl⟩ ⟨Nat.le_of_ble_eq_true rfl, Nat.le_of_ble_eq_true rfl⟩ ⟨Nat.zero_le _, Nat.zero_le _⟩ rfl rfl (by decide +kernel) (k_rp rfl (by decide +kernel)) rfl rfl (Nat.le_of_ble_eq_true rfl) dX12_push_24 rfl (fun H locs hP hD hS => ?_)
    refine lv_istore_n (lv' := [(2, .int r24), (0, .ref (aR 0)), (1, .int x1)]) hx hb dX12_push_27 rfl hl (by decide) rfl (fun ls hl => ?_)
    refine lv_bipush (v := (-4)) hx hb dX12_push_28 (by decide) ?_
    refine lv_istore_n (lv' := [(3, .int (-4)), (2, .int r24), (0, .ref (aR 0)), (1, .int x1)]) hx hb dX12_push_30 rfl hl (by decide) rfl (fun ls hl => ?_)
    refine lv_iconst (v := 0) hx hb dX12_push_31 (by decide) ?_
    have B34 : ∀ (n34 : Nat) (y2 : Int32) (y3 : Int32) (y4 : Int32) (q_m : Nat → Int32) (H : Heap) (locs : List Loc) (ls : Array Slot), va_P D vwCl (Wd49 cI aR q_hasImage q_place q_rowAt q_rowEnd q_seed q_thrown q_s q_m) H → va_D A (Wd49 cI aR q_hasImage q_place q_rowAt q_rowEnd q_seed q_thrown q_s q_m) → va_S A s.heap H locs → lv_has ls 6 [(0, .ref (aR 0)), (1, .int x1), (2, .int y2), (3, .int y3), (4, .int y4)] → S_MD_push_L34 x1 q_s n34 y2 y3 y4 q_m = some o → W p l e rm_X12_push s m ([.ref (aR 0), .int x1] : List Value).toArray below meth c H locs 0 0 Q (F0 m 34 ls []) := by
      intro n34
      induction n34 with
      | zero => intro y2 y3 y4 q_m H locs ls hP hD hS hl h; exact absurd h (by simp [S_MD_push_L34])
      | succ n34 ih34 =>
        intro y2 y3 y4 q_m H locs ls hP hD hS hl h
        rw [S_MD_push_L34] at h
        refine lv_iload hx hb dX12_push_34 (lv_at hl 4 rfl) ?_
        refine lv_aload_n hx hb dX12_push_36 rfl (lv_at hl 0 rfl) ?_
        refine va_get (D := D) (ci := 12) (v := .ref (aR 1)) (C := RX12) (T := TX12) (N := 18) hx hb hts hiX12 hown hK hP 0 rfl rfl 0 (by decide) hf9 (fun _ z => z) rfl dX12_push_37 ?_
        refine lv_iconst (v := 0) hx hb dX12_push_40 (by decide) ?_
        refine va_iald hx hb hK hP 1 0 rfl rfl (show ¬ ((0 : Int32) < 0 ∨ 37 ≤ (0 : Int32).toNatClampNeg) by decide) dX12_push_41 ?_
        refine lv_icmp_ge (tgt := 140) hx hb dX12_push_42 (by decide) (fun c42 => ?_) (fun c42 => ?_)
        · have h := k_pos c42 h
          refine lv_iload_n hx hb dX12_push_140 rfl (lv_at hl 3 rfl) ?_
          have h := Option.some.inj h; subst h
          exact hret _ _ _ _ hP hS dX12_push_141
        · have h := k_neg c42 h
          refine lv_bipush (v := (-45)) hx hb dX12_push_45 (by decide) ?_
          have B49 : ∀ (y4 : Int32) (n49 : Nat) (y2 : Int32) (y3 : Int32) (y5 : Int32) (q_m : Nat → Int32) (H : Heap) (locs : List Loc) (ls : Array Slot), va_P D vwCl (Wd49 cI aR q_hasImage q_place q_rowAt q_rowEnd q_seed q_thrown q_s q_m) H → va_D A (Wd49 cI aR q_hasImage q_place q_rowAt q_rowEnd q_seed q_thrown q_s q_m) → va_S A s.heap H locs → lv_has ls 6 [(0, .ref (aR 0)), (1, .int x1), (2, .int y2), (3, .int y3), (4, .int y4), (5, .int y5)] → S_MD_push_L49 (S_MD_push_L34 x1 q_s n34) x1 y4 q_s n49 y2 y3 y5 q_m = some o → W p l e rm_X12_push s m ([.ref (aR 0), .int x1] : List Value).toArray below meth c H locs 0 0 Q (F0 m 49 ls []) := by
            intro y4
            intro n49
            induction n49 with
            | zero => intro y2 y3 y5 q_m H locs ls hP hD hS hl h; exact absurd h (by simp [S_MD_push_L49])
            | succ n49 ih49 =>
              intro y2 y3 y5 q_m H locs ls hP hD hS hl h
              rw [S_MD_push_L49] at h
              refine lv_iload hx hb dX12_push_49 (lv_at hl 5 rfl) ?_
              refine lv_bipush (v := 45) hx hb dX12_push_51 (by decide) ?_
              refine lv_icmp_gt (tgt := 134) hx hb dX12_push_53 (by decide) (fun c53 => ?_) (fun c53 => ?_)
              · have h := k_pos c53 h
                refine lv_iinc (v := (y4 + 1)) (lv' := [(4, .int (y4 + 1)), (0, .ref (aR 0)), (1, .int x1), (2, .int y2), (3, .int y3), (5, .int y5)]) hx hb dX12_push_134 hl (k := 4) rfl (by first | rfl | decide) (by decide) rfl (fun ls hl => ?_)
                refine lv_goto (tgt := 34) hx hb dX12_push_137 (by decide) ?_
                exact ih34 y2 y3 (y4 + 1) q_m H locs ls hP hD hS (lv_sub hl [1, 2, 3, 4, 0] rfl) h
              · have h := k_neg c53 h
                refine lv_aload_n hx hb dX12_push_56 rfl (lv_at hl 0 rfl) ?_
                refine va_get (D := D) (ci := 12) (v := .ref (aR 1)) (C := RX12) (T := TX12) (N := 18) hx hb hts hiX12 hown hK hP 0 rfl rfl 0 (by decide) hf9 (fun _ z => z) rfl dX12_push_57 ?_
                refine lv_aload_n hx hb dX12_push_60 rfl (lv_at hl 0 rfl) ?_
                refine va_get (D := D) (ci := 12) (v := .ref (aR 2)) (C := RX12) (T := TX12) (N := 18) hx hb hts hiX12 hown hK hP 0 rfl rfl 1 (by decide) hf13 (fun _ z => z) rfl dX12_push_61 ?_
                obtain ⟨r64, g64, h⟩ := k_bind h
                refine k_callS (As := [.ref (aR 1), .ref (aR 2)]) (rest := []) (st1 := []) (ws2 := (Wd49 cI aR q_hasImage q_place q_rowAt q_rowEnd q_seed q_thrown q_s r64)) hx hb hml hown hts hK hN hA hP hD hS hl (c_MD_copies l D cI cM cS cJ (aR 1) (aR 2) H.size q_s q_m g64) gX12_push_X12_copies rfl kdS_X12_copies [1, 2] ⟨rfl, rfl⟩ ⟨Nat.le_of_ble_eq_true rfl, Nat.le_of_ble_eq_true rfl⟩ ⟨Nat.zero_le _, Nat.zero_le _⟩ rfl rfl (by decide +kernel) (k_rp rfl (by decide +kernel)) rfl rfl (Nat.le_of_ble_eq_true rfl) dX12_push_64 rfl (fun H locs hP hD hS => ?_)
                refine lv_aload_n hx hb dX12_push_67 rfl (lv_at hl 0 rfl) ?_
                refine va_get (D := D) (ci := 12) (v := .ref (aR 2)) (C := RX12) (T := TX12) (N := 18) hx hb hts hiX12 hown hK hP 0 rfl rfl 1 (by decide) hf13 (fun _ z => z) rfl dX12_push_68 ?_
                refine lv_iload hx hb dX12_push_71 (lv_at hl 4 rfl) ?_
                refine lv_iconst (v := 2) hx hb dX12_push_73 (by decide) ?_
                refine k_callS (As := [.int y4, .int 2]) (rest := [.ref (aR 2)]) (st1 := [.int (S_MD_of y4 2), .ref (aR 2)]) (ws2 := (Wd49 cI aR q_hasImage q_place q_rowAt q_rowEnd q_seed q_thrown q_s r64)) hx hb hml hown hts hK hN hA hP hD hS hl (c_MD_of l D cI cM cS cJ H.size y4 2 rfl) gX12_push_X12_of rfl kdS_X12_of [] ⟨rfl, rfl⟩ ⟨Nat.le_of_ble_eq_true rfl, Nat.le_of_ble_eq_true rfl⟩ ⟨Nat.zero_le _, Nat.zero_le _⟩ rfl rfl (by decide +kernel) (k_rp rfl (by decide +kernel)) rfl rfl (Nat.le_of_ble_eq_true rfl) dX12_push_74 rfl (fun H locs hP hD hS => ?_)
                refine lv_iload hx hb dX12_push_77 (lv_at hl 5 rfl) ?_
                obtain ⟨g79, h⟩ := k_guard h
                refine va_iast hx hb hK hP hD hS 2 0 rfl rfl g79 dX12_push_79 (fun H locs hP hD hS => ?_)
                replace hP : va_P D vwCl (Wd49 cI aR q_hasImage q_place q_rowAt q_rowEnd q_seed q_thrown q_s (upd r64 (S_MD_of y4 2).toNatClampNeg y5)) H := hP
                replace hD : va_D A (Wd49 cI aR q_hasImage q_place q_rowAt q_rowEnd q_seed q_thrown q_s (upd r64 (S_MD_of y4 2).toNatClampNeg y5)) := hD
                refine lv_aload_n hx hb dX12_push_80 rfl (lv_at hl 0 rfl) ?_
                refine va_get (D := D) (ci := 12) (v := .ref (aR 2)) (C := RX12) (T := TX12) (N := 18) hx hb hts hiX12 hown hK hP 0 rfl rfl 1 (by decide) hf13 (fun _ z => z) rfl dX12_push_81 ?_
                refine lv_iload_n hx hb dX12_push_84 rfl (lv_at hl 1 rfl) ?_
                obtain ⟨r85, g85, h⟩ := k_bind h
                refine k_callS (As := [.ref (aR 2), .int x1]) (rest := []) (st1 := []) (ws2 := (Wd49 cI aR q_hasImage q_place q_rowAt q_rowEnd q_seed q_thrown q_s r85)) hx hb hml hown hts hK hN hA hP hD hS hl (c_MD_daysOn l D cI cM cS cJ (aR 2) H.size x1 (upd r64 (S_MD_of y4 2).toNatClampNeg y5) g85) gX12_push_X12_daysOn rfl kdS_X12_daysOn [2] ⟨rfl, rfl⟩ ⟨Nat.le_of_ble_eq_true rfl, Nat.le_of_ble_eq_true rfl⟩ ⟨Nat.zero_le _, Nat.zero_le _⟩ rfl rfl (by decide +kernel) (k_rp rfl (by decide +kernel)) rfl rfl (Nat.le_of_ble_eq_true rfl) dX12_push_85 rfl (fun H locs hP hD hS => ?_)
                refine lv_aload_n hx hb dX12_push_88 rfl (lv_at hl 0 rfl) ?_
                refine va_get (D := D) (ci := 12) (v := .ref (aR 2)) (C := RX12) (T := TX12) (N := 18) hx hb hts hiX12 hown hK hP 0 rfl rfl 1 (by decide) hf13 (fun _ z => z) rfl dX12_push_89 ?_
                obtain ⟨r92, g92, h⟩ := k_bind h
                refine k_callS (As := [.ref (aR 2)]) (rest := []) (st1 := [.int r92]) (ws2 := (Wd49 cI aR q_hasImage q_place q_rowAt q_rowEnd q_seed q_thrown q_s r85)) hx hb hml hown hts hK hN hA hP hD hS hl (c_MD_upright l D cI cM cS cJ (aR 2) H.size r85 g92) gX12_push_X12_upright rfl kdS_X12_upright [2] ⟨rfl, rfl⟩ ⟨Nat.le_of_ble_eq_true rfl, Nat.le_of_ble_eq_true rfl⟩ ⟨Nat.zero_le _, Nat.zero_le _⟩ rfl rfl (by decide +kernel) (k_rp rfl (by decide +kernel)) rfl rfl (Nat.le_of_ble_eq_true rfl) dX12_push_92 rfl (fun H locs hP hD hS => ?_)
                obtain ⟨r95, g95, h⟩ := k_bind h
                refine k_callS (As := [.int r92]) (rest := []) (st1 := [.int r95]) (ws2 := (Wd49 cI aR q_hasImage q_place q_rowAt q_rowEnd q_seed q_thrown q_s r85)) hx hb hml hown hts hK hN hA hP hD hS hl (c_MD_bits l D cI cM cS cJ H.size r92 g95) gX12_push_X12_bits rfl kdS_X12_bits [] ⟨rfl, rfl⟩ ⟨Nat.le_of_ble_eq_true rfl, Nat.le_of_ble_eq_true rfl⟩ ⟨Nat.zero_le _, Nat.zero_le _⟩ rfl rfl (by decide +kernel) (k_rp rfl (by decide +kernel)) rfl rfl (Nat.le_of_ble_eq_true rfl) dX12_push_95 rfl (fun H locs hP hD hS => ?_)
                refine lv_iload_n hx hb dX12_push_98 rfl (lv_at hl 2 rfl) ?_
                refine lv_icmp_gt (tgt := 105) hx hb dX12_push_99 (by decide) (fun c99 => ?_) (fun c99 => ?_)
                · have h := k_pos c99 h
                  refine lv_bipush (v := 100) hx hb dX12_push_105 (by decide) ?_
                  refine lv_iload hx hb dX12_push_107 (lv_at hl 4 rfl) ?_
                  refine lv_imul hx hb dX12_push_109 ?_
                  refine lv_iload hx hb dX12_push_110 (lv_at hl 5 rfl) ?_
                  refine lv_iadd hx hb dX12_push_112 ?_
                  refine lv_bipush (v := 45) hx hb dX12_push_113 (by decide) ?_
                  refine lv_iadd hx hb dX12_push_115 ?_
                  refine lv_istore_n (lv' := [(3, .int ((((100 : Int32) * y4) + y5) + 45)), (0, .ref (aR 0)), (1, .int x1), (2, .int y2), (4, .int y4), (5, .int y5)]) hx hb dX12_push_116 rfl hl (by decide) rfl (fun ls hl => ?_)
                  refine lv_aload_n hx hb dX12_push_117 rfl (lv_at hl 1 rfl) ?_
                  refine va_get (D := D) (ci := 12) (v := .ref (aR 2)) (C := RX12) (T := TX12) (N := 18) hx hb hts hiX12 hown hK hP 0 rfl rfl 1 (by decide) hf13 (fun _ z => z) rfl dX12_push_118 ?_
                  obtain ⟨r121, g121, h⟩ := k_bind h
                  refine k_callS (As := [.ref (aR 2)]) (rest := []) (st1 := [.int r121]) (ws2 := (Wd49 cI aR q_hasImage q_place q_rowAt q_rowEnd q_seed q_thrown q_s r85)) hx hb hml hown hts hK hN hA hP hD hS hl (c_MD_upright l D cI cM cS cJ (aR 2) H.size r85 g121) gX12_push_X12_upright rfl kdS_X12_upright [2] ⟨rfl, rfl⟩ ⟨Nat.le_of_ble_eq_true rfl, Nat.le_of_ble_eq_true rfl⟩ ⟨Nat.zero_le _, Nat.zero_le _⟩ rfl rfl (by decide +kernel) (k_rp rfl (by decide +kernel)) rfl rfl (Nat.le_of_ble_eq_true rfl) dX12_push_121 rfl (fun H locs hP hD hS => ?_)
                  obtain ⟨r124, g124, h⟩ := k_bind h
                  refine k_callS (As := [.int r121]) (rest := []) (st1 := [.int r124]) (ws2 := (Wd49 cI aR q_hasImage q_place q_rowAt q_rowEnd q_seed q_thrown q_s r85)) hx hb hml hown hts hK hN hA hP hD hS hl (c_MD_bits l D cI cM cS cJ H.size r121 g124) gX12_push_X12_bits rfl kdS_X12_bits [] ⟨rfl, rfl⟩ ⟨Nat.le_of_ble_eq_true rfl, Nat.le_of_ble_eq_true rfl⟩ ⟨Nat.zero_le _, Nat.zero_le _⟩ rfl rfl (by decide +kernel) (k_rp rfl (by decide +kernel)) rfl rfl (Nat.le_of_ble_eq_true rfl) dX12_push_124 rfl (fun H locs hP hD hS => ?_)
                  refine lv_istore_n (lv' := [(2, .int r124), (3, .int ((((100 : Int32) * y4) + y5) + 45)), (0, .ref (aR 0)), (1, .int x1), (4, .int y4), (5, .int y5)]) hx hb dX12_push_127 rfl hl (by decide) rfl (fun ls hl => ?_)
                  refine lv_iinc (v := (y5 + 1)) (lv' := [(5, .int (y5 + 1)), (2, .int r124), (3, .int ((((100 : Int32) * y4) + y5) + 45)), (0, .ref (aR 0)), (1, .int x1), (4, .int y4)]) hx hb dX12_push_128 hl (k := 5) rfl (by first | rfl | decide) (by decide) rfl (fun ls hl => ?_)
                  refine lv_goto (tgt := 49) hx hb dX12_push_131 (by decide) ?_
                  exact ih49 r124 ((((100 : Int32) * y4) + y5) + 45) (y5 + 1) r85 H locs ls hP hD hS (lv_sub hl [3, 4, 1, 2, 5, 0] rfl) h
                · have h := k_neg c99 h
                  refine lv_goto (tgt := 128) hx hb dX12_push_102 (by decide) ?_
                  refine lv_iinc (v := (y5 + 1)) (lv' := [(5, .int (y5 + 1)), (0, .ref (aR 0)), (1, .int x1), (2, .int y2), (3, .int y3), (4, .int y4)]) hx hb dX12_push_128 hl (k := 5) rfl (by first | rfl | decide) (by decide) rfl (fun ls hl => ?_)
                  refine lv_goto (tgt := 49) hx hb dX12_push_131 (by decide) ?_
                  exact ih49 y2 y3 (y5 + 1) r85 H locs ls hP hD hS (lv_sub hl [1, 2, 3, 4, 5, 0] rfl) h
          refine lv_istore (lv' := [(5, .int (-45)), (0, .ref (aR 0)), (1, .int x1), (2, .int y2), (3, .int y3), (4, .int y4)]) hx hb dX12_push_47 hl (by decide) rfl (fun ls hl => ?_)
          exact B49 y4 lfu y2 y3 (-45) q_m H locs ls hP hD hS (lv_sub hl [1, 2, 3, 4, 5, 0] rfl) h
    refine lv_istore (lv' := [(4, .int 0), (3, .int (-4)), (2, .int r24), (0, .ref (aR 0)), (1, .int x1)]) hx hb dX12_push_32 hl (by decide) rfl (fun ls hl => ?_)
    exact B34 lfu r24 (-4) 0 r14 H locs ls hP hD hS (lv_sub hl [3, 4, 2, 1, 0] rfl) h
  · have h := k_pos c7 h
    refine lv_iconst (v := (-1)) hx hb dX12_push_10 (by decide) ?_
    have h := Option.some.inj h; subst h
    exact hret _ _ _ _ hP hS dX12_push_11
abbrev rm_X12_rightOne : Room := { frames := 2, cells := 0, slots := 0, locals := 43 }
set_option maxHeartbeats 4000000 in
set_option maxRecDepth 100000 in
theorem c_MD_rightOne (l : Launch) (D : va_G) (cI cM cS cJ : ClassId) (aR : Nat → Nat) (sz : Nat) (q_hasImage : Int32) (q_place : Int32) (q_rowAt : Int32) (q_rowEnd : Int32) (q_seed : Int32) (q_thrown : Int32) (q_s : Nat → Int32) {o : (Int32)} (hsem : S_MD_rightOne q_s = some o) : kMet l yX12_rightOne wsX12_rightOne rm_X12_rightOne [.ref (aR 0)] D (kT cI cM cS cJ) (Wd40 cI aR q_hasImage q_place q_rowAt q_rowEnd q_seed q_thrown q_s) sz (some (.int o)) (Wd40 cI aR q_hasImage q_place q_rowAt q_rowEnd q_seed q_thrown q_s) := by
  refine k_metI (by decide) rfl rfl (Nat.le_of_ble_eq_true rfl) ?_
  intro p e s m below meth c ls Q A hx hb hml hts hown hK hN hA hP hD hS hl hsz hnm hret
  have hown : s.vm.findClass RX12 = some m.cls := hown
  have hf9 := hts (.fieldLink RX12 9 "PlumbLineModel" "s" "[I") (List.mem_of_getElem? (i := 1) rfl)
  have hiX12 : ∀ w ∈ u_ws RX12 TX12 18, w ∈ wsX12_rightOne := fun w h => List.mem_cons_of_mem _ (List.mem_append_right _ h)
  replace hl : lv_has ls 6 [(0, .ref (aR 0))] := hl
  have h := hsem
  clear hsem
  rw [S_MD_rightOne] at h
  refine lv_bipush (v := (-4)) hx hb dX12_rightOne_0 (by decide) ?_
  refine lv_istore_n (lv' := [(1, .int (-4)), (0, .ref (aR 0))]) hx hb dX12_rightOne_2 rfl hl (by decide) rfl (fun ls hl => ?_)
  refine lv_iconst (v := (-1)) hx hb dX12_rightOne_3 (by decide) ?_
  refine lv_istore_n (lv' := [(2, .int (-1)), (1, .int (-4)), (0, .ref (aR 0))]) hx hb dX12_rightOne_4 rfl hl (by decide) rfl (fun ls hl => ?_)
  refine lv_iconst (v := 0) hx hb dX12_rightOne_5 (by decide) ?_
  have B7 : ∀ (n7 : Nat) (y1 : Int32) (y2 : Int32) (y3 : Int32) (H : Heap) (locs : List Loc) (ls : Array Slot), va_P D vwCl (Wd40 cI aR q_hasImage q_place q_rowAt q_rowEnd q_seed q_thrown q_s) H → va_D A (Wd40 cI aR q_hasImage q_place q_rowAt q_rowEnd q_seed q_thrown q_s) → va_S A s.heap H locs → lv_has ls 6 [(0, .ref (aR 0)), (1, .int y1), (2, .int y2), (3, .int y3)] → S_MD_rightOne_L7 q_s n7 y1 y2 y3 = some o → W p l e rm_X12_rightOne s m ([.ref (aR 0)] : List Value).toArray below meth c H locs 0 0 Q (F0 m 7 ls []) := by
    intro n7
    induction n7 with
    | zero => intro y1 y2 y3 H locs ls hP hD hS hl h; exact absurd h (by simp [S_MD_rightOne_L7])
    | succ n7 ih7 =>
      intro y1 y2 y3 H locs ls hP hD hS hl h
      rw [S_MD_rightOne_L7] at h
      refine lv_iload_n hx hb dX12_rightOne_7 rfl (lv_at hl 3 rfl) ?_
      refine lv_aload_n hx hb dX12_rightOne_8 rfl (lv_at hl 0 rfl) ?_
      refine va_get (D := D) (ci := 12) (v := .ref (aR 1)) (C := RX12) (T := TX12) (N := 18) hx hb hts hiX12 hown hK hP 0 rfl rfl 0 (by decide) hf9 (fun _ z => z) rfl dX12_rightOne_9 ?_
      refine lv_iconst (v := 0) hx hb dX12_rightOne_12 (by decide) ?_
      refine va_iald hx hb hK hP 1 0 rfl rfl (show ¬ ((0 : Int32) < 0 ∨ 37 ≤ (0 : Int32).toNatClampNeg) by decide) dX12_rightOne_13 ?_
      refine lv_icmp_ge (tgt := 110) hx hb dX12_rightOne_14 (by decide) (fun c14 => ?_) (fun c14 => ?_)
      · have h := k_pos c14 h
        refine lv_iload_n hx hb dX12_rightOne_110 rfl (lv_at hl 1 rfl) ?_
        have h := Option.some.inj h; subst h
        exact hret _ _ _ _ hP hS dX12_rightOne_111
      · have h := k_neg c14 h
        refine lv_iconst (v := 0) hx hb dX12_rightOne_17 (by decide) ?_
        refine lv_istore (lv' := [(4, .int 0), (0, .ref (aR 0)), (1, .int y1), (2, .int y2), (3, .int y3)]) hx hb dX12_rightOne_18 hl (by decide) rfl (fun ls hl => ?_)
        refine lv_iconst (v := 0) hx hb dX12_rightOne_20 (by decide) ?_
        have B23 : ∀ (y1 : Int32) (y2 : Int32) (y3 : Int32) (n23 : Nat) (y4 : Int32) (y5 : Int32) (H : Heap) (locs : List Loc) (ls : Array Slot), va_P D vwCl (Wd40 cI aR q_hasImage q_place q_rowAt q_rowEnd q_seed q_thrown q_s) H → va_D A (Wd40 cI aR q_hasImage q_place q_rowAt q_rowEnd q_seed q_thrown q_s) → va_S A s.heap H locs → lv_has ls 6 [(0, .ref (aR 0)), (1, .int y1), (2, .int y2), (3, .int y3), (4, .int y4), (5, .int y5)] → S_MD_rightOne_L23 (S_MD_rightOne_L7 q_s n7) y1 y2 y3 q_s n23 y4 y5 = some o → W p l e rm_X12_rightOne s m ([.ref (aR 0)] : List Value).toArray below meth c H locs 0 0 Q (F0 m 23 ls []) := by
          intro y1 y2 y3
          intro n23
          induction n23 with
          | zero => intro y4 y5 H locs ls hP hD hS hl h; exact absurd h (by simp [S_MD_rightOne_L23])
          | succ n23 ih23 =>
            intro y4 y5 H locs ls hP hD hS hl h
            rw [S_MD_rightOne_L23] at h
            refine lv_iload hx hb dX12_rightOne_23 (lv_at hl 5 rfl) ?_
            refine lv_aload_n hx hb dX12_rightOne_25 rfl (lv_at hl 0 rfl) ?_
            refine va_get (D := D) (ci := 12) (v := .ref (aR 1)) (C := RX12) (T := TX12) (N := 18) hx hb hts hiX12 hown hK hP 0 rfl rfl 0 (by decide) hf9 (fun _ z => z) rfl dX12_rightOne_26 ?_
            refine lv_iconst (v := 0) hx hb dX12_rightOne_29 (by decide) ?_
            refine va_iald hx hb hK hP 1 0 rfl rfl (show ¬ ((0 : Int32) < 0 ∨ 37 ≤ (0 : Int32).toNatClampNeg) by decide) dX12_rightOne_30 ?_
            refine lv_icmp_ge (tgt := 90) hx hb dX12_rightOne_31 (by decide) (fun c31 => ?_) (fun c31 => ?_)
            · have h := k_pos c31 h
              refine lv_iload hx hb dX12_rightOne_90 (lv_at hl 4 rfl) ?_
              refine lv_iload_n hx hb dX12_rightOne_92 rfl (lv_at hl 2 rfl) ?_
              refine lv_icmp_gt (tgt := 99) hx hb dX12_rightOne_93 (by decide) (fun c93 => ?_) (fun c93 => ?_)
              · have h := k_pos c93 h
                refine lv_iload_n hx hb dX12_rightOne_99 rfl (lv_at hl 3 rfl) ?_
                refine lv_istore_n (lv' := [(1, .int y3), (0, .ref (aR 0)), (2, .int y2), (3, .int y3), (4, .int y4), (5, .int y5)]) hx hb dX12_rightOne_100 rfl hl (by decide) rfl (fun ls hl => ?_)
                refine lv_iload hx hb dX12_rightOne_101 (lv_at hl 4 rfl) ?_
                refine lv_istore_n (lv' := [(2, .int y4), (1, .int y3), (0, .ref (aR 0)), (3, .int y3), (4, .int y4), (5, .int y5)]) hx hb dX12_rightOne_103 rfl hl (by decide) rfl (fun ls hl => ?_)
                refine lv_iinc (v := (y3 + 1)) (lv' := [(3, .int (y3 + 1)), (2, .int y4), (1, .int y3), (0, .ref (aR 0)), (4, .int y4), (5, .int y5)]) hx hb dX12_rightOne_104 hl (k := 3) rfl (by first | rfl | decide) (by decide) rfl (fun ls hl => ?_)
                refine lv_goto (tgt := 7) hx hb dX12_rightOne_107 (by decide) ?_
                exact ih7 y3 y4 (y3 + 1) H locs ls hP hD hS (lv_sub hl [3, 2, 1, 0] rfl) h
              · have h := k_neg c93 h
                refine lv_goto (tgt := 104) hx hb dX12_rightOne_96 (by decide) ?_
                refine lv_iinc (v := (y3 + 1)) (lv' := [(3, .int (y3 + 1)), (0, .ref (aR 0)), (1, .int y1), (2, .int y2), (4, .int y4), (5, .int y5)]) hx hb dX12_rightOne_104 hl (k := 3) rfl (by first | rfl | decide) (by decide) rfl (fun ls hl => ?_)
                refine lv_goto (tgt := 7) hx hb dX12_rightOne_107 (by decide) ?_
                exact ih7 y1 y2 (y3 + 1) H locs ls hP hD hS (lv_sub hl [1, 2, 3, 0] rfl) h
            · have h := k_neg c31 h
              refine lv_iload hx hb dX12_rightOne_34 (lv_at hl 4 rfl) ?_
              refine lv_iload hx hb dX12_rightOne_36 (lv_at hl 5 rfl) ?_
              refine lv_iload_n hx hb dX12_rightOne_38 rfl (lv_at hl 3 rfl) ?_
              refine lv_icmp_eq (tgt := 80) hx hb dX12_rightOne_39 (by decide) (fun c39 => ?_) (fun c39 => ?_)
              · have h := k_pos c39 h
                refine lv_iconst (v := 0) hx hb dX12_rightOne_80 (by decide) ?_
                refine lv_iadd hx hb dX12_rightOne_81 ?_
                refine lv_istore (lv' := [(4, .int (y4 + 0)), (0, .ref (aR 0)), (1, .int y1), (2, .int y2), (3, .int y3), (5, .int y5)]) hx hb dX12_rightOne_82 hl (by decide) rfl (fun ls hl => ?_)
                refine lv_iinc (v := (y5 + 1)) (lv' := [(5, .int (y5 + 1)), (4, .int (y4 + 0)), (0, .ref (aR 0)), (1, .int y1), (2, .int y2), (3, .int y3)]) hx hb dX12_rightOne_84 hl (k := 5) rfl (by first | rfl | decide) (by decide) rfl (fun ls hl => ?_)
                refine lv_goto (tgt := 23) hx hb dX12_rightOne_87 (by decide) ?_
                exact ih23 (y4 + 0) (y5 + 1) H locs ls hP hD hS (lv_sub hl [2, 3, 4, 5, 1, 0] rfl) h
              · have h := k_neg c39 h
                refine lv_aload_n hx hb dX12_rightOne_42 rfl (lv_at hl 0 rfl) ?_
                refine va_get (D := D) (ci := 12) (v := .ref (aR 1)) (C := RX12) (T := TX12) (N := 18) hx hb hts hiX12 hown hK hP 0 rfl rfl 0 (by decide) hf9 (fun _ z => z) rfl dX12_rightOne_43 ?_
                refine lv_iload hx hb dX12_rightOne_46 (lv_at hl 5 rfl) ?_
                refine lv_aload_n hx hb dX12_rightOne_48 rfl (lv_at hl 0 rfl) ?_
                refine va_get (D := D) (ci := 12) (v := .ref (aR 1)) (C := RX12) (T := TX12) (N := 18) hx hb hts hiX12 hown hK hP 0 rfl rfl 0 (by decide) hf9 (fun _ z => z) rfl dX12_rightOne_49 ?_
                refine lv_iload hx hb dX12_rightOne_52 (lv_at hl 5 rfl) ?_
                refine lv_iconst (v := 2) hx hb dX12_rightOne_54 (by decide) ?_
                refine k_callS (As := [.int y5, .int 2]) (rest := [.ref (aR 1), .int y5, .ref (aR 1), .int y4]) (st1 := [.int (S_MD_of y5 2), .ref (aR 1), .int y5, .ref (aR 1), .int y4]) (ws2 := (Wd40 cI aR q_hasImage q_place q_rowAt q_rowEnd q_seed q_thrown q_s)) hx hb hml hown hts hK hN hA hP hD hS hl (c_MD_of l D cI cM cS cJ H.size y5 2 rfl) gX12_rightOne_X12_of rfl kdS_X12_of [] ⟨rfl, rfl⟩ ⟨Nat.le_of_ble_eq_true rfl, Nat.le_of_ble_eq_true rfl⟩ ⟨Nat.zero_le _, Nat.zero_le _⟩ rfl rfl (by decide +kernel) (k_rp rfl (by decide +kernel)) rfl rfl (Nat.le_of_ble_eq_true rfl) dX12_rightOne_55 rfl (fun H locs hP hD hS => ?_)
                obtain ⟨g58, h⟩ := k_guard h
                refine va_iald hx hb hK hP 1 0 rfl rfl g58 dX12_rightOne_58 ?_
                refine lv_aload_n hx hb dX12_rightOne_59 rfl (lv_at hl 0 rfl) ?_
                refine va_get (D := D) (ci := 12) (v := .ref (aR 1)) (C := RX12) (T := TX12) (N := 18) hx hb hts hiX12 hown hK hP 0 rfl rfl 0 (by decide) hf9 (fun _ z => z) rfl dX12_rightOne_60 ?_
                refine lv_iload_n hx hb dX12_rightOne_63 rfl (lv_at hl 3 rfl) ?_
                refine lv_iconst (v := 2) hx hb dX12_rightOne_64 (by decide) ?_
                refine k_callS (As := [.int y3, .int 2]) (rest := [.ref (aR 1), .int (q_s (S_MD_of y5 2).toNatClampNeg), .int y5, .ref (aR 1), .int y4]) (st1 := [.int (S_MD_of y3 2), .ref (aR 1), .int (q_s (S_MD_of y5 2).toNatClampNeg), .int y5, .ref (aR 1), .int y4]) (ws2 := (Wd40 cI aR q_hasImage q_place q_rowAt q_rowEnd q_seed q_thrown q_s)) hx hb hml hown hts hK hN hA hP hD hS hl (c_MD_of l D cI cM cS cJ H.size y3 2 rfl) gX12_rightOne_X12_of rfl kdS_X12_of [] ⟨rfl, rfl⟩ ⟨Nat.le_of_ble_eq_true rfl, Nat.le_of_ble_eq_true rfl⟩ ⟨Nat.zero_le _, Nat.zero_le _⟩ rfl rfl (by decide +kernel) (k_rp rfl (by decide +kernel)) rfl rfl (Nat.le_of_ble_eq_true rfl) dX12_rightOne_65 rfl (fun H locs hP hD hS => ?_)
                obtain ⟨g68, h⟩ := k_guard h
                refine va_iald hx hb hK hP 1 0 rfl rfl g68 dX12_rightOne_68 ?_
                refine lv_isub hx hb dX12_rightOne_69 ?_
                obtain ⟨r70, g70, h⟩ := k_bind h
                refine k_callS (As := [.ref (aR 1), .int y5, .int ((q_s (S_MD_of y5 2).toNatClampNeg) - (q_s (S_MD_of y3 2).toNatClampNeg))]) (rest := [.int y4]) (st1 := [.int r70, .int y4]) (ws2 := (Wd40 cI aR q_hasImage q_place q_rowAt q_rowEnd q_seed q_thrown q_s)) hx hb hml hown hts hK hN hA hP hD hS hl (c_MD_isUprightBy l D cI cM cS cJ (aR 1) H.size y5 ((q_s (S_MD_of y5 2).toNatClampNeg) - (q_s (S_MD_of y3 2).toNatClampNeg)) q_s g70) gX12_rightOne_X12_isUprightBy rfl kdS_X12_isUprightBy [1] ⟨rfl, rfl⟩ ⟨Nat.le_of_ble_eq_true rfl, Nat.le_of_ble_eq_true rfl⟩ ⟨Nat.zero_le _, Nat.zero_le _⟩ rfl rfl (by decide +kernel) (k_rp rfl (by decide +kernel)) rfl rfl (Nat.le_of_ble_eq_true rfl) dX12_rightOne_70 rfl (fun H locs hP hD hS => ?_)
                refine lv_if_eq (tgt := 80) hx hb dX12_rightOne_73 (by decide) (fun c73 => ?_) (fun c73 => ?_)
                · have h := k_pos c73 h
                  refine lv_iconst (v := 0) hx hb dX12_rightOne_80 (by decide) ?_
                  refine lv_iadd hx hb dX12_rightOne_81 ?_
                  refine lv_istore (lv' := [(4, .int (y4 + 0)), (0, .ref (aR 0)), (1, .int y1), (2, .int y2), (3, .int y3), (5, .int y5)]) hx hb dX12_rightOne_82 hl (by decide) rfl (fun ls hl => ?_)
                  refine lv_iinc (v := (y5 + 1)) (lv' := [(5, .int (y5 + 1)), (4, .int (y4 + 0)), (0, .ref (aR 0)), (1, .int y1), (2, .int y2), (3, .int y3)]) hx hb dX12_rightOne_84 hl (k := 5) rfl (by first | rfl | decide) (by decide) rfl (fun ls hl => ?_)
                  refine lv_goto (tgt := 23) hx hb dX12_rightOne_87 (by decide) ?_
                  exact ih23 (y4 + 0) (y5 + 1) H locs ls hP hD hS (lv_sub hl [2, 3, 4, 5, 1, 0] rfl) h
                · have h := k_neg c73 h
                  refine lv_iconst (v := 1) hx hb dX12_rightOne_76 (by decide) ?_
                  refine lv_goto (tgt := 81) hx hb dX12_rightOne_77 (by decide) ?_
                  refine lv_iadd hx hb dX12_rightOne_81 ?_
                  refine lv_istore (lv' := [(4, .int (y4 + 1)), (0, .ref (aR 0)), (1, .int y1), (2, .int y2), (3, .int y3), (5, .int y5)]) hx hb dX12_rightOne_82 hl (by decide) rfl (fun ls hl => ?_)
                  refine lv_iinc (v := (y5 + 1)) (lv' := [(5, .int (y5 + 1)), (4, .int (y4 + 1)), (0, .ref (aR 0)), (1, .int y1), (2, .int y2), (3, .int y3)]) hx hb dX12_rightOne_84 hl (k := 5) rfl (by first | rfl | decide) (by decide) rfl (fun ls hl => ?_)
                  refine lv_goto (tgt := 23) hx hb dX12_rightOne_87 (by decide) ?_
                  exact ih23 (y4 + 1) (y5 + 1) H locs ls hP hD hS (lv_sub hl [2, 3, 4, 5, 1, 0] rfl) h
        refine lv_istore (lv' := [(5, .int 0), (4, .int 0), (0, .ref (aR 0)), (1, .int y1), (2, .int y2), (3, .int y3)]) hx hb dX12_rightOne_21 hl (by decide) rfl (fun ls hl => ?_)
        exact B23 y1 y2 y3 lfu 0 0 H locs ls hP hD hS (lv_sub hl [2, 3, 4, 5, 1, 0] rfl) h
  refine lv_istore_n (lv' := [(3, .int 0), (2, .int (-1)), (1, .int (-4)), (0, .ref (aR 0))]) hx hb dX12_rightOne_6 rfl hl (by decide) rfl (fun ls hl => ?_)
  exact B7 lfu (-4) (-1) 0 s.heap [] ls hP hD hS (lv_sub hl [3, 2, 1, 0] rfl) h
