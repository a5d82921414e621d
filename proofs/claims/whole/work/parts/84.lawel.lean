/-! the law's own element: what it answers, what it keeps -/
def elemG (g : Nat → Int64) (o : Except String Int64) : Nat → Int64 := match o with
  | .ok v => vp_updL g 0 v
  | .error _ => g
abbrev rm_L_element : Room := { frames := 8, cells := 1, slots := 6, locals := 140 }
theorem kwV_X11_element : yX11_element.cls = RX11 ∧ yX11_element.cls ≠ "java/lang/invoke/MethodHandle" ∧ yX11_element.cls ≠ "java/lang/invoke/VarHandle" ∧ (parseMethodDescriptor yX11_element.desc).map (fun d => d.parameters.length) = some 2 := by decide +kernel
theorem kwV_X12_element : yX12_element.cls = RX12 ∧ yX12_element.cls ≠ "java/lang/invoke/MethodHandle" ∧ yX12_element.cls ≠ "java/lang/invoke/VarHandle" ∧ (parseMethodDescriptor yX12_element.desc).map (fun d => d.parameters.length) = some 2 := by decide +kernel
theorem kwV_X12_thrown : yX12_thrown.cls = RX12 ∧ yX12_thrown.cls ≠ "java/lang/invoke/MethodHandle" ∧ yX12_thrown.cls ≠ "java/lang/invoke/VarHandle" ∧ (parseMethodDescriptor yX12_thrown.desc).map (fun d => d.parameters.length) = some 0 := by decide +kernel
theorem kwS_L_element : yL_element.cls ≠ "java/lang/invoke/MethodHandle" ∧ yL_element.cls ≠ "java/lang/invoke/VarHandle" ∧ (parseMethodDescriptor yL_element.desc).map (fun d => d.parameters.length) = some 4 := by decide +kernel
theorem elem_out {x1 x2 d_size d_held : Int32} {d_el : Nat → Int32} {o : Except String Int64} (h : S_PL_element x1 x2 d_size d_held d_el = some o) : (∃ v, o = .ok v) ∨ o = .error "java/lang/IllegalArgumentException" ∨ o = .error "java/lang/IllegalStateException" := by
  unfold S_PL_element at h
  obtain ⟨r1, g1, h⟩ := k_bind h
  by_cases c1 : r1 = 0
  · have h := k_pos c1 h
    exact Or.inr (Or.inl (Option.some.inj h).symm)
  · have h := k_neg c1 h
    obtain ⟨-, h⟩ := k_guard h
    by_cases c2 : S_Shelf_hasRow d_held = 0
    · have h := k_pos c2 h
      exact Or.inr (Or.inr (Option.some.inj h).symm)
    · have h := k_neg c2 h
      by_cases c3 : S_Shelf_hasElement x2 d_size = 0
      · have h := k_pos c3 h
        exact Or.inr (Or.inr (Option.some.inj h).symm)
      · have h := k_neg c3 h
        obtain ⟨-, h⟩ := k_guard h
        exact Or.inl ⟨_, (Option.some.inj h).symm⟩
abbrev WdE (cI : ClassId) (cS : ClassId) (cJ : ClassId) (aV : Nat → Nat) (aN : Nat → Nat) (aS : Nat → Nat) (aT : Nat → Nat) (aW : Nat → Nat) (aK : Nat → Nat) (aH : Nat → Nat → Nat) (dn : Nat) (aO : Nat) (v_hasImage : Int32) (d_kind : Int32) (d_figure : Int32) (d_sort : Int32) (d_size : Int32) (d_held : Int32) (d_el : Nat → Int32) (g : Nat → Int64) : va_W := [((aV 0), .inr (11, [.ref (aN 0), .ref (aS 0), .ref (aT 0), .ref (aW 0), .ref (aV 1), .int v_hasImage])), ((aV 1), .inl (cS, 8, .inr (.inr (.inr (.inr (fun k => some (aH k 0))))))), (((aH dn) 0), .inr (9, [.ref ((aH dn) 1), .int d_kind, .int d_figure, .int d_sort, .int d_size, .int d_held, .ref (aK 8)])), (((aH dn) 1), .inl (cI, 100, .inl d_el)), (aO, .inl (cJ, 1, .inr (.inl g)))]
set_option maxHeartbeats 4000000 in
set_option maxRecDepth 100000 in
theorem c_L_element (l : Launch) (hfl : l.stackTraces = false) (D : va_G) (cI cM cS cJ : ClassId) (aV : Nat → Nat) (aN : Nat → Nat) (aS : Nat → Nat) (aT : Nat → Nat) (aW : Nat → Nat) (aK : Nat → Nat) (aH : Nat → Nat → Nat) (dn : Nat) (aO : Nat) (sz : Nat) (x1 : Int32) (x2 : Int32) (v_hasImage : Int32) (d_kind : Int32) (d_figure : Int32) (d_sort : Int32) (d_size : Int32) (d_held : Int32) (d_el : Nat → Int32) (g : Nat → Int64) (hdn : ¬ (x1 < 0 ∨ 8 ≤ x1.toNatClampNeg) → x1.toNatClampNeg = dn) {o : Except String Int64} (hsem : S_PL_element x1 x2 d_size d_held d_el = some o) : Met l yL_element wsL_element rm_L_element (va_Pc [.ref (aV 0), .int x1, .int x2, .ref aO] (kPreX D (kT cI cM cS cJ) (WdE cI cS cJ aV aN aS aT aW aK aH dn aO v_hasImage d_kind d_figure d_sort d_size d_held d_el g) sz)) (kQ (some (.int (elemK o))) D (WdE cI cS cJ aV aN aS aT aW aK aH dn aO v_hasImage d_kind d_figure d_sort d_size d_held d_el (elemG g o)) (va_A (WdE cI cS cJ aV aN aS aT aW aK aH dn aO v_hasImage d_kind d_figure d_sort d_size d_held d_el g) sz)) 1 6 (va_A (WdE cI cS cJ aV aN aS aT aW aK aH dn aO v_hasImage d_kind d_figure d_sort d_size d_held d_el g) sz) := by
  refine va_MetW (cc := cL_element) (maxL := 5) (ret := some .int) (hh := [(0, 9, 12, 13), (0, 9, 16, 15)]) (by decide) rfl ?_
  intro p e s m args below meth c s₁ B hml hv
  obtain ⟨rfl, ⟨hsz, hP, hK, hD0, hN⟩, hX, hT⟩ := hv
  have hx := B.exec
  have hb := B.bytes
  have hts := atoms_spec (ws := wsL_element) B.pre
  have htab := vx_table (x := yL_element) B (hts (Cond.codeWith yL_element cL_element 5 (some .int) [(0, 9, 12, 13), (0, 9, 16, 15)]) List.mem_cons_self)
  have hown : s.vm.findClass RL = some m.cls := findClass_of_methodNamed B.named
  subst hsz
  have hD := hD0.self (sz := s.heap.size)
  generalize hAe : va_A (WdE cI cS cJ aV aN aS aT aW aK aH dn aO v_hasImage d_kind d_figure d_sort d_size d_held d_el g) s.heap.size = A at hD hX ⊢
  have hA : ∀ q : Nat, s.heap.size ≤ q → A q := fun q h => by rw [← hAe]; exact Or.inr h
  have hS : va_S A s.heap s.heap [] := va_S.rf
  have hl := lv_entry [.ref (aV 0), .int x1, .int x2, .ref aO] (n := 5) (Nat.le_of_ble_eq_true rfl)
  rw [lg_entry_eq]
  generalize (lg_sl [.ref (aV 0), .int x1, .int x2, .ref aO] ++ List.replicate (5 - (lg_sl [.ref (aV 0), .int x1, .int x2, .ref aO]).length) Slot.unset).toArray = ls at hl ⊢
  replace hl : lv_has ls 5 [(0, .ref (aV 0)), (1, .int x1), (2, .int x2), (3, .ref aO)] := hl
  have fin : ∀ (H : Heap) (locs : List Loc) (pc : Nat) (ls : Array Slot), va_P D vwCl (WdE cI cS cJ aV aN aS aT aW aK aH dn aO v_hasImage d_kind d_figure d_sort d_size d_held d_el (elemG g o)) H → va_S A s.heap H locs → decode cL_element pc = .ok (.ireturn, 1) → W p l e rm_L_element s m [.ref (aV 0), .int x1, .int x2, .ref aO].toArray below meth c H locs 1 6 (MQ below (kQ (some (.int (elemK o))) D (WdE cI cS cJ aV aN aS aT aW aK aH dn aO v_hasImage d_kind d_figure d_sort d_size d_held d_el (elemG g o)) A) [.ref (aV 0), .int x1, .int x2, .ref aO].toArray s 1 6 A) (F0 m pc ls [.int (elemK o)]) := fun H locs pc ls h1 h2 hd => W.iret hx hb (B.returns.trans rfl) (fun t ht hW => ⟨⟨rfl, by rw [ht]; exact h1⟩, h2.F ht⟩) h2.2.2 hd B.notSynchronized
  refine lv_aload_n hx hb dL_element_0 rfl (lv_at hl 3 rfl) ?_
  refine lv_iconst (v := 0) hx hb dL_element_1 (by decide) ?_
  refine lv_aload_n hx hb dL_element_2 rfl (lv_at hl 0 rfl) ?_
  refine lv_iload_n hx hb dL_element_3 rfl (lv_at hl 1 rfl) ?_
  refine lv_iload_n hx hb dL_element_4 rfl (lv_at hl 2 rfl) ?_
  refine k_callVX (As := [.int x1, .int x2]) (rest := [.int 0, .ref aO]) (r := kX64 o) hx hb hml hown hts hK hN hX hT hA hP hD hS hl (x_PL_element l hfl D cI cM cS cJ aV aN aS aT aW aK aH dn s.heap.size x1 x2 v_hasImage d_kind d_figure d_sort d_size d_held d_el hdn hsem) gL_element_X11_element rfl kwV_X11_element 0 11 rfl rfl rfl [0, 1, 2, 3] ⟨rfl, rfl⟩ ⟨(Nat.le_of_ble_eq_true rfl), (Nat.le_of_ble_eq_true rfl)⟩ ⟨(Nat.le_of_ble_eq_true rfl), (Nat.le_of_ble_eq_true rfl)⟩ rfl (by decide +kernel) (k_rp rfl (by decide +kernel)) rfl rfl (Nat.le_of_ble_eq_true rfl) dL_element_5 (fun E ce q9 H locs hE hP hS hq1 hq2 hq3 => ?_) (fun v H locs hv hP hS => ?_)
  · rcases elem_out hsem with ⟨v, rfl⟩ | rfl | rfl
    · cases hE
    · cases hE
      refine vx_catch (E := "java/lang/IllegalArgumentException") (name := "java/lang/IllegalArgumentException") hown [] ⟨0, 9, 12, 13⟩ [⟨0, 9, 16, 15⟩] htab (fun _ z => absurd z List.not_mem_nil) rfl (by decide) (hts _ (List.mem_of_getElem? (i := 1) rfl)) (va_Nw.use rfl (hT.1 _ (List.mem_of_getElem? (i := 1) rfl))) hq1 hq2 hq3 ?_
      refine lv_astore (lv' := [(4, .ref q9), (0, .ref (aV 0)), (1, .int x1), (2, .int x2), (3, .ref aO)]) hx hb dL_element_12 hl (by decide) rfl (fun ls hl => ?_)
      refine lv_iconst (v := 1) hx hb dL_element_14 (by decide) ?_
      exact fin _ _ _ _ hP hS dL_element_15
    · cases hE
      refine vx_catch (E := "java/lang/IllegalStateException") (name := "java/lang/IllegalStateException") hown [⟨0, 9, 12, 13⟩] ⟨0, 9, 16, 15⟩ [] htab (List.forall_mem_cons.mpr ⟨Or.inr ⟨by decide, "java/lang/IllegalArgumentException", (hts _ (List.mem_of_getElem? (i := 1) rfl)), hT.2.2.2.2.1⟩, (fun _ z => absurd z List.not_mem_nil)⟩) rfl (by decide) (hts _ (List.mem_of_getElem? (i := 2) rfl)) (va_Nw.use rfl (hT.1 _ (List.mem_of_getElem? (i := 0) rfl))) hq1 hq2 hq3 ?_
      refine lv_astore (lv' := [(4, .ref q9), (0, .ref (aV 0)), (1, .int x1), (2, .int x2), (3, .ref aO)]) hx hb dL_element_16 hl (by decide) rfl (fun ls hl => ?_)
      refine lv_iconst (v := 2) hx hb dL_element_18 (by decide) ?_
      exact fin _ _ _ _ hP hS dL_element_19
  · rcases elem_out hsem with ⟨v, rfl⟩ | rfl | rfl
    · cases hv
      refine va_last hx hb hK hP hD hS 4 3 rfl rfl (by unfold vp_in; decide) dL_element_8 (fun H locs hP hD hS => ?_)
      refine lv_goto (tgt := 20) hx hb dL_element_9 (by decide) ?_
      refine lv_iconst (v := 0) hx hb dL_element_20 (by decide) ?_
      exact fin _ _ _ _ hP hS dL_element_21
    · cases hv
    · cases hv
