section
variable {p : Program} {l : Launch} {e : Env} {R : Room} {s : State} {m : MethodId} {args : Array Value} {below : List Frame} {meth : Method} {c : Code} {H : Heap} {locs : List Loc} {cells slots : Nat}
theorem vx_callVU {T : State} {locs : List Loc} {cells slots : Nat} (X : Stand p l e R s m args below meth c T locs cells slots) (hexec : p.tables.exec = Jvm.exec) {own C owner : String} {index : Nat} {x y : MethodName} {bytes : ByteArray} {maxL : Nat} {ret : Option FieldType}
    (hown : s.vm.findClass own = some m.cls) (hlink : (Cond.methodLink own index x).before args s = true) (hsame : (Cond.sameMethod x.cls owner x.name x.desc).before args s = true)
    (hd0 : va_Decl s ⟨owner, x.name, x.desc⟩) (howner : owner ≠ "java/lang/invoke/MethodHandle" ∧ owner ≠ "java/lang/invoke/VarHandle")
    (hsel : (Cond.selects C x y).before args s = true) (hinst : (Cond.instanceMethod y).before args s = true) (hcode : (Cond.code y bytes maxL ret).before args s = true)
    {W : Nat} {Pre : Pt → Array Value → Prop} {Post : Pt → Array Value → Option Value → Pt → Prop} {PostX : Pt → Array Value → Addr → Pt → Prop} (hK : vx_Back l R p e below s args y 3 W Pre Post PostX)
    {b : Addr} {cellB : Cell} (hcell : T.heap[b]? = some cellB) (hobj : cellB.vm.isStatics = false) (hcls : s.vm.findClass C = some cellB.cls)
    {g : JFrame} (hg : g.method = m) (hsize : g.locals.size = c.maxLocals) {argsL rest : List Value} (hlen : ∀ sig, parseMethodDescriptor x.desc = some sig → argsL.length = sig.parameters.length)
    (hstack : g.stack = argsL.reverse ++ .ref b :: rest) (hW : 2 * g.monitorRoom + (rest.map fun v => v.category).sum ≤ W) (hdg : decode c.code g.pc = .ok (.invokevirtual index, 3))
    (hpre : ∀ vm₁, s.WarmedH vm₁ → Pre ⟨T.setVm vm₁, locs, cells, slots⟩ (Value.ref b :: argsL).toArray) :
    (∃ (v : Option Value) (vm₁ : Vm) (B : Pt), s.WarmedH vm₁ ∧ Stand p l e R s m args below meth c B.U B.locs B.cells B.slots ∧ Post ⟨T.setVm vm₁, locs, cells, slots⟩ (Value.ref b :: argsL).toArray v B ∧
      ∀ target, Steps p.tables e below (B.U.setTop { g with pc := g.pc + 3, stack := v.toList ++ rest }) target → Steps p.tables e below (T.setTop g) target) ∨
    (∃ (q : Addr) (vm₁ : Vm) (B : Pt), s.WarmedH vm₁ ∧ Stand p l e R s m args below meth c B.U B.locs B.cells B.slots ∧ PostX ⟨T.setVm vm₁, locs, cells, slots⟩ (Value.ref b :: argsL).toArray q B ∧
      Steps p.tables e below (T.setTop g) ((B.U.setTop { g with stack := rest }).pushFrame (.throwing q))) := by
  obtain ⟨r0, r, hn, hrm, hstR, hsigR⟩ := hd0
  obtain ⟨cn, ck, r1, hcn, hck, hni, hf, hn1⟩ := Cond.sameMethod_found hsame
  cases hn.symm.trans hn1
  obtain ⟨mk, methM, hnamed, hmethM, -, habM⟩ := Cond.instanceMethod_spec hinst
  obtain ⟨c2, r2, m2, q1, q2, q3, q4, kP, hkP, hkPi⟩ := Cond.selects_spec hsel
  cases hcls.symm.trans q1
  cases hf.symm.trans q2
  cases hnamed.symm.trans q3
  have hselP : selectMethod e.platform s.vm cellB.cls r0 = .method mk := by rw [Launch.admits_selectMethod X.admits]; exact q4
  obtain ⟨vm₁, X₁, hstep₁⟩ := X.invokevirtualUp hexec hown hlink hsame howner hn hrm hstR (a := b) (cell := cellB) hcell
    (fun z h => by rw [h] at hobj; cases hobj) hselP hmethM habM hkP hkPi (g := g) hg (argsL := argsL) (rest := rest) (hlen _ hsigR) hstack hdg
  rcases hK m meth c ⟨T.setVm vm₁, locs, cells, slots⟩ { g with stack := rest } (.invokevirtual index) mk (Value.ref b :: argsL).toArray X₁ hg hsize hdg hW (X₁.named hnamed) (hpre vm₁ X₁.warmed) with ⟨v, B, X', hpost, hsteps⟩ | ⟨q, B, X', hpost, hsteps⟩
  · exact Or.inl ⟨v, vm₁, B, X₁.warmed, X', hpost, fun target h => hstep₁ _ fun acts => by rw [doInvoke_state]; exact hsteps.trans h⟩
  · exact Or.inr ⟨q, vm₁, B, X₁.warmed, X', hpost, hstep₁ _ fun acts => by rw [doInvoke_state]; exact hsteps⟩
theorem vx_runU {x y : MethodName} {bytes cc : ByteArray} {maxL nL mc ms n index : Nat} {ret : Option FieldType} {ws : List Cond} {rm : Room} {Pc : Array Value → State → Prop} {Qc : Array Value → State → Outcome → State → Prop} {XC : String → State → State → Prop} {free : Addr → Prop} {Ts : List Cond} {own C owner : String} {b : Addr} {As rest : List Value} {g : JFrame}
    (S : CallFix p m c cc nL s args Ts own) (hM : vx_Met l y ws rm Pc Qc XC mc ms free) (cw : va_CU R s args own C owner index x y bytes maxL ret ws rm mc ms n) (hp : PreV s H C b Pc As)
    (hg : g.method = m) (hn : As.length = n) (hsize : g.locals.size = nL) (hstack : g.stack = As.reverse ++ .ref b :: rest) (hW : 2 * g.monitorRoom + (rest.map fun v => v.category).sum ≤ 8) (hdg : decode cc g.pc = .ok (.invokevirtual index, 3)) (hf : cells + mc ≤ R.cells ∧ slots + ms ≤ R.slots) :
    vx_Run p l e R s m args below meth c H locs cells slots mc ms g rest (Qc (Value.ref b :: As).toArray) XC free := by
  obtain ⟨hrc, hrs, hfr, hlo, hws, hcw⟩ := cw.back
  have hini := cw.init
  have hK : vx_Back l R p e below s args y 3 8 (PreOf R mc ms Pc) (PostOf Qc mc ms free) (vx_Post XC mc ms free) := vx_back (bytes := bytes) (maxL := maxL) (ret := ret) hM hp.1 hrc hrs hfr hlo hws hcw (fun a' U hW => word_at hW (Or.inl (by first | rfl | simp [Cond.onTables, Cond.keeps, Cond.steady])) hini)
  obtain ⟨hx, hb, hml, ho, -⟩ := S
  obtain ⟨-, ⟨cellB, hcB, hoB, hclB⟩, hPc⟩ := hp
  intro T hT X
  rcases vx_callVU X hx (C := C) (owner := owner) (bytes := bytes) (maxL := maxL) (ret := ret) ho cw.link cw.same cw.decl cw.notMH cw.sel cw.inst cw.code hK (by rw [hT]; exact hcB) hoB hclB hg (hsize.trans hml.symm) (argsL := As) (rest := rest) (fun sig h => hn.trans (cw.len sig h)) hstack hW (by rw [hb]; exact hdg)
    (fun vm₁ hW₁ => ⟨hf.1, hf.2, hPc (T.setVm vm₁) hT hW₁⟩) with ⟨v, vm₁, ⟨U', l2, c2, s2⟩, hW₁, X', ⟨g', mk, t, L, e1, e2, hq, h1, hL, h2, h3⟩, st⟩ | ⟨q, vm₁, ⟨U', l2, c2, s2⟩, hW₁, X', ⟨g', mk, t, L, E, ce, e1, e2, hq, hce, hcv, hcl, h1, hL, h2, h3⟩, st⟩
  · dsimp only [Pt.U, Pt.locs, Pt.cells, Pt.slots] at X' e1 e2 h1 h2 h3 st
    subst h1; subst h2; subst h3
    exact Or.inl ⟨v, (T.setVm vm₁).calling g' mk (Value.ref b :: As).toArray, t, U', L, hT, X', hL, e1, e2, hq, st⟩
  · dsimp only [Pt.U, Pt.locs, Pt.cells, Pt.slots] at X' e1 e2 h1 h2 h3 st hcl
    subst h1; subst h2; subst h3
    exact Or.inr ⟨q, (T.setVm vm₁).calling g' mk (Value.ref b :: As).toArray, t, U', L, E, ce, hT, X', hL, e1, e2, hq, hce, hcv, vx_cls hW₁ hcl, st⟩
end
/-! methods that throw: what they stand on, their contracts, their calls -/
def kErr : List String := ["java/lang/IllegalStateException", "java/lang/IllegalArgumentException", "java/lang/UnsupportedOperationException"]
def kTexts : List (String × Nat × String) := [(RX4, 15, "a man's failure"), (RX0, 13, "a banker's failure"), (RX10, 13, "a swindler's failure"), (RX11, 284, "no such shelf"), (RX11, 294, "no such element")]
def kDecls : List MethodName := [Bundle.initS "java/lang/RuntimeException", Bundle.initS "java/lang/Exception", Bundle.initS Bundle.tN]
def kXs (A : Nat → Prop) (U : State) (H : Heap) : Prop := vx_Zq Bundle.tN "UNASSIGNED_STACK" Bundle.steD A U H ∧ vx_Zq Bundle.tN "SUPPRESSED_SENTINEL" Bundle.listD A U H
def kXt (U : State) : Prop := (∀ E ∈ kErr, va_Nw (.castable E E) U) ∧ (∀ q ∈ kTexts, ∃ sa : Nat, vk_R q.1 q.2.1 q.2.2 sa U) ∧ va_Nc "java/lang/IllegalArgumentException" "java/lang/UnsupportedOperationException" U ∧ va_Nc "java/lang/IllegalStateException" "java/lang/UnsupportedOperationException" U ∧ va_Nc "java/lang/IllegalStateException" "java/lang/IllegalArgumentException" U ∧ ∀ x ∈ kDecls, va_Nw (.declares x) U
theorem kXt.warm {s U : State} (hW : s.WarmedH U.vm) (h : kXt s) : kXt U := ⟨fun E hE => va_Nw.warmC hW (h.1 E hE), fun q hq => (h.2.1 q hq).elim fun sa z => ⟨sa, vk_R.warm hW z⟩, va_Nc.moved hW.alike h.2.2.1, va_Nc.moved hW.alike h.2.2.2.1, va_Nc.moved hW.alike h.2.2.2.2.1, fun x hx => va_Nw.warmD hW (h.2.2.2.2.2 x hx)⟩
theorem kXt.same {u U : State} (hv : u.vm = U.vm) (h : kXt u) : kXt U := ⟨fun E hE => va_Nw.same rfl hv (h.1 E hE), fun q hq => (h.2.1 q hq).elim fun sa z => ⟨sa, vk_R.same hv.symm z⟩, va_Nc.moved (by rw [hv]; exact Vm.Alike.refl U.vm) h.2.2.1, va_Nc.moved (by rw [hv]; exact Vm.Alike.refl U.vm) h.2.2.2.1, va_Nc.moved (by rw [hv]; exact Vm.Alike.refl U.vm) h.2.2.2.2.1, fun x hx => va_Nw.same rfl hv (h.2.2.2.2.2 x hx)⟩
def kPreX (D : va_G) (ty : List (ClassId × FieldType)) (ws : va_W) (sz : Nat) : State → Prop := fun U => kPre D ty ws sz U ∧ kXs (va_A ws sz) U U.heap ∧ kXt U
def kQX (D : va_G) (ws : va_W) (r : Except String (Option Value)) (A : Nat → Prop) : Array Value → State → Outcome → State → Prop := fun _ st oc t => ∃ v, r = .ok v ∧ oc = .returned v ∧ va_P D vwCl ws t.heap ∧ va_F A st t
def kXX (D : va_G) (ws : va_W) (r : Except String (Option Value)) (A : Nat → Prop) : String → State → State → Prop := fun E st t => r = .error E ∧ va_P D vwCl ws t.heap ∧ va_F A st t
/-- a contract: in the world W the method answers or throws as r says, and the world stays -/
abbrev kMetX (l : Launch) (y : MethodName) (wy : List Cond) (rm : Room) (As : List Value) (D : va_G) (ty : List (ClassId × FieldType)) (W : va_W) (sz : Nat) (r : Except String (Option Value)) : Prop :=
  vx_Met l y wy rm (va_Pc As (kPreX D ty W sz)) (kQX D W r (va_A W sz)) (kXX D W r (va_A W sz)) 1 6 (va_A W sz)
theorem k_blindX {As : List Value} {D : va_G} {ty : List (ClassId × FieldType)} {ws : va_W} {sz : Nat} : FrameBlind (va_Pc As (kPreX D ty ws sz)) := fun a U g mk q => by
  obtain ⟨q1, ⟨q2, q3, q4, q5, q6⟩, ⟨q7, q8⟩, q9⟩ := q
  exact ⟨q1, ⟨q2, q3, va_K.moved (u := U) (U := U.calling g mk a) (Vm.Alike.refl U.vm) q4, q5, kN.same (u := U) (U := U.calling g mk a) rfl q6⟩, ⟨vx_Zq.moved (u := U) (U := U.calling g mk a) (Vm.Alike.refl U.vm) q7, vx_Zq.moved (u := U) (U := U.calling g mk a) (Vm.Alike.refl U.vm) q8⟩, kXt.same (u := U) (U := U.calling g mk a) rfl q9⟩
section KX
variable {p : Program} {l : Launch} {e : Env} {R : Room} {s : State} {m : MethodId} {args : Array Value} {below : List Frame} {meth : Method} {c : Code} {H : Heap} {locs : List Loc} {cells slots : Nat} {Q : State → Prop}
variable {cc : ByteArray} {pc : Nat} {ls : Array Slot} {rest st0 st1 : List Value} {D : va_G} {A : Nat → Prop} {ty : List (ClassId × FieldType)} {ws : va_W} {a : Array Value}
/-- the statics lie where they lay -/
theorem kXs.kept (hX : kXs A s s.heap) (hS : va_S A s.heap H locs) : kXs A s H := ⟨vx_Zq.kept hX.1 (fun q h1 h2 => hS.2.1 q h1 h2), vx_Zq.kept hX.2 (fun q h1 h2 => hS.2.1 q h1 h2)⟩
theorem k_preX {isC : List Nat} {wc : va_W} {As : List Value} {b q0 ci : Nat} {fs : List Value} {C : String} {q : vw_C} (hK : va_K D vwCl ty s) (hN : kN s) (hX : kXs A s s.heap) (hT : kXt s) (hP : va_P D vwCl ws H) (hD : va_D A ws) (hS : va_S A s.heap H locs) (hA : ∀ q, s.heap.size ≤ q → A q) (h1 : isC.map (fun i => ws[i]?) = wc.map some) (h3 : va_nd isC = true) (he : wc[q0]? = some (b, .inr (ci, fs))) (hc : vwCl[ci]? = some q) (hC : q.1 = C) : PreV s H C b (va_Pc (.ref b :: As) (kPreX D ty wc H.size)) As := by
  subst hC
  have hF := va_free (wc := wc) hD hS hA isC h1
  have hX1 := kXs.kept hX hS
  refine ⟨k_blindX, va_recv hK (hP.sub isC (k_filt h1)) hc he, fun U hU hW => ⟨rfl, ⟨by rw [hU], by rw [hU]; exact hP.sub isC (k_filt h1), va_K.moved hW.alike hK, (hD.sub isC h3 h1).weaken (fun _ _ _ _ => trivial), kN.warm hW hN⟩, ?_, kXt.warm hW hT⟩⟩
  rw [hU]
  exact ⟨(vx_Zq.moved hW.alike hX1.1).narrow hF, (vx_Zq.moved hW.alike hX1.2).narrow hF⟩
theorem k_goX {wc : va_W} {isC : List Nat} {r : Except String (Option Value)}
    (hr : vx_Run p l e R s m args below meth c H locs cells slots 1 6 (F0 m pc ls st0) rest (kQX D wc r (va_A wc H.size) a) (kXX D wc r (va_A wc H.size)) (va_A wc H.size))
    (hP : va_P D vwCl ws H) (hD : va_D A ws) (hS : va_S A s.heap H locs) (hA : ∀ q, s.heap.size ≤ q → A q)
    (h1 : isC.map (fun i => ws[i]?) = wc.map some) (h3 : va_nd isC = true) (h4 : k_repl ws isC wc = ws)
    (kx : ∀ (E : String) (ce : Cell) (q9 : Addr) (H1 : Heap) (locs1 : List Loc), r = .error E → va_P D vwCl ws H1 → va_S A s.heap H1 locs1 → H1[q9]? = some ce → ce.vm = .none → s.vm.findClass E = some ce.cls → vx_W p l e R s m args below meth c H1 locs1 (cells + 1) (slots + 6) Q (F0 m pc ls rest) q9)
    (kk : ∀ (v : Option Value) (H1 : Heap) (locs1 : List Loc), r = .ok v → va_P D vwCl ws H1 → va_S A s.heap H1 locs1 → W p l e R s m args below meth c H1 locs1 (cells + 1) (slots + 6) Q (F0 m (pc + 3) ls (v.toList ++ rest))) : W p l e R s m args below meth c H locs cells slots Q (F0 m pc ls st0) := by
  have hF := va_free (wc := wc) hD hS hA isC h1
  intro T hT X
  rcases hr T hT X with ⟨v, st₀, t, T', L, h0, X', hL, e1, e2, ⟨v', hv1, hv2, hb, hz, hk⟩, st⟩ | ⟨q, st₀, t, T', L, E, ce, h0, X', hL, e1, e2, ⟨hE, hb, hz, hk⟩, hce, hcv, hcl, st⟩
  · cases hv2
    rw [h0] at hz hk
    obtain ⟨t2, a1, b1⟩ := kk v T'.heap (locs ++ L) hv1 (by rw [e1]; have z := k_replP hP hD h1 rfl h3 hk hb; rw [h4] at z; exact z)
      ⟨Nat.le_trans hS.1 (by rw [e1]; exact hz), fun q g1 g2 => by rw [e1, hk q (Nat.lt_of_lt_of_le g1 hS.1) (fun z => g2 (hF q z))]; exact hS.2.1 q g1 g2, fun q hq => by
        rcases List.mem_append.mp hq with h | h
        · exact hS.2.2 q h
        · exact hF _ (hL q h)⟩ T' rfl X'
    exact ⟨t2, st t2 a1, b1⟩
  · rw [h0] at hz hk
    obtain ⟨t2, a1, b1⟩ := kx E ce q T'.heap (locs ++ L) hE (by rw [e1]; have z := k_replP hP hD h1 rfl h3 hk hb; rw [h4] at z; exact z)
      ⟨Nat.le_trans hS.1 (by rw [e1]; exact hz), fun q g1 g2 => by rw [e1, hk q (Nat.lt_of_lt_of_le g1 hS.1) (fun z => g2 (hF q z))]; exact hS.2.1 q g1 g2, fun q hq => by
        rcases List.mem_append.mp hq with h | h
        · exact hS.2.2 q h
        · exact hF _ (hL q h)⟩ (by rw [e1]; exact hce) hcv hcl T' rfl X'
    exact ⟨t2, st.trans a1, b1⟩
theorem k_callVX {own : String} {Ts wy wy' : List Cond} {nL maxL index n : Nat} {lv : List (Nat × Value)} {y : MethodName} {bytes : ByteArray} {ret : Option FieldType} {rm : Room} {As : List Value} {wc : va_W} {r : Except String (Option Value)} {C : String} {b : Nat} {q : vw_C} {fs : List Value} (hx : p.tables.exec = Jvm.exec) (hb : c.code = cc) (hml : c.maxLocals = nL) (hown : s.vm.findClass own = some m.cls) (hts : ∀ w ∈ Ts, w.before args s = true) (hK : va_K D vwCl ty s) (hN : kN s) (hX : kXs A s s.heap) (hT : kXt s) (hA : ∀ q, s.heap.size ≤ q → A q) (hP : va_P D vwCl ws H) (hD : va_D A ws) (hS : va_S A s.heap H locs) (hl : lv_has ls nL lv)
    (hM : kMetX l y wy rm (.ref b :: As) D ty wc H.size r) (hG : GoodIn Ts (wsV own index C y wy)) (hw : wy = Cond.code y bytes maxL ret :: wy') (hd : y.cls = C ∧ y.cls ≠ "java/lang/invoke/MethodHandle" ∧ y.cls ≠ "java/lang/invoke/VarHandle" ∧ (parseMethodDescriptor y.desc).map (fun d => d.parameters.length) = some n) (q0 ci : Nat) (he : wc[q0]? = some (b, .inr (ci, fs))) (hc : vwCl[ci]? = some q) (hC : q.1 = C)
    (isC : List Nat) (hrm : rm.cells = 1 ∧ rm.slots = 6) (hR : rm.frames + 1 ≤ R.frames ∧ 8 + (maxL + 11) + rm.locals ≤ R.locals) (hcs : cells + 1 ≤ R.cells ∧ slots + 6 ≤ R.slots) (h1 : isC.map (fun i => ws[i]?) = wc.map some) (h3 : va_nd isC = true) (h4 : k_repl ws isC wc = ws) (hn : As.length = n) (hst : st0 = As.reverse ++ .ref b :: rest) (hW : (rest.map fun v => v.category).sum ≤ 8) (hdg : decode cc pc = .ok (.invokevirtual index, 3))
    (kx : ∀ (E : String) (ce : Cell) (q9 : Addr) (H1 : Heap) (locs1 : List Loc), r = .error E → va_P D vwCl ws H1 → va_S A s.heap H1 locs1 → H1[q9]? = some ce → ce.vm = .none → s.vm.findClass E = some ce.cls → vx_W p l e R s m args below meth c H1 locs1 (cells + 1) (slots + 6) Q (F0 m pc ls rest) q9)
    (kk : ∀ (v : Option Value) (H1 : Heap) (locs1 : List Loc), r = .ok v → va_P D vwCl ws H1 → va_S A s.heap H1 locs1 → W p l e R s m args below meth c H1 locs1 (cells + 1) (slots + 6) Q (F0 m (pc + 3) ls (v.toList ++ rest))) : W p l e R s m args below meth c H locs cells slots Q (F0 m pc ls st0) :=
  k_goX (vx_runV (As := As) (rest := rest) ⟨hx, hb, hml, hown, hts⟩ hM (cwV n hts hG hw hrm.1 hrm.2 hd hR) (k_preX hK hN hX hT hP hD hS hA h1 h3 he hc hC) rfl hn hl.1 hst (lv_room hW) hdg hcs) hP hD hS hA h1 h3 h4 kx kk
theorem k_callUX {own : String} {Ts wy : List Cond} {nL maxL index n : Nat} {lv : List (Nat × Value)} {y : MethodName} {bytes : ByteArray} {ret : Option FieldType} {rm : Room} {As : List Value} {wc : va_W} {r : Except String (Option Value)} {C owner : String} {x : MethodName} {b : Nat} {q : vw_C} {fs : List Value} (hx : p.tables.exec = Jvm.exec) (hb : c.code = cc) (hml : c.maxLocals = nL) (hown : s.vm.findClass own = some m.cls) (hts : ∀ w ∈ Ts, w.before args s = true) (hK : va_K D vwCl ty s) (hN : kN s) (hX : kXs A s s.heap) (hT : kXt s) (hA : ∀ q, s.heap.size ≤ q → A q) (hP : va_P D vwCl ws H) (hD : va_D A ws) (hS : va_S A s.heap H locs) (hl : lv_has ls nL lv)
    (hM : kMetX l y wy rm (.ref b :: As) D ty wc H.size r) (cw : va_CU R s args own C owner index x y bytes maxL ret wy rm 1 6 n) (q0 ci : Nat) (he : wc[q0]? = some (b, .inr (ci, fs))) (hc : vwCl[ci]? = some q) (hC : q.1 = C)
    (isC : List Nat) (hcs : cells + 1 ≤ R.cells ∧ slots + 6 ≤ R.slots) (h1 : isC.map (fun i => ws[i]?) = wc.map some) (h3 : va_nd isC = true) (h4 : k_repl ws isC wc = ws) (hn : As.length = n) (hst : st0 = As.reverse ++ .ref b :: rest) (hW : (rest.map fun v => v.category).sum ≤ 8) (hdg : decode cc pc = .ok (.invokevirtual index, 3))
    (kx : ∀ (E : String) (ce : Cell) (q9 : Addr) (H1 : Heap) (locs1 : List Loc), r = .error E → va_P D vwCl ws H1 → va_S A s.heap H1 locs1 → H1[q9]? = some ce → ce.vm = .none → s.vm.findClass E = some ce.cls → vx_W p l e R s m args below meth c H1 locs1 (cells + 1) (slots + 6) Q (F0 m pc ls rest) q9)
    (kk : ∀ (v : Option Value) (H1 : Heap) (locs1 : List Loc), r = .ok v → va_P D vwCl ws H1 → va_S A s.heap H1 locs1 → W p l e R s m args below meth c H1 locs1 (cells + 1) (slots + 6) Q (F0 m (pc + 3) ls (v.toList ++ rest))) : W p l e R s m args below meth c H locs cells slots Q (F0 m pc ls st0) :=
  k_goX (vx_runU (As := As) (rest := rest) ⟨hx, hb, hml, hown, hts⟩ hM cw (k_preX hK hN hX hT hP hD hS hA h1 h3 he hc hC) rfl hn hl.1 hst (lv_room hW) hdg hcs) hP hD hS hA h1 h3 h4 kx kk
end KX
theorem k_metXI {l : Launch} {y : MethodName} {wy wy' : List Cond} {bytes : ByteArray} {maxL : Nat} {ret : Option FieldType} {hh : List (Nat × Nat × Nat × Nat)} {rm : Room} {As : List Value} {D : va_G} {ty : List (ClassId × FieldType)} {W0 : va_W} {sz : Nat} {v : Int32} (hy : plainName y.cls = true) (hw : wy = Cond.codeWith y bytes maxL ret hh :: wy') (hret : ret = some .int) (hlen : (lg_sl As).length ≤ maxL)
    (body : ∀ (p : Program) (e : Env) (s : State) (m : MethodId) (below : List Frame) (meth : Method) (c : Code) (ls : Array Slot) (Q : State → Prop) (A : Nat → Prop), p.tables.exec = Jvm.exec → c.code = bytes → c.maxLocals = maxL → c.exceptionTable.toList = tableOf hh → (∀ w ∈ wy, w.before As.toArray s = true) → s.vm.findClass y.cls = some m.cls → va_K D vwCl ty s → kN s → kXs A s s.heap → kXt s → (∀ q, s.heap.size ≤ q → A q) → va_P D vwCl W0 s.heap → va_D A W0 → va_S A s.heap s.heap [] → lv_has ls maxL (lv_args 0 As) → s.heap.size = sz → meth.name = y.name →
      (∀ (H : Heap) (locs : List Loc) (pc : Nat) (ls : Array Slot), va_P D vwCl W0 H → va_S A s.heap H locs → decode bytes pc = .ok (.ireturn, 1) → W p l e rm s m As.toArray below meth c H locs 1 6 Q (F0 m pc ls [.int v])) →
      W p l e rm s m As.toArray below meth c s.heap [] 0 0 Q (F0 m 0 ls [])) : kMetX l y wy rm As D ty W0 sz (.ok (some (.int v))) := by
  refine vx_ofWH (cc := bytes) (maxL := maxL) (ret := ret) (hh := hh) hy hw ?_
  intro p e s m args below meth c s₁ B hml hv
  obtain ⟨rfl, ⟨hsz, hP, hK, hD0, hN⟩, hX, hT⟩ := hv
  have hx := B.exec
  have hb := B.bytes
  have hts := atoms_spec (ws := wy) B.pre
  have htab := vx_table (x := y) B (hts (Cond.codeWith y bytes maxL ret hh) (by rw [hw]; exact List.mem_cons_self))
  have hown : s.vm.findClass y.cls = some m.cls := findClass_of_methodNamed B.named
  have hnm : meth.name = y.name := (name_of_methodNamed B.named B.method).1
  subst hsz
  have hD := hD0.self (sz := s.heap.size)
  generalize hAe : va_A W0 s.heap.size = A at hD hX ⊢
  have hA : ∀ q : Nat, s.heap.size ≤ q → A q := fun q h => by rw [← hAe]; exact Or.inr h
  have hl := lv_entry As (n := maxL) hlen
  rw [lg_entry_eq]
  generalize (lg_sl As ++ List.replicate (maxL - (lg_sl As).length) Slot.unset).toArray = ls at hl ⊢
  refine body p e s m below meth c ls _ A hx hb hml htab hts hown hK hN hX hT hA hP hD va_S.rf hl rfl hnm ?_
  · intro H locs pc ls h1 h2 hd
    exact vx_ret (W.iret hx hb (B.returns.trans hret) (fun t ht hW => ⟨_, rfl, rfl, by rw [ht]; exact h1, h2.F ht⟩) h2.2.2 hd B.notSynchronized)
abbrev rm_X4_failsBy : Room := { frames := 6, cells := 1, slots := 6, locals := 82 }
def S_Man_failsBy (x1 : Int32) : Except String (Option Value) := if x1 = 0 then .ok none else .error "java/lang/IllegalStateException"
set_option maxHeartbeats 4000000 in
set_option maxRecDepth 100000 in
theorem x_Man_failsBy (l : Launch) (hfl : l.stackTraces = false) (D : va_G) (cI cM cS cJ : ClassId) (h0 ci sz : Nat) (x1 : Int32) : kMetX l yX4_failsBy wsX4_failsBy rm_X4_failsBy [.ref h0, .int x1] D (kT cI cM cS cJ) [(h0, .inr (ci, []))] sz (S_Man_failsBy x1) := by
  refine vx_ofW (cc := cX4_failsBy) (maxL := 2) (ret := none) (by decide) rfl ?_
  intro p e s m args below meth c s₁ B hml htab hv
  obtain ⟨rfl, ⟨hsz, hP, hK, hD0, hN⟩, ⟨hU, hV⟩, hE, hT, -, -, -, hDc⟩ := hv
  have hx := B.exec
  have hb := B.bytes
  have hts := atoms_spec (ws := wsX4_failsBy) B.pre
  have hown : s.vm.findClass RX4 = some m.cls := findClass_of_methodNamed B.named
  subst hsz
  have hS : va_S (va_A [(h0, .inr (ci, []))] s.heap.size) s.heap s.heap [] := va_S.rf
  have hl := lv_entry [.ref h0, .int x1] (n := 2) (Nat.le_of_ble_eq_true rfl)
  rw [lg_entry_eq]
  generalize (lg_sl [.ref h0, .int x1] ++ List.replicate (2 - (lg_sl [.ref h0, .int x1]).length) Slot.unset).toArray = ls at hl ⊢
  replace hl : lv_has ls 2 [(0, .ref h0), (1, .int x1)] := hl
  refine lv_iload_n hx hb dX4_failsBy_0 rfl (lv_at hl 1 rfl) ?_
  refine lv_if_eq (tgt := 14) hx hb dX4_failsBy_1 (by decide) (fun c1 => ?_) (fun c1 => ?_)
  · refine vx_ret (W.widen (k := 1) (n := 6) (Nat.le_of_ble_eq_true rfl) (Nat.le_of_ble_eq_true rfl) ?_)
    exact W.vret hx hb B.returns (fun t ht hW => ⟨_, if_pos c1, rfl, by rw [ht]; exact hP, hS.F ht⟩) hS.2.2 dX4_failsBy_14 B.notSynchronized
  · obtain ⟨sa, hstr⟩ := hT _ (List.mem_of_getElem? (i := 0) rfl)
    refine vx_throwS (own := RX4) (cls := "java/lang/IllegalStateException") (text := "a man's failure") (names := ["java/lang/RuntimeException", "java/lang/Exception"]) (ik := 13) (is := 15) (ic := 17) (mc := 1) (ms := 6) (sa := sa) (A := va_A [(h0, .inr (ci, []))] s.heap.size) hx hb hfl hown (by decide +kernel) (by decide +kernel) (hts _ (List.mem_cons_of_mem _ (List.mem_append_left _ (List.mem_of_getElem? (i := 0) rfl)))) (hts _ (List.mem_cons_of_mem _ (List.mem_append_left _ (List.mem_of_getElem? (i := 1) rfl)))) hstr ?_ (by decide +kernel) hU hV hS (hl.1.trans hml.symm) dX4_failsBy_4 dX4_failsBy_7 dX4_failsBy_8 dX4_failsBy_10 dX4_failsBy_13 (fun x hx => (htab x hx).elim) (Nat.le_of_ble_eq_true rfl) (Nat.le_of_ble_eq_true rfl) (Nat.le_of_ble_eq_true rfl) (Nat.le_of_ble_eq_true rfl) B.notSynchronized ?_ (fun z hz => hS.2.2 z hz) (Nat.le_of_ble_eq_true rfl) (Nat.le_of_ble_eq_true rfl)
    · exact vx_hat (B := [.castable "java/lang/IllegalStateException" "java/lang/IllegalStateException", .declares (Bundle.initS "java/lang/RuntimeException"), .declares (Bundle.initS "java/lang/Exception"), .declares (Bundle.initS Bundle.tN)]) (fun w hw => hts w (List.mem_cons_of_mem _ (List.mem_append_right _ hw))) (by decide +kernel) (vx_c (va_Nw.use rfl (hE _ (List.mem_of_getElem? (i := 0) rfl))) (vx_c (va_Nw.use rfl (hDc _ (List.mem_of_getElem? (i := 0) rfl))) (vx_c (va_Nw.use rfl (hDc _ (List.mem_of_getElem? (i := 1) rfl))) (vx_c (va_Nw.use rfl (hDc _ (List.mem_of_getElem? (i := 2) rfl))) vx_n))))
    · intro t h1 h2 h3
      exact ⟨if_neg c1, hP.kept (fun k q hk => h3 q.1 (vx_lt hP hk)), h2, fun q a _ => h3 q a⟩
abbrev rm_X0_failsBy : Room := { frames := 6, cells := 1, slots := 6, locals := 82 }
def S_Banker_failsBy (x1 : Int32) : Except String (Option Value) := if x1 = 0 then .ok none else .error "java/lang/IllegalArgumentException"
set_option maxHeartbeats 4000000 in
set_option maxRecDepth 100000 in
theorem x_Banker_failsBy (l : Launch) (hfl : l.stackTraces = false) (D : va_G) (cI cM cS cJ : ClassId) (h0 ci sz : Nat) (x1 : Int32) : kMetX l yX0_failsBy wsX0_failsBy rm_X0_failsBy [.ref h0, .int x1] D (kT cI cM cS cJ) [(h0, .inr (ci, []))] sz (S_Banker_failsBy x1) := by
  refine vx_ofW (cc := cX0_failsBy) (maxL := 2) (ret := none) (by decide) rfl ?_
  intro p e s m args below meth c s₁ B hml htab hv
  obtain ⟨rfl, ⟨hsz, hP, hK, hD0, hN⟩, ⟨hU, hV⟩, hE, hT, -, -, -, hDc⟩ := hv
  have hx := B.exec
  have hb := B.bytes
  have hts := atoms_spec (ws := wsX0_failsBy) B.pre
  have hown : s.vm.findClass RX0 = some m.cls := findClass_of_methodNamed B.named
  subst hsz
  have hS : va_S (va_A [(h0, .inr (ci, []))] s.heap.size) s.heap s.heap [] := va_S.rf
  have hl := lv_entry [.ref h0, .int x1] (n := 2) (Nat.le_of_ble_eq_true rfl)
  rw [lg_entry_eq]
  generalize (lg_sl [.ref h0, .int x1] ++ List.replicate (2 - (lg_sl [.ref h0, .int x1]).length) Slot.unset).toArray = ls at hl ⊢
  replace hl : lv_has ls 2 [(0, .ref h0), (1, .int x1)] := hl
  refine lv_iload_n hx hb dX0_failsBy_0 rfl (lv_at hl 1 rfl) ?_
  refine lv_if_eq (tgt := 14) hx hb dX0_failsBy_1 (by decide) (fun c1 => ?_) (fun c1 => ?_)
  · refine vx_ret (W.widen (k := 1) (n := 6) (Nat.le_of_ble_eq_true rfl) (Nat.le_of_ble_eq_true rfl) ?_)
    exact W.vret hx hb B.returns (fun t ht hW => ⟨_, if_pos c1, rfl, by rw [ht]; exact hP, hS.F ht⟩) hS.2.2 dX0_failsBy_14 B.notSynchronized
  · obtain ⟨sa, hstr⟩ := hT _ (List.mem_of_getElem? (i := 1) rfl)
    refine vx_throwS (own := RX0) (cls := "java/lang/IllegalArgumentException") (text := "a banker's failure") (names := ["java/lang/RuntimeException", "java/lang/Exception"]) (ik := 11) (is := 13) (ic := 15) (mc := 1) (ms := 6) (sa := sa) (A := va_A [(h0, .inr (ci, []))] s.heap.size) hx hb hfl hown (by decide +kernel) (by decide +kernel) (hts _ (List.mem_cons_of_mem _ (List.mem_append_left _ (List.mem_of_getElem? (i := 0) rfl)))) (hts _ (List.mem_cons_of_mem _ (List.mem_append_left _ (List.mem_of_getElem? (i := 1) rfl)))) hstr ?_ (by decide +kernel) hU hV hS (hl.1.trans hml.symm) dX0_failsBy_4 dX0_failsBy_7 dX0_failsBy_8 dX0_failsBy_10 dX0_failsBy_13 (fun x hx => (htab x hx).elim) (Nat.le_of_ble_eq_true rfl) (Nat.le_of_ble_eq_true rfl) (Nat.le_of_ble_eq_true rfl) (Nat.le_of_ble_eq_true rfl) B.notSynchronized ?_ (fun z hz => hS.2.2 z hz) (Nat.le_of_ble_eq_true rfl) (Nat.le_of_ble_eq_true rfl)
    · exact vx_hat (B := [.castable "java/lang/IllegalArgumentException" "java/lang/IllegalArgumentException", .declares (Bundle.initS "java/lang/RuntimeException"), .declares (Bundle.initS "java/lang/Exception"), .declares (Bundle.initS Bundle.tN)]) (fun w hw => hts w (List.mem_cons_of_mem _ (List.mem_append_right _ hw))) (by decide +kernel) (vx_c (va_Nw.use rfl (hE _ (List.mem_of_getElem? (i := 1) rfl))) (vx_c (va_Nw.use rfl (hDc _ (List.mem_of_getElem? (i := 0) rfl))) (vx_c (va_Nw.use rfl (hDc _ (List.mem_of_getElem? (i := 1) rfl))) (vx_c (va_Nw.use rfl (hDc _ (List.mem_of_getElem? (i := 2) rfl))) vx_n))))
    · intro t h1 h2 h3
      exact ⟨if_neg c1, hP.kept (fun k q hk => h3 q.1 (vx_lt hP hk)), h2, fun q a _ => h3 q a⟩
abbrev rm_X10_failsBy : Room := { frames := 6, cells := 1, slots := 6, locals := 82 }
def S_Swindler_failsBy (x1 : Int32) : Except String (Option Value) := if x1 = 0 then .ok none else .error "java/lang/UnsupportedOperationException"
set_option maxHeartbeats 4000000 in
set_option maxRecDepth 100000 in
theorem x_Swindler_failsBy (l : Launch) (hfl : l.stackTraces = false) (D : va_G) (cI cM cS cJ : ClassId) (h0 ci sz : Nat) (x1 : Int32) : kMetX l yX10_failsBy wsX10_failsBy rm_X10_failsBy [.ref h0, .int x1] D (kT cI cM cS cJ) [(h0, .inr (ci, []))] sz (S_Swindler_failsBy x1) := by
  refine vx_ofW (cc := cX10_failsBy) (maxL := 2) (ret := none) (by decide) rfl ?_
  intro p e s m args below meth c s₁ B hml htab hv
  obtain ⟨rfl, ⟨hsz, hP, hK, hD0, hN⟩, ⟨hU, hV⟩, hE, hT, -, -, -, hDc⟩ := hv
  have hx := B.exec
  have hb := B.bytes
  have hts := atoms_spec (ws := wsX10_failsBy) B.pre
  have hown : s.vm.findClass RX10 = some m.cls := findClass_of_methodNamed B.named
  subst hsz
  have hS : va_S (va_A [(h0, .inr (ci, []))] s.heap.size) s.heap s.heap [] := va_S.rf
  have hl := lv_entry [.ref h0, .int x1] (n := 2) (Nat.le_of_ble_eq_true rfl)
  rw [lg_entry_eq]
  generalize (lg_sl [.ref h0, .int x1] ++ List.replicate (2 - (lg_sl [.ref h0, .int x1]).length) Slot.unset).toArray = ls at hl ⊢
  replace hl : lv_has ls 2 [(0, .ref h0), (1, .int x1)] := hl
  refine lv_iload_n hx hb dX10_failsBy_0 rfl (lv_at hl 1 rfl) ?_
  refine lv_if_eq (tgt := 14) hx hb dX10_failsBy_1 (by decide) (fun c1 => ?_) (fun c1 => ?_)
  · refine vx_ret (W.widen (k := 1) (n := 6) (Nat.le_of_ble_eq_true rfl) (Nat.le_of_ble_eq_true rfl) ?_)
    exact W.vret hx hb B.returns (fun t ht hW => ⟨_, if_pos c1, rfl, by rw [ht]; exact hP, hS.F ht⟩) hS.2.2 dX10_failsBy_14 B.notSynchronized
  · obtain ⟨sa, hstr⟩ := hT _ (List.mem_of_getElem? (i := 2) rfl)
    refine vx_throwS (own := RX10) (cls := "java/lang/UnsupportedOperationException") (text := "a swindler's failure") (names := ["java/lang/RuntimeException", "java/lang/Exception"]) (ik := 11) (is := 13) (ic := 15) (mc := 1) (ms := 6) (sa := sa) (A := va_A [(h0, .inr (ci, []))] s.heap.size) hx hb hfl hown (by decide +kernel) (by decide +kernel) (hts _ (List.mem_cons_of_mem _ (List.mem_append_left _ (List.mem_of_getElem? (i := 0) rfl)))) (hts _ (List.mem_cons_of_mem _ (List.mem_append_left _ (List.mem_of_getElem? (i := 1) rfl)))) hstr ?_ (by decide +kernel) hU hV hS (hl.1.trans hml.symm) dX10_failsBy_4 dX10_failsBy_7 dX10_failsBy_8 dX10_failsBy_10 dX10_failsBy_13 (fun x hx => (htab x hx).elim) (Nat.le_of_ble_eq_true rfl) (Nat.le_of_ble_eq_true rfl) (Nat.le_of_ble_eq_true rfl) (Nat.le_of_ble_eq_true rfl) B.notSynchronized ?_ (fun z hz => hS.2.2 z hz) (Nat.le_of_ble_eq_true rfl) (Nat.le_of_ble_eq_true rfl)
    · exact vx_hat (B := [.castable "java/lang/UnsupportedOperationException" "java/lang/UnsupportedOperationException", .declares (Bundle.initS "java/lang/RuntimeException"), .declares (Bundle.initS "java/lang/Exception"), .declares (Bundle.initS Bundle.tN)]) (fun w hw => hts w (List.mem_cons_of_mem _ (List.mem_append_right _ hw))) (by decide +kernel) (vx_c (va_Nw.use rfl (hE _ (List.mem_of_getElem? (i := 2) rfl))) (vx_c (va_Nw.use rfl (hDc _ (List.mem_of_getElem? (i := 0) rfl))) (vx_c (va_Nw.use rfl (hDc _ (List.mem_of_getElem? (i := 1) rfl))) (vx_c (va_Nw.use rfl (hDc _ (List.mem_of_getElem? (i := 2) rfl))) vx_n))))
    · intro t h1 h2 h3
      exact ⟨if_neg c1, hP.kept (fun k q hk => h3 q.1 (vx_lt hP hk)), h2, fun q a _ => h3 q a⟩
abbrev rm_X7_failsBy : Room := { frames := 6, cells := 1, slots := 6, locals := 82 }
def S_Quaker_failsBy (x1 : Int32) : Except String (Option Value) := .ok none
set_option maxHeartbeats 4000000 in
set_option maxRecDepth 100000 in
theorem x_Quaker_failsBy (l : Launch) (hfl : l.stackTraces = false) (D : va_G) (cI cM cS cJ : ClassId) (h0 ci sz : Nat) (x1 : Int32) : kMetX l yX7_failsBy wsX7_failsBy rm_X7_failsBy [.ref h0, .int x1] D (kT cI cM cS cJ) [(h0, .inr (ci, []))] sz (S_Quaker_failsBy x1) := by
  refine vx_ofW (cc := cX7_failsBy) (maxL := 2) (ret := none) (by decide) rfl ?_
  intro p e s m args below meth c s₁ B hml htab hv
  obtain ⟨rfl, ⟨hsz, hP, hK, hD0, hN⟩, ⟨hU, hV⟩, hE, hT, -, -, -, hDc⟩ := hv
  have hx := B.exec
  have hb := B.bytes
  have hts := atoms_spec (ws := wsX7_failsBy) B.pre
  have hown : s.vm.findClass RX7 = some m.cls := findClass_of_methodNamed B.named
  subst hsz
  have hS : va_S (va_A [(h0, .inr (ci, []))] s.heap.size) s.heap s.heap [] := va_S.rf
  have hl := lv_entry [.ref h0, .int x1] (n := 2) (Nat.le_of_ble_eq_true rfl)
  rw [lg_entry_eq]
  generalize (lg_sl [.ref h0, .int x1] ++ List.replicate (2 - (lg_sl [.ref h0, .int x1]).length) Slot.unset).toArray = ls at hl ⊢
  replace hl : lv_has ls 2 [(0, .ref h0), (1, .int x1)] := hl
  refine vx_ret (W.widen (k := 1) (n := 6) (Nat.le_of_ble_eq_true rfl) (Nat.le_of_ble_eq_true rfl) ?_)
  exact W.vret hx hb B.returns (fun t ht hW => ⟨_, rfl, rfl, by rw [ht]; exact hP, hS.F ht⟩) hS.2.2 dX7_failsBy_0 B.notSynchronized
abbrev WdF (cM : ClassId) (aD aK : Nat → Nat) (d_kind d_figure d_sort d_size d_held : Int32) : va_W := [((aD 0), .inr (9, [.ref (aD 1), .int d_kind, .int d_figure, .int d_sort, .int d_size, .int d_held, .ref (aK 8)])), ((aK 8), .inl (cM, 8, .inr (.inr (.inr (.inr (fun k => some (aK k))))))), ((aK 0), .inr (4, [])), ((aK 1), .inr (0, [])), ((aK 2), .inr (7, [])), ((aK 3), .inr (3, [])), ((aK 4), .inr (1, [])), ((aK 5), .inr (8, [])), ((aK 6), .inr (10, [])), ((aK 7), .inr (6, []))]
def V_fails (k : Nat) (x : Int32) : Except String (Option Value) := match k with
  | 0 => S_Man_failsBy x
  | 1 => S_Banker_failsBy x
  | 2 => S_Quaker_failsBy x
  | 3 => S_Man_failsBy x
  | 4 => S_Banker_failsBy x
  | 5 => S_Quaker_failsBy x
  | 6 => S_Swindler_failsBy x
  | _ => S_Man_failsBy x
theorem V_fails_four {k : Nat} {x : Int32} : V_fails k x = .ok none ∨ V_fails k x = .error "java/lang/UnsupportedOperationException" ∨ V_fails k x = .error "java/lang/IllegalArgumentException" ∨ V_fails k x = .error "java/lang/IllegalStateException" := by
  have hM : S_Man_failsBy x = .ok none ∨ S_Man_failsBy x = .error "java/lang/IllegalStateException" := by
    unfold S_Man_failsBy; by_cases h : x = 0
    · exact Or.inl (if_pos h)
    · exact Or.inr (if_neg h)
  have hB : S_Banker_failsBy x = .ok none ∨ S_Banker_failsBy x = .error "java/lang/IllegalArgumentException" := by
    unfold S_Banker_failsBy; by_cases h : x = 0
    · exact Or.inl (if_pos h)
    · exact Or.inr (if_neg h)
  have hS : S_Swindler_failsBy x = .ok none ∨ S_Swindler_failsBy x = .error "java/lang/UnsupportedOperationException" := by
    unfold S_Swindler_failsBy; by_cases h : x = 0
    · exact Or.inl (if_pos h)
    · exact Or.inr (if_neg h)
  unfold V_fails
  split
  · exact hM.elim Or.inl (fun z => Or.inr (Or.inr (Or.inr z)))
  · exact hB.elim Or.inl (fun z => Or.inr (Or.inr (Or.inl z)))
  · exact Or.inl rfl
  · exact hM.elim Or.inl (fun z => Or.inr (Or.inr (Or.inr z)))
  · exact hB.elim Or.inl (fun z => Or.inr (Or.inr (Or.inl z)))
  · exact Or.inl rfl
  · exact hS.elim Or.inl (fun z => Or.inr (Or.inl z))
  · exact hM.elim Or.inl (fun z => Or.inr (Or.inr (Or.inr z)))
theorem V_fails_ok {k : Nat} {x : Int32} {v : Option Value} (h : V_fails k x = .ok v) : v = none := by
  rcases V_fails_four (k := k) (x := x) with e | e | e | e <;> rw [e] at h <;> cases h
  rfl
theorem V_fails_err {k : Nat} {x : Int32} {E : String} (h : V_fails k x = .error E) (h1 : ¬ E = "java/lang/UnsupportedOperationException") (h2 : ¬ E = "java/lang/IllegalArgumentException") : E = "java/lang/IllegalStateException" := by
  rcases V_fails_four (k := k) (x := x) with e | e | e | e <;> rw [e] at h <;> cases h
  · exact absurd rfl h1
  · exact absurd rfl h2
  · rfl
theorem kdM_failsBy : "PlumbLine$Man" ≠ "java/lang/invoke/MethodHandle" ∧ "PlumbLine$Man" ≠ "java/lang/invoke/VarHandle" ∧ (parseMethodDescriptor "(I)V").map (fun d => d.parameters.length) = some 1 := by decide +kernel
theorem kdV_X4_failsBy : yX4_failsBy.cls = RX4 ∧ yX4_failsBy.cls ≠ "java/lang/invoke/MethodHandle" ∧ yX4_failsBy.cls ≠ "java/lang/invoke/VarHandle" ∧ (parseMethodDescriptor yX4_failsBy.desc).map (fun d => d.parameters.length) = some 1 := by decide +kernel
abbrev rm_X9_fails : Room := { frames := 7, cells := 1, slots := 6, locals := 110 }
set_option maxHeartbeats 4000000 in
set_option maxRecDepth 100000 in
theorem x_Shelf_fails (l : Launch) (hfl : l.stackTraces = false) (D : va_G) (cI cM cS cJ : ClassId) (aD aK : Nat → Nat) (sz : Nat) (d_kind d_figure d_sort d_size d_held : Int32) (hk : ¬ (d_kind < 0 ∨ 8 ≤ d_kind.toNatClampNeg)) : kMetX l yX9_fails wsX9_fails rm_X9_fails [.ref (aD 0)] D (kT cI cM cS cJ) (WdF cM aD aK d_kind d_figure d_sort d_size d_held) sz (V_fails d_kind.toNatClampNeg d_figure) := by
  refine vx_ofW (cc := cX9_fails) (maxL := 1) (ret := none) (by decide) rfl ?_
  intro p e s m args below meth c s₁ B hml htab hv
  obtain ⟨rfl, ⟨hsz, hP, hK, hD0, hN⟩, hX, hT⟩ := hv
  have hx := B.exec
  have hb := B.bytes
  have hts := atoms_spec (ws := wsX9_fails) B.pre
  have hown : s.vm.findClass RX9 = some m.cls := findClass_of_methodNamed B.named
  subst hsz
  have hD := hD0.self (sz := s.heap.size)
  generalize hAe : va_A (WdF cM aD aK d_kind d_figure d_sort d_size d_held) s.heap.size = A at hD hX ⊢
  have hA : ∀ q : Nat, s.heap.size ≤ q → A q := fun q h => by rw [← hAe]; exact Or.inr h
  have hS : va_S A s.heap s.heap [] := va_S.rf
  have hl := lv_entry [.ref (aD 0)] (n := 1) (Nat.le_of_ble_eq_true rfl)
  rw [lg_entry_eq]
  generalize (lg_sl [.ref (aD 0)] ++ List.replicate (1 - (lg_sl [.ref (aD 0)]).length) Slot.unset).toArray = ls at hl ⊢
  replace hl : lv_has ls 1 [(0, .ref (aD 0))] := hl
  have hf15 := hts (.fieldLink RX9 15 "PlumbLine$Shelf" "kinds" "[LPlumbLine$Man;") (List.mem_of_getElem? (i := 1) rfl)
  have hf23 := hts (.fieldLink RX9 23 "PlumbLine$Shelf" "kind" "I") (List.mem_of_getElem? (i := 2) rfl)
  have hf26 := hts (.fieldLink RX9 26 "PlumbLine$Shelf" "figure" "I") (List.mem_of_getElem? (i := 3) rfl)
  have hiX9 : ∀ w ∈ u_ws RX9 TX9 7, w ∈ wsX9_fails := fun w h => List.mem_cons_of_mem _ (List.mem_append_left _ (List.mem_append_left _ (List.mem_append_left _ (List.mem_append_right _ h))))
  refine lv_aload_n hx hb dX9_fails_0 rfl (lv_at hl 0 rfl) ?_
  refine va_get (D := D) (ci := 9) (v := .ref (aK 8)) (C := RX9) (T := TX9) (N := 7) hx hb hts hiX9 hown hK hP 0 rfl rfl 6 (by decide) hf15 (fun _ z => z) rfl dX9_fails_1 ?_
  refine lv_aload_n hx hb dX9_fails_4 rfl (lv_at hl 0 rfl) ?_
  refine va_get (D := D) (ci := 9) (v := .int d_kind) (C := RX9) (T := TX9) (N := 7) hx hb hts hiX9 hown hK hP 0 rfl rfl 1 (by decide) hf23 (fun _ z => z) rfl dX9_fails_5 ?_
  refine k_aldR (f := aK) hx hb hK hP 1 1 rfl rfl hk dX9_fails_8 ?_
  refine lv_aload_n hx hb dX9_fails_9 rfl (lv_at hl 0 rfl) ?_
  refine va_get (D := D) (ci := 9) (v := .int d_figure) (C := RX9) (T := TX9) (N := 7) hx hb hts hiX9 hown hK hP 0 rfl rfl 2 (by decide) hf26 (fun _ z => z) rfl dX9_fails_10 ?_
  have hb13 : d_kind.toNatClampNeg < 8 := Nat.not_le.mp (fun z => hk (Or.inr z))
  generalize hk13 : d_kind.toNatClampNeg = k13 at hb13 ⊢
  rcases k_8 hb13 with e | e | e | e | e | e | e | e <;> subst e
  · exact k_callVX (As := [.int d_figure]) (rest := []) hx hb hml hown hts hK hN hX hT hA hP hD hS hl (x_Man_failsBy l hfl D cI cM cS cJ (aK 0) 4 s.heap.size d_figure) gX9_fails_X4_failsBy rfl kdV_X4_failsBy 0 4 rfl rfl rfl [2] ⟨rfl, rfl⟩ ⟨(Nat.le_of_ble_eq_true rfl), (Nat.le_of_ble_eq_true rfl)⟩ ⟨(Nat.le_of_ble_eq_true rfl), (Nat.le_of_ble_eq_true rfl)⟩ rfl (by decide +kernel) (k_rp rfl (by decide +kernel)) rfl rfl (Nat.le_of_ble_eq_true rfl) dX9_fails_13 (fun E ce q9 H1 locs1 hE hP hS h1 h2 h3 => vx_out (fun x hx => (htab x hx).elim) B.notSynchronized h1 h2 h3 (fun t ht _ => ⟨hE, by rw [ht]; exact hP, hS.F ht⟩) (fun z hz => hS.2.2 z hz) (Nat.le_of_ble_eq_true rfl) (Nat.le_of_ble_eq_true rfl)) (fun v H1 locs1 hv hP hS => by
    obtain rfl := V_fails_ok (k := 0) (x := d_figure) hv
    exact vx_ret (W.vret hx hb B.returns (fun t ht _ => ⟨_, hv, rfl, by rw [ht]; exact hP, hS.F ht⟩) hS.2.2 dX9_fails_16 B.notSynchronized))
  · exact k_callUX (As := [.int d_figure]) (rest := []) hx hb hml hown hts hK hN hX hT hA hP hD hS hl (x_Banker_failsBy l hfl D cI cM cS cJ (aK 1) 0 s.heap.size d_figure) (va_cwO 1 hts gX9_fails_X0_failsBy_u35X0 rfl rfl rfl (List.mem_of_getElem? (i := 13) rfl) kdM_failsBy ⟨(Nat.le_of_ble_eq_true rfl), (Nat.le_of_ble_eq_true rfl)⟩) 0 0 rfl rfl rfl [3] ⟨(Nat.le_of_ble_eq_true rfl), (Nat.le_of_ble_eq_true rfl)⟩ rfl (by decide +kernel) (k_rp rfl (by decide +kernel)) rfl rfl (Nat.le_of_ble_eq_true rfl) dX9_fails_13 (fun E ce q9 H1 locs1 hE hP hS h1 h2 h3 => vx_out (fun x hx => (htab x hx).elim) B.notSynchronized h1 h2 h3 (fun t ht _ => ⟨hE, by rw [ht]; exact hP, hS.F ht⟩) (fun z hz => hS.2.2 z hz) (Nat.le_of_ble_eq_true rfl) (Nat.le_of_ble_eq_true rfl)) (fun v H1 locs1 hv hP hS => by
    obtain rfl := V_fails_ok (k := 1) (x := d_figure) hv
    exact vx_ret (W.vret hx hb B.returns (fun t ht _ => ⟨_, hv, rfl, by rw [ht]; exact hP, hS.F ht⟩) hS.2.2 dX9_fails_16 B.notSynchronized))
  · exact k_callUX (As := [.int d_figure]) (rest := []) hx hb hml hown hts hK hN hX hT hA hP hD hS hl (x_Quaker_failsBy l hfl D cI cM cS cJ (aK 2) 7 s.heap.size d_figure) (va_cwO 1 hts gX9_fails_X7_failsBy_u35X7 rfl rfl rfl (List.mem_of_getElem? (i := 13) rfl) kdM_failsBy ⟨(Nat.le_of_ble_eq_true rfl), (Nat.le_of_ble_eq_true rfl)⟩) 0 7 rfl rfl rfl [4] ⟨(Nat.le_of_ble_eq_true rfl), (Nat.le_of_ble_eq_true rfl)⟩ rfl (by decide +kernel) (k_rp rfl (by decide +kernel)) rfl rfl (Nat.le_of_ble_eq_true rfl) dX9_fails_13 (fun E ce q9 H1 locs1 hE hP hS h1 h2 h3 => vx_out (fun x hx => (htab x hx).elim) B.notSynchronized h1 h2 h3 (fun t ht _ => ⟨hE, by rw [ht]; exact hP, hS.F ht⟩) (fun z hz => hS.2.2 z hz) (Nat.le_of_ble_eq_true rfl) (Nat.le_of_ble_eq_true rfl)) (fun v H1 locs1 hv hP hS => by
    obtain rfl := V_fails_ok (k := 2) (x := d_figure) hv
    exact vx_ret (W.vret hx hb B.returns (fun t ht _ => ⟨_, hv, rfl, by rw [ht]; exact hP, hS.F ht⟩) hS.2.2 dX9_fails_16 B.notSynchronized))
  · exact k_callUX (As := [.int d_figure]) (rest := []) hx hb hml hown hts hK hN hX hT hA hP hD hS hl (x_Man_failsBy l hfl D cI cM cS cJ (aK 3) 3 s.heap.size d_figure) (va_cwU 1 hts gX9_fails_X4_failsBy_u35X3 rfl rfl rfl rfl kdM_failsBy ⟨(Nat.le_of_ble_eq_true rfl), (Nat.le_of_ble_eq_true rfl)⟩) 0 3 rfl rfl rfl [5] ⟨(Nat.le_of_ble_eq_true rfl), (Nat.le_of_ble_eq_true rfl)⟩ rfl (by decide +kernel) (k_rp rfl (by decide +kernel)) rfl rfl (Nat.le_of_ble_eq_true rfl) dX9_fails_13 (fun E ce q9 H1 locs1 hE hP hS h1 h2 h3 => vx_out (fun x hx => (htab x hx).elim) B.notSynchronized h1 h2 h3 (fun t ht _ => ⟨hE, by rw [ht]; exact hP, hS.F ht⟩) (fun z hz => hS.2.2 z hz) (Nat.le_of_ble_eq_true rfl) (Nat.le_of_ble_eq_true rfl)) (fun v H1 locs1 hv hP hS => by
    obtain rfl := V_fails_ok (k := 3) (x := d_figure) hv
    exact vx_ret (W.vret hx hb B.returns (fun t ht _ => ⟨_, hv, rfl, by rw [ht]; exact hP, hS.F ht⟩) hS.2.2 dX9_fails_16 B.notSynchronized))
  · exact k_callUX (As := [.int d_figure]) (rest := []) hx hb hml hown hts hK hN hX hT hA hP hD hS hl (x_Banker_failsBy l hfl D cI cM cS cJ (aK 4) 1 s.heap.size d_figure) (va_cwO 1 hts gX9_fails_X0_failsBy_u35X1 rfl rfl rfl (List.mem_of_getElem? (i := 13) rfl) kdM_failsBy ⟨(Nat.le_of_ble_eq_true rfl), (Nat.le_of_ble_eq_true rfl)⟩) 0 1 rfl rfl rfl [6] ⟨(Nat.le_of_ble_eq_true rfl), (Nat.le_of_ble_eq_true rfl)⟩ rfl (by decide +kernel) (k_rp rfl (by decide +kernel)) rfl rfl (Nat.le_of_ble_eq_true rfl) dX9_fails_13 (fun E ce q9 H1 locs1 hE hP hS h1 h2 h3 => vx_out (fun x hx => (htab x hx).elim) B.notSynchronized h1 h2 h3 (fun t ht _ => ⟨hE, by rw [ht]; exact hP, hS.F ht⟩) (fun z hz => hS.2.2 z hz) (Nat.le_of_ble_eq_true rfl) (Nat.le_of_ble_eq_true rfl)) (fun v H1 locs1 hv hP hS => by
    obtain rfl := V_fails_ok (k := 4) (x := d_figure) hv
    exact vx_ret (W.vret hx hb B.returns (fun t ht _ => ⟨_, hv, rfl, by rw [ht]; exact hP, hS.F ht⟩) hS.2.2 dX9_fails_16 B.notSynchronized))
  · exact k_callUX (As := [.int d_figure]) (rest := []) hx hb hml hown hts hK hN hX hT hA hP hD hS hl (x_Quaker_failsBy l hfl D cI cM cS cJ (aK 5) 8 s.heap.size d_figure) (va_cwO 1 hts gX9_fails_X7_failsBy_u35X8 rfl rfl rfl (List.mem_of_getElem? (i := 13) rfl) kdM_failsBy ⟨(Nat.le_of_ble_eq_true rfl), (Nat.le_of_ble_eq_true rfl)⟩) 0 8 rfl rfl rfl [7] ⟨(Nat.le_of_ble_eq_true rfl), (Nat.le_of_ble_eq_true rfl)⟩ rfl (by decide +kernel) (k_rp rfl (by decide +kernel)) rfl rfl (Nat.le_of_ble_eq_true rfl) dX9_fails_13 (fun E ce q9 H1 locs1 hE hP hS h1 h2 h3 => vx_out (fun x hx => (htab x hx).elim) B.notSynchronized h1 h2 h3 (fun t ht _ => ⟨hE, by rw [ht]; exact hP, hS.F ht⟩) (fun z hz => hS.2.2 z hz) (Nat.le_of_ble_eq_true rfl) (Nat.le_of_ble_eq_true rfl)) (fun v H1 locs1 hv hP hS => by
    obtain rfl := V_fails_ok (k := 5) (x := d_figure) hv
    exact vx_ret (W.vret hx hb B.returns (fun t ht _ => ⟨_, hv, rfl, by rw [ht]; exact hP, hS.F ht⟩) hS.2.2 dX9_fails_16 B.notSynchronized))
  · exact k_callUX (As := [.int d_figure]) (rest := []) hx hb hml hown hts hK hN hX hT hA hP hD hS hl (x_Swindler_failsBy l hfl D cI cM cS cJ (aK 6) 10 s.heap.size d_figure) (va_cwO 1 hts gX9_fails_X10_failsBy_u35X10 rfl rfl rfl (List.mem_of_getElem? (i := 13) rfl) kdM_failsBy ⟨(Nat.le_of_ble_eq_true rfl), (Nat.le_of_ble_eq_true rfl)⟩) 0 10 rfl rfl rfl [8] ⟨(Nat.le_of_ble_eq_true rfl), (Nat.le_of_ble_eq_true rfl)⟩ rfl (by decide +kernel) (k_rp rfl (by decide +kernel)) rfl rfl (Nat.le_of_ble_eq_true rfl) dX9_fails_13 (fun E ce q9 H1 locs1 hE hP hS h1 h2 h3 => vx_out (fun x hx => (htab x hx).elim) B.notSynchronized h1 h2 h3 (fun t ht _ => ⟨hE, by rw [ht]; exact hP, hS.F ht⟩) (fun z hz => hS.2.2 z hz) (Nat.le_of_ble_eq_true rfl) (Nat.le_of_ble_eq_true rfl)) (fun v H1 locs1 hv hP hS => by
    obtain rfl := V_fails_ok (k := 6) (x := d_figure) hv
    exact vx_ret (W.vret hx hb B.returns (fun t ht _ => ⟨_, hv, rfl, by rw [ht]; exact hP, hS.F ht⟩) hS.2.2 dX9_fails_16 B.notSynchronized))
  · exact k_callUX (As := [.int d_figure]) (rest := []) hx hb hml hown hts hK hN hX hT hA hP hD hS hl (x_Man_failsBy l hfl D cI cM cS cJ (aK 7) 6 s.heap.size d_figure) (va_cwU 1 hts gX9_fails_X4_failsBy_u35X6 rfl rfl rfl rfl kdM_failsBy ⟨(Nat.le_of_ble_eq_true rfl), (Nat.le_of_ble_eq_true rfl)⟩) 0 6 rfl rfl rfl [9] ⟨(Nat.le_of_ble_eq_true rfl), (Nat.le_of_ble_eq_true rfl)⟩ rfl (by decide +kernel) (k_rp rfl (by decide +kernel)) rfl rfl (Nat.le_of_ble_eq_true rfl) dX9_fails_13 (fun E ce q9 H1 locs1 hE hP hS h1 h2 h3 => vx_out (fun x hx => (htab x hx).elim) B.notSynchronized h1 h2 h3 (fun t ht _ => ⟨hE, by rw [ht]; exact hP, hS.F ht⟩) (fun z hz => hS.2.2 z hz) (Nat.le_of_ble_eq_true rfl) (Nat.le_of_ble_eq_true rfl)) (fun v H1 locs1 hv hP hS => by
    obtain rfl := V_fails_ok (k := 7) (x := d_figure) hv
    exact vx_ret (W.vret hx hb B.returns (fun t ht _ => ⟨_, hv, rfl, by rw [ht]; exact hP, hS.F ht⟩) hS.2.2 dX9_fails_16 B.notSynchronized))
theorem kdV_X9_fails : yX9_fails.cls = RX9 ∧ yX9_fails.cls ≠ "java/lang/invoke/MethodHandle" ∧ yX9_fails.cls ≠ "java/lang/invoke/VarHandle" ∧ (parseMethodDescriptor yX9_fails.desc).map (fun d => d.parameters.length) = some 0 := by decide +kernel
def S_PL_toss (x1 : Int32) (d_kind : Int32) (d_figure : Int32) (d_sort : Int32) (d_size : Int32) (d_held : Int32) : Option ((Int32)) :=
  ((S_PL_refusalOfKind x1 d_held).bind (fun r2 => (if r2 = 0 then (if x1 < 0 ∨ 8 ≤ x1.toNatClampNeg then none else (if d_kind < 0 ∨ 8 ≤ d_kind.toNatClampNeg then none else (match (V_fails d_kind.toNatClampNeg d_figure) with | .ok _ => some (-15) | .error E => (if E = "java/lang/UnsupportedOperationException" then ((S_Shelf_price d_kind d_figure).bind (fun r32 => some ((200 : Int32) + r32))) else (if E = "java/lang/IllegalArgumentException" then some ((100 : Int32) + d_figure) else some d_figure))))) else some r2)))
abbrev rm_X11_toss : Room := { frames := 8, cells := 1, slots := 6, locals := 130 }
set_option maxHeartbeats 4000000 in
set_option maxRecDepth 100000 in
theorem c_PL_toss (l : Launch) (hfl : l.stackTraces = false) (D : va_G) (cI cM cS cJ : ClassId) (aV : Nat → Nat) (aN : Nat → Nat) (aS : Nat → Nat) (aT : Nat → Nat) (aW : Nat → Nat) (aK : Nat → Nat) (aH : Nat → Nat → Nat) (dn : Nat) (sz : Nat) (x1 : Int32) (v_hasImage : Int32) (d_kind : Int32) (d_figure : Int32) (d_sort : Int32) (d_size : Int32) (d_held : Int32) (hdn : ¬ (x1 < 0 ∨ 8 ≤ x1.toNatClampNeg) → x1.toNatClampNeg = dn) {o : (Int32)} (hsem : S_PL_toss x1 d_kind d_figure d_sort d_size d_held = some o) : kMetX l yX11_toss wsX11_toss rm_X11_toss [.ref (aV 0), .int x1] D (kT cI cM cS cJ) (Wd38 cM cS aV aN aS aT aW aK aH dn v_hasImage d_kind d_figure d_sort d_size d_held) sz (.ok (some (.int o))) := by
  refine k_metXI (by decide) rfl rfl (Nat.le_of_ble_eq_true rfl) ?_
  intro p e s m below meth c ls Q A hx hb hml htab hts hown hK hN hX hT hA hP hD hS hl hsz hnm hret
  have hown : s.vm.findClass RX11 = some m.cls := hown
  have hf59 := hts (.fieldLink RX11 59 "PlumbLine" "shelves" "[LPlumbLine$Shelf;") (List.mem_of_getElem? (i := 4) rfl)
  have hf130 := hts (.fieldLink RX11 130 "PlumbLine$Shelf" "figure" "I") (List.mem_of_getElem? (i := 5) rfl)
  have hiX11 : ∀ w ∈ u_ws RX11 TX11 6, w ∈ wsX11_toss := fun w h => List.mem_cons_of_mem _ (List.mem_append_left _ (List.mem_append_left _ (List.mem_append_left _ (List.mem_append_left _ (List.mem_append_right _ h)))))
  have hiX9 : ∀ w ∈ u_ws RX9 TX9 7, w ∈ wsX11_toss := fun w h => List.mem_cons_of_mem _ (List.mem_append_left _ (List.mem_append_left _ (List.mem_append_left _ (List.mem_append_right _ h))))
  replace hl : lv_has ls 5 [(0, .ref (aV 0)), (1, .int x1)] := hl
  have h := hsem
  clear hsem
  rw [S_PL_toss] at h
  refine lv_aload_n hx hb dX11_toss_0 rfl (lv_at hl 0 rfl) ?_
  refine lv_iload_n hx hb dX11_toss_1 rfl (lv_at hl 1 rfl) ?_
  obtain ⟨r2, g2, h⟩ := k_bind h
  refine k_callV (As := [.int x1]) (rest := []) (st1 := [.int r2]) (ws2 := (Wd38 cM cS aV aN aS aT aW aK aH dn v_hasImage d_kind d_figure d_sort d_size d_held)) hx hb hml hown hts hK hN hA hP hD hS hl (c_PL_refusalOfKind l D cI cM cS cJ aV aN aS aT aW aK aH dn s.heap.size x1 v_hasImage d_kind d_figure d_sort d_size d_held hdn g2) gX11_toss_X11_refusalOfKind rfl kdV_X11_refusalOfKind 0 11 rfl rfl rfl [0, 1, 2] ⟨rfl, rfl⟩ ⟨Nat.le_of_ble_eq_true rfl, Nat.le_of_ble_eq_true rfl⟩ ⟨Nat.zero_le _, Nat.zero_le _⟩ rfl rfl (by decide +kernel) (k_rp rfl (by decide +kernel)) rfl rfl (Nat.le_of_ble_eq_true rfl) dX11_toss_2 rfl (fun H locs hP hD hS => ?_)
  refine lv_istore_n (lv' := [(2, .int r2), (0, .ref (aV 0)), (1, .int x1)]) hx hb dX11_toss_5 rfl hl (by decide) rfl (fun ls hl => ?_)
  refine lv_iload_n hx hb dX11_toss_6 rfl (lv_at hl 0 rfl) ?_
  refine lv_if_eq (tgt := 12) hx hb dX11_toss_7 (by decide) (fun c7 => ?_) (fun c7 => ?_)
  · have h := k_pos c7 h
    refine lv_aload_n hx hb dX11_toss_12 rfl (lv_at hl 1 rfl) ?_
    refine va_get (D := D) (ci := 11) (v := .ref (aV 1)) (C := RX11) (T := TX11) (N := 6) hx hb hts hiX11 hown hK hP 0 rfl rfl 4 (by decide) hf59 (fun _ z => z) rfl dX11_toss_13 ?_
    refine lv_iload_n hx hb dX11_toss_16 rfl (lv_at hl 2 rfl) ?_
    obtain ⟨g17, h⟩ := k_guard h
    refine k_aldR (f := fun k => aH k 0) hx hb hK hP 1 2 rfl rfl g17 dX11_toss_17 ?_
    rw [show x1.toNatClampNeg = dn from hdn g17]
    refine lv_astore_n (lv' := [(3, .ref ((aH dn) 0)), (2, .int r2), (0, .ref (aV 0)), (1, .int x1)]) hx hb dX11_toss_18 rfl hl (by decide) rfl (fun ls hl => ?_)
    refine lv_aload_n hx hb dX11_toss_19 rfl (lv_at hl 0 rfl) ?_
    obtain ⟨g20, h⟩ := k_guard h
    refine k_callVX (As := []) (rest := []) (r := (V_fails d_kind.toNatClampNeg d_figure)) hx hb hml hown hts hK hN hX hT hA hP hD hS hl (x_Shelf_fails l hfl D cI cM cS cJ (aH dn) aK H.size d_kind d_figure d_sort d_size d_held g20) gX11_toss_X9_fails rfl kdV_X9_fails 0 9 rfl rfl rfl [2, 3, 4, 5, 6, 7, 8, 9, 10, 11] ⟨rfl, rfl⟩ ⟨(Nat.le_of_ble_eq_true rfl), (Nat.le_of_ble_eq_true rfl)⟩ ⟨(Nat.le_of_ble_eq_true rfl), (Nat.le_of_ble_eq_true rfl)⟩ rfl (by decide +kernel) (k_rp rfl (by decide +kernel)) rfl rfl (Nat.le_of_ble_eq_true rfl) dX11_toss_20 (fun E ce q9 H locs hE hP hS hq1 hq2 hq3 => ?_) (fun v H locs hv hP hS => ?_)
    · rw [hE] at h
      have h : (if E = "java/lang/UnsupportedOperationException" then ((S_Shelf_price d_kind d_figure).bind (fun r32 => some ((200 : Int32) + r32))) else (if E = "java/lang/IllegalArgumentException" then some ((100 : Int32) + d_figure) else some d_figure)) = some o := h
      by_cases e0 : E = "java/lang/UnsupportedOperationException"
      · have h := k_pos e0 h
        subst e0
        refine vx_catch (E := "java/lang/UnsupportedOperationException") (name := "java/lang/UnsupportedOperationException") hown [] ⟨19, 23, 26, 319⟩ [⟨19, 23, 37, 282⟩, ⟨19, 23, 47, 292⟩] htab (fun _ z => absurd z List.not_mem_nil) rfl (by decide) (hts _ (List.mem_of_getElem? (i := 1) rfl)) (va_Nw.use rfl (hT.1 _ (List.mem_of_getElem? (i := 2) rfl))) hq1 hq2 hq3 ?_
        refine lv_astore (lv' := [(4, .ref q9), (3, .ref ((aH dn) 0)), (2, .int r2), (0, .ref (aV 0)), (1, .int x1)]) hx hb dX11_toss_26 hl (by decide) rfl (fun ls hl => ?_)
        refine lv_sipush (v := 200) hx hb dX11_toss_28 (by decide) ?_
        refine lv_aload_n hx hb dX11_toss_31 rfl (lv_at hl 1 rfl) ?_
        obtain ⟨r32, g32, h⟩ := k_bind h
        refine k_callV (As := []) (rest := [.int 200]) (st1 := [.int r32, .int 200]) (ws2 := (Wd38 cM cS aV aN aS aT aW aK aH dn v_hasImage d_kind d_figure d_sort d_size d_held)) hx hb hml hown hts hK hN hA hP hD hS hl (c_Shelf_price l D cI cM cS cJ (aH dn) aK H.size d_kind d_figure d_sort d_size d_held g32) gX11_toss_X9_price rfl kdV_X9_price 0 9 rfl rfl rfl [2, 3, 4, 5, 6, 7, 8, 9, 10, 11] ⟨rfl, rfl⟩ ⟨Nat.le_of_ble_eq_true rfl, Nat.le_of_ble_eq_true rfl⟩ ⟨(Nat.le_of_ble_eq_true rfl), (Nat.le_of_ble_eq_true rfl)⟩ rfl rfl (by decide +kernel) (k_rp rfl (by decide +kernel)) rfl rfl (Nat.le_of_ble_eq_true rfl) dX11_toss_32 rfl (fun H locs hP hD hS => ?_)
        refine lv_iadd hx hb dX11_toss_35 ?_
        have h := Option.some.inj h; subst h
        refine W.widen (k := 1) (n := 6) (Nat.le_of_ble_eq_true rfl) (Nat.le_of_ble_eq_true rfl) ?_
        exact hret _ _ _ _ hP hS dX11_toss_36
      · have h := k_neg e0 h
        by_cases e1 : E = "java/lang/IllegalArgumentException"
        · have h := k_pos e1 h
          subst e1
          refine vx_catch (E := "java/lang/IllegalArgumentException") (name := "java/lang/IllegalArgumentException") hown [⟨19, 23, 26, 319⟩] ⟨19, 23, 37, 282⟩ [⟨19, 23, 47, 292⟩] htab (List.forall_mem_cons.mpr ⟨Or.inr ⟨by decide, "java/lang/UnsupportedOperationException", (hts _ (List.mem_of_getElem? (i := 1) rfl)), hT.2.2.1⟩, (fun _ z => absurd z List.not_mem_nil)⟩) rfl (by decide) (hts _ (List.mem_of_getElem? (i := 2) rfl)) (va_Nw.use rfl (hT.1 _ (List.mem_of_getElem? (i := 1) rfl))) hq1 hq2 hq3 ?_
          refine lv_astore (lv' := [(4, .ref q9), (3, .ref ((aH dn) 0)), (2, .int r2), (0, .ref (aV 0)), (1, .int x1)]) hx hb dX11_toss_37 hl (by decide) rfl (fun ls hl => ?_)
          refine lv_bipush (v := 100) hx hb dX11_toss_39 (by decide) ?_
          refine lv_aload_n hx hb dX11_toss_41 rfl (lv_at hl 1 rfl) ?_
          refine va_get (D := D) (ci := 9) (v := .int d_figure) (C := RX9) (T := TX9) (N := 7) hx hb hts hiX9 hown hK hP 2 rfl rfl 2 (by decide) hf130 (fun _ z => z) rfl dX11_toss_42 ?_
          refine lv_iadd hx hb dX11_toss_45 ?_
          have h := Option.some.inj h; subst h
          refine W.widen (k := 1) (n := 6) (Nat.le_of_ble_eq_true rfl) (Nat.le_of_ble_eq_true rfl) ?_
          exact hret _ _ _ _ hP hS dX11_toss_46
        · have h := k_neg e1 h
          obtain rfl : E = "java/lang/IllegalStateException" := V_fails_err hE e0 e1
          refine vx_catch (E := "java/lang/IllegalStateException") (name := "java/lang/IllegalStateException") hown [⟨19, 23, 26, 319⟩, ⟨19, 23, 37, 282⟩] ⟨19, 23, 47, 292⟩ [] htab (List.forall_mem_cons.mpr ⟨Or.inr ⟨by decide, "java/lang/UnsupportedOperationException", (hts _ (List.mem_of_getElem? (i := 1) rfl)), hT.2.2.2.1⟩, (List.forall_mem_cons.mpr ⟨Or.inr ⟨by decide, "java/lang/IllegalArgumentException", (hts _ (List.mem_of_getElem? (i := 2) rfl)), hT.2.2.2.2.1⟩, (fun _ z => absurd z List.not_mem_nil)⟩)⟩) rfl (by decide) (hts _ (List.mem_of_getElem? (i := 3) rfl)) (va_Nw.use rfl (hT.1 _ (List.mem_of_getElem? (i := 0) rfl))) hq1 hq2 hq3 ?_
          refine lv_astore (lv' := [(4, .ref q9), (3, .ref ((aH dn) 0)), (2, .int r2), (0, .ref (aV 0)), (1, .int x1)]) hx hb dX11_toss_47 hl (by decide) rfl (fun ls hl => ?_)
          refine lv_aload_n hx hb dX11_toss_49 rfl (lv_at hl 1 rfl) ?_
          refine va_get (D := D) (ci := 9) (v := .int d_figure) (C := RX9) (T := TX9) (N := 7) hx hb hts hiX9 hown hK hP 2 rfl rfl 2 (by decide) hf130 (fun _ z => z) rfl dX11_toss_50 ?_
          have h := Option.some.inj h; subst h
          refine W.widen (k := 1) (n := 6) (Nat.le_of_ble_eq_true rfl) (Nat.le_of_ble_eq_true rfl) ?_
          exact hret _ _ _ _ hP hS dX11_toss_53
    · obtain rfl := V_fails_ok hv
      rw [hv] at h
      have h : some (-15) = some o := h
      refine lv_goto (tgt := 54) hx hb dX11_toss_23 (by decide) ?_
      refine lv_bipush (v := (-15)) hx hb dX11_toss_54 (by decide) ?_
      have h := Option.some.inj h; subst h
      refine W.widen (k := 1) (n := 6) (Nat.le_of_ble_eq_true rfl) (Nat.le_of_ble_eq_true rfl) ?_
      exact hret _ _ _ _ hP hS dX11_toss_56
  · have h := k_neg c7 h
    refine lv_iload_n hx hb dX11_toss_10 rfl (lv_at hl 0 rfl) ?_
    have h := Option.some.inj h; subst h
    refine W.widen (k := 1) (n := 6) (Nat.le_of_ble_eq_true rfl) (Nat.le_of_ble_eq_true rfl) ?_
    exact hret _ _ _ _ hP hS dX11_toss_11
def kX64 : Except String Int64 → Except String (Option Value)
  | .ok v => .ok (some (.long v))
  | .error E => .error E
theorem kXs.at {A : Nat → Prop} {U : State} (h : kXs A U U.heap) : vx_Zq Bundle.tN "UNASSIGNED_STACK" Bundle.steD A U U.heap ∧ vx_Zq Bundle.tN "SUPPRESSED_SENTINEL" Bundle.listD A U U.heap := h
def S_PL_element (x1 : Int32) (x2 : Int32) (d_size : Int32) (d_held : Int32) (d_el : Nat → Int32) : Option (Except String Int64) :=
  ((S_PL_isShelf x1).bind (fun r1 => (if r1 = 0 then some (.error "java/lang/IllegalArgumentException") else (if x1 < 0 ∨ 8 ≤ x1.toNatClampNeg then none else (if (S_Shelf_hasRow d_held) = 0 then some (.error "java/lang/IllegalStateException") else (if (S_Shelf_hasElement x2 d_size) = 0 then some (.error "java/lang/IllegalStateException") else (if x2 < 0 ∨ 100 ≤ x2.toNatClampNeg then none else some (.ok (((d_el x2.toNatClampNeg) : Int32).toInt64)))))))))
abbrev rm_X11_element : Room := { frames := 7, cells := 1, slots := 6, locals := 100 }
set_option maxHeartbeats 4000000 in
set_option maxRecDepth 100000 in
theorem x_PL_element (l : Launch) (hfl : l.stackTraces = false) (D : va_G) (cI cM cS cJ : ClassId) (aV : Nat → Nat) (aN : Nat → Nat) (aS : Nat → Nat) (aT : Nat → Nat) (aW : Nat → Nat) (aK : Nat → Nat) (aH : Nat → Nat → Nat) (dn : Nat) (sz : Nat) (x1 : Int32) (x2 : Int32) (v_hasImage : Int32) (d_kind : Int32) (d_figure : Int32) (d_sort : Int32) (d_size : Int32) (d_held : Int32) (d_el : Nat → Int32) (hdn : ¬ (x1 < 0 ∨ 8 ≤ x1.toNatClampNeg) → x1.toNatClampNeg = dn) {o : Except String Int64} (hsem : S_PL_element x1 x2 d_size d_held d_el = some o) : kMetX l yX11_element wsX11_element rm_X11_element [.ref (aV 0), .int x1, .int x2] D (kT cI cM cS cJ) (Wd37 cI cS aV aN aS aT aW aK aH dn v_hasImage d_kind d_figure d_sort d_size d_held d_el) sz (kX64 o) := by
  refine vx_ofW (cc := cX11_element) (maxL := 3) (ret := some .long) (by decide) rfl ?_
  intro p e s m args below meth c s₁ B hml htab hv
  obtain ⟨rfl, ⟨hsz, hP, hK, hD0, hN⟩, hX, hT⟩ := hv
  have hx := B.exec
  have hb := B.bytes
  have hts := atoms_spec (ws := wsX11_element) B.pre
  have hown : s.vm.findClass RX11 = some m.cls := findClass_of_methodNamed B.named
  subst hsz
  have hD := hD0.self (sz := s.heap.size)
  generalize hAe : va_A (Wd37 cI cS aV aN aS aT aW aK aH dn v_hasImage d_kind d_figure d_sort d_size d_held d_el) s.heap.size = A at hD hX ⊢
  have hA : ∀ q : Nat, s.heap.size ≤ q → A q := fun q h => by rw [← hAe]; exact Or.inr h
  have hS : va_S A s.heap s.heap [] := va_S.rf
  have hl := lv_entry [.ref (aV 0), .int x1, .int x2] (n := 3) (Nat.le_of_ble_eq_true rfl)
  rw [lg_entry_eq]
  generalize (lg_sl [.ref (aV 0), .int x1, .int x2] ++ List.replicate (3 - (lg_sl [.ref (aV 0), .int x1, .int x2]).length) Slot.unset).toArray = ls at hl ⊢
  have hown : s.vm.findClass RX11 = some m.cls := hown
  have hf59 := hts (.fieldLink RX11 59 "PlumbLine" "shelves" "[LPlumbLine$Shelf;") (List.mem_of_getElem? (i := 5) rfl)
  have hf88 := hts (.fieldLink RX11 88 "PlumbLine$Shelf" "elements" "[I") (List.mem_of_getElem? (i := 6) rfl)
  have hiX11 : ∀ w ∈ u_ws RX11 TX11 6, w ∈ wsX11_element := fun w h => List.mem_cons_of_mem _ (List.mem_append_left _ (List.mem_append_left _ (List.mem_append_left _ (List.mem_append_right _ h))))
  have hiX9 : ∀ w ∈ u_ws RX9 TX9 7, w ∈ wsX11_element := fun w h => List.mem_cons_of_mem _ (List.mem_append_left _ (List.mem_append_left _ (List.mem_append_right _ h)))
  replace hl : lv_has ls 3 [(0, .ref (aV 0)), (1, .int x1), (2, .int x2)] := hl
  have h := hsem
  clear hsem
  rw [S_PL_element] at h
  refine lv_iload_n hx hb dX11_element_0 rfl (lv_at hl 1 rfl) ?_
  obtain ⟨r1, g1, h⟩ := k_bind h
  refine k_callS (As := [.int x1]) (rest := []) (st1 := [.int r1]) (ws2 := (Wd37 cI cS aV aN aS aT aW aK aH dn v_hasImage d_kind d_figure d_sort d_size d_held d_el)) hx hb hml hown hts hK hN hA hP hD hS hl (c_PL_isShelf l D cI cM cS cJ s.heap.size x1 g1) gX11_element_X11_isShelf rfl kdS_X11_isShelf [] ⟨rfl, rfl⟩ ⟨Nat.le_of_ble_eq_true rfl, Nat.le_of_ble_eq_true rfl⟩ ⟨Nat.zero_le _, Nat.zero_le _⟩ rfl rfl (by decide +kernel) (k_rp rfl (by decide +kernel)) rfl rfl (Nat.le_of_ble_eq_true rfl) dX11_element_1 rfl (fun H locs hP hD hS => ?_)
  refine lv_if_ne (tgt := 18) hx hb dX11_element_4 (by decide) (fun c4 => ?_) (fun c4 => ?_)
  · have h := k_neg c4 h
    refine lv_aload_n hx hb dX11_element_18 rfl (lv_at hl 0 rfl) ?_
    refine va_get (D := D) (ci := 11) (v := .ref (aV 1)) (C := RX11) (T := TX11) (N := 6) hx hb hts hiX11 hown hK hP 0 rfl rfl 4 (by decide) hf59 (fun _ z => z) rfl dX11_element_19 ?_
    refine lv_iload_n hx hb dX11_element_22 rfl (lv_at hl 1 rfl) ?_
    obtain ⟨g23, h⟩ := k_guard h
    refine k_aldR (f := fun k => aH k 0) hx hb hK hP 1 2 rfl rfl g23 dX11_element_23 ?_
    rw [show x1.toNatClampNeg = dn from hdn g23]
    refine k_callV (As := []) (rest := []) (st1 := [.int (S_Shelf_hasRow d_held)]) (ws2 := (Wd37 cI cS aV aN aS aT aW aK aH dn v_hasImage d_kind d_figure d_sort d_size d_held d_el)) hx hb hml hown hts hK hN hA hP hD hS hl (c_Shelf_hasRow l D cI cM cS cJ (aH dn) aK H.size d_kind d_figure d_sort d_size d_held rfl) gX11_element_X9_hasRow rfl kdV_X9_hasRow 0 9 rfl rfl rfl [2] ⟨rfl, rfl⟩ ⟨Nat.le_of_ble_eq_true rfl, Nat.le_of_ble_eq_true rfl⟩ ⟨Nat.zero_le _, Nat.zero_le _⟩ rfl rfl (by decide +kernel) (k_rp rfl (by decide +kernel)) rfl rfl (Nat.le_of_ble_eq_true rfl) dX11_element_24 rfl (fun H locs hP hD hS => ?_)
    refine lv_if_eq (tgt := 43) hx hb dX11_element_27 (by decide) (fun c27 => ?_) (fun c27 => ?_)
    · have h := k_pos c27 h
      have h := Option.some.inj h; subst h; obtain ⟨sa, hstr⟩ := hT.2.1 _ (List.mem_of_getElem? (i := 4) rfl); exact vx_throwSW (own := RX11) (cls := "java/lang/IllegalStateException") (text := "no such element") (names := ["java/lang/RuntimeException", "java/lang/Exception"]) (ik := 292) (is := 294) (ic := 296) (mc := 1) (ms := 6) (sa := sa) (A := A) hx hb hfl hown (by decide +kernel) (by decide +kernel) (hts _ (List.mem_of_getElem? (i := 3) rfl)) (hts _ (List.mem_of_getElem? (i := 4) rfl)) hstr (vx_hat (B := [.castable "java/lang/IllegalStateException" "java/lang/IllegalStateException", .declares (Bundle.initS "java/lang/RuntimeException"), .declares (Bundle.initS "java/lang/Exception"), .declares (Bundle.initS Bundle.tN)]) (fun w hw => hts w (List.mem_cons_of_mem _ (List.mem_append_right _ hw))) (by decide +kernel) (vx_c (va_Nw.use rfl (hT.1 _ (List.mem_of_getElem? (i := 0) rfl))) (vx_c (va_Nw.use rfl (hT.2.2.2.2.2 _ (List.mem_of_getElem? (i := 0) rfl))) (vx_c (va_Nw.use rfl (hT.2.2.2.2.2 _ (List.mem_of_getElem? (i := 1) rfl))) (vx_c (va_Nw.use rfl (hT.2.2.2.2.2 _ (List.mem_of_getElem? (i := 2) rfl))) vx_n))))) (by decide +kernel) (kXs.at hX).1 (kXs.at hX).2 hS (hl.1.trans hml.symm) dX11_element_43 dX11_element_46 dX11_element_47 dX11_element_50 dX11_element_53 (fun x hx => (htab x hx).elim) (Nat.le_of_ble_eq_true rfl) (Nat.le_of_ble_eq_true rfl) (Nat.le_of_ble_eq_true rfl) (Nat.le_of_ble_eq_true rfl) B.notSynchronized (fun t h1 h2 h3 => ⟨rfl, hP.kept (fun k q hk => h3 q.1 (vx_lt hP hk)), Nat.le_trans hS.1 h2, fun q a b => (h3 q (Nat.lt_of_lt_of_le a hS.1)).trans (hS.2.1 q a b)⟩) (fun z hz => hS.2.2 z hz) (Nat.le_of_ble_eq_true rfl) (Nat.le_of_ble_eq_true rfl)
    · have h := k_neg c27 h
      refine lv_aload_n hx hb dX11_element_30 rfl (lv_at hl 0 rfl) ?_
      refine va_get (D := D) (ci := 11) (v := .ref (aV 1)) (C := RX11) (T := TX11) (N := 6) hx hb hts hiX11 hown hK hP 0 rfl rfl 4 (by decide) hf59 (fun _ z => z) rfl dX11_element_31 ?_
      refine lv_iload_n hx hb dX11_element_34 rfl (lv_at hl 1 rfl) ?_
      refine k_aldR (f := fun k => aH k 0) hx hb hK hP 1 2 rfl rfl g23 dX11_element_35 ?_
      rw [show x1.toNatClampNeg = dn from hdn g23]
      refine lv_iload_n hx hb dX11_element_36 rfl (lv_at hl 2 rfl) ?_
      refine k_callV (As := [.int x2]) (rest := []) (st1 := [.int (S_Shelf_hasElement x2 d_size)]) (ws2 := (Wd37 cI cS aV aN aS aT aW aK aH dn v_hasImage d_kind d_figure d_sort d_size d_held d_el)) hx hb hml hown hts hK hN hA hP hD hS hl (c_Shelf_hasElement l D cI cM cS cJ (aH dn) aK H.size x2 d_kind d_figure d_sort d_size d_held rfl) gX11_element_X9_hasElement rfl kdV_X9_hasElement 0 9 rfl rfl rfl [2] ⟨rfl, rfl⟩ ⟨Nat.le_of_ble_eq_true rfl, Nat.le_of_ble_eq_true rfl⟩ ⟨Nat.zero_le _, Nat.zero_le _⟩ rfl rfl (by decide +kernel) (k_rp rfl (by decide +kernel)) rfl rfl (Nat.le_of_ble_eq_true rfl) dX11_element_37 rfl (fun H locs hP hD hS => ?_)
      refine lv_if_ne (tgt := 54) hx hb dX11_element_40 (by decide) (fun c40 => ?_) (fun c40 => ?_)
      · have h := k_neg c40 h
        refine lv_aload_n hx hb dX11_element_54 rfl (lv_at hl 0 rfl) ?_
        refine va_get (D := D) (ci := 11) (v := .ref (aV 1)) (C := RX11) (T := TX11) (N := 6) hx hb hts hiX11 hown hK hP 0 rfl rfl 4 (by decide) hf59 (fun _ z => z) rfl dX11_element_55 ?_
        refine lv_iload_n hx hb dX11_element_58 rfl (lv_at hl 1 rfl) ?_
        refine k_aldR (f := fun k => aH k 0) hx hb hK hP 1 2 rfl rfl g23 dX11_element_59 ?_
        rw [show x1.toNatClampNeg = dn from hdn g23]
        refine va_get (D := D) (ci := 9) (v := .ref ((aH dn) 1)) (C := RX9) (T := TX9) (N := 7) hx hb hts hiX9 hown hK hP 2 rfl rfl 0 (by decide) hf88 (fun _ z => z) rfl dX11_element_60 ?_
        refine lv_iload_n hx hb dX11_element_63 rfl (lv_at hl 2 rfl) ?_
        obtain ⟨g64, h⟩ := k_guard h
        refine va_iald hx hb hK hP 3 0 rfl rfl g64 dX11_element_64 ?_
        refine lv_i2l (v := ((d_el x2.toNatClampNeg) : Int32).toInt64) hx hb dX11_element_65 rfl ?_
        have h := Option.some.inj h; subst h
        exact vx_ret (W.widen (k := 1) (n := 6) (Nat.le_of_ble_eq_true rfl) (Nat.le_of_ble_eq_true rfl) (W.lret hx hb B.returns (fun t ht _ => ⟨_, rfl, rfl, by rw [ht]; exact hP, hS.F ht⟩) hS.2.2 dX11_element_66 B.notSynchronized))
      · have h := k_pos c40 h
        have h := Option.some.inj h; subst h; obtain ⟨sa, hstr⟩ := hT.2.1 _ (List.mem_of_getElem? (i := 4) rfl); exact vx_throwSW (own := RX11) (cls := "java/lang/IllegalStateException") (text := "no such element") (names := ["java/lang/RuntimeException", "java/lang/Exception"]) (ik := 292) (is := 294) (ic := 296) (mc := 1) (ms := 6) (sa := sa) (A := A) hx hb hfl hown (by decide +kernel) (by decide +kernel) (hts _ (List.mem_of_getElem? (i := 3) rfl)) (hts _ (List.mem_of_getElem? (i := 4) rfl)) hstr (vx_hat (B := [.castable "java/lang/IllegalStateException" "java/lang/IllegalStateException", .declares (Bundle.initS "java/lang/RuntimeException"), .declares (Bundle.initS "java/lang/Exception"), .declares (Bundle.initS Bundle.tN)]) (fun w hw => hts w (List.mem_cons_of_mem _ (List.mem_append_right _ hw))) (by decide +kernel) (vx_c (va_Nw.use rfl (hT.1 _ (List.mem_of_getElem? (i := 0) rfl))) (vx_c (va_Nw.use rfl (hT.2.2.2.2.2 _ (List.mem_of_getElem? (i := 0) rfl))) (vx_c (va_Nw.use rfl (hT.2.2.2.2.2 _ (List.mem_of_getElem? (i := 1) rfl))) (vx_c (va_Nw.use rfl (hT.2.2.2.2.2 _ (List.mem_of_getElem? (i := 2) rfl))) vx_n))))) (by decide +kernel) (kXs.at hX).1 (kXs.at hX).2 hS (hl.1.trans hml.symm) dX11_element_43 dX11_element_46 dX11_element_47 dX11_element_50 dX11_element_53 (fun x hx => (htab x hx).elim) (Nat.le_of_ble_eq_true rfl) (Nat.le_of_ble_eq_true rfl) (Nat.le_of_ble_eq_true rfl) (Nat.le_of_ble_eq_true rfl) B.notSynchronized (fun t h1 h2 h3 => ⟨rfl, hP.kept (fun k q hk => h3 q.1 (vx_lt hP hk)), Nat.le_trans hS.1 h2, fun q a b => (h3 q (Nat.lt_of_lt_of_le a hS.1)).trans (hS.2.1 q a b)⟩) (fun z hz => hS.2.2 z hz) (Nat.le_of_ble_eq_true rfl) (Nat.le_of_ble_eq_true rfl)
  · have h := k_pos c4 h
    have h := Option.some.inj h; subst h; obtain ⟨sa, hstr⟩ := hT.2.1 _ (List.mem_of_getElem? (i := 3) rfl); exact vx_throwSW (own := RX11) (cls := "java/lang/IllegalArgumentException") (text := "no such shelf") (names := ["java/lang/RuntimeException", "java/lang/Exception"]) (ik := 282) (is := 284) (ic := 286) (mc := 1) (ms := 6) (sa := sa) (A := A) hx hb hfl hown (by decide +kernel) (by decide +kernel) (hts _ (List.mem_of_getElem? (i := 1) rfl)) (hts _ (List.mem_of_getElem? (i := 2) rfl)) hstr (vx_hat (B := [.castable "java/lang/IllegalArgumentException" "java/lang/IllegalArgumentException", .declares (Bundle.initS "java/lang/RuntimeException"), .declares (Bundle.initS "java/lang/Exception"), .declares (Bundle.initS Bundle.tN)]) (fun w hw => hts w (List.mem_cons_of_mem _ (List.mem_append_left _ (List.mem_append_right _ hw)))) (by decide +kernel) (vx_c (va_Nw.use rfl (hT.1 _ (List.mem_of_getElem? (i := 1) rfl))) (vx_c (va_Nw.use rfl (hT.2.2.2.2.2 _ (List.mem_of_getElem? (i := 0) rfl))) (vx_c (va_Nw.use rfl (hT.2.2.2.2.2 _ (List.mem_of_getElem? (i := 1) rfl))) (vx_c (va_Nw.use rfl (hT.2.2.2.2.2 _ (List.mem_of_getElem? (i := 2) rfl))) vx_n))))) (by decide +kernel) (kXs.at hX).1 (kXs.at hX).2 hS (hl.1.trans hml.symm) dX11_element_7 dX11_element_10 dX11_element_11 dX11_element_14 dX11_element_17 (fun x hx => (htab x hx).elim) (Nat.le_of_ble_eq_true rfl) (Nat.le_of_ble_eq_true rfl) (Nat.le_of_ble_eq_true rfl) (Nat.le_of_ble_eq_true rfl) B.notSynchronized (fun t h1 h2 h3 => ⟨rfl, hP.kept (fun k q hk => h3 q.1 (vx_lt hP hk)), Nat.le_trans hS.1 h2, fun q a b => (h3 q (Nat.lt_of_lt_of_le a hS.1)).trans (hS.2.1 q a b)⟩) (fun z hz => hS.2.2 z hz) (Nat.le_of_ble_eq_true rfl) (Nat.le_of_ble_eq_true rfl)
