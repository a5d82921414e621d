/-! constructors: contracts that make cells -/
def kCast : List String := [RX4, RX0, RX7, RX3, RX1, RX8, RX10, RX6]
def kC (U : State) : Prop := va_AO RX4 U ∧ va_AO RX9 U ∧ ∀ C ∈ kCast, va_Nw (.castable C RX4) U
theorem kC.warm {s U : State} (hW : s.WarmedH U.vm) (h : kC s) : kC U := ⟨va_AO.moved hW.alike h.1, va_AO.moved hW.alike h.2.1, fun C hC => va_Nw.warmC hW (h.2.2 C hC)⟩
theorem kC.same {u U : State} (hv : u.vm = U.vm) (h : kC u) : kC U := ⟨va_AO.moved (by rw [hv]; exact Vm.Alike.refl U.vm) h.1, va_AO.moved (by rw [hv]; exact Vm.Alike.refl U.vm) h.2.1, fun C hC => va_Nw.same rfl hv (h.2.2 C hC)⟩
def kPreC (D : va_G) (ty : List (ClassId × FieldType)) (ws : va_W) (sz : Nat) : State → Prop := fun U => kPre D ty ws sz U ∧ kC U
def kQn (D : va_G) (Wf : (Nat → Nat) → va_W) (A : Nat → Prop) : Array Value → State → Outcome → State → Prop := fun _ st oc t => (∃ q : Nat → Nat, oc = .returned none ∧ va_P D vwCl (Wf q) t.heap ∧ va_D A (Wf q)) ∧ va_F A st t
abbrev kMetC (l : Launch) (y : MethodName) (wy : List Cond) (rm : Room) (As : List Value) (D : va_G) (ty : List (ClassId × FieldType)) (W : va_W) (sz : Nat) (Wf : (Nat → Nat) → va_W) (mc ms : Nat) : Prop :=
  Met l y wy rm (va_Pc As (kPreC D ty W sz)) (kQn D Wf (va_A W sz)) mc ms (va_A W sz)
theorem k_blindC {As : List Value} {D : va_G} {ty : List (ClassId × FieldType)} {ws : va_W} {sz : Nat} : FrameBlind (va_Pc As (kPreC D ty ws sz)) := fun a U g mk q => by
  obtain ⟨q1, ⟨q2, q3, q4, q5, q6⟩, q7⟩ := q
  exact ⟨q1, ⟨q2, q3, va_K.moved (u := U) (U := U.calling g mk a) (Vm.Alike.refl U.vm) q4, q5, kN.same (u := U) (U := U.calling g mk a) rfl q6⟩, kC.same (u := U) (U := U.calling g mk a) rfl q7⟩
section KC
variable {p : Program} {l : Launch} {e : Env} {R : Room} {s : State} {m : MethodId} {args : Array Value} {below : List Frame} {meth : Method} {c : Code} {H : Heap} {locs : List Loc} {cells slots : Nat} {Q : State → Prop}
variable {cc : ByteArray} {pc : Nat} {ls : Array Slot} {rest st0 st1 : List Value} {D : va_G} {A : Nat → Prop} {ty : List (ClassId × FieldType)} {ws : va_W} {a : Array Value}
theorem k_goN {mc ms : Nat} {wc wr : va_W} {Wf : (Nat → Nat) → va_W} {isC isR : List Nat}
    (hr : va_Run p l e R s m args below meth c H locs cells slots mc ms (F0 m pc ls st0) rest (kQn D Wf (va_A wc H.size) a) (va_A wc H.size))
    (hP : va_P D vwCl ws H) (hD : va_D A ws) (hS : va_S A s.heap H locs) (hA : ∀ q, s.heap.size ≤ q → A q)
    (h1 : isC.map (fun i => ws[i]?) = wc.map some) (h2 : isR.map (fun i => ws[i]?) = wr.map some) (h3 : va_nd isR = true) (h4 : ∀ i ∈ isR, i ∉ isC)
    (kk : ∀ (q : Nat → Nat) (H1 : Heap) (locs1 : List Loc), va_P D vwCl (wr ++ Wf q) H1 → va_D A (wr ++ Wf q) → va_S A s.heap H1 locs1 → W p l e R s m args below meth c H1 locs1 (cells + mc) (slots + ms) Q (F0 m (pc + 3) ls rest)) : W p l e R s m args below meth c H locs cells slots Q (F0 m pc ls st0) := by
  intro T hT X
  obtain ⟨v, st₀, t, T', L, h0, X', hL, e1, e2, ⟨⟨q, hv, hb, hb2⟩, hz, hk⟩, st⟩ := hr T hT X
  cases hv
  rw [h0] at hz hk
  have hF := va_free (wc := wc) hD hS hA isC h1
  obtain ⟨j1, j2⟩ := va_join hP hD isC isR h1 h2 h3 h4 hk hF hb hb2
  obtain ⟨t2, a1, b1⟩ := kk q T'.heap (locs ++ L) (by rw [e1]; exact j1) j2
    ⟨Nat.le_trans hS.1 (by rw [e1]; exact hz), fun q g1 g2 => by rw [e1, hk q (Nat.lt_of_lt_of_le g1 hS.1) (fun z => g2 (hF q z))]; exact hS.2.1 q g1 g2, fun q hq => by
      rcases List.mem_append.mp hq with h | h
      · exact hS.2.2 q h
      · exact hF _ (hL q h)⟩ T' rfl X'
  exact ⟨t2, st t2 a1, b1⟩
theorem k_preC {isC : List Nat} {wc : va_W} {As : List Value} (hK : va_K D vwCl ty s) (hN : kN s) (hC : kC s) (hP : va_P D vwCl ws H) (hD : va_D A ws) (h1 : isC.map (fun i => ws[i]?) = wc.map some) (h3 : va_nd isC = true) : PreS s H (va_Pc As (kPreC D ty wc H.size)) As :=
  ⟨k_blindC, fun U hU hW => ⟨rfl, ⟨by rw [hU], by rw [hU]; exact hP.sub isC (k_filt h1), va_K.moved hW.alike hK, (hD.sub isC h3 h1).weaken (fun _ _ _ _ => trivial), kN.warm hW hN⟩, kC.warm hW hC⟩⟩
theorem k_callCI {own : String} {Ts wy wy' : List Cond} {nL maxL index n mc ms b : Nat} {lv : List (Nat × Value)} {y : MethodName} {bytes : ByteArray} {rm : Room} {As : List Value} {wc wr : va_W} {Wf : (Nat → Nat) → va_W} (hx : p.tables.exec = Jvm.exec) (hb : c.code = cc) (hml : c.maxLocals = nL) (hown : s.vm.findClass own = some m.cls) (hts : ∀ w ∈ Ts, w.before args s = true) (hK : va_K D vwCl ty s) (hN : kN s) (hC : kC s) (hA : ∀ q, s.heap.size ≤ q → A q) (hP : va_P D vwCl ws H) (hD : va_D A ws) (hS : va_S A s.heap H locs) (hl : lv_has ls nL lv)
    (hM : kMetC l y wy rm (.ref b :: As) D ty wc H.size Wf mc ms) (hG : GoodIn Ts wy) (hw : wy = Cond.code y bytes maxL none :: wy') (hini : (Cond.initialized y.cls).before args s = true) (hlk : (Cond.methodLink own index y).before args s = true) (hinm : (Cond.instanceMethod y).before args s = true) (hd : y.name = "<init>" ∧ y.cls ≠ "java/lang/invoke/MethodHandle" ∧ y.cls ≠ "java/lang/invoke/VarHandle" ∧ (parseMethodDescriptor y.desc).map (fun d => d.parameters.length) = some n)
    (isC isR : List Nat) (hrm : rm.cells = mc ∧ rm.slots = ms) (hR : rm.frames + 1 ≤ R.frames ∧ 8 + (maxL + 11) + rm.locals ≤ R.locals) (hcs : cells + mc ≤ R.cells ∧ slots + ms ≤ R.slots) (h1 : isC.map (fun i => ws[i]?) = wc.map some) (hnd : va_nd isC = true) (h2 : isR.map (fun i => ws[i]?) = wr.map some) (h3 : va_nd isR = true) (h4 : ∀ i ∈ isR, i ∉ isC) (hn : As.length = n) (hst : st0 = As.reverse ++ .ref b :: rest) (hW : (rest.map fun v => v.category).sum ≤ 8) (hdg : decode cc pc = .ok (.invokespecial index, 3))
    (kk : ∀ (q : Nat → Nat) (H1 : Heap) (locs1 : List Loc), va_P D vwCl (wr ++ Wf q) H1 → va_D A (wr ++ Wf q) → va_S A s.heap H1 locs1 → W p l e R s m args below meth c H1 locs1 (cells + mc) (slots + ms) Q (F0 m (pc + 3) ls rest)) : W p l e R s m args below meth c H locs cells slots Q (F0 m pc ls st0) :=
  k_goN (va_runI (As := As) (rest := rest) ⟨hx, hb, hml, hown, hts⟩ hM (cwI n hts hG hw hrm.1 hrm.2 hini hlk hinm hd.1 hd.2 hR) (k_preC hK hN hC hP hD h1 hnd) rfl hn hl.1 hst (lv_room hW) hdg hcs) hP hD hS hA h1 h2 h3 h4 kk
theorem k_callCN {own : String} {Ts wy wy' : List Cond} {nL maxL index n mc ms b : Nat} {lv : List (Nat × Value)} {y : MethodName} {bytes : ByteArray} {rm : Room} {As : List Value} {wc wr : va_W} {Wf : (Nat → Nat) → va_W} (hx : p.tables.exec = Jvm.exec) (hb : c.code = cc) (hml : c.maxLocals = nL) (hown : s.vm.findClass own = some m.cls) (hts : ∀ w ∈ Ts, w.before args s = true) (hK : va_K D vwCl ty s) (hN : kN s) (hC : kC s) (hA : ∀ q, s.heap.size ≤ q → A q) (hP : va_P D vwCl ws H) (hD : va_D A ws) (hS : va_S A s.heap H locs) (hl : lv_has ls nL lv)
    (hM : kMetC l y wy rm (.ref b :: As) D ty wc H.size Wf mc ms) (hG : GoodIn Ts wy) (hw : wy = Cond.code y bytes maxL none :: wy') (hini : (Cond.initialized y.cls).before args s = true) (hq : (own, index, y) ∈ kNest) (hinm : (Cond.instanceMethod y).before args s = true) (hd : y.name = "<init>" ∧ y.cls ≠ "java/lang/invoke/MethodHandle" ∧ y.cls ≠ "java/lang/invoke/VarHandle" ∧ (parseMethodDescriptor y.desc).map (fun d => d.parameters.length) = some n)
    (isC isR : List Nat) (hrm : rm.cells = mc ∧ rm.slots = ms) (hR : rm.frames + 1 ≤ R.frames ∧ 8 + (maxL + 11) + rm.locals ≤ R.locals) (hcs : cells + mc ≤ R.cells ∧ slots + ms ≤ R.slots) (h1 : isC.map (fun i => ws[i]?) = wc.map some) (hnd : va_nd isC = true) (h2 : isR.map (fun i => ws[i]?) = wr.map some) (h3 : va_nd isR = true) (h4 : ∀ i ∈ isR, i ∉ isC) (hn : As.length = n) (hst : st0 = As.reverse ++ .ref b :: rest) (hW : (rest.map fun v => v.category).sum ≤ 8) (hdg : decode cc pc = .ok (.invokespecial index, 3))
    (kk : ∀ (q : Nat → Nat) (H1 : Heap) (locs1 : List Loc), va_P D vwCl (wr ++ Wf q) H1 → va_D A (wr ++ Wf q) → va_S A s.heap H1 locs1 → W p l e R s m args below meth c H1 locs1 (cells + mc) (slots + ms) Q (F0 m (pc + 3) ls rest)) : W p l e R s m args below meth c H locs cells slots Q (F0 m pc ls st0) :=
  k_goN (va_runIN (As := As) (rest := rest) (host := RX11) ⟨hx, hb, hml, hown, hts⟩ hM ⟨va_cnB n hts hG hw hrm.1 hrm.2 (hN.1 _ hq) hini hd.2 hR, hd.1, hinm⟩ (k_preC hK hN hC hP hD h1 hnd) rfl hn hl.1 hst (lv_room hW) hdg hcs) hP hD hS hA h1 h2 h3 h4 kk
theorem k_newI {H0 : Heap} {cI cM cS cJ : ClassId} (hexec : p.tables.exec = Jvm.exec) (hb : c.code = cc) (harr : (Cond.arrayClass .int).before args s = true) (hK : va_K D vwCl (kT cI cM cS cJ) s) (hP : va_P D vwCl ws H) (hD : va_D A ws) (hS : va_S A H0 H locs) (hA : ∀ q, H0.size ≤ q → A q)
    {n : Int32} {N' : Nat} (hn : ¬ n < 0) (hN : n.toNatClampNeg = N') (hbytes : N' * 4 ≤ 536870912) (hcells : cells + 1 ≤ R.cells) (hslots : slots + N' ≤ R.slots) (hdg : decode cc pc = .ok (.newarray .int, 2))
    (kk : ∀ (q : Nat) (H1 : Heap), va_P D vwCl (ws ++ [(q, .inl (cI, N', .inl (fun _ => 0)))]) H1 → va_D A (ws ++ [(q, .inl (cI, N', .inl (fun _ => 0)))]) → va_S A H0 H1 locs →
      W p l e R s m args below meth c H1 locs (cells + 1) (slots + N') Q (F0 m (pc + 2) ls (.ref q :: rest))) : W p l e R s m args below meth c H locs cells slots Q (F0 m pc ls (.int n :: rest)) := by
  refine va_newa (atype := .int) (ty := .int) (a0 := (N', .inl (fun _ => 0))) hexec hb harr rfl hK hP hD hS hA (fun cA => rfl) hn hN hbytes hcells hslots hdg (fun q cA H1 k1 k2 k3 k4 => ?_)
  have e1 : s.vm.findClass ("[" ++ FieldType.int.toString) = some cI := (hK.2 0 _ rfl).2
  have e2 : s.vm.findClass ("[" ++ FieldType.int.toString) = some cA := (k1.2 4 _ rfl).2
  cases e1.symm.trans e2
  exact kk q H1 k2 k3 k4
theorem k_newR {H0 : Heap} (t0 : Nat) {cR : ClassId} {own C : String} {index : Nat} (hexec : p.tables.exec = Jvm.exec) (hb : c.code = cc) (hown : s.vm.findClass own = some m.cls) (hclink : (Cond.classLink own index C).before args s = true) (hover : va_AO C s) (hK : va_K D vwCl ty s) (ht : ty[t0]? = some (cR, .object C)) (hP : va_P D vwCl ws H) (hD : va_D A ws) (hS : va_S A H0 H locs) (hA : ∀ q, H0.size ≤ q → A q)
    {n : Int32} {N' : Nat} (hn : ¬ n < 0) (hN : n.toNatClampNeg = N') (hbytes : N' * 4 ≤ 536870912) (hcells : cells + 1 ≤ R.cells) (hslots : slots + N' ≤ R.slots) (hdg : decode cc pc = .ok (.anewarray index, 3))
    (kk : ∀ (q : Nat) (H1 : Heap), va_P D vwCl (ws ++ [(q, .inl (cR, N', .inr (.inr (.inr (.inr (fun _ => none))))))]) H1 → va_D A (ws ++ [(q, .inl (cR, N', .inr (.inr (.inr (.inr (fun _ => none))))))]) → va_S A H0 H1 locs →
      W p l e R s m args below meth c H1 locs (cells + 1) (slots + N') Q (F0 m (pc + 3) ls (.ref q :: rest))) : W p l e R s m args below meth c H locs cells slots Q (F0 m pc ls (.int n :: rest)) := by
  refine va_newq hexec hb hown hclink hover hK hP hD hS hA hn hN hbytes hcells hslots hdg (fun q cA H1 k1 k2 k3 k4 => ?_)
  obtain ⟨kA, comp, -, -, -, e1⟩ := (hK.2 t0 _ ht).2
  have hl : (ty ++ [(cA, FieldType.object C)])[ty.length]? = some (cA, .object C) := by simp
  obtain ⟨kA2, comp2, -, -, -, e2⟩ := (k1.2 ty.length _ hl).2
  cases e1.symm.trans e2
  exact kk q H1 k2 k3 k4
end KC
/-- a reference array's cell tells its rows' first n alone -/
theorem k_rowEq {D : va_G} {H : Heap} {ws ws' : va_W} {i : Nat} {q : Nat} {cR : ClassId} {n : Nat} {f g : Nat → Option Nat} (hP : va_P D vwCl ws H) (hi : ws[i]? = some (q, .inl (cR, n, .inr (.inr (.inr (.inr f)))))) (hfg : ∀ j, j < n → f j = g j) (hw : ws' = ws.set i (q, .inl (cR, n, .inr (.inr (.inr (.inr g)))))) : va_P D vwCl ws' H := by
  subst hw
  have hl := (List.getElem?_eq_some_iff.mp hi).1
  intro k x hk
  by_cases hki : k = i
  · subst hki
    rw [List.getElem?_set_self hl] at hk
    cases hk
    have h := hP k _ hi
    show H[q]? = some (vp_cell cR (n, .inr (.inr (.inr (.inr g)))))
    have h : H[q]? = some (vp_cell cR (n, .inr (.inr (.inr (.inr f))))) := h
    rw [h]
    have e : (Array.ofFn (n := n) fun j => va_rf (f j.val)) = Array.ofFn (n := n) fun j => va_rf (g j.val) := congrArg _ (funext fun j => by rw [hfg j.val j.isLt])
    show some (arrV cR n (fun j => va_rf (f j))) = some (arrV cR n (fun j => va_rf (g j)))
    unfold arrV
    rw [e]
  · rw [List.getElem?_set_ne (Ne.symm hki)] at hk
    exact hP k x hk
theorem k_metC {l : Launch} {y : MethodName} {wy wy' : List Cond} {bytes : ByteArray} {maxL : Nat} {rm : Room} {As : List Value} {D : va_G} {ty : List (ClassId × FieldType)} {W0 : va_W} {Wf : (Nat → Nat) → va_W} {sz mc ms : Nat} (hy : plainName y.cls = true) (hw : wy = Cond.code y bytes maxL none :: wy') (hlen : (lg_sl As).length ≤ maxL)
    (body : ∀ (p : Program) (e : Env) (s : State) (m : MethodId) (below : List Frame) (meth : Method) (c : Code) (ls : Array Slot) (Q : State → Prop) (A : Nat → Prop), p.tables.exec = Jvm.exec → c.code = bytes → c.maxLocals = maxL → (∀ w ∈ wy, w.before As.toArray s = true) → s.vm.findClass y.cls = some m.cls → va_K D vwCl ty s → kN s → kC s → (∀ q, s.heap.size ≤ q → A q) → va_P D vwCl W0 s.heap → va_D A W0 → va_S A s.heap s.heap [] → lv_has ls maxL (lv_args 0 As) → s.heap.size = sz → meth.name = y.name →
      (∀ (H : Heap) (locs : List Loc) (pc : Nat) (ls : Array Slot) (q : Nat → Nat), va_P D vwCl (Wf q) H → va_D A (Wf q) → va_S A s.heap H locs → decode bytes pc = .ok (.return_, 1) → W p l e rm s m As.toArray below meth c H locs mc ms Q (F0 m pc ls [])) →
      W p l e rm s m As.toArray below meth c s.heap [] 0 0 Q (F0 m 0 ls [])) : kMetC l y wy rm As D ty W0 sz Wf mc ms := by
  refine Met.ofW (cc := bytes) (maxL := maxL) (ret := none) hy hw ?_
  intro p e s m args below meth c s₁ B hml hv
  obtain ⟨rfl, ⟨hsz, hP, hK, hD0, hN⟩, hC⟩ := hv
  have hx := B.exec
  have hb := B.bytes
  have hts := atoms_spec (ws := wy) B.pre
  have hown : s.vm.findClass y.cls = some m.cls := findClass_of_methodNamed B.named
  have hnm : meth.name = y.name := (name_of_methodNamed B.named B.method).1
  subst hsz
  have hD := hD0.self (sz := s.heap.size)
  generalize hAe : va_A W0 s.heap.size = A at hD ⊢
  have hA : ∀ q : Nat, s.heap.size ≤ q → A q := fun q h => by rw [← hAe]; exact Or.inr h
  have hl := lv_entry As (n := maxL) hlen
  rw [lg_entry_eq]
  generalize (lg_sl As ++ List.replicate (maxL - (lg_sl As).length) Slot.unset).toArray = ls at hl ⊢
  refine body p e s m below meth c ls _ A hx hb hml hts hown hK hN hC hA hP hD va_S.rf hl rfl hnm ?_
  · intro H locs pc ls q h1 h0 h2 hd
    exact W.vret hx hb B.returns (fun t ht hW => ⟨⟨q, rfl, by rw [ht]; exact h1, h0⟩, h2.F ht⟩) h2.2.2 hd B.notSynchronized
