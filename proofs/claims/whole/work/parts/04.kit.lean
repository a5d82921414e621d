/-! uniform contracts over moving worlds: one form for every method of class and reference -/
abbrev kT (cI cM cS cJ : ClassId) : List (ClassId × FieldType) := [(cI, .int), (cM, .object "PlumbLine$Man"), (cS, .object "PlumbLine$Shelf"), (cJ, .long)]
/-- links between nest mates: own class, place in its pool, the method -/
def kNest : List (String × Nat × MethodName) := [(RX11, 9, yX4_init), (RX11, 12, yX0_init), (RX11, 15, yX7_init), (RX11, 18, yX3_init), (RX11, 21, yX1_init), (RX11, 24, yX8_init), (RX11, 27, yX10_init), (RX11, 30, yX6_init), (RX0, 1, yX4_init), (RX1, 1, yX0_init), (RX3, 1, yX4_init), (RX6, 1, yX3_init), (RX7, 1, yX4_init), (RX8, 1, yX7_init), (RX10, 1, yX1_init), (RX2, 93, yX11_isIn), (RX9, 63, yX11_isIn), (RX5, 121, yX11_power)]
/-- words beyond the printed lists: stepTowards, which kinds inherit, and super.discountAt of a PARTNER, which a CLERK inherits -/
def kExtra : List Cond := [.methodLink RX3 7 ⟨RX3, "stepTowards", "(III)I"⟩, .sameMethod RX3 RX4 "stepTowards" "(III)I", .methodLink RX7 7 ⟨RX7, "stepTowards", "(III)I"⟩, .sameMethod RX7 RX4 "stepTowards" "(III)I", .methodLink RX8 7 ⟨RX8, "stepTowards", "(III)I"⟩, .sameMethod RX8 RX4 "stepTowards" "(III)I", .static yX4_stepTowards, .code yX4_stepTowards cX4_stepTowards 4 (some .int), .methodLink RX6 11 ⟨RX3, "discountAt", "(II)I"⟩, .sameMethod RX3 RX4 "discountAt" "(II)I", .superclass RX6 RX3, .superclass RX3 RX4, .instanceMethod yX4_discountAt, .initialized RX4, .code yX4_discountAt cX4_discountAt 3 (some .int)]
theorem kExtra_ok : ∀ w ∈ kExtra, (w.onTables && w.keeps) = true := by decide +kernel
def kN (U : State) : Prop := (∀ q ∈ kNest, va_Nw (.methodLinkNest q.1 q.2.1 q.2.2 RX11) U) ∧ ∀ w ∈ kExtra, va_Nw w U
theorem kN.warm {s U : State} (hW : s.WarmedH U.vm) (h : kN s) : kN U := ⟨fun q hq => va_Nw.warmM hW (h.1 q hq), fun w hw => word_at hW (Or.inl (kExtra_ok w hw)) (h.2 w hw)⟩
theorem kN.same {u U : State} (hv : u.vm = U.vm) (h : kN u) : kN U := ⟨fun q hq => va_Nw.same (by first | rfl | decide) hv (h.1 q hq), fun w hw => va_Nw.same (by have z := kExtra_ok w hw; simp only [Bool.and_eq_true] at z; exact z.1) hv (h.2 w hw)⟩
def kPre (D : va_G) (ty : List (ClassId × FieldType)) (ws : va_W) (sz : Nat) : State → Prop := fun U => U.heap.size = sz ∧ va_P D vwCl ws U.heap ∧ va_K D vwCl ty U ∧ va_D (fun _ => True) ws ∧ kN U
def kQ (o : Option Value) (D : va_G) (ws : va_W) (A : Nat → Prop) : Array Value → State → Outcome → State → Prop := fun _ st oc t => (oc = .returned o ∧ va_P D vwCl ws t.heap) ∧ va_F A st t
/-- a contract: from the world W the method answers o and leaves the world W' -/
abbrev kMet (l : Launch) (y : MethodName) (wy : List Cond) (rm : Room) (As : List Value) (D : va_G) (ty : List (ClassId × FieldType)) (W : va_W) (sz : Nat) (o : Option Value) (W' : va_W) : Prop :=
  Met l y wy rm (va_Pc As (kPre D ty W sz)) (kQ o D W' (va_A W sz)) 0 0 (va_A W sz)
theorem k_blind {As : List Value} {D : va_G} {ty : List (ClassId × FieldType)} {ws : va_W} {sz : Nat} : FrameBlind (va_Pc As (kPre D ty ws sz)) := fun a U g mk q => by
  obtain ⟨q1, q2, q3, q4, q5, q6⟩ := q
  exact ⟨q1, q2, q3, va_K.moved (u := U) (U := U.calling g mk a) (Vm.Alike.refl U.vm) q4, q5, kN.same (u := U) (U := U.calling g mk a) rfl q6⟩
def k_repl : va_W → List Nat → va_W → va_W
  | ws, i :: is, c :: cs => k_repl (ws.set i c) is cs
  | ws, _, _ => ws
theorem k_replG : ∀ (is : List Nat) (cs ws : va_W), is.length = cs.length → va_nd is = true → ∀ (k : Nat) (q : Nat × va_E), (k_repl ws is cs)[k]? = some q → (∃ j : Nat, is[j]? = some k ∧ cs[j]? = some q) ∨ (k ∉ is ∧ ws[k]? = some q)
  | [], [], ws, _, _, k, q, h => Or.inr ⟨List.not_mem_nil, h⟩
  | [], _ :: _, ws, hl, _, k, q, h => by simp at hl
  | _ :: _, [], ws, hl, _, k, q, h => by simp at hl
  | i :: is, c :: cs, ws, hl, hn, k, q, h => by
    simp only [va_nd, Bool.and_eq_true, decide_eq_true_eq] at hn
    rcases k_replG is cs (ws.set i c) (by simpa using hl) hn.2 k q h with ⟨j, h1, h2⟩ | ⟨h1, h2⟩
    · exact Or.inl ⟨j + 1, by simpa using h1, by simpa using h2⟩
    · by_cases hk : k = i
      · subst hk
        have hlt : k < ws.length := by
          have := (List.getElem?_eq_some_iff.mp h2).1
          simpa using this
        rw [List.getElem?_set_self hlt] at h2
        cases h2
        exact Or.inl ⟨0, rfl, rfl⟩
      · rw [List.getElem?_set_ne (Ne.symm hk)] at h2
        exact Or.inr ⟨by simp [hk, h1], h2⟩
theorem k_mapAt {ws w : va_W} {is : List Nat} (hs : is.map (fun i => ws[i]?) = w.map some) (k : Nat) (q : Nat × va_E) (hq : w[k]? = some q) : ∃ i, is[k]? = some i ∧ ws[i]? = some q := by
  have h1 : (is.map (fun i => ws[i]?))[k]? = some (some q) := by rw [hs, List.getElem?_map, hq]; rfl
  rw [List.getElem?_map] at h1
  cases hi : is[k]? with
  | none => rw [hi] at h1; cases h1
  | some i => rw [hi] at h1; exact ⟨i, rfl, Option.some.inj h1⟩
theorem k_mapLen {ws w : va_W} {is : List Nat} (hs : is.map (fun i => ws[i]?) = w.map some) : is.length = w.length := by
  have h := congrArg List.length hs
  simpa using h
theorem k_filt {ws w : va_W} {is : List Nat} (hs : is.map (fun i => ws[i]?) = w.map some) : is.filterMap (fun i => ws[i]?) = w := by
  induction is generalizing w with
  | nil => cases w with
    | nil => rfl
    | cons _ _ => simp at hs
  | cons i is ih => cases w with
    | nil => simp at hs
    | cons a w =>
      simp only [List.map_cons, List.cons.injEq] at hs
      rw [List.filterMap_cons, hs.1]
      simp only [ih hs.2]
theorem k_replA {ws wc wc' : va_W} {isC : List Nat} (h1 : isC.map (fun i => ws[i]?) = wc.map some) (h2 : wc'.map Prod.fst = wc.map Prod.fst) (h3 : va_nd isC = true) (k : Nat) (q : Nat × va_E) (h : (k_repl ws isC wc')[k]? = some q) : (∃ j : Nat, isC[j]? = some k ∧ wc'[j]? = some q ∧ ∃ q0, ws[k]? = some q0 ∧ q0.1 = q.1) ∨ (k ∉ isC ∧ ws[k]? = some q) := by
  have hlen : isC.length = wc'.length := by
    rw [k_mapLen h1]
    have h := congrArg List.length h2
    simpa using h.symm
  rcases k_replG isC wc' ws hlen h3 k q h with ⟨j, a1, a2⟩ | ⟨a1, a2⟩
  · refine Or.inl ⟨j, a1, a2, ?_⟩
    have e : (wc'.map Prod.fst)[j]? = some q.1 := by rw [List.getElem?_map, a2]; rfl
    rw [h2, List.getElem?_map] at e
    cases hw : wc[j]? with
    | none => rw [hw] at e; cases e
    | some q0 =>
      rw [hw] at e
      obtain ⟨i, b1, b2⟩ := k_mapAt h1 j q0 hw
      rw [a1] at b1
      cases b1
      exact ⟨q0, b2, Option.some.inj e⟩
  · exact Or.inr ⟨a1, a2⟩
theorem k_replD {A : Nat → Prop} {ws wc wc' : va_W} {isC : List Nat} (hD : va_D A ws) (h1 : isC.map (fun i => ws[i]?) = wc.map some) (h2 : wc'.map Prod.fst = wc.map Prod.fst) (h3 : va_nd isC = true) : va_D A (k_repl ws isC wc') := by
  have key : ∀ (k : Nat) (q : Nat × va_E), (k_repl ws isC wc')[k]? = some q → ∃ q0, ws[k]? = some q0 ∧ q0.1 = q.1 := by
    intro k q h
    rcases k_replA h1 h2 h3 k q h with ⟨_, _, _, a⟩ | ⟨_, a⟩
    · exact a
    · exact ⟨q, a, rfl⟩
  refine ⟨fun i j x y hi hj hxy => ?_, fun k q hk => ?_⟩
  · obtain ⟨x0, a1, a2⟩ := key i x hi
    obtain ⟨y0, a3, a4⟩ := key j y hj
    exact hD.1 i j x0 y0 a1 a3 (a2.trans (hxy.trans a4.symm))
  · obtain ⟨q0, a1, a2⟩ := key k q hk
    rw [← a2]
    exact hD.2 k q0 a1
theorem k_replP {D : va_G} {A : Nat → Prop} {ws wc wc' : va_W} {isC : List Nat} {H H1 : Heap} (hP : va_P D vwCl ws H) (hD : va_D A ws) (h1 : isC.map (fun i => ws[i]?) = wc.map some) (h2 : wc'.map Prod.fst = wc.map Prod.fst) (h3 : va_nd isC = true) (hk : ∀ q : Nat, q < H.size → ¬ va_A wc H.size q → H1[q]? = H[q]?) (hP1 : va_P D vwCl wc' H1) : va_P D vwCl (k_repl ws isC wc') H1 := by
  intro k q h
  rcases k_replA h1 h2 h3 k q h with ⟨j, _, a2, _⟩ | ⟨a1, a2⟩
  · exact hP1 j q a2
  · have hl := (hP k q a2).lt
    refine (hP k q a2).kept (hk q.1 hl (fun hh => ?_))
    rcases hh with ⟨k2, e, hh⟩ | hh
    · obtain ⟨i, b1, b2⟩ := k_mapAt h1 k2 (q.1, e) hh
      have hki := hD.1 k i q (q.1, e) a2 b2 rfl
      subst hki
      exact a1 (List.mem_of_getElem? b1)
    · omega
section KG
variable {p : Program} {l : Launch} {e : Env} {R : Room} {s : State} {m : MethodId} {args : Array Value} {below : List Frame} {meth : Method} {c : Code} {H : Heap} {locs : List Loc} {cells slots : Nat} {Q : State → Prop}
variable {cc : ByteArray} {pc : Nat} {ls : Array Slot} {rest st0 st1 : List Value} {D : va_G} {A : Nat → Prop} {ty : List (ClassId × FieldType)} {ws : va_W} {a : Array Value}
theorem k_go {wc wc' ws2 : va_W} {o : Option Value} {isC : List Nat}
    (hr : va_Run p l e R s m args below meth c H locs cells slots 0 0 (F0 m pc ls st0) rest (kQ o D wc' (va_A wc H.size) a) (va_A wc H.size))
    (hP : va_P D vwCl ws H) (hD : va_D A ws) (hS : va_S A s.heap H locs) (hA : ∀ q, s.heap.size ≤ q → A q)
    (h1 : isC.map (fun i => ws[i]?) = wc.map some) (h2 : wc'.map Prod.fst = wc.map Prod.fst) (h3 : va_nd isC = true) (h4 : k_repl ws isC wc' = ws2) (h5 : o.toList ++ rest = st1)
    (kk : ∀ (H1 : Heap) (locs1 : List Loc), va_P D vwCl ws2 H1 → va_D A ws2 → va_S A s.heap H1 locs1 → W p l e R s m args below meth c H1 locs1 cells slots Q (F0 m (pc + 3) ls st1)) : W p l e R s m args below meth c H locs cells slots Q (F0 m pc ls st0) := by
  intro T hT X
  obtain ⟨v, st₀, t, T', L, h0, X', hL, e1, e2, ⟨⟨hv, hb⟩, hz, hk⟩, st⟩ := hr T hT X
  cases hv
  rw [h0] at hz hk
  subst h4
  subst h5
  have hF := va_free (wc := wc) hD hS hA isC h1
  obtain ⟨t2, a1, b1⟩ := kk T'.heap (locs ++ L) (by rw [e1]; exact k_replP hP hD h1 h2 h3 hk hb) (k_replD hD h1 h2 h3)
    ⟨Nat.le_trans hS.1 (by rw [e1]; exact hz), fun q g1 g2 => by rw [e1, hk q (Nat.lt_of_lt_of_le g1 hS.1) (fun z => g2 (hF q z))]; exact hS.2.1 q g1 g2, fun q hq => by
      rcases List.mem_append.mp hq with h | h
      · exact hS.2.2 q h
      · exact hF _ (hL q h)⟩ T' rfl X'
  exact ⟨t2, st t2 a1, b1⟩
theorem k_preS {isC : List Nat} {wc : va_W} {As : List Value} (hK : va_K D vwCl ty s) (hN : kN s) (hP : va_P D vwCl ws H) (hD : va_D A ws) (h1 : isC.map (fun i => ws[i]?) = wc.map some) (h3 : va_nd isC = true) : PreS s H (va_Pc As (kPre D ty wc H.size)) As :=
  ⟨k_blind, fun U hU hW => ⟨rfl, by rw [hU], by rw [hU]; exact hP.sub isC (k_filt h1), va_K.moved hW.alike hK, (hD.sub isC h3 h1).weaken (fun _ _ _ _ => trivial), kN.warm hW hN⟩⟩
theorem k_preV {isC : List Nat} {wc : va_W} {As : List Value} {b q0 ci : Nat} {fs : List Value} {C : String} {q : vw_C} (hK : va_K D vwCl ty s) (hN : kN s) (hP : va_P D vwCl ws H) (hD : va_D A ws) (h1 : isC.map (fun i => ws[i]?) = wc.map some) (h3 : va_nd isC = true) (he : wc[q0]? = some (b, .inr (ci, fs))) (hc : vwCl[ci]? = some q) (hC : q.1 = C) : PreV s H C b (va_Pc (.ref b :: As) (kPre D ty wc H.size)) As := by
  subst hC
  exact ⟨k_blind, va_recv hK (hP.sub isC (k_filt h1)) hc he, fun U hU hW => ⟨rfl, by rw [hU], by rw [hU]; exact hP.sub isC (k_filt h1), va_K.moved hW.alike hK, (hD.sub isC h3 h1).weaken (fun _ _ _ _ => trivial), kN.warm hW hN⟩⟩
theorem k_callV {own : String} {Ts wy wy' : List Cond} {nL maxL index n : Nat} {lv : List (Nat × Value)} {y : MethodName} {bytes : ByteArray} {ret : Option FieldType} {rm : Room} {As : List Value} {wc wc' ws2 : va_W} {o : Option Value} {C : String} {b : Nat} {q : vw_C} {fs : List Value} (hx : p.tables.exec = Jvm.exec) (hb : c.code = cc) (hml : c.maxLocals = nL) (hown : s.vm.findClass own = some m.cls) (hts : ∀ w ∈ Ts, w.before args s = true) (hK : va_K D vwCl ty s) (hN : kN s) (hA : ∀ q, s.heap.size ≤ q → A q) (hP : va_P D vwCl ws H) (hD : va_D A ws) (hS : va_S A s.heap H locs) (hl : lv_has ls nL lv)
    (hM : kMet l y wy rm (.ref b :: As) D ty wc H.size o wc') (hG : GoodIn Ts (wsV own index C y wy)) (hw : wy = Cond.code y bytes maxL ret :: wy') (hd : y.cls = C ∧ y.cls ≠ "java/lang/invoke/MethodHandle" ∧ y.cls ≠ "java/lang/invoke/VarHandle" ∧ (parseMethodDescriptor y.desc).map (fun d => d.parameters.length) = some n) (q0 ci : Nat) (he : wc[q0]? = some (b, .inr (ci, fs))) (hc : vwCl[ci]? = some q) (hC : q.1 = C)
    (isC : List Nat) (hrm : rm.cells = 0 ∧ rm.slots = 0) (hR : rm.frames + 1 ≤ R.frames ∧ 8 + (maxL + 11) + rm.locals ≤ R.locals) (hcs : cells ≤ R.cells ∧ slots ≤ R.slots) (h1 : isC.map (fun i => ws[i]?) = wc.map some) (h2 : wc'.map Prod.fst = wc.map Prod.fst) (h3 : va_nd isC = true) (h4 : k_repl ws isC wc' = ws2) (hn : As.length = n) (hst : st0 = As.reverse ++ .ref b :: rest) (hW : (rest.map fun v => v.category).sum ≤ 8) (hdg : decode cc pc = .ok (.invokevirtual index, 3)) (h5 : o.toList ++ rest = st1)
    (kk : ∀ (H1 : Heap) (locs1 : List Loc), va_P D vwCl ws2 H1 → va_D A ws2 → va_S A s.heap H1 locs1 → W p l e R s m args below meth c H1 locs1 cells slots Q (F0 m (pc + 3) ls st1)) : W p l e R s m args below meth c H locs cells slots Q (F0 m pc ls st0) :=
  k_go (va_runV (As := As) (rest := rest) ⟨hx, hb, hml, hown, hts⟩ hM (cwV n hts hG hw hrm.1 hrm.2 hd hR) (k_preV hK hN hP hD h1 h3 he hc hC) rfl hn hl.1 hst (lv_room hW) hdg ⟨hcs.1, hcs.2⟩) hP hD hS hA h1 h2 h3 h4 h5 kk
theorem k_callU {own : String} {Ts wy wy' : List Cond} {nL maxL index n : Nat} {lv : List (Nat × Value)} {y : MethodName} {bytes : ByteArray} {ret : Option FieldType} {rm : Room} {As : List Value} {wc wc' ws2 : va_W} {o : Option Value} {C owner : String} {x : MethodName} {b : Nat} {q : vw_C} {fs : List Value} (hx : p.tables.exec = Jvm.exec) (hb : c.code = cc) (hml : c.maxLocals = nL) (hown : s.vm.findClass own = some m.cls) (hts : ∀ w ∈ Ts, w.before args s = true) (hK : va_K D vwCl ty s) (hN : kN s) (hA : ∀ q, s.heap.size ≤ q → A q) (hP : va_P D vwCl ws H) (hD : va_D A ws) (hS : va_S A s.heap H locs) (hl : lv_has ls nL lv)
    (hM : kMet l y wy rm (.ref b :: As) D ty wc H.size o wc') (cw : va_CU R s args own C owner index x y bytes maxL ret wy rm 0 0 n) (q0 ci : Nat) (he : wc[q0]? = some (b, .inr (ci, fs))) (hc : vwCl[ci]? = some q) (hC : q.1 = C)
    (isC : List Nat) (hcs : cells ≤ R.cells ∧ slots ≤ R.slots) (h1 : isC.map (fun i => ws[i]?) = wc.map some) (h2 : wc'.map Prod.fst = wc.map Prod.fst) (h3 : va_nd isC = true) (h4 : k_repl ws isC wc' = ws2) (hn : As.length = n) (hst : st0 = As.reverse ++ .ref b :: rest) (hW : (rest.map fun v => v.category).sum ≤ 8) (hdg : decode cc pc = .ok (.invokevirtual index, 3)) (h5 : o.toList ++ rest = st1)
    (kk : ∀ (H1 : Heap) (locs1 : List Loc), va_P D vwCl ws2 H1 → va_D A ws2 → va_S A s.heap H1 locs1 → W p l e R s m args below meth c H1 locs1 cells slots Q (F0 m (pc + 3) ls st1)) : W p l e R s m args below meth c H locs cells slots Q (F0 m pc ls st0) :=
  k_go (va_runU (As := As) (rest := rest) ⟨hx, hb, hml, hown, hts⟩ hM cw (k_preV hK hN hP hD h1 h3 he hc hC) rfl hn hl.1 hst (lv_room hW) hdg ⟨hcs.1, hcs.2⟩) hP hD hS hA h1 h2 h3 h4 h5 kk
theorem k_callSU {own : String} {Ts wy wy' : List Cond} {nL maxL index n : Nat} {lv : List (Nat × Value)} {y : MethodName} {bytes : ByteArray} {ret : Option FieldType} {rm : Room} {As : List Value} {wc wc' ws2 : va_W} {o : Option Value} {b : Nat} {q : vw_C} {fs : List Value} (hx : p.tables.exec = Jvm.exec) (hb : c.code = cc) (hml : c.maxLocals = nL) (hown : s.vm.findClass own = some m.cls) (hts : ∀ w ∈ Ts, w.before args s = true) (hK : va_K D vwCl ty s) (hN : kN s) (hA : ∀ q, s.heap.size ≤ q → A q) (hP : va_P D vwCl ws H) (hD : va_D A ws) (hS : va_S A s.heap H locs) (hl : lv_has ls nL lv)
    (hM : kMet l y wy rm (.ref b :: As) D ty wc H.size o wc') (hG : GoodIn Ts (va_wsSU own index y wy)) (hw : wy = Cond.code y bytes maxL ret :: wy') (hd : y.name ≠ "<init>" ∧ (parseMethodDescriptor y.desc).map (fun d => d.parameters.length) = some n) (q0 ci : Nat) (he : wc[q0]? = some (b, .inr (ci, fs))) (hc : vwCl[ci]? = some q)
    (isC : List Nat) (hrm : rm.cells = 0 ∧ rm.slots = 0) (hR : rm.frames + 1 ≤ R.frames ∧ 8 + (maxL + 11) + rm.locals ≤ R.locals) (hcs : cells ≤ R.cells ∧ slots ≤ R.slots) (h1 : isC.map (fun i => ws[i]?) = wc.map some) (h2 : wc'.map Prod.fst = wc.map Prod.fst) (h3 : va_nd isC = true) (h4 : k_repl ws isC wc' = ws2) (hn : As.length = n) (hst : st0 = As.reverse ++ .ref b :: rest) (hW : (rest.map fun v => v.category).sum ≤ 8) (hdg : decode cc pc = .ok (.invokespecial index, 3)) (h5 : o.toList ++ rest = st1)
    (kk : ∀ (H1 : Heap) (locs1 : List Loc), va_P D vwCl ws2 H1 → va_D A ws2 → va_S A s.heap H1 locs1 → W p l e R s m args below meth c H1 locs1 cells slots Q (F0 m (pc + 3) ls st1)) : W p l e R s m args below meth c H locs cells slots Q (F0 m pc ls st0) :=
  k_go (va_runSU (As := As) (rest := rest) (C := q.1) (hK.1 ci q hc).2 ⟨hx, hb, hml, hown, hts⟩ hM (va_cwSU n hts hG hw hrm.1 hrm.2 hd hR) (k_preV hK hN hP hD h1 h3 he hc rfl) rfl hn hl.1 hst (lv_room hW) hdg ⟨hcs.1, hcs.2⟩) hP hD hS hA h1 h2 h3 h4 h5 kk
theorem k_callS {own : String} {Ts wy wy' : List Cond} {nL maxL index n : Nat} {lv : List (Nat × Value)} {y : MethodName} {bytes : ByteArray} {ret : Option FieldType} {rm : Room} {As : List Value} {wc wc' ws2 : va_W} {o : Option Value} (hx : p.tables.exec = Jvm.exec) (hb : c.code = cc) (hml : c.maxLocals = nL) (hown : s.vm.findClass own = some m.cls) (hts : ∀ w ∈ Ts, w.before args s = true) (hK : va_K D vwCl ty s) (hN : kN s) (hA : ∀ q, s.heap.size ≤ q → A q) (hP : va_P D vwCl ws H) (hD : va_D A ws) (hS : va_S A s.heap H locs) (hl : lv_has ls nL lv)
    (hM : kMet l y wy rm As D ty wc H.size o wc') (hG : GoodIn Ts (va_wsS own index y wy)) (hw : wy = Cond.code y bytes maxL ret :: wy') (hd : y.cls ≠ "java/lang/invoke/MethodHandle" ∧ y.cls ≠ "java/lang/invoke/VarHandle" ∧ (parseMethodDescriptor y.desc).map (fun d => d.parameters.length) = some n)
    (isC : List Nat) (hrm : rm.cells = 0 ∧ rm.slots = 0) (hR : rm.frames + 1 ≤ R.frames ∧ 8 + (maxL + 11) + rm.locals ≤ R.locals) (hcs : cells ≤ R.cells ∧ slots ≤ R.slots) (h1 : isC.map (fun i => ws[i]?) = wc.map some) (h2 : wc'.map Prod.fst = wc.map Prod.fst) (h3 : va_nd isC = true) (h4 : k_repl ws isC wc' = ws2) (hn : As.length = n) (hst : st0 = As.reverse ++ rest) (hW : (rest.map fun v => v.category).sum ≤ 8) (hdg : decode cc pc = .ok (.invokestatic index, 3)) (h5 : o.toList ++ rest = st1)
    (kk : ∀ (H1 : Heap) (locs1 : List Loc), va_P D vwCl ws2 H1 → va_D A ws2 → va_S A s.heap H1 locs1 → W p l e R s m args below meth c H1 locs1 cells slots Q (F0 m (pc + 3) ls st1)) : W p l e R s m args below meth c H locs cells slots Q (F0 m pc ls st0) :=
  k_go (va_runS (As := As) (rest := rest) ⟨hx, hb, hml, hown, hts⟩ hM (va_cwS n hts hG hw hrm.1 hrm.2 hd hR) (k_preS hK hN hP hD h1 h3) rfl hn hl.1 hst (lv_room hW) hdg ⟨hcs.1, hcs.2⟩) hP hD hS hA h1 h2 h3 h4 h5 kk
theorem k_callN {own : String} {Ts wy wy' : List Cond} {nL maxL index n : Nat} {lv : List (Nat × Value)} {y : MethodName} {bytes : ByteArray} {ret : Option FieldType} {rm : Room} {As : List Value} {wc wc' ws2 : va_W} {o : Option Value} (hx : p.tables.exec = Jvm.exec) (hb : c.code = cc) (hml : c.maxLocals = nL) (hown : s.vm.findClass own = some m.cls) (hts : ∀ w ∈ Ts, w.before args s = true) (hK : va_K D vwCl ty s) (hN : kN s) (hA : ∀ q, s.heap.size ≤ q → A q) (hP : va_P D vwCl ws H) (hD : va_D A ws) (hS : va_S A s.heap H locs) (hl : lv_has ls nL lv)
    (hM : kMet l y wy rm As D ty wc H.size o wc') (hG : GoodIn Ts wy) (hw : wy = Cond.code y bytes maxL ret :: wy') (hq : (own, index, y) ∈ kNest) (hini : (Cond.initialized y.cls).before args s = true) (hstat : (Cond.static y).before args s = true) (hd : y.cls ≠ "java/lang/invoke/MethodHandle" ∧ y.cls ≠ "java/lang/invoke/VarHandle" ∧ (parseMethodDescriptor y.desc).map (fun d => d.parameters.length) = some n)
    (isC : List Nat) (hrm : rm.cells = 0 ∧ rm.slots = 0) (hR : rm.frames + 1 ≤ R.frames ∧ 8 + (maxL + 11) + rm.locals ≤ R.locals) (hcs : cells ≤ R.cells ∧ slots ≤ R.slots) (h1 : isC.map (fun i => ws[i]?) = wc.map some) (h2 : wc'.map Prod.fst = wc.map Prod.fst) (h3 : va_nd isC = true) (h4 : k_repl ws isC wc' = ws2) (hn : As.length = n) (hst : st0 = As.reverse ++ rest) (hW : (rest.map fun v => v.category).sum ≤ 8) (hdg : decode cc pc = .ok (.invokestatic index, 3)) (h5 : o.toList ++ rest = st1)
    (kk : ∀ (H1 : Heap) (locs1 : List Loc), va_P D vwCl ws2 H1 → va_D A ws2 → va_S A s.heap H1 locs1 → W p l e R s m args below meth c H1 locs1 cells slots Q (F0 m (pc + 3) ls st1)) : W p l e R s m args below meth c H locs cells slots Q (F0 m pc ls st0) :=
  k_go (va_runSN (As := As) (rest := rest) (host := RX11) ⟨hx, hb, hml, hown, hts⟩ hM ⟨va_cnB n hts hG hw hrm.1 hrm.2 (hN.1 _ hq) hini hd hR, hstat, trivial⟩ (k_preS hK hN hP hD h1 h3) rfl hn hl.1 hst (lv_room hW) hdg ⟨hcs.1, hcs.2⟩) hP hD hS hA h1 h2 h3 h4 h5 kk
end KG
section KX
variable {p : Program} {l : Launch} {e : Env} {R : Room} {s : State} {m : MethodId} {args : Array Value} {below : List Frame} {meth : Method} {c : Code} {T : State} {locs : List Loc} {cells slots : Nat}
theorem kz_use {w : Cond} {s : State} {args : Array Value} (hN : kN s) (h : w ∈ kExtra) : w.before args s = true := va_Nw.use (by have z := kExtra_ok w h; simp only [Bool.and_eq_true] at z; exact z.1) (hN.2 w h)
theorem kz_pay {ws : List Cond} {s : State} (hN : kN s) (hsub : ∀ w ∈ ws, w ∈ kExtra) : ∀ w ∈ ws, ∀ (a' : Array Value) (U : State), s.WarmedH U.vm → w.before a' U = true := fun w hw a' U hW => word_at hW (Or.inl (kExtra_ok w (hsub w hw))) (hN.2 w (hsub w hw))
variable {H : Heap} {Q : State → Prop} {cc : ByteArray} {pc : Nat} {ls : Array Slot} {rest st0 st1 : List Value} {D : va_G} {A : Nat → Prop} {ty : List (ClassId × FieldType)} {ws : va_W}
theorem k_callSX {own owner : String} {x : MethodName} {wy wy' : List Cond} {nL maxL index n : Nat} {lv : List (Nat × Value)} {bytes : ByteArray} {ret : Option FieldType} {rm : Room} {As : List Value} {wc wc' ws2 : va_W} {o : Option Value} (hx : p.tables.exec = Jvm.exec) (hb : c.code = cc) (hml : c.maxLocals = nL) (hown : s.vm.findClass own = some m.cls) (hK : va_K D vwCl ty s) (hN : kN s) (hA : ∀ q, s.heap.size ≤ q → A q) (hP : va_P D vwCl ws H) (hD : va_D A ws) (hS : va_S A s.heap H locs) (hl : lv_has ls nL lv)
    (hM : kMet l ⟨owner, x.name, x.desc⟩ wy rm As D ty wc H.size o wc') (hsub : ∀ w ∈ wy, w ∈ kExtra) (hw : wy = Cond.code ⟨owner, x.name, x.desc⟩ bytes maxL ret :: wy') (m1 : Cond.methodLink own index x ∈ kExtra) (m2 : Cond.sameMethod x.cls owner x.name x.desc ∈ kExtra) (m3 : Cond.static ⟨owner, x.name, x.desc⟩ ∈ kExtra) (m4 : Cond.initialized owner ∈ kExtra) (hd : owner ≠ "java/lang/invoke/MethodHandle" ∧ owner ≠ "java/lang/invoke/VarHandle" ∧ (parseMethodDescriptor x.desc).map (fun d => d.parameters.length) = some n)
    (isC : List Nat) (hrm : rm.cells = 0 ∧ rm.slots = 0) (hR : rm.frames + 1 ≤ R.frames ∧ 8 + (maxL + 11) + rm.locals ≤ R.locals) (hcs : cells ≤ R.cells ∧ slots ≤ R.slots) (h1 : isC.map (fun i => ws[i]?) = wc.map some) (h2 : wc'.map Prod.fst = wc.map Prod.fst) (h3 : va_nd isC = true) (h4 : k_repl ws isC wc' = ws2) (hn : As.length = n) (hst : st0 = As.reverse ++ rest) (hW : (rest.map fun v => v.category).sum ≤ 8) (hdg : decode cc pc = .ok (.invokestatic index, 3)) (h5 : o.toList ++ rest = st1)
    (kk : ∀ (H1 : Heap) (locs1 : List Loc), va_P D vwCl ws2 H1 → va_D A ws2 → va_S A s.heap H1 locs1 → W p l e R s m args below meth c H1 locs1 cells slots Q (F0 m (pc + 3) ls st1)) : W p l e R s m args below meth c H locs cells slots Q (F0 m pc ls st0) := by
  have hcw : Cond.code ⟨owner, x.name, x.desc⟩ bytes maxL ret ∈ wy := by rw [hw]; exact List.mem_cons_self
  have hB : Back l R p e below s args ⟨owner, x.name, x.desc⟩ 3 8 (PreOf R 0 0 (va_Pc As (kPre D ty wc H.size))) (PostOf (kQ o D wc' (va_A wc H.size)) 0 0 (va_A wc H.size)) :=
    back_of (bytes := bytes) (maxL := maxL) (ret := ret) hM k_blind hrm.1 hrm.2 hR.1 hR.2 (kz_pay hN hsub) hcw (fun a' U hW => word_at hW (Or.inl (kExtra_ok _ m4)) (hN.2 _ m4))
  have hr : va_Run p l e R s m args below meth c H locs cells slots 0 0 (F0 m pc ls st0) rest (kQ o D wc' (va_A wc H.size) As.toArray) (va_A wc H.size) := by
    have hp := k_preS (As := As) hK hN hP hD h1 h3
    have hcode : (Cond.code ⟨owner, x.name, x.desc⟩ bytes maxL ret).before args s = true := kz_use hN (hsub _ hcw)
    obtain ⟨mk, hnamed⟩ := Cond.code_named hcode
    obtain ⟨methM, cM, hmethM, -, -, -, -, -, -, hsigM⟩ := Cond.code_spec hnamed hcode
    have hstatic : methM.isStatic = true := Cond.static_spec hnamed hmethM (kz_use (args := args) hN m3)
    obtain ⟨kP, hkP, -⟩ := className_of_methodNamed hnamed
    have hinitP : kP.init = .initialized := Cond.initialized_spec (findClass_of_methodNamed hnamed) hkP (kz_use (args := args) hN m4)
    intro T hT X
    have hlen : As.length = methM.sig.parameters.length := by
      have z := hd.2.2
      rw [hsigM] at z
      exact hn.trans (Option.some.inj z).symm
    obtain ⟨vm₁, X₁, hstep₁⟩ := Stand.invokestaticUp X hx hown (kz_use hN m1) (kz_use hN m2) ⟨hd.1, hd.2.1⟩ hnamed hmethM hstatic hkP hinitP (g := F0 m pc ls st0) rfl (argsL := As) (rest := rest) hlen hst (by rw [hb]; exact hdg)
    obtain ⟨v, ⟨U', l2, c2, s2⟩, X', ⟨g', mk', t, L, e1, e2, hq, q1, hL, q2, q3⟩, hsteps⟩ := hB m meth c ⟨T.setVm vm₁, locs, cells, slots⟩ { (F0 m pc ls st0) with stack := rest } (.invokestatic index) mk As.toArray X₁ rfl (hl.1.trans hml.symm) (by rw [hb]; exact hdg) (lv_room hW) (X₁.named hnamed) ⟨hcs.1, hcs.2, hp.2 (T.setVm vm₁) hT X₁.warmed⟩
    dsimp only [Pt.U, Pt.locs, Pt.cells, Pt.slots] at X' e1 e2 q1 q2 q3 hsteps
    subst q1; subst q2; subst q3
    exact ⟨v, (T.setVm vm₁).calling g' mk' As.toArray, t, U', L, hT, X', hL, e1, e2, hq, fun target h => hstep₁ _ fun acts => by rw [doInvoke_state]; exact hsteps.trans h⟩
  exact k_go hr hP hD hS hA h1 h2 h3 h4 h5 kk
/-- super.m(..), which the superclass inherits from its own -/
theorem k_callSUX {own owner : String} {x : MethodName} {wy wy' : List Cond} {nL maxL index n : Nat} {lv : List (Nat × Value)} {bytes : ByteArray} {ret : Option FieldType} {rm : Room} {As : List Value} {wc wc' ws2 : va_W} {o : Option Value} {b : Nat} {q : vw_C} {fs : List Value} (hx : p.tables.exec = Jvm.exec) (hb : c.code = cc) (hml : c.maxLocals = nL) (hown : s.vm.findClass own = some m.cls) (hK : va_K D vwCl ty s) (hN : kN s) (hA : ∀ q, s.heap.size ≤ q → A q) (hP : va_P D vwCl ws H) (hD : va_D A ws) (hS : va_S A s.heap H locs) (hl : lv_has ls nL lv)
    (hM : kMet l ⟨owner, x.name, x.desc⟩ wy rm (.ref b :: As) D ty wc H.size o wc') (hsub : ∀ w ∈ wy, w ∈ kExtra) (hw : wy = Cond.code ⟨owner, x.name, x.desc⟩ bytes maxL ret :: wy') (m1 : Cond.methodLink own index x ∈ kExtra) (m2 : Cond.sameMethod x.cls owner x.name x.desc ∈ kExtra) (m3 : Cond.instanceMethod ⟨owner, x.name, x.desc⟩ ∈ kExtra) (m4 : Cond.initialized owner ∈ kExtra) (m5 : Cond.superclass own x.cls ∈ kExtra) (m6 : Cond.superclass x.cls owner ∈ kExtra) (hd : x.name ≠ "<init>" ∧ (parseMethodDescriptor x.desc).map (fun d => d.parameters.length) = some n) (q0 ci : Nat) (he : wc[q0]? = some (b, .inr (ci, fs))) (hc : vwCl[ci]? = some q)
    (isC : List Nat) (hrm : rm.cells = 0 ∧ rm.slots = 0) (hR : rm.frames + 1 ≤ R.frames ∧ 8 + (maxL + 11) + rm.locals ≤ R.locals) (hcs : cells ≤ R.cells ∧ slots ≤ R.slots) (h1 : isC.map (fun i => ws[i]?) = wc.map some) (h2 : wc'.map Prod.fst = wc.map Prod.fst) (h3 : va_nd isC = true) (h4 : k_repl ws isC wc' = ws2) (hn : As.length = n) (hst : st0 = As.reverse ++ .ref b :: rest) (hW : (rest.map fun v => v.category).sum ≤ 8) (hdg : decode cc pc = .ok (.invokespecial index, 3)) (h5 : o.toList ++ rest = st1)
    (kk : ∀ (H1 : Heap) (locs1 : List Loc), va_P D vwCl ws2 H1 → va_D A ws2 → va_S A s.heap H1 locs1 → W p l e R s m args below meth c H1 locs1 cells slots Q (F0 m (pc + 3) ls st1)) : W p l e R s m args below meth c H locs cells slots Q (F0 m pc ls st0) := by
  have hcw : Cond.code ⟨owner, x.name, x.desc⟩ bytes maxL ret ∈ wy := by rw [hw]; exact List.mem_cons_self
  have hB : Back l R p e below s args ⟨owner, x.name, x.desc⟩ 3 8 (PreOf R 0 0 (va_Pc (.ref b :: As) (kPre D ty wc H.size))) (PostOf (kQ o D wc' (va_A wc H.size)) 0 0 (va_A wc H.size)) :=
    back_of (bytes := bytes) (maxL := maxL) (ret := ret) hM k_blind hrm.1 hrm.2 hR.1 hR.2 (kz_pay hN hsub) hcw (fun a' U hW => word_at hW (Or.inl (kExtra_ok _ m4)) (hN.2 _ m4))
  have hr : va_Run p l e R s m args below meth c H locs cells slots 0 0 (F0 m pc ls st0) rest (kQ o D wc' (va_A wc H.size) (.ref b :: As).toArray) (va_A wc H.size) := by
    obtain ⟨-, ⟨cellB, hcB, hoB, hclB⟩, hp⟩ := k_preV (As := As) (C := q.1) hK hN hP hD h1 h3 he hc rfl
    have hcode : (Cond.code ⟨owner, x.name, x.desc⟩ bytes maxL ret).before args s = true := kz_use hN (hsub _ hcw)
    obtain ⟨mk, methM, hnamed, hmethM, hstM, habM⟩ := Cond.instanceMethod_spec (kz_use (args := args) hN m3)
    obtain ⟨methM', cM, hmethM', -, -, -, -, -, -, hsigM⟩ := Cond.code_spec hnamed hcode
    cases hmethM.symm.trans hmethM'
    obtain ⟨ps, dk, kp, hps, hdk, hkp, hsuper, -, -, hnid⟩ := Cond.superclass_spec hown (kz_use (args := args) hN m5)
    obtain ⟨p2, dk2, kp2, hps2, hdk2, hkp2, hsuper2, -⟩ := Cond.superclass_spec hps (kz_use (args := args) hN m6)
    have hpm : p2 = mk.cls := Option.some.inj (hps2.symm.trans (findClass_of_methodNamed hnamed))
    have hsub : s.vm.isSubclass ps mk.cls = true := by
      rw [← hpm]
      have hlt : ps < s.vm.classes.size := (Array.getElem?_eq_some_iff.mp hdk2).1
      obtain ⟨k, hk⟩ : ∃ k, s.vm.classes.size = k + 1 := ⟨s.vm.classes.size - 1, (Nat.succ_pred_eq_of_pos (Nat.lt_of_le_of_lt (Nat.zero_le _) hlt)).symm⟩
      simp only [Vm.isSubclass, hk, Vm.isSubclassAux, hdk2, hsuper2, Bool.or_eq_true, beq_self_eq_true, Bool.true_or]
      exact Or.inr trivial
    obtain ⟨hfc, kB, hkB, -⟩ := (hK.1 ci q hc).2
    rw [Option.some.inj (hfc.symm.trans hclB)] at hkB
    intro T hT X
    have hlen : As.length = methM.sig.parameters.length := by
      have z := hd.2
      rw [hsigM] at z
      exact hn.trans (Option.some.inj z).symm
    obtain ⟨vm₁, X₁, hstep₁⟩ := X.invokespecialUp hx hown (kz_use hN m1) (kz_use hN m2) hnamed hmethM hstM habM hd.1 hdk hnid hps hsuper hsub (a := b) (cell := cellB) (by rw [hT]; exact hcB)
      (fun z h => by rw [h] at hoB; cases hoB) hkB (g := F0 m pc ls st0) rfl (argsL := As) (rest := rest) hlen hst (by rw [hb]; exact hdg)
    obtain ⟨v, ⟨U', l2, c2, s2⟩, X', ⟨g', mk', t, L, e1, e2, hq, q1, hL, q2, q3⟩, hsteps⟩ := hB m meth c ⟨T.setVm vm₁, locs, cells, slots⟩ { (F0 m pc ls st0) with stack := rest } (.invokespecial index) mk (Value.ref b :: As).toArray X₁ rfl (hl.1.trans hml.symm) (by rw [hb]; exact hdg) (lv_room hW) (X₁.named hnamed) ⟨hcs.1, hcs.2, hp (T.setVm vm₁) hT X₁.warmed⟩
    dsimp only [Pt.U, Pt.locs, Pt.cells, Pt.slots] at X' e1 e2 q1 q2 q3 hsteps
    subst q1; subst q2; subst q3
    exact ⟨v, (T.setVm vm₁).calling g' mk' (Value.ref b :: As).toArray, t, U', L, hT, X', hL, e1, e2, hq, fun target h => hstep₁ _ (by rw [doInvoke_state]; exact hsteps.trans h)⟩
  exact k_go hr hP hD hS hA h1 h2 h3 h4 h5 kk
end KX
theorem k_metI {l : Launch} {y : MethodName} {wy wy' : List Cond} {bytes : ByteArray} {maxL : Nat} {ret : Option FieldType} {rm : Room} {As : List Value} {D : va_G} {ty : List (ClassId × FieldType)} {W0 W1 : va_W} {sz : Nat} {v : Int32} (hy : plainName y.cls = true) (hw : wy = Cond.code y bytes maxL ret :: wy') (hret : ret = some .int) (hlen : (lg_sl As).length ≤ maxL)
    (body : ∀ (p : Program) (e : Env) (s : State) (m : MethodId) (below : List Frame) (meth : Method) (c : Code) (ls : Array Slot) (Q : State → Prop) (A : Nat → Prop), p.tables.exec = Jvm.exec → c.code = bytes → c.maxLocals = maxL → (∀ w ∈ wy, w.before As.toArray s = true) → s.vm.findClass y.cls = some m.cls → va_K D vwCl ty s → kN s → (∀ q, s.heap.size ≤ q → A q) → va_P D vwCl W0 s.heap → va_D A W0 → va_S A s.heap s.heap [] → lv_has ls maxL (lv_args 0 As) → s.heap.size = sz → meth.name = y.name →
      (∀ (H : Heap) (locs : List Loc) (pc : Nat) (ls : Array Slot), va_P D vwCl W1 H → va_S A s.heap H locs → decode bytes pc = .ok (.ireturn, 1) → W p l e rm s m As.toArray below meth c H locs 0 0 Q (F0 m pc ls [.int v])) →
      W p l e rm s m As.toArray below meth c s.heap [] 0 0 Q (F0 m 0 ls [])) : kMet l y wy rm As D ty W0 sz (some (.int v)) W1 := by
  refine Met.ofW (cc := bytes) (maxL := maxL) (ret := ret) hy hw ?_
  intro p e s m args below meth c s₁ B hml hv
  obtain ⟨rfl, hsz, hP, hK, hD0, hN⟩ := hv
  have hx := B.exec
  have hb := B.bytes
  have hts := atoms_spec (ws := wy) B.pre
  have hown : s.vm.findClass y.cls = some m.cls := findClass_of_methodNamed B.named
  have hnm : meth.name = y.name := (name_of_methodNamed B.named B.method).1
  subst hsz
  have hD := hD0.self (sz := s.heap.size)
  generalize hAe : va_A W0 s.heap.size = A at hD ⊢
  have hA : ∀ q : Nat, s.heap.size ≤ q → A q := fun q h => by rw [← hAe]; exact Or.inr h
  have hl := lv_entry As (n := maxL) hlen
  rw [lg_entry_eq]
  generalize (lg_sl As ++ List.replicate (maxL - (lg_sl As).length) Slot.unset).toArray = ls at hl ⊢
  refine body p e s m below meth c ls _ A hx hb hml hts hown hK hN hA hP hD va_S.rf hl rfl hnm ?_
  · intro H locs pc ls h1 h2 hd
    exact W.iret hx hb (B.returns.trans hret) (fun t ht hW => ⟨⟨rfl, by rw [ht]; exact h1⟩, h2.F ht⟩) h2.2.2 hd B.notSynchronized
theorem k_metZ {l : Launch} {y : MethodName} {wy wy' : List Cond} {bytes : ByteArray} {maxL : Nat} {ret : Option FieldType} {rm : Room} {As : List Value} {D : va_G} {ty : List (ClassId × FieldType)} {W0 W1 : va_W} {sz : Nat} {v : Int32} (hy : plainName y.cls = true) (hw : wy = Cond.code y bytes maxL ret :: wy') (hret : ret = some .boolean) (hlen : (lg_sl As).length ≤ maxL)
    (body : ∀ (p : Program) (e : Env) (s : State) (m : MethodId) (below : List Frame) (meth : Method) (c : Code) (ls : Array Slot) (Q : State → Prop) (A : Nat → Prop), p.tables.exec = Jvm.exec → c.code = bytes → c.maxLocals = maxL → (∀ w ∈ wy, w.before As.toArray s = true) → s.vm.findClass y.cls = some m.cls → va_K D vwCl ty s → kN s → (∀ q, s.heap.size ≤ q → A q) → va_P D vwCl W0 s.heap → va_D A W0 → va_S A s.heap s.heap [] → lv_has ls maxL (lv_args 0 As) → s.heap.size = sz → meth.name = y.name →
      (∀ (H : Heap) (locs : List Loc) (pc : Nat) (ls : Array Slot), narrow .boolean (.int v) = .int v → va_P D vwCl W1 H → va_S A s.heap H locs → decode bytes pc = .ok (.ireturn, 1) → W p l e rm s m As.toArray below meth c H locs 0 0 Q (F0 m pc ls [.int v])) →
      W p l e rm s m As.toArray below meth c s.heap [] 0 0 Q (F0 m 0 ls [])) : kMet l y wy rm As D ty W0 sz (some (.int v)) W1 := by
  refine Met.ofW (cc := bytes) (maxL := maxL) (ret := ret) hy hw ?_
  intro p e s m args below meth c s₁ B hml hv
  obtain ⟨rfl, hsz, hP, hK, hD0, hN⟩ := hv
  have hx := B.exec
  have hb := B.bytes
  have hts := atoms_spec (ws := wy) B.pre
  have hown : s.vm.findClass y.cls = some m.cls := findClass_of_methodNamed B.named
  have hnm : meth.name = y.name := (name_of_methodNamed B.named B.method).1
  subst hsz
  have hD := hD0.self (sz := s.heap.size)
  generalize hAe : va_A W0 s.heap.size = A at hD ⊢
  have hA : ∀ q : Nat, s.heap.size ≤ q → A q := fun q h => by rw [← hAe]; exact Or.inr h
  have hl := lv_entry As (n := maxL) hlen
  rw [lg_entry_eq]
  generalize (lg_sl As ++ List.replicate (maxL - (lg_sl As).length) Slot.unset).toArray = ls at hl ⊢
  refine body p e s m below meth c ls _ A hx hb hml hts hown hK hN hA hP hD va_S.rf hl rfl hnm ?_
  · intro H locs pc ls hn h1 h2 hd
    exact W.zret hx hb (B.returns.trans hret) hn (fun t ht hW => ⟨⟨rfl, by rw [ht]; exact h1⟩, h2.F ht⟩) h2.2.2 hd B.notSynchronized
theorem k_metJ {l : Launch} {y : MethodName} {wy wy' : List Cond} {bytes : ByteArray} {maxL : Nat} {ret : Option FieldType} {rm : Room} {As : List Value} {D : va_G} {ty : List (ClassId × FieldType)} {W0 W1 : va_W} {sz : Nat} {v : Int64} (hy : plainName y.cls = true) (hw : wy = Cond.code y bytes maxL ret :: wy') (hret : ret = some .long) (hlen : (lg_sl As).length ≤ maxL)
    (body : ∀ (p : Program) (e : Env) (s : State) (m : MethodId) (below : List Frame) (meth : Method) (c : Code) (ls : Array Slot) (Q : State → Prop) (A : Nat → Prop), p.tables.exec = Jvm.exec → c.code = bytes → c.maxLocals = maxL → (∀ w ∈ wy, w.before As.toArray s = true) → s.vm.findClass y.cls = some m.cls → va_K D vwCl ty s → kN s → (∀ q, s.heap.size ≤ q → A q) → va_P D vwCl W0 s.heap → va_D A W0 → va_S A s.heap s.heap [] → lv_has ls maxL (lv_args 0 As) → s.heap.size = sz → meth.name = y.name →
      (∀ (H : Heap) (locs : List Loc) (pc : Nat) (ls : Array Slot), va_P D vwCl W1 H → va_S A s.heap H locs → decode bytes pc = .ok (.lreturn, 1) → W p l e rm s m As.toArray below meth c H locs 0 0 Q (F0 m pc ls [.long v])) →
      W p l e rm s m As.toArray below meth c s.heap [] 0 0 Q (F0 m 0 ls [])) : kMet l y wy rm As D ty W0 sz (some (.long v)) W1 := by
  refine Met.ofW (cc := bytes) (maxL := maxL) (ret := ret) hy hw ?_
  intro p e s m args below meth c s₁ B hml hv
  obtain ⟨rfl, hsz, hP, hK, hD0, hN⟩ := hv
  have hx := B.exec
  have hb := B.bytes
  have hts := atoms_spec (ws := wy) B.pre
  have hown : s.vm.findClass y.cls = some m.cls := findClass_of_methodNamed B.named
  have hnm : meth.name = y.name := (name_of_methodNamed B.named B.method).1
  subst hsz
  have hD := hD0.self (sz := s.heap.size)
  generalize hAe : va_A W0 s.heap.size = A at hD ⊢
  have hA : ∀ q : Nat, s.heap.size ≤ q → A q := fun q h => by rw [← hAe]; exact Or.inr h
  have hl := lv_entry As (n := maxL) hlen
  rw [lg_entry_eq]
  generalize (lg_sl As ++ List.replicate (maxL - (lg_sl As).length) Slot.unset).toArray = ls at hl ⊢
  refine body p e s m below meth c ls _ A hx hb hml hts hown hK hN hA hP hD va_S.rf hl rfl hnm ?_
  · intro H locs pc ls h1 h2 hd
    exact W.lret hx hb (B.returns.trans hret) (fun t ht hW => ⟨⟨rfl, by rw [ht]; exact h1⟩, h2.F ht⟩) h2.2.2 hd B.notSynchronized
theorem k_metV {l : Launch} {y : MethodName} {wy wy' : List Cond} {bytes : ByteArray} {maxL : Nat} {ret : Option FieldType} {rm : Room} {As : List Value} {D : va_G} {ty : List (ClassId × FieldType)} {W0 W1 : va_W} {sz : Nat} (hy : plainName y.cls = true) (hw : wy = Cond.code y bytes maxL ret :: wy') (hret : ret = none) (hlen : (lg_sl As).length ≤ maxL)
    (body : ∀ (p : Program) (e : Env) (s : State) (m : MethodId) (below : List Frame) (meth : Method) (c : Code) (ls : Array Slot) (Q : State → Prop) (A : Nat → Prop), p.tables.exec = Jvm.exec → c.code = bytes → c.maxLocals = maxL → (∀ w ∈ wy, w.before As.toArray s = true) → s.vm.findClass y.cls = some m.cls → va_K D vwCl ty s → kN s → (∀ q, s.heap.size ≤ q → A q) → va_P D vwCl W0 s.heap → va_D A W0 → va_S A s.heap s.heap [] → lv_has ls maxL (lv_args 0 As) → s.heap.size = sz → meth.name = y.name →
      (∀ (H : Heap) (locs : List Loc) (pc : Nat) (ls : Array Slot), va_P D vwCl W1 H → va_S A s.heap H locs → decode bytes pc = .ok (.return_, 1) → W p l e rm s m As.toArray below meth c H locs 0 0 Q (F0 m pc ls [])) →
      W p l e rm s m As.toArray below meth c s.heap [] 0 0 Q (F0 m 0 ls [])) : kMet l y wy rm As D ty W0 sz (none) W1 := by
  refine Met.ofW (cc := bytes) (maxL := maxL) (ret := ret) hy hw ?_
  intro p e s m args below meth c s₁ B hml hv
  obtain ⟨rfl, hsz, hP, hK, hD0, hN⟩ := hv
  have hx := B.exec
  have hb := B.bytes
  have hts := atoms_spec (ws := wy) B.pre
  have hown : s.vm.findClass y.cls = some m.cls := findClass_of_methodNamed B.named
  have hnm : meth.name = y.name := (name_of_methodNamed B.named B.method).1
  subst hsz
  have hD := hD0.self (sz := s.heap.size)
  generalize hAe : va_A W0 s.heap.size = A at hD ⊢
  have hA : ∀ q : Nat, s.heap.size ≤ q → A q := fun q h => by rw [← hAe]; exact Or.inr h
  have hl := lv_entry As (n := maxL) hlen
  rw [lg_entry_eq]
  generalize (lg_sl As ++ List.replicate (maxL - (lg_sl As).length) Slot.unset).toArray = ls at hl ⊢
  refine body p e s m below meth c ls _ A hx hb hml hts hown hK hN hA hP hD va_S.rf hl rfl hnm ?_
  · intro H locs pc ls h1 h2 hd
    exact W.vret hx hb (B.returns.trans hret) (fun t ht hW => ⟨⟨rfl, by rw [ht]; exact h1⟩, h2.F ht⟩) h2.2.2 hd B.notSynchronized
theorem k_metR {l : Launch} {y : MethodName} {wy wy' : List Cond} {bytes : ByteArray} {maxL : Nat} {ret : Option FieldType} {rm : Room} {As : List Value} {D : va_G} {ty : List (ClassId × FieldType)} {W0 W1 : va_W} {sz : Nat} {v : Nat} (hy : plainName y.cls = true) (hw : wy = Cond.code y bytes maxL ret :: wy') (hret : (∃ C, ret = some (.object C))) (hlen : (lg_sl As).length ≤ maxL)
    (body : ∀ (p : Program) (e : Env) (s : State) (m : MethodId) (below : List Frame) (meth : Method) (c : Code) (ls : Array Slot) (Q : State → Prop) (A : Nat → Prop), p.tables.exec = Jvm.exec → c.code = bytes → c.maxLocals = maxL → (∀ w ∈ wy, w.before As.toArray s = true) → s.vm.findClass y.cls = some m.cls → va_K D vwCl ty s → kN s → (∀ q, s.heap.size ≤ q → A q) → va_P D vwCl W0 s.heap → va_D A W0 → va_S A s.heap s.heap [] → lv_has ls maxL (lv_args 0 As) → s.heap.size = sz → meth.name = y.name →
      (∀ (H : Heap) (locs : List Loc) (pc : Nat) (ls : Array Slot), va_P D vwCl W1 H → va_S A s.heap H locs → decode bytes pc = .ok (.areturn, 1) → W p l e rm s m As.toArray below meth c H locs 0 0 Q (F0 m pc ls [.ref v])) →
      W p l e rm s m As.toArray below meth c s.heap [] 0 0 Q (F0 m 0 ls [])) : kMet l y wy rm As D ty W0 sz (some (.ref v)) W1 := by
  refine Met.ofW (cc := bytes) (maxL := maxL) (ret := ret) hy hw ?_
  intro p e s m args below meth c s₁ B hml hv
  obtain ⟨rfl, hsz, hP, hK, hD0, hN⟩ := hv
  have hx := B.exec
  have hb := B.bytes
  have hts := atoms_spec (ws := wy) B.pre
  have hown : s.vm.findClass y.cls = some m.cls := findClass_of_methodNamed B.named
  have hnm : meth.name = y.name := (name_of_methodNamed B.named B.method).1
  subst hsz
  have hD := hD0.self (sz := s.heap.size)
  generalize hAe : va_A W0 s.heap.size = A at hD ⊢
  have hA : ∀ q : Nat, s.heap.size ≤ q → A q := fun q h => by rw [← hAe]; exact Or.inr h
  have hl := lv_entry As (n := maxL) hlen
  rw [lg_entry_eq]
  generalize (lg_sl As ++ List.replicate (maxL - (lg_sl As).length) Slot.unset).toArray = ls at hl ⊢
  refine body p e s m below meth c ls _ A hx hb hml hts hown hK hN hA hP hD va_S.rf hl rfl hnm ?_
  · intro H locs pc ls h1 h2 hd
    obtain ⟨C, hC⟩ := hret
    exact W.aret (rt := .object C) hx hb (B.returns.trans hC) (Or.inl ⟨C, rfl⟩) (Or.inr ⟨v, rfl⟩) (fun t ht hW => ⟨⟨rfl, by rw [ht]; exact h1⟩, h2.F ht⟩) h2.2.2 hd B.notSynchronized
/-! small logic for the walks -/
theorem k_pos {α : Sort _} {P : Prop} {_ : Decidable P} {a b o : α} (c : P) (h : (if P then a else b) = o) : a = o := by rw [if_pos c] at h; exact h
theorem k_neg {α : Sort _} {P : Prop} {_ : Decidable P} {a b o : α} (c : ¬ P) (h : (if P then a else b) = o) : b = o := by rw [if_neg c] at h; exact h
theorem k_guard {α : Type} {P : Prop} {_ : Decidable P} {e : Option α} {o : α} (h : (if P then none else e) = some o) : ¬ P ∧ e = some o := by
  by_cases c : P
  · rw [if_pos c] at h; cases h
  · rw [if_neg c] at h; exact ⟨c, h⟩
theorem k_bind {α β : Type} {x : Option α} {f : α → Option β} {o : β} (h : x.bind f = some o) : ∃ a, x = some a ∧ f a = some o := Option.bind_eq_some_iff.mp h
theorem k_z01 {v : Int32} (h : ¬ ¬ (v = 0 ∨ v = 1)) : narrow .boolean (.int v) = .int v := by
  rcases Decidable.of_not_not h with rfl | rfl <;> rfl
/-- the fuel of every loop of the pure text -/
def lfu : Nat := 2000
/-- a table switch at a value that is known -/
theorem k_tblI {p : Program} {l : Launch} {e : Env} {R : Room} {s : State} {m : MethodId} {args : Array Value} {below : List Frame} {meth : Method} {c : Code} {H : Heap} {locs : List Loc} {cells slots : Nat} {Q : State → Prop} {cc : ByteArray} {pc : Nat} {ls : Array Slot} {rest : List Value} (hexec : p.tables.exec = Jvm.exec) (hb : c.code = cc) {dflt lo hi : Int} {offs : Array Int} {len : Nat} {x v : Int32} {off : Int} {tgt : Nat} (hdg : decode cc pc = .ok (.tableswitch dflt lo hi offs, len)) (hv : x = v) (h1 : ¬ v.toInt < lo) (h2 : ¬ hi < v.toInt) (ho : offs[(v.toInt - lo).toNat]? = some off) (ht : (pc : Int) + off = (tgt : Int))
    (k : W p l e R s m args below meth c H locs cells slots Q (F0 m tgt ls rest)) : W p l e R s m args below meth c H locs cells slots Q (F0 m pc ls (.int x :: rest)) := by
  subst hv
  exact lv_tableIn hexec hb hdg h1 h2 ho ht k
theorem k_out {x : Int32} {lo hi : Int} (L : List Int32) (hL : ∀ k : Nat, k < (hi - lo + 1).toNat → ∃ v ∈ L, v.toInt = lo + (k : Int)) (hne : ∀ v ∈ L, ¬ x = v) : x.toInt < lo ∨ hi < x.toInt := by
  by_cases h1 : x.toInt < lo
  · exact Or.inl h1
  · by_cases h2 : hi < x.toInt
    · exact Or.inr h2
    · obtain ⟨v, hv, e⟩ := hL (x.toInt - lo).toNat (by omega)
      exact absurd (Int32.toInt_inj.mp (by rw [e]; omega)) (hne v hv)
theorem k_lkI {p : Program} {l : Launch} {e : Env} {R : Room} {s : State} {m : MethodId} {args : Array Value} {below : List Frame} {meth : Method} {c : Code} {H : Heap} {locs : List Loc} {cells slots : Nat} {Q : State → Prop} {cc : ByteArray} {pc : Nat} {ls : Array Slot} {rest : List Value} (hexec : p.tables.exec = Jvm.exec) (hb : c.code = cc) {dflt : Int} {ps : Array (Int × Int)} {len : Nat} {x v : Int32} {off : Int} {tgt : Nat} (hdg : decode cc pc = .ok (.lookupswitch dflt ps, len)) (hv : x = v) (hp : (ps.toList.zip (ps.toList.drop 1)).all (fun (a, next) => a.1 < next.1) = true) (ho : Op.lookupswitch.offset ps.toList dflt v.toInt = off) (ht : (pc : Int) + off = (tgt : Int))
    (k : W p l e R s m args below meth c H locs cells slots Q (F0 m tgt ls rest)) : W p l e R s m args below meth c H locs cells slots Q (F0 m pc ls (.int x :: rest)) := by
  subst hv
  exact lv_lookup hexec hb hdg hp ho ht k
theorem k_lkN (ps : List (Int × Int)) (dflt : Int) (x : Int) (h : ∀ q ∈ ps, ¬ x = q.1) : Op.lookupswitch.offset ps dflt x = dflt := by
  induction ps with
  | nil => rfl
  | cons q ps ih =>
    obtain ⟨a, b⟩ := q
    rw [Op.lookupswitch.offset_cons, if_neg (fun z => h (a, b) List.mem_cons_self z.symm)]
    exact ih (fun q hq => h q (List.mem_cons_of_mem _ hq))
theorem k_8 {k : Nat} (h : k < 8) : k = 0 ∨ k = 1 ∨ k = 2 ∨ k = 3 ∨ k = 4 ∨ k = 5 ∨ k = 6 ∨ k = 7 := by omega
def jabs (x : Int32) : Int32 := if 0 ≤ x then x else 0 - x
def jmax (x y : Int32) : Int32 := if x < y then y else x
def jmin (x y : Int32) : Int32 := if y < x then y else x
section KM
variable {p : Program} {l : Launch} {e : Env} {R : Room} {s : State} {m : MethodId} {args : Array Value} {below : List Frame} {meth : Method} {c : Code} {H : Heap} {locs : List Loc} {cells slots : Nat} {Q : State → Prop} {pc : Nat} {ls : Array Slot} {rest : List Value}
theorem k_mabs {cc : ByteArray} (hexec : p.tables.exec = Jvm.exec) (hb : c.code = cc) (hml : c.maxLocals = ls.size) {own : String} {index : Nat} (hown : s.vm.findClass own = some m.cls) (hlink : (Cond.methodLink own index Lib.Math.abs.name).before args s = true) (hstat : (Cond.static Lib.Math.abs.name).before args s = true) (hini : (Cond.initialized "java/lang/Math").before args s = true) (hcode : (Cond.code Lib.Math.abs.name Lib.Math.abs.code 1 (some .int)).before args s = true) (hframes : 1 ≤ R.frames) (hlocals : (rest.map fun v => v.category).sum + 13 ≤ R.locals) (hc : cells ≤ R.cells) (hs : slots ≤ R.slots) {x : Int32} (hdg : decode cc pc = .ok (.invokestatic index, 3))
    (kk : W p l e R s m args below meth c H locs cells slots Q (F0 m (pc + 3) ls (.int (jabs x) :: rest))) : W p l e R s m args below meth c H locs cells slots Q (F0 m pc ls (.int x :: rest)) := va_mabs hexec hb hml hown hlink hstat hini hcode hframes hlocals hc hs hdg kk
theorem k_mmax {cc : ByteArray} (hexec : p.tables.exec = Jvm.exec) (hb : c.code = cc) (hml : c.maxLocals = ls.size) {own : String} {index : Nat} (hown : s.vm.findClass own = some m.cls) (hlink : (Cond.methodLink own index Lib.Math.max.name).before args s = true) (hstat : (Cond.static Lib.Math.max.name).before args s = true) (hini : (Cond.initialized "java/lang/Math").before args s = true) (hcode : (Cond.code Lib.Math.max.name Lib.Math.max.code 2 (some .int)).before args s = true) (hframes : 1 ≤ R.frames) (hlocals : (rest.map fun v => v.category).sum + 13 ≤ R.locals) (hc : cells ≤ R.cells) (hs : slots ≤ R.slots) {x y : Int32} (hdg : decode cc pc = .ok (.invokestatic index, 3))
    (kk : W p l e R s m args below meth c H locs cells slots Q (F0 m (pc + 3) ls (.int (jmax x y) :: rest))) : W p l e R s m args below meth c H locs cells slots Q (F0 m pc ls (.int y :: .int x :: rest)) := va_mmax hexec hb hml hown hlink hstat hini hcode hframes hlocals hc hs hdg kk
theorem k_mmin {cc : ByteArray} (hexec : p.tables.exec = Jvm.exec) (hb : c.code = cc) (hml : c.maxLocals = ls.size) {own : String} {index : Nat} (hown : s.vm.findClass own = some m.cls) (hlink : (Cond.methodLink own index Lib.Math.min.name).before args s = true) (hstat : (Cond.static Lib.Math.min.name).before args s = true) (hini : (Cond.initialized "java/lang/Math").before args s = true) (hcode : (Cond.code Lib.Math.min.name Lib.Math.min.code 2 (some .int)).before args s = true) (hframes : 1 ≤ R.frames) (hlocals : (rest.map fun v => v.category).sum + 13 ≤ R.locals) (hc : cells ≤ R.cells) (hs : slots ≤ R.slots) {x y : Int32} (hdg : decode cc pc = .ok (.invokestatic index, 3))
    (kk : W p l e R s m args below meth c H locs cells slots Q (F0 m (pc + 3) ls (.int (jmin x y) :: rest))) : W p l e R s m args below meth c H locs cells slots Q (F0 m pc ls (.int y :: .int x :: rest)) := va_mmin hexec hb hml hown hlink hstat hini hcode hframes hlocals hc hs hdg kk
theorem k_aldR {cc : ByteArray} {a : Nat} {ws : va_W} {D : va_G} {tys : List (ClassId × FieldType)} (hexec : p.tables.exec = Jvm.exec) (hb : c.code = cc) (hK : va_K D vwCl tys s) (hP : va_P D vwCl ws H) (q0 t0 : Nat) {cA : ClassId} {C : String} {n : Nat} {f : Nat → Nat} (ha : ws[q0]? = some (a, .inl (cA, n, .inr (.inr (.inr (.inr (fun k => some (f k)))))))) (ht : tys[t0]? = some (cA, .object C)) {i : Int32} (hin : vp_in i n) (hdg : decode cc pc = .ok (.aaload, 1))
    (kk : W p l e R s m args below meth c H locs cells slots Q (F0 m (pc + 1) ls (.ref (f i.toNatClampNeg) :: rest))) : W p l e R s m args below meth c H locs cells slots Q (F0 m pc ls (.int i :: .ref a :: rest)) := va_aldq hexec hb hK hP q0 t0 ha ht hin hdg kk
end KM
theorem k_ne {x v : Int32} (h : ¬ x = v) {n : Int} (hv : v.toInt = n) : ¬ x.toInt = n := fun e => h (Int32.toInt_inj.mp (e.trans hv.symm))
