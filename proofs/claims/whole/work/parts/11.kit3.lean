/-! a world with some of its things replaced, thing by thing -/
def k_sub (k : Nat) (x : Nat × va_E) : List Nat → va_W → Nat × va_E
  | i :: is, c :: cs => match Nat.beq i k with
    | true => c
    | false => k_sub k x is cs
  | _, _ => x
def k_rep (k : Nat) : va_W → List Nat → va_W → va_W
  | [], _, _ => []
  | x :: ws, is, cs => k_sub k x is cs :: k_rep (k + 1) ws is cs
theorem k_sub_no (k : Nat) (x : Nat × va_E) : ∀ (is : List Nat) (cs : va_W), k ∉ is → k_sub k x is cs = x
  | [], [], _ => rfl
  | [], _ :: _, _ => rfl
  | _ :: _, [], _ => rfl
  | i :: is, c :: cs, h => by
    have h1 : Nat.beq i k = false := by
      cases hb : Nat.beq i k with
      | false => rfl
      | true => exact absurd (List.mem_cons.mpr (Or.inl (Nat.eq_of_beq_eq_true hb).symm)) h
    show (match Nat.beq i k with | true => c | false => k_sub k x is cs) = x
    rw [h1]
    exact k_sub_no k x is cs (fun z => h (List.mem_cons_of_mem _ z))
theorem k_sub_ne (k i : Nat) (x c : Nat × va_E) (is : List Nat) (cs : va_W) (h : i ≠ k) : k_sub k x (i :: is) (c :: cs) = k_sub k x is cs := by
  have h1 : Nat.beq i k = false := by
    cases hb : Nat.beq i k with
    | false => rfl
    | true => exact absurd (Nat.eq_of_beq_eq_true hb) h
  show (match Nat.beq i k with | true => c | false => k_sub k x is cs) = _
  rw [h1]
theorem k_sub_eq (k : Nat) (x c : Nat × va_E) (is : List Nat) (cs : va_W) : k_sub k x (k :: is) (c :: cs) = c := by
  have h1 : Nat.beq k k = true := by
    cases hb : Nat.beq k k with
    | true => rfl
    | false => exact absurd rfl (Nat.ne_of_beq_eq_false hb)
  show (match Nat.beq k k with | true => c | false => k_sub k x is cs) = _
  rw [h1]
theorem k_repB : ∀ (is : List Nat) (cs ws : va_W) (k : Nat), va_nd is = true → (k_repl ws is cs)[k]? = (ws[k]?).map (fun x => k_sub k x is cs)
  | [], [], ws, k, _ => by show ws[k]? = _; cases ws[k]? <;> rfl
  | [], _ :: _, ws, k, _ => by show ws[k]? = _; cases ws[k]? <;> rfl
  | _ :: _, [], ws, k, _ => by show ws[k]? = _; cases ws[k]? <;> rfl
  | i :: is, c :: cs, ws, k, hn => by
    simp only [va_nd, Bool.and_eq_true, decide_eq_true_eq] at hn
    show (k_repl (ws.set i c) is cs)[k]? = _
    rw [k_repB is cs (ws.set i c) k hn.2]
    by_cases hk : i = k
    · subst hk
      by_cases hlt : i < ws.length
      · rw [List.getElem?_set_self hlt, List.getElem?_eq_getElem hlt]
        show some (k_sub i c is cs) = some (k_sub i ws[i] (i :: is) (c :: cs))
        rw [k_sub_no i c is cs hn.1, k_sub_eq]
      · rw [List.getElem?_eq_none (by rw [List.length_set]; omega), List.getElem?_eq_none (by omega)]
        rfl
    · rw [List.getElem?_set_ne hk]
      congr 1
      funext x
      exact (k_sub_ne k i x c is cs hk).symm
theorem k_repA : ∀ (ws : va_W) (n k : Nat) (is : List Nat) (cs : va_W), (k_rep n ws is cs)[k]? = (ws[k]?).map (fun x => k_sub (n + k) x is cs)
  | [], _, _, _, _ => by simp [k_rep]
  | _ :: _, _, 0, _, _ => rfl
  | x :: ws, n, k + 1, is, cs => by
    show (k_rep (n + 1) ws is cs)[k]? = (ws[k]?).map _
    rw [k_repA ws (n + 1) k is cs, show n + 1 + k = n + (k + 1) by omega]
theorem k_rp {ws wc' ws2 : va_W} {isC : List Nat} (h : k_rep 0 ws isC wc' = ws2) (hn : va_nd isC = true) : k_repl ws isC wc' = ws2 := by
  rw [← h]
  apply List.ext_getElem?
  intro k
  rw [k_repB _ _ _ _ hn, k_repA]
  simp
