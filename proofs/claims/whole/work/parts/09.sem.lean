/-- a city as it stands in a class of cities -/
abbrev CS : Type := Int32 × Int32 × Int32 × Int32 × Int32 × Int32 × Int32 × (Nat → Int32) × (Nat → Int32) × (Nat → Int32) × (Nat → Int32)
def S_J_bitCount_J48 (y0 : Int32) : (Int32) :=
  (y0 &&& 63)
def S_J_bitCount_J41 (y0 : Int32) : (Int32) :=
  (S_J_bitCount_J48 (y0 + (y0.toUInt32 >>> (((16 : Int32)).toUInt32 &&& Int32.toUInt32 31)).toInt32))
def S_J_bitCount_J34 (y0 : Int32) : (Int32) :=
  (S_J_bitCount_J41 (y0 + (y0.toUInt32 >>> (((8 : Int32)).toUInt32 &&& Int32.toUInt32 31)).toInt32))
def S_J_bitCount_J24 (y0 : Int32) : (Int32) :=
  (S_J_bitCount_J34 ((y0 + (y0.toUInt32 >>> (((4 : Int32)).toUInt32 &&& Int32.toUInt32 31)).toInt32) &&& 252645135))
def S_J_bitCount_J10 (y0 : Int32) : (Int32) :=
  (S_J_bitCount_J24 ((y0 &&& 858993459) + ((y0.toUInt32 >>> (((2 : Int32)).toUInt32 &&& Int32.toUInt32 31)).toInt32 &&& 858993459)))
def S_J_bitCount (x0 : Int32) : (Int32) :=
  (S_J_bitCount_J10 (x0 - ((x0.toUInt32 >>> (((1 : Int32)).toUInt32 &&& Int32.toUInt32 31)).toInt32 &&& 1431655765)))
def S_PL_isIn (x0 : Int32) (x1 : Int32) (x2 : Int32) : (Int32) :=
  (if x0 < x1 then 0 else (if x2 < x0 then 0 else 1))
def S_PL_isShelf (x0 : Int32) : Option ((Int32)) :=
  (if ¬ ((S_PL_isIn x0 0 7) = 0 ∨ (S_PL_isIn x0 0 7) = 1) then none else some (S_PL_isIn x0 0 7))
def S_Man_stepTowards (x0 : Int32) (x1 : Int32) (x2 : Int32) : (Int32) :=
  (if (x1 - x0) ≤ x2 then (if (-x2) ≤ (x1 - x0) then (x1 - x0) else (-x2)) else x2)
def S_Man_discountAt (x1 : Int32) (x2 : Int32) : (Int32) :=
  x1
def S_Banker_discountAt (x1 : Int32) (x2 : Int32) : (Int32) :=
  (x1 / 2)
def S_Quaker_discountAt (x1 : Int32) (x2 : Int32) : (Int32) :=
  ((2 : Int32) * x1)
def S_Broker_discountAt (x1 : Int32) (x2 : Int32) : (Int32) :=
  ((S_Banker_discountAt x1 x2) + 3)
def S_Scrubber_discountAt (x1 : Int32) (x2 : Int32) : (Int32) :=
  0
def S_Partner_discountAt (x1 : Int32) (x2 : Int32) : (Int32) :=
  ((S_Man_discountAt x1 x2) + x2)
def S_Swindler_discountAt (x1 : Int32) (x2 : Int32) : (Int32) :=
  0
def S_Man_leansMore (x1 : Int32) (x2 : Int32) (x3 : Int32) (x4 : Int32) : (Int32) :=
  (S_Man_stepTowards x1 x3 1)
def S_Banker_leansMore (x1 : Int32) (x2 : Int32) (x3 : Int32) (x4 : Int32) : (Int32) :=
  0
def S_Quaker_leansMore (x1 : Int32) (x2 : Int32) (x3 : Int32) (x4 : Int32) : (Int32) :=
  (S_Man_stepTowards x1 0 1)
def S_Clerk_leansMore (x1 : Int32) (x2 : Int32) (x3 : Int32) (x4 : Int32) : (Int32) :=
  (S_Man_stepTowards x1 x3 2)
def S_Broker_leansMore (x1 : Int32) (x2 : Int32) (x3 : Int32) (x4 : Int32) : (Int32) :=
  (if 0 ≤ x1 then ((x2 / 3) + 1) else (-((x2 / 3) + 1)))
def S_Scrubber_leansMore (x1 : Int32) (x2 : Int32) (x3 : Int32) (x4 : Int32) : (Int32) :=
  (S_Man_stepTowards x1 0 5)
def S_Partner_leansMore (x1 : Int32) (x2 : Int32) (x3 : Int32) (x4 : Int32) : (Int32) :=
  (if (x4 - x4 / 2 * 2) = 0 then (S_Clerk_leansMore x1 x2 x3 x4) else 0)
def S_Swindler_leansMore (x1 : Int32) (x2 : Int32) (x3 : Int32) (x4 : Int32) : (Int32) :=
  ((2 : Int32) * (S_Broker_leansMore x1 x2 x3 x4))
def S_Man_priceBy (x1 : Int32) : (Int32) :=
  3
def S_Banker_priceBy (x1 : Int32) : (Int32) :=
  ((S_Man_priceBy x1) + x1)
def S_Quaker_priceBy (x1 : Int32) : (Int32) :=
  1
def S_Clerk_priceBy (x1 : Int32) : (Int32) :=
  2
def S_Broker_priceBy (x1 : Int32) : (Int32) :=
  ((2 : Int32) * (S_Banker_priceBy x1))
def S_Scrubber_priceBy (x1 : Int32) : (Int32) :=
  0
def S_Partner_priceBy (x1 : Int32) : (Int32) :=
  ((S_Clerk_priceBy x1) + 4)
def S_Man_uprightWithin (x1 : Int32) : (Int32) :=
  5
def S_Banker_uprightWithin (x1 : Int32) : (Int32) :=
  x1
def S_Quaker_uprightWithin (x1 : Int32) : (Int32) :=
  0
def S_Clerk_uprightWithin (x1 : Int32) : (Int32) :=
  ((S_Man_uprightWithin x1) + 3)
def S_Broker_uprightWithin (x1 : Int32) : (Int32) :=
  ((2 : Int32) * (S_Banker_uprightWithin x1))
def S_Scrubber_uprightWithin (x1 : Int32) : (Int32) :=
  9
def V_leansMore (k : Nat) (a b c d : Int32) : Int32 := match k with
  | 0 => S_Man_leansMore a b c d
  | 1 => S_Banker_leansMore a b c d
  | 2 => S_Quaker_leansMore a b c d
  | 3 => S_Clerk_leansMore a b c d
  | 4 => S_Broker_leansMore a b c d
  | 5 => S_Scrubber_leansMore a b c d
  | 6 => S_Swindler_leansMore a b c d
  | _ => S_Partner_leansMore a b c d
def V_uprightWithin (k : Nat) (a : Int32) : Int32 := match k with
  | 0 => S_Man_uprightWithin a
  | 1 => S_Banker_uprightWithin a
  | 2 => S_Quaker_uprightWithin a
  | 3 => S_Clerk_uprightWithin a
  | 4 => S_Broker_uprightWithin a
  | 5 => S_Scrubber_uprightWithin a
  | 6 => S_Broker_uprightWithin a
  | _ => S_Clerk_uprightWithin a
def V_discountAt (k : Nat) (a b : Int32) : Int32 := match k with
  | 0 => S_Man_discountAt a b
  | 1 => S_Banker_discountAt a b
  | 2 => S_Quaker_discountAt a b
  | 3 => S_Man_discountAt a b
  | 4 => S_Broker_discountAt a b
  | 5 => S_Scrubber_discountAt a b
  | 6 => S_Swindler_discountAt a b
  | _ => S_Partner_discountAt a b
def V_priceBy (k : Nat) (a : Int32) : Int32 := match k with
  | 0 => S_Man_priceBy a
  | 1 => S_Banker_priceBy a
  | 2 => S_Quaker_priceBy a
  | 3 => S_Clerk_priceBy a
  | 4 => S_Broker_priceBy a
  | 5 => S_Scrubber_priceBy a
  | 6 => S_Broker_priceBy a
  | _ => S_Partner_priceBy a
def S_Shelf_isEmpty (d_held : Int32) : (Int32) :=
  (if d_held = 0 then 1 else 0)
def S_Shelf_hasRow (d_held : Int32) : (Int32) :=
  (if d_held = 2 then 1 else 0)
def S_Shelf_clears (d_held : Int32) : (Int32) :=
  0
def S_Shelf_holdsKind (x1 : Int32) (x2 : Int32) (d_kind : Int32) (d_figure : Int32) (d_held : Int32) : (Int32) × (Int32) × (Int32) :=
  (x1, x2, 1)
def S_Shelf_price (d_kind : Int32) (d_figure : Int32) : Option ((Int32)) :=
  (if d_kind < 0 ∨ 8 ≤ d_kind.toNatClampNeg then none else some (V_priceBy d_kind.toNatClampNeg d_figure))
def S_Shelf_holdsRow_L17 (d_sort : Int32) (d_size : Int32) (d_held : Int32) : Nat → Int32 → (Nat → Int32) → Option ((Int32) × (Int32) × (Int32) × (Nat → Int32))
  | 0, _, _ => none
  | n17 + 1, y3, d_el => (if 100 ≤ y3 then some (d_sort, d_size, d_held, d_el) else (if y3 < 0 ∨ 100 ≤ y3.toNatClampNeg then none else (S_Shelf_holdsRow_L17 d_sort d_size d_held n17 (y3 + 1) (upd d_el y3.toNatClampNeg 0))))
def S_Shelf_holdsRow (x1 : Int32) (x2 : Int32) (d_sort : Int32) (d_size : Int32) (d_held : Int32) (d_el : Nat → Int32) : Option ((Int32) × (Int32) × (Int32) × (Nat → Int32)) :=
  (S_Shelf_holdsRow_L17 x1 x2 2 lfu 0 d_el)
def S_Shelf_hasElement (x1 : Int32) (d_size : Int32) : (Int32) :=
  (if x1 < 0 then 0 else (if d_size ≤ x1 then 0 else 1))
def S_Shelf_hasElements (x1 : Int32) (x2 : Int32) (d_size : Int32) : (Int32) :=
  (if x1 < 0 then 0 else (if x2 < 0 then 0 else (if d_size < x1 then 0 else (if (d_size - x1) < x2 then 0 else 1))))
def S_Shelf_sets (x1 : Int32) (x2 : Int32) (d_sort : Int32) (d_el : Nat → Int32) : Option ((Nat → Int32)) :=
  (if d_sort = 0 then (if x1 < 0 ∨ 100 ≤ x1.toNatClampNeg then none else some (upd d_el x1.toNatClampNeg (x2 : Int32).toInt8.toInt32)) else (if d_sort = 1 then (if x1 < 0 ∨ 100 ≤ x1.toNatClampNeg then none else some (upd d_el x1.toNatClampNeg (x2 : Int32).toInt16.toInt32)) else (if x1 < 0 ∨ 100 ≤ x1.toNatClampNeg then none else some (upd d_el x1.toNatClampNeg x2))))
def S_Shelf_leastOfSort (d_sort : Int32) : (Int32) :=
  (if d_sort = 0 then (-128) else (if d_sort = 1 then (-32768) else (-2147483648)))
def S_Shelf_agrees (x1 : Int32) (x2 : Int32) (d_sort : Int32) (d_el : Nat → Int32) : Option ((Int32)) :=
  (if x1 < 0 ∨ 100 ≤ x1.toNatClampNeg then none else (if (d_el x1.toNatClampNeg) = x2 then some 1 else (if (d_el x1.toNatClampNeg) = (S_Shelf_leastOfSort d_sort) then some 1 else some 0)))
def S_Shelf_isText (d_sort : Int32) : (Int32) :=
  (if d_sort = 0 then 1 else 0)
def S_Shelf_digitsBehind (x0 : Int32) : (Int32) :=
  (if x0 = 100 then 2 else (if x0 = 108 then 3 else (if x0 = 109 then 4 else (if x0 = 114 then 1 else (if x0 = 119 then 2 else 0)))))
def S_Shelf_lengthBy (x0 : Int32) : (Int32) :=
  ((S_Shelf_digitsBehind x0) + 2)
def S_Shelf_faultOfStatement_L40 (y2 : Int32) (d_size : Int32) (d_el : Nat → Int32) : Nat → Int32 → Option ((Int32))
  | 0, _ => none
  | n40 + 1, y3 => (if y2 ≤ y3 then (if (S_Shelf_hasElement y2 d_size) = 0 then some y2 else (if y2 < 0 ∨ 100 ≤ y2.toNatClampNeg then none else (if (d_el y2.toNatClampNeg) = 59 then some (-1) else some y2))) else (if (S_Shelf_hasElement y3 d_size) = 0 then some y3 else (if y3 < 0 ∨ 100 ≤ y3.toNatClampNeg then none else (if (S_PL_isIn (d_el y3.toNatClampNeg) 48 57) = 0 then some y3 else (S_Shelf_faultOfStatement_L40 y2 d_size d_el n40 (y3 + 1))))))
def S_Shelf_faultOfStatement (x1 : Int32) (d_size : Int32) (d_el : Nat → Int32) : Option ((Int32)) :=
  (if (S_Shelf_hasElement x1 d_size) = 0 then some x1 else (if x1 < 0 ∨ 100 ≤ x1.toNatClampNeg then none else (if (S_Shelf_digitsBehind (d_el x1.toNatClampNeg)) = 0 then some x1 else (S_Shelf_faultOfStatement_L40 ((x1 + (S_Shelf_lengthBy (d_el x1.toNatClampNeg))) - 1) d_size d_el lfu (x1 + 1)))))
def S_Shelf_faultOfForm_L2 (d_size : Int32) (d_el : Nat → Int32) : Nat → Int32 → Option ((Int32))
  | 0, _ => none
  | n2 + 1, y1 => ((S_Shelf_faultOfStatement y1 d_size d_el).bind (fun r4 => (if r4 < 0 then (if y1 < 0 ∨ 100 ≤ y1.toNatClampNeg then none else (if (y1 + (S_Shelf_lengthBy (d_el y1.toNatClampNeg))) < d_size then (S_Shelf_faultOfForm_L2 d_size d_el n2 (y1 + (S_Shelf_lengthBy (d_el y1.toNatClampNeg)))) else some (-1))) else some r4)))
def S_Shelf_faultOfForm (d_size : Int32) (d_el : Nat → Int32) : Option ((Int32)) :=
  (S_Shelf_faultOfForm_L2 d_size d_el lfu 0)
def S_Shelf_digit (x1 : Int32) (d_size : Int32) (d_el : Nat → Int32) : Option ((Int32)) :=
  (if (S_Shelf_hasElement x1 d_size) = 0 then some 0 else (if x1 < 0 ∨ 100 ≤ x1.toNatClampNeg then none else some ((d_el x1.toNatClampNeg) - 48)))
def S_Shelf_twoDigits (x1 : Int32) (d_size : Int32) (d_el : Nat → Int32) : Option ((Int32)) :=
  ((S_Shelf_digit x1 d_size d_el).bind (fun r4 => ((S_Shelf_digit (x1 + 1) d_size d_el).bind (fun r12 => some (((10 : Int32) * r4) + r12)))))
def S_City_becomes (c_men : Int32) (c_propped : Int32) (c_place : Int32) (c_swings : Int32) (c_crashes : Int32) (c_day : Int32) (c_kind : Nat → Int32) (c_figure : Nat → Int32) (c_lean : Nat → Int32) (o_men : Int32) (o_propped : Int32) (o_place : Int32) (o_swings : Int32) (o_crashes : Int32) (o_day : Int32) (o_kind : Nat → Int32) (o_figure : Nat → Int32) (o_lean : Nat → Int32) : Option ((Int32) × (Int32) × (Int32) × (Int32) × (Int32) × (Int32) × (Nat → Int32) × (Nat → Int32) × (Nat → Int32)) :=
  some (o_men, o_propped, o_place, o_swings, o_crashes, o_day, (va_cpy o_kind c_kind (0 : Int32).toNatClampNeg (0 : Int32).toNatClampNeg (8 : Int32).toNatClampNeg), (va_cpy o_figure c_figure (0 : Int32).toNatClampNeg (0 : Int32).toNatClampNeg (8 : Int32).toNatClampNeg), (va_cpy o_lean c_lean (0 : Int32).toNatClampNeg (0 : Int32).toNatClampNeg (8 : Int32).toNatClampNeg))
def S_City_has (x1 : Int32) (c_men : Int32) : (Int32) :=
  (if x1 < 0 then 0 else (if c_men ≤ x1 then 0 else 1))
def S_City_takesIn (x1 : Int32) (x2 : Int32) (x3 : Int32) (c_men : Int32) (c_kind : Nat → Int32) (c_figure : Nat → Int32) (c_lean : Nat → Int32) : Option ((Int32) × (Int32) × (Nat → Int32) × (Nat → Int32) × (Nat → Int32)) :=
  (if c_men < 8 then (if c_men < 0 ∨ 8 ≤ c_men.toNatClampNeg then none else some (1, (c_men + 1), (upd c_kind c_men.toNatClampNeg x1), (upd c_figure c_men.toNatClampNeg x2), (upd c_lean c_men.toNatClampNeg x3))) else some (0, c_men, c_kind, c_figure, c_lean))
def S_City_isPropped (x1 : Int32) (c_propped : Int32) : (Int32) :=
  (if (c_propped &&& ((1 : Int32) <<< (x1 &&& 31))) = 0 then 0 else 1)
def S_City_turnProp (x1 : Int32) (c_propped : Int32) : (Int32) :=
  (c_propped ^^^ ((1 : Int32) <<< (x1 &&& 31)))
def S_City_takesManTold (x2 : Int32) (c_men : Int32) (c_kind : Nat → Int32) (c_figure : Nat → Int32) (c_lean : Nat → Int32) (d_size : Int32) (d_el : Nat → Int32) : Option ((Int32) × (Int32) × (Nat → Int32) × (Nat → Int32) × (Nat → Int32)) :=
  ((S_Shelf_digit (x2 + 1) d_size d_el).bind (fun r4 => ((S_Shelf_twoDigits (x2 + 3) d_size d_el).bind (fun r12 => (if 8 ≤ r4 then some (0, c_men, c_kind, c_figure, c_lean) else (if 45 < (r12 - 45) then some (0, c_men, c_kind, c_figure, c_lean) else ((S_Shelf_digit (x2 + 2) d_size d_el).bind (fun r39 => ((S_City_takesIn r4 r39 (r12 - 45) c_men c_kind c_figure c_lean).bind (fun r44 => (if r44.1 = 0 then some (0, r44.2.1, r44.2.2.1, r44.2.2.2.1, r44.2.2.2.2) else some (1, r44.2.1, r44.2.2.1, r44.2.2.2.1, r44.2.2.2.2))))))))))))
def S_City_takesLeanTold (x2 : Int32) (c_men : Int32) (c_lean : Nat → Int32) (d_size : Int32) (d_el : Nat → Int32) : Option ((Int32) × (Nat → Int32)) :=
  ((S_Shelf_digit (x2 + 1) d_size d_el).bind (fun r4 => ((S_Shelf_twoDigits (x2 + 2) d_size d_el).bind (fun r12 => (if (S_City_has r4 c_men) = 0 then some (0, c_lean) else (if (r12 - 45) ≤ 45 then (if r4 < 0 ∨ 8 ≤ r4.toNatClampNeg then none else some (1, (upd c_lean r4.toNatClampNeg (r12 - 45)))) else some (0, c_lean)))))))
def S_City_takesPropTold (x2 : Int32) (c_men : Int32) (c_propped : Int32) (d_size : Int32) (d_el : Nat → Int32) : Option ((Int32) × (Int32)) :=
  ((S_Shelf_digit (x2 + 1) d_size d_el).bind (fun r4 => (if (S_City_has r4 c_men) = 0 then some (0, c_propped) else some (1, (S_City_turnProp r4 c_propped)))))
def S_City_takesLeadTold (x2 : Int32) (c_place : Int32) (c_swings : Int32) (d_size : Int32) (d_el : Nat → Int32) : Option ((Int32) × (Int32) × (Int32)) :=
  ((S_Shelf_digit (x2 + 2) d_size d_el).bind (fun r4 => (if r4 < 8 then ((S_Shelf_digit (x2 + 1) d_size d_el).bind (fun r21 => some (1, r4, r21))) else some (0, c_place, c_swings))))
def S_City_sumOfLeans_L4 (c_men : Int32) (c_lean : Nat → Int32) : Nat → Int32 → Int32 → Option ((Int32))
  | 0, _, _ => none
  | n4 + 1, y1, y2 => (if c_men ≤ y2 then some y1 else (if y2 < 0 ∨ 8 ≤ y2.toNatClampNeg then none else (S_City_sumOfLeans_L4 c_men c_lean n4 (y1 + (c_lean y2.toNatClampNeg)) (y2 + 1))))
def S_City_sumOfLeans (c_men : Int32) (c_lean : Nat → Int32) : Option ((Int32)) :=
  (S_City_sumOfLeans_L4 c_men c_lean lfu 0 0)
def S_City_upright_L4 (c_men : Int32) (c_kind : Nat → Int32) (c_figure : Nat → Int32) (c_lean : Nat → Int32) : Nat → Int32 → Int32 → Option ((Int32))
  | 0, _, _ => none
  | n4 + 1, y1, y2 => (if c_men ≤ y2 then some y1 else (if y2 < 0 ∨ 8 ≤ y2.toNatClampNeg then none else (if (c_kind y2.toNatClampNeg) < 0 ∨ 8 ≤ (c_kind y2.toNatClampNeg).toNatClampNeg then none else (if (V_uprightWithin (c_kind y2.toNatClampNeg).toNatClampNeg (c_figure y2.toNatClampNeg)) < (jabs (c_lean y2.toNatClampNeg)) then (S_City_upright_L4 c_men c_kind c_figure c_lean n4 y1 (y2 + 1)) else (S_City_upright_L4 c_men c_kind c_figure c_lean n4 (y1 ||| ((1 : Int32) <<< (y2 &&& 31))) (y2 + 1))))))
def S_City_upright (c_men : Int32) (c_kind : Nat → Int32) (c_figure : Nat → Int32) (c_lean : Nat → Int32) : Option ((Int32)) :=
  (S_City_upright_L4 c_men c_kind c_figure c_lean lfu 0 0)
def S_City_turnSigns_L2 (c_men : Int32) (c_propped : Int32) : Nat → Int32 → (Nat → Int32) → Option ((Nat → Int32))
  | 0, _, _ => none
  | n2 + 1, y1, c_lean => (if c_men ≤ y1 then some c_lean else (if (S_City_isPropped y1 c_propped) = 0 then (if y1 < 0 ∨ 8 ≤ y1.toNatClampNeg then none else (S_City_turnSigns_L2 c_men c_propped n2 (y1 + 1) (upd c_lean y1.toNatClampNeg (-(c_lean y1.toNatClampNeg))))) else (S_City_turnSigns_L2 c_men c_propped n2 (y1 + 1) c_lean)))
def S_City_turnSigns (c_men : Int32) (c_propped : Int32) (c_lean : Nat → Int32) : Option ((Nat → Int32)) :=
  (S_City_turnSigns_L2 c_men c_propped lfu 0 c_lean)
def S_City_plumb_L5 (c_men : Int32) (c_lean : Nat → Int32) : Nat → Int32 → Int32 → Option ((Int32))
  | 0, _, _ => none
  | n5 + 1, y1, y2 => (if c_men ≤ y2 then some y1 else (if y1 = (-4) then (S_City_plumb_L5 c_men c_lean n5 y2 (y2 + 1)) else (if y2 < 0 ∨ 8 ≤ y2.toNatClampNeg then none else (if y1 < 0 ∨ 8 ≤ y1.toNatClampNeg then none else (if (jabs (c_lean y1.toNatClampNeg)) ≤ (jabs (c_lean y2.toNatClampNeg)) then (S_City_plumb_L5 c_men c_lean n5 y1 (y2 + 1)) else (S_City_plumb_L5 c_men c_lean n5 y2 (y2 + 1)))))))
def S_City_plumb (c_men : Int32) (c_lean : Nat → Int32) : Option ((Int32)) :=
  (S_City_plumb_L5 c_men c_lean lfu (-4) 0)
def S_City_moveLead (c_men : Int32) (c_place : Int32) (c_swings : Int32) (c_lean : Nat → Int32) : Option ((Int32)) :=
  (if c_men = 0 then some c_place else (if c_swings ≤ 0 then ((S_City_plumb c_men c_lean).bind (fun r55 => some (c_place + (S_Man_stepTowards c_place r55 1)))) else (if c_men ≤ (c_place + 1) then some 0 else some (c_place + 1))))
def S_City_passDay_L33 (y1 : Int32) (c_men : Int32) (c_propped : Int32) (c_kind : Nat → Int32) (c_figure : Nat → Int32) (c_place : Int32) (c_swings : Int32) (c_crashes : Int32) (c_day : Int32) : Nat → Int32 → (Nat → Int32) → Option ((Int32) × (Int32) × (Int32) × (Int32) × (Int32) × (Nat → Int32))
  | 0, _, _ => none
  | n33 + 1, y2, c_lean => (if c_men ≤ y2 then ((S_City_upright c_men c_kind c_figure c_lean).bind (fun r113 => (if (c_men / 2) ≤ (S_J_bitCount r113) then ((S_City_moveLead c_men c_place (jmax 0 (c_swings - 1)) c_lean).bind (fun r187 => some (r187, (jmax 0 (c_swings - 1)), c_crashes, c_day, 0, c_lean))) else ((S_City_turnSigns c_men c_propped c_lean).bind (fun r166 => ((S_City_moveLead c_men c_place 9 r166).bind (fun r187 => some (r187, 9, (jmin 999 (c_crashes + 1)), c_day, 1, r166)))))))) else (if (S_City_isPropped y2 c_propped) = 0 then (if y2 < 0 ∨ 8 ≤ y2.toNatClampNeg then none else (if (c_kind y2.toNatClampNeg) < 0 ∨ 8 ≤ (c_kind y2.toNatClampNeg).toNatClampNeg then none else (S_City_passDay_L33 y1 c_men c_propped c_kind c_figure c_place c_swings c_crashes c_day n33 (y2 + 1) (upd c_lean y2.toNatClampNeg (jmax (-45) (jmin 45 ((c_lean y2.toNatClampNeg) + (V_leansMore (c_kind y2.toNatClampNeg).toNatClampNeg (c_lean y2.toNatClampNeg) (c_figure y2.toNatClampNeg) y1 c_day)))))))) else (S_City_passDay_L33 y1 c_men c_propped c_kind c_figure c_place c_swings c_crashes c_day n33 (y2 + 1) c_lean)))
def S_City_passDay_J30 (v0 : Int32) (c_men : Int32) (c_propped : Int32) (c_kind : Nat → Int32) (c_figure : Nat → Int32) (c_place : Int32) (c_swings : Int32) (c_crashes : Int32) (c_day : Int32) (c_lean : Nat → Int32) : Option ((Int32) × (Int32) × (Int32) × (Int32) × (Int32) × (Nat → Int32)) :=
  (S_City_passDay_L33 v0 c_men c_propped c_kind c_figure c_place c_swings c_crashes c_day lfu 0 c_lean)
def S_City_passDay (c_men : Int32) (c_propped : Int32) (c_place : Int32) (c_swings : Int32) (c_crashes : Int32) (c_day : Int32) (c_crashedToday : Int32) (c_kind : Nat → Int32) (c_figure : Nat → Int32) (c_lean : Nat → Int32) : Option ((Int32) × (Int32) × (Int32) × (Int32) × (Int32) × (Nat → Int32)) :=
  (if c_men = 0 then (S_City_passDay_J30 0 c_men c_propped c_kind c_figure c_place c_swings c_crashes (c_day + 1) c_lean) else ((S_City_sumOfLeans c_men c_lean).bind (fun r22 => (S_City_passDay_J30 (r22 / c_men) c_men c_propped c_kind c_figure c_place c_swings c_crashes (c_day + 1) c_lean))))
def S_City_passDays_L4 (x1 : Int32) (c_men : Int32) (c_propped : Int32) (c_kind : Nat → Int32) (c_figure : Nat → Int32) : Nat → Int32 → Int32 → Int32 → Int32 → Int32 → Int32 → Int32 → (Nat → Int32) → Option ((Int32) × (Int32) × (Int32) × (Int32) × (Int32) × (Int32) × (Nat → Int32))
  | 0, _, _, _, _, _, _, _, _ => none
  | n4 + 1, y2, y3, c_place, c_swings, c_crashes, c_day, c_crashedToday, c_lean => (if x1 ≤ y3 then some (y2, c_place, c_swings, c_crashes, c_day, c_crashedToday, c_lean) else ((S_City_passDay c_men c_propped c_place c_swings c_crashes c_day c_crashedToday c_kind c_figure c_lean).bind (fun r10 => (if r10.2.2.2.2.1 = 0 then (S_City_passDays_L4 x1 c_men c_propped c_kind c_figure n4 y2 (y3 + 1) r10.1 r10.2.1 r10.2.2.1 r10.2.2.2.1 r10.2.2.2.2.1 r10.2.2.2.2.2) else (S_City_passDays_L4 x1 c_men c_propped c_kind c_figure n4 (y2 + 1) (y3 + 1) r10.1 r10.2.1 r10.2.2.1 r10.2.2.2.1 r10.2.2.2.2.1 r10.2.2.2.2.2)))))
def S_City_passDays (x1 : Int32) (c_men : Int32) (c_propped : Int32) (c_place : Int32) (c_swings : Int32) (c_crashes : Int32) (c_day : Int32) (c_crashedToday : Int32) (c_kind : Nat → Int32) (c_figure : Nat → Int32) (c_lean : Nat → Int32) : Option ((Int32) × (Int32) × (Int32) × (Int32) × (Int32) × (Int32) × (Nat → Int32)) :=
  (S_City_passDays_L4 x1 c_men c_propped c_kind c_figure lfu 0 0 c_place c_swings c_crashes c_day c_crashedToday c_lean)
def S_City_takesDaysTold (x2 : Int32) (c_men : Int32) (c_propped : Int32) (c_place : Int32) (c_swings : Int32) (c_crashes : Int32) (c_day : Int32) (c_crashedToday : Int32) (c_kind : Nat → Int32) (c_figure : Nat → Int32) (c_lean : Nat → Int32) (d_size : Int32) (d_el : Nat → Int32) : Option ((Int32) × (Int32) × (Int32) × (Int32) × (Int32) × (Int32) × (Nat → Int32)) :=
  ((S_Shelf_twoDigits (x2 + 1) d_size d_el).bind (fun r4 => (if (S_PL_isIn r4 1 60) = 0 then some (0, c_place, c_swings, c_crashes, c_day, c_crashedToday, c_lean) else (if (c_day + r4) ≤ 999 then ((S_City_passDays r4 c_men c_propped c_place c_swings c_crashes c_day c_crashedToday c_kind c_figure c_lean).bind (fun r34 => some (1, r34.2.1, r34.2.2.1, r34.2.2.2.1, r34.2.2.2.2.1, r34.2.2.2.2.2.1, r34.2.2.2.2.2.2))) else some (0, c_place, c_swings, c_crashes, c_day, c_crashedToday, c_lean)))))
def S_City_takesStatement (x2 : Int32) (c_men : Int32) (c_propped : Int32) (c_place : Int32) (c_swings : Int32) (c_crashes : Int32) (c_day : Int32) (c_crashedToday : Int32) (c_kind : Nat → Int32) (c_figure : Nat → Int32) (c_lean : Nat → Int32) (d_size : Int32) (d_el : Nat → Int32) : Option ((Int32) × (Int32) × (Int32) × (Int32) × (Int32) × (Int32) × (Int32) × (Int32) × (Nat → Int32) × (Nat → Int32) × (Nat → Int32)) :=
  (if x2 < 0 ∨ 100 ≤ x2.toNatClampNeg then none else (if (d_el x2.toNatClampNeg) = 108 then ((S_City_takesLeanTold x2 c_men c_lean d_size d_el).bind (fun r58 => (if ¬ (r58.1 = 0 ∨ r58.1 = 1) then none else some (r58.1, c_men, c_propped, c_place, c_swings, c_crashes, c_day, c_crashedToday, c_kind, c_figure, r58.2)))) else (if (d_el x2.toNatClampNeg) = 109 then ((S_City_takesManTold x2 c_men c_kind c_figure c_lean d_size d_el).bind (fun r51 => (if ¬ (r51.1 = 0 ∨ r51.1 = 1) then none else some (r51.1, r51.2.1, c_propped, c_place, c_swings, c_crashes, c_day, c_crashedToday, r51.2.2.1, r51.2.2.2.1, r51.2.2.2.2)))) else (if (d_el x2.toNatClampNeg) = 114 then ((S_City_takesPropTold x2 c_men c_propped d_size d_el).bind (fun r65 => (if ¬ (r65.1 = 0 ∨ r65.1 = 1) then none else some (r65.1, c_men, r65.2, c_place, c_swings, c_crashes, c_day, c_crashedToday, c_kind, c_figure, c_lean)))) else (if (d_el x2.toNatClampNeg) = 119 then ((S_City_takesLeadTold x2 c_place c_swings d_size d_el).bind (fun r72 => (if ¬ (r72.1 = 0 ∨ r72.1 = 1) then none else some (r72.1, c_men, c_propped, r72.2.1, r72.2.2, c_crashes, c_day, c_crashedToday, c_kind, c_figure, c_lean)))) else ((S_City_takesDaysTold x2 c_men c_propped c_place c_swings c_crashes c_day c_crashedToday c_kind c_figure c_lean d_size d_el).bind (fun r79 => (if ¬ (r79.1 = 0 ∨ r79.1 = 1) then none else some (r79.1, c_men, c_propped, r79.2.1, r79.2.2.1, r79.2.2.2.1, r79.2.2.2.2.1, r79.2.2.2.2.2.1, c_kind, c_figure, r79.2.2.2.2.2.2)))))))))
def S_City_far (x1 : Int32) (c_lean : Nat → Int32) : Option ((Int32)) :=
  (if x1 < 0 ∨ 8 ≤ x1.toNatClampNeg then none else some (jabs (c_lean x1.toNatClampNeg)))
def S_City_isUprightAt (x1 : Int32) (x2 : Int32) (c_kind : Nat → Int32) (c_figure : Nat → Int32) : Option ((Int32)) :=
  (if x1 < 0 ∨ 8 ≤ x1.toNatClampNeg then none else (if (c_kind x1.toNatClampNeg) < 0 ∨ 8 ≤ (c_kind x1.toNatClampNeg).toNatClampNeg then none else (if (V_uprightWithin (c_kind x1.toNatClampNeg).toNatClampNeg (c_figure x1.toNatClampNeg)) < x2 then some 0 else some 1)))
def S_City_isUpright (x1 : Int32) (c_kind : Nat → Int32) (c_figure : Nat → Int32) (c_lean : Nat → Int32) : Option ((Int32)) :=
  ((S_City_far x1 c_lean).bind (fun r4 => ((S_City_isUprightAt x1 r4 c_kind c_figure).bind (fun r7 => (if ¬ (r7 = 0 ∨ r7 = 1) then none else some r7)))))
def S_City_discountOf (x1 : Int32) (c_kind : Nat → Int32) (c_figure : Nat → Int32) (c_lean : Nat → Int32) : Option ((Int32)) :=
  (if x1 < 0 ∨ 8 ≤ x1.toNatClampNeg then none else (if (c_kind x1.toNatClampNeg) < 0 ∨ 8 ≤ (c_kind x1.toNatClampNeg).toNatClampNeg then none else ((S_City_far x1 c_lean).bind (fun r13 => some (V_discountAt (c_kind x1.toNatClampNeg).toNatClampNeg r13 (c_figure x1.toNatClampNeg))))))
def S_City_discountOfAll_L4 (c_men : Int32) (c_kind : Nat → Int32) (c_figure : Nat → Int32) (c_lean : Nat → Int32) : Nat → Int32 → Int32 → Option ((Int32))
  | 0, _, _ => none
  | n4 + 1, y1, y2 => (if c_men ≤ y2 then some y1 else ((S_City_discountOf y2 c_kind c_figure c_lean).bind (fun r15 => (S_City_discountOfAll_L4 c_men c_kind c_figure c_lean n4 (y1 + r15) (y2 + 1)))))
def S_City_discountOfAll (c_men : Int32) (c_kind : Nat → Int32) (c_figure : Nat → Int32) (c_lean : Nat → Int32) : Option ((Int32)) :=
  (S_City_discountOfAll_L4 c_men c_kind c_figure c_lean lfu 0 0)
def S_City_east_L4 (c_men : Int32) (c_lean : Nat → Int32) : Nat → Int32 → Int32 → Option ((Int32))
  | 0, _, _ => none
  | n4 + 1, y1, y2 => (if c_men ≤ y2 then some y1 else (if y2 < 0 ∨ 8 ≤ y2.toNatClampNeg then none else (if (c_lean y2.toNatClampNeg) ≤ 0 then (S_City_east_L4 c_men c_lean n4 y1 (y2 + 1)) else (S_City_east_L4 c_men c_lean n4 (y1 + 1) (y2 + 1)))))
def S_City_east (c_men : Int32) (c_lean : Nat → Int32) : Option ((Int32)) :=
  (S_City_east_L4 c_men c_lean lfu 0 0)
def S_City_uprightFrom_L4 (x1 : Int32) (c_men : Int32) (c_kind : Nat → Int32) (c_figure : Nat → Int32) (c_lean : Nat → Int32) : Nat → Int32 → Int32 → Option ((Int32))
  | 0, _, _ => none
  | n4 + 1, y2, y3 => (if c_men ≤ y3 then some y2 else (if y3 = x1 then (S_City_uprightFrom_L4 x1 c_men c_kind c_figure c_lean n4 y2 (y3 + 1)) else (if y3 < 0 ∨ 8 ≤ y3.toNatClampNeg then none else (if x1 < 0 ∨ 8 ≤ x1.toNatClampNeg then none else ((S_City_isUprightAt y3 (jabs ((c_lean y3.toNatClampNeg) - (c_lean x1.toNatClampNeg))) c_kind c_figure).bind (fun r35 => (if r35 = 0 then (S_City_uprightFrom_L4 x1 c_men c_kind c_figure c_lean n4 y2 (y3 + 1)) else (S_City_uprightFrom_L4 x1 c_men c_kind c_figure c_lean n4 (y2 + 1) (y3 + 1)))))))))
def S_City_uprightFrom (x1 : Int32) (c_men : Int32) (c_kind : Nat → Int32) (c_figure : Nat → Int32) (c_lean : Nat → Int32) : Option ((Int32)) :=
  (S_City_uprightFrom_L4 x1 c_men c_kind c_figure c_lean lfu 0 0)
def S_City_rightOne_L7 (c_men : Int32) (c_kind : Nat → Int32) (c_figure : Nat → Int32) (c_lean : Nat → Int32) : Nat → Int32 → Int32 → Int32 → Option ((Int32))
  | 0, _, _, _ => none
  | n7 + 1, y1, y2, y3 => (if c_men ≤ y3 then some y1 else ((S_City_uprightFrom y3 c_men c_kind c_figure c_lean).bind (fun r17 => (if r17 ≤ y2 then (S_City_rightOne_L7 c_men c_kind c_figure c_lean n7 y1 y2 (y3 + 1)) else (S_City_rightOne_L7 c_men c_kind c_figure c_lean n7 y3 r17 (y3 + 1))))))
def S_City_rightOne (c_men : Int32) (c_kind : Nat → Int32) (c_figure : Nat → Int32) (c_lean : Nat → Int32) : Option ((Int32)) :=
  (S_City_rightOne_L7 c_men c_kind c_figure c_lean lfu (-4) (-1) 0)
def S_City_walls_L22 (K5 : Int32 → Int32 → (Nat → Int32) → Option ((Int32) × (Nat → Int32))) (y1 : Int32) (y2 : Int32) (c_lean : Nat → Int32) : Nat → Int32 → (Nat → Int32) → Option ((Int32) × (Nat → Int32))
  | 0, _, _ => none
  | n22 + 1, y3, c_seated => (if y2 ≤ y3 then (if y2 < 0 ∨ 8 ≤ y2.toNatClampNeg then none else (K5 (jmax y1 (c_seated y2.toNatClampNeg)) (y2 + 1) c_seated)) else (if y3 < 0 ∨ 8 ≤ y3.toNatClampNeg then none else (if y2 < 0 ∨ 8 ≤ y2.toNatClampNeg then none else (if (c_lean y2.toNatClampNeg) < (c_lean y3.toNatClampNeg) then (S_City_walls_L22 K5 y1 y2 c_lean n22 (y3 + 1) c_seated) else (S_City_walls_L22 K5 y1 y2 c_lean n22 (y3 + 1) (upd c_seated y2.toNatClampNeg (jmax (c_seated y2.toNatClampNeg) ((c_seated y3.toNatClampNeg) + 1))))))))
def S_City_walls_L5 (c_men : Int32) (c_lean : Nat → Int32) : Nat → Int32 → Int32 → (Nat → Int32) → Option ((Int32) × (Nat → Int32))
  | 0, _, _, _ => none
  | n5 + 1, y1, y2, c_seated => (if c_men ≤ y2 then some (y1, c_seated) else (if y2 < 0 ∨ 8 ≤ y2.toNatClampNeg then none else (S_City_walls_L22 (S_City_walls_L5 c_men c_lean n5) y1 y2 c_lean lfu 0 (upd c_seated y2.toNatClampNeg 1))))
def S_City_walls (c_men : Int32) (c_lean : Nat → Int32) (c_seated : Nat → Int32) : Option ((Int32) × (Nat → Int32)) :=
  (S_City_walls_L5 c_men c_lean lfu (-4) 0 c_seated)
def S_City_sumOf_L4 (x1 : Int32) (c_men : Int32) (c_lean : Nat → Int32) : Nat → Int32 → Int32 → Option ((Int32))
  | 0, _, _ => none
  | n4 + 1, y2, y3 => (if c_men ≤ y3 then some y2 else (if (x1 &&& ((1 : Int32) <<< (y3 &&& 31))) = 0 then (S_City_sumOf_L4 x1 c_men c_lean n4 y2 (y3 + 1)) else (if y3 < 0 ∨ 8 ≤ y3.toNatClampNeg then none else (S_City_sumOf_L4 x1 c_men c_lean n4 (y2 + (c_lean y3.toNatClampNeg)) (y3 + 1)))))
def S_City_sumOf (x1 : Int32) (c_men : Int32) (c_lean : Nat → Int32) : Option ((Int32)) :=
  (S_City_sumOf_L4 x1 c_men c_lean lfu 0 0)
def S_City_balance_L4 (c_men : Int32) (c_lean : Nat → Int32) : Nat → Int32 → Int32 → Option ((Int32))
  | 0, _, _ => none
  | n4 + 1, y1, y2 => (if ((1 : Int32) <<< (c_men &&& 31)) ≤ y2 then some y1 else (if (S_J_bitCount y2) ≤ (S_J_bitCount y1) then (S_City_balance_L4 c_men c_lean n4 y1 (y2 + 1)) else ((S_City_sumOf y2 c_men c_lean).bind (fun r27 => (if r27 = 0 then (S_City_balance_L4 c_men c_lean n4 y2 (y2 + 1)) else (S_City_balance_L4 c_men c_lean n4 y1 (y2 + 1)))))))
def S_City_balance (c_men : Int32) (c_lean : Nat → Int32) : Option ((Int32)) :=
  (S_City_balance_L4 c_men c_lean lfu 0 1)
def S_City_side (x1 : Int32) (c_lean : Nat → Int32) : Option ((Int32)) :=
  (if x1 < 0 ∨ 8 ≤ x1.toNatClampNeg then none else (if (c_lean x1.toNatClampNeg) = 0 then some 0 else (if 0 ≤ (c_lean x1.toNatClampNeg) then some 1 else some (-1))))
def S_City_trusts (x1 : Int32) (x2 : Int32) (c_lean : Nat → Int32) : Option ((Int32)) :=
  (if x1 = x2 then some 0 else ((S_City_side x1 c_lean).bind (fun r7 => ((S_City_side x2 c_lean).bind (fun r12 => (if r7 = r12 then ((S_City_far x2 c_lean).bind (fun r20 => ((S_City_far x1 c_lean).bind (fun r25 => (if (r25 + 10) < r20 then some 0 else some 1))))) else some 0))))))
def S_City_trustedBy_L4 (x1 : Int32) (c_men : Int32) (c_lean : Nat → Int32) : Nat → Int32 → Int32 → Option ((Int32))
  | 0, _, _ => none
  | n4 + 1, y2, y3 => (if c_men ≤ y3 then some y2 else ((S_City_trusts y3 x1 c_lean).bind (fun r15 => (if r15 = 0 then (S_City_trustedBy_L4 x1 c_men c_lean n4 y2 (y3 + 1)) else (S_City_trustedBy_L4 x1 c_men c_lean n4 (y2 ||| ((1 : Int32) <<< (y3 &&& 31))) (y3 + 1))))))
def S_City_trustedBy (x1 : Int32) (c_men : Int32) (c_lean : Nat → Int32) : Option ((Int32)) :=
  (S_City_trustedBy_L4 x1 c_men c_lean lfu 0 0)
def S_City_mostTrusted_L7 (c_men : Int32) (c_lean : Nat → Int32) : Nat → Int32 → Int32 → Int32 → Option ((Int32))
  | 0, _, _, _ => none
  | n7 + 1, y1, y2, y3 => (if c_men ≤ y3 then some y1 else ((S_City_trustedBy y3 c_men c_lean).bind (fun r17 => (if (S_J_bitCount r17) ≤ y2 then (S_City_mostTrusted_L7 c_men c_lean n7 y1 y2 (y3 + 1)) else (S_City_mostTrusted_L7 c_men c_lean n7 y3 (S_J_bitCount r17) (y3 + 1))))))
def S_City_mostTrusted (c_men : Int32) (c_lean : Nat → Int32) : Option ((Int32)) :=
  (S_City_mostTrusted_L7 c_men c_lean lfu (-4) (-1) 0)
def S_City_rivals_L14 (K4 : Int32 → Int32 → Option ((Int32))) (y2 : Int32) (c_lean : Nat → Int32) : Nat → Int32 → Int32 → Option ((Int32))
  | 0, _, _ => none
  | n14 + 1, y1, y3 => (if y2 ≤ y3 then (K4 y1 (y2 + 1)) else ((S_City_trusts y2 y3 c_lean).bind (fun r22 => (if r22 = 0 then ((S_City_trusts y3 y2 c_lean).bind (fun r31 => (if r31 = 0 then (S_City_rivals_L14 K4 y2 c_lean n14 (y1 + 1) (y3 + 1)) else (S_City_rivals_L14 K4 y2 c_lean n14 y1 (y3 + 1))))) else (S_City_rivals_L14 K4 y2 c_lean n14 y1 (y3 + 1))))))
def S_City_rivals_L4 (c_men : Int32) (c_lean : Nat → Int32) : Nat → Int32 → Int32 → Option ((Int32))
  | 0, _, _ => none
  | n4 + 1, y1, y2 => (if c_men ≤ y2 then some y1 else (S_City_rivals_L14 (S_City_rivals_L4 c_men c_lean n4) y2 c_lean lfu y1 0))
def S_City_rivals (c_men : Int32) (c_lean : Nat → Int32) : Option ((Int32)) :=
  (S_City_rivals_L4 c_men c_lean lfu 0 0)
def S_City_tellers_L22 (K8 : Int32 → Int32 → Option ((Int32))) (y2 : Int32) (y3 : Int32) (c_men : Int32) (c_lean : Nat → Int32) : Nat → Int32 → Int32 → Option ((Int32))
  | 0, _, _ => none
  | n22 + 1, y4, y5 => (if c_men ≤ y5 then (K8 y4 (y3 + 1)) else (if (y2 &&& ((1 : Int32) <<< (y5 &&& 31))) = 0 then (S_City_tellers_L22 K8 y2 y3 c_men c_lean n22 y4 (y5 + 1)) else ((S_City_trustedBy y5 c_men c_lean).bind (fun r45 => (S_City_tellers_L22 K8 y2 y3 c_men c_lean n22 (y4 ||| r45) (y5 + 1))))))
def S_City_tellers_L8 (c_men : Int32) (c_lean : Nat → Int32) : Nat → Int32 → Int32 → Option ((Int32))
  | 0, _, _ => none
  | n8 + 1, y2, y3 => (if c_men ≤ y3 then some y2 else (S_City_tellers_L22 (S_City_tellers_L8 c_men c_lean n8) y2 y3 c_men c_lean lfu y2 0))
def S_City_tellers (x1 : Int32) (c_men : Int32) (c_lean : Nat → Int32) : Option ((Int32)) :=
  ((S_City_trustedBy x1 c_men c_lean).bind (fun r2 => (S_City_tellers_L8 c_men c_lean lfu r2 0)))
def S_PL_power_L5 (x0 : Int32) (x1 : Int32) : Nat → Int64 → Int32 → Option ((Int64))
  | 0, _, _ => none
  | n5 + 1, y2, y4 => (if x1 ≤ y4 then some y2 else (S_PL_power_L5 x0 x1 n5 (y2 * (x0 : Int32).toInt64) (y4 + 1)))
def S_PL_power (x0 : Int32) (x1 : Int32) : Option ((Int64)) :=
  (S_PL_power_L5 x0 x1 lfu 1 0)
def S_Mind_after (x1 : Int32) (nS : CS) (mS : CS) : Option ((CS)) :=
  ((S_City_becomes mS.1 mS.2.1 mS.2.2.1 mS.2.2.2.1 mS.2.2.2.2.1 mS.2.2.2.2.2.1 mS.2.2.2.2.2.2.2.1 mS.2.2.2.2.2.2.2.2.1 mS.2.2.2.2.2.2.2.2.2.1 nS.1 nS.2.1 nS.2.2.1 nS.2.2.2.1 nS.2.2.2.2.1 nS.2.2.2.2.2.1 nS.2.2.2.2.2.2.2.1 nS.2.2.2.2.2.2.2.2.1 nS.2.2.2.2.2.2.2.2.2.1).bind (fun r8 => ((S_City_passDays x1 r8.1 r8.2.1 r8.2.2.1 r8.2.2.2.1 r8.2.2.2.2.1 r8.2.2.2.2.2.1 mS.2.2.2.2.2.2.1 r8.2.2.2.2.2.2.1 r8.2.2.2.2.2.2.2.1 r8.2.2.2.2.2.2.2.2).bind (fun r16 => some (r8.1, r8.2.1, r16.2.1, r16.2.2.1, r16.2.2.2.1, r16.2.2.2.2.1, r16.2.2.2.2.2.1, r8.2.2.2.2.2.2.1, r8.2.2.2.2.2.2.2.1, r16.2.2.2.2.2.2, mS.2.2.2.2.2.2.2.2.2.2)))))
def S_Mind_daysToStraight_L13 (x1 : Int32) : Nat → Int32 → CS → Option ((Int32) × (CS))
  | 0, _, _ => none
  | n13 + 1, y2, mS => (if 60 < y2 then some ((-4), mS) else (if x1 < 0 ∨ 8 ≤ x1.toNatClampNeg then none else (if (mS.2.2.2.2.2.2.2.2.2.1 x1.toNatClampNeg) = 0 then some (y2, mS) else ((S_City_passDay mS.1 mS.2.1 mS.2.2.1 mS.2.2.2.1 mS.2.2.2.2.1 mS.2.2.2.2.2.1 mS.2.2.2.2.2.2.1 mS.2.2.2.2.2.2.2.1 mS.2.2.2.2.2.2.2.2.1 mS.2.2.2.2.2.2.2.2.2.1).bind (fun r37 => (S_Mind_daysToStraight_L13 x1 n13 (y2 + 1) (mS.1, mS.2.1, r37.1, r37.2.1, r37.2.2.1, r37.2.2.2.1, r37.2.2.2.2.1, mS.2.2.2.2.2.2.2.1, mS.2.2.2.2.2.2.2.2.1, r37.2.2.2.2.2, mS.2.2.2.2.2.2.2.2.2.2)))))))
def S_Mind_daysToStraight (x1 : Int32) (nS : CS) (mS : CS) : Option ((Int32) × (CS)) :=
  ((S_City_becomes mS.1 mS.2.1 mS.2.2.1 mS.2.2.2.1 mS.2.2.2.2.1 mS.2.2.2.2.2.1 mS.2.2.2.2.2.2.2.1 mS.2.2.2.2.2.2.2.2.1 mS.2.2.2.2.2.2.2.2.2.1 nS.1 nS.2.1 nS.2.2.1 nS.2.2.2.1 nS.2.2.2.2.1 nS.2.2.2.2.2.1 nS.2.2.2.2.2.2.2.1 nS.2.2.2.2.2.2.2.2.1 nS.2.2.2.2.2.2.2.2.2.1).bind (fun r8 => (S_Mind_daysToStraight_L13 x1 lfu 0 (r8.1, r8.2.1, r8.2.2.1, r8.2.2.2.1, r8.2.2.2.2.1, r8.2.2.2.2.2.1, mS.2.2.2.2.2.2.1, r8.2.2.2.2.2.2.1, r8.2.2.2.2.2.2.2.1, r8.2.2.2.2.2.2.2.2, mS.2.2.2.2.2.2.2.2.2.2))))
def S_Mind_daysToCrash_L13  : Nat → Int32 → CS → Option ((Int32) × (CS))
  | 0, _, _ => none
  | n13 + 1, y1, mS => (if 60 < y1 then some ((-4), mS) else ((S_City_passDay mS.1 mS.2.1 mS.2.2.1 mS.2.2.2.1 mS.2.2.2.2.1 mS.2.2.2.2.2.1 mS.2.2.2.2.2.2.1 mS.2.2.2.2.2.2.2.1 mS.2.2.2.2.2.2.2.2.1 mS.2.2.2.2.2.2.2.2.2.1).bind (fun r23 => (if r23.2.2.2.2.1 = 0 then (S_Mind_daysToCrash_L13 n13 (y1 + 1) (mS.1, mS.2.1, r23.1, r23.2.1, r23.2.2.1, r23.2.2.2.1, r23.2.2.2.2.1, mS.2.2.2.2.2.2.2.1, mS.2.2.2.2.2.2.2.2.1, r23.2.2.2.2.2, mS.2.2.2.2.2.2.2.2.2.2)) else some (y1, (mS.1, mS.2.1, r23.1, r23.2.1, r23.2.2.1, r23.2.2.2.1, r23.2.2.2.2.1, mS.2.2.2.2.2.2.2.1, mS.2.2.2.2.2.2.2.2.1, r23.2.2.2.2.2, mS.2.2.2.2.2.2.2.2.2.2))))))
def S_Mind_daysToCrash (nS : CS) (mS : CS) : Option ((Int32) × (CS)) :=
  ((S_City_becomes mS.1 mS.2.1 mS.2.2.1 mS.2.2.2.1 mS.2.2.2.2.1 mS.2.2.2.2.2.1 mS.2.2.2.2.2.2.2.1 mS.2.2.2.2.2.2.2.2.1 mS.2.2.2.2.2.2.2.2.2.1 nS.1 nS.2.1 nS.2.2.1 nS.2.2.2.1 nS.2.2.2.2.1 nS.2.2.2.2.2.1 nS.2.2.2.2.2.2.2.1 nS.2.2.2.2.2.2.2.2.1 nS.2.2.2.2.2.2.2.2.2.1).bind (fun r8 => (S_Mind_daysToCrash_L13 lfu 1 (r8.1, r8.2.1, r8.2.2.1, r8.2.2.2.1, r8.2.2.2.2.1, r8.2.2.2.2.2.1, mS.2.2.2.2.2.2.1, r8.2.2.2.2.2.2.1, r8.2.2.2.2.2.2.2.1, r8.2.2.2.2.2.2.2.2, mS.2.2.2.2.2.2.2.2.2.2))))
def S_Mind_daysToFind_L13 (x1 : Int32) : Nat → Int32 → CS → Option ((Int32) × (CS))
  | 0, _, _ => none
  | n13 + 1, y2, mS => (if 60 < y2 then some ((-4), mS) else (if mS.2.2.1 = x1 then some (y2, mS) else ((S_City_passDay mS.1 mS.2.1 mS.2.2.1 mS.2.2.2.1 mS.2.2.2.2.1 mS.2.2.2.2.2.1 mS.2.2.2.2.2.2.1 mS.2.2.2.2.2.2.2.1 mS.2.2.2.2.2.2.2.2.1 mS.2.2.2.2.2.2.2.2.2.1).bind (fun r36 => (S_Mind_daysToFind_L13 x1 n13 (y2 + 1) (mS.1, mS.2.1, r36.1, r36.2.1, r36.2.2.1, r36.2.2.2.1, r36.2.2.2.2.1, mS.2.2.2.2.2.2.2.1, mS.2.2.2.2.2.2.2.2.1, r36.2.2.2.2.2, mS.2.2.2.2.2.2.2.2.2.2))))))
def S_Mind_daysToFind (x1 : Int32) (nS : CS) (mS : CS) : Option ((Int32) × (CS)) :=
  ((S_City_becomes mS.1 mS.2.1 mS.2.2.1 mS.2.2.2.1 mS.2.2.2.2.1 mS.2.2.2.2.2.1 mS.2.2.2.2.2.2.2.1 mS.2.2.2.2.2.2.2.2.1 mS.2.2.2.2.2.2.2.2.2.1 nS.1 nS.2.1 nS.2.2.1 nS.2.2.2.1 nS.2.2.2.2.1 nS.2.2.2.2.2.1 nS.2.2.2.2.2.2.2.1 nS.2.2.2.2.2.2.2.2.1 nS.2.2.2.2.2.2.2.2.2.1).bind (fun r8 => (S_Mind_daysToFind_L13 x1 lfu 0 (r8.1, r8.2.1, r8.2.2.1, r8.2.2.2.1, r8.2.2.2.2.1, r8.2.2.2.2.2.1, mS.2.2.2.2.2.2.1, r8.2.2.2.2.2.2.1, r8.2.2.2.2.2.2.2.1, r8.2.2.2.2.2.2.2.2, mS.2.2.2.2.2.2.2.2.2.2))))
def S_Mind_passesAlike_L27 (w_before : Nat → Int32) (mS : CS) : Nat → Int32 → Option ((Int32) × (Nat → Int32) × (CS))
  | 0, _ => none
  | n27 + 1, y1 => (if mS.1 ≤ y1 then some (1, w_before, mS) else (if y1 < 0 ∨ 8 ≤ y1.toNatClampNeg then none else (if (mS.2.2.2.2.2.2.2.2.2.1 y1.toNatClampNeg) = (w_before y1.toNatClampNeg) then (S_Mind_passesAlike_L27 w_before mS n27 (y1 + 1)) else some (0, w_before, mS))))
def S_Mind_passesAlike (w_before : Nat → Int32) (mS : CS) : Option ((Int32) × (Nat → Int32) × (CS)) :=
  ((S_City_passDay mS.1 mS.2.1 mS.2.2.1 mS.2.2.2.1 mS.2.2.2.2.1 mS.2.2.2.2.2.1 mS.2.2.2.2.2.2.1 mS.2.2.2.2.2.2.2.1 mS.2.2.2.2.2.2.2.2.1 mS.2.2.2.2.2.2.2.2.2.1).bind (fun r22 => (S_Mind_passesAlike_L27 (va_cpy mS.2.2.2.2.2.2.2.2.2.1 w_before (0 : Int32).toNatClampNeg (0 : Int32).toNatClampNeg (8 : Int32).toNatClampNeg) (mS.1, mS.2.1, r22.1, r22.2.1, r22.2.2.1, r22.2.2.2.1, r22.2.2.2.2.1, mS.2.2.2.2.2.2.2.1, mS.2.2.2.2.2.2.2.2.1, r22.2.2.2.2.2, mS.2.2.2.2.2.2.2.2.2.2) lfu 0)))
def S_Mind_daysToStill_L15  : Nat → Int32 → Int32 → (Nat → Int32) → CS → Option ((Int32) × (Nat → Int32) × (CS))
  | 0, _, _, _, _ => none
  | n15 + 1, y1, y2, w_before, mS => (if 60 < y2 then some ((-4), w_before, mS) else ((S_Mind_passesAlike w_before mS).bind (fun r22 => (if r22.1 = 0 then (S_Mind_daysToStill_L15 n15 0 (y2 + 1) r22.2.1 r22.2.2) else (if (y1 + 1) = 10 then some ((y2 - 10), r22.2.1, r22.2.2) else (S_Mind_daysToStill_L15 n15 (y1 + 1) (y2 + 1) r22.2.1 r22.2.2))))))
def S_Mind_daysToStill (w_before : Nat → Int32) (nS : CS) (mS : CS) : Option ((Int32) × (Nat → Int32) × (CS)) :=
  ((S_City_becomes mS.1 mS.2.1 mS.2.2.1 mS.2.2.2.1 mS.2.2.2.2.1 mS.2.2.2.2.2.1 mS.2.2.2.2.2.2.2.1 mS.2.2.2.2.2.2.2.2.1 mS.2.2.2.2.2.2.2.2.2.1 nS.1 nS.2.1 nS.2.2.1 nS.2.2.2.1 nS.2.2.2.2.1 nS.2.2.2.2.2.1 nS.2.2.2.2.2.2.2.1 nS.2.2.2.2.2.2.2.2.1 nS.2.2.2.2.2.2.2.2.2.1).bind (fun r8 => (S_Mind_daysToStill_L15 lfu 0 1 w_before (r8.1, r8.2.1, r8.2.2.1, r8.2.2.2.1, r8.2.2.2.2.1, r8.2.2.2.2.2.1, mS.2.2.2.2.2.2.1, r8.2.2.2.2.2.2.1, r8.2.2.2.2.2.2.2.1, r8.2.2.2.2.2.2.2.2, mS.2.2.2.2.2.2.2.2.2.2))))
def S_Mind_staysWhole_L26 (x2 : Int32) : Nat → Int32 → CS → Option ((Int32) × (CS))
  | 0, _, _ => none
  | n26 + 1, y3, mS => (if x2 ≤ y3 then some (1, mS) else ((S_City_passDay mS.1 mS.2.1 mS.2.2.1 mS.2.2.2.1 mS.2.2.2.2.1 mS.2.2.2.2.2.1 mS.2.2.2.2.2.2.1 mS.2.2.2.2.2.2.2.1 mS.2.2.2.2.2.2.2.2.1 mS.2.2.2.2.2.2.2.2.2.1).bind (fun r35 => (if r35.2.2.2.2.1 = 0 then (S_Mind_staysWhole_L26 x2 n26 (y3 + 1) (mS.1, mS.2.1, r35.1, r35.2.1, r35.2.2.1, r35.2.2.2.1, r35.2.2.2.2.1, mS.2.2.2.2.2.2.2.1, mS.2.2.2.2.2.2.2.2.1, r35.2.2.2.2.2, mS.2.2.2.2.2.2.2.2.2.2)) else some (0, (mS.1, mS.2.1, r35.1, r35.2.1, r35.2.2.1, r35.2.2.2.1, r35.2.2.2.2.1, mS.2.2.2.2.2.2.2.1, mS.2.2.2.2.2.2.2.2.1, r35.2.2.2.2.2, mS.2.2.2.2.2.2.2.2.2.2))))))
def S_Mind_staysWhole (x1 : Int32) (x2 : Int32) (nS : CS) (mS : CS) : Option ((Int32) × (CS)) :=
  ((S_City_becomes mS.1 mS.2.1 mS.2.2.1 mS.2.2.2.1 mS.2.2.2.2.1 mS.2.2.2.2.2.1 mS.2.2.2.2.2.2.2.1 mS.2.2.2.2.2.2.2.2.1 mS.2.2.2.2.2.2.2.2.2.1 nS.1 nS.2.1 nS.2.2.1 nS.2.2.2.1 nS.2.2.2.2.1 nS.2.2.2.2.2.1 nS.2.2.2.2.2.2.2.1 nS.2.2.2.2.2.2.2.2.1 nS.2.2.2.2.2.2.2.2.2.1).bind (fun r8 => (S_Mind_staysWhole_L26 x2 lfu 0 (r8.1, (r8.2.1 ||| x1), r8.2.2.1, r8.2.2.2.1, r8.2.2.2.2.1, r8.2.2.2.2.2.1, mS.2.2.2.2.2.2.1, r8.2.2.2.2.2.2.1, r8.2.2.2.2.2.2.2.1, r8.2.2.2.2.2.2.2.2, mS.2.2.2.2.2.2.2.2.2.2))))
def S_Mind_propsAgainstCrash_L15 (K2 : Int32 → CS → Option ((Int32) × (CS))) (x1 : Int32) (y2 : Int32) (nS : CS) : Nat → Int32 → CS → Option ((Int32) × (CS))
  | 0, _, _ => none
  | n15 + 1, y3, mS => (if ((1 : Int32) <<< (nS.1 &&& 31)) ≤ y3 then (K2 (y2 + 1) mS) else (if (S_J_bitCount y3) = y2 then (if (y3 &&& nS.2.1) = 0 then ((S_Mind_staysWhole y3 x1 nS mS).bind (fun r51 => (if r51.1 = 0 then (S_Mind_propsAgainstCrash_L15 K2 x1 y2 nS n15 (y3 + 1) r51.2) else some (y3, r51.2)))) else (S_Mind_propsAgainstCrash_L15 K2 x1 y2 nS n15 (y3 + 1) mS)) else (S_Mind_propsAgainstCrash_L15 K2 x1 y2 nS n15 (y3 + 1) mS)))
def S_Mind_propsAgainstCrash_L2 (x1 : Int32) (nS : CS) : Nat → Int32 → CS → Option ((Int32) × (CS))
  | 0, _, _ => none
  | n2 + 1, y2, mS => (if nS.1 < y2 then some ((-4), mS) else (S_Mind_propsAgainstCrash_L15 (S_Mind_propsAgainstCrash_L2 x1 nS n2) x1 y2 nS lfu 0 mS))
def S_Mind_propsAgainstCrash (x1 : Int32) (nS : CS) (mS : CS) : Option ((Int32) × (CS)) :=
  (S_Mind_propsAgainstCrash_L2 x1 nS lfu 0 mS)
def S_Mind_bestPush_L33 (K18 : Int32 → Int32 → Int32 → CS → Option ((Int32) × (CS))) (x1 : Int32) (y4 : Int32) (nS : CS) : Nat → Int32 → Int32 → Int32 → CS → Option ((Int32) × (CS))
  | 0, _, _, _, _ => none
  | n33 + 1, y2, y3, y5, mS => (if 91 ≤ y5 then (K18 y2 y3 (y4 + 1) mS) else ((S_City_becomes mS.1 mS.2.1 mS.2.2.1 mS.2.2.2.1 mS.2.2.2.2.1 mS.2.2.2.2.2.1 mS.2.2.2.2.2.2.2.1 mS.2.2.2.2.2.2.2.2.1 mS.2.2.2.2.2.2.2.2.2.1 nS.1 nS.2.1 nS.2.2.1 nS.2.2.2.1 nS.2.2.2.2.1 nS.2.2.2.2.2.1 nS.2.2.2.2.2.2.2.1 nS.2.2.2.2.2.2.2.2.1 nS.2.2.2.2.2.2.2.2.2.1).bind (fun r48 => (if y4 < 0 ∨ 8 ≤ y4.toNatClampNeg then none else ((S_City_passDays x1 r48.1 r48.2.1 r48.2.2.1 r48.2.2.2.1 r48.2.2.2.2.1 r48.2.2.2.2.2.1 mS.2.2.2.2.2.2.1 r48.2.2.2.2.2.2.1 r48.2.2.2.2.2.2.2.1 (upd r48.2.2.2.2.2.2.2.2 y4.toNatClampNeg (y5 - 45))).bind (fun r71 => ((S_City_upright r48.1 r48.2.2.2.2.2.2.1 r48.2.2.2.2.2.2.2.1 r71.2.2.2.2.2.2).bind (fun r79 => (if (S_J_bitCount r79) ≤ y3 then (S_Mind_bestPush_L33 K18 x1 y4 nS n33 y2 y3 (y5 + 1) (r48.1, r48.2.1, r71.2.1, r71.2.2.1, r71.2.2.2.1, r71.2.2.2.2.1, r71.2.2.2.2.2.1, r48.2.2.2.2.2.2.1, r48.2.2.2.2.2.2.2.1, r71.2.2.2.2.2.2, mS.2.2.2.2.2.2.2.2.2.2)) else (S_Mind_bestPush_L33 K18 x1 y4 nS n33 (((100 : Int32) * y4) + y5) (S_J_bitCount r79) (y5 + 1) (r48.1, r48.2.1, r71.2.1, r71.2.2.1, r71.2.2.2.1, r71.2.2.2.2.1, r71.2.2.2.2.2.1, r48.2.2.2.2.2.2.1, r48.2.2.2.2.2.2.2.1, r71.2.2.2.2.2.2, mS.2.2.2.2.2.2.2.2.2.2)))))))))))
def S_Mind_bestPush_L18 (x1 : Int32) (nS : CS) : Nat → Int32 → Int32 → Int32 → CS → Option ((Int32) × (CS))
  | 0, _, _, _, _ => none
  | n18 + 1, y2, y3, y4, mS => (if nS.1 ≤ y4 then some (y2, mS) else (S_Mind_bestPush_L33 (S_Mind_bestPush_L18 x1 nS n18) x1 y4 nS lfu y2 y3 0 mS))
def S_Mind_bestPush (x1 : Int32) (nS : CS) (mS : CS) : Option ((Int32) × (CS)) :=
  ((S_Mind_after x1 nS mS).bind (fun r5 => ((S_City_upright r5.1 r5.2.2.2.2.2.2.2.1 r5.2.2.2.2.2.2.2.2.1 r5.2.2.2.2.2.2.2.2.2.1).bind (fun r8 => (S_Mind_bestPush_L18 x1 nS lfu (-4) (S_J_bitCount r8) 0 r5)))))
def S_Mind_leansAsTold_L2 (x1 : Int32) (d_sort : Int32) (d_size : Int32) (d_el : Nat → Int32) : Nat → Int32 → CS → Option ((Int32) × (CS))
  | 0, _, _ => none
  | n2 + 1, y3, mS => (if d_size ≤ y3 then some (1, mS) else (if x1 < 0 ∨ 8 ≤ x1.toNatClampNeg then none else ((S_Shelf_agrees y3 (mS.2.2.2.2.2.2.2.2.2.1 x1.toNatClampNeg) d_sort d_el).bind (fun r21 => (if r21 = 0 then some (0, mS) else ((S_City_passDay mS.1 mS.2.1 mS.2.2.1 mS.2.2.2.1 mS.2.2.2.2.1 mS.2.2.2.2.2.1 mS.2.2.2.2.2.2.1 mS.2.2.2.2.2.2.2.1 mS.2.2.2.2.2.2.2.2.1 mS.2.2.2.2.2.2.2.2.2.1).bind (fun r33 => (S_Mind_leansAsTold_L2 x1 d_sort d_size d_el n2 (y3 + 1) (mS.1, mS.2.1, r33.1, r33.2.1, r33.2.2.1, r33.2.2.2.1, r33.2.2.2.2.1, mS.2.2.2.2.2.2.2.1, mS.2.2.2.2.2.2.2.2.1, r33.2.2.2.2.2, mS.2.2.2.2.2.2.2.2.2.2)))))))))
def S_Mind_leansAsTold (x1 : Int32) (mS : CS) (d_sort : Int32) (d_size : Int32) (d_el : Nat → Int32) : Option ((Int32) × (CS)) :=
  (S_Mind_leansAsTold_L2 x1 d_sort d_size d_el lfu 0 mS)
def S_Mind_kindsThatDid_L5 (x1 : Int32) (nS : CS) (d_sort : Int32) (d_size : Int32) (d_el : Nat → Int32) : Nat → Int32 → Int32 → CS → Option ((Int32) × (CS))
  | 0, _, _, _ => none
  | n5 + 1, y3, y4, mS => (if 8 ≤ y4 then some (y3, mS) else ((S_City_becomes mS.1 mS.2.1 mS.2.2.1 mS.2.2.2.1 mS.2.2.2.2.1 mS.2.2.2.2.2.1 mS.2.2.2.2.2.2.2.1 mS.2.2.2.2.2.2.2.2.1 mS.2.2.2.2.2.2.2.2.2.1 nS.1 nS.2.1 nS.2.2.1 nS.2.2.2.1 nS.2.2.2.2.1 nS.2.2.2.2.2.1 nS.2.2.2.2.2.2.2.1 nS.2.2.2.2.2.2.2.2.1 nS.2.2.2.2.2.2.2.2.2.1).bind (fun r20 => (if x1 < 0 ∨ 8 ≤ x1.toNatClampNeg then none else ((S_Mind_leansAsTold x1 (r20.1, r20.2.1, r20.2.2.1, r20.2.2.2.1, r20.2.2.2.2.1, r20.2.2.2.2.2.1, mS.2.2.2.2.2.2.1, (upd r20.2.2.2.2.2.2.1 x1.toNatClampNeg y4), r20.2.2.2.2.2.2.2.1, r20.2.2.2.2.2.2.2.2, mS.2.2.2.2.2.2.2.2.2.2) d_sort d_size d_el).bind (fun r37 => (if r37.1 = 0 then (S_Mind_kindsThatDid_L5 x1 nS d_sort d_size d_el n5 y3 (y4 + 1) r37.2) else (S_Mind_kindsThatDid_L5 x1 nS d_sort d_size d_el n5 (y3 ||| ((1 : Int32) <<< (y4 &&& 31))) (y4 + 1) r37.2))))))))
def S_Mind_kindsThatDid (x1 : Int32) (nS : CS) (mS : CS) (d_sort : Int32) (d_size : Int32) (d_el : Nat → Int32) : Option ((Int32) × (CS)) :=
  (S_Mind_kindsThatDid_L5 x1 nS d_sort d_size d_el lfu 0 0 mS)
def S_Mind_figuresThatDid_L5 (x1 : Int32) (nS : CS) (d_sort : Int32) (d_size : Int32) (d_el : Nat → Int32) : Nat → Int32 → Int32 → CS → Option ((Int32) × (CS))
  | 0, _, _, _ => none
  | n5 + 1, y3, y4, mS => (if 10 ≤ y4 then some (y3, mS) else ((S_City_becomes mS.1 mS.2.1 mS.2.2.1 mS.2.2.2.1 mS.2.2.2.2.1 mS.2.2.2.2.2.1 mS.2.2.2.2.2.2.2.1 mS.2.2.2.2.2.2.2.2.1 mS.2.2.2.2.2.2.2.2.2.1 nS.1 nS.2.1 nS.2.2.1 nS.2.2.2.1 nS.2.2.2.2.1 nS.2.2.2.2.2.1 nS.2.2.2.2.2.2.2.1 nS.2.2.2.2.2.2.2.2.1 nS.2.2.2.2.2.2.2.2.2.1).bind (fun r20 => (if x1 < 0 ∨ 8 ≤ x1.toNatClampNeg then none else ((S_Mind_leansAsTold x1 (r20.1, r20.2.1, r20.2.2.1, r20.2.2.2.1, r20.2.2.2.2.1, r20.2.2.2.2.2.1, mS.2.2.2.2.2.2.1, r20.2.2.2.2.2.2.1, (upd r20.2.2.2.2.2.2.2.1 x1.toNatClampNeg y4), r20.2.2.2.2.2.2.2.2, mS.2.2.2.2.2.2.2.2.2.2) d_sort d_size d_el).bind (fun r37 => (if r37.1 = 0 then (S_Mind_figuresThatDid_L5 x1 nS d_sort d_size d_el n5 y3 (y4 + 1) r37.2) else (S_Mind_figuresThatDid_L5 x1 nS d_sort d_size d_el n5 (y3 ||| ((1 : Int32) <<< (y4 &&& 31))) (y4 + 1) r37.2))))))))
def S_Mind_figuresThatDid (x1 : Int32) (nS : CS) (mS : CS) (d_sort : Int32) (d_size : Int32) (d_el : Nat → Int32) : Option ((Int32) × (CS)) :=
  (S_Mind_figuresThatDid_L5 x1 nS d_sort d_size d_el lfu 0 0 mS)
def S_Mind_hangsAsTold_L30 (d_sort : Int32) (d_size : Int32) (d_el : Nat → Int32) : Nat → Int32 → CS → Option ((Int32) × (CS))
  | 0, _, _ => none
  | n30 + 1, y4, mS => (if d_size ≤ y4 then some (1, mS) else ((S_Shelf_agrees y4 mS.2.2.1 d_sort d_el).bind (fun r49 => (if r49 = 0 then some (0, mS) else ((S_City_passDay mS.1 mS.2.1 mS.2.2.1 mS.2.2.2.1 mS.2.2.2.2.1 mS.2.2.2.2.2.1 mS.2.2.2.2.2.2.1 mS.2.2.2.2.2.2.2.1 mS.2.2.2.2.2.2.2.2.1 mS.2.2.2.2.2.2.2.2.2.1).bind (fun r61 => (S_Mind_hangsAsTold_L30 d_sort d_size d_el n30 (y4 + 1) (mS.1, mS.2.1, r61.1, r61.2.1, r61.2.2.1, r61.2.2.2.1, r61.2.2.2.2.1, mS.2.2.2.2.2.2.2.1, mS.2.2.2.2.2.2.2.2.1, r61.2.2.2.2.2, mS.2.2.2.2.2.2.2.2.2.2))))))))
def S_Mind_hangsAsTold (x1 : Int32) (x2 : Int32) (nS : CS) (mS : CS) (d_sort : Int32) (d_size : Int32) (d_el : Nat → Int32) : Option ((Int32) × (CS)) :=
  ((S_City_becomes mS.1 mS.2.1 mS.2.2.1 mS.2.2.2.1 mS.2.2.2.2.1 mS.2.2.2.2.2.1 mS.2.2.2.2.2.2.2.1 mS.2.2.2.2.2.2.2.2.1 mS.2.2.2.2.2.2.2.2.2.1 nS.1 nS.2.1 nS.2.2.1 nS.2.2.2.1 nS.2.2.2.2.1 nS.2.2.2.2.2.1 nS.2.2.2.2.2.2.2.1 nS.2.2.2.2.2.2.2.2.1 nS.2.2.2.2.2.2.2.2.2.1).bind (fun r8 => (S_Mind_hangsAsTold_L30 d_sort d_size d_el lfu 0 (r8.1, r8.2.1, x2, x1, r8.2.2.2.2.1, r8.2.2.2.2.2.1, mS.2.2.2.2.2.2.1, r8.2.2.2.2.2.2.1, r8.2.2.2.2.2.2.2.1, r8.2.2.2.2.2.2.2.2, mS.2.2.2.2.2.2.2.2.2.2))))
def S_Mind_hangings_L23 (K13 : Int32 → Int32 → Int32 → Int32 → CS → Option ((Int32) × (CS))) (y6 : Int32) (nS : CS) (d_sort : Int32) (d_size : Int32) (d_el : Nat → Int32) : Nat → Int32 → Int32 → Int32 → Int32 → CS → Option ((Int32) × (CS))
  | 0, _, _, _, _, _ => none
  | n23 + 1, y3, y4, y5, y7, mS => (if 8 ≤ y7 then (K13 y3 y4 y5 (y6 + 1) mS) else ((S_Mind_hangsAsTold y6 y7 nS mS d_sort d_size d_el).bind (fun r36 => (if r36.1 = 0 then (S_Mind_hangings_L23 K13 y6 nS d_sort d_size d_el n23 y3 y4 y5 (y7 + 1) r36.2) else (if y4 = (-4) then (S_Mind_hangings_L23 K13 y6 nS d_sort d_size d_el n23 (y3 + 1) (((10 : Int32) * y6) + y7) (((10 : Int32) * y6) + y7) (y7 + 1) r36.2) else (S_Mind_hangings_L23 K13 y6 nS d_sort d_size d_el n23 (y3 + 1) y4 (((10 : Int32) * y6) + y7) (y7 + 1) r36.2))))))
def S_Mind_hangings_L13 (x2 : Int32) (nS : CS) (d_sort : Int32) (d_size : Int32) (d_el : Nat → Int32) : Nat → Int32 → Int32 → Int32 → Int32 → CS → Option ((Int32) × (CS))
  | 0, _, _, _, _, _ => none
  | n13 + 1, y3, y4, y5, y6, mS => (if 9 < y6 then (if x2 = 0 then some (y3, mS) else (if x2 = 1 then some (y4, mS) else some (y5, mS))) else (S_Mind_hangings_L23 (S_Mind_hangings_L13 x2 nS d_sort d_size d_el n13) y6 nS d_sort d_size d_el lfu y3 y4 y5 0 mS))
def S_Mind_hangings (x2 : Int32) (nS : CS) (mS : CS) (d_sort : Int32) (d_size : Int32) (d_el : Nat → Int32) : Option ((Int32) × (CS)) :=
  (S_Mind_hangings_L13 x2 nS d_sort d_size d_el lfu 0 (-4) (-4) 0 mS)
def S_Mind_firstMisjudged_L13 (d_sort : Int32) (d_size : Int32) (d_el : Nat → Int32) : Nat → Int32 → CS → Option ((Int32) × (CS))
  | 0, _, _ => none
  | n13 + 1, y2, mS => (if d_size ≤ y2 then some ((-4), mS) else ((S_City_upright mS.1 mS.2.2.2.2.2.2.2.1 mS.2.2.2.2.2.2.2.2.1 mS.2.2.2.2.2.2.2.2.2.1).bind (fun r27 => ((S_Shelf_agrees y2 (S_J_bitCount r27) d_sort d_el).bind (fun r33 => (if r33 = 0 then some (y2, mS) else ((S_City_passDay mS.1 mS.2.1 mS.2.2.1 mS.2.2.2.1 mS.2.2.2.2.1 mS.2.2.2.2.2.1 mS.2.2.2.2.2.2.1 mS.2.2.2.2.2.2.2.1 mS.2.2.2.2.2.2.2.2.1 mS.2.2.2.2.2.2.2.2.2.1).bind (fun r45 => (S_Mind_firstMisjudged_L13 d_sort d_size d_el n13 (y2 + 1) (mS.1, mS.2.1, r45.1, r45.2.1, r45.2.2.1, r45.2.2.2.1, r45.2.2.2.2.1, mS.2.2.2.2.2.2.2.1, mS.2.2.2.2.2.2.2.2.1, r45.2.2.2.2.2, mS.2.2.2.2.2.2.2.2.2.2))))))))))
def S_Mind_firstMisjudged (nS : CS) (mS : CS) (d_sort : Int32) (d_size : Int32) (d_el : Nat → Int32) : Option ((Int32) × (CS)) :=
  ((S_City_becomes mS.1 mS.2.1 mS.2.2.1 mS.2.2.2.1 mS.2.2.2.2.1 mS.2.2.2.2.2.1 mS.2.2.2.2.2.2.2.1 mS.2.2.2.2.2.2.2.2.1 mS.2.2.2.2.2.2.2.2.2.1 nS.1 nS.2.1 nS.2.2.1 nS.2.2.2.1 nS.2.2.2.2.1 nS.2.2.2.2.2.1 nS.2.2.2.2.2.2.2.1 nS.2.2.2.2.2.2.2.2.1 nS.2.2.2.2.2.2.2.2.2.1).bind (fun r8 => (S_Mind_firstMisjudged_L13 d_sort d_size d_el lfu 0 (r8.1, r8.2.1, r8.2.2.1, r8.2.2.2.1, r8.2.2.2.2.1, r8.2.2.2.2.2.1, mS.2.2.2.2.2.2.1, r8.2.2.2.2.2.2.1, r8.2.2.2.2.2.2.2.1, r8.2.2.2.2.2.2.2.2, mS.2.2.2.2.2.2.2.2.2.2))))
def S_Mind_gainOf (x1 : Int32) (x2 : Int32) (x3 : Int32) (mS : CS) : Option ((Int32)) :=
  ((S_City_isUpright x1 mS.2.2.2.2.2.2.2.1 mS.2.2.2.2.2.2.2.2.1 mS.2.2.2.2.2.2.2.2.2.1).bind (fun r5 => (if r5 = 0 then some (((0 : Int32) - ((2 : Int32) * x2)) - x3) else some (((6 : Int32) - ((2 : Int32) * x2)) - x3))))
def S_Mind_settledPair_L104 (w_gains : Nat → Int32) (w_othersGains : Nat → Int32) (mS : CS) : Nat → Int32 → Option ((Int32) × (Nat → Int32) × (Nat → Int32) × (CS))
  | 0, _ => none
  | n104 + 1, y4 => (if 4 ≤ y4 then some ((-4), w_gains, w_othersGains, mS) else (if y4 < 0 ∨ 4 ≤ y4.toNatClampNeg then none else (if (y4 ^^^ 2) < 0 ∨ 4 ≤ (y4 ^^^ 2).toNatClampNeg then none else (if (w_gains y4.toNatClampNeg) < (w_gains (y4 ^^^ 2).toNatClampNeg) then (S_Mind_settledPair_L104 w_gains w_othersGains mS n104 (y4 + 1)) else (if (y4 ^^^ 1) < 0 ∨ 4 ≤ (y4 ^^^ 1).toNatClampNeg then none else (if (w_othersGains y4.toNatClampNeg) < (w_othersGains (y4 ^^^ 1).toNatClampNeg) then (S_Mind_settledPair_L104 w_gains w_othersGains mS n104 (y4 + 1)) else some ((((10 : Int32) * (y4 >>> (1 &&& 31))) + (y4 &&& 1)), w_gains, w_othersGains, mS)))))))
def S_Mind_settledPair_L3 (x1 : Int32) (x2 : Int32) (x3 : Int32) (nS : CS) : Nat → Int32 → (Nat → Int32) → (Nat → Int32) → CS → Option ((Int32) × (Nat → Int32) × (Nat → Int32) × (CS))
  | 0, _, _, _, _ => none
  | n3 + 1, y4, w_gains, w_othersGains, mS => (if 4 ≤ y4 then (S_Mind_settledPair_L104 w_gains w_othersGains mS lfu 0) else ((S_City_becomes mS.1 mS.2.1 mS.2.2.1 mS.2.2.2.1 mS.2.2.2.2.1 mS.2.2.2.2.2.1 mS.2.2.2.2.2.2.2.1 mS.2.2.2.2.2.2.2.2.1 mS.2.2.2.2.2.2.2.2.2.1 nS.1 nS.2.1 nS.2.2.1 nS.2.2.2.1 nS.2.2.2.2.1 nS.2.2.2.2.2.1 nS.2.2.2.2.2.2.2.1 nS.2.2.2.2.2.2.2.2.1 nS.2.2.2.2.2.2.2.2.2.1).bind (fun r32 => ((S_City_passDays x3 r32.1 (r32.2.1 ||| (((y4 >>> (1 &&& 31)) <<< (x1 &&& 31)) ||| ((y4 &&& 1) <<< (x2 &&& 31)))) r32.2.2.1 r32.2.2.2.1 r32.2.2.2.2.1 r32.2.2.2.2.2.1 mS.2.2.2.2.2.2.1 r32.2.2.2.2.2.2.1 r32.2.2.2.2.2.2.2.1 r32.2.2.2.2.2.2.2.2).bind (fun r54 => ((S_Mind_gainOf x1 (y4 >>> (1 &&& 31)) r54.1 (r32.1, (r32.2.1 ||| (((y4 >>> (1 &&& 31)) <<< (x1 &&& 31)) ||| ((y4 &&& 1) <<< (x2 &&& 31)))), r54.2.1, r54.2.2.1, r54.2.2.2.1, r54.2.2.2.2.1, r54.2.2.2.2.2.1, r32.2.2.2.2.2.2.1, r32.2.2.2.2.2.2.2.1, r54.2.2.2.2.2.2, mS.2.2.2.2.2.2.2.2.2.2)).bind (fun r73 => (if y4 < 0 ∨ 4 ≤ y4.toNatClampNeg then none else ((S_Mind_gainOf x2 (y4 &&& 1) r54.1 (r32.1, (r32.2.1 ||| (((y4 >>> (1 &&& 31)) <<< (x1 &&& 31)) ||| ((y4 &&& 1) <<< (x2 &&& 31)))), r54.2.1, r54.2.2.1, r54.2.2.2.1, r54.2.2.2.2.1, r54.2.2.2.2.2.1, r32.2.2.2.2.2.2.1, r32.2.2.2.2.2.2.2.1, r54.2.2.2.2.2.2, mS.2.2.2.2.2.2.2.2.2.2)).bind (fun r91 => (S_Mind_settledPair_L3 x1 x2 x3 nS n3 (y4 + 1) (upd w_gains y4.toNatClampNeg r73) (upd w_othersGains y4.toNatClampNeg r91) (r32.1, (r32.2.1 ||| (((y4 >>> (1 &&& 31)) <<< (x1 &&& 31)) ||| ((y4 &&& 1) <<< (x2 &&& 31)))), r54.2.1, r54.2.2.1, r54.2.2.2.1, r54.2.2.2.2.1, r54.2.2.2.2.2.1, r32.2.2.2.2.2.2.1, r32.2.2.2.2.2.2.2.1, r54.2.2.2.2.2.2, mS.2.2.2.2.2.2.2.2.2.2))))))))))))
def S_Mind_settledPair (x1 : Int32) (x2 : Int32) (x3 : Int32) (w_gains : Nat → Int32) (w_othersGains : Nat → Int32) (nS : CS) (mS : CS) : Option ((Int32) × (Nat → Int32) × (Nat → Int32) × (CS)) :=
  (S_Mind_settledPair_L3 x1 x2 x3 nS lfu 0 w_gains w_othersGains mS)
def S_Mind_shockedUpright_L28 (K6 : Int64 → Int32 → CS → Option ((Int64) × (CS))) (x1 : Int32) (x2 : Int32) (x3 : Int32) (y4 : Int64) (y6 : Int32) : Nat → Int32 → CS → Option ((Int64) × (CS))
  | 0, _, _ => none
  | n28 + 1, y7, mS => (if x2 ≤ y7 then ((S_City_isUpright x1 mS.2.2.2.2.2.2.2.1 mS.2.2.2.2.2.2.2.2.1 mS.2.2.2.2.2.2.2.2.2.1).bind (fun r69 => (if r69 = 0 then (K6 y4 (y6 + 1) mS) else ((S_PL_power (x3 - 1) (x2 - (S_J_bitCount y6))).bind (fun r87 => (K6 (y4 + r87) (y6 + 1) mS)))))) else (if (y6 &&& ((1 : Int32) <<< (y7 &&& 31))) = 0 then ((S_City_passDay mS.1 mS.2.1 mS.2.2.1 mS.2.2.2.1 mS.2.2.2.2.1 mS.2.2.2.2.2.1 mS.2.2.2.2.2.2.1 mS.2.2.2.2.2.2.2.1 mS.2.2.2.2.2.2.2.2.1 mS.2.2.2.2.2.2.2.2.2.1).bind (fun r55 => (S_Mind_shockedUpright_L28 K6 x1 x2 x3 y4 y6 n28 (y7 + 1) (mS.1, mS.2.1, r55.1, r55.2.1, r55.2.2.1, r55.2.2.2.1, r55.2.2.2.2.1, mS.2.2.2.2.2.2.2.1, mS.2.2.2.2.2.2.2.2.1, r55.2.2.2.2.2, mS.2.2.2.2.2.2.2.2.2.2)))) else ((S_City_turnSigns mS.1 mS.2.1 mS.2.2.2.2.2.2.2.2.2.1).bind (fun r48 => ((S_City_passDay mS.1 mS.2.1 mS.2.2.1 mS.2.2.2.1 mS.2.2.2.2.1 mS.2.2.2.2.2.1 mS.2.2.2.2.2.2.1 mS.2.2.2.2.2.2.2.1 mS.2.2.2.2.2.2.2.2.1 r48).bind (fun r55 => (S_Mind_shockedUpright_L28 K6 x1 x2 x3 y4 y6 n28 (y7 + 1) (mS.1, mS.2.1, r55.1, r55.2.1, r55.2.2.1, r55.2.2.2.1, r55.2.2.2.2.1, mS.2.2.2.2.2.2.2.1, mS.2.2.2.2.2.2.2.2.1, r55.2.2.2.2.2, mS.2.2.2.2.2.2.2.2.2.2))))))))
def S_Mind_shockedUpright_L6 (x1 : Int32) (x2 : Int32) (x3 : Int32) (nS : CS) : Nat → Int64 → Int32 → CS → Option ((Int64) × (CS))
  | 0, _, _, _ => none
  | n6 + 1, y4, y6, mS => (if ((1 : Int32) <<< (x2 &&& 31)) ≤ y6 then some (y4, mS) else ((S_City_becomes mS.1 mS.2.1 mS.2.2.1 mS.2.2.2.1 mS.2.2.2.2.1 mS.2.2.2.2.2.1 mS.2.2.2.2.2.2.2.1 mS.2.2.2.2.2.2.2.2.1 mS.2.2.2.2.2.2.2.2.2.1 nS.1 nS.2.1 nS.2.2.1 nS.2.2.2.1 nS.2.2.2.2.1 nS.2.2.2.2.2.1 nS.2.2.2.2.2.2.2.1 nS.2.2.2.2.2.2.2.2.1 nS.2.2.2.2.2.2.2.2.2.1).bind (fun r22 => (S_Mind_shockedUpright_L28 (S_Mind_shockedUpright_L6 x1 x2 x3 nS n6) x1 x2 x3 y4 y6 lfu 0 (r22.1, r22.2.1, r22.2.2.1, r22.2.2.2.1, r22.2.2.2.2.1, r22.2.2.2.2.2.1, mS.2.2.2.2.2.2.1, r22.2.2.2.2.2.2.1, r22.2.2.2.2.2.2.2.1, r22.2.2.2.2.2.2.2.2, mS.2.2.2.2.2.2.2.2.2.2)))))
def S_Mind_shockedUpright (x1 : Int32) (x2 : Int32) (x3 : Int32) (nS : CS) (mS : CS) : Option ((Int64) × (CS)) :=
  (S_Mind_shockedUpright_L6 x1 x2 x3 nS lfu 0 0 mS)
def S_Mind_drawnYears_L32 (K12 : Int32 → Int32 → Int32 → Int32 → CS → Option ((Int32) × (CS))) (y5 : Int32) (y6 : Int32) (y7 : Int32) (nS : CS) : Nat → Int32 → Int32 → CS → Option ((Int32) × (CS))
  | 0, _, _, _ => none
  | n32 + 1, y4, y8, mS => (if mS.1 ≤ y8 then ((S_City_passDays 12 mS.1 mS.2.1 mS.2.2.1 mS.2.2.2.1 mS.2.2.2.2.1 mS.2.2.2.2.2.1 mS.2.2.2.2.2.2.1 mS.2.2.2.2.2.2.2.1 mS.2.2.2.2.2.2.2.2.1 mS.2.2.2.2.2.2.2.2.2.1).bind (fun r91 => ((S_City_upright mS.1 mS.2.2.2.2.2.2.2.1 mS.2.2.2.2.2.2.2.2.1 r91.2.2.2.2.2.2).bind (fun r101 => (K12 y4 (y5 + (S_J_bitCount r101)) (y6 + (r91.2.2.2.1 - nS.2.2.2.2.1)) (y7 + 1) (mS.1, mS.2.1, r91.2.1, r91.2.2.1, r91.2.2.2.1, r91.2.2.2.2.1, r91.2.2.2.2.2.1, mS.2.2.2.2.2.2.2.1, mS.2.2.2.2.2.2.2.2.1, r91.2.2.2.2.2.2, mS.2.2.2.2.2.2.2.2.2.2)))))) else (if y8 < 0 ∨ 8 ≤ y8.toNatClampNeg then none else (S_Mind_drawnYears_L32 K12 y5 y6 y7 nS n32 ((y4 * 1103515245) + 12345) (y8 + 1) (mS.1, mS.2.1, mS.2.2.1, mS.2.2.2.1, mS.2.2.2.2.1, mS.2.2.2.2.2.1, mS.2.2.2.2.2.2.1, mS.2.2.2.2.2.2.2.1, mS.2.2.2.2.2.2.2.2.1, (upd mS.2.2.2.2.2.2.2.2.2.1 y8.toNatClampNeg ((((((y4 * 1103515245) + 12345) &&& 2147483647) / 65536) - ((((y4 * 1103515245) + 12345) &&& 2147483647) / 65536) / 91 * 91) - 45)), mS.2.2.2.2.2.2.2.2.2.2))))
def S_Mind_drawnYears_L12 (x1 : Int32) (x3 : Int32) (nS : CS) : Nat → Int32 → Int32 → Int32 → Int32 → CS → Option ((Int32) × (CS))
  | 0, _, _, _, _, _ => none
  | n12 + 1, y4, y5, y6, y7, mS => (if x1 ≤ y7 then (if x3 = 0 then some (y5, mS) else some (y6, mS)) else ((S_City_becomes mS.1 mS.2.1 mS.2.2.1 mS.2.2.2.1 mS.2.2.2.2.1 mS.2.2.2.2.2.1 mS.2.2.2.2.2.2.2.1 mS.2.2.2.2.2.2.2.2.1 mS.2.2.2.2.2.2.2.2.2.1 nS.1 nS.2.1 nS.2.2.1 nS.2.2.2.1 nS.2.2.2.2.1 nS.2.2.2.2.2.1 nS.2.2.2.2.2.2.2.1 nS.2.2.2.2.2.2.2.2.1 nS.2.2.2.2.2.2.2.2.2.1).bind (fun r26 => (S_Mind_drawnYears_L32 (S_Mind_drawnYears_L12 x1 x3 nS n12) y5 y6 y7 nS lfu y4 0 (r26.1, r26.2.1, r26.2.2.1, r26.2.2.2.1, r26.2.2.2.2.1, r26.2.2.2.2.2.1, mS.2.2.2.2.2.2.1, r26.2.2.2.2.2.2.1, r26.2.2.2.2.2.2.2.1, r26.2.2.2.2.2.2.2.2, mS.2.2.2.2.2.2.2.2.2.2)))))
def S_Mind_drawnYears (x1 : Int32) (x2 : Int32) (x3 : Int32) (nS : CS) (mS : CS) : Option ((Int32) × (CS)) :=
  (S_Mind_drawnYears_L12 x1 x3 nS lfu x2 0 0 0 mS)
def S_PL_refusalOfRow (x1 : Int32) (d_held : Int32) : Option ((Int32)) :=
  ((S_PL_isShelf x1).bind (fun r1 => (if r1 = 0 then some (-1) else (if x1 < 0 ∨ 8 ≤ x1.toNatClampNeg then none else (if (S_Shelf_isEmpty d_held) = 0 then (if (S_Shelf_hasRow d_held) = 0 then some (-12) else some 0) else some (-11))))))
def S_PL_city_L64 (d_size : Int32) (d_el : Nat → Int32) (nS : CS) : Nat → Int32 → Int32 → CS → Option ((Int32) × (CS) × (CS))
  | 0, _, _, _ => none
  | n64 + 1, y5, y6, tS => (if d_size ≤ y6 then ((S_City_becomes nS.1 nS.2.1 nS.2.2.1 nS.2.2.2.1 nS.2.2.2.2.1 nS.2.2.2.2.2.1 nS.2.2.2.2.2.2.2.1 nS.2.2.2.2.2.2.2.2.1 nS.2.2.2.2.2.2.2.2.2.1 tS.1 tS.2.1 tS.2.2.1 tS.2.2.2.1 tS.2.2.2.2.1 tS.2.2.2.2.2.1 tS.2.2.2.2.2.2.2.1 tS.2.2.2.2.2.2.2.2.1 tS.2.2.2.2.2.2.2.2.2.1).bind (fun r122 => some (y5, (r122.1, r122.2.1, r122.2.2.1, r122.2.2.2.1, r122.2.2.2.2.1, r122.2.2.2.2.2.1, nS.2.2.2.2.2.2.1, r122.2.2.2.2.2.2.1, r122.2.2.2.2.2.2.2.1, r122.2.2.2.2.2.2.2.2, nS.2.2.2.2.2.2.2.2.2.2), tS))) else ((S_City_takesStatement y6 tS.1 tS.2.1 tS.2.2.1 tS.2.2.2.1 tS.2.2.2.2.1 tS.2.2.2.2.2.1 tS.2.2.2.2.2.2.1 tS.2.2.2.2.2.2.2.1 tS.2.2.2.2.2.2.2.2.1 tS.2.2.2.2.2.2.2.2.2.1 d_size d_el).bind (fun r80 => (if r80.1 = 0 then some ((((-2000) : Int32) - y6), nS, (r80.2.1, r80.2.2.1, r80.2.2.2.1, r80.2.2.2.2.1, r80.2.2.2.2.2.1, r80.2.2.2.2.2.2.1, r80.2.2.2.2.2.2.2.1, r80.2.2.2.2.2.2.2.2.1, r80.2.2.2.2.2.2.2.2.2.1, r80.2.2.2.2.2.2.2.2.2.2, tS.2.2.2.2.2.2.2.2.2.2)) else (if y6 < 0 ∨ 100 ≤ y6.toNatClampNeg then none else (S_PL_city_L64 d_size d_el nS n64 (y5 + 1) (y6 + (S_Shelf_lengthBy (d_el y6.toNatClampNeg))) (r80.2.1, r80.2.2.1, r80.2.2.2.1, r80.2.2.2.2.1, r80.2.2.2.2.2.1, r80.2.2.2.2.2.2.1, r80.2.2.2.2.2.2.2.1, r80.2.2.2.2.2.2.2.2.1, r80.2.2.2.2.2.2.2.2.2.1, r80.2.2.2.2.2.2.2.2.2.2, tS.2.2.2.2.2.2.2.2.2.2)))))))
def S_PL_city (x1 : Int32) (nS : CS) (tS : CS) (d_sort : Int32) (d_size : Int32) (d_held : Int32) (d_el : Nat → Int32) : Option ((Int32) × (CS) × (CS)) :=
  ((S_PL_refusalOfRow x1 d_held).bind (fun r2 => (if r2 = 0 then (if x1 < 0 ∨ 8 ≤ x1.toNatClampNeg then none else (if (S_Shelf_isText d_sort) = 0 then some ((-12), nS, tS) else ((S_Shelf_faultOfForm d_size d_el).bind (fun r30 => (if r30 < 0 then ((S_City_becomes tS.1 tS.2.1 tS.2.2.1 tS.2.2.2.1 tS.2.2.2.2.1 tS.2.2.2.2.2.1 tS.2.2.2.2.2.2.2.1 tS.2.2.2.2.2.2.2.2.1 tS.2.2.2.2.2.2.2.2.2.1 nS.1 nS.2.1 nS.2.2.1 nS.2.2.2.1 nS.2.2.2.2.1 nS.2.2.2.2.2.1 nS.2.2.2.2.2.2.2.1 nS.2.2.2.2.2.2.2.2.1 nS.2.2.2.2.2.2.2.2.2.1).bind (fun r55 => (S_PL_city_L64 d_size d_el nS lfu 0 0 (r55.1, r55.2.1, r55.2.2.1, r55.2.2.2.1, r55.2.2.2.2.1, r55.2.2.2.2.2.1, tS.2.2.2.2.2.2.1, r55.2.2.2.2.2.2.1, r55.2.2.2.2.2.2.2.1, r55.2.2.2.2.2.2.2.2, tS.2.2.2.2.2.2.2.2.2.2)))) else some ((((-1000) : Int32) - r30), nS, tS)))))) else some (r2, nS, tS))))
def S_PL_lean (x1 : Int32) (nS : CS) : Option ((Int32)) :=
  (if (S_City_has x1 nS.1) = 0 then some 1000000001 else (if x1 < 0 ∨ 8 ≤ x1.toNatClampNeg then none else some (nS.2.2.2.2.2.2.2.2.2.1 x1.toNatClampNeg)))
def S_PL_man (x1 : Int32) (x2 : Int32) (nS : CS) : Option ((Int32)) :=
  (if (S_City_has x1 nS.1) = 0 then some (-1) else (if x2 = 0 then (if x1 < 0 ∨ 8 ≤ x1.toNatClampNeg then none else some (nS.2.2.2.2.2.2.2.1 x1.toNatClampNeg)) else (if x2 = 1 then (if x1 < 0 ∨ 8 ≤ x1.toNatClampNeg then none else some (nS.2.2.2.2.2.2.2.2.1 x1.toNatClampNeg)) else (if x2 = 2 then (if (S_City_isPropped x1 nS.2.1) = 0 then some 0 else some 1) else (if x2 = 3 then ((S_City_isUpright x1 nS.2.2.2.2.2.2.2.1 nS.2.2.2.2.2.2.2.2.1 nS.2.2.2.2.2.2.2.2.2.1).bind (fun r94 => (if r94 = 0 then some 0 else some 1))) else (if x2 = 4 then ((S_City_discountOf x1 nS.2.2.2.2.2.2.2.1 nS.2.2.2.2.2.2.2.2.1 nS.2.2.2.2.2.2.2.2.2.1).bind (fun r111 => some r111)) else (if x2 = 5 then ((S_City_trustedBy x1 nS.1 nS.2.2.2.2.2.2.2.2.2.1).bind (fun r120 => some r120)) else some (-1))))))))
def S_PL_refusalOfKind (x1 : Int32) (d_held : Int32) : Option ((Int32)) :=
  ((S_PL_isShelf x1).bind (fun r1 => (if r1 = 0 then some (-1) else (if x1 < 0 ∨ 8 ≤ x1.toNatClampNeg then none else (if (S_Shelf_isEmpty d_held) = 0 then (if (S_Shelf_hasRow d_held) = 0 then some 0 else some (-12)) else some (-11))))))
def S_PL_comes (x1 : Int32) (x2 : Int32) (nS : CS) (d_kind : Int32) (d_figure : Int32) (d_held : Int32) : Option ((Int32) × (CS)) :=
  (if (S_PL_isIn x2 (-45) 45) = 0 then some ((-1), nS) else ((S_PL_refusalOfKind x1 d_held).bind (fun r15 => (if r15 = 0 then (if x1 < 0 ∨ 8 ≤ x1.toNatClampNeg then none else ((S_City_takesIn d_kind d_figure x2 nS.1 nS.2.2.2.2.2.2.2.1 nS.2.2.2.2.2.2.2.2.1 nS.2.2.2.2.2.2.2.2.2.1).bind (fun r48 => (if r48.1 = 0 then some ((-2), (r48.2.1, nS.2.1, nS.2.2.1, nS.2.2.2.1, nS.2.2.2.2.1, nS.2.2.2.2.2.1, nS.2.2.2.2.2.2.1, r48.2.2.1, r48.2.2.2.1, r48.2.2.2.2, nS.2.2.2.2.2.2.2.2.2.2)) else some ((r48.2.1 - 1), (r48.2.1, nS.2.1, nS.2.2.1, nS.2.2.2.1, nS.2.2.2.2.1, nS.2.2.2.2.2.1, nS.2.2.2.2.2.2.1, r48.2.2.1, r48.2.2.2.1, r48.2.2.2.2, nS.2.2.2.2.2.2.2.2.2.2)))))) else some (r15, nS)))))
def S_PL_pushes (x1 : Int32) (x2 : Int32) (nS : CS) : Option ((Int32) × (CS)) :=
  (if (S_City_has x1 nS.1) = 0 then some (1000000001, nS) else (if (S_PL_isIn x2 (-45) 45) = 0 then some (1000000001, nS) else (if x1 < 0 ∨ 8 ≤ x1.toNatClampNeg then none else some ((nS.2.2.2.2.2.2.2.2.2.1 x1.toNatClampNeg), (nS.1, nS.2.1, nS.2.2.1, nS.2.2.2.1, nS.2.2.2.2.1, nS.2.2.2.2.2.1, nS.2.2.2.2.2.2.1, nS.2.2.2.2.2.2.2.1, nS.2.2.2.2.2.2.2.2.1, (upd nS.2.2.2.2.2.2.2.2.2.1 x1.toNatClampNeg x2), nS.2.2.2.2.2.2.2.2.2.2)))))
def S_PL_props (x1 : Int32) (nS : CS) : (Int32) × (CS) :=
  (if (S_City_has x1 nS.1) = 0 then ((-1), nS) else (if (S_City_isPropped x1 (S_City_turnProp x1 nS.2.1)) = 0 then (0, (nS.1, (S_City_turnProp x1 nS.2.1), nS.2.2.1, nS.2.2.2.1, nS.2.2.2.2.1, nS.2.2.2.2.2.1, nS.2.2.2.2.2.2.1, nS.2.2.2.2.2.2.2.1, nS.2.2.2.2.2.2.2.2.1, nS.2.2.2.2.2.2.2.2.2.1, nS.2.2.2.2.2.2.2.2.2.2)) else (1, (nS.1, (S_City_turnProp x1 nS.2.1), nS.2.2.1, nS.2.2.2.1, nS.2.2.2.2.1, nS.2.2.2.2.2.1, nS.2.2.2.2.2.2.1, nS.2.2.2.2.2.2.2.1, nS.2.2.2.2.2.2.2.2.1, nS.2.2.2.2.2.2.2.2.2.1, nS.2.2.2.2.2.2.2.2.2.2))))
def S_PL_hangs (x1 : Int32) (x2 : Int32) (nS : CS) : (Int32) × (CS) :=
  (if (S_PL_isIn x1 0 9) = 0 then ((-1), nS) else (if (S_PL_isIn x2 0 7) = 0 then ((-1), nS) else ((((10 : Int32) * nS.2.2.2.1) + nS.2.2.1), (nS.1, nS.2.1, x2, x1, nS.2.2.2.2.1, nS.2.2.2.2.2.1, nS.2.2.2.2.2.2.1, nS.2.2.2.2.2.2.2.1, nS.2.2.2.2.2.2.2.2.1, nS.2.2.2.2.2.2.2.2.2.1, nS.2.2.2.2.2.2.2.2.2.2))))
def S_PL_days (x1 : Int32) (nS : CS) : Option ((Int32) × (CS)) :=
  (if (S_PL_isIn x1 1 60) = 0 then some ((-1), nS) else (if (nS.2.2.2.2.2.1 + x1) ≤ 999 then ((S_City_passDays x1 nS.1 nS.2.1 nS.2.2.1 nS.2.2.2.1 nS.2.2.2.2.1 nS.2.2.2.2.2.1 nS.2.2.2.2.2.2.1 nS.2.2.2.2.2.2.2.1 nS.2.2.2.2.2.2.2.2.1 nS.2.2.2.2.2.2.2.2.2.1).bind (fun r35 => ((S_City_upright nS.1 nS.2.2.2.2.2.2.2.1 nS.2.2.2.2.2.2.2.2.1 r35.2.2.2.2.2.2).bind (fun r43 => some ((S_J_bitCount r43), (nS.1, nS.2.1, r35.2.1, r35.2.2.1, r35.2.2.2.1, r35.2.2.2.2.1, r35.2.2.2.2.2.1, nS.2.2.2.2.2.2.2.1, nS.2.2.2.2.2.2.2.2.1, r35.2.2.2.2.2.2, nS.2.2.2.2.2.2.2.2.2.2)))))) else some ((-3), nS)))
def S_PL_leanThen (x1 : Int32) (x2 : Int32) (nS : CS) (mS : CS) : Option ((Int32) × (CS)) :=
  (if (S_City_has x1 nS.1) = 0 then some (1000000001, mS) else (if (S_PL_isIn x2 0 60) = 0 then some (1000000001, mS) else ((S_Mind_after x2 nS mS).bind (fun r29 => (if x1 < 0 ∨ 8 ≤ x1.toNatClampNeg then none else some ((r29.2.2.2.2.2.2.2.2.2.1 x1.toNatClampNeg), r29))))))
def S_PL_then (x1 : Int32) (x2 : Int32) (nS : CS) (mS : CS) : Option ((Int32) × (CS)) :=
  (if (S_PL_isIn x1 0 60) = 0 then some ((-1), mS) else (if (S_PL_isIn x2 0 3) = 0 then some ((-1), mS) else ((S_Mind_after x1 nS mS).bind (fun r26 => (if x2 = 0 then some (r26.2.2.1, r26) else (if x2 = 1 then some (r26.2.2.2.1, r26) else (if x2 = 2 then some (r26.2.2.2.2.1, r26) else ((S_City_upright r26.1 r26.2.2.2.2.2.2.2.1 r26.2.2.2.2.2.2.2.2.1 r26.2.2.2.2.2.2.2.2.2.1).bind (fun r72 => some (r72, r26))))))))))
def S_PL_straight (x1 : Int32) (nS : CS) (mS : CS) : Option ((Int32) × (CS)) :=
  (if (S_City_has x1 nS.1) = 0 then some ((-1), mS) else ((S_Mind_daysToStraight x1 nS mS).bind (fun r16 => some (r16.1, r16.2))))
def S_PL_crash (x1 : Int32) (nS : CS) (w_before : Nat → Int32) (mS : CS) : Option ((Int32) × (Nat → Int32) × (CS)) :=
  (if x1 = 0 then ((S_Mind_daysToCrash nS mS).bind (fun r32 => some (r32.1, w_before, r32.2))) else (if x1 = 1 then ((S_Mind_daysToStill w_before nS mS).bind (fun r40 => some (r40.1, r40.2.1, r40.2.2))) else some ((-1), w_before, mS)))
def S_PL_finds (x1 : Int32) (nS : CS) (mS : CS) : Option ((Int32) × (CS)) :=
  (if (S_City_has x1 nS.1) = 0 then some ((-1), mS) else ((S_Mind_daysToFind x1 nS mS).bind (fun r16 => some (r16.1, r16.2))))
def S_PL_trust (x1 : Int32) (nS : CS) : Option ((Int32)) :=
  (if x1 = 0 then ((S_City_mostTrusted nS.1 nS.2.2.2.2.2.2.2.2.2.1).bind (fun r40 => some r40)) else (if x1 = 1 then ((S_City_rivals nS.1 nS.2.2.2.2.2.2.2.2.2.1).bind (fun r48 => some r48)) else (if x1 = 2 then ((S_City_plumb nS.1 nS.2.2.2.2.2.2.2.2.2.1).bind (fun r56 => some r56)) else (if x1 = 3 then ((S_City_east nS.1 nS.2.2.2.2.2.2.2.2.2.1).bind (fun r64 => some r64)) else (if x1 = 4 then ((S_City_discountOfAll nS.1 nS.2.2.2.2.2.2.2.1 nS.2.2.2.2.2.2.2.2.1 nS.2.2.2.2.2.2.2.2.2.1).bind (fun r72 => some r72)) else some (-1))))))
def S_PL_tells (x1 : Int32) (nS : CS) : Option ((Int32)) :=
  (if (S_City_has x1 nS.1) = 0 then some (-1) else ((S_City_tellers x1 nS.1 nS.2.2.2.2.2.2.2.2.2.1).bind (fun r16 => some r16)))
def S_PL_fewestProps (x1 : Int32) (nS : CS) (mS : CS) : Option ((Int32) × (CS)) :=
  (if (S_PL_isIn x1 1 30) = 0 then some ((-1), mS) else ((S_Mind_propsAgainstCrash x1 nS mS).bind (fun r15 => some (r15.1, r15.2))))
def S_PL_push (x1 : Int32) (nS : CS) (mS : CS) : Option ((Int32) × (CS)) :=
  (if (S_PL_isIn x1 0 20) = 0 then some ((-1), mS) else ((S_Mind_bestPush x1 nS mS).bind (fun r15 => some (r15.1, r15.2))))
def S_PL_right (x1 : Int32) (nS : CS) : Option ((Int32) × (CS)) :=
  (if x1 = 0 then ((S_City_rightOne nS.1 nS.2.2.2.2.2.2.2.1 nS.2.2.2.2.2.2.2.2.1 nS.2.2.2.2.2.2.2.2.2.1).bind (fun r32 => some (r32, nS))) else (if x1 = 1 then ((S_City_walls nS.1 nS.2.2.2.2.2.2.2.2.2.1 nS.2.2.2.2.2.2.2.2.2.2).bind (fun r40 => some (r40.1, (nS.1, nS.2.1, nS.2.2.1, nS.2.2.2.1, nS.2.2.2.2.1, nS.2.2.2.2.2.1, nS.2.2.2.2.2.2.1, nS.2.2.2.2.2.2.2.1, nS.2.2.2.2.2.2.2.2.1, nS.2.2.2.2.2.2.2.2.2.1, r40.2)))) else (if x1 = 2 then ((S_City_balance nS.1 nS.2.2.2.2.2.2.2.2.2.1).bind (fun r48 => some (r48, nS))) else some ((-1), nS))))
def S_PL_whatIs (x1 : Int32) (x2 : Int32) (x3 : Int32) (nS : CS) (mS : CS) (d_sort : Int32) (d_size : Int32) (d_held : Int32) (d_el : Nat → Int32) : Option ((Int32) × (CS)) :=
  (if (S_City_has x2 nS.1) = 0 then some ((-1), mS) else (if (S_PL_isIn x3 0 1) = 0 then some ((-1), mS) else ((S_PL_refusalOfRow x1 d_held).bind (fun r24 => (if r24 = 0 then (if x3 = 0 then (if x1 < 0 ∨ 8 ≤ x1.toNatClampNeg then none else ((S_Mind_kindsThatDid x2 nS mS d_sort d_size d_el).bind (fun r52 => some (r52.1, r52.2)))) else (if x1 < 0 ∨ 8 ≤ x1.toNatClampNeg then none else ((S_Mind_figuresThatDid x2 nS mS d_sort d_size d_el).bind (fun r69 => some (r69.1, r69.2))))) else some (r24, mS))))))
def S_PL_whereHung (x1 : Int32) (x2 : Int32) (nS : CS) (mS : CS) (d_sort : Int32) (d_size : Int32) (d_held : Int32) (d_el : Nat → Int32) : Option ((Int32) × (CS)) :=
  (if (S_PL_isIn x2 0 2) = 0 then some ((-1), mS) else ((S_PL_refusalOfRow x1 d_held).bind (fun r13 => (if r13 = 0 then (if x1 < 0 ∨ 8 ≤ x1.toNatClampNeg then none else ((S_Mind_hangings x2 nS mS d_sort d_size d_el).bind (fun r36 => some (r36.1, r36.2)))) else some (r13, mS)))))
def S_PL_two (x1 : Int32) (x2 : Int32) (x3 : Int32) (nS : CS) (w_gains : Nat → Int32) (w_othersGains : Nat → Int32) (mS : CS) : Option ((Int32) × (Nat → Int32) × (Nat → Int32) × (CS)) :=
  (if (S_City_has x1 nS.1) = 0 then some ((-1), w_gains, w_othersGains, mS) else (if (S_City_has x2 nS.1) = 0 then some ((-1), w_gains, w_othersGains, mS) else (if x1 = x2 then some ((-1), w_gains, w_othersGains, mS) else (if (S_PL_isIn x3 1 30) = 0 then some ((-1), w_gains, w_othersGains, mS) else ((S_Mind_settledPair x1 x2 x3 w_gains w_othersGains nS mS).bind (fun r46 => some (r46.1, r46.2.1, r46.2.2.1, r46.2.2.2)))))))
def S_PL_commonDivisor_L9  : Nat → Int64 → Int64 → Int32 → Option ((Int64))
  | 0, _, _, _ => none
  | n9 + 1, y4, y6, y8 => (if 1000 ≤ y8 then some y4 else (if (lg_cmp y6 0) = 0 then some y4 else (if y6 = 0 then none else (S_PL_commonDivisor_L9 n9 y6 (y4 - y4 / y6 * y6) (y8 + 1)))))
def S_PL_commonDivisor (x0 : Int64) (x2 : Int64) : Option ((Int64)) :=
  (S_PL_commonDivisor_L9 lfu x0 x2 0)
def S_PL_leastTerm (x0 : Int64) (x2 : Int64) (x4 : Int32) : Option ((Int64)) :=
  ((S_PL_commonDivisor x0 x2).bind (fun r2 => (if (lg_cmp r2 0) = 0 then some ((x4 : Int32).toInt64) else (if x4 = 0 then (if r2 = 0 then none else some (x0 / r2)) else (if r2 = 0 then none else some (x2 / r2))))))
def S_PL_shocks (x1 : Int32) (x2 : Int32) (x3 : Int32) (x4 : Int32) (nS : CS) (mS : CS) : Option ((Int64) × (CS)) :=
  (if (S_City_has x1 nS.1) = 0 then some (1000000001, mS) else (if (S_PL_isIn x2 0 7) = 0 then some (1000000001, mS) else (if (S_PL_isIn x3 2 20) = 0 then some (1000000001, mS) else (if (S_PL_isIn x4 0 1) = 0 then some (1000000001, mS) else ((S_Mind_shockedUpright x1 x2 x3 nS mS).bind (fun r52 => ((S_PL_power x3 x2).bind (fun r57 => ((S_PL_leastTerm r52.1 r57 x4).bind (fun r62 => some (r62, r52.2)))))))))))
def S_PL_mean (x1 : Int32) (nS : CS) : Option ((Int64)) :=
  (if (S_PL_isIn x1 0 1) = 0 then some 1000000001 else (if nS.1 = 0 then some ((x1 : Int32).toInt64) else ((S_City_sumOfLeans nS.1 nS.2.2.2.2.2.2.2.2.2.1).bind (fun r30 => ((S_PL_leastTerm (((r30 + ((45 : Int32) * nS.1)) : Int32).toInt64) ((nS.1 : Int32).toInt64) x1).bind (fun r54 => some r54))))))
def S_PL_firstForged_L2 (nS : CS) (d_size : Int32) (d_el : Nat → Int32) : Nat → Int32 → Option ((Int32))
  | 0, _ => none
  | n2 + 1, y2 => (if d_size ≤ y2 then some (-4) else (if (S_City_has y2 nS.1) = 0 then some y2 else (if y2 < 0 ∨ 100 ≤ y2.toNatClampNeg then none else (if y2 < 0 ∨ 8 ≤ y2.toNatClampNeg then none else (if (d_el y2.toNatClampNeg) = (nS.2.2.2.2.2.2.2.2.2.1 y2.toNatClampNeg) then (S_PL_firstForged_L2 nS d_size d_el n2 (y2 + 1)) else some y2)))))
def S_PL_firstForged (nS : CS) (d_size : Int32) (d_el : Nat → Int32) : Option ((Int32)) :=
  (S_PL_firstForged_L2 nS d_size d_el lfu 0)
def S_PL_forged (x1 : Int32) (nS : CS) (d_size : Int32) (d_held : Int32) (d_el : Nat → Int32) : Option ((Int32)) :=
  ((S_PL_refusalOfRow x1 d_held).bind (fun r2 => (if r2 = 0 then (if x1 < 0 ∨ 8 ≤ x1.toNatClampNeg then none else ((S_PL_firstForged nS d_size d_el).bind (fun r21 => some r21))) else some r2)))
def S_PL_judge (x1 : Int32) (nS : CS) (mS : CS) (d_sort : Int32) (d_size : Int32) (d_held : Int32) (d_el : Nat → Int32) : Option ((Int32) × (CS)) :=
  ((S_PL_refusalOfRow x1 d_held).bind (fun r2 => (if r2 = 0 then (if x1 < 0 ∨ 8 ≤ x1.toNatClampNeg then none else ((S_Mind_firstMisjudged nS mS d_sort d_size d_el).bind (fun r24 => some (r24.1, r24.2)))) else some (r2, mS))))
def S_PL_years (x1 : Int32) (x2 : Int32) (x3 : Int32) (nS : CS) (mS : CS) : Option ((Int32) × (CS)) :=
  (if (S_PL_isIn x1 1 20) = 0 then some ((-1), mS) else (if (S_PL_isIn x3 0 1) = 0 then some ((-1), mS) else ((S_Mind_drawnYears x1 x2 x3 nS mS).bind (fun r28 => some (r28.1, r28.2)))))
def S_PL_image (v_hasImage : Int32) (nS : CS) (sS : CS) : Option ((Int32) × (Int32) × (CS)) :=
  ((S_City_becomes sS.1 sS.2.1 sS.2.2.1 sS.2.2.2.1 sS.2.2.2.2.1 sS.2.2.2.2.2.1 sS.2.2.2.2.2.2.2.1 sS.2.2.2.2.2.2.2.2.1 sS.2.2.2.2.2.2.2.2.2.1 nS.1 nS.2.1 nS.2.2.1 nS.2.2.2.1 nS.2.2.2.2.1 nS.2.2.2.2.2.1 nS.2.2.2.2.2.2.2.1 nS.2.2.2.2.2.2.2.2.1 nS.2.2.2.2.2.2.2.2.2.1).bind (fun r8 => some (nS.2.2.2.2.2.1, 1, (r8.1, r8.2.1, r8.2.2.1, r8.2.2.2.1, r8.2.2.2.2.1, r8.2.2.2.2.2.1, sS.2.2.2.2.2.2.1, r8.2.2.2.2.2.2.1, r8.2.2.2.2.2.2.2.1, r8.2.2.2.2.2.2.2.2, sS.2.2.2.2.2.2.2.2.2.2))))
def S_PL_restore (v_hasImage : Int32) (nS : CS) (sS : CS) : Option ((Int32) × (CS)) :=
  (if v_hasImage = 0 then some ((-3), nS) else ((S_City_becomes nS.1 nS.2.1 nS.2.2.1 nS.2.2.2.1 nS.2.2.2.2.1 nS.2.2.2.2.2.1 nS.2.2.2.2.2.2.2.1 nS.2.2.2.2.2.2.2.2.1 nS.2.2.2.2.2.2.2.2.2.1 sS.1 sS.2.1 sS.2.2.1 sS.2.2.2.1 sS.2.2.2.2.1 sS.2.2.2.2.2.1 sS.2.2.2.2.2.2.2.1 sS.2.2.2.2.2.2.2.2.1 sS.2.2.2.2.2.2.2.2.2.1).bind (fun r18 => some (r18.2.2.2.2.2.1, (r18.1, r18.2.1, r18.2.2.1, r18.2.2.2.1, r18.2.2.2.2.1, r18.2.2.2.2.2.1, nS.2.2.2.2.2.2.1, r18.2.2.2.2.2.2.1, r18.2.2.2.2.2.2.2.1, r18.2.2.2.2.2.2.2.2, nS.2.2.2.2.2.2.2.2.2.2)))))
def S_PL_count (x1 : Int32) (nS : CS) : Option ((Int32)) :=
  (if x1 = 0 then some nS.1 else (if x1 = 1 then some nS.2.2.2.2.2.1 else (if x1 = 2 then some nS.2.2.1 else (if x1 = 3 then some nS.2.2.2.1 else (if x1 = 4 then some nS.2.2.2.2.1 else (if x1 = 5 then ((S_City_upright nS.1 nS.2.2.2.2.2.2.2.1 nS.2.2.2.2.2.2.2.2.1 nS.2.2.2.2.2.2.2.2.2.1).bind (fun r88 => some r88)) else (if x1 = 6 then some nS.2.1 else some (-1))))))))
def S_PL_keep (x1 : Int32) (x2 : Int32) (x3 : Int32) (x4 : Int32) (d_kind : Int32) (d_figure : Int32) (d_held : Int32) : Option ((Int32) × (Int32) × (Int32) × (Int32)) :=
  ((S_PL_isShelf x1).bind (fun r1 => (if r1 = 0 then some ((-1), d_kind, d_figure, d_held) else (if (S_PL_isIn x2 0 1) = 0 then some ((-1), d_kind, d_figure, d_held) else (if x2 = 0 then (if x1 < 0 ∨ 8 ≤ x1.toNatClampNeg then none else some (0, d_kind, d_figure, (S_Shelf_clears d_held))) else (if (S_PL_isIn x3 0 7) = 0 then some ((-1), d_kind, d_figure, d_held) else (if (S_PL_isIn x4 0 9) = 0 then some ((-1), d_kind, d_figure, d_held) else (if x1 < 0 ∨ 8 ≤ x1.toNatClampNeg then none else some (0, (S_Shelf_holdsKind x3 x4 d_kind d_figure d_held).1, (S_Shelf_holdsKind x3 x4 d_kind d_figure d_held).2.1, (S_Shelf_holdsKind x3 x4 d_kind d_figure d_held).2.2)))))))))
def S_PL_row (x1 : Int32) (x2 : Int32) (x3 : Int32) (d_sort : Int32) (d_size : Int32) (d_held : Int32) (d_el : Nat → Int32) : Option ((Int32) × (Int32) × (Int32) × (Int32) × (Nat → Int32)) :=
  ((S_PL_isShelf x1).bind (fun r1 => (if r1 = 0 then some ((-1), d_sort, d_size, d_held, d_el) else (if (S_PL_isIn x2 0 2) = 0 then some ((-1), d_sort, d_size, d_held, d_el) else (if x3 ≤ 100 then (if 0 ≤ x3 then (if x1 < 0 ∨ 8 ≤ x1.toNatClampNeg then none else ((S_Shelf_holdsRow x2 x3 d_sort d_size d_held d_el).bind (fun r39 => some (0, r39.1, r39.2.1, r39.2.2.1, r39.2.2.2)))) else some ((-14), d_sort, d_size, d_held, d_el)) else some ((-1), d_sort, d_size, d_held, d_el))))))
def S_PL_put (x1 : Int32) (x2 : Int32) (x3 : Int32) (d_sort : Int32) (d_size : Int32) (d_held : Int32) (d_el : Nat → Int32) : Option ((Int32) × (Nat → Int32)) :=
  ((S_PL_refusalOfRow x1 d_held).bind (fun r2 => (if r2 = 0 then (if x1 < 0 ∨ 8 ≤ x1.toNatClampNeg then none else (if (S_Shelf_hasElement x2 d_size) = 0 then some ((-13), d_el) else ((S_Shelf_sets x2 x3 d_sort d_el).bind (fun r39 => some (0, r39))))) else some (r2, d_el))))
def S_PL_cost (x1 : Int32) (d_kind : Int32) (d_figure : Int32) (d_held : Int32) : Option ((Int32)) :=
  ((S_PL_refusalOfKind x1 d_held).bind (fun r2 => (if r2 = 0 then (if x1 < 0 ∨ 8 ≤ x1.toNatClampNeg then none else ((S_Shelf_price d_kind d_figure).bind (fun r20 => some r20))) else some r2)))
def S_MD_isIn (x0 : Int32) (x1 : Int32) (x2 : Int32) : (Int32) :=
  (if x0 < x1 then 0 else (if x2 < x0 then 0 else 1))
def S_MD_sized (x0 : Int32) : (Int32) :=
  (if 0 ≤ x0 then x0 else (-x0))
def S_MD_signOf (x0 : Int32) : (Int32) :=
  (if x0 ≤ 0 then (if 0 ≤ x0 then 0 else (-1)) else 1)
def S_MD_least (x0 : Int32) (x1 : Int32) : (Int32) :=
  (if x1 ≤ x0 then x1 else x0)
def S_MD_held (x0 : Int32) : (Int32) :=
  (if (-45) ≤ x0 then (if x0 ≤ 45 then x0 else 45) else (-45))
def S_MD_copies_L2 (r0_a : Nat → Int32) : Nat → Int32 → (Nat → Int32) → Option ((Nat → Int32))
  | 0, _, _ => none
  | n2 + 1, y2, r1_a => (if 37 ≤ y2 then some r1_a else (if y2 < 0 ∨ 37 ≤ y2.toNatClampNeg then none else (S_MD_copies_L2 r0_a n2 (y2 + 1) (upd r1_a y2.toNatClampNeg (r0_a y2.toNatClampNeg)))))
def S_MD_copies (r0_a : Nat → Int32) (r1_a : Nat → Int32) : Option ((Nat → Int32)) :=
  (S_MD_copies_L2 r0_a lfu 0 r1_a)
def S_MD_of (x0 : Int32) (x1 : Int32) : (Int32) :=
  (((5 : Int32) + ((4 : Int32) * x0)) + x1)
def S_MD_isMan (x1 : Int32) (q_s : Nat → Int32) : Option ((Int32)) :=
  (if ¬ ((S_MD_isIn x1 0 ((q_s (0 : Int32).toNatClampNeg) - 1)) = 0 ∨ (S_MD_isIn x1 0 ((q_s (0 : Int32).toNatClampNeg) - 1)) = 1) then none else some (S_MD_isIn x1 0 ((q_s (0 : Int32).toNatClampNeg) - 1)))
def S_MD_areTwo (x1 : Int32) (x2 : Int32) (q_s : Nat → Int32) : Option ((Int32)) :=
  ((S_MD_isMan x1 q_s).bind (fun r2 => (if r2 = 0 then some 0 else ((S_MD_isMan x2 q_s).bind (fun r10 => (if r10 = 0 then some 0 else (if x1 = x2 then some 0 else some 1)))))))
def S_MD_isLean (x0 : Int32) : Option ((Int32)) :=
  (if ¬ ((S_MD_isIn x0 (-45) 45) = 0 ∨ (S_MD_isIn x0 (-45) 45) = 1) then none else some (S_MD_isIn x0 (-45) 45))
def S_MD_has (x0 : Int32) (x1 : Int32) : (Int32) :=
  (if ((x0 >>> (x1 &&& 31)) &&& 1) = 1 then 1 else 0)
def S_MD_bits_L4 (x0 : Int32) : Nat → Int32 → Int32 → Option ((Int32))
  | 0, _, _ => none
  | n4 + 1, y1, y2 => (if 8 ≤ y2 then some y1 else (S_MD_bits_L4 x0 n4 (y1 + ((x0 >>> (y2 &&& 31)) &&& 1)) (y2 + 1)))
def S_MD_bits (x0 : Int32) : Option ((Int32)) :=
  (S_MD_bits_L4 x0 lfu 0 0)
def S_MD_towards (x0 : Int32) (x1 : Int32) (x2 : Int32) : (Int32) :=
  ((S_MD_signOf (x1 - x0)) * (S_MD_least x2 (S_MD_sized (x1 - x0))))
def S_MD_awayBy (x0 : Int32) (x1 : Int32) : (Int32) :=
  (if 0 ≤ x0 then x1 else (-x1))
def S_MD_movesBy (x0 : Int32) (x1 : Int32) (x2 : Int32) (x3 : Int32) (x4 : Int32) : (Int32) :=
  (if x0 = 1 then 0 else (if x0 = 2 then (S_MD_towards x2 0 1) else (if x0 = 3 then (S_MD_towards x2 x3 2) else (if x0 = 4 then (S_MD_awayBy x2 ((x1 / 3) + 1)) else (if x0 = 5 then (S_MD_towards x2 0 5) else (if x0 = 6 then (S_MD_awayBy x2 ((2 : Int32) * ((x1 / 3) + 1))) else (if x0 = 7 then (if (x4 - x4 / 2 * 2) = 0 then (S_MD_towards x2 x3 2) else 0) else (S_MD_towards x2 x3 1))))))))
def S_MD_uprightBy (x0 : Int32) (x1 : Int32) : (Int32) :=
  (if x0 = 1 then x1 else (if x0 = 2 then 0 else (if x0 = 3 then 8 else (if x0 = 4 then ((2 : Int32) * x1) else (if x0 = 5 then 9 else (if x0 = 6 then ((2 : Int32) * x1) else (if x0 = 7 then 8 else 5)))))))
def S_MD_discountBy (x0 : Int32) (x1 : Int32) (x2 : Int32) : (Int32) :=
  (if x0 = 1 then ((S_MD_sized x2) / 2) else (if x0 = 2 then ((2 : Int32) * (S_MD_sized x2)) else (if x0 = 3 then (S_MD_sized x2) else (if x0 = 4 then (((S_MD_sized x2) / 2) + 3) else (if x0 = 5 then 0 else (if x0 = 6 then 0 else (if x0 = 7 then ((S_MD_sized x2) + x1) else (S_MD_sized x2))))))))
def S_MD_isUprightBy (x1 : Int32) (x2 : Int32) (r0_a : Nat → Int32) : Option ((Int32)) :=
  (if (S_MD_of x1 0) < 0 ∨ 37 ≤ (S_MD_of x1 0).toNatClampNeg then none else (if (S_MD_of x1 1) < 0 ∨ 37 ≤ (S_MD_of x1 1).toNatClampNeg then none else (if (S_MD_uprightBy (r0_a (S_MD_of x1 0).toNatClampNeg) (r0_a (S_MD_of x1 1).toNatClampNeg)) < (S_MD_sized x2) then some 0 else some 1)))
def S_MD_upright_L4 (r0_a : Nat → Int32) : Nat → Int32 → Int32 → Option ((Int32))
  | 0, _, _ => none
  | n4 + 1, y1, y2 => (if (r0_a (0 : Int32).toNatClampNeg) ≤ y2 then some y1 else (if (S_MD_of y2 2) < 0 ∨ 37 ≤ (S_MD_of y2 2).toNatClampNeg then none else ((S_MD_isUprightBy y2 (r0_a (S_MD_of y2 2).toNatClampNeg) r0_a).bind (fun r21 => (if r21 = 0 then (S_MD_upright_L4 r0_a n4 (y1 ||| 0) (y2 + 1)) else (S_MD_upright_L4 r0_a n4 (y1 ||| ((1 : Int32) <<< (y2 &&& 31))) (y2 + 1)))))))
def S_MD_upright (r0_a : Nat → Int32) : Option ((Int32)) :=
  (S_MD_upright_L4 r0_a lfu 0 0)
def S_MD_leanSum_L4 (r0_a : Nat → Int32) : Nat → Int32 → Int32 → Option ((Int32))
  | 0, _, _ => none
  | n4 + 1, y1, y2 => (if (r0_a (0 : Int32).toNatClampNeg) ≤ y2 then some y1 else (if (S_MD_of y2 2) < 0 ∨ 37 ≤ (S_MD_of y2 2).toNatClampNeg then none else (S_MD_leanSum_L4 r0_a n4 (y1 + (r0_a (S_MD_of y2 2).toNatClampNeg)) (y2 + 1))))
def S_MD_leanSum (r0_a : Nat → Int32) : Option ((Int32)) :=
  (S_MD_leanSum_L4 r0_a lfu 0 0)
def S_MD_plumb_L5 (r0_a : Nat → Int32) : Nat → Int32 → Int32 → Option ((Int32))
  | 0, _, _ => none
  | n5 + 1, y1, y2 => (if (r0_a (0 : Int32).toNatClampNeg) ≤ y2 then some y1 else (if y1 < 0 then (S_MD_plumb_L5 r0_a n5 y2 (y2 + 1)) else (if (S_MD_of y2 2) < 0 ∨ 37 ≤ (S_MD_of y2 2).toNatClampNeg then none else (if (S_MD_of y1 2) < 0 ∨ 37 ≤ (S_MD_of y1 2).toNatClampNeg then none else (if (S_MD_sized (r0_a (S_MD_of y1 2).toNatClampNeg)) ≤ (S_MD_sized (r0_a (S_MD_of y2 2).toNatClampNeg)) then (S_MD_plumb_L5 r0_a n5 y1 (y2 + 1)) else (S_MD_plumb_L5 r0_a n5 y2 (y2 + 1)))))))
def S_MD_plumb (r0_a : Nat → Int32) : Option ((Int32)) :=
  (S_MD_plumb_L5 r0_a lfu (-4) 0)
def S_MD_turnsRound_L2  : Nat → Int32 → (Nat → Int32) → Option ((Nat → Int32))
  | 0, _, _ => none
  | n2 + 1, y1, r0_a => (if (r0_a (0 : Int32).toNatClampNeg) ≤ y1 then some r0_a else (if (S_MD_of y1 3) < 0 ∨ 37 ≤ (S_MD_of y1 3).toNatClampNeg then none else (if (r0_a (S_MD_of y1 3).toNatClampNeg) = 0 then (if (S_MD_of y1 2) < 0 ∨ 37 ≤ (S_MD_of y1 2).toNatClampNeg then none else (S_MD_turnsRound_L2 n2 (y1 + 1) (upd r0_a (S_MD_of y1 2).toNatClampNeg (-(r0_a (S_MD_of y1 2).toNatClampNeg))))) else (S_MD_turnsRound_L2 n2 (y1 + 1) r0_a))))
def S_MD_turnsRound (r0_a : Nat → Int32) : Option ((Nat → Int32)) :=
  (S_MD_turnsRound_L2 lfu 0 r0_a)
def S_MD_leadGoes (r0_a : Nat → Int32) : Option ((Nat → Int32)) :=
  (if (r0_a (0 : Int32).toNatClampNeg) = 0 then some r0_a else (if (r0_a (3 : Int32).toNatClampNeg) ≤ 0 then ((S_MD_plumb r0_a).bind (fun r42 => some (upd r0_a (2 : Int32).toNatClampNeg ((r0_a (2 : Int32).toNatClampNeg) + (S_MD_signOf (r42 - (r0_a (2 : Int32).toNatClampNeg))))))) else (if ((r0_a (2 : Int32).toNatClampNeg) + 1) < (r0_a (0 : Int32).toNatClampNeg) then some (upd r0_a (2 : Int32).toNatClampNeg ((r0_a (2 : Int32).toNatClampNeg) + 1)) else some (upd r0_a (2 : Int32).toNatClampNeg 0))))
def S_MD_day_L28 (y1 : Int32) : Nat → Int32 → (Nat → Int32) → Option ((Nat → Int32))
  | 0, _, _ => none
  | n28 + 1, y2, r0_a => (if (r0_a (0 : Int32).toNatClampNeg) ≤ y2 then ((S_MD_upright r0_a).bind (fun r98 => ((S_MD_bits r98).bind (fun r101 => (if ((r0_a (0 : Int32).toNatClampNeg) / 2) ≤ r101 then (if (r0_a (3 : Int32).toNatClampNeg) ≤ 0 then ((S_MD_leadGoes r0_a).bind (fun r152 => some r152)) else ((S_MD_leadGoes (upd r0_a (3 : Int32).toNatClampNeg ((r0_a (3 : Int32).toNatClampNeg) - 1))).bind (fun r152 => some r152))) else ((S_MD_turnsRound (upd r0_a (4 : Int32).toNatClampNeg (S_MD_least 999 ((r0_a (4 : Int32).toNatClampNeg) + 1)))).bind (fun r127 => ((S_MD_leadGoes (upd r127 (3 : Int32).toNatClampNeg 9)).bind (fun r152 => some r152))))))))) else (if (S_MD_of y2 3) < 0 ∨ 37 ≤ (S_MD_of y2 3).toNatClampNeg then none else (if (r0_a (S_MD_of y2 3).toNatClampNeg) = 1 then (S_MD_day_L28 y1 n28 (y2 + 1) r0_a) else (if (S_MD_of y2 2) < 0 ∨ 37 ≤ (S_MD_of y2 2).toNatClampNeg then none else (if (S_MD_of y2 0) < 0 ∨ 37 ≤ (S_MD_of y2 0).toNatClampNeg then none else (if (S_MD_of y2 1) < 0 ∨ 37 ≤ (S_MD_of y2 1).toNatClampNeg then none else (S_MD_day_L28 y1 n28 (y2 + 1) (upd r0_a (S_MD_of y2 2).toNatClampNeg (S_MD_held ((r0_a (S_MD_of y2 2).toNatClampNeg) + (S_MD_movesBy (r0_a (S_MD_of y2 0).toNatClampNeg) (r0_a (S_MD_of y2 1).toNatClampNeg) (r0_a (S_MD_of y2 2).toNatClampNeg) y1 (r0_a (1 : Int32).toNatClampNeg))))))))))))
def S_MD_day_J25 (v0 : Int32) (r0_a : Nat → Int32) : Option ((Nat → Int32)) :=
  (S_MD_day_L28 v0 lfu 0 r0_a)
def S_MD_day (r0_a : Nat → Int32) : Option ((Nat → Int32)) :=
  (if ((upd r0_a (1 : Int32).toNatClampNeg ((r0_a (1 : Int32).toNatClampNeg) + 1)) (0 : Int32).toNatClampNeg) = 0 then (S_MD_day_J25 0 (upd r0_a (1 : Int32).toNatClampNeg ((r0_a (1 : Int32).toNatClampNeg) + 1))) else ((S_MD_leanSum (upd r0_a (1 : Int32).toNatClampNeg ((r0_a (1 : Int32).toNatClampNeg) + 1))).bind (fun r18 => (S_MD_day_J25 (r18 / ((upd r0_a (1 : Int32).toNatClampNeg ((r0_a (1 : Int32).toNatClampNeg) + 1)) (0 : Int32).toNatClampNeg)) (upd r0_a (1 : Int32).toNatClampNeg ((r0_a (1 : Int32).toNatClampNeg) + 1))))))
def S_MD_daysOn_L2 (x1 : Int32) : Nat → Int32 → (Nat → Int32) → Option ((Nat → Int32))
  | 0, _, _ => none
  | n2 + 1, y2, r0_a => (if x1 ≤ y2 then some r0_a else ((S_MD_day r0_a).bind (fun r8 => (S_MD_daysOn_L2 x1 n2 (y2 + 1) r8))))
def S_MD_daysOn (x1 : Int32) (r0_a : Nat → Int32) : Option ((Nat → Int32)) :=
  (S_MD_daysOn_L2 x1 lfu 0 r0_a)
def S_MD_here (q_place : Int32) (q_rowAt : Int32) (q_rowEnd : Int32) (q_element : Nat → Int32) : Option ((Int32)) :=
  (if q_rowEnd ≤ q_place then some (-1) else (if (q_rowAt + q_place) < 0 ∨ 800 ≤ (q_rowAt + q_place).toNatClampNeg then none else some ((q_element (q_rowAt + q_place).toNatClampNeg) &&& 255)))
def S_MD_readsNumber_L9 (x1 : Int32) (x2 : Int32) (q_rowAt : Int32) (q_rowEnd : Int32) (q_element : Nat → Int32) : Nat → Int32 → Int32 → (Nat → Int32) → Option ((Int32) × (Int32) × (Nat → Int32))
  | 0, _, _, _ => none
  | n9 + 1, y3, q_place, q_numbers => (if x2 ≤ y3 then some (1, q_place, q_numbers) else ((S_MD_here q_place q_rowAt q_rowEnd q_element).bind (fun r15 => (if (S_MD_isIn r15 48 57) = 0 then some (0, q_place, q_numbers) else (if x1 < 0 ∨ 3 ≤ x1.toNatClampNeg then none else ((S_MD_here q_place q_rowAt q_rowEnd q_element).bind (fun r45 => (S_MD_readsNumber_L9 x1 x2 q_rowAt q_rowEnd q_element n9 (y3 + 1) (q_place + 1) (upd q_numbers x1.toNatClampNeg ((((10 : Int32) * (q_numbers x1.toNatClampNeg)) + r45) - 48))))))))))
def S_MD_readsNumber (x1 : Int32) (x2 : Int32) (q_place : Int32) (q_rowAt : Int32) (q_rowEnd : Int32) (q_numbers : Nat → Int32) (q_element : Nat → Int32) : Option ((Int32) × (Int32) × (Nat → Int32)) :=
  (if x1 < 0 ∨ 3 ≤ x1.toNatClampNeg then none else (S_MD_readsNumber_L9 x1 x2 q_rowAt q_rowEnd q_element lfu 0 q_place (upd q_numbers x1.toNatClampNeg 0)))
def S_MD_readsStatement_J190 (y2 : Int32) (q_rowAt : Int32) (q_rowEnd : Int32) (q_element : Nat → Int32) (q_place : Int32) (q_numbers : Nat → Int32) : Option ((Int32) × (Int32) × (Nat → Int32)) :=
  (if y2 = 0 then some (0, q_place, q_numbers) else ((S_MD_here q_place q_rowAt q_rowEnd q_element).bind (fun r195 => (if r195 = 59 then some (1, (q_place + 1), q_numbers) else some (0, q_place, q_numbers)))))
def S_MD_readsStatement_J127 (v0 : Int32) (q_rowAt : Int32) (q_rowEnd : Int32) (q_element : Nat → Int32) (q_place : Int32) (q_numbers : Nat → Int32) : Option ((Int32) × (Int32) × (Nat → Int32)) :=
  (S_MD_readsStatement_J190 v0 q_rowAt q_rowEnd q_element q_place q_numbers)
def S_MD_readsStatement_J126 (q_rowAt : Int32) (q_rowEnd : Int32) (q_element : Nat → Int32) (q_place : Int32) (q_numbers : Nat → Int32) : Option ((Int32) × (Int32) × (Nat → Int32)) :=
  (S_MD_readsStatement_J127 0 q_rowAt q_rowEnd q_element q_place q_numbers)
def S_MD_readsStatement_J100 (v0 : Int32) (q_rowAt : Int32) (q_rowEnd : Int32) (q_element : Nat → Int32) (q_place : Int32) (q_numbers : Nat → Int32) : Option ((Int32) × (Int32) × (Nat → Int32)) :=
  (S_MD_readsStatement_J190 v0 q_rowAt q_rowEnd q_element q_place q_numbers)
def S_MD_readsStatement_J99 (q_rowAt : Int32) (q_rowEnd : Int32) (q_element : Nat → Int32) (q_place : Int32) (q_numbers : Nat → Int32) : Option ((Int32) × (Int32) × (Nat → Int32)) :=
  (S_MD_readsStatement_J100 0 q_rowAt q_rowEnd q_element q_place q_numbers)
def S_MD_readsStatement_J164 (v0 : Int32) (q_rowAt : Int32) (q_rowEnd : Int32) (q_element : Nat → Int32) (q_place : Int32) (q_numbers : Nat → Int32) : Option ((Int32) × (Int32) × (Nat → Int32)) :=
  (S_MD_readsStatement_J190 v0 q_rowAt q_rowEnd q_element q_place q_numbers)
def S_MD_readsStatement_J163 (q_rowAt : Int32) (q_rowEnd : Int32) (q_element : Nat → Int32) (q_place : Int32) (q_numbers : Nat → Int32) : Option ((Int32) × (Int32) × (Nat → Int32)) :=
  (S_MD_readsStatement_J164 0 q_rowAt q_rowEnd q_element q_place q_numbers)
def S_MD_readsStatement (q_place : Int32) (q_rowAt : Int32) (q_rowEnd : Int32) (q_numbers : Nat → Int32) (q_element : Nat → Int32) : Option ((Int32) × (Int32) × (Nat → Int32)) :=
  ((S_MD_here q_place q_rowAt q_rowEnd q_element).bind (fun r1 => (if r1 = 100 then ((S_MD_readsNumber 0 2 (q_place + 1) q_rowAt q_rowEnd q_numbers q_element).bind (fun r171 => (S_MD_readsStatement_J190 r171.1 q_rowAt q_rowEnd q_element r171.2.1 r171.2.2))) else (if r1 = 108 then ((S_MD_readsNumber 0 1 (q_place + 1) q_rowAt q_rowEnd q_numbers q_element).bind (fun r107 => (if r107.1 = 0 then (S_MD_readsStatement_J126 q_rowAt q_rowEnd q_element r107.2.1 r107.2.2) else ((S_MD_readsNumber 1 2 r107.2.1 q_rowAt q_rowEnd r107.2.2 q_element).bind (fun r116 => (if r116.1 = 0 then (S_MD_readsStatement_J126 q_rowAt q_rowEnd q_element r116.2.1 r116.2.2) else (S_MD_readsStatement_J127 1 q_rowAt q_rowEnd q_element r116.2.1 r116.2.2))))))) else (if r1 = 109 then ((S_MD_readsNumber 0 1 (q_place + 1) q_rowAt q_rowEnd q_numbers q_element).bind (fun r71 => (if r71.1 = 0 then (S_MD_readsStatement_J99 q_rowAt q_rowEnd q_element r71.2.1 r71.2.2) else ((S_MD_readsNumber 1 1 r71.2.1 q_rowAt q_rowEnd r71.2.2 q_element).bind (fun r80 => (if r80.1 = 0 then (S_MD_readsStatement_J99 q_rowAt q_rowEnd q_element r80.2.1 r80.2.2) else ((S_MD_readsNumber 2 2 r80.2.1 q_rowAt q_rowEnd r80.2.2 q_element).bind (fun r89 => (if r89.1 = 0 then (S_MD_readsStatement_J99 q_rowAt q_rowEnd q_element r89.2.1 r89.2.2) else (S_MD_readsStatement_J100 1 q_rowAt q_rowEnd q_element r89.2.1 r89.2.2)))))))))) else (if r1 = 114 then ((S_MD_readsNumber 0 1 (q_place + 1) q_rowAt q_rowEnd q_numbers q_element).bind (fun r134 => (S_MD_readsStatement_J190 r134.1 q_rowAt q_rowEnd q_element r134.2.1 r134.2.2))) else (if r1 = 119 then ((S_MD_readsNumber 0 1 (q_place + 1) q_rowAt q_rowEnd q_numbers q_element).bind (fun r144 => (if r144.1 = 0 then (S_MD_readsStatement_J163 q_rowAt q_rowEnd q_element r144.2.1 r144.2.2) else ((S_MD_readsNumber 1 1 r144.2.1 q_rowAt q_rowEnd r144.2.2 q_element).bind (fun r153 => (if r153.1 = 0 then (S_MD_readsStatement_J163 q_rowAt q_rowEnd q_element r153.2.1 r153.2.2) else (S_MD_readsStatement_J164 1 q_rowAt q_rowEnd q_element r153.2.1 r153.2.2))))))) else some (0, ((q_place + 1) - 1), q_numbers))))))))
def S_MD_adds (x1 : Int32) (x2 : Int32) (x3 : Int32) (q_s : Nat → Int32) : Option ((Nat → Int32)) :=
  (if (S_MD_of (q_s (0 : Int32).toNatClampNeg) 0) < 0 ∨ 37 ≤ (S_MD_of (q_s (0 : Int32).toNatClampNeg) 0).toNatClampNeg then none else (if (S_MD_of (q_s (0 : Int32).toNatClampNeg) 1) < 0 ∨ 37 ≤ (S_MD_of (q_s (0 : Int32).toNatClampNeg) 1).toNatClampNeg then none else (if (S_MD_of (q_s (0 : Int32).toNatClampNeg) 2) < 0 ∨ 37 ≤ (S_MD_of (q_s (0 : Int32).toNatClampNeg) 2).toNatClampNeg then none else (if (S_MD_of (q_s (0 : Int32).toNatClampNeg) 3) < 0 ∨ 37 ≤ (S_MD_of (q_s (0 : Int32).toNatClampNeg) 3).toNatClampNeg then none else some (upd (upd (upd (upd (upd q_s (S_MD_of (q_s (0 : Int32).toNatClampNeg) 0).toNatClampNeg x1) (S_MD_of (q_s (0 : Int32).toNatClampNeg) 1).toNatClampNeg x2) (S_MD_of (q_s (0 : Int32).toNatClampNeg) 2).toNatClampNeg x3) (S_MD_of (q_s (0 : Int32).toNatClampNeg) 3).toNatClampNeg 0) (0 : Int32).toNatClampNeg (((upd (upd (upd (upd q_s (S_MD_of (q_s (0 : Int32).toNatClampNeg) 0).toNatClampNeg x1) (S_MD_of (q_s (0 : Int32).toNatClampNeg) 1).toNatClampNeg x2) (S_MD_of (q_s (0 : Int32).toNatClampNeg) 2).toNatClampNeg x3) (S_MD_of (q_s (0 : Int32).toNatClampNeg) 3).toNatClampNeg 0) (0 : Int32).toNatClampNeg) + 1))))))
def S_MD_isDone (x1 : Int32) (q_s : Nat → Int32) (q_numbers : Nat → Int32) : Option ((Int32) × (Nat → Int32)) :=
  (if x1 = 108 then ((S_MD_isMan (q_numbers (0 : Int32).toNatClampNeg) q_s).bind (fun r105 => (if r105 = 0 then some (0, q_s) else (if (q_numbers (1 : Int32).toNatClampNeg) ≤ 90 then (if (S_MD_of (q_numbers (0 : Int32).toNatClampNeg) 2) < 0 ∨ 37 ≤ (S_MD_of (q_numbers (0 : Int32).toNatClampNeg) 2).toNatClampNeg then none else some (1, (upd q_s (S_MD_of (q_numbers (0 : Int32).toNatClampNeg) 2).toNatClampNeg ((q_numbers (1 : Int32).toNatClampNeg) - 45)))) else some (0, q_s))))) else (if x1 = 109 then (if 8 ≤ (q_numbers (0 : Int32).toNatClampNeg) then some (0, q_s) else (if 90 < (q_numbers (2 : Int32).toNatClampNeg) then some (0, q_s) else (if (q_s (0 : Int32).toNatClampNeg) = 8 then some (0, q_s) else ((S_MD_adds (q_numbers (0 : Int32).toNatClampNeg) (q_numbers (1 : Int32).toNatClampNeg) ((q_numbers (2 : Int32).toNatClampNeg) - 45) q_s).bind (fun r98 => some (1, r98)))))) else (if x1 = 114 then ((S_MD_isMan (q_numbers (0 : Int32).toNatClampNeg) q_s).bind (fun r137 => (if r137 = 0 then some (0, q_s) else (if (S_MD_of (q_numbers (0 : Int32).toNatClampNeg) 3) < 0 ∨ 37 ≤ (S_MD_of (q_numbers (0 : Int32).toNatClampNeg) 3).toNatClampNeg then none else some (1, (upd q_s (S_MD_of (q_numbers (0 : Int32).toNatClampNeg) 3).toNatClampNeg ((q_s (S_MD_of (q_numbers (0 : Int32).toNatClampNeg) 3).toNatClampNeg) ^^^ 1))))))) else (if x1 = 119 then (if (q_numbers (1 : Int32).toNatClampNeg) < 8 then some (1, (upd (upd q_s (3 : Int32).toNatClampNeg (q_numbers (0 : Int32).toNatClampNeg)) (2 : Int32).toNatClampNeg (q_numbers (1 : Int32).toNatClampNeg))) else some (0, q_s)) else (if (S_MD_isIn (q_numbers (0 : Int32).toNatClampNeg) 1 60) = 0 then some (0, q_s) else (if ((q_s (1 : Int32).toNatClampNeg) + (q_numbers (0 : Int32).toNatClampNeg)) ≤ 999 then ((S_MD_daysOn (q_numbers (0 : Int32).toNatClampNeg) q_s).bind (fun r216 => some (1, r216))) else some (0, q_s)))))))
def S_MD_isShelf (x0 : Int32) : Option ((Int32)) :=
  (if ¬ ((S_MD_isIn x0 0 7) = 0 ∨ (S_MD_isIn x0 0 7) = 1) then none else some (S_MD_isIn x0 0 7))
def S_MD_wrongRow (x1 : Int32) (x2 : Int32) (q_kept : Nat → Int32) (q_sort : Nat → Int32) : Option ((Int32)) :=
  ((S_MD_isShelf x1).bind (fun r1 => (if r1 = 0 then some (-1) else (if x1 < 0 ∨ 8 ≤ x1.toNatClampNeg then none else (if (q_kept x1.toNatClampNeg) = 0 then some (-11) else (if (q_kept x1.toNatClampNeg) = 2 then (if x2 < 0 then some 0 else (if (q_sort x1.toNatClampNeg) = x2 then some 0 else some (-12))) else some (-12)))))))
def S_MD_city_L93 (y3 : Int32) (q_element : Nat → Int32) (q_rowAt : Int32) (q_rowEnd : Int32) (q_was : Nat → Int32) : Nat → Int32 → Int32 → (Nat → Int32) → (Nat → Int32) → Option ((Int32) × (Int32) × (Int32) × (Int32) × (Nat → Int32) × (Nat → Int32) × (Nat → Int32))
  | 0, _, _, _, _ => none
  | n93 + 1, y4, q_place, q_s, q_numbers => (if y4 = 0 then (if q_rowEnd ≤ q_place then (if y4 = 0 then some (y3, q_place, q_rowAt, q_rowEnd, q_s, q_was, q_numbers) else some (y4, q_place, q_rowAt, q_rowEnd, q_s, q_was, q_numbers)) else ((S_MD_here q_place q_rowAt q_rowEnd q_element).bind (fun r116 => ((S_MD_readsStatement q_place q_rowAt q_rowEnd q_numbers q_element).bind (fun r122 => ((S_MD_isDone r116 q_s r122.2.2).bind (fun r130 => (if r130.1 = 0 then ((S_MD_copies q_was r130.2).bind (fun r155 => (S_MD_city_L93 y3 q_element q_rowAt q_rowEnd q_was n93 (((-2000) : Int32) - q_place) r122.2.1 r155 r122.2.2))) else (S_MD_city_L93 y3 q_element q_rowAt q_rowEnd q_was n93 y4 r122.2.1 r130.2 r122.2.2))))))))) else (if y4 = 0 then some (y3, q_place, q_rowAt, q_rowEnd, q_s, q_was, q_numbers) else some (y4, q_place, q_rowAt, q_rowEnd, q_s, q_was, q_numbers)))
def S_MD_city_J77 (y3 : Int32) (y4 : Int32) (q_element : Nat → Int32) (q_rowAt : Int32) (q_rowEnd : Int32) (q_s : Nat → Int32) (q_was : Nat → Int32) (q_numbers : Nat → Int32) : Option ((Int32) × (Int32) × (Int32) × (Int32) × (Nat → Int32) × (Nat → Int32) × (Nat → Int32)) :=
  ((S_MD_copies q_s q_was).bind (fun r85 => (S_MD_city_L93 y3 q_element q_rowAt q_rowEnd r85 lfu y4 0 q_s q_numbers)))
def S_MD_city_J58 (K41 : Int32 → Int32 → Int32 → (Nat → Int32) → Option ((Int32) × (Int32) × (Int32) × (Int32) × (Nat → Int32) × (Nat → Int32) × (Nat → Int32))) (y3 : Int32) (y4 : Int32) (q_rowAt : Int32) (q_rowEnd : Int32) (q_s : Nat → Int32) (q_was : Nat → Int32) (q_element : Nat → Int32) (q_place : Int32) (q_numbers : Nat → Int32) : Option ((Int32) × (Int32) × (Int32) × (Int32) × (Nat → Int32) × (Nat → Int32) × (Nat → Int32)) :=
  (if y4 = 0 then (if q_place < q_rowEnd then (K41 (y3 + 1) y4 q_place q_numbers) else (S_MD_city_J77 (y3 + 1) y4 q_element q_rowAt q_rowEnd q_s q_was q_numbers)) else (S_MD_city_J77 (y3 + 1) y4 q_element q_rowAt q_rowEnd q_s q_was q_numbers))
def S_MD_city_L41 (q_element : Nat → Int32) (q_rowAt : Int32) (q_rowEnd : Int32) (q_s : Nat → Int32) (q_was : Nat → Int32) : Nat → Int32 → Int32 → Int32 → (Nat → Int32) → Option ((Int32) × (Int32) × (Int32) × (Int32) × (Nat → Int32) × (Nat → Int32) × (Nat → Int32))
  | 0, _, _, _, _ => none
  | n41 + 1, y3, y4, q_place, q_numbers => ((S_MD_readsStatement q_place q_rowAt q_rowEnd q_numbers q_element).bind (fun r42 => (if r42.1 = 0 then (S_MD_city_J58 (S_MD_city_L41 q_element q_rowAt q_rowEnd q_s q_was n41) y3 (((-1000) : Int32) - r42.2.1) q_rowAt q_rowEnd q_s q_was q_element r42.2.1 r42.2.2) else (S_MD_city_J58 (S_MD_city_L41 q_element q_rowAt q_rowEnd q_s q_was n41) y3 y4 q_rowAt q_rowEnd q_s q_was q_element r42.2.1 r42.2.2))))
def S_MD_city (x1 : Int32) (q_place : Int32) (q_rowAt : Int32) (q_rowEnd : Int32) (q_s : Nat → Int32) (q_was : Nat → Int32) (q_numbers : Nat → Int32) (q_kept : Nat → Int32) (q_sort : Nat → Int32) (q_size : Nat → Int32) (q_element : Nat → Int32) : Option ((Int32) × (Int32) × (Int32) × (Int32) × (Nat → Int32) × (Nat → Int32) × (Nat → Int32)) :=
  ((S_MD_wrongRow x1 0 q_kept q_sort).bind (fun r3 => (if r3 = 0 then (if x1 < 0 ∨ 8 ≤ x1.toNatClampNeg then none else (S_MD_city_L41 q_element ((100 : Int32) * x1) (q_size x1.toNatClampNeg) q_s q_was lfu 0 0 0 q_numbers)) else some (r3, q_place, q_rowAt, q_rowEnd, q_s, q_was, q_numbers))))
def S_MD_doesTrust (x1 : Int32) (x2 : Int32) (q_s : Nat → Int32) : Option ((Int32)) :=
  (if (S_MD_of x1 2) < 0 ∨ 37 ≤ (S_MD_of x1 2).toNatClampNeg then none else (if (S_MD_of x2 2) < 0 ∨ 37 ≤ (S_MD_of x2 2).toNatClampNeg then none else (if x1 = x2 then some 0 else (if (S_MD_signOf (q_s (S_MD_of x1 2).toNatClampNeg)) = (S_MD_signOf (q_s (S_MD_of x2 2).toNatClampNeg)) then (if ((S_MD_sized (q_s (S_MD_of x1 2).toNatClampNeg)) + 10) < (S_MD_sized (q_s (S_MD_of x2 2).toNatClampNeg)) then some 0 else some 1) else some 0))))
def S_MD_trustedBy_L4 (x1 : Int32) (q_s : Nat → Int32) : Nat → Int32 → Int32 → Option ((Int32))
  | 0, _, _ => none
  | n4 + 1, y2, y3 => (if (q_s (0 : Int32).toNatClampNeg) ≤ y3 then some y2 else ((S_MD_doesTrust y3 x1 q_s).bind (fun r18 => (if r18 = 0 then (S_MD_trustedBy_L4 x1 q_s n4 (y2 ||| 0) (y3 + 1)) else (S_MD_trustedBy_L4 x1 q_s n4 (y2 ||| ((1 : Int32) <<< (y3 &&& 31))) (y3 + 1))))))
def S_MD_trustedBy (x1 : Int32) (q_s : Nat → Int32) : Option ((Int32)) :=
  (S_MD_trustedBy_L4 x1 q_s lfu 0 0)
def S_MD_lean (x1 : Int32) (q_s : Nat → Int32) : Option ((Int32)) :=
  ((S_MD_isMan x1 q_s).bind (fun r2 => (if r2 = 0 then some 1000000001 else (if (S_MD_of x1 2) < 0 ∨ 37 ≤ (S_MD_of x1 2).toNatClampNeg then none else some (q_s (S_MD_of x1 2).toNatClampNeg)))))
def S_MD_discount (x1 : Int32) (q_s : Nat → Int32) : Option ((Int32)) :=
  (if (S_MD_of x1 0) < 0 ∨ 37 ≤ (S_MD_of x1 0).toNatClampNeg then none else (if (S_MD_of x1 1) < 0 ∨ 37 ≤ (S_MD_of x1 1).toNatClampNeg then none else (if (S_MD_of x1 2) < 0 ∨ 37 ≤ (S_MD_of x1 2).toNatClampNeg then none else some (S_MD_discountBy (q_s (S_MD_of x1 0).toNatClampNeg) (q_s (S_MD_of x1 1).toNatClampNeg) (q_s (S_MD_of x1 2).toNatClampNeg)))))
def S_MD_man (x1 : Int32) (x2 : Int32) (q_s : Nat → Int32) : Option ((Int32)) :=
  ((S_MD_isMan x1 q_s).bind (fun r2 => (if r2 = 0 then some (-1) else (if (S_MD_isIn x2 0 5) = 0 then some (-1) else (if x2 = 2 then (if (S_MD_of x1 3) < 0 ∨ 37 ≤ (S_MD_of x1 3).toNatClampNeg then none else some (q_s (S_MD_of x1 3).toNatClampNeg)) else (if x2 = 3 then ((S_MD_upright q_s).bind (fun r67 => some ((r67 >>> (x1 &&& 31)) &&& 1))) else (if x2 = 4 then ((S_MD_discount x1 q_s).bind (fun r77 => some r77)) else (if x2 = 5 then ((S_MD_trustedBy x1 q_s).bind (fun r83 => some r83)) else (if (S_MD_of x1 x2) < 0 ∨ 37 ≤ (S_MD_of x1 x2).toNatClampNeg then none else some (q_s (S_MD_of x1 x2).toNatClampNeg))))))))))
def S_MD_wrongKept (x1 : Int32) (q_kept : Nat → Int32) : Option ((Int32)) :=
  ((S_MD_isShelf x1).bind (fun r1 => (if r1 = 0 then some (-1) else (if x1 < 0 ∨ 8 ≤ x1.toNatClampNeg then none else (if (q_kept x1.toNatClampNeg) = 0 then some (-11) else (if (q_kept x1.toNatClampNeg) = 2 then some (-12) else some 0))))))
def S_MD_comes (x1 : Int32) (x2 : Int32) (q_s : Nat → Int32) (q_kept : Nat → Int32) (q_keptKind : Nat → Int32) (q_keptFigure : Nat → Int32) : Option ((Int32) × (Nat → Int32)) :=
  ((S_MD_isLean x2).bind (fun r1 => (if r1 = 0 then some ((-1), q_s) else ((S_MD_wrongKept x1 q_kept).bind (fun r11 => (if r11 = 0 then (if (q_s (0 : Int32).toNatClampNeg) = 8 then some ((-2), q_s) else (if x1 < 0 ∨ 8 ≤ x1.toNatClampNeg then none else ((S_MD_adds (q_keptKind x1.toNatClampNeg) (q_keptFigure x1.toNatClampNeg) x2 q_s).bind (fun r49 => some (((r49 (0 : Int32).toNatClampNeg) - 1), r49))))) else some (r11, q_s)))))))
def S_MD_pushes (x1 : Int32) (x2 : Int32) (q_s : Nat → Int32) : Option ((Int32) × (Nat → Int32)) :=
  ((S_MD_isMan x1 q_s).bind (fun r2 => (if r2 = 0 then some (1000000001, q_s) else ((S_MD_isLean x2).bind (fun r9 => (if r9 = 0 then some (1000000001, q_s) else (if (S_MD_of x1 2) < 0 ∨ 37 ≤ (S_MD_of x1 2).toNatClampNeg then none else some ((q_s (S_MD_of x1 2).toNatClampNeg), (upd q_s (S_MD_of x1 2).toNatClampNeg x2)))))))))
def S_MD_props (x1 : Int32) (q_s : Nat → Int32) : Option ((Int32) × (Nat → Int32)) :=
  ((S_MD_isMan x1 q_s).bind (fun r2 => (if r2 = 0 then some ((-1), q_s) else (if (S_MD_of x1 3) < 0 ∨ 37 ≤ (S_MD_of x1 3).toNatClampNeg then none else some (((upd q_s (S_MD_of x1 3).toNatClampNeg ((q_s (S_MD_of x1 3).toNatClampNeg) ^^^ 1)) (S_MD_of x1 3).toNatClampNeg), (upd q_s (S_MD_of x1 3).toNatClampNeg ((q_s (S_MD_of x1 3).toNatClampNeg) ^^^ 1)))))))
def S_MD_hangs (x1 : Int32) (x2 : Int32) (q_s : Nat → Int32) : (Int32) × (Nat → Int32) :=
  (if (S_MD_isIn x1 0 9) = 0 then ((-1), q_s) else (if (S_MD_isIn x2 0 7) = 0 then ((-1), q_s) else ((((10 : Int32) * (q_s (3 : Int32).toNatClampNeg)) + (q_s (2 : Int32).toNatClampNeg)), (upd (upd q_s (3 : Int32).toNatClampNeg x1) (2 : Int32).toNatClampNeg x2))))
def S_MD_days (x1 : Int32) (q_s : Nat → Int32) : Option ((Int32) × (Nat → Int32)) :=
  (if (S_MD_isIn x1 1 60) = 0 then some ((-1), q_s) else (if ((q_s (1 : Int32).toNatClampNeg) + x1) ≤ 999 then ((S_MD_daysOn x1 q_s).bind (fun r34 => ((S_MD_upright r34).bind (fun r41 => ((S_MD_bits r41).bind (fun r44 => some (r44, r34))))))) else some ((-3), q_s)))
def S_MD_isLate (x0 : Int32) : Option ((Int32)) :=
  (if ¬ ((S_MD_isIn x0 0 60) = 0 ∨ (S_MD_isIn x0 0 60) = 1) then none else some (S_MD_isIn x0 0 60))
def S_MD_takes (x1 : Int32) (q_s : Nat → Int32) (q_m : Nat → Int32) : Option ((Nat → Int32)) :=
  ((S_MD_copies q_s q_m).bind (fun r8 => ((S_MD_daysOn x1 r8).bind (fun r16 => some r16))))
def S_MD_leanThen (x1 : Int32) (x2 : Int32) (q_s : Nat → Int32) (q_m : Nat → Int32) : Option ((Int32) × (Nat → Int32)) :=
  ((S_MD_isMan x1 q_s).bind (fun r2 => (if r2 = 0 then some (1000000001, q_m) else ((S_MD_isLate x2).bind (fun r9 => (if r9 = 0 then some (1000000001, q_m) else ((S_MD_takes x2 q_s q_m).bind (fun r20 => (if (S_MD_of x1 2) < 0 ∨ 37 ≤ (S_MD_of x1 2).toNatClampNeg then none else some ((r20 (S_MD_of x1 2).toNatClampNeg), r20))))))))))
def S_MD_then (x1 : Int32) (x2 : Int32) (q_s : Nat → Int32) (q_m : Nat → Int32) : Option ((Int32) × (Nat → Int32)) :=
  ((S_MD_isLate x1).bind (fun r1 => (if r1 = 0 then some ((-1), q_m) else (if (S_MD_isIn x2 0 3) = 0 then some ((-1), q_m) else ((S_MD_takes x1 q_s q_m).bind (fun r20 => (if x2 = 3 then ((S_MD_upright r20).bind (fun r32 => some (r32, r20))) else (if ((2 : Int32) + x2) < 0 ∨ 37 ≤ ((2 : Int32) + x2).toNatClampNeg then none else some ((r20 ((2 : Int32) + x2).toNatClampNeg), r20)))))))))
def S_MD_straight_L23 (x1 : Int32) : Nat → Int32 → (Nat → Int32) → Option ((Int32) × (Nat → Int32))
  | 0, _, _ => none
  | n23 + 1, y2, q_m => (if 60 < y2 then some ((-4), q_m) else (if (S_MD_of x1 2) < 0 ∨ 37 ≤ (S_MD_of x1 2).toNatClampNeg then none else (if (q_m (S_MD_of x1 2).toNatClampNeg) = 0 then some (y2, q_m) else ((S_MD_day q_m).bind (fun r48 => (S_MD_straight_L23 x1 n23 (y2 + 1) r48))))))
def S_MD_straight (x1 : Int32) (q_s : Nat → Int32) (q_m : Nat → Int32) : Option ((Int32) × (Nat → Int32)) :=
  ((S_MD_isMan x1 q_s).bind (fun r2 => (if r2 = 0 then some ((-1), q_m) else ((S_MD_copies q_s q_m).bind (fun r18 => (S_MD_straight_L23 x1 lfu 0 r18))))))
def S_MD_firstCrash_L20  : Nat → Int32 → (Nat → Int32) → Option ((Int32) × (Nat → Int32))
  | 0, _, _ => none
  | n20 + 1, y1, q_m => (if 60 < y1 then some ((-4), q_m) else ((S_MD_day q_m).bind (fun r30 => (if (r30 (4 : Int32).toNatClampNeg) ≤ 0 then (S_MD_firstCrash_L20 n20 (y1 + 1) r30) else some (y1, r30)))))
def S_MD_firstCrash (q_s : Nat → Int32) (q_m : Nat → Int32) : Option ((Int32) × (Nat → Int32)) :=
  ((S_MD_copies q_s q_m).bind (fun r8 => (S_MD_firstCrash_L20 lfu 1 (upd r8 (4 : Int32).toNatClampNeg 0))))
def S_MD_isMoved_L22 (q_m : Nat → Int32) (q_was : Nat → Int32) : Nat → Int32 → Int32 → Option ((Int32) × (Nat → Int32) × (Nat → Int32))
  | 0, _, _ => none
  | n22 + 1, y1, y2 => (if (q_m (0 : Int32).toNatClampNeg) ≤ y2 then (if ¬ (y1 = 0 ∨ y1 = 1) then none else some (y1, q_m, q_was)) else (if (S_MD_of y2 2) < 0 ∨ 37 ≤ (S_MD_of y2 2).toNatClampNeg then none else (if (q_m (S_MD_of y2 2).toNatClampNeg) = (q_was (S_MD_of y2 2).toNatClampNeg) then (S_MD_isMoved_L22 q_m q_was n22 (y1 ||| 0) (y2 + 1)) else (S_MD_isMoved_L22 q_m q_was n22 (y1 ||| 1) (y2 + 1)))))
def S_MD_isMoved (q_m : Nat → Int32) (q_was : Nat → Int32) : Option ((Int32) × (Nat → Int32) × (Nat → Int32)) :=
  ((S_MD_copies q_m q_was).bind (fun r10 => ((S_MD_day q_m).bind (fun r17 => (S_MD_isMoved_L22 r17 r10 lfu 0 0)))))
def S_MD_still_L15  : Nat → Int32 → Int32 → (Nat → Int32) → (Nat → Int32) → Option ((Int32) × (Nat → Int32) × (Nat → Int32))
  | 0, _, _, _, _ => none
  | n15 + 1, y1, y2, q_m, q_was => (if 60 ≤ y2 then some ((-4), q_m, q_was) else ((S_MD_isMoved q_m q_was).bind (fun r22 => (if r22.1 = 0 then (if (y1 + 1) = 10 then some ((y2 - 9), r22.2.1, r22.2.2) else (S_MD_still_L15 n15 (y1 + 1) (y2 + 1) r22.2.1 r22.2.2)) else (S_MD_still_L15 n15 0 (y2 + 1) r22.2.1 r22.2.2)))))
def S_MD_still (q_s : Nat → Int32) (q_m : Nat → Int32) (q_was : Nat → Int32) : Option ((Int32) × (Nat → Int32) × (Nat → Int32)) :=
  ((S_MD_copies q_s q_m).bind (fun r8 => (S_MD_still_L15 lfu 0 0 r8 q_was)))
def S_MD_crash (x1 : Int32) (q_s : Nat → Int32) (q_m : Nat → Int32) (q_was : Nat → Int32) : Option ((Int32) × (Nat → Int32) × (Nat → Int32)) :=
  (if x1 = 0 then ((S_MD_firstCrash q_s q_m).bind (fun r5 => some (r5.1, r5.2, q_was))) else (if x1 = 1 then ((S_MD_still q_s q_m q_was).bind (fun r17 => some (r17.1, r17.2.1, r17.2.2))) else some ((-1), q_m, q_was)))
def S_MD_finds_L23 (x1 : Int32) : Nat → Int32 → (Nat → Int32) → Option ((Int32) × (Nat → Int32))
  | 0, _, _ => none
  | n23 + 1, y2, q_m => (if 60 < y2 then some ((-4), q_m) else (if (q_m (2 : Int32).toNatClampNeg) = x1 then some (y2, q_m) else ((S_MD_day q_m).bind (fun r45 => (S_MD_finds_L23 x1 n23 (y2 + 1) r45)))))
def S_MD_finds (x1 : Int32) (q_s : Nat → Int32) (q_m : Nat → Int32) : Option ((Int32) × (Nat → Int32)) :=
  ((S_MD_isMan x1 q_s).bind (fun r2 => (if r2 = 0 then some ((-1), q_m) else ((S_MD_copies q_s q_m).bind (fun r18 => (S_MD_finds_L23 x1 lfu 0 r18))))))
def S_MD_mostTrusted_L5 (q_s : Nat → Int32) : Nat → Int32 → Int32 → Option ((Int32))
  | 0, _, _ => none
  | n5 + 1, y1, y2 => (if (q_s (0 : Int32).toNatClampNeg) ≤ y2 then some y1 else (if y1 < 0 then (S_MD_mostTrusted_L5 q_s n5 y2 (y2 + 1)) else ((S_MD_trustedBy y2 q_s).bind (fun r21 => ((S_MD_bits r21).bind (fun r24 => ((S_MD_trustedBy y1 q_s).bind (fun r29 => ((S_MD_bits r29).bind (fun r32 => (if r24 ≤ r32 then (S_MD_mostTrusted_L5 q_s n5 y1 (y2 + 1)) else (S_MD_mostTrusted_L5 q_s n5 y2 (y2 + 1)))))))))))))
def S_MD_mostTrusted (q_s : Nat → Int32) : Option ((Int32)) :=
  (S_MD_mostTrusted_L5 q_s lfu (-4) 0)
def S_MD_trust_L71 (K21 : Int32 → Int32 → Int32 → Int32 → Option ((Int32))) (y3 : Int32) (y4 : Int32) (y5 : Int32) (q_s : Nat → Int32) : Nat → Int32 → Int32 → Option ((Int32))
  | 0, _, _ => none
  | n71 + 1, y2, y6 => (if (q_s (0 : Int32).toNatClampNeg) ≤ y6 then (K21 y2 y3 y4 (y5 + 1)) else ((S_MD_doesTrust y5 y6 q_s).bind (fun r88 => (if r88 = 0 then ((S_MD_doesTrust y6 y5 q_s).bind (fun r99 => (if r99 = 0 then (S_MD_trust_L71 K21 y3 y4 y5 q_s n71 (y2 + 1) (y6 + 1)) else (S_MD_trust_L71 K21 y3 y4 y5 q_s n71 (y2 + 0) (y6 + 1))))) else (S_MD_trust_L71 K21 y3 y4 y5 q_s n71 (y2 + 0) (y6 + 1))))))
def S_MD_trust_J52 (K21 : Int32 → Int32 → Int32 → Int32 → Option ((Int32))) (y2 : Int32) (y4 : Int32) (y5 : Int32) (v0 : Int32) (v1 : Int32) (q_s : Nat → Int32) : Option ((Int32)) :=
  ((S_MD_discount y5 q_s).bind (fun r59 => (S_MD_trust_L71 K21 (v0 + v1) (y4 + r59) y5 q_s lfu y2 (y5 + 1))))
def S_MD_trust_L21 (x1 : Int32) (q_s : Nat → Int32) : Nat → Int32 → Int32 → Int32 → Int32 → Option ((Int32))
  | 0, _, _, _, _ => none
  | n21 + 1, y2, y3, y4, y5 => (if (q_s (0 : Int32).toNatClampNeg) ≤ y5 then (if x1 = 0 then ((S_MD_mostTrusted q_s).bind (fun r129 => some r129)) else (if x1 = 1 then some y2 else (if x1 = 2 then ((S_MD_plumb q_s).bind (fun r153 => some r153)) else (if x1 = 3 then some y3 else some y4)))) else (if (S_MD_of y5 2) < 0 ∨ 37 ≤ (S_MD_of y5 2).toNatClampNeg then none else (if (q_s (S_MD_of y5 2).toNatClampNeg) ≤ 0 then (S_MD_trust_J52 (S_MD_trust_L21 x1 q_s n21) y2 y4 y5 y3 0 q_s) else (S_MD_trust_J52 (S_MD_trust_L21 x1 q_s n21) y2 y4 y5 y3 1 q_s))))
def S_MD_trust (x1 : Int32) (q_s : Nat → Int32) : Option ((Int32)) :=
  (if (S_MD_isIn x1 0 4) = 0 then some (-1) else (S_MD_trust_L21 x1 q_s lfu 0 0 0 0))
def S_MD_tells_L27 (K18 : Int32 → Int32 → Option ((Int32))) (y3 : Int32) (q_s : Nat → Int32) : Nat → Int32 → Int32 → Option ((Int32))
  | 0, _, _ => none
  | n27 + 1, y2, y4 => (if (q_s (0 : Int32).toNatClampNeg) ≤ y4 then (K18 y2 (y3 + 1)) else (if (S_MD_has y2 y4) = 0 then (S_MD_tells_L27 K18 y3 q_s n27 y2 (y4 + 1)) else ((S_MD_trustedBy y4 q_s).bind (fun r51 => (S_MD_tells_L27 K18 y3 q_s n27 (y2 ||| r51) (y4 + 1))))))
def S_MD_tells_L18 (q_s : Nat → Int32) : Nat → Int32 → Int32 → Option ((Int32))
  | 0, _, _ => none
  | n18 + 1, y2, y3 => (if 8 ≤ y3 then some y2 else (S_MD_tells_L27 (S_MD_tells_L18 q_s n18) y3 q_s lfu y2 0))
def S_MD_tells (x1 : Int32) (q_s : Nat → Int32) : Option ((Int32)) :=
  ((S_MD_isMan x1 q_s).bind (fun r2 => (if r2 = 0 then some (-1) else ((S_MD_trustedBy x1 q_s).bind (fun r12 => (S_MD_tells_L18 q_s lfu r12 0))))))
def S_MD_fewestProps_L68 (K17 : Int32 → Int32 → (Nat → Int32) → Option ((Int32) × (Nat → Int32))) (x1 : Int32) (y2 : Int32) (y3 : Int32) (q_s : Nat → Int32) : Nat → Int32 → (Nat → Int32) → Option ((Int32) × (Nat → Int32))
  | 0, _, _ => none
  | n68 + 1, y4, q_m => (if (q_s (0 : Int32).toNatClampNeg) ≤ y4 then ((S_MD_daysOn x1 q_m).bind (fun r111 => (if (r111 (4 : Int32).toNatClampNeg) = 0 then (K17 y3 (y3 + 1) r111) else (K17 y2 (y3 + 1) r111)))) else (if (S_MD_has y3 y4) = 0 then (S_MD_fewestProps_L68 K17 x1 y2 y3 q_s n68 (y4 + 1) q_m) else (if (S_MD_of y4 3) < 0 ∨ 37 ≤ (S_MD_of y4 3).toNatClampNeg then none else (S_MD_fewestProps_L68 K17 x1 y2 y3 q_s n68 (y4 + 1) (upd q_m (S_MD_of y4 3).toNatClampNeg 1)))))
def S_MD_fewestProps_J47 (K17 : Int32 → Int32 → (Nat → Int32) → Option ((Int32) × (Nat → Int32))) (x1 : Int32) (y2 : Int32) (y3 : Int32) (q_s : Nat → Int32) (q_m : Nat → Int32) : Option ((Int32) × (Nat → Int32)) :=
  ((S_MD_copies q_s q_m).bind (fun r55 => (S_MD_fewestProps_L68 K17 x1 y2 y3 q_s lfu 0 (upd r55 (4 : Int32).toNatClampNeg 0))))
def S_MD_fewestProps_L17 (x1 : Int32) (q_s : Nat → Int32) : Nat → Int32 → Int32 → (Nat → Int32) → Option ((Int32) × (Nat → Int32))
  | 0, _, _, _ => none
  | n17 + 1, y2, y3, q_m => (if ((1 : Int32) <<< ((q_s (0 : Int32).toNatClampNeg) &&& 31)) ≤ y3 then some (y2, q_m) else (if y2 < 0 then (S_MD_fewestProps_J47 (S_MD_fewestProps_L17 x1 q_s n17) x1 y2 y3 q_s q_m) else ((S_MD_bits y3).bind (fun r34 => ((S_MD_bits y2).bind (fun r38 => (if r34 < r38 then (S_MD_fewestProps_J47 (S_MD_fewestProps_L17 x1 q_s n17) x1 y2 y3 q_s q_m) else (S_MD_fewestProps_L17 x1 q_s n17 y2 (y3 + 1) q_m))))))))
def S_MD_fewestProps (x1 : Int32) (q_s : Nat → Int32) (q_m : Nat → Int32) : Option ((Int32) × (Nat → Int32)) :=
  (if (S_MD_isIn x1 1 30) = 0 then some ((-1), q_m) else (S_MD_fewestProps_L17 x1 q_s lfu (-4) 0 q_m))
def S_MD_push_L49 (K34 : Int32 → Int32 → Int32 → (Nat → Int32) → Option ((Int32) × (Nat → Int32))) (x1 : Int32) (y4 : Int32) (q_s : Nat → Int32) : Nat → Int32 → Int32 → Int32 → (Nat → Int32) → Option ((Int32) × (Nat → Int32))
  | 0, _, _, _, _ => none
  | n49 + 1, y2, y3, y5, q_m => (if 45 < y5 then (K34 y2 y3 (y4 + 1) q_m) else ((S_MD_copies q_s q_m).bind (fun r64 => (if (S_MD_of y4 2) < 0 ∨ 37 ≤ (S_MD_of y4 2).toNatClampNeg then none else ((S_MD_daysOn x1 (upd r64 (S_MD_of y4 2).toNatClampNeg y5)).bind (fun r85 => ((S_MD_upright r85).bind (fun r92 => ((S_MD_bits r92).bind (fun r95 => (if y2 < r95 then ((S_MD_upright r85).bind (fun r121 => ((S_MD_bits r121).bind (fun r124 => (S_MD_push_L49 K34 x1 y4 q_s n49 r124 ((((100 : Int32) * y4) + y5) + 45) (y5 + 1) r85))))) else (S_MD_push_L49 K34 x1 y4 q_s n49 y2 y3 (y5 + 1) r85))))))))))))
def S_MD_push_L34 (x1 : Int32) (q_s : Nat → Int32) : Nat → Int32 → Int32 → Int32 → (Nat → Int32) → Option ((Int32) × (Nat → Int32))
  | 0, _, _, _, _ => none
  | n34 + 1, y2, y3, y4, q_m => (if (q_s (0 : Int32).toNatClampNeg) ≤ y4 then some (y3, q_m) else (S_MD_push_L49 (S_MD_push_L34 x1 q_s n34) x1 y4 q_s lfu y2 y3 (-45) q_m))
def S_MD_push (x1 : Int32) (q_s : Nat → Int32) (q_m : Nat → Int32) : Option ((Int32) × (Nat → Int32)) :=
  (if (S_MD_isIn x1 0 20) = 0 then some ((-1), q_m) else ((S_MD_takes x1 q_s q_m).bind (fun r14 => ((S_MD_upright r14).bind (fun r21 => ((S_MD_bits r21).bind (fun r24 => (S_MD_push_L34 x1 q_s lfu r24 (-4) 0 r14))))))))
def S_MD_rightOne_L23 (K7 : Int32 → Int32 → Int32 → Option ((Int32))) (y1 : Int32) (y2 : Int32) (y3 : Int32) (q_s : Nat → Int32) : Nat → Int32 → Int32 → Option ((Int32))
  | 0, _, _ => none
  | n23 + 1, y4, y5 => (if (q_s (0 : Int32).toNatClampNeg) ≤ y5 then (if y2 < y4 then (K7 y3 y4 (y3 + 1)) else (K7 y1 y2 (y3 + 1))) else (if y5 = y3 then (S_MD_rightOne_L23 K7 y1 y2 y3 q_s n23 (y4 + 0) (y5 + 1)) else (if (S_MD_of y5 2) < 0 ∨ 37 ≤ (S_MD_of y5 2).toNatClampNeg then none else (if (S_MD_of y3 2) < 0 ∨ 37 ≤ (S_MD_of y3 2).toNatClampNeg then none else ((S_MD_isUprightBy y5 ((q_s (S_MD_of y5 2).toNatClampNeg) - (q_s (S_MD_of y3 2).toNatClampNeg)) q_s).bind (fun r70 => (if r70 = 0 then (S_MD_rightOne_L23 K7 y1 y2 y3 q_s n23 (y4 + 0) (y5 + 1)) else (S_MD_rightOne_L23 K7 y1 y2 y3 q_s n23 (y4 + 1) (y5 + 1)))))))))
def S_MD_rightOne_L7 (q_s : Nat → Int32) : Nat → Int32 → Int32 → Int32 → Option ((Int32))
  | 0, _, _, _ => none
  | n7 + 1, y1, y2, y3 => (if (q_s (0 : Int32).toNatClampNeg) ≤ y3 then some y1 else (S_MD_rightOne_L23 (S_MD_rightOne_L7 q_s n7) y1 y2 y3 q_s lfu 0 0))
def S_MD_rightOne (q_s : Nat → Int32) : Option ((Int32)) :=
  (S_MD_rightOne_L7 q_s lfu (-4) (-1) 0)
def S_MD_walls_L24 (K5 : Int32 → Int32 → (Nat → Int32) → Option ((Int32) × (Nat → Int32))) (y1 : Int32) (y2 : Int32) (q_s : Nat → Int32) : Nat → Int32 → (Nat → Int32) → Option ((Int32) × (Nat → Int32))
  | 0, _, _ => none
  | n24 + 1, y3, q_chain => (if y2 ≤ y3 then (if y2 < 0 ∨ 8 ≤ y2.toNatClampNeg then none else (if (q_chain y2.toNatClampNeg) ≤ y1 then (K5 y1 (y2 + 1) q_chain) else (K5 (q_chain y2.toNatClampNeg) (y2 + 1) q_chain))) else (if (S_MD_of y3 2) < 0 ∨ 37 ≤ (S_MD_of y3 2).toNatClampNeg then none else (if (S_MD_of y2 2) < 0 ∨ 37 ≤ (S_MD_of y2 2).toNatClampNeg then none else (if (q_s (S_MD_of y2 2).toNatClampNeg) < (q_s (S_MD_of y3 2).toNatClampNeg) then (S_MD_walls_L24 K5 y1 y2 q_s n24 (y3 + 1) q_chain) else (if y3 < 0 ∨ 8 ≤ y3.toNatClampNeg then none else (if y2 < 0 ∨ 8 ≤ y2.toNatClampNeg then none else (if ((q_chain y3.toNatClampNeg) + 1) ≤ (q_chain y2.toNatClampNeg) then (S_MD_walls_L24 K5 y1 y2 q_s n24 (y3 + 1) q_chain) else (S_MD_walls_L24 K5 y1 y2 q_s n24 (y3 + 1) (upd q_chain y2.toNatClampNeg ((q_chain y3.toNatClampNeg) + 1))))))))))
def S_MD_walls_L5 (q_s : Nat → Int32) : Nat → Int32 → Int32 → (Nat → Int32) → Option ((Int32) × (Nat → Int32))
  | 0, _, _, _ => none
  | n5 + 1, y1, y2, q_chain => (if (q_s (0 : Int32).toNatClampNeg) ≤ y2 then some (y1, q_chain) else (if y2 < 0 ∨ 8 ≤ y2.toNatClampNeg then none else (S_MD_walls_L24 (S_MD_walls_L5 q_s n5) y1 y2 q_s lfu 0 (upd q_chain y2.toNatClampNeg 1))))
def S_MD_walls (q_s : Nat → Int32) (q_chain : Nat → Int32) : Option ((Int32) × (Nat → Int32)) :=
  (S_MD_walls_L5 q_s lfu (-4) 0 q_chain)
def S_MD_balance_L21 (K4 : Int32 → Int32 → Option ((Int32))) (y1 : Int32) (y2 : Int32) (q_s : Nat → Int32) : Nat → Int32 → Int32 → Option ((Int32))
  | 0, _, _ => none
  | n21 + 1, y3, y4 => (if (q_s (0 : Int32).toNatClampNeg) ≤ y4 then (if y3 = 0 then ((S_MD_bits y2).bind (fun r70 => ((S_MD_bits y1).bind (fun r74 => (if r70 ≤ r74 then (K4 y1 (y2 + 1)) else (K4 y2 (y2 + 1))))))) else (K4 y1 (y2 + 1))) else (if (S_MD_has y2 y4) = 0 then (S_MD_balance_L21 K4 y1 y2 q_s n21 (y3 + 0) (y4 + 1)) else (if (S_MD_of y4 2) < 0 ∨ 37 ≤ (S_MD_of y4 2).toNatClampNeg then none else (S_MD_balance_L21 K4 y1 y2 q_s n21 (y3 + (q_s (S_MD_of y4 2).toNatClampNeg)) (y4 + 1)))))
def S_MD_balance_L4 (q_s : Nat → Int32) : Nat → Int32 → Int32 → Option ((Int32))
  | 0, _, _ => none
  | n4 + 1, y1, y2 => (if ((1 : Int32) <<< ((q_s (0 : Int32).toNatClampNeg) &&& 31)) ≤ y2 then some y1 else (S_MD_balance_L21 (S_MD_balance_L4 q_s n4) y1 y2 q_s lfu 0 0))
def S_MD_balance (q_s : Nat → Int32) : Option ((Int32)) :=
  (S_MD_balance_L4 q_s lfu 0 0)
def S_MD_right (x1 : Int32) (q_s : Nat → Int32) (q_chain : Nat → Int32) : Option ((Int32) × (Nat → Int32)) :=
  (if x1 = 0 then ((S_MD_rightOne q_s).bind (fun r5 => some (r5, q_chain))) else (if x1 = 1 then ((S_MD_walls q_s q_chain).bind (fun r17 => some (r17.1, r17.2))) else (if x1 = 2 then ((S_MD_balance q_s).bind (fun r29 => some (r29, q_chain))) else some ((-1), q_chain))))
def S_MD_leastOf (x0 : Int32) : (Int32) :=
  (if x0 = 0 then (-128) else (if x0 = 1 then (-32768) else (-2147483648)))
def S_MD_isTold (x1 : Int32) (x2 : Int32) (x3 : Int32) (q_sort : Nat → Int32) (q_element : Nat → Int32) : Option ((Int32)) :=
  (if (((100 : Int32) * x1) + x2) < 0 ∨ 800 ≤ (((100 : Int32) * x1) + x2).toNatClampNeg then none else (if x1 < 0 ∨ 8 ≤ x1.toNatClampNeg then none else (if (q_element (((100 : Int32) * x1) + x2).toNatClampNeg) = (S_MD_leastOf (q_sort x1.toNatClampNeg)) then some 1 else (if (q_element (((100 : Int32) * x1) + x2).toNatClampNeg) = x3 then some 1 else some 0))))
def S_MD_whatIs_L86 (K41 : Int32 → Int32 → (Nat → Int32) → Option ((Int32) × (Nat → Int32))) (x1 : Int32) (x2 : Int32) (y5 : Int32) (y6 : Int32) (q_sort : Nat → Int32) (q_size : Nat → Int32) (q_element : Nat → Int32) : Nat → Int32 → Int32 → (Nat → Int32) → Option ((Int32) × (Nat → Int32))
  | 0, _, _, _ => none
  | n86 + 1, y7, y8, q_m => (if x1 < 0 ∨ 8 ≤ x1.toNatClampNeg then none else (if (q_size x1.toNatClampNeg) ≤ y8 then (if y7 = 0 then (K41 (y5 ||| 0) (y6 + 1) q_m) else (K41 (y5 ||| ((1 : Int32) <<< (y6 &&& 31))) (y6 + 1) q_m)) else (if (S_MD_of x2 2) < 0 ∨ 37 ≤ (S_MD_of x2 2).toNatClampNeg then none else ((S_MD_isTold x1 y8 (q_m (S_MD_of x2 2).toNatClampNeg) q_sort q_element).bind (fun r113 => ((S_MD_day q_m).bind (fun r123 => (S_MD_whatIs_L86 K41 x1 x2 y5 y6 q_sort q_size q_element n86 (y7 &&& r113) (y8 + 1) r123))))))))
def S_MD_whatIs_J54 (K41 : Int32 → Int32 → (Nat → Int32) → Option ((Int32) × (Nat → Int32))) (x1 : Int32) (x2 : Int32) (x3 : Int32) (y5 : Int32) (y6 : Int32) (v0 : Int32) (v1 : Int32) (q_s : Nat → Int32) (q_sort : Nat → Int32) (q_size : Nat → Int32) (q_element : Nat → Int32) (q_m : Nat → Int32) : Option ((Int32) × (Nat → Int32)) :=
  (if v1 ≤ v0 then some (y5, q_m) else ((S_MD_copies q_s q_m).bind (fun r68 => (if (S_MD_of x2 x3) < 0 ∨ 37 ≤ (S_MD_of x2 x3).toNatClampNeg then none else (S_MD_whatIs_L86 K41 x1 x2 y5 y6 q_sort q_size q_element lfu 1 0 (upd r68 (S_MD_of x2 x3).toNatClampNeg y6))))))
def S_MD_whatIs_L41 (x1 : Int32) (x2 : Int32) (x3 : Int32) (q_s : Nat → Int32) (q_sort : Nat → Int32) (q_size : Nat → Int32) (q_element : Nat → Int32) : Nat → Int32 → Int32 → (Nat → Int32) → Option ((Int32) × (Nat → Int32))
  | 0, _, _, _ => none
  | n41 + 1, y5, y6, q_m => (if x3 = 0 then (S_MD_whatIs_J54 (S_MD_whatIs_L41 x1 x2 x3 q_s q_sort q_size q_element n41) x1 x2 x3 y5 y6 y6 8 q_s q_sort q_size q_element q_m) else (S_MD_whatIs_J54 (S_MD_whatIs_L41 x1 x2 x3 q_s q_sort q_size q_element n41) x1 x2 x3 y5 y6 y6 10 q_s q_sort q_size q_element q_m))
def S_MD_whatIs (x1 : Int32) (x2 : Int32) (x3 : Int32) (q_s : Nat → Int32) (q_m : Nat → Int32) (q_kept : Nat → Int32) (q_sort : Nat → Int32) (q_size : Nat → Int32) (q_element : Nat → Int32) : Option ((Int32) × (Nat → Int32)) :=
  ((S_MD_isMan x2 q_s).bind (fun r2 => (if r2 = 0 then some ((-1), q_m) else (if (S_MD_isIn x3 0 1) = 0 then some ((-1), q_m) else ((S_MD_wrongRow x1 (-1) q_kept q_sort).bind (fun r22 => (if r22 = 0 then (S_MD_whatIs_L41 x1 x2 x3 q_s q_sort q_size q_element lfu 0 0 q_m) else some (r22, q_m))))))))
def S_MD_hasHungSo_L28 (x1 : Int32) (q_sort : Nat → Int32) (q_size : Nat → Int32) (q_element : Nat → Int32) : Nat → Int32 → (Nat → Int32) → Option ((Int32) × (Nat → Int32))
  | 0, _, _ => none
  | n28 + 1, y4, q_m => (if x1 < 0 ∨ 8 ≤ x1.toNatClampNeg then none else (if (q_size x1.toNatClampNeg) ≤ y4 then some (1, q_m) else ((S_MD_isTold x1 y4 (q_m (2 : Int32).toNatClampNeg) q_sort q_element).bind (fun r49 => (if r49 = 0 then some (0, q_m) else ((S_MD_day q_m).bind (fun r61 => (S_MD_hasHungSo_L28 x1 q_sort q_size q_element n28 (y4 + 1) r61))))))))
def S_MD_hasHungSo (x1 : Int32) (x2 : Int32) (x3 : Int32) (q_s : Nat → Int32) (q_m : Nat → Int32) (q_sort : Nat → Int32) (q_size : Nat → Int32) (q_element : Nat → Int32) : Option ((Int32) × (Nat → Int32)) :=
  ((S_MD_copies q_s q_m).bind (fun r8 => (S_MD_hasHungSo_L28 x1 q_sort q_size q_element lfu 0 (upd (upd r8 (3 : Int32).toNatClampNeg x2) (2 : Int32).toNatClampNeg x3))))
def S_MD_whereHung_L38 (x1 : Int32) (x2 : Int32) (q_s : Nat → Int32) (q_sort : Nat → Int32) (q_size : Nat → Int32) (q_element : Nat → Int32) : Nat → Int32 → Int32 → Int32 → Int32 → (Nat → Int32) → Option ((Int32) × (Nat → Int32))
  | 0, _, _, _, _, _ => none
  | n38 + 1, y4, y5, y6, y7, q_m => (if 100 ≤ y7 then (if x2 = 0 then some (y4, q_m) else (if x2 = 1 then some (y5, q_m) else some (y6, q_m))) else (if 8 ≤ (y7 - y7 / 10 * 10) then (S_MD_whereHung_L38 x1 x2 q_s q_sort q_size q_element n38 y4 y5 y6 (y7 + 1) q_m) else ((S_MD_hasHungSo x1 (y7 / 10) (y7 - y7 / 10 * 10) q_s q_m q_sort q_size q_element).bind (fun r67 => (if r67.1 = 0 then (S_MD_whereHung_L38 x1 x2 q_s q_sort q_size q_element n38 y4 y5 y6 (y7 + 1) r67.2) else (if y4 = 0 then (S_MD_whereHung_L38 x1 x2 q_s q_sort q_size q_element n38 (y4 + 1) y7 y7 (y7 + 1) r67.2) else (S_MD_whereHung_L38 x1 x2 q_s q_sort q_size q_element n38 (y4 + 1) y5 y7 (y7 + 1) r67.2)))))))
def S_MD_whereHung (x1 : Int32) (x2 : Int32) (q_s : Nat → Int32) (q_m : Nat → Int32) (q_kept : Nat → Int32) (q_sort : Nat → Int32) (q_size : Nat → Int32) (q_element : Nat → Int32) : Option ((Int32) × (Nat → Int32)) :=
  (if (S_MD_isIn x2 0 2) = 0 then some ((-1), q_m) else ((S_MD_wrongRow x1 (-1) q_kept q_sort).bind (fun r14 => (if r14 = 0 then (S_MD_whereHung_L38 x1 x2 q_s q_sort q_size q_element lfu 0 (-4) (-4) 0 q_m) else some (r14, q_m)))))
def S_MD_hasBy_J81 (x1 : Int32) (x2 : Int32) (x3 : Int32) (x5 : Int32) (v0 : Int32) (q_m : Nat → Int32) : Option ((Int32) × (Nat → Int32)) :=
  (if x1 = x2 then some (((v0 - ((2 : Int32) * x3)) - (q_m (4 : Int32).toNatClampNeg)), q_m) else some (((v0 - ((2 : Int32) * x5)) - (q_m (4 : Int32).toNatClampNeg)), q_m))
def S_MD_hasBy_J52 (x1 : Int32) (x2 : Int32) (x3 : Int32) (x5 : Int32) (x6 : Int32) (q_m : Nat → Int32) : Option ((Int32) × (Nat → Int32)) :=
  ((S_MD_daysOn x6 q_m).bind (fun r58 => ((S_MD_upright r58).bind (fun r65 => (if (S_MD_has r65 x1) = 0 then (S_MD_hasBy_J81 x1 x2 x3 x5 0 r58) else (S_MD_hasBy_J81 x1 x2 x3 x5 6 r58))))))
def S_MD_hasBy_J34 (x1 : Int32) (x2 : Int32) (x3 : Int32) (x4 : Int32) (x5 : Int32) (x6 : Int32) (q_m : Nat → Int32) : Option ((Int32) × (Nat → Int32)) :=
  (if x5 = 1 then (if (S_MD_of x4 3) < 0 ∨ 37 ≤ (S_MD_of x4 3).toNatClampNeg then none else (S_MD_hasBy_J52 x1 x2 x3 x5 x6 (upd q_m (S_MD_of x4 3).toNatClampNeg 1))) else (S_MD_hasBy_J52 x1 x2 x3 x5 x6 q_m))
def S_MD_hasBy (x1 : Int32) (x2 : Int32) (x3 : Int32) (x4 : Int32) (x5 : Int32) (x6 : Int32) (q_s : Nat → Int32) (q_m : Nat → Int32) : Option ((Int32) × (Nat → Int32)) :=
  ((S_MD_copies q_s q_m).bind (fun r8 => (if x3 = 1 then (if (S_MD_of x2 3) < 0 ∨ 37 ≤ (S_MD_of x2 3).toNatClampNeg then none else (S_MD_hasBy_J34 x1 x2 x3 x4 x5 x6 (upd (upd r8 (4 : Int32).toNatClampNeg 0) (S_MD_of x2 3).toNatClampNeg 1))) else (S_MD_hasBy_J34 x1 x2 x3 x4 x5 x6 (upd r8 (4 : Int32).toNatClampNeg 0)))))
def S_MD_two_L24 (x1 : Int32) (x2 : Int32) (x3 : Int32) (q_s : Nat → Int32) : Nat → Int32 → (Nat → Int32) → Option ((Int32) × (Nat → Int32))
  | 0, _, _ => none
  | n24 + 1, y4, q_m => (if 4 ≤ y4 then some ((-4), q_m) else ((S_MD_hasBy x1 x1 ((1 : Int32) - (y4 / 2)) x2 (y4 - y4 / 2 * 2) x3 q_s q_m).bind (fun r53 => ((S_MD_hasBy x1 x1 (y4 / 2) x2 (y4 - y4 / 2 * 2) x3 q_s r53.2).bind (fun r65 => (if r65.1 < r53.1 then (S_MD_two_L24 x1 x2 x3 q_s n24 (y4 + 1) r65.2) else ((S_MD_hasBy x2 x1 (y4 / 2) x2 ((1 : Int32) - (y4 - y4 / 2 * 2)) x3 q_s r65.2).bind (fun r82 => ((S_MD_hasBy x2 x1 (y4 / 2) x2 (y4 - y4 / 2 * 2) x3 q_s r82.2).bind (fun r94 => (if r94.1 < r82.1 then (S_MD_two_L24 x1 x2 x3 q_s n24 (y4 + 1) r94.2) else some ((((10 : Int32) * (y4 / 2)) + (y4 - y4 / 2 * 2)), r94.2))))))))))))
def S_MD_two (x1 : Int32) (x2 : Int32) (x3 : Int32) (q_s : Nat → Int32) (q_m : Nat → Int32) : Option ((Int32) × (Nat → Int32)) :=
  ((S_MD_areTwo x1 x2 q_s).bind (fun r3 => (if r3 = 0 then some ((-1), q_m) else (if (S_MD_isIn x3 1 30) = 0 then some ((-1), q_m) else (S_MD_two_L24 x1 x2 x3 q_s lfu 0 q_m)))))
def S_MD_gcd_L6  : Nat → Int64 → Int64 → Option ((Int64))
  | 0, _, _ => none
  | n6 + 1, y4, y6 => (if (lg_cmp y6 0) = 0 then some y4 else (if y6 = 0 then none else (S_MD_gcd_L6 n6 y6 (y4 - y4 / y6 * y6))))
def S_MD_gcd (x0 : Int64) (x2 : Int64) : Option ((Int64)) :=
  (S_MD_gcd_L6 lfu x0 x2)
def S_MD_partOf (x0 : Int64) (x2 : Int64) (x4 : Int32) : Option ((Int64)) :=
  (if (lg_cmp x0 0) = 0 then some ((x4 : Int32).toInt64) else (if x4 = 0 then ((S_MD_gcd x0 x2).bind (fun r22 => (if r22 = 0 then none else some (x0 / r22)))) else ((S_MD_gcd x0 x2).bind (fun r22 => (if r22 = 0 then none else some (x2 / r22))))))
def S_MD_shocks_J124 (K98 : Int64 → Int32 → (Nat → Int32) → Option ((Int64) × (Nat → Int32))) (y12 : Int32) (y9 : Int32) (v0 : Int64) (v1 : Int64) (q_m : Nat → Int32) : Option ((Int64) × (Nat → Int32)) :=
  (if (S_MD_has y9 y12) = 0 then ((S_MD_day q_m).bind (fun r148 => (K98 (v0 * v1) (y12 + 1) r148))) else ((S_MD_turnsRound q_m).bind (fun r141 => ((S_MD_day r141).bind (fun r148 => (K98 (v0 * v1) (y12 + 1) r148))))))
def S_MD_shocks_L98 (K73 : Int64 → Int32 → (Nat → Int32) → Option ((Int64) × (Nat → Int32))) (x1 : Int32) (x2 : Int32) (x3 : Int32) (y5 : Int64) (y9 : Int32) : Nat → Int64 → Int32 → (Nat → Int32) → Option ((Int64) × (Nat → Int32))
  | 0, _, _, _ => none
  | n98 + 1, y10, y12, q_m => (if x2 ≤ y12 then ((S_MD_upright q_m).bind (fun r163 => (if (S_MD_has r163 x1) = 0 then (K73 (y5 + 0) (y9 + 1) q_m) else (K73 (y5 + y10) (y9 + 1) q_m)))) else (if (S_MD_has y9 y12) = 0 then (S_MD_shocks_J124 (S_MD_shocks_L98 K73 x1 x2 x3 y5 y9 n98) y12 y9 y10 ((x3 - 1) : Int32).toInt64 q_m) else (S_MD_shocks_J124 (S_MD_shocks_L98 K73 x1 x2 x3 y5 y9 n98) y12 y9 y10 1 q_m)))
def S_MD_shocks_L73 (x1 : Int32) (x2 : Int32) (x3 : Int32) (x4 : Int32) (y7 : Int64) (q_s : Nat → Int32) : Nat → Int64 → Int32 → (Nat → Int32) → Option ((Int64) × (Nat → Int32))
  | 0, _, _, _ => none
  | n73 + 1, y5, y9, q_m => (if ((1 : Int32) <<< (x2 &&& 31)) ≤ y9 then ((S_MD_partOf y5 y7 x4).bind (fun r194 => some (r194, q_m))) else ((S_MD_copies q_s q_m).bind (fun r92 => (S_MD_shocks_L98 (S_MD_shocks_L73 x1 x2 x3 x4 y7 q_s n73) x1 x2 x3 y5 y9 lfu 1 0 r92))))
def S_MD_shocks_L51 (x1 : Int32) (x2 : Int32) (x3 : Int32) (x4 : Int32) (y5 : Int64) (q_s : Nat → Int32) (q_m : Nat → Int32) : Nat → Int64 → Int32 → Option ((Int64) × (Nat → Int32))
  | 0, _, _ => none
  | n51 + 1, y7, y9 => (if x2 ≤ y9 then (S_MD_shocks_L73 x1 x2 x3 x4 y7 q_s lfu y5 0 q_m) else (S_MD_shocks_L51 x1 x2 x3 x4 y5 q_s q_m n51 (y7 * (x3 : Int32).toInt64) (y9 + 1)))
def S_MD_shocks (x1 : Int32) (x2 : Int32) (x3 : Int32) (x4 : Int32) (q_s : Nat → Int32) (q_m : Nat → Int32) : Option ((Int64) × (Nat → Int32)) :=
  ((S_MD_isMan x1 q_s).bind (fun r2 => (if r2 = 0 then some (1000000001, q_m) else (if (S_MD_isIn x2 0 7) = 0 then some (1000000001, q_m) else (if (S_MD_isIn x3 2 20) = 0 then some (1000000001, q_m) else (if (S_MD_isIn x4 0 1) = 0 then some (1000000001, q_m) else (S_MD_shocks_L51 x1 x2 x3 x4 0 q_s q_m lfu 1 0)))))))
def S_MD_mean (x1 : Int32) (q_s : Nat → Int32) : Option ((Int64)) :=
  (if (S_MD_isIn x1 0 1) = 0 then some 1000000001 else ((S_MD_leanSum q_s).bind (fun r13 => ((S_MD_partOf (((r13 + ((45 : Int32) * (q_s (0 : Int32).toNatClampNeg))) : Int32).toInt64) (((q_s (0 : Int32).toNatClampNeg) : Int32).toInt64) x1).bind (fun r35 => some r35)))))
def S_MD_forged_L15 (x1 : Int32) (q_s : Nat → Int32) (q_size : Nat → Int32) (q_element : Nat → Int32) : Nat → Int32 → Option ((Int32))
  | 0, _ => none
  | n15 + 1, y3 => (if x1 < 0 ∨ 8 ≤ x1.toNatClampNeg then none else (if (q_size x1.toNatClampNeg) ≤ y3 then some (-4) else ((S_MD_isMan y3 q_s).bind (fun r27 => (if r27 = 0 then some y3 else (if (((100 : Int32) * x1) + y3) < 0 ∨ 800 ≤ (((100 : Int32) * x1) + y3).toNatClampNeg then none else (if (S_MD_of y3 2) < 0 ∨ 37 ≤ (S_MD_of y3 2).toNatClampNeg then none else (if (q_element (((100 : Int32) * x1) + y3).toNatClampNeg) = (q_s (S_MD_of y3 2).toNatClampNeg) then (S_MD_forged_L15 x1 q_s q_size q_element n15 (y3 + 1)) else some y3))))))))
def S_MD_forged (x1 : Int32) (q_s : Nat → Int32) (q_kept : Nat → Int32) (q_sort : Nat → Int32) (q_size : Nat → Int32) (q_element : Nat → Int32) : Option ((Int32)) :=
  ((S_MD_wrongRow x1 (-1) q_kept q_sort).bind (fun r3 => (if r3 = 0 then (S_MD_forged_L15 x1 q_s q_size q_element lfu 0) else some r3)))
def S_MD_judge_L26 (x1 : Int32) (q_sort : Nat → Int32) (q_size : Nat → Int32) (q_element : Nat → Int32) : Nat → Int32 → (Nat → Int32) → Option ((Int32) × (Nat → Int32))
  | 0, _, _ => none
  | n26 + 1, y3, q_m => (if x1 < 0 ∨ 8 ≤ x1.toNatClampNeg then none else (if (q_size x1.toNatClampNeg) ≤ y3 then some ((-4), q_m) else ((S_MD_upright q_m).bind (fun r43 => ((S_MD_bits r43).bind (fun r46 => ((S_MD_isTold x1 y3 r46 q_sort q_element).bind (fun r49 => (if r49 = 0 then some (y3, q_m) else ((S_MD_day q_m).bind (fun r61 => (S_MD_judge_L26 x1 q_sort q_size q_element n26 (y3 + 1) r61))))))))))))
def S_MD_judge (x1 : Int32) (q_s : Nat → Int32) (q_m : Nat → Int32) (q_kept : Nat → Int32) (q_sort : Nat → Int32) (q_size : Nat → Int32) (q_element : Nat → Int32) : Option ((Int32) × (Nat → Int32)) :=
  ((S_MD_wrongRow x1 (-1) q_kept q_sort).bind (fun r3 => (if r3 = 0 then ((S_MD_copies q_s q_m).bind (fun r21 => (S_MD_judge_L26 x1 q_sort q_size q_element lfu 0 r21))) else some (r3, q_m))))
def S_MD_drawn (x1 : Int32) (q_seed : Int32) : Option ((Int32) × (Int32)) :=
  (if x1 = 0 then none else some ((((((q_seed * 1103515245) + 12345) &&& 2147483647) / 65536) - ((((q_seed * 1103515245) + 12345) &&& 2147483647) / 65536) / x1 * x1), ((q_seed * 1103515245) + 12345)))
def S_MD_years_L52 (K32 : Int32 → Int32 → Int32 → (Nat → Int32) → Option ((Int32) × (Int32) × (Nat → Int32))) (x3 : Int32) (y4 : Int32) (y5 : Int32) (q_s : Nat → Int32) : Nat → Int32 → Int32 → (Nat → Int32) → Option ((Int32) × (Int32) × (Nat → Int32))
  | 0, _, _, _ => none
  | n52 + 1, y6, q_seed, q_m => (if (q_s (0 : Int32).toNatClampNeg) ≤ y6 then ((S_MD_daysOn 12 q_m).bind (fun r95 => (if x3 = 0 then ((S_MD_upright r95).bind (fun r108 => ((S_MD_bits r108).bind (fun r111 => (K32 (y4 + r111) (y5 + 1) q_seed r95))))) else (K32 (y4 + ((r95 (4 : Int32).toNatClampNeg) - (q_s (4 : Int32).toNatClampNeg))) (y5 + 1) q_seed r95)))) else ((S_MD_drawn 91 q_seed).bind (fun r76 => (if (S_MD_of y6 2) < 0 ∨ 37 ≤ (S_MD_of y6 2).toNatClampNeg then none else (S_MD_years_L52 K32 x3 y4 y5 q_s n52 (y6 + 1) r76.2 (upd q_m (S_MD_of y6 2).toNatClampNeg (r76.1 - 45)))))))
def S_MD_years_L32 (x1 : Int32) (x3 : Int32) (q_s : Nat → Int32) : Nat → Int32 → Int32 → Int32 → (Nat → Int32) → Option ((Int32) × (Int32) × (Nat → Int32))
  | 0, _, _, _, _ => none
  | n32 + 1, y4, y5, q_seed, q_m => (if x1 ≤ y5 then some (y4, q_seed, q_m) else ((S_MD_copies q_s q_m).bind (fun r46 => (S_MD_years_L52 (S_MD_years_L32 x1 x3 q_s n32) x3 y4 y5 q_s lfu 0 q_seed r46))))
def S_MD_years (x1 : Int32) (x2 : Int32) (x3 : Int32) (q_seed : Int32) (q_s : Nat → Int32) (q_m : Nat → Int32) : Option ((Int32) × (Int32) × (Nat → Int32)) :=
  (if (S_MD_isIn x1 1 20) = 0 then some ((-1), q_seed, q_m) else (if (S_MD_isIn x3 0 1) = 0 then some ((-1), q_seed, q_m) else (S_MD_years_L32 x1 x3 q_s lfu 0 0 x2 q_m)))
def S_MD_image (q_hasImage : Int32) (q_s : Nat → Int32) (q_image : Nat → Int32) : Option ((Int32) × (Int32) × (Nat → Int32)) :=
  ((S_MD_copies q_s q_image).bind (fun r8 => some ((q_s (1 : Int32).toNatClampNeg), 1, r8)))
def S_MD_restore (q_hasImage : Int32) (q_s : Nat → Int32) (q_image : Nat → Int32) : Option ((Int32) × (Nat → Int32)) :=
  (if q_hasImage = 0 then some ((-3), q_s) else ((S_MD_copies q_image q_s).bind (fun r18 => some ((r18 (1 : Int32).toNatClampNeg), r18))))
def S_MD_count_L41 (q_s : Nat → Int32) : Nat → Int32 → Int32 → Option ((Int32))
  | 0, _, _ => none
  | n41 + 1, y2, y3 => (if (q_s (0 : Int32).toNatClampNeg) ≤ y3 then some y2 else (if (S_MD_of y3 3) < 0 ∨ 37 ≤ (S_MD_of y3 3).toNatClampNeg then none else (S_MD_count_L41 q_s n41 (y2 ||| ((q_s (S_MD_of y3 3).toNatClampNeg) <<< (y3 &&& 31))) (y3 + 1))))
def S_MD_count (x1 : Int32) (q_s : Nat → Int32) : Option ((Int32)) :=
  (if (S_MD_isIn x1 0 4) = 0 then (if x1 = 5 then ((S_MD_upright q_s).bind (fun r25 => some r25)) else (if x1 = 6 then (S_MD_count_L41 q_s lfu 0 0) else some (-1))) else (if x1 < 0 ∨ 37 ≤ x1.toNatClampNeg then none else some (q_s x1.toNatClampNeg)))
def S_MD_thrown (q_thrown : Int32) : (Int32) :=
  q_thrown
def S_MD_keep_J44 (x1 : Int32) (x2 : Int32) (x3 : Int32) (x4 : Int32) (q_kept : Nat → Int32) (q_keptKind : Nat → Int32) (q_keptFigure : Nat → Int32) : Option ((Int32) × (Nat → Int32) × (Nat → Int32) × (Nat → Int32)) :=
  (if x1 < 0 ∨ 8 ≤ x1.toNatClampNeg then none else some (0, (upd q_kept x1.toNatClampNeg x2), (upd q_keptKind x1.toNatClampNeg x3), (upd q_keptFigure x1.toNatClampNeg x4)))
def S_MD_keep (x1 : Int32) (x2 : Int32) (x3 : Int32) (x4 : Int32) (q_kept : Nat → Int32) (q_keptKind : Nat → Int32) (q_keptFigure : Nat → Int32) : Option ((Int32) × (Nat → Int32) × (Nat → Int32) × (Nat → Int32)) :=
  ((S_MD_isShelf x1).bind (fun r1 => (if r1 = 0 then some ((-1), q_kept, q_keptKind, q_keptFigure) else (if (S_MD_isIn x2 0 1) = 0 then some ((-1), q_kept, q_keptKind, q_keptFigure) else (if x2 = 1 then (if (S_MD_isIn x3 0 7) = 0 then some ((-1), q_kept, q_keptKind, q_keptFigure) else (if (S_MD_isIn x4 0 9) = 0 then some ((-1), q_kept, q_keptKind, q_keptFigure) else (S_MD_keep_J44 x1 x2 x3 x4 q_kept q_keptKind q_keptFigure))) else (S_MD_keep_J44 x1 x2 x3 x4 q_kept q_keptKind q_keptFigure))))))
def S_MD_row_L55 (x1 : Int32) (q_kept : Nat → Int32) (q_sort : Nat → Int32) (q_size : Nat → Int32) : Nat → Int32 → (Nat → Int32) → Option ((Int32) × (Nat → Int32) × (Nat → Int32) × (Nat → Int32) × (Nat → Int32))
  | 0, _, _ => none
  | n55 + 1, y4, q_element => (if 100 ≤ y4 then some (0, q_kept, q_sort, q_size, q_element) else (if (((100 : Int32) * x1) + y4) < 0 ∨ 800 ≤ (((100 : Int32) * x1) + y4).toNatClampNeg then none else (S_MD_row_L55 x1 q_kept q_sort q_size n55 (y4 + 1) (upd q_element (((100 : Int32) * x1) + y4).toNatClampNeg 0))))
def S_MD_row (x1 : Int32) (x2 : Int32) (x3 : Int32) (q_kept : Nat → Int32) (q_sort : Nat → Int32) (q_size : Nat → Int32) (q_element : Nat → Int32) : Option ((Int32) × (Nat → Int32) × (Nat → Int32) × (Nat → Int32) × (Nat → Int32)) :=
  ((S_MD_isShelf x1).bind (fun r1 => (if r1 = 0 then some ((-1), q_kept, q_sort, q_size, q_element) else (if (S_MD_isIn x2 0 2) = 0 then some ((-1), q_kept, q_sort, q_size, q_element) else (if x3 ≤ 100 then (if 0 ≤ x3 then (if x1 < 0 ∨ 8 ≤ x1.toNatClampNeg then none else (S_MD_row_L55 x1 (upd q_kept x1.toNatClampNeg 2) (upd q_sort x1.toNatClampNeg x2) (upd q_size x1.toNatClampNeg x3) lfu 0 q_element)) else some ((-14), q_kept, q_sort, q_size, q_element)) else some ((-1), q_kept, q_sort, q_size, q_element))))))
def S_MD_put (x1 : Int32) (x2 : Int32) (x3 : Int32) (q_kept : Nat → Int32) (q_sort : Nat → Int32) (q_size : Nat → Int32) (q_element : Nat → Int32) : Option ((Int32) × (Nat → Int32)) :=
  ((S_MD_wrongRow x1 (-1) q_kept q_sort).bind (fun r3 => (if r3 = 0 then (if x1 < 0 ∨ 8 ≤ x1.toNatClampNeg then none else (if (S_MD_isIn x2 0 ((q_size x1.toNatClampNeg) - 1)) = 0 then some ((-13), q_element) else (if (q_sort x1.toNatClampNeg) = 0 then (if (((100 : Int32) * x1) + x2) < 0 ∨ 800 ≤ (((100 : Int32) * x1) + x2).toNatClampNeg then none else some (0, (upd q_element (((100 : Int32) * x1) + x2).toNatClampNeg (x3 : Int32).toInt8.toInt32))) else (if (q_sort x1.toNatClampNeg) = 1 then (if (((100 : Int32) * x1) + x2) < 0 ∨ 800 ≤ (((100 : Int32) * x1) + x2).toNatClampNeg then none else some (0, (upd q_element (((100 : Int32) * x1) + x2).toNatClampNeg (x3 : Int32).toInt16.toInt32))) else (if (((100 : Int32) * x1) + x2) < 0 ∨ 800 ≤ (((100 : Int32) * x1) + x2).toNatClampNeg then none else some (0, (upd q_element (((100 : Int32) * x1) + x2).toNatClampNeg x3))))))) else some (r3, q_element))))
def S_MD_element_J43 (x1 : Int32) (x2 : Int32) (v1 : Int32) (q_element : Nat → Int32) : Option ((Int64) × (Int32)) :=
  (if v1 = 0 then (if (((100 : Int32) * x1) + x2) < 0 ∨ 800 ≤ (((100 : Int32) * x1) + x2).toNatClampNeg then none else some (((q_element (((100 : Int32) * x1) + x2).toNatClampNeg) : Int32).toInt64, v1)) else some (0, v1))
def S_MD_element_J38 (x1 : Int32) (x2 : Int32) (q_element : Nat → Int32) : Option ((Int64) × (Int32)) :=
  (S_MD_element_J43 x1 x2 2 q_element)
def S_MD_element (x1 : Int32) (x2 : Int32) (q_thrown : Int32) (q_kept : Nat → Int32) (q_size : Nat → Int32) (q_element : Nat → Int32) : Option ((Int64) × (Int32)) :=
  ((S_MD_isShelf x1).bind (fun r2 => (if r2 = 0 then (S_MD_element_J43 x1 x2 1 q_element) else (if x1 < 0 ∨ 8 ≤ x1.toNatClampNeg then none else (if (q_kept x1.toNatClampNeg) = 2 then (if (S_MD_isIn x2 0 ((q_size x1.toNatClampNeg) - 1)) = 0 then (S_MD_element_J38 x1 x2 q_element) else (S_MD_element_J43 x1 x2 0 q_element)) else (S_MD_element_J38 x1 x2 q_element))))))
def S_MD_copy_J147 (K122 : Int32 → (Nat → Int32) → Option ((Int32) × (Nat → Int32))) (x1 : Int32) (x2 : Int32) (x3 : Int32) (x4 : Int32) (y6 : Int32) (v0 : Int32) (q_element : Nat → Int32) : Option ((Int32) × (Nat → Int32)) :=
  (if ((((100 : Int32) * x1) + x2) + v0) < 0 ∨ 800 ≤ ((((100 : Int32) * x1) + x2) + v0).toNatClampNeg then none else (if ((((100 : Int32) * x3) + x4) + v0) < 0 ∨ 800 ≤ ((((100 : Int32) * x3) + x4) + v0).toNatClampNeg then none else (K122 (y6 + 1) (upd q_element ((((100 : Int32) * x3) + x4) + v0).toNatClampNeg (q_element ((((100 : Int32) * x1) + x2) + v0).toNatClampNeg)))))
def S_MD_copy_L122 (x1 : Int32) (x2 : Int32) (x3 : Int32) (x4 : Int32) (x5 : Int32) : Nat → Int32 → (Nat → Int32) → Option ((Int32) × (Nat → Int32))
  | 0, _, _ => none
  | n122 + 1, y6, q_element => (if x5 ≤ y6 then some (x5, q_element) else (if x2 ≤ x4 then (S_MD_copy_J147 (S_MD_copy_L122 x1 x2 x3 x4 x5 n122) x1 x2 x3 x4 y6 ((x5 - 1) - y6) q_element) else (S_MD_copy_J147 (S_MD_copy_L122 x1 x2 x3 x4 x5 n122) x1 x2 x3 x4 y6 y6 q_element)))
def S_MD_copy (x1 : Int32) (x2 : Int32) (x3 : Int32) (x4 : Int32) (x5 : Int32) (q_kept : Nat → Int32) (q_sort : Nat → Int32) (q_size : Nat → Int32) (q_element : Nat → Int32) : Option ((Int32) × (Nat → Int32)) :=
  ((S_MD_isShelf x1).bind (fun r1 => (if r1 = 0 then some ((-1), q_element) else ((S_MD_isShelf x3).bind (fun r8 => (if r8 = 0 then some ((-1), q_element) else (if x1 < 0 ∨ 8 ≤ x1.toNatClampNeg then none else (if (q_kept x1.toNatClampNeg) = 0 then some ((-11), q_element) else (if x3 < 0 ∨ 8 ≤ x3.toNatClampNeg then none else (if (q_kept x3.toNatClampNeg) = 0 then some ((-11), q_element) else (if (q_kept x1.toNatClampNeg) = 2 then (if (q_kept x3.toNatClampNeg) = 2 then (if (q_sort x1.toNatClampNeg) = (q_sort x3.toNatClampNeg) then (if x5 < 0 then some ((-13), q_element) else (if x2 < 0 then some ((-13), q_element) else (if x4 < 0 then some ((-13), q_element) else (if ((q_size x1.toNatClampNeg) - x2) < x5 then some ((-13), q_element) else (if x5 ≤ ((q_size x3.toNatClampNeg) - x4) then (S_MD_copy_L122 x1 x2 x3 x4 x5 lfu 0 q_element) else some ((-13), q_element)))))) else some ((-12), q_element)) else some ((-12), q_element)) else some ((-12), q_element))))))))))))
def S_MD_costBy (x0 : Int32) (x1 : Int32) : (Int32) :=
  (if x0 = 1 then ((3 : Int32) + x1) else (if x0 = 2 then 1 else (if x0 = 3 then 2 else (if x0 = 4 then ((2 : Int32) * ((3 : Int32) + x1)) else (if x0 = 5 then 0 else (if x0 = 6 then ((2 : Int32) * ((3 : Int32) + x1)) else (if x0 = 7 then 6 else 3)))))))
def S_MD_cost (x1 : Int32) (q_kept : Nat → Int32) (q_keptKind : Nat → Int32) (q_keptFigure : Nat → Int32) : Option ((Int32)) :=
  ((S_MD_wrongKept x1 q_kept).bind (fun r2 => (if r2 = 0 then (if x1 < 0 ∨ 8 ≤ x1.toNatClampNeg then none else some (S_MD_costBy (q_keptKind x1.toNatClampNeg) (q_keptFigure x1.toNatClampNeg))) else some r2)))
