set_option maxHeartbeats 4000000 in
set_option maxRecDepth 100000 in
theorem law_loop {p : Program} {l : Launch} {e : Env} {s : State} {m : MethodId} {below : List Frame} {meth : Method} {c : Code} {b L : Nat} {xs : Nat → Int32} {D : va_G} {cI cM cS cJ : ClassId} {aV aN aS aT aW aM aK : Nat → Nat} {aH : Nat → Nat → Nat} {aR : Nat → Nat} {aO : Nat} (C : lwC p s m c b L xs D cI cM cS cJ) (hL : L ≤ 3072) (hfl : l.stackTraces = false) (hX9 : kXs (fun q : Nat => s.heap.size ≤ q) s s.heap) (hT9 : kXt s) (hr : meth.sig.returnType = ret) (hlocks : meth.locks = false) : ∀ (n i : Nat), L < i + n → i ≤ L → ∀ {v_hasImage : Int32} {nS : CS} {sS : CS} {tS : CS} {mS : CS} {w_gains : Nat → Int32} {w_othersGains : Nat → Int32} {w_before : Nat → Int32} {h_kind : Nat → Int32} {h_figure : Nat → Int32} {h_sort : Nat → Int32} {h_size : Nat → Int32} {h_held : Nat → Int32} {h_el : Nat → Nat → Int32} {q_hasImage : Int32} {q_place : Int32} {q_rowAt : Int32} {q_rowEnd : Int32} {q_seed : Int32} {q_thrown : Int32} {q_s : Nat → Int32} {q_m : Nat → Int32} {q_was : Nat → Int32} {q_image : Nat → Int32} {q_numbers : Nat → Int32} {q_chain : Nat → Int32} {q_kept : Nat → Int32} {q_keptKind : Nat → Int32} {q_keptFigure : Nat → Int32} {q_sort : Nat → Int32} {q_size : Nat → Int32} {q_element : Nat → Int32} {g : Nat → Int64} {H : Heap} {locs : List Loc} {cells slots : Nat} {ls : Array Slot}, va_P D vwCl (WL cI cM cS cJ aV aN aS aT aW aM aK aH aR aO v_hasImage nS sS tS mS w_gains w_othersGains w_before h_kind h_figure h_sort h_size h_held h_el q_hasImage q_place q_rowAt q_rowEnd q_seed q_thrown q_s q_m q_was q_image q_numbers q_chain q_kept q_keptKind q_keptFigure q_sort q_size q_element g) H → va_D (fun q : Nat => s.heap.size ≤ q) (WL cI cM cS cJ aV aN aS aT aW aM aK aH aR aO v_hasImage nS sS tS mS w_gains w_othersGains w_before h_kind h_figure h_sort h_size h_held h_el q_hasImage q_place q_rowAt q_rowEnd q_seed q_thrown q_s q_m q_was q_image q_numbers q_chain q_kept q_keptKind q_keptFigure q_sort q_size q_element g) → va_S (fun q : Nat => s.heap.size ≤ q) s.heap H locs → lv_has ls 8 [(0, .ref b), (1, .ref (aV 0)), (2, .ref (aR 0)), (3, .ref aO), (4, .int (nI i))] → cells ≤ 100 + i ∧ slots ≤ 3000 + i → (LR v_hasImage nS sS h_kind h_figure h_sort h_size h_held h_el q_hasImage q_s q_image q_kept q_keptKind q_keptFigure q_sort q_size q_element) → W p l e room_1 s m #[Value.ref b] below meth c H locs cells slots (lw_Z below #[Value.ref b] s) (F0 m 23 ls []) := by
  intro n
  induction n with
  | zero =>
    intro i h1 h2
    exact absurd h1 (by omega)
  | succ n ih =>
    intro i h1 h2 v_hasImage nS sS tS mS w_gains w_othersGains w_before h_kind h_figure h_sort h_size h_held h_el q_hasImage q_place q_rowAt q_rowEnd q_seed q_thrown q_s q_m q_was q_image q_numbers q_chain q_kept q_keptKind q_keptFigure q_sort q_size q_element g H locs cells slots ls hP hD hS hl hcs hR
    obtain ⟨hx, hb, hml, hown, hts, hK, hN, hX, hbl⟩ := id C
    refine lv_iload hx hb dL_law_23 (lv_at hl 4 rfl) ?_
    refine lv_aload_n hx hb dL_law_25 rfl (lv_at hl 0 rfl) ?_
    refine va_slen hx hb hX hbl (A := (fun q : Nat => s.heap.size ≤ q)) (Nat.not_le.mpr hbl) hS dL_law_26 ?_
    refine lv_bipush (v := 6) hx hb dL_law_27 (by decide) ?_
    refine lv_isub hx hb dL_law_29 ?_
    have e6 : Int32.ofNat L - 6 = iI ((L : Int) - 6) := by
      rw [show Int32.ofNat L = nI L from rfl, nI_iI, c_6, iI_sub]
    refine lv_icmp_gt (tgt := 1450) hx hb dL_law_30 (by decide) (fun _ => ?_) (fun h30 => ?_)
    · refine lv_iconst (v := 1) hx hb dL_law_1450 (by decide) ?_
      refine va_forget (fun q hq => hS.2.2 q hq) ?_
      refine W.widen (k := 601024) (n := 7293034) (by omega) (by omega) ?_
      exact lw_ret hx hb hr hlocks dL_law_1451
    · have hi : i + 6 ≤ L := by
        rw [e6, nI_iI, iI_lt (by omega) (by omega) (by omega) (by omega)] at h30
        omega
      have N : lwN p l e s m below meth c b D cI cM cS cJ aV aN aS aT aW aM aK aH aR aO (lw_Z below #[Value.ref b] s) i := by
        intro v_hasImage' nS' sS' tS' mS' w_gains' w_othersGains' w_before' h_kind' h_figure' h_sort' h_size' h_held' h_el' q_hasImage' q_place' q_rowAt' q_rowEnd' q_seed' q_thrown' q_s' q_m' q_was' q_image' q_numbers' q_chain' q_kept' q_keptKind' q_keptFigure' q_sort' q_size' q_element' g' H' locs' cells' slots' ls' hP' hD' hS' hl' hcs' hR'
        refine lv_iinc (v := nI (i + 6)) (lv' := [(4, .int (nI (i + 6))), (0, .ref b), (1, .ref (aV 0)), (2, .ref (aR 0)), (3, .ref aO)]) hx hb dL_law_1444 hl' (k := 4) rfl (nI_add i 6) (by decide) rfl (fun ls2 hl2 => ?_)
        refine lv_goto (tgt := 23) hx hb dL_law_1447 (by decide) ?_
        exact ih (i + 6) (by omega) hi hP' hD' hS' (lv_sub hl2 [1, 2, 3, 4, 0] rfl) hcs' hR'
      refine lv_aload_n hx hb dL_law_33 rfl (lv_at hl 0 rfl) ?_
      refine lv_iload hx hb dL_law_34 (lv_at hl 4 rfl) ?_
      refine va_sld hx hb hX hbl (A := (fun q : Nat => s.heap.size ≤ q)) (Nat.not_le.mpr hbl) hS (vp_in_nI (by omega) (by omega)) dL_law_36 ?_
      refine lv_bipush (v := 63) hx hb dL_law_37 (by decide) ?_
      refine lv_iand hx hb dL_law_39 ?_
      obtain ⟨w, hw⟩ := iI_nat (xs (nI i).toNatClampNeg)
      have hw2 : xs (nI i).toNatClampNeg &&& 63 = iI ((w &&& 63 : Nat) : Int) := by
        rw [hw, c_63]
        exact b_andd w 63
      have hw3 : w &&& 63 ≤ 63 := Nat.and_le_right
      rw [hw2]
      generalize w &&& 63 = k at hw3 ⊢
      by_cases k0 : k = 0
      · subst k0
        exact lv_tableIn (tgt := 200) hx hb dL_law_40 (by decide +kernel) (by decide +kernel) (off := 160) (by decide +kernel) (by decide) (lc_city C hL hi hcs hP hD hS hl hR N)
      by_cases k1 : k = 1
      · subst k1
        exact lv_tableIn (tgt := 225) hx hb dL_law_40 (by decide +kernel) (by decide +kernel) (off := 185) (by decide +kernel) (by decide) (lc_lean C hL hi hcs hP hD hS hl hR N)
      by_cases k2 : k = 2
      · subst k2
        exact lv_tableIn (tgt := 250) hx hb dL_law_40 (by decide +kernel) (by decide +kernel) (off := 210) (by decide +kernel) (by decide) (lc_man C hL hi hcs hP hD hS hl hR N)
      by_cases k3 : k = 3
      · subst k3
        exact lv_tableIn (tgt := 287) hx hb dL_law_40 (by decide +kernel) (by decide +kernel) (off := 247) (by decide +kernel) (by decide) (lc_comes C hL hi hcs hP hD hS hl hR N)
      by_cases k4 : k = 4
      · subst k4
        exact lv_tableIn (tgt := 324) hx hb dL_law_40 (by decide +kernel) (by decide +kernel) (off := 284) (by decide +kernel) (by decide) (lc_pushes C hL hi hcs hP hD hS hl hR N)
      by_cases k5 : k = 5
      · subst k5
        exact lv_tableIn (tgt := 361) hx hb dL_law_40 (by decide +kernel) (by decide +kernel) (off := 321) (by decide +kernel) (by decide) (lc_props C hL hi hcs hP hD hS hl hR N)
      by_cases k6 : k = 6
      · subst k6
        exact lv_tableIn (tgt := 386) hx hb dL_law_40 (by decide +kernel) (by decide +kernel) (off := 346) (by decide +kernel) (by decide) (lc_hangs C hL hi hcs hP hD hS hl hR N)
      by_cases k7 : k = 7
      · subst k7
        exact lv_tableIn (tgt := 423) hx hb dL_law_40 (by decide +kernel) (by decide +kernel) (off := 383) (by decide +kernel) (by decide) (lc_days C hL hi hcs hP hD hS hl hR N)
      by_cases k8 : k = 8
      · subst k8
        exact lv_tableIn (tgt := 448) hx hb dL_law_40 (by decide +kernel) (by decide +kernel) (off := 408) (by decide +kernel) (by decide) (lc_leanThen C hL hi hcs hP hD hS hl hR N)
      by_cases k9 : k = 9
      · subst k9
        exact lv_tableIn (tgt := 485) hx hb dL_law_40 (by decide +kernel) (by decide +kernel) (off := 445) (by decide +kernel) (by decide) (lc_then C hL hi hcs hP hD hS hl hR N)
      by_cases k10 : k = 10
      · subst k10
        exact lv_tableIn (tgt := 522) hx hb dL_law_40 (by decide +kernel) (by decide +kernel) (off := 482) (by decide +kernel) (by decide) (lc_straight C hL hi hcs hP hD hS hl hR N)
      by_cases k11 : k = 11
      · subst k11
        exact lv_tableIn (tgt := 547) hx hb dL_law_40 (by decide +kernel) (by decide +kernel) (off := 507) (by decide +kernel) (by decide) (lc_crash C hL hi hcs hP hD hS hl hR N)
      by_cases k12 : k = 12
      · subst k12
        exact lv_tableIn (tgt := 572) hx hb dL_law_40 (by decide +kernel) (by decide +kernel) (off := 532) (by decide +kernel) (by decide) (lc_finds C hL hi hcs hP hD hS hl hR N)
      by_cases k13 : k = 13
      · subst k13
        exact lv_tableIn (tgt := 597) hx hb dL_law_40 (by decide +kernel) (by decide +kernel) (off := 557) (by decide +kernel) (by decide) (lc_trust C hL hi hcs hP hD hS hl hR N)
      by_cases k14 : k = 14
      · subst k14
        exact lv_tableIn (tgt := 622) hx hb dL_law_40 (by decide +kernel) (by decide +kernel) (off := 582) (by decide +kernel) (by decide) (lc_tells C hL hi hcs hP hD hS hl hR N)
      by_cases k15 : k = 15
      · subst k15
        exact lv_tableIn (tgt := 647) hx hb dL_law_40 (by decide +kernel) (by decide +kernel) (off := 607) (by decide +kernel) (by decide) (lc_fewestProps C hL hi hcs hP hD hS hl hR N)
      by_cases k16 : k = 16
      · subst k16
        exact lv_tableIn (tgt := 672) hx hb dL_law_40 (by decide +kernel) (by decide +kernel) (off := 632) (by decide +kernel) (by decide) (lc_push C hL hi hcs hP hD hS hl hR N)
      by_cases k17 : k = 17
      · subst k17
        exact lv_tableIn (tgt := 697) hx hb dL_law_40 (by decide +kernel) (by decide +kernel) (off := 657) (by decide +kernel) (by decide) (lc_right C hL hi hcs hP hD hS hl hR N)
      by_cases k18 : k = 18
      · subst k18
        exact lv_tableIn (tgt := 722) hx hb dL_law_40 (by decide +kernel) (by decide +kernel) (off := 682) (by decide +kernel) (by decide) (lc_whatIs C hL hi hcs hP hD hS hl hR N)
      by_cases k19 : k = 19
      · subst k19
        exact lv_tableIn (tgt := 771) hx hb dL_law_40 (by decide +kernel) (by decide +kernel) (off := 731) (by decide +kernel) (by decide) (lc_whereHung C hL hi hcs hP hD hS hl hR N)
      by_cases k20 : k = 20
      · subst k20
        exact lv_tableIn (tgt := 808) hx hb dL_law_40 (by decide +kernel) (by decide +kernel) (off := 768) (by decide +kernel) (by decide) (lc_two C hL hi hcs hP hD hS hl hR N)
      by_cases k21 : k = 21
      · subst k21
        exact lv_tableIn (tgt := 857) hx hb dL_law_40 (by decide +kernel) (by decide +kernel) (off := 817) (by decide +kernel) (by decide) (lc_shocks C hL hi hcs hP hD hS hl hR N)
      by_cases k22 : k = 22
      · subst k22
        exact lv_tableIn (tgt := 919) hx hb dL_law_40 (by decide +kernel) (by decide +kernel) (off := 879) (by decide +kernel) (by decide) (lc_mean C hL hi hcs hP hD hS hl hR N)
      by_cases k23 : k = 23
      · subst k23
        exact lv_tableIn (tgt := 945) hx hb dL_law_40 (by decide +kernel) (by decide +kernel) (off := 905) (by decide +kernel) (by decide) (lc_forged C hL hi hcs hP hD hS hl hR N)
      by_cases k24 : k = 24
      · subst k24
        exact lv_tableIn (tgt := 970) hx hb dL_law_40 (by decide +kernel) (by decide +kernel) (off := 930) (by decide +kernel) (by decide) (lc_judge C hL hi hcs hP hD hS hl hR N)
      by_cases k25 : k = 25
      · subst k25
        exact lv_tableIn (tgt := 995) hx hb dL_law_40 (by decide +kernel) (by decide +kernel) (off := 955) (by decide +kernel) (by decide) (lc_years C hL hi hcs hP hD hS hl hR N)
      by_cases k26 : k = 26
      · subst k26
        exact lv_tableIn (tgt := 1044) hx hb dL_law_40 (by decide +kernel) (by decide +kernel) (off := 1004) (by decide +kernel) (by decide) (lc_image C hL hi hcs hP hD hS hl hR N)
      by_cases k27 : k = 27
      · subst k27
        exact lv_tableIn (tgt := 1057) hx hb dL_law_40 (by decide +kernel) (by decide +kernel) (off := 1017) (by decide +kernel) (by decide) (lc_restore C hL hi hcs hP hD hS hl hR N)
      by_cases k28 : k = 28
      · subst k28
        exact lv_tableIn (tgt := 1070) hx hb dL_law_40 (by decide +kernel) (by decide +kernel) (off := 1030) (by decide +kernel) (by decide) (lc_count C hL hi hcs hP hD hS hl hR N)
      by_cases k29 : k = 29
      · subst k29
        exact lv_tableIn (tgt := 1095) hx hb dL_law_40 (by decide +kernel) (by decide +kernel) (off := 1055) (by decide +kernel) (by decide) (lc_keep C hL hi hcs hP hD hS hl hR N)
      by_cases k30 : k = 30
      · subst k30
        exact lv_tableIn (tgt := 1156) hx hb dL_law_40 (by decide +kernel) (by decide +kernel) (off := 1116) (by decide +kernel) (by decide) (lc_row C hL hi hcs hP hD hS hl hR N)
      by_cases k31 : k = 31
      · subst k31
        exact lv_tableIn (tgt := 1205) hx hb dL_law_40 (by decide +kernel) (by decide +kernel) (off := 1165) (by decide +kernel) (by decide) (lc_put C hL hi hcs hP hD hS hl hR N)
      by_cases k32 : k = 32
      · subst k32
        exact lv_tableIn (tgt := 1254) hx hb dL_law_40 (by decide +kernel) (by decide +kernel) (off := 1214) (by decide +kernel) (by decide) (lc_element C hL hi hcs hP hD hS hl hR N hfl hX9 hT9)
      by_cases k33 : k = 33
      · subst k33
        exact lv_tableIn (tgt := 1321) hx hb dL_law_40 (by decide +kernel) (by decide +kernel) (off := 1281) (by decide +kernel) (by decide) (lc_copy C hL hi hcs hP hD hS hl hR N)
      by_cases k34 : k = 34
      · subst k34
        exact lv_tableIn (tgt := 1394) hx hb dL_law_40 (by decide +kernel) (by decide +kernel) (off := 1354) (by decide +kernel) (by decide) (lc_cost C hL hi hcs hP hD hS hl hR N)
      by_cases k35 : k = 35
      · subst k35
        exact lv_tableIn (tgt := 1419) hx hb dL_law_40 (by decide +kernel) (by decide +kernel) (off := 1379) (by decide +kernel) (by decide) (lc_toss C hL hi hcs hP hD hS hl hR N hfl hX9 hT9)
      exact lv_tableOut (tgt := 1444) hx hb dL_law_40 (Or.inr (by rw [iI_toInt (by omega) (by omega)]; omega)) (by decide) (N hP hD hS hl (by omega) hR)
