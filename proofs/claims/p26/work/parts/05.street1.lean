def pX1_coverAt (a1 : Int32) (x : SR) : Int32 := if (pX2_has (x.1 2) a1) = 0 then if (pX2_has (x.1 1) a1) = 0 then 0
    else 1
  else 2
set_option maxHeartbeats 4000000 in
set_option maxRecDepth 100000 in
theorem ctX1_coverAt (l : Launch) (G : va_G) (cI cC cZ cR : ClassId) (h : Ad) (x : SR) (a1 : Int32) : Ct l yX1_coverAt wsX1_coverAt (rmz 1 21) G (TY cI cC cZ cR) [.ref (h 0), .int a1] (wSt cI h x) (Qi G (wSt cI h x) (pX1_coverAt a1 x) (wSt cI h x)) := by
  refine Ct.ofI (cc := cX1_coverAt) (maxL := 2) (ret := (some .int)) (by decide) rfl rfl ?_
  intro p e s m below meth c A ls E0 hP hD hS hl
  obtain ⟨hx, hb, hr, hml, hlocks, hts, hown, hK, hN, hA⟩ := E0
  have hl : lv_has ls 2 [(0, .ref (h 0)), (1, .int a1)] := hl
  have hin : ∀ w ∈ wsX10, w ∈ wsX1_coverAt := fun w hw => List.mem_cons_of_mem _ (List.mem_append_right _ (hw))
  have k_22 : (Cond.fieldLink RX1 22 RX1 (TX1 3).2.1 (TX1 3).2.2.1).before ([.ref (h 0), .int a1] : List Value).toArray s = true := hts _ (List.mem_of_getElem? (i := 1) rfl)
  have k_19 : (Cond.fieldLink RX1 19 RX1 (TX1 2).2.1 (TX1 2).2.2.1).before ([.ref (h 0), .int a1] : List Value).toArray s = true := hts _ (List.mem_of_getElem? (i := 2) rfl)
  generalize hres : pX1_coverAt a1 x = res
  refine lv_aload_n hx hb dX1_coverAt_0 rfl (lv_at hl 0 rfl) ?_
  refine md_get (ci := 1) (C := RX1) (T := TX1) (N := 18) (v := .int (x.1 2)) hx hb hts hin hown hK hP rfl 3 (by decide) k_22 rfl rfl rfl dX1_coverAt_1 ?_
  refine lv_iload_n hx hb dX1_coverAt_4 rfl (lv_at hl 1 rfl) ?_
  refine gn_i hP hS hA (rn_SN (As := [.int (x.1 2), .int a1]) (rest := []) ⟨hx, hb, hml, hown, hts⟩ (ctX2_has l G cI cC cZ cR (x.1 2) a1) ⟨va_cnB 2 hts gX1_coverAt_X2_has_n87 rfl rfl rfl (NWs.nw hN 28 rfl) (hts _ (List.mem_of_getElem? (i := 4) rfl)) (by decide +kernel) ⟨Nat.le_of_ble_eq_true rfl, Nat.le_of_ble_eq_true rfl⟩, hts _ (List.mem_of_getElem? (i := 3) rfl), trivial⟩ hK nilP (nilD (A := A)) hN rfl hl.1 rfl (Nat.le_of_ble_eq_true rfl) dX1_coverAt_5) (fun H locs hP hS => ?_)
  refine lv_if_eq (tgt := 13) hx hb dX1_coverAt_8 (by decide) (fun c_1 => ?_) (fun c_1 => ?_)
  · refine lv_aload_n hx hb dX1_coverAt_13 rfl (lv_at hl 0 rfl) ?_
    refine md_get (ci := 1) (C := RX1) (T := TX1) (N := 18) (v := .int (x.1 1)) hx hb hts hin hown hK hP rfl 2 (by decide) k_19 rfl rfl rfl dX1_coverAt_14 ?_
    refine lv_iload_n hx hb dX1_coverAt_17 rfl (lv_at hl 1 rfl) ?_
    refine gn_i hP hS hA (rn_SN (As := [.int (x.1 1), .int a1]) (rest := []) ⟨hx, hb, hml, hown, hts⟩ (ctX2_has l G cI cC cZ cR (x.1 1) a1) ⟨va_cnB 2 hts gX1_coverAt_X2_has_n87 rfl rfl rfl (NWs.nw hN 28 rfl) (hts _ (List.mem_of_getElem? (i := 4) rfl)) (by decide +kernel) ⟨Nat.le_of_ble_eq_true rfl, Nat.le_of_ble_eq_true rfl⟩, hts _ (List.mem_of_getElem? (i := 3) rfl), trivial⟩ hK nilP (nilD (A := A)) hN rfl hl.1 rfl (Nat.le_of_ble_eq_true rfl) dX1_coverAt_18) (fun H locs hP hS => ?_)
    refine lv_if_eq (tgt := 28) hx hb dX1_coverAt_21 (by decide) (fun c_2 => ?_) (fun c_2 => ?_)
    · refine lv_iconst (v := 0) hx hb dX1_coverAt_28 (by decide) ?_
      exact rt_r hx hb hr hlocks hP hD hS rfl ((show pX1_coverAt a1 x = 0 by rw [pX1_coverAt, if_pos c_1, if_pos c_2]).symm.trans hres |>.symm) dX1_coverAt_29
    · refine lv_iconst (v := 1) hx hb dX1_coverAt_24 (by decide) ?_
      refine lv_goto (tgt := 29) hx hb dX1_coverAt_25 (by decide) ?_
      exact rt_r hx hb hr hlocks hP hD hS rfl ((show pX1_coverAt a1 x = 1 by rw [pX1_coverAt, if_pos c_1, if_neg c_2]).symm.trans hres |>.symm) dX1_coverAt_29
  · refine lv_iconst (v := 2) hx hb dX1_coverAt_11 (by decide) ?_
    exact rt_r hx hb hr hlocks hP hD hS rfl ((show pX1_coverAt a1 x = 2 by rw [pX1_coverAt, if_neg c_1]).symm.trans hres |>.symm) dX1_coverAt_12
def pX1_keepersAt_L4 (a1 : Int32) : Nat → Int32 → Int32 → SR → Int32
  | 0, v2, v3, x => 0
  | n + 1, v2, v3, x => if (x.1 3) ≤ v3 then v2
    else if 4 < v3 then v2
      else if (x.2 5 (ix v3)) = a1 then pX1_keepersAt_L4 a1 n (v2 + 1) (v3 + 1) x
        else pX1_keepersAt_L4 a1 n v2 (v3 + 1) x
def pX1_keepersAt (a1 : Int32) (x : SR) : Int32 := pX1_keepersAt_L4 a1 6 0 0 x
set_option maxHeartbeats 4000000 in
set_option maxRecDepth 100000 in
theorem ctX1_keepersAt (l : Launch) (G : va_G) (cI cC cZ cR : ClassId) (h : Ad) (x : SR) (a1 : Int32) : Ct l yX1_keepersAt wsX1_keepersAt (rmz 0 0) G (TY cI cC cZ cR) [.ref (h 0), .int a1] (wSt cI h x) (Qi G (wSt cI h x) (pX1_keepersAt a1 x) (wSt cI h x)) := by
  refine Ct.ofI (cc := cX1_keepersAt) (maxL := 4) (ret := (some .int)) (by decide) rfl rfl ?_
  intro p e s m below meth c A ls E0 hP hD hS hl
  obtain ⟨hx, hb, hr, hml, hlocks, hts, hown, hK, hN, hA⟩ := E0
  have hl : lv_has ls 4 [(0, .ref (h 0)), (1, .int a1)] := hl
  have hin : ∀ w ∈ wsX10, w ∈ wsX1_keepersAt := fun w hw => List.mem_cons_of_mem _ (List.mem_append_right _ (hw))
  have k_37 : (Cond.fieldLink RX1 37 RX1 (TX1 8).2.1 (TX1 8).2.2.1).before ([.ref (h 0), .int a1] : List Value).toArray s = true := hts _ (List.mem_of_getElem? (i := 1) rfl)
  have k_40 : (Cond.fieldLink RX1 40 RX1 (TX1 9).2.1 (TX1 9).2.2.1).before ([.ref (h 0), .int a1] : List Value).toArray s = true := hts _ (List.mem_of_getElem? (i := 2) rfl)
  generalize hres : pX1_keepersAt a1 x = res
  have lp_4 : ∀ (n : Nat) (v2 : Int32) (v3 : Int32), 0 ≤ Int32.toInt v3 → Int32.toInt v3 ≤ 5 → 5 - Int32.toInt v3 < (n : Int) → pX1_keepersAt_L4 a1 n v2 v3 x = res → ∀ (H : Heap) (locs : List Loc) (ls : Array Slot), va_P G vwCl (wSt cI h x) H → va_D A (wSt cI h x) → va_S A s.heap H locs → lv_has ls 4 [(0, .ref (h 0)), (1, .int a1), (2, .int v2), (3, .int v3)] → W p l e (rmz 0 0) s m ([.ref (h 0), .int a1] : List Value).toArray below meth c H locs 0 0 (MQ below (QiA G A res (wSt cI h x)) ([.ref (h 0), .int a1] : List Value).toArray s 0 0 A) (F0 m 4 ls []) := by
    intro n
    induction n with
    | zero =>
      intro v2 v3 g_0 g_1 hm
      exfalso; omega
    | succ n ih =>
      intro v2 v3 g_0 g_1 hm hq H locs ls hP hD hS hl
      refine lv_iload_n hx hb dX1_keepersAt_4 rfl (lv_at hl 3 rfl) ?_
      refine lv_aload_n hx hb dX1_keepersAt_5 rfl (lv_at hl 0 rfl) ?_
      refine md_get (ci := 1) (C := RX1) (T := TX1) (N := 18) (v := .int (x.1 3)) hx hb hts hin hown hK hP rfl 8 (by decide) k_37 rfl rfl rfl dX1_keepersAt_6 ?_
      refine lv_icmp_ge (tgt := 36) hx hb dX1_keepersAt_9 (by decide) (fun c_1 => ?_) (fun c_1 => ?_)
      · have t_1 := i_le (z := (Int32.toInt (x.1 3))) (w := (Int32.toInt v3)) c_1 rfl rfl
        refine lv_iload_n hx hb dX1_keepersAt_36 rfl (lv_at hl 2 rfl) ?_
        exact rt_r hx hb hr hlocks hP hD hS rfl ((show pX1_keepersAt_L4 a1 (n + 1) v2 v3 x = v2 by rw [pX1_keepersAt_L4, if_pos c_1]).symm.trans hq |>.symm) dX1_keepersAt_37
      · have t_1 := i_nle (z := (Int32.toInt (x.1 3))) (w := (Int32.toInt v3)) c_1 rfl rfl
        refine lv_iload_n hx hb dX1_keepersAt_12 rfl (lv_at hl 3 rfl) ?_
        refine lv_iconst (v := 4) hx hb dX1_keepersAt_13 (by decide) ?_
        refine lv_icmp_gt (tgt := 36) hx hb dX1_keepersAt_14 (by decide) (fun c_2 => ?_) (fun c_2 => ?_)
        · have t_2 := i_lt (z := (4)) (w := (Int32.toInt v3)) c_2 (by decide) rfl
          refine lv_iload_n hx hb dX1_keepersAt_36 rfl (lv_at hl 2 rfl) ?_
          exact rt_r hx hb hr hlocks hP hD hS rfl ((show pX1_keepersAt_L4 a1 (n + 1) v2 v3 x = v2 by rw [pX1_keepersAt_L4, if_neg c_1, if_pos c_2]).symm.trans hq |>.symm) dX1_keepersAt_37
        · have t_2 := i_nlt (z := (4)) (w := (Int32.toInt v3)) c_2 (by decide) rfl
          refine lv_aload_n hx hb dX1_keepersAt_17 rfl (lv_at hl 0 rfl) ?_
          refine md_get (ci := 1) (C := RX1) (T := TX1) (N := 18) (v := .ref (h 6)) hx hb hts hin hown hK hP rfl 9 (by decide) k_40 rfl rfl rfl dX1_keepersAt_18 ?_
          refine lv_iload_n hx hb dX1_keepersAt_21 rfl (lv_at hl 3 rfl) ?_
          refine md_ia (v := x.2 5 (ix v3)) hx hb hK hP 5 0 rfl rfl (by first | assumption | decide | exact vp_in_iff.mpr ⟨by omega, by omega⟩ | exact isPlace_in (by assumption) | exact has_in (by assumption)) rfl dX1_keepersAt_22 ?_
          refine lv_iload_n hx hb dX1_keepersAt_23 rfl (lv_at hl 1 rfl) ?_
          refine lv_icmp_ne (tgt := 30) hx hb dX1_keepersAt_24 (by decide) (fun c_3 => ?_) (fun c_3 => ?_)
          · refine lv_iinc (v := (v3 + 1)) (lv' := [(3, .int (v3 + 1)), (0, .ref (h 0)), (1, .int a1), (2, .int v2)]) hx hb dX1_keepersAt_30 hl (k := 3) rfl rfl (by decide) rfl (fun ls hl => ?_)
            have a_30 := i_add1 (a := v3) (by omega) (by omega)
            refine lv_goto (tgt := 4) hx hb dX1_keepersAt_33 (by decide) ?_
            exact ih v2 (v3 + 1) (by omega) (by omega) (by omega) ((show pX1_keepersAt_L4 a1 (n + 1) v2 v3 x = pX1_keepersAt_L4 a1 n v2 (v3 + 1) x by rw [pX1_keepersAt_L4, if_neg c_1, if_neg c_2, if_neg c_3]).symm.trans hq) _ _ _ hP hD hS (lv_sub hl [1, 2, 3, 0] rfl)
          · refine lv_iinc (v := (v2 + 1)) (lv' := [(2, .int (v2 + 1)), (0, .ref (h 0)), (1, .int a1), (3, .int v3)]) hx hb dX1_keepersAt_27 hl (k := 2) rfl rfl (by decide) rfl (fun ls hl => ?_)
            refine lv_iinc (v := (v3 + 1)) (lv' := [(3, .int (v3 + 1)), (2, .int (v2 + 1)), (0, .ref (h 0)), (1, .int a1)]) hx hb dX1_keepersAt_30 hl (k := 3) rfl rfl (by decide) rfl (fun ls hl => ?_)
            have a_30 := i_add1 (a := v3) (by omega) (by omega)
            refine lv_goto (tgt := 4) hx hb dX1_keepersAt_33 (by decide) ?_
            exact ih (v2 + 1) (v3 + 1) (by omega) (by omega) (by omega) ((show pX1_keepersAt_L4 a1 (n + 1) v2 v3 x = pX1_keepersAt_L4 a1 n (v2 + 1) (v3 + 1) x by rw [pX1_keepersAt_L4, if_neg c_1, if_neg c_2, if_pos c_3]).symm.trans hq) _ _ _ hP hD hS (lv_sub hl [2, 3, 1, 0] rfl)
  refine lv_iconst (v := 0) hx hb dX1_keepersAt_0 (by decide) ?_
  refine lv_istore_n (lv' := [(2, .int 0), (0, .ref (h 0)), (1, .int a1)]) hx hb dX1_keepersAt_1 rfl hl (by decide) rfl (fun ls hl => ?_)
  refine lv_iconst (v := 0) hx hb dX1_keepersAt_2 (by decide) ?_
  refine lv_istore_n (lv' := [(3, .int 0), (2, .int 0), (0, .ref (h 0)), (1, .int a1)]) hx hb dX1_keepersAt_3 rfl hl (by decide) rfl (fun ls hl => ?_)
  exact lp_4 6 0 0 (by first | decide | omega | assumption) (by first | decide | omega | assumption) (by decide) ((show pX1_keepersAt a1 x = pX1_keepersAt_L4 a1 6 0 0 x by rw [pX1_keepersAt]).symm.trans hres) _ _ _ hP hD hS (lv_sub hl [2, 3, 1, 0] rfl)
def pX1_rainsAfter (a1 : Int32) (x : SR) : Int32 := if ((ush (x.1 4) (((x.1 5) + a1) - ((x.1 5) + a1) / 24 * 24)) &&& 1) = 1 then 1
  else 0
set_option maxHeartbeats 4000000 in
set_option maxRecDepth 100000 in
theorem ctX1_rainsAfter (l : Launch) (G : va_G) (cI cC cZ cR : ClassId) (h : Ad) (x : SR) (a1 : Int32) : Ct l yX1_rainsAfter wsX1_rainsAfter (rmz 0 0) G (TY cI cC cZ cR) [.ref (h 0), .int a1] (wSt cI h x) (Qi G (wSt cI h x) (pX1_rainsAfter a1 x) (wSt cI h x)) := by
  refine Ct.ofI (cc := cX1_rainsAfter) (maxL := 2) (ret := (some .boolean)) (by decide) rfl rfl ?_
  intro p e s m below meth c A ls E0 hP hD hS hl
  obtain ⟨hx, hb, hr, hml, hlocks, hts, hown, hK, hN, hA⟩ := E0
  have hl : lv_has ls 2 [(0, .ref (h 0)), (1, .int a1)] := hl
  have hin : ∀ w ∈ wsX10, w ∈ wsX1_rainsAfter := fun w hw => List.mem_cons_of_mem _ (List.mem_append_right _ (hw))
  have k_55 : (Cond.fieldLink RX1 55 RX1 (TX1 14).2.1 (TX1 14).2.2.1).before ([.ref (h 0), .int a1] : List Value).toArray s = true := hts _ (List.mem_of_getElem? (i := 1) rfl)
  have k_58 : (Cond.fieldLink RX1 58 RX1 (TX1 15).2.1 (TX1 15).2.2.1).before ([.ref (h 0), .int a1] : List Value).toArray s = true := hts _ (List.mem_of_getElem? (i := 2) rfl)
  generalize hres : pX1_rainsAfter a1 x = res
  refine lv_aload_n hx hb dX1_rainsAfter_0 rfl (lv_at hl 0 rfl) ?_
  refine md_get (ci := 1) (C := RX1) (T := TX1) (N := 18) (v := .int (x.1 4)) hx hb hts hin hown hK hP rfl 14 (by decide) k_55 rfl rfl rfl dX1_rainsAfter_1 ?_
  refine lv_aload_n hx hb dX1_rainsAfter_4 rfl (lv_at hl 0 rfl) ?_
  refine md_get (ci := 1) (C := RX1) (T := TX1) (N := 18) (v := .int (x.1 5)) hx hb hts hin hown hK hP rfl 15 (by decide) k_58 rfl rfl rfl dX1_rainsAfter_5 ?_
  refine lv_iload_n hx hb dX1_rainsAfter_8 rfl (lv_at hl 1 rfl) ?_
  refine lv_iadd hx hb dX1_rainsAfter_9 ?_
  refine lv_bipush (v := 24) hx hb dX1_rainsAfter_10 (by decide) ?_
  refine lv_irem hx hb dX1_rainsAfter_12 (by decide) ?_
  refine lv_iushr (v := (ush (x.1 4) (((x.1 5) + a1) - ((x.1 5) + a1) / 24 * 24))) hx hb dX1_rainsAfter_13 rfl ?_
  refine lv_iconst (v := 1) hx hb dX1_rainsAfter_14 (by decide) ?_
  refine lv_iand hx hb dX1_rainsAfter_15 ?_
  refine lv_iconst (v := 1) hx hb dX1_rainsAfter_16 (by decide) ?_
  refine lv_icmp_ne (tgt := 24) hx hb dX1_rainsAfter_17 (by decide) (fun c_1 => ?_) (fun c_1 => ?_)
  · refine lv_iconst (v := 0) hx hb dX1_rainsAfter_24 (by decide) ?_
    exact rt_r hx hb hr hlocks hP hD hS rfl ((show pX1_rainsAfter a1 x = 0 by rw [pX1_rainsAfter, if_neg c_1]).symm.trans hres |>.symm) dX1_rainsAfter_25
  · refine lv_iconst (v := 1) hx hb dX1_rainsAfter_20 (by decide) ?_
    refine lv_goto (tgt := 25) hx hb dX1_rainsAfter_21 (by decide) ?_
    exact rt_r hx hb hr hlocks hP hD hS rfl ((show pX1_rainsAfter a1 x = 1 by rw [pX1_rainsAfter, if_pos c_1]).symm.trans hres |>.symm) dX1_rainsAfter_25
def pX1_hoursUntilRain_L2 : Nat → Int32 → SR → Int32
  | 0, v1, x => 0
  | n + 1, v1, x => if 24 ≤ v1 then (-6)
    else if (pX1_rainsAfter v1 x) = 0 then pX1_hoursUntilRain_L2 n (v1 + 1) x
      else v1
def pX1_hoursUntilRain (x : SR) : Int32 := pX1_hoursUntilRain_L2 25 0 x
set_option maxHeartbeats 4000000 in
set_option maxRecDepth 100000 in
theorem ctX1_hoursUntilRain (l : Launch) (G : va_G) (cI cC cZ cR : ClassId) (h : Ad) (x : SR) : Ct l yX1_hoursUntilRain wsX1_hoursUntilRain (rmz 1 21) G (TY cI cC cZ cR) [.ref (h 0)] (wSt cI h x) (Qi G (wSt cI h x) (pX1_hoursUntilRain x) (wSt cI h x)) := by
  refine Ct.ofI (cc := cX1_hoursUntilRain) (maxL := 2) (ret := (some .int)) (by decide) rfl rfl ?_
  intro p e s m below meth c A ls E0 hP hD hS hl
  obtain ⟨hx, hb, hr, hml, hlocks, hts, hown, hK, hN, hA⟩ := E0
  have hl : lv_has ls 2 [(0, .ref (h 0))] := hl
  have hin : ∀ w ∈ wsX10, w ∈ wsX1_hoursUntilRain := fun w hw => List.mem_cons_of_mem _ (List.mem_append_right _ (hw))
  generalize hres : pX1_hoursUntilRain x = res
  have lp_2 : ∀ (n : Nat) (v1 : Int32), 0 ≤ Int32.toInt v1 → Int32.toInt v1 ≤ 24 → 24 - Int32.toInt v1 < (n : Int) → pX1_hoursUntilRain_L2 n v1 x = res → ∀ (H : Heap) (locs : List Loc) (ls : Array Slot), va_P G vwCl (wSt cI h x) H → va_D A (wSt cI h x) → va_S A s.heap H locs → lv_has ls 2 [(0, .ref (h 0)), (1, .int v1)] → W p l e (rmz 1 21) s m ([.ref (h 0)] : List Value).toArray below meth c H locs 0 0 (MQ below (QiA G A res (wSt cI h x)) ([.ref (h 0)] : List Value).toArray s 0 0 A) (F0 m 2 ls []) := by
    intro n
    induction n with
    | zero =>
      intro v1 g_0 g_1 hm
      exfalso; omega
    | succ n ih =>
      intro v1 g_0 g_1 hm hq H locs ls hP hD hS hl
      refine lv_iload_n hx hb dX1_hoursUntilRain_2 rfl (lv_at hl 1 rfl) ?_
      refine lv_bipush (v := 24) hx hb dX1_hoursUntilRain_3 (by decide) ?_
      refine lv_icmp_ge (tgt := 24) hx hb dX1_hoursUntilRain_5 (by decide) (fun c_1 => ?_) (fun c_1 => ?_)
      · have t_1 := i_le (z := (24)) (w := (Int32.toInt v1)) c_1 (by decide) rfl
        refine lv_bipush (v := (-6)) hx hb dX1_hoursUntilRain_24 (by decide) ?_
        exact rt_r hx hb hr hlocks hP hD hS rfl ((show pX1_hoursUntilRain_L2 (n + 1) v1 x = (-6) by rw [pX1_hoursUntilRain_L2, if_pos c_1]).symm.trans hq |>.symm) dX1_hoursUntilRain_26
      · have t_1 := i_nle (z := (24)) (w := (Int32.toInt v1)) c_1 (by decide) rfl
        refine lv_aload_n hx hb dX1_hoursUntilRain_8 rfl (lv_at hl 0 rfl) ?_
        refine lv_iload_n hx hb dX1_hoursUntilRain_9 rfl (lv_at hl 1 rfl) ?_
        refine go_i hD hS hA (rn_V (As := [.int v1]) (rest := []) ⟨hx, hb, hml, hown, hts⟩ (ctX1_rainsAfter l G cI cC cZ cR h x v1) (cwV 1 hts gX1_hoursUntilRain_X1_rainsAfter rfl rfl rfl (by decide +kernel) ⟨Nat.le_of_ble_eq_true rfl, Nat.le_of_ble_eq_true rfl⟩) (md_recv hK hP rfl) hK hP hD hN rfl hl.1 rfl (Nat.le_of_ble_eq_true rfl) dX1_hoursUntilRain_10) (fun H locs hP hD hS => ?_)
        refine lv_if_eq (tgt := 18) hx hb dX1_hoursUntilRain_13 (by decide) (fun c_2 => ?_) (fun c_2 => ?_)
        · refine lv_iinc (v := (v1 + 1)) (lv' := [(1, .int (v1 + 1)), (0, .ref (h 0))]) hx hb dX1_hoursUntilRain_18 hl (k := 1) rfl rfl (by decide) rfl (fun ls hl => ?_)
          have a_18 := i_add1 (a := v1) (by omega) (by omega)
          refine lv_goto (tgt := 2) hx hb dX1_hoursUntilRain_21 (by decide) ?_
          exact ih (v1 + 1) (by omega) (by omega) (by omega) ((show pX1_hoursUntilRain_L2 (n + 1) v1 x = pX1_hoursUntilRain_L2 n (v1 + 1) x by rw [pX1_hoursUntilRain_L2, if_neg c_1, if_pos c_2]).symm.trans hq) _ _ _ hP hD hS (lv_sub hl [1, 0] rfl)
        · refine lv_iload_n hx hb dX1_hoursUntilRain_16 rfl (lv_at hl 1 rfl) ?_
          exact rt_r hx hb hr hlocks hP hD hS rfl ((show pX1_hoursUntilRain_L2 (n + 1) v1 x = v1 by rw [pX1_hoursUntilRain_L2, if_neg c_1, if_neg c_2]).symm.trans hq |>.symm) dX1_hoursUntilRain_17
  refine lv_iconst (v := 0) hx hb dX1_hoursUntilRain_0 (by decide) ?_
  refine lv_istore_n (lv' := [(1, .int 0), (0, .ref (h 0))]) hx hb dX1_hoursUntilRain_1 rfl hl (by decide) rfl (fun ls hl => ?_)
  exact lp_2 25 0 (by first | decide | omega | assumption) (by first | decide | omega | assumption) (by decide) ((show pX1_hoursUntilRain x = pX1_hoursUntilRain_L2 25 0 x by rw [pX1_hoursUntilRain]).symm.trans hres) _ _ _ hP hD hS (lv_sub hl [1, 0] rfl)
def pX1_rainIsAhead_L2 : Nat → Int32 → SR → Int32
  | 0, v1, x => 0
  | n + 1, v1, x => if (x.2 0 (ix 0)) < v1 then 0
    else if 24 ≤ v1 then 0
      else if (pX1_rainsAfter v1 x) = 0 then pX1_rainIsAhead_L2 n (v1 + 1) x
        else 1
def pX1_rainIsAhead (x : SR) : Int32 := pX1_rainIsAhead_L2 25 0 x
set_option maxHeartbeats 4000000 in
set_option maxRecDepth 100000 in
theorem ctX1_rainIsAhead (l : Launch) (G : va_G) (cI cC cZ cR : ClassId) (h : Ad) (x : SR) : Ct l yX1_rainIsAhead wsX1_rainIsAhead (rmz 1 21) G (TY cI cC cZ cR) [.ref (h 0)] (wSt cI h x) (Qi G (wSt cI h x) (pX1_rainIsAhead x) (wSt cI h x)) := by
  refine Ct.ofI (cc := cX1_rainIsAhead) (maxL := 2) (ret := (some .boolean)) (by decide) rfl rfl ?_
  intro p e s m below meth c A ls E0 hP hD hS hl
  obtain ⟨hx, hb, hr, hml, hlocks, hts, hown, hK, hN, hA⟩ := E0
  have hl : lv_has ls 2 [(0, .ref (h 0))] := hl
  have hin : ∀ w ∈ wsX10, w ∈ wsX1_rainIsAhead := fun w hw => List.mem_cons_of_mem _ (List.mem_append_right _ (hw))
  have k_9 : (Cond.fieldLink RX1 9 RX1 (TX1 0).2.1 (TX1 0).2.2.1).before ([.ref (h 0)] : List Value).toArray s = true := hts _ (List.mem_of_getElem? (i := 1) rfl)
  generalize hres : pX1_rainIsAhead x = res
  have lp_2 : ∀ (n : Nat) (v1 : Int32), 0 ≤ Int32.toInt v1 → Int32.toInt v1 ≤ 24 → 24 - Int32.toInt v1 < (n : Int) → pX1_rainIsAhead_L2 n v1 x = res → ∀ (H : Heap) (locs : List Loc) (ls : Array Slot), va_P G vwCl (wSt cI h x) H → va_D A (wSt cI h x) → va_S A s.heap H locs → lv_has ls 2 [(0, .ref (h 0)), (1, .int v1)] → W p l e (rmz 1 21) s m ([.ref (h 0)] : List Value).toArray below meth c H locs 0 0 (MQ below (QiA G A res (wSt cI h x)) ([.ref (h 0)] : List Value).toArray s 0 0 A) (F0 m 2 ls []) := by
    intro n
    induction n with
    | zero =>
      intro v1 g_0 g_1 hm
      exfalso; omega
    | succ n ih =>
      intro v1 g_0 g_1 hm hq H locs ls hP hD hS hl
      refine lv_iload_n hx hb dX1_rainIsAhead_2 rfl (lv_at hl 1 rfl) ?_
      refine lv_aload_n hx hb dX1_rainIsAhead_3 rfl (lv_at hl 0 rfl) ?_
      refine md_get (ci := 1) (C := RX1) (T := TX1) (N := 18) (v := .ref (h 1)) hx hb hts hin hown hK hP rfl 0 (by decide) k_9 rfl rfl rfl dX1_rainIsAhead_4 ?_
      refine lv_iconst (v := 0) hx hb dX1_rainIsAhead_7 (by decide) ?_
      refine md_ia (v := x.2 0 (ix 0)) hx hb hK hP 0 0 rfl rfl (vp_in_iff.mpr ⟨by decide, by decide⟩) rfl dX1_rainIsAhead_8 ?_
      refine lv_icmp_gt (tgt := 34) hx hb dX1_rainIsAhead_9 (by decide) (fun c_1 => ?_) (fun c_1 => ?_)
      · have t_1 := i_lt (z := (Int32.toInt (x.2 0 (ix 0)))) (w := (Int32.toInt v1)) c_1 rfl rfl
        refine lv_iconst (v := 0) hx hb dX1_rainIsAhead_34 (by decide) ?_
        exact rt_r hx hb hr hlocks hP hD hS rfl ((show pX1_rainIsAhead_L2 (n + 1) v1 x = 0 by rw [pX1_rainIsAhead_L2, if_pos c_1]).symm.trans hq |>.symm) dX1_rainIsAhead_35
      · have t_1 := i_nlt (z := (Int32.toInt (x.2 0 (ix 0)))) (w := (Int32.toInt v1)) c_1 rfl rfl
        refine lv_iload_n hx hb dX1_rainIsAhead_12 rfl (lv_at hl 1 rfl) ?_
        refine lv_bipush (v := 24) hx hb dX1_rainIsAhead_13 (by decide) ?_
        refine lv_icmp_ge (tgt := 34) hx hb dX1_rainIsAhead_15 (by decide) (fun c_2 => ?_) (fun c_2 => ?_)
        · have t_2 := i_le (z := (24)) (w := (Int32.toInt v1)) c_2 (by decide) rfl
          refine lv_iconst (v := 0) hx hb dX1_rainIsAhead_34 (by decide) ?_
          exact rt_r hx hb hr hlocks hP hD hS rfl ((show pX1_rainIsAhead_L2 (n + 1) v1 x = 0 by rw [pX1_rainIsAhead_L2, if_neg c_1, if_pos c_2]).symm.trans hq |>.symm) dX1_rainIsAhead_35
        · have t_2 := i_nle (z := (24)) (w := (Int32.toInt v1)) c_2 (by decide) rfl
          refine lv_aload_n hx hb dX1_rainIsAhead_18 rfl (lv_at hl 0 rfl) ?_
          refine lv_iload_n hx hb dX1_rainIsAhead_19 rfl (lv_at hl 1 rfl) ?_
          refine go_i hD hS hA (rn_V (As := [.int v1]) (rest := []) ⟨hx, hb, hml, hown, hts⟩ (ctX1_rainsAfter l G cI cC cZ cR h x v1) (cwV 1 hts gX1_rainIsAhead_X1_rainsAfter rfl rfl rfl (by decide +kernel) ⟨Nat.le_of_ble_eq_true rfl, Nat.le_of_ble_eq_true rfl⟩) (md_recv hK hP rfl) hK hP hD hN rfl hl.1 rfl (Nat.le_of_ble_eq_true rfl) dX1_rainIsAhead_20) (fun H locs hP hD hS => ?_)
          refine lv_if_eq (tgt := 28) hx hb dX1_rainIsAhead_23 (by decide) (fun c_3 => ?_) (fun c_3 => ?_)
          · refine lv_iinc (v := (v1 + 1)) (lv' := [(1, .int (v1 + 1)), (0, .ref (h 0))]) hx hb dX1_rainIsAhead_28 hl (k := 1) rfl rfl (by decide) rfl (fun ls hl => ?_)
            have a_28 := i_add1 (a := v1) (by omega) (by omega)
            refine lv_goto (tgt := 2) hx hb dX1_rainIsAhead_31 (by decide) ?_
            exact ih (v1 + 1) (by omega) (by omega) (by omega) ((show pX1_rainIsAhead_L2 (n + 1) v1 x = pX1_rainIsAhead_L2 n (v1 + 1) x by rw [pX1_rainIsAhead_L2, if_neg c_1, if_neg c_2, if_pos c_3]).symm.trans hq) _ _ _ hP hD hS (lv_sub hl [1, 0] rfl)
          · refine lv_iconst (v := 1) hx hb dX1_rainIsAhead_26 (by decide) ?_
            exact rt_r hx hb hr hlocks hP hD hS rfl ((show pX1_rainIsAhead_L2 (n + 1) v1 x = 1 by rw [pX1_rainIsAhead_L2, if_neg c_1, if_neg c_2, if_neg c_3]).symm.trans hq |>.symm) dX1_rainIsAhead_27
  refine lv_iconst (v := 0) hx hb dX1_rainIsAhead_0 (by decide) ?_
  refine lv_istore_n (lv' := [(1, .int 0), (0, .ref (h 0))]) hx hb dX1_rainIsAhead_1 rfl hl (by decide) rfl (fun ls hl => ?_)
  exact lp_2 25 0 (by first | decide | omega | assumption) (by first | decide | omega | assumption) (by decide) ((show pX1_rainIsAhead x = pX1_rainIsAhead_L2 25 0 x by rw [pX1_rainIsAhead]).symm.trans hres) _ _ _ hP hD hS (lv_sub hl [1, 0] rfl)
def pX1_openOnes (x : SR) : Int32 := ((x.1 0) &&& ((x.1 2) ^^^ (-1)))
set_option maxHeartbeats 4000000 in
set_option maxRecDepth 100000 in
theorem ctX1_openOnes (l : Launch) (G : va_G) (cI cC cZ cR : ClassId) (h : Ad) (x : SR) : Ct l yX1_openOnes wsX1_openOnes (rmz 0 0) G (TY cI cC cZ cR) [.ref (h 0)] (wSt cI h x) (Qi G (wSt cI h x) (pX1_openOnes x) (wSt cI h x)) := by
  refine Ct.ofI (cc := cX1_openOnes) (maxL := 1) (ret := (some .int)) (by decide) rfl rfl ?_
  intro p e s m below meth c A ls E0 hP hD hS hl
  obtain ⟨hx, hb, hr, hml, hlocks, hts, hown, hK, hN, hA⟩ := E0
  have hl : lv_has ls 1 [(0, .ref (h 0))] := hl
  have hin : ∀ w ∈ wsX10, w ∈ wsX1_openOnes := fun w hw => List.mem_cons_of_mem _ (List.mem_append_right _ (hw))
  have k_15 : (Cond.fieldLink RX1 15 RX1 (TX1 1).2.1 (TX1 1).2.2.1).before ([.ref (h 0)] : List Value).toArray s = true := hts _ (List.mem_of_getElem? (i := 1) rfl)
  have k_22 : (Cond.fieldLink RX1 22 RX1 (TX1 3).2.1 (TX1 3).2.2.1).before ([.ref (h 0)] : List Value).toArray s = true := hts _ (List.mem_of_getElem? (i := 2) rfl)
  generalize hres : pX1_openOnes x = res
  refine lv_aload_n hx hb dX1_openOnes_0 rfl (lv_at hl 0 rfl) ?_
  refine md_get (ci := 1) (C := RX1) (T := TX1) (N := 18) (v := .int (x.1 0)) hx hb hts hin hown hK hP rfl 1 (by decide) k_15 rfl rfl rfl dX1_openOnes_1 ?_
  refine lv_aload_n hx hb dX1_openOnes_4 rfl (lv_at hl 0 rfl) ?_
  refine md_get (ci := 1) (C := RX1) (T := TX1) (N := 18) (v := .int (x.1 2)) hx hb hts hin hown hK hP rfl 3 (by decide) k_22 rfl rfl rfl dX1_openOnes_5 ?_
  refine lv_iconst (v := (-1)) hx hb dX1_openOnes_8 (by decide) ?_
  refine lv_ixor hx hb dX1_openOnes_9 ?_
  refine lv_iand hx hb dX1_openOnes_10 ?_
  exact rt_r hx hb hr hlocks hP hD hS rfl ((show pX1_openOnes x = ((x.1 0) &&& ((x.1 2) ^^^ (-1))) by rw [pX1_openOnes]).symm.trans hres |>.symm) dX1_openOnes_11
def pX1_nearest_L9 (a1 : Int32) (a2 : Int32) : Nat → Int32 → Int32
  | 0, v2 => 0
  | n + 1, v2 => if 12 ≤ v2 then (-6)
    else if (pX2_has a1 (a2 - v2)) = 0 then if (pX2_has a1 (a2 + v2)) = 0 then pX1_nearest_L9 a1 a2 n (v2 + 1)
        else (a2 + v2)
      else (a2 - v2)
def pX1_nearest (a1 : Int32) (a2 : Int32) : Int32 := if a1 = 0 then (-6)
  else pX1_nearest_L9 a1 a2 13 0
set_option maxHeartbeats 4000000 in
set_option maxRecDepth 100000 in
theorem ctX1_nearest (l : Launch) (G : va_G) (cI cC cZ cR : ClassId) (a1 : Int32) (a2 : Int32) : Ct l yX1_nearest wsX1_nearest (rmz 1 21) G (TY cI cC cZ cR) [.int a1, .int a2] [] (Qi G [] (pX1_nearest a1 a2) []) := by
  refine Ct.ofI (cc := cX1_nearest) (maxL := 3) (ret := (some .int)) (by decide) rfl rfl ?_
  intro p e s m below meth c A ls E0 hP hD hS hl
  obtain ⟨hx, hb, hr, hml, hlocks, hts, hown, hK, hN, hA⟩ := E0
  have hl : lv_has ls 3 [(0, .int a1), (1, .int a2)] := hl
  generalize hres : pX1_nearest a1 a2 = res
  have lp_9 : ∀ (n : Nat) (v2 : Int32), 0 ≤ Int32.toInt v2 → Int32.toInt v2 ≤ 12 → 12 - Int32.toInt v2 < (n : Int) → pX1_nearest_L9 a1 a2 n v2 = res → ∀ (H : Heap) (locs : List Loc) (ls : Array Slot), va_P G vwCl [] H → va_S A s.heap H locs → lv_has ls 3 [(0, .int a1), (1, .int a2), (2, .int v2)] → W p l e (rmz 1 21) s m ([.int a1, .int a2] : List Value).toArray below meth c H locs 0 0 (MQ below (QiA G A res []) ([.int a1, .int a2] : List Value).toArray s 0 0 A) (F0 m 9 ls []) := by
    intro n
    induction n with
    | zero =>
      intro v2 g_0 g_1 hm
      exfalso; omega
    | succ n ih =>
      intro v2 g_0 g_1 hm hq H locs ls hP hS hl
      refine lv_iload_n hx hb dX1_nearest_9 rfl (lv_at hl 2 rfl) ?_
      refine lv_bipush (v := 12) hx hb dX1_nearest_10 (by decide) ?_
      refine lv_icmp_ge (tgt := 49) hx hb dX1_nearest_12 (by decide) (fun c_2 => ?_) (fun c_2 => ?_)
      · have t_2 := i_le (z := (12)) (w := (Int32.toInt v2)) c_2 (by decide) rfl
        refine lv_bipush (v := (-6)) hx hb dX1_nearest_49 (by decide) ?_
        exact rt_r hx hb hr hlocks hP hD hS rfl ((show pX1_nearest_L9 a1 a2 (n + 1) v2 = (-6) by rw [pX1_nearest_L9, if_pos c_2]).symm.trans hq |>.symm) dX1_nearest_51
      · have t_2 := i_nle (z := (12)) (w := (Int32.toInt v2)) c_2 (by decide) rfl
        refine lv_iload_n hx hb dX1_nearest_15 rfl (lv_at hl 0 rfl) ?_
        refine lv_iload_n hx hb dX1_nearest_16 rfl (lv_at hl 1 rfl) ?_
        refine lv_iload_n hx hb dX1_nearest_17 rfl (lv_at hl 2 rfl) ?_
        refine lv_isub hx hb dX1_nearest_18 ?_
        refine gn_i hP hS hA (rn_SN (As := [.int a1, .int (a2 - v2)]) (rest := []) ⟨hx, hb, hml, hown, hts⟩ (ctX2_has l G cI cC cZ cR a1 (a2 - v2)) ⟨va_cnB 2 hts gX1_nearest_X2_has_n87 rfl rfl rfl (NWs.nw hN 28 rfl) (hts _ (List.mem_of_getElem? (i := 2) rfl)) (by decide +kernel) ⟨Nat.le_of_ble_eq_true rfl, Nat.le_of_ble_eq_true rfl⟩, hts _ (List.mem_of_getElem? (i := 1) rfl), trivial⟩ hK nilP (nilD (A := A)) hN rfl hl.1 rfl (Nat.le_of_ble_eq_true rfl) dX1_nearest_19) (fun H locs hP hS => ?_)
        refine lv_if_eq (tgt := 29) hx hb dX1_nearest_22 (by decide) (fun c_3 => ?_) (fun c_3 => ?_)
        · refine lv_iload_n hx hb dX1_nearest_29 rfl (lv_at hl 0 rfl) ?_
          refine lv_iload_n hx hb dX1_nearest_30 rfl (lv_at hl 1 rfl) ?_
          refine lv_iload_n hx hb dX1_nearest_31 rfl (lv_at hl 2 rfl) ?_
          refine lv_iadd hx hb dX1_nearest_32 ?_
          refine gn_i hP hS hA (rn_SN (As := [.int a1, .int (a2 + v2)]) (rest := []) ⟨hx, hb, hml, hown, hts⟩ (ctX2_has l G cI cC cZ cR a1 (a2 + v2)) ⟨va_cnB 2 hts gX1_nearest_X2_has_n87 rfl rfl rfl (NWs.nw hN 28 rfl) (hts _ (List.mem_of_getElem? (i := 2) rfl)) (by decide +kernel) ⟨Nat.le_of_ble_eq_true rfl, Nat.le_of_ble_eq_true rfl⟩, hts _ (List.mem_of_getElem? (i := 1) rfl), trivial⟩ hK nilP (nilD (A := A)) hN rfl hl.1 rfl (Nat.le_of_ble_eq_true rfl) dX1_nearest_33) (fun H locs hP hS => ?_)
          refine lv_if_eq (tgt := 43) hx hb dX1_nearest_36 (by decide) (fun c_4 => ?_) (fun c_4 => ?_)
          · refine lv_iinc (v := (v2 + 1)) (lv' := [(2, .int (v2 + 1)), (0, .int a1), (1, .int a2)]) hx hb dX1_nearest_43 hl (k := 2) rfl rfl (by decide) rfl (fun ls hl => ?_)
            have a_43 := i_add1 (a := v2) (by omega) (by omega)
            refine lv_goto (tgt := 9) hx hb dX1_nearest_46 (by decide) ?_
            exact ih (v2 + 1) (by omega) (by omega) (by omega) ((show pX1_nearest_L9 a1 a2 (n + 1) v2 = pX1_nearest_L9 a1 a2 n (v2 + 1) by rw [pX1_nearest_L9, if_neg c_2, if_pos c_3, if_pos c_4]).symm.trans hq) _ _ _ hP hS (lv_sub hl [1, 2, 0] rfl)
          · refine lv_iload_n hx hb dX1_nearest_39 rfl (lv_at hl 1 rfl) ?_
            refine lv_iload_n hx hb dX1_nearest_40 rfl (lv_at hl 2 rfl) ?_
            refine lv_iadd hx hb dX1_nearest_41 ?_
            exact rt_r hx hb hr hlocks hP hD hS rfl ((show pX1_nearest_L9 a1 a2 (n + 1) v2 = (a2 + v2) by rw [pX1_nearest_L9, if_neg c_2, if_pos c_3, if_neg c_4]).symm.trans hq |>.symm) dX1_nearest_42
        · refine lv_iload_n hx hb dX1_nearest_25 rfl (lv_at hl 1 rfl) ?_
          refine lv_iload_n hx hb dX1_nearest_26 rfl (lv_at hl 2 rfl) ?_
          refine lv_isub hx hb dX1_nearest_27 ?_
          exact rt_r hx hb hr hlocks hP hD hS rfl ((show pX1_nearest_L9 a1 a2 (n + 1) v2 = (a2 - v2) by rw [pX1_nearest_L9, if_neg c_2, if_neg c_3]).symm.trans hq |>.symm) dX1_nearest_28
  refine lv_iload_n hx hb dX1_nearest_0 rfl (lv_at hl 0 rfl) ?_
  refine lv_if_ne (tgt := 7) hx hb dX1_nearest_1 (by decide) (fun c_1 => ?_) (fun c_1 => ?_)
  · refine lv_iconst (v := 0) hx hb dX1_nearest_7 (by decide) ?_
    refine lv_istore_n (lv' := [(2, .int 0), (0, .int a1), (1, .int a2)]) hx hb dX1_nearest_8 rfl hl (by decide) rfl (fun ls hl => ?_)
    exact lp_9 13 0 (by first | decide | omega | assumption) (by first | decide | omega | assumption) (by decide) ((show pX1_nearest a1 a2 = pX1_nearest_L9 a1 a2 13 0 by rw [pX1_nearest, if_neg c_1]).symm.trans hres) _ _ _ hP hS (lv_sub hl [1, 2, 0] rfl)
  · refine lv_bipush (v := (-6)) hx hb dX1_nearest_4 (by decide) ?_
    exact rt_r hx hb hr hlocks hP hD hS rfl ((show pX1_nearest a1 a2 = (-6) by rw [pX1_nearest, if_pos c_1]).symm.trans hres |>.symm) dX1_nearest_6
def pX1_outOfTune_L4 : Nat → Int32 → Int32 → SR → Int32
  | 0, v1, v2, x => 0
  | n + 1, v1, v2, x => if 12 ≤ v2 then v1
    else if (pX2_has (pX1_openOnes x) v2) = 0 then pX1_outOfTune_L4 n v1 (v2 + 1) x
      else if (x.2 0 (ix 5)) ≤ (x.2 1 (ix v2)) then pX1_outOfTune_L4 n v1 (v2 + 1) x
        else pX1_outOfTune_L4 n (v1 ||| (1 <<< (v2 &&& 31))) (v2 + 1) x
def pX1_outOfTune (x : SR) : Int32 := pX1_outOfTune_L4 13 0 0 x
set_option maxHeartbeats 4000000 in
set_option maxRecDepth 100000 in
theorem ctX1_outOfTune (l : Launch) (G : va_G) (cI cC cZ cR : ClassId) (h : Ad) (x : SR) : Ct l yX1_outOfTune wsX1_outOfTune (rmz 1 21) G (TY cI cC cZ cR) [.ref (h 0)] (wSt cI h x) (Qi G (wSt cI h x) (pX1_outOfTune x) (wSt cI h x)) := by
  refine Ct.ofI (cc := cX1_outOfTune) (maxL := 3) (ret := (some .int)) (by decide) rfl rfl ?_
  intro p e s m below meth c A ls E0 hP hD hS hl
  obtain ⟨hx, hb, hr, hml, hlocks, hts, hown, hK, hN, hA⟩ := E0
  have hl : lv_has ls 3 [(0, .ref (h 0))] := hl
  have hin : ∀ w ∈ wsX10, w ∈ wsX1_outOfTune := fun w hw => List.mem_cons_of_mem _ (List.mem_append_right _ (hw))
  have k_25 : (Cond.fieldLink RX1 25 RX1 (TX1 4).2.1 (TX1 4).2.2.1).before ([.ref (h 0)] : List Value).toArray s = true := hts _ (List.mem_of_getElem? (i := 1) rfl)
  have k_9 : (Cond.fieldLink RX1 9 RX1 (TX1 0).2.1 (TX1 0).2.2.1).before ([.ref (h 0)] : List Value).toArray s = true := hts _ (List.mem_of_getElem? (i := 2) rfl)
  generalize hres : pX1_outOfTune x = res
  have lp_4 : ∀ (n : Nat) (v1 : Int32) (v2 : Int32), 0 ≤ Int32.toInt v2 → Int32.toInt v2 ≤ 12 → 12 - Int32.toInt v2 < (n : Int) → pX1_outOfTune_L4 n v1 v2 x = res → ∀ (H : Heap) (locs : List Loc) (ls : Array Slot), va_P G vwCl (wSt cI h x) H → va_D A (wSt cI h x) → va_S A s.heap H locs → lv_has ls 3 [(0, .ref (h 0)), (1, .int v1), (2, .int v2)] → W p l e (rmz 1 21) s m ([.ref (h 0)] : List Value).toArray below meth c H locs 0 0 (MQ below (QiA G A res (wSt cI h x)) ([.ref (h 0)] : List Value).toArray s 0 0 A) (F0 m 4 ls []) := by
    intro n
    induction n with
    | zero =>
      intro v1 v2 g_0 g_1 hm
      exfalso; omega
    | succ n ih =>
      intro v1 v2 g_0 g_1 hm hq H locs ls hP hD hS hl
      refine lv_iload_n hx hb dX1_outOfTune_4 rfl (lv_at hl 2 rfl) ?_
      refine lv_bipush (v := 12) hx hb dX1_outOfTune_5 (by decide) ?_
      refine lv_icmp_ge (tgt := 48) hx hb dX1_outOfTune_7 (by decide) (fun c_1 => ?_) (fun c_1 => ?_)
      · have t_1 := i_le (z := (12)) (w := (Int32.toInt v2)) c_1 (by decide) rfl
        refine lv_iload_n hx hb dX1_outOfTune_48 rfl (lv_at hl 1 rfl) ?_
        exact rt_r hx hb hr hlocks hP hD hS rfl ((show pX1_outOfTune_L4 (n + 1) v1 v2 x = v1 by rw [pX1_outOfTune_L4, if_pos c_1]).symm.trans hq |>.symm) dX1_outOfTune_49
      · have t_1 := i_nle (z := (12)) (w := (Int32.toInt v2)) c_1 (by decide) rfl
        refine lv_aload_n hx hb dX1_outOfTune_10 rfl (lv_at hl 0 rfl) ?_
        refine go_i hD hS hA (rn_V (As := []) (rest := []) ⟨hx, hb, hml, hown, hts⟩ (ctX1_openOnes l G cI cC cZ cR h x) (cwV 0 hts gX1_outOfTune_X1_openOnes rfl rfl rfl (by decide +kernel) ⟨Nat.le_of_ble_eq_true rfl, Nat.le_of_ble_eq_true rfl⟩) (md_recv hK hP rfl) hK hP hD hN rfl hl.1 rfl (Nat.le_of_ble_eq_true rfl) dX1_outOfTune_11) (fun H locs hP hD hS => ?_)
        refine lv_iload_n hx hb dX1_outOfTune_14 rfl (lv_at hl 2 rfl) ?_
        refine gn_i hP hS hA (rn_SN (As := [.int (pX1_openOnes x), .int v2]) (rest := []) ⟨hx, hb, hml, hown, hts⟩ (ctX2_has l G cI cC cZ cR (pX1_openOnes x) v2) ⟨va_cnB 2 hts gX1_outOfTune_X2_has_n87 rfl rfl rfl (NWs.nw hN 28 rfl) (hts _ (List.mem_of_getElem? (i := 11) rfl)) (by decide +kernel) ⟨Nat.le_of_ble_eq_true rfl, Nat.le_of_ble_eq_true rfl⟩, hts _ (List.mem_of_getElem? (i := 10) rfl), trivial⟩ hK nilP (nilD (A := A)) hN rfl hl.1 rfl (Nat.le_of_ble_eq_true rfl) dX1_outOfTune_15) (fun H locs hP hS => ?_)
        refine lv_if_eq (tgt := 42) hx hb dX1_outOfTune_18 (by decide) (fun c_2 => ?_) (fun c_2 => ?_)
        · refine lv_iinc (v := (v2 + 1)) (lv' := [(2, .int (v2 + 1)), (0, .ref (h 0)), (1, .int v1)]) hx hb dX1_outOfTune_42 hl (k := 2) rfl rfl (by decide) rfl (fun ls hl => ?_)
          have a_42 := i_add1 (a := v2) (by omega) (by omega)
          refine lv_goto (tgt := 4) hx hb dX1_outOfTune_45 (by decide) ?_
          exact ih v1 (v2 + 1) (by omega) (by omega) (by omega) ((show pX1_outOfTune_L4 (n + 1) v1 v2 x = pX1_outOfTune_L4 n v1 (v2 + 1) x by rw [pX1_outOfTune_L4, if_neg c_1, if_pos c_2]).symm.trans hq) _ _ _ hP hD hS (lv_sub hl [1, 2, 0] rfl)
        · refine lv_aload_n hx hb dX1_outOfTune_21 rfl (lv_at hl 0 rfl) ?_
          refine md_get (ci := 1) (C := RX1) (T := TX1) (N := 18) (v := .ref (h 2)) hx hb hts hin hown hK hP rfl 4 (by decide) k_25 rfl rfl rfl dX1_outOfTune_22 ?_
          refine lv_iload_n hx hb dX1_outOfTune_25 rfl (lv_at hl 2 rfl) ?_
          refine md_ia (v := x.2 1 (ix v2)) hx hb hK hP 1 0 rfl rfl (by first | assumption | decide | exact vp_in_iff.mpr ⟨by omega, by omega⟩ | exact isPlace_in (by assumption) | exact has_in (by assumption)) rfl dX1_outOfTune_26 ?_
          refine lv_aload_n hx hb dX1_outOfTune_27 rfl (lv_at hl 0 rfl) ?_
          refine md_get (ci := 1) (C := RX1) (T := TX1) (N := 18) (v := .ref (h 1)) hx hb hts hin hown hK hP rfl 0 (by decide) k_9 rfl rfl rfl dX1_outOfTune_28 ?_
          refine lv_iconst (v := 5) hx hb dX1_outOfTune_31 (by decide) ?_
          refine md_ia (v := x.2 0 (ix 5)) hx hb hK hP 0 0 rfl rfl (vp_in_iff.mpr ⟨by decide, by decide⟩) rfl dX1_outOfTune_32 ?_
          refine lv_icmp_ge (tgt := 42) hx hb dX1_outOfTune_33 (by decide) (fun c_3 => ?_) (fun c_3 => ?_)
          · have t_3 := i_le (z := (Int32.toInt (x.2 0 (ix 5)))) (w := (Int32.toInt (x.2 1 (ix v2)))) c_3 rfl rfl
            refine lv_iinc (v := (v2 + 1)) (lv' := [(2, .int (v2 + 1)), (0, .ref (h 0)), (1, .int v1)]) hx hb dX1_outOfTune_42 hl (k := 2) rfl rfl (by decide) rfl (fun ls hl => ?_)
            have a_42 := i_add1 (a := v2) (by omega) (by omega)
            refine lv_goto (tgt := 4) hx hb dX1_outOfTune_45 (by decide) ?_
            exact ih v1 (v2 + 1) (by omega) (by omega) (by omega) ((show pX1_outOfTune_L4 (n + 1) v1 v2 x = pX1_outOfTune_L4 n v1 (v2 + 1) x by rw [pX1_outOfTune_L4, if_neg c_1, if_neg c_2, if_pos c_3]).symm.trans hq) _ _ _ hP hD hS (lv_sub hl [1, 2, 0] rfl)
          · have t_3 := i_nle (z := (Int32.toInt (x.2 0 (ix 5)))) (w := (Int32.toInt (x.2 1 (ix v2)))) c_3 rfl rfl
            refine lv_iload_n hx hb dX1_outOfTune_36 rfl (lv_at hl 1 rfl) ?_
            refine lv_iconst (v := 1) hx hb dX1_outOfTune_37 (by decide) ?_
            refine lv_iload_n hx hb dX1_outOfTune_38 rfl (lv_at hl 2 rfl) ?_
            refine lv_ishl hx hb dX1_outOfTune_39 ?_
            refine lv_ior hx hb dX1_outOfTune_40 ?_
            refine lv_istore_n (lv' := [(1, .int (v1 ||| (1 <<< (v2 &&& 31)))), (0, .ref (h 0)), (2, .int v2)]) hx hb dX1_outOfTune_41 rfl hl (by decide) rfl (fun ls hl => ?_)
            refine lv_iinc (v := (v2 + 1)) (lv' := [(2, .int (v2 + 1)), (1, .int (v1 ||| (1 <<< (v2 &&& 31)))), (0, .ref (h 0))]) hx hb dX1_outOfTune_42 hl (k := 2) rfl rfl (by decide) rfl (fun ls hl => ?_)
            have a_42 := i_add1 (a := v2) (by omega) (by omega)
            refine lv_goto (tgt := 4) hx hb dX1_outOfTune_45 (by decide) ?_
            exact ih (v1 ||| (1 <<< (v2 &&& 31))) (v2 + 1) (by omega) (by omega) (by omega) ((show pX1_outOfTune_L4 (n + 1) v1 v2 x = pX1_outOfTune_L4 n (v1 ||| (1 <<< (v2 &&& 31))) (v2 + 1) x by rw [pX1_outOfTune_L4, if_neg c_1, if_neg c_2, if_neg c_3]).symm.trans hq) _ _ _ hP hD hS (lv_sub hl [2, 1, 0] rfl)
  refine lv_iconst (v := 0) hx hb dX1_outOfTune_0 (by decide) ?_
  refine lv_istore_n (lv' := [(1, .int 0), (0, .ref (h 0))]) hx hb dX1_outOfTune_1 rfl hl (by decide) rfl (fun ls hl => ?_)
  refine lv_iconst (v := 0) hx hb dX1_outOfTune_2 (by decide) ?_
  refine lv_istore_n (lv' := [(2, .int 0), (1, .int 0), (0, .ref (h 0))]) hx hb dX1_outOfTune_3 rfl hl (by decide) rfl (fun ls hl => ?_)
  exact lp_4 13 0 0 (by first | decide | omega | assumption) (by first | decide | omega | assumption) (by decide) ((show pX1_outOfTune x = pX1_outOfTune_L4 13 0 0 x by rw [pX1_outOfTune]).symm.trans hres) _ _ _ hP hD hS (lv_sub hl [2, 1, 0] rfl)
