def pX3_rainsIn (a1 : Int32) (x : SR) : Int32 := if (((x.2 0 (ix 8)) >>> ((((x.2 0 (ix 7)) + a1) - ((x.2 0 (ix 7)) + a1) / 24 * 24) &&& 31)) &&& 1) = 1 then 1
  else 0
set_option maxHeartbeats 4000000 in
set_option maxRecDepth 100000 in
theorem ctX3_rainsIn (l : Launch) (G : va_G) (cI cC cZ cR : ClassId) (h : Ad) (x : SR) (a1 : Int32) : Ct l yX3_rainsIn wsX3_rainsIn (rmz 0 0) G (TY cI cC cZ cR) [.ref (h 0), .int a1] (wMo cI h x) (Qi G (wMo cI h x) (pX3_rainsIn a1 x) (wMo cI h x)) := by
  refine Ct.ofI (cc := cX3_rainsIn) (maxL := 2) (ret := (some .boolean)) (by decide) rfl rfl ?_
  intro p e s m below meth c A ls E0 hP hD hS hl
  obtain ⟨hx, hb, hr, hml, hlocks, hts, hown, hK, hN, hA⟩ := E0
  have hl : lv_has ls 2 [(0, .ref (h 0)), (1, .int a1)] := hl
  have hin : ∀ w ∈ wsX30, w ∈ wsX3_rainsIn := fun w hw => List.mem_cons_of_mem _ (List.mem_append_right _ (hw))
  have k_7 : (Cond.fieldLink RX3 7 RX3 (TX3 0).2.1 (TX3 0).2.2.1).before ([.ref (h 0), .int a1] : List Value).toArray s = true := hts _ (List.mem_of_getElem? (i := 1) rfl)
  generalize hres : pX3_rainsIn a1 x = res
  refine lv_aload_n hx hb dX3_rainsIn_0 rfl (lv_at hl 0 rfl) ?_
  refine md_get (ci := 3) (C := RX3) (T := TX3) (N := 13) (v := .ref (h 1)) hx hb hts hin hown hK hP rfl 0 (by decide) k_7 rfl rfl rfl dX3_rainsIn_1 ?_
  refine lv_bipush (v := 8) hx hb dX3_rainsIn_4 (by decide) ?_
  refine md_ia (v := x.2 0 (ix 8)) hx hb hK hP 0 0 rfl rfl (vp_in_iff.mpr ⟨by decide, by decide⟩) rfl dX3_rainsIn_6 ?_
  refine lv_aload_n hx hb dX3_rainsIn_7 rfl (lv_at hl 0 rfl) ?_
  refine md_get (ci := 3) (C := RX3) (T := TX3) (N := 13) (v := .ref (h 1)) hx hb hts hin hown hK hP rfl 0 (by decide) k_7 rfl rfl rfl dX3_rainsIn_8 ?_
  refine lv_bipush (v := 7) hx hb dX3_rainsIn_11 (by decide) ?_
  refine md_ia (v := x.2 0 (ix 7)) hx hb hK hP 0 0 rfl rfl (vp_in_iff.mpr ⟨by decide, by decide⟩) rfl dX3_rainsIn_13 ?_
  refine lv_iload_n hx hb dX3_rainsIn_14 rfl (lv_at hl 1 rfl) ?_
  refine lv_iadd hx hb dX3_rainsIn_15 ?_
  refine lv_bipush (v := 24) hx hb dX3_rainsIn_16 (by decide) ?_
  refine lv_irem hx hb dX3_rainsIn_18 (by decide) ?_
  refine lv_ishr hx hb dX3_rainsIn_19 ?_
  refine lv_iconst (v := 1) hx hb dX3_rainsIn_20 (by decide) ?_
  refine lv_iand hx hb dX3_rainsIn_21 ?_
  refine lv_iconst (v := 1) hx hb dX3_rainsIn_22 (by decide) ?_
  refine lv_icmp_ne (tgt := 30) hx hb dX3_rainsIn_23 (by decide) (fun c_1 => ?_) (fun c_1 => ?_)
  · refine lv_iconst (v := 0) hx hb dX3_rainsIn_30 (by decide) ?_
    exact rt_r hx hb hr hlocks hP hD hS rfl ((show pX3_rainsIn a1 x = 0 by rw [pX3_rainsIn, if_neg c_1]).symm.trans hres |>.symm) dX3_rainsIn_31
  · refine lv_iconst (v := 1) hx hb dX3_rainsIn_26 (by decide) ?_
    refine lv_goto (tgt := 31) hx hb dX3_rainsIn_27 (by decide) ?_
    exact rt_r hx hb hr hlocks hP hD hS rfl ((show pX3_rainsIn a1 x = 1 by rw [pX3_rainsIn, if_pos c_1]).symm.trans hres |>.symm) dX3_rainsIn_31
def pX3_isRainAhead_L4 : Nat → Int32 → Int32 → SR → Int32
  | 0, v1, v2, x => 0
  | n + 1, v1, v2, x => if (x.2 0 (ix 0)) < v2 then v1
    else if v1 = 0 then if (pX3_rainsIn v2 x) = 0 then pX3_isRainAhead_L4 n 0 (v2 + 1) x
        else pX3_isRainAhead_L4 n 1 (v2 + 1) x
      else pX3_isRainAhead_L4 n 1 (v2 + 1) x
def pX3_isRainAhead (x : SR) : Int32 := pX3_isRainAhead_L4 14 0 0 x
set_option maxHeartbeats 4000000 in
set_option maxRecDepth 100000 in
theorem ctX3_isRainAhead (l : Launch) (G : va_G) (cI cC cZ cR : ClassId) (h : Ad) (x : SR) (q_0 : Int32.toInt (x.2 0 (ix 0)) ≤ 12) : Ct l yX3_isRainAhead wsX3_isRainAhead (rmz 1 21) G (TY cI cC cZ cR) [.ref (h 0)] (wMo cI h x) (Qi G (wMo cI h x) (pX3_isRainAhead x) (wMo cI h x)) := by
  refine Ct.ofI (cc := cX3_isRainAhead) (maxL := 3) (ret := (some .boolean)) (by decide) rfl rfl ?_
  intro p e s m below meth c A ls E0 hP hD hS hl
  obtain ⟨hx, hb, hr, hml, hlocks, hts, hown, hK, hN, hA⟩ := E0
  have hl : lv_has ls 3 [(0, .ref (h 0))] := hl
  have hin : ∀ w ∈ wsX30, w ∈ wsX3_isRainAhead := fun w hw => List.mem_cons_of_mem _ (List.mem_append_right _ (hw))
  have k_7 : (Cond.fieldLink RX3 7 RX3 (TX3 0).2.1 (TX3 0).2.2.1).before ([.ref (h 0)] : List Value).toArray s = true := hts _ (List.mem_of_getElem? (i := 1) rfl)
  generalize hres : pX3_isRainAhead x = res
  have lp_4 : ∀ (n : Nat) (v1 : Int32) (v2 : Int32), 0 ≤ Int32.toInt v2 → Int32.toInt v2 ≤ 13 → v1 = 0 ∨ v1 = 1 → 13 - Int32.toInt v2 < (n : Int) → pX3_isRainAhead_L4 n v1 v2 x = res → ∀ (H : Heap) (locs : List Loc) (ls : Array Slot), va_P G vwCl (wMo cI h x) H → va_D A (wMo cI h x) → va_S A s.heap H locs → lv_has ls 3 [(0, .ref (h 0)), (1, .int v1), (2, .int v2)] → W p l e (rmz 1 21) s m ([.ref (h 0)] : List Value).toArray below meth c H locs 0 0 (MQ below (QiA G A res (wMo cI h x)) ([.ref (h 0)] : List Value).toArray s 0 0 A) (F0 m 4 ls []) := by
    intro n
    induction n with
    | zero =>
      intro v1 v2 g_0 g_1 g_2 hm
      exfalso; omega
    | succ n ih =>
      intro v1 v2 g_0 g_1 g_2 hm hq H locs ls hP hD hS hl
      refine lv_iload_n hx hb dX3_isRainAhead_4 rfl (lv_at hl 2 rfl) ?_
      refine lv_aload_n hx hb dX3_isRainAhead_5 rfl (lv_at hl 0 rfl) ?_
      refine md_get (ci := 3) (C := RX3) (T := TX3) (N := 13) (v := .ref (h 1)) hx hb hts hin hown hK hP rfl 0 (by decide) k_7 rfl rfl rfl dX3_isRainAhead_6 ?_
      refine lv_iconst (v := 0) hx hb dX3_isRainAhead_9 (by decide) ?_
      refine md_ia (v := x.2 0 (ix 0)) hx hb hK hP 0 0 rfl rfl (vp_in_iff.mpr ⟨by decide, by decide⟩) rfl dX3_isRainAhead_10 ?_
      refine lv_icmp_gt (tgt := 38) hx hb dX3_isRainAhead_11 (by decide) (fun c_1 => ?_) (fun c_1 => ?_)
      · have t_1 := i_lt (z := (Int32.toInt (x.2 0 (ix 0)))) (w := (Int32.toInt v2)) c_1 rfl rfl
        refine lv_iload_n hx hb dX3_isRainAhead_38 rfl (lv_at hl 1 rfl) ?_
        exact rt_r hx hb hr hlocks hP hD hS (nz_of g_2) ((show pX3_isRainAhead_L4 (n + 1) v1 v2 x = v1 by rw [pX3_isRainAhead_L4, if_pos c_1]).symm.trans hq |>.symm) dX3_isRainAhead_39
      · have t_1 := i_nlt (z := (Int32.toInt (x.2 0 (ix 0)))) (w := (Int32.toInt v2)) c_1 rfl rfl
        refine lv_iload_n hx hb dX3_isRainAhead_14 rfl (lv_at hl 1 rfl) ?_
        refine lv_if_ne (tgt := 26) hx hb dX3_isRainAhead_15 (by decide) (fun c_2 => ?_) (fun c_2 => ?_)
        · refine lv_iconst (v := 1) hx hb dX3_isRainAhead_26 (by decide) ?_
          refine lv_goto (tgt := 31) hx hb dX3_isRainAhead_27 (by decide) ?_
          refine lv_istore_n (lv' := [(1, .int 1), (0, .ref (h 0)), (2, .int v2)]) hx hb dX3_isRainAhead_31 rfl hl (by decide) rfl (fun ls hl => ?_)
          refine lv_iinc (v := (v2 + 1)) (lv' := [(2, .int (v2 + 1)), (1, .int 1), (0, .ref (h 0))]) hx hb dX3_isRainAhead_32 hl (k := 2) rfl rfl (by decide) rfl (fun ls hl => ?_)
          have a_32 := i_add1 (a := v2) (by omega) (by omega)
          refine lv_goto (tgt := 4) hx hb dX3_isRainAhead_35 (by decide) ?_
          exact ih 1 (v2 + 1) (by omega) (by omega) (by first | exact Or.inl rfl | exact Or.inr rfl) (by omega) ((show pX3_isRainAhead_L4 (n + 1) v1 v2 x = pX3_isRainAhead_L4 n 1 (v2 + 1) x by rw [pX3_isRainAhead_L4, if_neg c_1, if_neg c_2]).symm.trans hq) _ _ _ hP hD hS (lv_sub hl [2, 1, 0] rfl)
        · refine lv_aload_n hx hb dX3_isRainAhead_18 rfl (lv_at hl 0 rfl) ?_
          refine lv_iload_n hx hb dX3_isRainAhead_19 rfl (lv_at hl 2 rfl) ?_
          refine go_i hD hS hA (rn_V (As := [.int v2]) (rest := []) ⟨hx, hb, hml, hown, hts⟩ (ctX3_rainsIn l G cI cC cZ cR h x v2) (cwV 1 hts gX3_isRainAhead_X3_rainsIn rfl rfl rfl (by decide +kernel) ⟨Nat.le_of_ble_eq_true rfl, Nat.le_of_ble_eq_true rfl⟩) (md_recv hK hP rfl) hK hP hD hN rfl hl.1 rfl (Nat.le_of_ble_eq_true rfl) dX3_isRainAhead_20) (fun H locs hP hD hS => ?_)
          refine lv_if_eq (tgt := 30) hx hb dX3_isRainAhead_23 (by decide) (fun c_3 => ?_) (fun c_3 => ?_)
          · refine lv_iconst (v := 0) hx hb dX3_isRainAhead_30 (by decide) ?_
            refine lv_istore_n (lv' := [(1, .int 0), (0, .ref (h 0)), (2, .int v2)]) hx hb dX3_isRainAhead_31 rfl hl (by decide) rfl (fun ls hl => ?_)
            refine lv_iinc (v := (v2 + 1)) (lv' := [(2, .int (v2 + 1)), (1, .int 0), (0, .ref (h 0))]) hx hb dX3_isRainAhead_32 hl (k := 2) rfl rfl (by decide) rfl (fun ls hl => ?_)
            have a_32 := i_add1 (a := v2) (by omega) (by omega)
            refine lv_goto (tgt := 4) hx hb dX3_isRainAhead_35 (by decide) ?_
            exact ih 0 (v2 + 1) (by omega) (by omega) (by first | exact Or.inl rfl | exact Or.inr rfl) (by omega) ((show pX3_isRainAhead_L4 (n + 1) v1 v2 x = pX3_isRainAhead_L4 n 0 (v2 + 1) x by rw [pX3_isRainAhead_L4, if_neg c_1, if_pos c_2, if_pos c_3]).symm.trans hq) _ _ _ hP hD hS (lv_sub hl [2, 1, 0] rfl)
          · refine lv_iconst (v := 1) hx hb dX3_isRainAhead_26 (by decide) ?_
            refine lv_goto (tgt := 31) hx hb dX3_isRainAhead_27 (by decide) ?_
            refine lv_istore_n (lv' := [(1, .int 1), (0, .ref (h 0)), (2, .int v2)]) hx hb dX3_isRainAhead_31 rfl hl (by decide) rfl (fun ls hl => ?_)
            refine lv_iinc (v := (v2 + 1)) (lv' := [(2, .int (v2 + 1)), (1, .int 1), (0, .ref (h 0))]) hx hb dX3_isRainAhead_32 hl (k := 2) rfl rfl (by decide) rfl (fun ls hl => ?_)
            have a_32 := i_add1 (a := v2) (by omega) (by omega)
            refine lv_goto (tgt := 4) hx hb dX3_isRainAhead_35 (by decide) ?_
            exact ih 1 (v2 + 1) (by omega) (by omega) (by first | exact Or.inl rfl | exact Or.inr rfl) (by omega) ((show pX3_isRainAhead_L4 (n + 1) v1 v2 x = pX3_isRainAhead_L4 n 1 (v2 + 1) x by rw [pX3_isRainAhead_L4, if_neg c_1, if_pos c_2, if_neg c_3]).symm.trans hq) _ _ _ hP hD hS (lv_sub hl [2, 1, 0] rfl)
  refine lv_iconst (v := 0) hx hb dX3_isRainAhead_0 (by decide) ?_
  refine lv_istore_n (lv' := [(1, .int 0), (0, .ref (h 0))]) hx hb dX3_isRainAhead_1 rfl hl (by decide) rfl (fun ls hl => ?_)
  refine lv_iconst (v := 0) hx hb dX3_isRainAhead_2 (by decide) ?_
  refine lv_istore_n (lv' := [(2, .int 0), (1, .int 0), (0, .ref (h 0))]) hx hb dX3_isRainAhead_3 rfl hl (by decide) rfl (fun ls hl => ?_)
  exact lp_4 14 0 0 (by first | decide | omega | assumption) (by first | decide | omega | assumption) (by first | decide | omega | assumption) (by decide) ((show pX3_isRainAhead x = pX3_isRainAhead_L4 14 0 0 x by rw [pX3_isRainAhead]).symm.trans hres) _ _ _ hP hD hS (lv_sub hl [2, 1, 0] rfl)
def pX3_keepersAt_L4 (a1 : Int32) : Nat → Int32 → Int32 → SR → Int32
  | 0, v2, v3, x => 0
  | n + 1, v2, v3, x => if (x.2 0 (ix 11)) ≤ v3 then v2
    else if (pX3_keeperPart v3 0 x) = a1 then pX3_keepersAt_L4 a1 n (v2 + 1) (v3 + 1) x
      else pX3_keepersAt_L4 a1 n (v2 + 0) (v3 + 1) x
def pX3_keepersAt (a1 : Int32) (x : SR) : Int32 := pX3_keepersAt_L4 a1 6 0 0 x
set_option maxHeartbeats 4000000 in
set_option maxRecDepth 100000 in
theorem ctX3_keepersAt (l : Launch) (G : va_G) (cI cC cZ cR : ClassId) (h : Ad) (x : SR) (a1 : Int32) (q_0 : Int32.toInt (x.2 0 (ix 11)) ≤ 5) : Ct l yX3_keepersAt wsX3_keepersAt (rmz 1 22) G (TY cI cC cZ cR) [.ref (h 0), .int a1] (wMo cI h x) (Qi G (wMo cI h x) (pX3_keepersAt a1 x) (wMo cI h x)) := by
  refine Ct.ofI (cc := cX3_keepersAt) (maxL := 4) (ret := (some .int)) (by decide) rfl rfl ?_
  intro p e s m below meth c A ls E0 hP hD hS hl
  obtain ⟨hx, hb, hr, hml, hlocks, hts, hown, hK, hN, hA⟩ := E0
  have hl : lv_has ls 4 [(0, .ref (h 0)), (1, .int a1)] := hl
  have hin : ∀ w ∈ wsX30, w ∈ wsX3_keepersAt := fun w hw => List.mem_cons_of_mem _ (List.mem_append_right _ (hw))
  have k_7 : (Cond.fieldLink RX3 7 RX3 (TX3 0).2.1 (TX3 0).2.2.1).before ([.ref (h 0), .int a1] : List Value).toArray s = true := hts _ (List.mem_of_getElem? (i := 1) rfl)
  generalize hres : pX3_keepersAt a1 x = res
  have lp_4 : ∀ (n : Nat) (v2 : Int32) (v3 : Int32), 0 ≤ Int32.toInt v3 → Int32.toInt v3 ≤ 5 → 5 - Int32.toInt v3 < (n : Int) → pX3_keepersAt_L4 a1 n v2 v3 x = res → ∀ (H : Heap) (locs : List Loc) (ls : Array Slot), va_P G vwCl (wMo cI h x) H → va_D A (wMo cI h x) → va_S A s.heap H locs → lv_has ls 4 [(0, .ref (h 0)), (1, .int a1), (2, .int v2), (3, .int v3)] → W p l e (rmz 1 22) s m ([.ref (h 0), .int a1] : List Value).toArray below meth c H locs 0 0 (MQ below (QiA G A res (wMo cI h x)) ([.ref (h 0), .int a1] : List Value).toArray s 0 0 A) (F0 m 4 ls []) := by
    intro n
    induction n with
    | zero =>
      intro v2 v3 g_0 g_1 hm
      exfalso; omega
    | succ n ih =>
      intro v2 v3 g_0 g_1 hm hq H locs ls hP hD hS hl
      refine lv_iload_n hx hb dX3_keepersAt_4 rfl (lv_at hl 3 rfl) ?_
      refine lv_aload_n hx hb dX3_keepersAt_5 rfl (lv_at hl 0 rfl) ?_
      refine md_get (ci := 3) (C := RX3) (T := TX3) (N := 13) (v := .ref (h 1)) hx hb hts hin hown hK hP rfl 0 (by decide) k_7 rfl rfl rfl dX3_keepersAt_6 ?_
      refine lv_bipush (v := 11) hx hb dX3_keepersAt_9 (by decide) ?_
      refine md_ia (v := x.2 0 (ix 11)) hx hb hK hP 0 0 rfl rfl (vp_in_iff.mpr ⟨by decide, by decide⟩) rfl dX3_keepersAt_11 ?_
      refine lv_icmp_ge (tgt := 39) hx hb dX3_keepersAt_12 (by decide) (fun c_1 => ?_) (fun c_1 => ?_)
      · have t_1 := i_le (z := (Int32.toInt (x.2 0 (ix 11)))) (w := (Int32.toInt v3)) c_1 rfl rfl
        refine lv_iload_n hx hb dX3_keepersAt_39 rfl (lv_at hl 2 rfl) ?_
        exact rt_r hx hb hr hlocks hP hD hS rfl ((show pX3_keepersAt_L4 a1 (n + 1) v2 v3 x = v2 by rw [pX3_keepersAt_L4, if_pos c_1]).symm.trans hq |>.symm) dX3_keepersAt_40
      · have t_1 := i_nle (z := (Int32.toInt (x.2 0 (ix 11)))) (w := (Int32.toInt v3)) c_1 rfl rfl
        refine lv_iload_n hx hb dX3_keepersAt_15 rfl (lv_at hl 2 rfl) ?_
        refine lv_aload_n hx hb dX3_keepersAt_16 rfl (lv_at hl 0 rfl) ?_
        refine lv_iload_n hx hb dX3_keepersAt_17 rfl (lv_at hl 3 rfl) ?_
        refine lv_iconst (v := 0) hx hb dX3_keepersAt_18 (by decide) ?_
        refine go_i hD hS hA (rn_V (As := [.int v3, .int 0]) (rest := [.int v2]) ⟨hx, hb, hml, hown, hts⟩ (ctX3_keeperPart l G cI cC cZ cR h x v3 0 (by first | assumption | exact vp_in_iff.mpr ⟨by decide, by decide⟩ | exact vp_in_iff.mpr ⟨by omega, by omega⟩ | exact isPlace_in (by assumption) | exact has_in (by assumption) | exact isPlace3_in (by assumption) | exact isPiano_in (by assumption) | exact isOpen_in (by assumption)) (by first | assumption | exact vp_in_iff.mpr ⟨by decide, by decide⟩ | exact vp_in_iff.mpr ⟨by omega, by omega⟩ | exact isPlace_in (by assumption) | exact has_in (by assumption) | exact isPlace3_in (by assumption) | exact isPiano_in (by assumption) | exact isOpen_in (by assumption))) (cwV 2 hts gX3_keepersAt_X3_keeperPart rfl rfl rfl (by decide +kernel) ⟨Nat.le_of_ble_eq_true rfl, Nat.le_of_ble_eq_true rfl⟩) (md_recv hK hP rfl) hK hP hD hN rfl hl.1 rfl (Nat.le_of_ble_eq_true rfl) dX3_keepersAt_19) (fun H locs hP hD hS => ?_)
        refine lv_iload_n hx hb dX3_keepersAt_22 rfl (lv_at hl 1 rfl) ?_
        refine lv_icmp_ne (tgt := 30) hx hb dX3_keepersAt_23 (by decide) (fun c_2 => ?_) (fun c_2 => ?_)
        · refine lv_iconst (v := 0) hx hb dX3_keepersAt_30 (by decide) ?_
          refine lv_iadd hx hb dX3_keepersAt_31 ?_
          refine lv_istore_n (lv' := [(2, .int (v2 + 0)), (0, .ref (h 0)), (1, .int a1), (3, .int v3)]) hx hb dX3_keepersAt_32 rfl hl (by decide) rfl (fun ls hl => ?_)
          refine lv_iinc (v := (v3 + 1)) (lv' := [(3, .int (v3 + 1)), (2, .int (v2 + 0)), (0, .ref (h 0)), (1, .int a1)]) hx hb dX3_keepersAt_33 hl (k := 3) rfl rfl (by decide) rfl (fun ls hl => ?_)
          have a_33 := i_add1 (a := v3) (by omega) (by omega)
          refine lv_goto (tgt := 4) hx hb dX3_keepersAt_36 (by decide) ?_
          exact ih (v2 + 0) (v3 + 1) (by omega) (by omega) (by omega) ((show pX3_keepersAt_L4 a1 (n + 1) v2 v3 x = pX3_keepersAt_L4 a1 n (v2 + 0) (v3 + 1) x by rw [pX3_keepersAt_L4, if_neg c_1, if_neg c_2]).symm.trans hq) _ _ _ hP hD hS (lv_sub hl [2, 3, 1, 0] rfl)
        · refine lv_iconst (v := 1) hx hb dX3_keepersAt_26 (by decide) ?_
          refine lv_goto (tgt := 31) hx hb dX3_keepersAt_27 (by decide) ?_
          refine lv_iadd hx hb dX3_keepersAt_31 ?_
          refine lv_istore_n (lv' := [(2, .int (v2 + 1)), (0, .ref (h 0)), (1, .int a1), (3, .int v3)]) hx hb dX3_keepersAt_32 rfl hl (by decide) rfl (fun ls hl => ?_)
          refine lv_iinc (v := (v3 + 1)) (lv' := [(3, .int (v3 + 1)), (2, .int (v2 + 1)), (0, .ref (h 0)), (1, .int a1)]) hx hb dX3_keepersAt_33 hl (k := 3) rfl rfl (by decide) rfl (fun ls hl => ?_)
          have a_33 := i_add1 (a := v3) (by omega) (by omega)
          refine lv_goto (tgt := 4) hx hb dX3_keepersAt_36 (by decide) ?_
          exact ih (v2 + 1) (v3 + 1) (by omega) (by omega) (by omega) ((show pX3_keepersAt_L4 a1 (n + 1) v2 v3 x = pX3_keepersAt_L4 a1 n (v2 + 1) (v3 + 1) x by rw [pX3_keepersAt_L4, if_neg c_1, if_pos c_2]).symm.trans hq) _ _ _ hP hD hS (lv_sub hl [2, 3, 1, 0] rfl)
  refine lv_iconst (v := 0) hx hb dX3_keepersAt_0 (by decide) ?_
  refine lv_istore_n (lv' := [(2, .int 0), (0, .ref (h 0)), (1, .int a1)]) hx hb dX3_keepersAt_1 rfl hl (by decide) rfl (fun ls hl => ?_)
  refine lv_iconst (v := 0) hx hb dX3_keepersAt_2 (by decide) ?_
  refine lv_istore_n (lv' := [(3, .int 0), (2, .int 0), (0, .ref (h 0)), (1, .int a1)]) hx hb dX3_keepersAt_3 rfl hl (by decide) rfl (fun ls hl => ?_)
  exact lp_4 6 0 0 (by first | decide | omega | assumption) (by first | decide | omega | assumption) (by decide) ((show pX3_keepersAt a1 x = pX3_keepersAt_L4 a1 6 0 0 x by rw [pX3_keepersAt]).symm.trans hres) _ _ _ hP hD hS (lv_sub hl [2, 3, 1, 0] rfl)
def pX3_pianosThere_L4 : Nat → Int32 → Int32 → SR → Int32
  | 0, v1, v2, x => 0
  | n + 1, v1, v2, x => if 12 ≤ v2 then v1
    else pX3_pianosThere_L4 n (v1 + (pX3_pianoPart v2 0 x)) (v2 + 1) x
def pX3_pianosThere (x : SR) : Int32 := pX3_pianosThere_L4 13 0 0 x
set_option maxHeartbeats 4000000 in
set_option maxRecDepth 100000 in
theorem ctX3_pianosThere (l : Launch) (G : va_G) (cI cC cZ cR : ClassId) (h : Ad) (x : SR) : Ct l yX3_pianosThere wsX3_pianosThere (rmz 1 22) G (TY cI cC cZ cR) [.ref (h 0)] (wMo cI h x) (Qi G (wMo cI h x) (pX3_pianosThere x) (wMo cI h x)) := by
  refine Ct.ofI (cc := cX3_pianosThere) (maxL := 3) (ret := (some .int)) (by decide) rfl rfl ?_
  intro p e s m below meth c A ls E0 hP hD hS hl
  obtain ⟨hx, hb, hr, hml, hlocks, hts, hown, hK, hN, hA⟩ := E0
  have hl : lv_has ls 3 [(0, .ref (h 0))] := hl
  have hin : ∀ w ∈ wsX30, w ∈ wsX3_pianosThere := fun w hw => List.mem_cons_of_mem _ (List.mem_append_right _ (hw))
  generalize hres : pX3_pianosThere x = res
  have lp_4 : ∀ (n : Nat) (v1 : Int32) (v2 : Int32), 0 ≤ Int32.toInt v2 → Int32.toInt v2 ≤ 12 → 12 - Int32.toInt v2 < (n : Int) → pX3_pianosThere_L4 n v1 v2 x = res → ∀ (H : Heap) (locs : List Loc) (ls : Array Slot), va_P G vwCl (wMo cI h x) H → va_D A (wMo cI h x) → va_S A s.heap H locs → lv_has ls 3 [(0, .ref (h 0)), (1, .int v1), (2, .int v2)] → W p l e (rmz 1 22) s m ([.ref (h 0)] : List Value).toArray below meth c H locs 0 0 (MQ below (QiA G A res (wMo cI h x)) ([.ref (h 0)] : List Value).toArray s 0 0 A) (F0 m 4 ls []) := by
    intro n
    induction n with
    | zero =>
      intro v1 v2 g_0 g_1 hm
      exfalso; omega
    | succ n ih =>
      intro v1 v2 g_0 g_1 hm hq H locs ls hP hD hS hl
      refine lv_iload_n hx hb dX3_pianosThere_4 rfl (lv_at hl 2 rfl) ?_
      refine lv_bipush (v := 12) hx hb dX3_pianosThere_5 (by decide) ?_
      refine lv_icmp_ge (tgt := 25) hx hb dX3_pianosThere_7 (by decide) (fun c_1 => ?_) (fun c_1 => ?_)
      · have t_1 := i_le (z := (12)) (w := (Int32.toInt v2)) c_1 (by decide) rfl
        refine lv_iload_n hx hb dX3_pianosThere_25 rfl (lv_at hl 1 rfl) ?_
        exact rt_r hx hb hr hlocks hP hD hS rfl ((show pX3_pianosThere_L4 (n + 1) v1 v2 x = v1 by rw [pX3_pianosThere_L4, if_pos c_1]).symm.trans hq |>.symm) dX3_pianosThere_26
      · have t_1 := i_nle (z := (12)) (w := (Int32.toInt v2)) c_1 (by decide) rfl
        refine lv_iload_n hx hb dX3_pianosThere_10 rfl (lv_at hl 1 rfl) ?_
        refine lv_aload_n hx hb dX3_pianosThere_11 rfl (lv_at hl 0 rfl) ?_
        refine lv_iload_n hx hb dX3_pianosThere_12 rfl (lv_at hl 2 rfl) ?_
        refine lv_iconst (v := 0) hx hb dX3_pianosThere_13 (by decide) ?_
        refine go_i hD hS hA (rn_V (As := [.int v2, .int 0]) (rest := [.int v1]) ⟨hx, hb, hml, hown, hts⟩ (ctX3_pianoPart l G cI cC cZ cR h x v2 0 (by first | assumption | exact vp_in_iff.mpr ⟨by decide, by decide⟩ | exact vp_in_iff.mpr ⟨by omega, by omega⟩ | exact isPlace_in (by assumption) | exact has_in (by assumption) | exact isPlace3_in (by assumption) | exact isPiano_in (by assumption) | exact isOpen_in (by assumption)) (by first | assumption | exact vp_in_iff.mpr ⟨by decide, by decide⟩ | exact vp_in_iff.mpr ⟨by omega, by omega⟩ | exact isPlace_in (by assumption) | exact has_in (by assumption) | exact isPlace3_in (by assumption) | exact isPiano_in (by assumption) | exact isOpen_in (by assumption))) (cwV 2 hts gX3_pianosThere_X3_pianoPart rfl rfl rfl (by decide +kernel) ⟨Nat.le_of_ble_eq_true rfl, Nat.le_of_ble_eq_true rfl⟩) (md_recv hK hP rfl) hK hP hD hN rfl hl.1 rfl (Nat.le_of_ble_eq_true rfl) dX3_pianosThere_14) (fun H locs hP hD hS => ?_)
        refine lv_iadd hx hb dX3_pianosThere_17 ?_
        refine lv_istore_n (lv' := [(1, .int (v1 + (pX3_pianoPart v2 0 x))), (0, .ref (h 0)), (2, .int v2)]) hx hb dX3_pianosThere_18 rfl hl (by decide) rfl (fun ls hl => ?_)
        refine lv_iinc (v := (v2 + 1)) (lv' := [(2, .int (v2 + 1)), (1, .int (v1 + (pX3_pianoPart v2 0 x))), (0, .ref (h 0))]) hx hb dX3_pianosThere_19 hl (k := 2) rfl rfl (by decide) rfl (fun ls hl => ?_)
        have a_19 := i_add1 (a := v2) (by omega) (by omega)
        refine lv_goto (tgt := 4) hx hb dX3_pianosThere_22 (by decide) ?_
        exact ih (v1 + (pX3_pianoPart v2 0 x)) (v2 + 1) (by omega) (by omega) (by omega) ((show pX3_pianosThere_L4 (n + 1) v1 v2 x = pX3_pianosThere_L4 n (v1 + (pX3_pianoPart v2 0 x)) (v2 + 1) x by rw [pX3_pianosThere_L4, if_neg c_1]).symm.trans hq) _ _ _ hP hD hS (lv_sub hl [2, 1, 0] rfl)
  refine lv_iconst (v := 0) hx hb dX3_pianosThere_0 (by decide) ?_
  refine lv_istore_n (lv' := [(1, .int 0), (0, .ref (h 0))]) hx hb dX3_pianosThere_1 rfl hl (by decide) rfl (fun ls hl => ?_)
  refine lv_iconst (v := 0) hx hb dX3_pianosThere_2 (by decide) ?_
  refine lv_istore_n (lv' := [(2, .int 0), (1, .int 0), (0, .ref (h 0))]) hx hb dX3_pianosThere_3 rfl hl (by decide) rfl (fun ls hl => ?_)
  exact lp_4 13 0 0 (by first | decide | omega | assumption) (by first | decide | omega | assumption) (by decide) ((show pX3_pianosThere x = pX3_pianosThere_L4 13 0 0 x by rw [pX3_pianosThere]).symm.trans hres) _ _ _ hP hD hS (lv_sub hl [2, 1, 0] rfl)
def pX3_isWanted (a1 : Int32) (a2 : Int32) (x : SR) : Int32 := if (pX3_isPiano a1 x) = 0 then 0
  else if (((x.1 2) >>> (a1 &&& 31)) &&& 1) = 1 then 0
    else if 3 ≤ a2 then if (pX3_isOpen a1 x) = 0 then 0
        else if (x.2 0 (ix 5)) ≤ (pX3_pianoPart a1 1 x) then 0
          else 1
      else if (pX3_pianoPart a1 3 x) = a2 then 1
        else 0
set_option maxHeartbeats 4000000 in
set_option maxRecDepth 100000 in
theorem ctX3_isWanted (l : Launch) (G : va_G) (cI cC cZ cR : ClassId) (h : Ad) (x : SR) (a1 : Int32) (a2 : Int32) : Ct l yX3_isWanted wsX3_isWanted (rmz 4 84) G (TY cI cC cZ cR) [.ref (h 0), .int a1, .int a2] (wMo cI h x) (Qi G (wMo cI h x) (pX3_isWanted a1 a2 x) (wMo cI h x)) := by
  refine Ct.ofI (cc := cX3_isWanted) (maxL := 3) (ret := (some .boolean)) (by decide) rfl rfl ?_
  intro p e s m below meth c A ls E0 hP hD hS hl
  obtain ⟨hx, hb, hr, hml, hlocks, hts, hown, hK, hN, hA⟩ := E0
  have hl : lv_has ls 3 [(0, .ref (h 0)), (1, .int a1), (2, .int a2)] := hl
  have hin : ∀ w ∈ wsX30, w ∈ wsX3_isWanted := fun w hw => List.mem_cons_of_mem _ (List.mem_append_right _ (hw))
  have k_57 : (Cond.fieldLink RX3 57 RX3 (TX3 8).2.1 (TX3 8).2.2.1).before ([.ref (h 0), .int a1, .int a2] : List Value).toArray s = true := hts _ (List.mem_of_getElem? (i := 1) rfl)
  have k_7 : (Cond.fieldLink RX3 7 RX3 (TX3 0).2.1 (TX3 0).2.2.1).before ([.ref (h 0), .int a1, .int a2] : List Value).toArray s = true := hts _ (List.mem_of_getElem? (i := 2) rfl)
  generalize hres : pX3_isWanted a1 a2 x = res
  refine lv_aload_n hx hb dX3_isWanted_0 rfl (lv_at hl 0 rfl) ?_
  refine lv_iload_n hx hb dX3_isWanted_1 rfl (lv_at hl 1 rfl) ?_
  refine go_i hD hS hA (rn_V (As := [.int a1]) (rest := []) ⟨hx, hb, hml, hown, hts⟩ (ctX3_isPiano l G cI cC cZ cR h x a1) (cwV 1 hts gX3_isWanted_X3_isPiano rfl rfl rfl (by decide +kernel) ⟨Nat.le_of_ble_eq_true rfl, Nat.le_of_ble_eq_true rfl⟩) (md_recv hK hP rfl) hK hP hD hN rfl hl.1 rfl (Nat.le_of_ble_eq_true rfl) dX3_isWanted_2) (fun H locs hP hD hS => ?_)
  refine lv_if_eq (tgt := 20) hx hb dX3_isWanted_5 (by decide) (fun c_1 => ?_) (fun c_1 => ?_)
  · refine lv_iconst (v := 0) hx hb dX3_isWanted_20 (by decide) ?_
    exact rt_r hx hb hr hlocks hP hD hS rfl ((show pX3_isWanted a1 a2 x = 0 by rw [pX3_isWanted, if_pos c_1]).symm.trans hres |>.symm) dX3_isWanted_21
  · refine lv_aload_n hx hb dX3_isWanted_8 rfl (lv_at hl 0 rfl) ?_
    refine md_get (ci := 3) (C := RX3) (T := TX3) (N := 13) (v := .int (x.1 2)) hx hb hts hin hown hK hP rfl 8 (by decide) k_57 rfl rfl rfl dX3_isWanted_9 ?_
    refine lv_iload_n hx hb dX3_isWanted_12 rfl (lv_at hl 1 rfl) ?_
    refine lv_ishr hx hb dX3_isWanted_13 ?_
    refine lv_iconst (v := 1) hx hb dX3_isWanted_14 (by decide) ?_
    refine lv_iand hx hb dX3_isWanted_15 ?_
    refine lv_iconst (v := 1) hx hb dX3_isWanted_16 (by decide) ?_
    refine lv_icmp_ne (tgt := 22) hx hb dX3_isWanted_17 (by decide) (fun c_2 => ?_) (fun c_2 => ?_)
    · refine lv_iload_n hx hb dX3_isWanted_22 rfl (lv_at hl 2 rfl) ?_
      refine lv_iconst (v := 3) hx hb dX3_isWanted_23 (by decide) ?_
      refine lv_icmp_ge (tgt := 45) hx hb dX3_isWanted_24 (by decide) (fun c_3 => ?_) (fun c_3 => ?_)
      · have t_3 := i_le (z := (3)) (w := (Int32.toInt a2)) c_3 (by decide) rfl
        refine lv_aload_n hx hb dX3_isWanted_45 rfl (lv_at hl 0 rfl) ?_
        refine lv_iload_n hx hb dX3_isWanted_46 rfl (lv_at hl 1 rfl) ?_
        refine go_i hD hS hA (rn_V (As := [.int a1]) (rest := []) ⟨hx, hb, hml, hown, hts⟩ (ctX3_isOpen l G cI cC cZ cR h x a1) (cwV 1 hts gX3_isWanted_X3_isOpen rfl rfl rfl (by decide +kernel) ⟨Nat.le_of_ble_eq_true rfl, Nat.le_of_ble_eq_true rfl⟩) (md_recv hK hP rfl) hK hP hD hN rfl hl.1 rfl (Nat.le_of_ble_eq_true rfl) dX3_isWanted_47) (fun H locs hP hD hS => ?_)
        refine lv_if_eq (tgt := 72) hx hb dX3_isWanted_50 (by decide) (fun c_4 => ?_) (fun c_4 => ?_)
        · refine lv_iconst (v := 0) hx hb dX3_isWanted_72 (by decide) ?_
          exact rt_r hx hb hr hlocks hP hD hS rfl ((show pX3_isWanted a1 a2 x = 0 by rw [pX3_isWanted, if_neg c_1, if_neg c_2, if_pos c_3, if_pos c_4]).symm.trans hres |>.symm) dX3_isWanted_73
        · refine lv_aload_n hx hb dX3_isWanted_53 rfl (lv_at hl 0 rfl) ?_
          refine lv_iload_n hx hb dX3_isWanted_54 rfl (lv_at hl 1 rfl) ?_
          refine lv_iconst (v := 1) hx hb dX3_isWanted_55 (by decide) ?_
          refine go_i hD hS hA (rn_V (As := [.int a1, .int 1]) (rest := []) ⟨hx, hb, hml, hown, hts⟩ (ctX3_pianoPart l G cI cC cZ cR h x a1 1 (by first | assumption | exact vp_in_iff.mpr ⟨by decide, by decide⟩ | exact vp_in_iff.mpr ⟨by omega, by omega⟩ | exact isPlace_in (by assumption) | exact has_in (by assumption) | exact isPlace3_in (by assumption) | exact isPiano_in (by assumption) | exact isOpen_in (by assumption)) (by first | assumption | exact vp_in_iff.mpr ⟨by decide, by decide⟩ | exact vp_in_iff.mpr ⟨by omega, by omega⟩ | exact isPlace_in (by assumption) | exact has_in (by assumption) | exact isPlace3_in (by assumption) | exact isPiano_in (by assumption) | exact isOpen_in (by assumption))) (cwV 2 hts gX3_isWanted_X3_pianoPart rfl rfl rfl (by decide +kernel) ⟨Nat.le_of_ble_eq_true rfl, Nat.le_of_ble_eq_true rfl⟩) (md_recv hK hP rfl) hK hP hD hN rfl hl.1 rfl (Nat.le_of_ble_eq_true rfl) dX3_isWanted_56) (fun H locs hP hD hS => ?_)
          refine lv_aload_n hx hb dX3_isWanted_59 rfl (lv_at hl 0 rfl) ?_
          refine md_get (ci := 3) (C := RX3) (T := TX3) (N := 13) (v := .ref (h 1)) hx hb hts hin hown hK hP rfl 0 (by decide) k_7 rfl rfl rfl dX3_isWanted_60 ?_
          refine lv_iconst (v := 5) hx hb dX3_isWanted_63 (by decide) ?_
          refine md_ia (v := x.2 0 (ix 5)) hx hb hK hP 0 0 rfl rfl (vp_in_iff.mpr ⟨by decide, by decide⟩) rfl dX3_isWanted_64 ?_
          refine lv_icmp_ge (tgt := 72) hx hb dX3_isWanted_65 (by decide) (fun c_5 => ?_) (fun c_5 => ?_)
          · have t_5 := i_le (z := (Int32.toInt (x.2 0 (ix 5)))) (w := (Int32.toInt (pX3_pianoPart a1 1 x))) c_5 rfl rfl
            refine lv_iconst (v := 0) hx hb dX3_isWanted_72 (by decide) ?_
            exact rt_r hx hb hr hlocks hP hD hS rfl ((show pX3_isWanted a1 a2 x = 0 by rw [pX3_isWanted, if_neg c_1, if_neg c_2, if_pos c_3, if_neg c_4, if_pos c_5]).symm.trans hres |>.symm) dX3_isWanted_73
          · have t_5 := i_nle (z := (Int32.toInt (x.2 0 (ix 5)))) (w := (Int32.toInt (pX3_pianoPart a1 1 x))) c_5 rfl rfl
            refine lv_iconst (v := 1) hx hb dX3_isWanted_68 (by decide) ?_
            refine lv_goto (tgt := 73) hx hb dX3_isWanted_69 (by decide) ?_
            exact rt_r hx hb hr hlocks hP hD hS rfl ((show pX3_isWanted a1 a2 x = 1 by rw [pX3_isWanted, if_neg c_1, if_neg c_2, if_pos c_3, if_neg c_4, if_neg c_5]).symm.trans hres |>.symm) dX3_isWanted_73
      · have t_3 := i_nle (z := (3)) (w := (Int32.toInt a2)) c_3 (by decide) rfl
        refine lv_aload_n hx hb dX3_isWanted_27 rfl (lv_at hl 0 rfl) ?_
        refine lv_iload_n hx hb dX3_isWanted_28 rfl (lv_at hl 1 rfl) ?_
        refine lv_iconst (v := 3) hx hb dX3_isWanted_29 (by decide) ?_
        refine go_i hD hS hA (rn_V (As := [.int a1, .int 3]) (rest := []) ⟨hx, hb, hml, hown, hts⟩ (ctX3_pianoPart l G cI cC cZ cR h x a1 3 (by first | assumption | exact vp_in_iff.mpr ⟨by decide, by decide⟩ | exact vp_in_iff.mpr ⟨by omega, by omega⟩ | exact isPlace_in (by assumption) | exact has_in (by assumption) | exact isPlace3_in (by assumption) | exact isPiano_in (by assumption) | exact isOpen_in (by assumption)) (by first | assumption | exact vp_in_iff.mpr ⟨by decide, by decide⟩ | exact vp_in_iff.mpr ⟨by omega, by omega⟩ | exact isPlace_in (by assumption) | exact has_in (by assumption) | exact isPlace3_in (by assumption) | exact isPiano_in (by assumption) | exact isOpen_in (by assumption))) (cwV 2 hts gX3_isWanted_X3_pianoPart rfl rfl rfl (by decide +kernel) ⟨Nat.le_of_ble_eq_true rfl, Nat.le_of_ble_eq_true rfl⟩) (md_recv hK hP rfl) hK hP hD hN rfl hl.1 rfl (Nat.le_of_ble_eq_true rfl) dX3_isWanted_30) (fun H locs hP hD hS => ?_)
        refine lv_iload_n hx hb dX3_isWanted_33 rfl (lv_at hl 2 rfl) ?_
        refine lv_icmp_ne (tgt := 41) hx hb dX3_isWanted_34 (by decide) (fun c_6 => ?_) (fun c_6 => ?_)
        · refine lv_iconst (v := 0) hx hb dX3_isWanted_41 (by decide) ?_
          refine lv_goto (tgt := 73) hx hb dX3_isWanted_42 (by decide) ?_
          exact rt_r hx hb hr hlocks hP hD hS rfl ((show pX3_isWanted a1 a2 x = 0 by rw [pX3_isWanted, if_neg c_1, if_neg c_2, if_neg c_3, if_neg c_6]).symm.trans hres |>.symm) dX3_isWanted_73
        · refine lv_iconst (v := 1) hx hb dX3_isWanted_37 (by decide) ?_
          refine lv_goto (tgt := 73) hx hb dX3_isWanted_38 (by decide) ?_
          exact rt_r hx hb hr hlocks hP hD hS rfl ((show pX3_isWanted a1 a2 x = 1 by rw [pX3_isWanted, if_neg c_1, if_neg c_2, if_neg c_3, if_pos c_6]).symm.trans hres |>.symm) dX3_isWanted_73
    · refine lv_iconst (v := 0) hx hb dX3_isWanted_20 (by decide) ?_
      exact rt_r hx hb hr hlocks hP hD hS rfl ((show pX3_isWanted a1 a2 x = 0 by rw [pX3_isWanted, if_neg c_1, if_pos c_2]).symm.trans hres |>.symm) dX3_isWanted_21
def pX3_nearest_L6 (a1 : Int32) (a2 : Int32) : Nat → Int32 → Int32 → SR → Int32
  | 0, v3, v4, x => 0
  | n + 1, v3, v4, x => if 12 ≤ v4 then v3
    else if (pX3_isWanted v4 a2 x) = 0 then pX3_nearest_L6 a1 a2 n v3 (v4 + 1) x
      else if v3 = (-6) then pX3_nearest_L6 a1 a2 n v4 (v4 + 1) x
        else if (pX3_size (v3 - (pX3_keeperPart a1 0 x))) ≤ (pX3_size (v4 - (pX3_keeperPart a1 0 x))) then pX3_nearest_L6 a1 a2 n v3 (v4 + 1) x
          else pX3_nearest_L6 a1 a2 n v4 (v4 + 1) x
def pX3_nearest (a1 : Int32) (a2 : Int32) (x : SR) : Int32 := pX3_nearest_L6 a1 a2 13 (-6) 0 x
set_option maxHeartbeats 4000000 in
set_option maxRecDepth 100000 in
theorem ctX3_nearest (l : Launch) (G : va_G) (cI cC cZ cR : ClassId) (h : Ad) (x : SR) (a1 : Int32) (a2 : Int32) (q_0 : vp_in a1 5) : Ct l yX3_nearest wsX3_nearest (rmz 5 106) G (TY cI cC cZ cR) [.ref (h 0), .int a1, .int a2] (wMo cI h x) (Qi G (wMo cI h x) (pX3_nearest a1 a2 x) (wMo cI h x)) := by
  refine Ct.ofI (cc := cX3_nearest) (maxL := 6) (ret := (some .int)) (by decide) rfl rfl ?_
  intro p e s m below meth c A ls E0 hP hD hS hl
  obtain ⟨hx, hb, hr, hml, hlocks, hts, hown, hK, hN, hA⟩ := E0
  have hl : lv_has ls 6 [(0, .ref (h 0)), (1, .int a1), (2, .int a2)] := hl
  have hin : ∀ w ∈ wsX30, w ∈ wsX3_nearest := fun w hw => List.mem_cons_of_mem _ (List.mem_append_right _ (hw))
  generalize hres : pX3_nearest a1 a2 x = res
  have lp_6 : ∀ (n : Nat) (v3 : Int32) (v4 : Int32), 0 ≤ Int32.toInt v4 → Int32.toInt v4 ≤ 12 → 12 - Int32.toInt v4 < (n : Int) → pX3_nearest_L6 a1 a2 n v3 v4 x = res → ∀ (H : Heap) (locs : List Loc) (ls : Array Slot), va_P G vwCl (wMo cI h x) H → va_D A (wMo cI h x) → va_S A s.heap H locs → lv_has ls 6 [(0, .ref (h 0)), (1, .int a1), (2, .int a2), (3, .int v3), (4, .int v4)] → W p l e (rmz 5 106) s m ([.ref (h 0), .int a1, .int a2] : List Value).toArray below meth c H locs 0 0 (MQ below (QiA G A res (wMo cI h x)) ([.ref (h 0), .int a1, .int a2] : List Value).toArray s 0 0 A) (F0 m 6 ls []) := by
    intro n
    induction n with
    | zero =>
      intro v3 v4 g_0 g_1 hm
      exfalso; omega
    | succ n ih =>
      intro v3 v4 g_0 g_1 hm hq H locs ls hP hD hS hl
      refine lv_iload hx hb dX3_nearest_6 (lv_at hl 4 rfl) ?_
      refine lv_bipush (v := 12) hx hb dX3_nearest_8 (by decide) ?_
      refine lv_icmp_ge (tgt := 80) hx hb dX3_nearest_10 (by decide) (fun c_1 => ?_) (fun c_1 => ?_)
      · have t_1 := i_le (z := (12)) (w := (Int32.toInt v4)) c_1 (by decide) rfl
        refine lv_iload_n hx hb dX3_nearest_80 rfl (lv_at hl 3 rfl) ?_
        exact rt_r hx hb hr hlocks hP hD hS rfl ((show pX3_nearest_L6 a1 a2 (n + 1) v3 v4 x = v3 by rw [pX3_nearest_L6, if_pos c_1]).symm.trans hq |>.symm) dX3_nearest_81
      · have t_1 := i_nle (z := (12)) (w := (Int32.toInt v4)) c_1 (by decide) rfl
        refine lv_aload_n hx hb dX3_nearest_13 rfl (lv_at hl 0 rfl) ?_
        refine lv_iload hx hb dX3_nearest_14 (lv_at hl 4 rfl) ?_
        refine lv_iload_n hx hb dX3_nearest_16 rfl (lv_at hl 2 rfl) ?_
        refine go_i hD hS hA (rn_V (As := [.int v4, .int a2]) (rest := []) ⟨hx, hb, hml, hown, hts⟩ (ctX3_isWanted l G cI cC cZ cR h x v4 a2) (cwV 2 hts gX3_nearest_X3_isWanted rfl rfl rfl (by decide +kernel) ⟨Nat.le_of_ble_eq_true rfl, Nat.le_of_ble_eq_true rfl⟩) (md_recv hK hP rfl) hK hP hD hN rfl hl.1 rfl (Nat.le_of_ble_eq_true rfl) dX3_nearest_17) (fun H locs hP hD hS => ?_)
        refine lv_if_eq (tgt := 59) hx hb dX3_nearest_20 (by decide) (fun c_2 => ?_) (fun c_2 => ?_)
        · refine lv_iconst (v := 0) hx hb dX3_nearest_59 (by decide) ?_
          refine lv_istore (lv' := [(5, .int 0), (0, .ref (h 0)), (1, .int a1), (2, .int a2), (3, .int v3), (4, .int v4)]) hx hb dX3_nearest_60 hl (by decide) rfl (fun ls hl => ?_)
          refine lv_iload hx hb dX3_nearest_62 (lv_at hl 0 rfl) ?_
          refine lv_if_eq (tgt := 72) hx hb dX3_nearest_64 (by decide) (fun cz => ?_) (fun cz => absurd cz (by decide))
          refine lv_iload_n hx hb dX3_nearest_72 rfl (lv_at hl 4 rfl) ?_
          refine lv_istore_n (lv' := [(3, .int v3), (5, .int 0), (0, .ref (h 0)), (1, .int a1), (2, .int a2), (4, .int v4)]) hx hb dX3_nearest_73 rfl hl (by decide) rfl (fun ls hl => ?_)
          refine lv_iinc (v := (v4 + 1)) (lv' := [(4, .int (v4 + 1)), (3, .int v3), (5, .int 0), (0, .ref (h 0)), (1, .int a1), (2, .int a2)]) hx hb dX3_nearest_74 hl (k := 5) rfl rfl (by decide) rfl (fun ls hl => ?_)
          have a_74 := i_add1 (a := v4) (by omega) (by omega)
          refine lv_goto (tgt := 6) hx hb dX3_nearest_77 (by decide) ?_
          exact ih v3 (v4 + 1) (by omega) (by omega) (by omega) ((show pX3_nearest_L6 a1 a2 (n + 1) v3 v4 x = pX3_nearest_L6 a1 a2 n v3 (v4 + 1) x by rw [pX3_nearest_L6, if_neg c_1, if_pos c_2]).symm.trans hq) _ _ _ hP hD hS (lv_sub hl [3, 4, 5, 1, 0] rfl)
        · refine lv_iload_n hx hb dX3_nearest_23 rfl (lv_at hl 3 rfl) ?_
          refine lv_bipush (v := (-6)) hx hb dX3_nearest_24 (by decide) ?_
          refine lv_icmp_eq (tgt := 55) hx hb dX3_nearest_26 (by decide) (fun c_3 => ?_) (fun c_3 => ?_)
          · refine lv_iconst (v := 1) hx hb dX3_nearest_55 (by decide) ?_
            refine lv_goto (tgt := 60) hx hb dX3_nearest_56 (by decide) ?_
            refine lv_istore (lv' := [(5, .int 1), (0, .ref (h 0)), (1, .int a1), (2, .int a2), (3, .int v3), (4, .int v4)]) hx hb dX3_nearest_60 hl (by decide) rfl (fun ls hl => ?_)
            refine lv_iload hx hb dX3_nearest_62 (lv_at hl 0 rfl) ?_
            refine lv_if_eq (tgt := 72) hx hb dX3_nearest_64 (by decide) (fun cz => absurd cz (by decide)) (fun cz => ?_)
            refine lv_iload hx hb dX3_nearest_67 (lv_at hl 5 rfl) ?_
            refine lv_goto (tgt := 73) hx hb dX3_nearest_69 (by decide) ?_
            refine lv_istore_n (lv' := [(3, .int v4), (5, .int 1), (0, .ref (h 0)), (1, .int a1), (2, .int a2), (4, .int v4)]) hx hb dX3_nearest_73 rfl hl (by decide) rfl (fun ls hl => ?_)
            refine lv_iinc (v := (v4 + 1)) (lv' := [(4, .int (v4 + 1)), (3, .int v4), (5, .int 1), (0, .ref (h 0)), (1, .int a1), (2, .int a2)]) hx hb dX3_nearest_74 hl (k := 5) rfl rfl (by decide) rfl (fun ls hl => ?_)
            have a_74 := i_add1 (a := v4) (by omega) (by omega)
            refine lv_goto (tgt := 6) hx hb dX3_nearest_77 (by decide) ?_
            exact ih v4 (v4 + 1) (by omega) (by omega) (by omega) ((show pX3_nearest_L6 a1 a2 (n + 1) v3 v4 x = pX3_nearest_L6 a1 a2 n v4 (v4 + 1) x by rw [pX3_nearest_L6, if_neg c_1, if_neg c_2, if_pos c_3]).symm.trans hq) _ _ _ hP hD hS (lv_sub hl [3, 4, 5, 1, 0] rfl)
          · refine lv_iload hx hb dX3_nearest_29 (lv_at hl 4 rfl) ?_
            refine lv_aload_n hx hb dX3_nearest_31 rfl (lv_at hl 0 rfl) ?_
            refine lv_iload_n hx hb dX3_nearest_32 rfl (lv_at hl 1 rfl) ?_
            refine lv_iconst (v := 0) hx hb dX3_nearest_33 (by decide) ?_
            refine go_i hD hS hA (rn_V (As := [.int a1, .int 0]) (rest := [.int v4]) ⟨hx, hb, hml, hown, hts⟩ (ctX3_keeperPart l G cI cC cZ cR h x a1 0 (by first | assumption | exact vp_in_iff.mpr ⟨by decide, by decide⟩ | exact vp_in_iff.mpr ⟨by omega, by omega⟩ | exact isPlace_in (by assumption) | exact has_in (by assumption) | exact isPlace3_in (by assumption) | exact isPiano_in (by assumption) | exact isOpen_in (by assumption)) (by first | assumption | exact vp_in_iff.mpr ⟨by decide, by decide⟩ | exact vp_in_iff.mpr ⟨by omega, by omega⟩ | exact isPlace_in (by assumption) | exact has_in (by assumption) | exact isPlace3_in (by assumption) | exact isPiano_in (by assumption) | exact isOpen_in (by assumption))) (cwV 2 hts gX3_nearest_X3_keeperPart rfl rfl rfl (by decide +kernel) ⟨Nat.le_of_ble_eq_true rfl, Nat.le_of_ble_eq_true rfl⟩) (md_recv hK hP rfl) hK hP hD hN rfl hl.1 rfl (Nat.le_of_ble_eq_true rfl) dX3_nearest_34) (fun H locs hP hD hS => ?_)
            refine lv_isub hx hb dX3_nearest_37 ?_
            refine gn_i hP hS hA (rn_S (As := [.int (v4 - (pX3_keeperPart a1 0 x))]) (rest := []) ⟨hx, hb, hml, hown, hts⟩ (ctX3_size l G cI cC cZ cR (v4 - (pX3_keeperPart a1 0 x))) (va_cwS 1 hts gX3_nearest_X3_size rfl rfl rfl (by decide +kernel) ⟨Nat.le_of_ble_eq_true rfl, Nat.le_of_ble_eq_true rfl⟩) hK nilP (nilD (A := A)) hN rfl hl.1 rfl (Nat.le_of_ble_eq_true rfl) dX3_nearest_38) (fun H locs hP hS => ?_)
            refine lv_iload_n hx hb dX3_nearest_41 rfl (lv_at hl 3 rfl) ?_
            refine lv_aload_n hx hb dX3_nearest_42 rfl (lv_at hl 0 rfl) ?_
            refine lv_iload_n hx hb dX3_nearest_43 rfl (lv_at hl 1 rfl) ?_
            refine lv_iconst (v := 0) hx hb dX3_nearest_44 (by decide) ?_
            refine go_i hD hS hA (rn_V (As := [.int a1, .int 0]) (rest := [.int v3, .int (pX3_size (v4 - (pX3_keeperPart a1 0 x)))]) ⟨hx, hb, hml, hown, hts⟩ (ctX3_keeperPart l G cI cC cZ cR h x a1 0 (by first | assumption | exact vp_in_iff.mpr ⟨by decide, by decide⟩ | exact vp_in_iff.mpr ⟨by omega, by omega⟩ | exact isPlace_in (by assumption) | exact has_in (by assumption) | exact isPlace3_in (by assumption) | exact isPiano_in (by assumption) | exact isOpen_in (by assumption)) (by first | assumption | exact vp_in_iff.mpr ⟨by decide, by decide⟩ | exact vp_in_iff.mpr ⟨by omega, by omega⟩ | exact isPlace_in (by assumption) | exact has_in (by assumption) | exact isPlace3_in (by assumption) | exact isPiano_in (by assumption) | exact isOpen_in (by assumption))) (cwV 2 hts gX3_nearest_X3_keeperPart rfl rfl rfl (by decide +kernel) ⟨Nat.le_of_ble_eq_true rfl, Nat.le_of_ble_eq_true rfl⟩) (md_recv hK hP rfl) hK hP hD hN rfl hl.1 rfl (Nat.le_of_ble_eq_true rfl) dX3_nearest_45) (fun H locs hP hD hS => ?_)
            refine lv_isub hx hb dX3_nearest_48 ?_
            refine gn_i hP hS hA (rn_S (As := [.int (v3 - (pX3_keeperPart a1 0 x))]) (rest := [.int (pX3_size (v4 - (pX3_keeperPart a1 0 x)))]) ⟨hx, hb, hml, hown, hts⟩ (ctX3_size l G cI cC cZ cR (v3 - (pX3_keeperPart a1 0 x))) (va_cwS 1 hts gX3_nearest_X3_size rfl rfl rfl (by decide +kernel) ⟨Nat.le_of_ble_eq_true rfl, Nat.le_of_ble_eq_true rfl⟩) hK nilP (nilD (A := A)) hN rfl hl.1 rfl (Nat.le_of_ble_eq_true rfl) dX3_nearest_49) (fun H locs hP hS => ?_)
            refine lv_icmp_ge (tgt := 59) hx hb dX3_nearest_52 (by decide) (fun c_4 => ?_) (fun c_4 => ?_)
            · have t_4 := i_le (z := (Int32.toInt (pX3_size (v3 - (pX3_keeperPart a1 0 x))))) (w := (Int32.toInt (pX3_size (v4 - (pX3_keeperPart a1 0 x))))) c_4 rfl rfl
              refine lv_iconst (v := 0) hx hb dX3_nearest_59 (by decide) ?_
              refine lv_istore (lv' := [(5, .int 0), (0, .ref (h 0)), (1, .int a1), (2, .int a2), (3, .int v3), (4, .int v4)]) hx hb dX3_nearest_60 hl (by decide) rfl (fun ls hl => ?_)
              refine lv_iload hx hb dX3_nearest_62 (lv_at hl 0 rfl) ?_
              refine lv_if_eq (tgt := 72) hx hb dX3_nearest_64 (by decide) (fun cz => ?_) (fun cz => absurd cz (by decide))
              refine lv_iload_n hx hb dX3_nearest_72 rfl (lv_at hl 4 rfl) ?_
              refine lv_istore_n (lv' := [(3, .int v3), (5, .int 0), (0, .ref (h 0)), (1, .int a1), (2, .int a2), (4, .int v4)]) hx hb dX3_nearest_73 rfl hl (by decide) rfl (fun ls hl => ?_)
              refine lv_iinc (v := (v4 + 1)) (lv' := [(4, .int (v4 + 1)), (3, .int v3), (5, .int 0), (0, .ref (h 0)), (1, .int a1), (2, .int a2)]) hx hb dX3_nearest_74 hl (k := 5) rfl rfl (by decide) rfl (fun ls hl => ?_)
              have a_74 := i_add1 (a := v4) (by omega) (by omega)
              refine lv_goto (tgt := 6) hx hb dX3_nearest_77 (by decide) ?_
              exact ih v3 (v4 + 1) (by omega) (by omega) (by omega) ((show pX3_nearest_L6 a1 a2 (n + 1) v3 v4 x = pX3_nearest_L6 a1 a2 n v3 (v4 + 1) x by rw [pX3_nearest_L6, if_neg c_1, if_neg c_2, if_neg c_3, if_pos c_4]).symm.trans hq) _ _ _ hP hD hS (lv_sub hl [3, 4, 5, 1, 0] rfl)
            · have t_4 := i_nle (z := (Int32.toInt (pX3_size (v3 - (pX3_keeperPart a1 0 x))))) (w := (Int32.toInt (pX3_size (v4 - (pX3_keeperPart a1 0 x))))) c_4 rfl rfl
              refine lv_iconst (v := 1) hx hb dX3_nearest_55 (by decide) ?_
              refine lv_goto (tgt := 60) hx hb dX3_nearest_56 (by decide) ?_
              refine lv_istore (lv' := [(5, .int 1), (0, .ref (h 0)), (1, .int a1), (2, .int a2), (3, .int v3), (4, .int v4)]) hx hb dX3_nearest_60 hl (by decide) rfl (fun ls hl => ?_)
              refine lv_iload hx hb dX3_nearest_62 (lv_at hl 0 rfl) ?_
              refine lv_if_eq (tgt := 72) hx hb dX3_nearest_64 (by decide) (fun cz => absurd cz (by decide)) (fun cz => ?_)
              refine lv_iload hx hb dX3_nearest_67 (lv_at hl 5 rfl) ?_
              refine lv_goto (tgt := 73) hx hb dX3_nearest_69 (by decide) ?_
              refine lv_istore_n (lv' := [(3, .int v4), (5, .int 1), (0, .ref (h 0)), (1, .int a1), (2, .int a2), (4, .int v4)]) hx hb dX3_nearest_73 rfl hl (by decide) rfl (fun ls hl => ?_)
              refine lv_iinc (v := (v4 + 1)) (lv' := [(4, .int (v4 + 1)), (3, .int v4), (5, .int 1), (0, .ref (h 0)), (1, .int a1), (2, .int a2)]) hx hb dX3_nearest_74 hl (k := 5) rfl rfl (by decide) rfl (fun ls hl => ?_)
              have a_74 := i_add1 (a := v4) (by omega) (by omega)
              refine lv_goto (tgt := 6) hx hb dX3_nearest_77 (by decide) ?_
              exact ih v4 (v4 + 1) (by omega) (by omega) (by omega) ((show pX3_nearest_L6 a1 a2 (n + 1) v3 v4 x = pX3_nearest_L6 a1 a2 n v4 (v4 + 1) x by rw [pX3_nearest_L6, if_neg c_1, if_neg c_2, if_neg c_3, if_neg c_4]).symm.trans hq) _ _ _ hP hD hS (lv_sub hl [3, 4, 5, 1, 0] rfl)
  refine lv_bipush (v := (-6)) hx hb dX3_nearest_0 (by decide) ?_
  refine lv_istore_n (lv' := [(3, .int (-6)), (0, .ref (h 0)), (1, .int a1), (2, .int a2)]) hx hb dX3_nearest_2 rfl hl (by decide) rfl (fun ls hl => ?_)
  refine lv_iconst (v := 0) hx hb dX3_nearest_3 (by decide) ?_
  refine lv_istore (lv' := [(4, .int 0), (3, .int (-6)), (0, .ref (h 0)), (1, .int a1), (2, .int a2)]) hx hb dX3_nearest_4 hl (by decide) rfl (fun ls hl => ?_)
  exact lp_6 13 (-6) 0 (by first | decide | omega | assumption) (by first | decide | omega | assumption) (by decide) ((show pX3_nearest a1 a2 x = pX3_nearest_L6 a1 a2 13 (-6) 0 x by rw [pX3_nearest]).symm.trans hres) _ _ _ hP hD hS (lv_sub hl [2, 3, 4, 1, 0] rfl)
