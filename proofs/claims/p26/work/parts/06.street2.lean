def pX1_goTowards (a1 : Int32) (a2 : Int32) (x : SR) : SR := if a2 ≤ (x.2 5 (ix a1)) then (pR (pR x 5 a1 ((x.2 5 (ix a1)) + (-1))) 9 a1 ((x.2 9 (ix a1)) + 1))
  else (pR (pR x 5 a1 ((x.2 5 (ix a1)) + 1)) 9 a1 ((x.2 9 (ix a1)) + 1))
set_option maxHeartbeats 4000000 in
set_option maxRecDepth 100000 in
theorem ctX1_goTowards (l : Launch) (G : va_G) (cI cC cZ cR : ClassId) (h : Ad) (x : SR) (a1 : Int32) (a2 : Int32) (q_0 : vp_in a1 5) : Ct l yX1_goTowards wsX1_goTowards (rmz 0 0) G (TY cI cC cZ cR) [.ref (h 0), .int a1, .int a2] (wSt cI h x) (Qv G (wSt cI h x) (wSt cI h (pX1_goTowards a1 a2 x))) := by
  refine Ct.ofV (cc := cX1_goTowards) (maxL := 3) (ret := none) (by decide) rfl rfl ?_
  intro p e s m below meth c A ls E0 hP hD hS hl
  obtain ⟨hx, hb, hr, hml, hlocks, hts, hown, hK, hN, hA⟩ := E0
  have hl : lv_has ls 3 [(0, .ref (h 0)), (1, .int a1), (2, .int a2)] := hl
  have hin : ∀ w ∈ wsX10, w ∈ wsX1_goTowards := fun w hw => List.mem_cons_of_mem _ (List.mem_append_right _ (hw))
  have k_40 : (Cond.fieldLink RX1 40 RX1 (TX1 9).2.1 (TX1 9).2.2.1).before ([.ref (h 0), .int a1, .int a2] : List Value).toArray s = true := hts _ (List.mem_of_getElem? (i := 1) rfl)
  have k_52 : (Cond.fieldLink RX1 52 RX1 (TX1 13).2.1 (TX1 13).2.2.1).before ([.ref (h 0), .int a1, .int a2] : List Value).toArray s = true := hts _ (List.mem_of_getElem? (i := 2) rfl)
  generalize hres : pX1_goTowards a1 a2 x = res
  refine lv_aload_n hx hb dX1_goTowards_0 rfl (lv_at hl 0 rfl) ?_
  refine md_get (ci := 1) (C := RX1) (T := TX1) (N := 18) (v := .ref (h 6)) hx hb hts hin hown hK hP rfl 9 (by decide) k_40 rfl rfl rfl dX1_goTowards_1 ?_
  refine lv_iload_n hx hb dX1_goTowards_4 rfl (lv_at hl 1 rfl) ?_
  refine lv_dup2_11 hx hb dX1_goTowards_5 rfl rfl ?_
  refine md_ia (v := x.2 5 (ix a1)) hx hb hK hP 5 0 rfl rfl (by first | assumption | decide | exact vp_in_iff.mpr ⟨by omega, by omega⟩ | exact isPlace_in (by assumption) | exact has_in (by assumption)) rfl dX1_goTowards_6 ?_
  refine lv_aload_n hx hb dX1_goTowards_7 rfl (lv_at hl 0 rfl) ?_
  refine md_get (ci := 1) (C := RX1) (T := TX1) (N := 18) (v := .ref (h 6)) hx hb hts hin hown hK hP rfl 9 (by decide) k_40 rfl rfl rfl dX1_goTowards_8 ?_
  refine lv_iload_n hx hb dX1_goTowards_11 rfl (lv_at hl 1 rfl) ?_
  refine md_ia (v := x.2 5 (ix a1)) hx hb hK hP 5 0 rfl rfl (by first | assumption | decide | exact vp_in_iff.mpr ⟨by omega, by omega⟩ | exact isPlace_in (by assumption) | exact has_in (by assumption)) rfl dX1_goTowards_12 ?_
  refine lv_iload_n hx hb dX1_goTowards_13 rfl (lv_at hl 2 rfl) ?_
  refine lv_icmp_ge (tgt := 21) hx hb dX1_goTowards_14 (by decide) (fun c_1 => ?_) (fun c_1 => ?_)
  · have t_1 := i_le (z := (Int32.toInt a2)) (w := (Int32.toInt (x.2 5 (ix a1)))) c_1 rfl rfl
    refine lv_iconst (v := (-1)) hx hb dX1_goTowards_21 (by decide) ?_
    refine lv_iadd hx hb dX1_goTowards_22 ?_
    refine md_is hx hb hK hP hD hS 5 0 rfl rfl (by first | assumption | decide | exact vp_in_iff.mpr ⟨by omega, by omega⟩ | exact isPlace_in (by assumption) | exact has_in (by assumption)) dX1_goTowards_23 (fun H locs hP hD hS => ?_)
    refine lv_aload_n hx hb dX1_goTowards_24 rfl (lv_at hl 0 rfl) ?_
    refine md_get (ci := 1) (C := RX1) (T := TX1) (N := 18) (v := .ref (h 10)) hx hb hts hin hown hK hP rfl 13 (by decide) k_52 rfl rfl rfl dX1_goTowards_25 ?_
    refine lv_iload_n hx hb dX1_goTowards_28 rfl (lv_at hl 1 rfl) ?_
    refine lv_dup2_11 hx hb dX1_goTowards_29 rfl rfl ?_
    refine md_ia (v := x.2 9 (ix a1)) hx hb hK hP 9 0 rfl rfl (by first | assumption | decide | exact vp_in_iff.mpr ⟨by omega, by omega⟩ | exact isPlace_in (by assumption) | exact has_in (by assumption)) rfl dX1_goTowards_30 ?_
    refine lv_iconst (v := 1) hx hb dX1_goTowards_31 (by decide) ?_
    refine lv_iadd hx hb dX1_goTowards_32 ?_
    refine md_is hx hb hK hP hD hS 9 0 rfl rfl (by first | assumption | decide | exact vp_in_iff.mpr ⟨by omega, by omega⟩ | exact isPlace_in (by assumption) | exact has_in (by assumption)) dX1_goTowards_33 (fun H locs hP hD hS => ?_)
    exact rt_s hx hb hr hlocks hP hD hS ((show pX1_goTowards a1 a2 x = (pR (pR x 5 a1 ((x.2 5 (ix a1)) + (-1))) 9 a1 ((x.2 9 (ix a1)) + 1)) by rw [pX1_goTowards, if_pos c_1]).symm.trans hres |>.symm) dX1_goTowards_34
  · have t_1 := i_nle (z := (Int32.toInt a2)) (w := (Int32.toInt (x.2 5 (ix a1)))) c_1 rfl rfl
    refine lv_iconst (v := 1) hx hb dX1_goTowards_17 (by decide) ?_
    refine lv_goto (tgt := 22) hx hb dX1_goTowards_18 (by decide) ?_
    refine lv_iadd hx hb dX1_goTowards_22 ?_
    refine md_is hx hb hK hP hD hS 5 0 rfl rfl (by first | assumption | decide | exact vp_in_iff.mpr ⟨by omega, by omega⟩ | exact isPlace_in (by assumption) | exact has_in (by assumption)) dX1_goTowards_23 (fun H locs hP hD hS => ?_)
    refine lv_aload_n hx hb dX1_goTowards_24 rfl (lv_at hl 0 rfl) ?_
    refine md_get (ci := 1) (C := RX1) (T := TX1) (N := 18) (v := .ref (h 10)) hx hb hts hin hown hK hP rfl 13 (by decide) k_52 rfl rfl rfl dX1_goTowards_25 ?_
    refine lv_iload_n hx hb dX1_goTowards_28 rfl (lv_at hl 1 rfl) ?_
    refine lv_dup2_11 hx hb dX1_goTowards_29 rfl rfl ?_
    refine md_ia (v := x.2 9 (ix a1)) hx hb hK hP 9 0 rfl rfl (by first | assumption | decide | exact vp_in_iff.mpr ⟨by omega, by omega⟩ | exact isPlace_in (by assumption) | exact has_in (by assumption)) rfl dX1_goTowards_30 ?_
    refine lv_iconst (v := 1) hx hb dX1_goTowards_31 (by decide) ?_
    refine lv_iadd hx hb dX1_goTowards_32 ?_
    refine md_is hx hb hK hP hD hS 9 0 rfl rfl (by first | assumption | decide | exact vp_in_iff.mpr ⟨by omega, by omega⟩ | exact isPlace_in (by assumption) | exact has_in (by assumption)) dX1_goTowards_33 (fun H locs hP hD hS => ?_)
    exact rt_s hx hb hr hlocks hP hD hS ((show pX1_goTowards a1 a2 x = (pR (pR x 5 a1 ((x.2 5 (ix a1)) + 1)) 9 a1 ((x.2 9 (ix a1)) + 1)) by rw [pX1_goTowards, if_neg c_1]).symm.trans hres |>.symm) dX1_goTowards_34
def pX1_tune (a1 : Int32) (a2 : Int32) (x : SR) : SR := (pR (pR x 1 a2 (mn 100 ((x.2 1 (ix a2)) + 10))) 8 a1 ((x.2 8 (ix a1)) + 1))
set_option maxHeartbeats 4000000 in
set_option maxRecDepth 100000 in
theorem ctX1_tune (l : Launch) (G : va_G) (cI cC cZ cR : ClassId) (h : Ad) (x : SR) (a1 : Int32) (a2 : Int32) (q_0 : vp_in a1 5) (q_1 : vp_in a2 12) : Ct l yX1_tune wsX1_tune (rmz 1 21) G (TY cI cC cZ cR) [.ref (h 0), .int a1, .int a2] (wSt cI h x) (Qv G (wSt cI h x) (wSt cI h (pX1_tune a1 a2 x))) := by
  refine Ct.ofV (cc := cX1_tune) (maxL := 3) (ret := none) (by decide) rfl rfl ?_
  intro p e s m below meth c A ls E0 hP hD hS hl
  obtain ⟨hx, hb, hr, hml, hlocks, hts, hown, hK, hN, hA⟩ := E0
  have hl : lv_has ls 3 [(0, .ref (h 0)), (1, .int a1), (2, .int a2)] := hl
  have hin : ∀ w ∈ wsX10, w ∈ wsX1_tune := fun w hw => List.mem_cons_of_mem _ (List.mem_append_right _ (hw))
  have k_25 : (Cond.fieldLink RX1 25 RX1 (TX1 4).2.1 (TX1 4).2.2.1).before ([.ref (h 0), .int a1, .int a2] : List Value).toArray s = true := hts _ (List.mem_of_getElem? (i := 1) rfl)
  have k_49 : (Cond.fieldLink RX1 49 RX1 (TX1 12).2.1 (TX1 12).2.2.1).before ([.ref (h 0), .int a1, .int a2] : List Value).toArray s = true := hts _ (List.mem_of_getElem? (i := 6) rfl)
  generalize hres : pX1_tune a1 a2 x = res
  refine lv_aload_n hx hb dX1_tune_0 rfl (lv_at hl 0 rfl) ?_
  refine md_get (ci := 1) (C := RX1) (T := TX1) (N := 18) (v := .ref (h 2)) hx hb hts hin hown hK hP rfl 4 (by decide) k_25 rfl rfl rfl dX1_tune_1 ?_
  refine lv_iload_n hx hb dX1_tune_4 rfl (lv_at hl 2 rfl) ?_
  refine lv_bipush (v := 100) hx hb dX1_tune_5 (by decide) ?_
  refine lv_aload_n hx hb dX1_tune_7 rfl (lv_at hl 0 rfl) ?_
  refine md_get (ci := 1) (C := RX1) (T := TX1) (N := 18) (v := .ref (h 2)) hx hb hts hin hown hK hP rfl 4 (by decide) k_25 rfl rfl rfl dX1_tune_8 ?_
  refine lv_iload_n hx hb dX1_tune_11 rfl (lv_at hl 2 rfl) ?_
  refine md_ia (v := x.2 1 (ix a2)) hx hb hK hP 1 0 rfl rfl (by first | assumption | decide | exact vp_in_iff.mpr ⟨by omega, by omega⟩ | exact isPlace_in (by assumption) | exact has_in (by assumption)) rfl dX1_tune_12 ?_
  refine lv_bipush (v := 10) hx hb dX1_tune_13 (by decide) ?_
  refine lv_iadd hx hb dX1_tune_15 ?_
  refine va_mmin hx hb (hml.trans hl.1.symm) hown (hts _ (List.mem_of_getElem? (i := 2) rfl)) (hts _ (List.mem_of_getElem? (i := 3) rfl)) (hts _ (List.mem_of_getElem? (i := 4) rfl)) (hts _ (List.mem_of_getElem? (i := 5) rfl)) (Nat.le_of_ble_eq_true rfl) (Nat.le_of_ble_eq_true rfl) (Nat.zero_le _) (Nat.zero_le _) dX1_tune_16 ?_
  refine W.eq (g2 := F0 m 19 ls (.int (mn 100 ((x.2 1 (ix a2)) + 10)) :: [.int a2, .ref (h 2)])) rfl ?_
  refine md_is hx hb hK hP hD hS 1 0 rfl rfl (by first | assumption | decide | exact vp_in_iff.mpr ⟨by omega, by omega⟩ | exact isPlace_in (by assumption) | exact has_in (by assumption)) dX1_tune_19 (fun H locs hP hD hS => ?_)
  refine lv_aload_n hx hb dX1_tune_20 rfl (lv_at hl 0 rfl) ?_
  refine md_get (ci := 1) (C := RX1) (T := TX1) (N := 18) (v := .ref (h 9)) hx hb hts hin hown hK hP rfl 12 (by decide) k_49 rfl rfl rfl dX1_tune_21 ?_
  refine lv_iload_n hx hb dX1_tune_24 rfl (lv_at hl 1 rfl) ?_
  refine lv_dup2_11 hx hb dX1_tune_25 rfl rfl ?_
  refine md_ia (v := x.2 8 (ix a1)) hx hb hK hP 8 0 rfl rfl (by first | assumption | decide | exact vp_in_iff.mpr ⟨by omega, by omega⟩ | exact isPlace_in (by assumption) | exact has_in (by assumption)) rfl dX1_tune_26 ?_
  refine lv_iconst (v := 1) hx hb dX1_tune_27 (by decide) ?_
  refine lv_iadd hx hb dX1_tune_28 ?_
  refine md_is hx hb hK hP hD hS 8 0 rfl rfl (by first | assumption | decide | exact vp_in_iff.mpr ⟨by omega, by omega⟩ | exact isPlace_in (by assumption) | exact has_in (by assumption)) dX1_tune_29 (fun H locs hP hD hS => ?_)
  exact rt_s hx hb hr hlocks hP hD hS ((show pX1_tune a1 a2 x = (pR (pR x 1 a2 (mn 100 ((x.2 1 (ix a2)) + 10))) 8 a1 ((x.2 8 (ix a1)) + 1)) by rw [pX1_tune]).symm.trans hres |>.symm) dX1_tune_30
def pX1_putCoverOn (a1 : Int32) (a2 : Int32) (x : SR) : SR := (pR (pS (pS x 1 ((x.1 1) &&& ((1 <<< (a2 &&& 31)) ^^^ (-1)))) 2 ((x.1 2) ||| (1 <<< (a2 &&& 31)))) 6 a1 ((x.2 6 (ix a1)) + 1))
set_option maxHeartbeats 4000000 in
set_option maxRecDepth 100000 in
theorem ctX1_putCoverOn (l : Launch) (G : va_G) (cI cC cZ cR : ClassId) (h : Ad) (x : SR) (a1 : Int32) (a2 : Int32) (q_0 : vp_in a1 5) : Ct l yX1_putCoverOn wsX1_putCoverOn (rmz 0 0) G (TY cI cC cZ cR) [.ref (h 0), .int a1, .int a2] (wSt cI h x) (Qv G (wSt cI h x) (wSt cI h (pX1_putCoverOn a1 a2 x))) := by
  refine Ct.ofV (cc := cX1_putCoverOn) (maxL := 3) (ret := none) (by decide) rfl rfl ?_
  intro p e s m below meth c A ls E0 hP hD hS hl
  obtain ⟨hx, hb, hr, hml, hlocks, hts, hown, hK, hN, hA⟩ := E0
  have hl : lv_has ls 3 [(0, .ref (h 0)), (1, .int a1), (2, .int a2)] := hl
  have hin : ∀ w ∈ wsX10, w ∈ wsX1_putCoverOn := fun w hw => List.mem_cons_of_mem _ (List.mem_append_right _ (hw))
  have k_19 : (Cond.fieldLink RX1 19 RX1 (TX1 2).2.1 (TX1 2).2.2.1).before ([.ref (h 0), .int a1, .int a2] : List Value).toArray s = true := hts _ (List.mem_of_getElem? (i := 1) rfl)
  have k_22 : (Cond.fieldLink RX1 22 RX1 (TX1 3).2.1 (TX1 3).2.2.1).before ([.ref (h 0), .int a1, .int a2] : List Value).toArray s = true := hts _ (List.mem_of_getElem? (i := 2) rfl)
  have k_43 : (Cond.fieldLink RX1 43 RX1 (TX1 10).2.1 (TX1 10).2.2.1).before ([.ref (h 0), .int a1, .int a2] : List Value).toArray s = true := hts _ (List.mem_of_getElem? (i := 3) rfl)
  generalize hres : pX1_putCoverOn a1 a2 x = res
  refine lv_aload_n hx hb dX1_putCoverOn_0 rfl (lv_at hl 0 rfl) ?_
  refine lv_dup hx hb dX1_putCoverOn_1 rfl ?_
  refine md_get (ci := 1) (C := RX1) (T := TX1) (N := 18) (v := .int (x.1 1)) hx hb hts hin hown hK hP rfl 2 (by decide) k_19 rfl rfl rfl dX1_putCoverOn_2 ?_
  refine lv_iconst (v := 1) hx hb dX1_putCoverOn_5 (by decide) ?_
  refine lv_iload_n hx hb dX1_putCoverOn_6 rfl (lv_at hl 2 rfl) ?_
  refine lv_ishl hx hb dX1_putCoverOn_7 ?_
  refine lv_iconst (v := (-1)) hx hb dX1_putCoverOn_8 (by decide) ?_
  refine lv_ixor hx hb dX1_putCoverOn_9 ?_
  refine lv_iand hx hb dX1_putCoverOn_10 ?_
  refine md_put (ci := 1) (C := RX1) (T := TX1) (N := 18) hx hb hts hin tyX1 tyX1_ok nmX1 hown hK hP hD hS rfl 2 (by decide) k_19 rfl rfl (q := 1) rfl (fu (by decide)) rfl rfl dX1_putCoverOn_11 (fun H locs hP hD hS => ?_)
  refine lv_aload_n hx hb dX1_putCoverOn_14 rfl (lv_at hl 0 rfl) ?_
  refine lv_dup hx hb dX1_putCoverOn_15 rfl ?_
  refine md_get (ci := 1) (C := RX1) (T := TX1) (N := 18) (v := .int (x.1 2)) hx hb hts hin hown hK hP rfl 3 (by decide) k_22 rfl rfl rfl dX1_putCoverOn_16 ?_
  refine lv_iconst (v := 1) hx hb dX1_putCoverOn_19 (by decide) ?_
  refine lv_iload_n hx hb dX1_putCoverOn_20 rfl (lv_at hl 2 rfl) ?_
  refine lv_ishl hx hb dX1_putCoverOn_21 ?_
  refine lv_ior hx hb dX1_putCoverOn_22 ?_
  refine md_put (ci := 1) (C := RX1) (T := TX1) (N := 18) hx hb hts hin tyX1 tyX1_ok nmX1 hown hK hP hD hS rfl 3 (by decide) k_22 rfl rfl (q := 2) rfl (fu (by decide)) rfl rfl dX1_putCoverOn_23 (fun H locs hP hD hS => ?_)
  refine lv_aload_n hx hb dX1_putCoverOn_26 rfl (lv_at hl 0 rfl) ?_
  refine md_get (ci := 1) (C := RX1) (T := TX1) (N := 18) (v := .ref (h 7)) hx hb hts hin hown hK hP rfl 10 (by decide) k_43 rfl rfl rfl dX1_putCoverOn_27 ?_
  refine lv_iload_n hx hb dX1_putCoverOn_30 rfl (lv_at hl 1 rfl) ?_
  refine lv_dup2_11 hx hb dX1_putCoverOn_31 rfl rfl ?_
  refine md_ia (v := x.2 6 (ix a1)) hx hb hK hP 6 0 rfl rfl (by first | assumption | decide | exact vp_in_iff.mpr ⟨by omega, by omega⟩ | exact isPlace_in (by assumption) | exact has_in (by assumption)) rfl dX1_putCoverOn_32 ?_
  refine lv_iconst (v := 1) hx hb dX1_putCoverOn_33 (by decide) ?_
  refine lv_iadd hx hb dX1_putCoverOn_34 ?_
  refine md_is hx hb hK hP hD hS 6 0 rfl rfl (by first | assumption | decide | exact vp_in_iff.mpr ⟨by omega, by omega⟩ | exact isPlace_in (by assumption) | exact has_in (by assumption)) dX1_putCoverOn_35 (fun H locs hP hD hS => ?_)
  exact rt_s hx hb hr hlocks hP hD hS ((show pX1_putCoverOn a1 a2 x = (pR (pS (pS x 1 ((x.1 1) &&& ((1 <<< (a2 &&& 31)) ^^^ (-1)))) 2 ((x.1 2) ||| (1 <<< (a2 &&& 31)))) 6 a1 ((x.2 6 (ix a1)) + 1)) by rw [pX1_putCoverOn]).symm.trans hres |>.symm) dX1_putCoverOn_36
def pX1_takeCoverOff (a1 : Int32) (a2 : Int32) (x : SR) : SR := (pR (pS (pS x 2 ((x.1 2) &&& ((1 <<< (a2 &&& 31)) ^^^ (-1)))) 1 ((x.1 1) ||| (1 <<< (a2 &&& 31)))) 7 a1 ((x.2 7 (ix a1)) + 1))
set_option maxHeartbeats 4000000 in
set_option maxRecDepth 100000 in
theorem ctX1_takeCoverOff (l : Launch) (G : va_G) (cI cC cZ cR : ClassId) (h : Ad) (x : SR) (a1 : Int32) (a2 : Int32) (q_0 : vp_in a1 5) : Ct l yX1_takeCoverOff wsX1_takeCoverOff (rmz 0 0) G (TY cI cC cZ cR) [.ref (h 0), .int a1, .int a2] (wSt cI h x) (Qv G (wSt cI h x) (wSt cI h (pX1_takeCoverOff a1 a2 x))) := by
  refine Ct.ofV (cc := cX1_takeCoverOff) (maxL := 3) (ret := none) (by decide) rfl rfl ?_
  intro p e s m below meth c A ls E0 hP hD hS hl
  obtain ⟨hx, hb, hr, hml, hlocks, hts, hown, hK, hN, hA⟩ := E0
  have hl : lv_has ls 3 [(0, .ref (h 0)), (1, .int a1), (2, .int a2)] := hl
  have hin : ∀ w ∈ wsX10, w ∈ wsX1_takeCoverOff := fun w hw => List.mem_cons_of_mem _ (List.mem_append_right _ (hw))
  have k_22 : (Cond.fieldLink RX1 22 RX1 (TX1 3).2.1 (TX1 3).2.2.1).before ([.ref (h 0), .int a1, .int a2] : List Value).toArray s = true := hts _ (List.mem_of_getElem? (i := 1) rfl)
  have k_19 : (Cond.fieldLink RX1 19 RX1 (TX1 2).2.1 (TX1 2).2.2.1).before ([.ref (h 0), .int a1, .int a2] : List Value).toArray s = true := hts _ (List.mem_of_getElem? (i := 2) rfl)
  have k_46 : (Cond.fieldLink RX1 46 RX1 (TX1 11).2.1 (TX1 11).2.2.1).before ([.ref (h 0), .int a1, .int a2] : List Value).toArray s = true := hts _ (List.mem_of_getElem? (i := 3) rfl)
  generalize hres : pX1_takeCoverOff a1 a2 x = res
  refine lv_aload_n hx hb dX1_takeCoverOff_0 rfl (lv_at hl 0 rfl) ?_
  refine lv_dup hx hb dX1_takeCoverOff_1 rfl ?_
  refine md_get (ci := 1) (C := RX1) (T := TX1) (N := 18) (v := .int (x.1 2)) hx hb hts hin hown hK hP rfl 3 (by decide) k_22 rfl rfl rfl dX1_takeCoverOff_2 ?_
  refine lv_iconst (v := 1) hx hb dX1_takeCoverOff_5 (by decide) ?_
  refine lv_iload_n hx hb dX1_takeCoverOff_6 rfl (lv_at hl 2 rfl) ?_
  refine lv_ishl hx hb dX1_takeCoverOff_7 ?_
  refine lv_iconst (v := (-1)) hx hb dX1_takeCoverOff_8 (by decide) ?_
  refine lv_ixor hx hb dX1_takeCoverOff_9 ?_
  refine lv_iand hx hb dX1_takeCoverOff_10 ?_
  refine md_put (ci := 1) (C := RX1) (T := TX1) (N := 18) hx hb hts hin tyX1 tyX1_ok nmX1 hown hK hP hD hS rfl 3 (by decide) k_22 rfl rfl (q := 2) rfl (fu (by decide)) rfl rfl dX1_takeCoverOff_11 (fun H locs hP hD hS => ?_)
  refine lv_aload_n hx hb dX1_takeCoverOff_14 rfl (lv_at hl 0 rfl) ?_
  refine lv_dup hx hb dX1_takeCoverOff_15 rfl ?_
  refine md_get (ci := 1) (C := RX1) (T := TX1) (N := 18) (v := .int (x.1 1)) hx hb hts hin hown hK hP rfl 2 (by decide) k_19 rfl rfl rfl dX1_takeCoverOff_16 ?_
  refine lv_iconst (v := 1) hx hb dX1_takeCoverOff_19 (by decide) ?_
  refine lv_iload_n hx hb dX1_takeCoverOff_20 rfl (lv_at hl 2 rfl) ?_
  refine lv_ishl hx hb dX1_takeCoverOff_21 ?_
  refine lv_ior hx hb dX1_takeCoverOff_22 ?_
  refine md_put (ci := 1) (C := RX1) (T := TX1) (N := 18) hx hb hts hin tyX1 tyX1_ok nmX1 hown hK hP hD hS rfl 2 (by decide) k_19 rfl rfl (q := 1) rfl (fu (by decide)) rfl rfl dX1_takeCoverOff_23 (fun H locs hP hD hS => ?_)
  refine lv_aload_n hx hb dX1_takeCoverOff_26 rfl (lv_at hl 0 rfl) ?_
  refine md_get (ci := 1) (C := RX1) (T := TX1) (N := 18) (v := .ref (h 8)) hx hb hts hin hown hK hP rfl 11 (by decide) k_46 rfl rfl rfl dX1_takeCoverOff_27 ?_
  refine lv_iload_n hx hb dX1_takeCoverOff_30 rfl (lv_at hl 1 rfl) ?_
  refine lv_dup2_11 hx hb dX1_takeCoverOff_31 rfl rfl ?_
  refine md_ia (v := x.2 7 (ix a1)) hx hb hK hP 7 0 rfl rfl (by first | assumption | decide | exact vp_in_iff.mpr ⟨by omega, by omega⟩ | exact isPlace_in (by assumption) | exact has_in (by assumption)) rfl dX1_takeCoverOff_32 ?_
  refine lv_iconst (v := 1) hx hb dX1_takeCoverOff_33 (by decide) ?_
  refine lv_iadd hx hb dX1_takeCoverOff_34 ?_
  refine md_is hx hb hK hP hD hS 7 0 rfl rfl (by first | assumption | decide | exact vp_in_iff.mpr ⟨by omega, by omega⟩ | exact isPlace_in (by assumption) | exact has_in (by assumption)) dX1_takeCoverOff_35 (fun H locs hP hD hS => ?_)
  exact rt_s hx hb hr hlocks hP hD hS ((show pX1_takeCoverOff a1 a2 x = (pR (pS (pS x 2 ((x.1 2) &&& ((1 <<< (a2 &&& 31)) ^^^ (-1)))) 1 ((x.1 1) ||| (1 <<< (a2 &&& 31)))) 7 a1 ((x.2 7 (ix a1)) + 1)) by rw [pX1_takeCoverOff]).symm.trans hres |>.symm) dX1_takeCoverOff_36
def pX1_letRainFall_L2 : Nat → Int32 → SR → SR
  | 0, v1, x => x
  | n + 1, v1, x => if 12 ≤ v1 then x
    else if (pX2_has (pX1_openOnes x) v1) = 0 then pX1_letRainFall_L2 n (v1 + 1) x
      else pX1_letRainFall_L2 n (v1 + 1) (pR (pR (pR x 2 v1 (mn 100 ((x.2 2 (ix v1)) + (x.2 0 (ix 1))))) 1 v1 (mx 0 ((x.2 1 (ix v1)) - (x.2 0 (ix 3))))) 4 v1 ((x.2 4 (ix v1)) + 1))
def pX1_letRainFall (x : SR) : SR := pX1_letRainFall_L2 13 0 x
set_option maxHeartbeats 4000000 in
set_option maxRecDepth 100000 in
theorem ctX1_letRainFall (l : Launch) (G : va_G) (cI cC cZ cR : ClassId) (h : Ad) (x : SR) : Ct l yX1_letRainFall wsX1_letRainFall (rmz 1 21) G (TY cI cC cZ cR) [.ref (h 0)] (wSt cI h x) (Qv G (wSt cI h x) (wSt cI h (pX1_letRainFall x))) := by
  refine Ct.ofV (cc := cX1_letRainFall) (maxL := 2) (ret := none) (by decide) rfl rfl ?_
  intro p e s m below meth c A ls E0 hP hD hS hl
  obtain ⟨hx, hb, hr, hml, hlocks, hts, hown, hK, hN, hA⟩ := E0
  have hl : lv_has ls 2 [(0, .ref (h 0))] := hl
  have hin : ∀ w ∈ wsX10, w ∈ wsX1_letRainFall := fun w hw => List.mem_cons_of_mem _ (List.mem_append_right _ (hw))
  have k_28 : (Cond.fieldLink RX1 28 RX1 (TX1 5).2.1 (TX1 5).2.2.1).before ([.ref (h 0)] : List Value).toArray s = true := hts _ (List.mem_of_getElem? (i := 1) rfl)
  have k_9 : (Cond.fieldLink RX1 9 RX1 (TX1 0).2.1 (TX1 0).2.2.1).before ([.ref (h 0)] : List Value).toArray s = true := hts _ (List.mem_of_getElem? (i := 2) rfl)
  have k_25 : (Cond.fieldLink RX1 25 RX1 (TX1 4).2.1 (TX1 4).2.2.1).before ([.ref (h 0)] : List Value).toArray s = true := hts _ (List.mem_of_getElem? (i := 7) rfl)
  have k_34 : (Cond.fieldLink RX1 34 RX1 (TX1 7).2.1 (TX1 7).2.2.1).before ([.ref (h 0)] : List Value).toArray s = true := hts _ (List.mem_of_getElem? (i := 11) rfl)
  generalize hres : pX1_letRainFall x = res
  have lp_2 : ∀ (n : Nat) (v1 : Int32) (x : SR), 0 ≤ Int32.toInt v1 → Int32.toInt v1 ≤ 12 → 12 - Int32.toInt v1 < (n : Int) → pX1_letRainFall_L2 n v1 x = res → ∀ (H : Heap) (locs : List Loc) (ls : Array Slot), va_P G vwCl (wSt cI h x) H → va_D A (wSt cI h x) → va_S A s.heap H locs → lv_has ls 2 [(0, .ref (h 0)), (1, .int v1)] → W p l e (rmz 1 21) s m ([.ref (h 0)] : List Value).toArray below meth c H locs 0 0 (MQ below (QvA G A (wSt cI h res)) ([.ref (h 0)] : List Value).toArray s 0 0 A) (F0 m 2 ls []) := by
    intro n
    induction n with
    | zero =>
      intro v1 x g_0 g_1 hm
      exfalso; omega
    | succ n ih =>
      intro v1 x g_0 g_1 hm hq H locs ls hP hD hS hl
      refine lv_iload_n hx hb dX1_letRainFall_2 rfl (lv_at hl 1 rfl) ?_
      refine lv_bipush (v := 12) hx hb dX1_letRainFall_3 (by decide) ?_
      refine lv_icmp_ge (tgt := 82) hx hb dX1_letRainFall_5 (by decide) (fun c_1 => ?_) (fun c_1 => ?_)
      · have t_1 := i_le (z := (12)) (w := (Int32.toInt v1)) c_1 (by decide) rfl
        exact rt_s hx hb hr hlocks hP hD hS ((show pX1_letRainFall_L2 (n + 1) v1 x = x by rw [pX1_letRainFall_L2, if_pos c_1]).symm.trans hq |>.symm) dX1_letRainFall_82
      · have t_1 := i_nle (z := (12)) (w := (Int32.toInt v1)) c_1 (by decide) rfl
        refine lv_aload_n hx hb dX1_letRainFall_8 rfl (lv_at hl 0 rfl) ?_
        refine go_i hD hS hA (rn_V (As := []) (rest := []) ⟨hx, hb, hml, hown, hts⟩ (ctX1_openOnes l G cI cC cZ cR h x) (cwV 0 hts gX1_letRainFall_X1_openOnes rfl rfl rfl (by decide +kernel) ⟨Nat.le_of_ble_eq_true rfl, Nat.le_of_ble_eq_true rfl⟩) (md_recv hK hP rfl) hK hP hD hN rfl hl.1 rfl (Nat.le_of_ble_eq_true rfl) dX1_letRainFall_9) (fun H locs hP hD hS => ?_)
        refine lv_iload_n hx hb dX1_letRainFall_12 rfl (lv_at hl 1 rfl) ?_
        refine gn_i hP hS hA (rn_SN (As := [.int (pX1_openOnes x), .int v1]) (rest := []) ⟨hx, hb, hml, hown, hts⟩ (ctX2_has l G cI cC cZ cR (pX1_openOnes x) v1) ⟨va_cnB 2 hts gX1_letRainFall_X2_has_n87 rfl rfl rfl (NWs.nw hN 28 rfl) (hts _ (List.mem_of_getElem? (i := 20) rfl)) (by decide +kernel) ⟨Nat.le_of_ble_eq_true rfl, Nat.le_of_ble_eq_true rfl⟩, hts _ (List.mem_of_getElem? (i := 19) rfl), trivial⟩ hK nilP (nilD (A := A)) hN rfl hl.1 rfl (Nat.le_of_ble_eq_true rfl) dX1_letRainFall_13) (fun H locs hP hS => ?_)
        refine lv_if_eq (tgt := 76) hx hb dX1_letRainFall_16 (by decide) (fun c_2 => ?_) (fun c_2 => ?_)
        · refine lv_iinc (v := (v1 + 1)) (lv' := [(1, .int (v1 + 1)), (0, .ref (h 0))]) hx hb dX1_letRainFall_76 hl (k := 1) rfl rfl (by decide) rfl (fun ls hl => ?_)
          have a_76 := i_add1 (a := v1) (by omega) (by omega)
          refine lv_goto (tgt := 2) hx hb dX1_letRainFall_79 (by decide) ?_
          exact ih (v1 + 1) x (by omega) (by omega) (by omega) ((show pX1_letRainFall_L2 (n + 1) v1 x = pX1_letRainFall_L2 n (v1 + 1) x by rw [pX1_letRainFall_L2, if_neg c_1, if_pos c_2]).symm.trans hq) _ _ _ hP hD hS (lv_sub hl [1, 0] rfl)
        · refine lv_aload_n hx hb dX1_letRainFall_19 rfl (lv_at hl 0 rfl) ?_
          refine md_get (ci := 1) (C := RX1) (T := TX1) (N := 18) (v := .ref (h 3)) hx hb hts hin hown hK hP rfl 5 (by decide) k_28 rfl rfl rfl dX1_letRainFall_20 ?_
          refine lv_iload_n hx hb dX1_letRainFall_23 rfl (lv_at hl 1 rfl) ?_
          refine lv_bipush (v := 100) hx hb dX1_letRainFall_24 (by decide) ?_
          refine lv_aload_n hx hb dX1_letRainFall_26 rfl (lv_at hl 0 rfl) ?_
          refine md_get (ci := 1) (C := RX1) (T := TX1) (N := 18) (v := .ref (h 3)) hx hb hts hin hown hK hP rfl 5 (by decide) k_28 rfl rfl rfl dX1_letRainFall_27 ?_
          refine lv_iload_n hx hb dX1_letRainFall_30 rfl (lv_at hl 1 rfl) ?_
          refine md_ia (v := x.2 2 (ix v1)) hx hb hK hP 2 0 rfl rfl (by first | assumption | decide | exact vp_in_iff.mpr ⟨by omega, by omega⟩ | exact isPlace_in (by assumption) | exact has_in (by assumption)) rfl dX1_letRainFall_31 ?_
          refine lv_aload_n hx hb dX1_letRainFall_32 rfl (lv_at hl 0 rfl) ?_
          refine md_get (ci := 1) (C := RX1) (T := TX1) (N := 18) (v := .ref (h 1)) hx hb hts hin hown hK hP rfl 0 (by decide) k_9 rfl rfl rfl dX1_letRainFall_33 ?_
          refine lv_iconst (v := 1) hx hb dX1_letRainFall_36 (by decide) ?_
          refine md_ia (v := x.2 0 (ix 1)) hx hb hK hP 0 0 rfl rfl (vp_in_iff.mpr ⟨by decide, by decide⟩) rfl dX1_letRainFall_37 ?_
          refine lv_iadd hx hb dX1_letRainFall_38 ?_
          refine va_mmin hx hb (hml.trans hl.1.symm) hown (hts _ (List.mem_of_getElem? (i := 3) rfl)) (hts _ (List.mem_of_getElem? (i := 4) rfl)) (hts _ (List.mem_of_getElem? (i := 5) rfl)) (hts _ (List.mem_of_getElem? (i := 6) rfl)) (Nat.le_of_ble_eq_true rfl) (Nat.le_of_ble_eq_true rfl) (Nat.zero_le _) (Nat.zero_le _) dX1_letRainFall_39 ?_
          refine W.eq (g2 := F0 m 42 ls (.int (mn 100 ((x.2 2 (ix v1)) + (x.2 0 (ix 1)))) :: [.int v1, .ref (h 3)])) rfl ?_
          refine md_is hx hb hK hP hD hS 2 0 rfl rfl (by first | assumption | decide | exact vp_in_iff.mpr ⟨by omega, by omega⟩ | exact isPlace_in (by assumption) | exact has_in (by assumption)) dX1_letRainFall_42 (fun H locs hP hD hS => ?_)
          refine lv_aload_n hx hb dX1_letRainFall_43 rfl (lv_at hl 0 rfl) ?_
          refine md_get (ci := 1) (C := RX1) (T := TX1) (N := 18) (v := .ref (h 2)) hx hb hts hin hown hK hP rfl 4 (by decide) k_25 rfl rfl rfl dX1_letRainFall_44 ?_
          refine lv_iload_n hx hb dX1_letRainFall_47 rfl (lv_at hl 1 rfl) ?_
          refine lv_iconst (v := 0) hx hb dX1_letRainFall_48 (by decide) ?_
          refine lv_aload_n hx hb dX1_letRainFall_49 rfl (lv_at hl 0 rfl) ?_
          refine md_get (ci := 1) (C := RX1) (T := TX1) (N := 18) (v := .ref (h 2)) hx hb hts hin hown hK hP rfl 4 (by decide) k_25 rfl rfl rfl dX1_letRainFall_50 ?_
          refine lv_iload_n hx hb dX1_letRainFall_53 rfl (lv_at hl 1 rfl) ?_
          refine md_ia (v := x.2 1 (ix v1)) hx hb hK hP 1 0 rfl rfl (by first | assumption | decide | exact vp_in_iff.mpr ⟨by omega, by omega⟩ | exact isPlace_in (by assumption) | exact has_in (by assumption)) rfl dX1_letRainFall_54 ?_
          refine lv_aload_n hx hb dX1_letRainFall_55 rfl (lv_at hl 0 rfl) ?_
          refine md_get (ci := 1) (C := RX1) (T := TX1) (N := 18) (v := .ref (h 1)) hx hb hts hin hown hK hP rfl 0 (by decide) k_9 rfl rfl rfl dX1_letRainFall_56 ?_
          refine lv_iconst (v := 3) hx hb dX1_letRainFall_59 (by decide) ?_
          refine md_ia (v := x.2 0 (ix 3)) hx hb hK hP 0 0 rfl rfl (vp_in_iff.mpr ⟨by decide, by decide⟩) rfl dX1_letRainFall_60 ?_
          refine lv_isub hx hb dX1_letRainFall_61 ?_
          refine va_mmax hx hb (hml.trans hl.1.symm) hown (hts _ (List.mem_of_getElem? (i := 8) rfl)) (hts _ (List.mem_of_getElem? (i := 9) rfl)) (hts _ (List.mem_of_getElem? (i := 5) rfl)) (hts _ (List.mem_of_getElem? (i := 10) rfl)) (Nat.le_of_ble_eq_true rfl) (Nat.le_of_ble_eq_true rfl) (Nat.zero_le _) (Nat.zero_le _) dX1_letRainFall_62 ?_
          refine W.eq (g2 := F0 m 65 ls (.int (mx 0 ((x.2 1 (ix v1)) - (x.2 0 (ix 3)))) :: [.int v1, .ref (h 2)])) rfl ?_
          refine md_is hx hb hK hP hD hS 1 0 rfl rfl (by first | assumption | decide | exact vp_in_iff.mpr ⟨by omega, by omega⟩ | exact isPlace_in (by assumption) | exact has_in (by assumption)) dX1_letRainFall_65 (fun H locs hP hD hS => ?_)
          refine lv_aload_n hx hb dX1_letRainFall_66 rfl (lv_at hl 0 rfl) ?_
          refine md_get (ci := 1) (C := RX1) (T := TX1) (N := 18) (v := .ref (h 5)) hx hb hts hin hown hK hP rfl 7 (by decide) k_34 rfl rfl rfl dX1_letRainFall_67 ?_
          refine lv_iload_n hx hb dX1_letRainFall_70 rfl (lv_at hl 1 rfl) ?_
          refine lv_dup2_11 hx hb dX1_letRainFall_71 rfl rfl ?_
          refine md_ia (v := x.2 4 (ix v1)) hx hb hK hP 4 0 rfl rfl (by first | assumption | decide | exact vp_in_iff.mpr ⟨by omega, by omega⟩ | exact isPlace_in (by assumption) | exact has_in (by assumption)) rfl dX1_letRainFall_72 ?_
          refine lv_iconst (v := 1) hx hb dX1_letRainFall_73 (by decide) ?_
          refine lv_iadd hx hb dX1_letRainFall_74 ?_
          refine md_is hx hb hK hP hD hS 4 0 rfl rfl (by first | assumption | decide | exact vp_in_iff.mpr ⟨by omega, by omega⟩ | exact isPlace_in (by assumption) | exact has_in (by assumption)) dX1_letRainFall_75 (fun H locs hP hD hS => ?_)
          refine lv_iinc (v := (v1 + 1)) (lv' := [(1, .int (v1 + 1)), (0, .ref (h 0))]) hx hb dX1_letRainFall_76 hl (k := 1) rfl rfl (by decide) rfl (fun ls hl => ?_)
          have a_76 := i_add1 (a := v1) (by omega) (by omega)
          refine lv_goto (tgt := 2) hx hb dX1_letRainFall_79 (by decide) ?_
          exact ih (v1 + 1) (pR (pR (pR x 2 v1 (mn 100 ((x.2 2 (ix v1)) + (x.2 0 (ix 1))))) 1 v1 (mx 0 ((x.2 1 (ix v1)) - (x.2 0 (ix 3))))) 4 v1 ((x.2 4 (ix v1)) + 1)) (by omega) (by omega) (by omega) ((show pX1_letRainFall_L2 (n + 1) v1 x = pX1_letRainFall_L2 n (v1 + 1) (pR (pR (pR x 2 v1 (mn 100 ((x.2 2 (ix v1)) + (x.2 0 (ix 1))))) 1 v1 (mx 0 ((x.2 1 (ix v1)) - (x.2 0 (ix 3))))) 4 v1 ((x.2 4 (ix v1)) + 1)) by rw [pX1_letRainFall_L2, if_neg c_1, if_neg c_2]).symm.trans hq) _ _ _ hP hD hS (lv_sub hl [1, 0] rfl)
  refine lv_iconst (v := 0) hx hb dX1_letRainFall_0 (by decide) ?_
  refine lv_istore_n (lv' := [(1, .int 0), (0, .ref (h 0))]) hx hb dX1_letRainFall_1 rfl hl (by decide) rfl (fun ls hl => ?_)
  exact lp_2 13 0 x (by first | decide | omega | assumption) (by first | decide | omega | assumption) (by decide) ((show pX1_letRainFall x = pX1_letRainFall_L2 13 0 x by rw [pX1_letRainFall]).symm.trans hres) _ _ _ hP hD hS (lv_sub hl [1, 0] rfl)
def pX1_letPianosDry_L2 : Nat → Int32 → SR → SR
  | 0, v1, x => x
  | n + 1, v1, x => if 12 ≤ v1 then x
    else if (pX2_has (pX1_openOnes x) v1) = 0 then pX1_letPianosDry_L2 n (v1 + 1) x
      else pX1_letPianosDry_L2 n (v1 + 1) (pR x 2 v1 (mx 0 ((x.2 2 (ix v1)) - (x.2 0 (ix 2)))))
def pX1_letPianosDry (x : SR) : SR := pX1_letPianosDry_L2 13 0 x
set_option maxHeartbeats 4000000 in
set_option maxRecDepth 100000 in
theorem ctX1_letPianosDry (l : Launch) (G : va_G) (cI cC cZ cR : ClassId) (h : Ad) (x : SR) : Ct l yX1_letPianosDry wsX1_letPianosDry (rmz 1 21) G (TY cI cC cZ cR) [.ref (h 0)] (wSt cI h x) (Qv G (wSt cI h x) (wSt cI h (pX1_letPianosDry x))) := by
  refine Ct.ofV (cc := cX1_letPianosDry) (maxL := 2) (ret := none) (by decide) rfl rfl ?_
  intro p e s m below meth c A ls E0 hP hD hS hl
  obtain ⟨hx, hb, hr, hml, hlocks, hts, hown, hK, hN, hA⟩ := E0
  have hl : lv_has ls 2 [(0, .ref (h 0))] := hl
  have hin : ∀ w ∈ wsX10, w ∈ wsX1_letPianosDry := fun w hw => List.mem_cons_of_mem _ (List.mem_append_right _ (hw))
  have k_28 : (Cond.fieldLink RX1 28 RX1 (TX1 5).2.1 (TX1 5).2.2.1).before ([.ref (h 0)] : List Value).toArray s = true := hts _ (List.mem_of_getElem? (i := 1) rfl)
  have k_9 : (Cond.fieldLink RX1 9 RX1 (TX1 0).2.1 (TX1 0).2.2.1).before ([.ref (h 0)] : List Value).toArray s = true := hts _ (List.mem_of_getElem? (i := 2) rfl)
  generalize hres : pX1_letPianosDry x = res
  have lp_2 : ∀ (n : Nat) (v1 : Int32) (x : SR), 0 ≤ Int32.toInt v1 → Int32.toInt v1 ≤ 12 → 12 - Int32.toInt v1 < (n : Int) → pX1_letPianosDry_L2 n v1 x = res → ∀ (H : Heap) (locs : List Loc) (ls : Array Slot), va_P G vwCl (wSt cI h x) H → va_D A (wSt cI h x) → va_S A s.heap H locs → lv_has ls 2 [(0, .ref (h 0)), (1, .int v1)] → W p l e (rmz 1 21) s m ([.ref (h 0)] : List Value).toArray below meth c H locs 0 0 (MQ below (QvA G A (wSt cI h res)) ([.ref (h 0)] : List Value).toArray s 0 0 A) (F0 m 2 ls []) := by
    intro n
    induction n with
    | zero =>
      intro v1 x g_0 g_1 hm
      exfalso; omega
    | succ n ih =>
      intro v1 x g_0 g_1 hm hq H locs ls hP hD hS hl
      refine lv_iload_n hx hb dX1_letPianosDry_2 rfl (lv_at hl 1 rfl) ?_
      refine lv_bipush (v := 12) hx hb dX1_letPianosDry_3 (by decide) ?_
      refine lv_icmp_ge (tgt := 48) hx hb dX1_letPianosDry_5 (by decide) (fun c_1 => ?_) (fun c_1 => ?_)
      · have t_1 := i_le (z := (12)) (w := (Int32.toInt v1)) c_1 (by decide) rfl
        exact rt_s hx hb hr hlocks hP hD hS ((show pX1_letPianosDry_L2 (n + 1) v1 x = x by rw [pX1_letPianosDry_L2, if_pos c_1]).symm.trans hq |>.symm) dX1_letPianosDry_48
      · have t_1 := i_nle (z := (12)) (w := (Int32.toInt v1)) c_1 (by decide) rfl
        refine lv_aload_n hx hb dX1_letPianosDry_8 rfl (lv_at hl 0 rfl) ?_
        refine go_i hD hS hA (rn_V (As := []) (rest := []) ⟨hx, hb, hml, hown, hts⟩ (ctX1_openOnes l G cI cC cZ cR h x) (cwV 0 hts gX1_letPianosDry_X1_openOnes rfl rfl rfl (by decide +kernel) ⟨Nat.le_of_ble_eq_true rfl, Nat.le_of_ble_eq_true rfl⟩) (md_recv hK hP rfl) hK hP hD hN rfl hl.1 rfl (Nat.le_of_ble_eq_true rfl) dX1_letPianosDry_9) (fun H locs hP hD hS => ?_)
        refine lv_iload_n hx hb dX1_letPianosDry_12 rfl (lv_at hl 1 rfl) ?_
        refine gn_i hP hS hA (rn_SN (As := [.int (pX1_openOnes x), .int v1]) (rest := []) ⟨hx, hb, hml, hown, hts⟩ (ctX2_has l G cI cC cZ cR (pX1_openOnes x) v1) ⟨va_cnB 2 hts gX1_letPianosDry_X2_has_n87 rfl rfl rfl (NWs.nw hN 28 rfl) (hts _ (List.mem_of_getElem? (i := 15) rfl)) (by decide +kernel) ⟨Nat.le_of_ble_eq_true rfl, Nat.le_of_ble_eq_true rfl⟩, hts _ (List.mem_of_getElem? (i := 14) rfl), trivial⟩ hK nilP (nilD (A := A)) hN rfl hl.1 rfl (Nat.le_of_ble_eq_true rfl) dX1_letPianosDry_13) (fun H locs hP hS => ?_)
        refine lv_if_eq (tgt := 42) hx hb dX1_letPianosDry_16 (by decide) (fun c_2 => ?_) (fun c_2 => ?_)
        · refine lv_iinc (v := (v1 + 1)) (lv' := [(1, .int (v1 + 1)), (0, .ref (h 0))]) hx hb dX1_letPianosDry_42 hl (k := 1) rfl rfl (by decide) rfl (fun ls hl => ?_)
          have a_42 := i_add1 (a := v1) (by omega) (by omega)
          refine lv_goto (tgt := 2) hx hb dX1_letPianosDry_45 (by decide) ?_
          exact ih (v1 + 1) x (by omega) (by omega) (by omega) ((show pX1_letPianosDry_L2 (n + 1) v1 x = pX1_letPianosDry_L2 n (v1 + 1) x by rw [pX1_letPianosDry_L2, if_neg c_1, if_pos c_2]).symm.trans hq) _ _ _ hP hD hS (lv_sub hl [1, 0] rfl)
        · refine lv_aload_n hx hb dX1_letPianosDry_19 rfl (lv_at hl 0 rfl) ?_
          refine md_get (ci := 1) (C := RX1) (T := TX1) (N := 18) (v := .ref (h 3)) hx hb hts hin hown hK hP rfl 5 (by decide) k_28 rfl rfl rfl dX1_letPianosDry_20 ?_
          refine lv_iload_n hx hb dX1_letPianosDry_23 rfl (lv_at hl 1 rfl) ?_
          refine lv_iconst (v := 0) hx hb dX1_letPianosDry_24 (by decide) ?_
          refine lv_aload_n hx hb dX1_letPianosDry_25 rfl (lv_at hl 0 rfl) ?_
          refine md_get (ci := 1) (C := RX1) (T := TX1) (N := 18) (v := .ref (h 3)) hx hb hts hin hown hK hP rfl 5 (by decide) k_28 rfl rfl rfl dX1_letPianosDry_26 ?_
          refine lv_iload_n hx hb dX1_letPianosDry_29 rfl (lv_at hl 1 rfl) ?_
          refine md_ia (v := x.2 2 (ix v1)) hx hb hK hP 2 0 rfl rfl (by first | assumption | decide | exact vp_in_iff.mpr ⟨by omega, by omega⟩ | exact isPlace_in (by assumption) | exact has_in (by assumption)) rfl dX1_letPianosDry_30 ?_
          refine lv_aload_n hx hb dX1_letPianosDry_31 rfl (lv_at hl 0 rfl) ?_
          refine md_get (ci := 1) (C := RX1) (T := TX1) (N := 18) (v := .ref (h 1)) hx hb hts hin hown hK hP rfl 0 (by decide) k_9 rfl rfl rfl dX1_letPianosDry_32 ?_
          refine lv_iconst (v := 2) hx hb dX1_letPianosDry_35 (by decide) ?_
          refine md_ia (v := x.2 0 (ix 2)) hx hb hK hP 0 0 rfl rfl (vp_in_iff.mpr ⟨by decide, by decide⟩) rfl dX1_letPianosDry_36 ?_
          refine lv_isub hx hb dX1_letPianosDry_37 ?_
          refine va_mmax hx hb (hml.trans hl.1.symm) hown (hts _ (List.mem_of_getElem? (i := 3) rfl)) (hts _ (List.mem_of_getElem? (i := 4) rfl)) (hts _ (List.mem_of_getElem? (i := 5) rfl)) (hts _ (List.mem_of_getElem? (i := 6) rfl)) (Nat.le_of_ble_eq_true rfl) (Nat.le_of_ble_eq_true rfl) (Nat.zero_le _) (Nat.zero_le _) dX1_letPianosDry_38 ?_
          refine W.eq (g2 := F0 m 41 ls (.int (mx 0 ((x.2 2 (ix v1)) - (x.2 0 (ix 2)))) :: [.int v1, .ref (h 3)])) rfl ?_
          refine md_is hx hb hK hP hD hS 2 0 rfl rfl (by first | assumption | decide | exact vp_in_iff.mpr ⟨by omega, by omega⟩ | exact isPlace_in (by assumption) | exact has_in (by assumption)) dX1_letPianosDry_41 (fun H locs hP hD hS => ?_)
          refine lv_iinc (v := (v1 + 1)) (lv' := [(1, .int (v1 + 1)), (0, .ref (h 0))]) hx hb dX1_letPianosDry_42 hl (k := 1) rfl rfl (by decide) rfl (fun ls hl => ?_)
          have a_42 := i_add1 (a := v1) (by omega) (by omega)
          refine lv_goto (tgt := 2) hx hb dX1_letPianosDry_45 (by decide) ?_
          exact ih (v1 + 1) (pR x 2 v1 (mx 0 ((x.2 2 (ix v1)) - (x.2 0 (ix 2))))) (by omega) (by omega) (by omega) ((show pX1_letPianosDry_L2 (n + 1) v1 x = pX1_letPianosDry_L2 n (v1 + 1) (pR x 2 v1 (mx 0 ((x.2 2 (ix v1)) - (x.2 0 (ix 2))))) by rw [pX1_letPianosDry_L2, if_neg c_1, if_neg c_2]).symm.trans hq) _ _ _ hP hD hS (lv_sub hl [1, 0] rfl)
  refine lv_iconst (v := 0) hx hb dX1_letPianosDry_0 (by decide) ?_
  refine lv_istore_n (lv' := [(1, .int 0), (0, .ref (h 0))]) hx hb dX1_letPianosDry_1 rfl hl (by decide) rfl (fun ls hl => ?_)
  exact lp_2 13 0 x (by first | decide | omega | assumption) (by first | decide | omega | assumption) (by decide) ((show pX1_letPianosDry x = pX1_letPianosDry_L2 13 0 x by rw [pX1_letPianosDry]).symm.trans hres) _ _ _ hP hD hS (lv_sub hl [1, 0] rfl)
def pX1_letPianosBePlayed_L23 : Nat → Int32 → Int32 → SR → SR
  | 0, v1, v2, x => x
  | n + 1, v1, v2, x => if 12 ≤ v2 then x
    else if (pX2_has (pX1_openOnes x) v2) = 0 then pX1_letPianosBePlayed_L23 n v1 (v2 + 1) x
      else if 50 ≤ (x.2 2 (ix v2)) then pX1_letPianosBePlayed_L23 n v1 (v2 + 1) x
        else pX1_letPianosBePlayed_L23 n v1 (v2 + 1) (pR (pS (pR x 3 v2 ((x.2 3 (ix v2)) + (((x.2 0 (ix 4)) * (x.2 1 (ix v2))) / 100))) 6 ((x.1 6) + (((x.2 0 (ix 4)) * (x.2 1 (ix v2))) / 100))) 1 v2 (mx 0 ((x.2 1 (ix v2)) - 1)))
def pX1_letPianosBePlayed (x : SR) : SR := if ((x.1 5) - (x.1 5) / 24 * 24) < 8 then x
  else if ((x.1 5) - (x.1 5) / 24 * 24) ≤ 21 then pX1_letPianosBePlayed_L23 13 ((x.1 5) - (x.1 5) / 24 * 24) 0 x
    else x
set_option maxHeartbeats 4000000 in
set_option maxRecDepth 100000 in
theorem ctX1_letPianosBePlayed (l : Launch) (G : va_G) (cI cC cZ cR : ClassId) (h : Ad) (x : SR) : Ct l yX1_letPianosBePlayed wsX1_letPianosBePlayed (rmz 1 21) G (TY cI cC cZ cR) [.ref (h 0)] (wSt cI h x) (Qv G (wSt cI h x) (wSt cI h (pX1_letPianosBePlayed x))) := by
  refine Ct.ofV (cc := cX1_letPianosBePlayed) (maxL := 4) (ret := none) (by decide) rfl rfl ?_
  intro p e s m below meth c A ls E0 hP hD hS hl
  obtain ⟨hx, hb, hr, hml, hlocks, hts, hown, hK, hN, hA⟩ := E0
  have hl : lv_has ls 4 [(0, .ref (h 0))] := hl
  have hin : ∀ w ∈ wsX10, w ∈ wsX1_letPianosBePlayed := fun w hw => List.mem_cons_of_mem _ (List.mem_append_right _ (hw))
  have k_58 : (Cond.fieldLink RX1 58 RX1 (TX1 15).2.1 (TX1 15).2.2.1).before ([.ref (h 0)] : List Value).toArray s = true := hts _ (List.mem_of_getElem? (i := 1) rfl)
  have k_28 : (Cond.fieldLink RX1 28 RX1 (TX1 5).2.1 (TX1 5).2.2.1).before ([.ref (h 0)] : List Value).toArray s = true := hts _ (List.mem_of_getElem? (i := 2) rfl)
  have k_9 : (Cond.fieldLink RX1 9 RX1 (TX1 0).2.1 (TX1 0).2.2.1).before ([.ref (h 0)] : List Value).toArray s = true := hts _ (List.mem_of_getElem? (i := 3) rfl)
  have k_25 : (Cond.fieldLink RX1 25 RX1 (TX1 4).2.1 (TX1 4).2.2.1).before ([.ref (h 0)] : List Value).toArray s = true := hts _ (List.mem_of_getElem? (i := 4) rfl)
  have k_31 : (Cond.fieldLink RX1 31 RX1 (TX1 6).2.1 (TX1 6).2.2.1).before ([.ref (h 0)] : List Value).toArray s = true := hts _ (List.mem_of_getElem? (i := 5) rfl)
  have k_61 : (Cond.fieldLink RX1 61 RX1 (TX1 16).2.1 (TX1 16).2.2.1).before ([.ref (h 0)] : List Value).toArray s = true := hts _ (List.mem_of_getElem? (i := 6) rfl)
  generalize hres : pX1_letPianosBePlayed x = res
  have lp_23 : ∀ (n : Nat) (v1 : Int32) (v2 : Int32) (x : SR), 0 ≤ Int32.toInt v2 → Int32.toInt v2 ≤ 12 → 12 - Int32.toInt v2 < (n : Int) → pX1_letPianosBePlayed_L23 n v1 v2 x = res → ∀ (H : Heap) (locs : List Loc) (ls : Array Slot), va_P G vwCl (wSt cI h x) H → va_D A (wSt cI h x) → va_S A s.heap H locs → lv_has ls 4 [(0, .ref (h 0)), (1, .int v1), (2, .int v2)] → W p l e (rmz 1 21) s m ([.ref (h 0)] : List Value).toArray below meth c H locs 0 0 (MQ below (QvA G A (wSt cI h res)) ([.ref (h 0)] : List Value).toArray s 0 0 A) (F0 m 23 ls []) := by
    intro n
    induction n with
    | zero =>
      intro v1 v2 x g_0 g_1 hm
      exfalso; omega
    | succ n ih =>
      intro v1 v2 x g_0 g_1 hm hq H locs ls hP hD hS hl
      refine lv_iload_n hx hb dX1_letPianosBePlayed_23 rfl (lv_at hl 2 rfl) ?_
      refine lv_bipush (v := 12) hx hb dX1_letPianosBePlayed_24 (by decide) ?_
      refine lv_icmp_ge (tgt := 112) hx hb dX1_letPianosBePlayed_26 (by decide) (fun c_3 => ?_) (fun c_3 => ?_)
      · have t_3 := i_le (z := (12)) (w := (Int32.toInt v2)) c_3 (by decide) rfl
        exact rt_s hx hb hr hlocks hP hD hS ((show pX1_letPianosBePlayed_L23 (n + 1) v1 v2 x = x by rw [pX1_letPianosBePlayed_L23, if_pos c_3]).symm.trans hq |>.symm) dX1_letPianosBePlayed_112
      · have t_3 := i_nle (z := (12)) (w := (Int32.toInt v2)) c_3 (by decide) rfl
        refine lv_aload_n hx hb dX1_letPianosBePlayed_29 rfl (lv_at hl 0 rfl) ?_
        refine go_i hD hS hA (rn_V (As := []) (rest := []) ⟨hx, hb, hml, hown, hts⟩ (ctX1_openOnes l G cI cC cZ cR h x) (cwV 0 hts gX1_letPianosBePlayed_X1_openOnes rfl rfl rfl (by decide +kernel) ⟨Nat.le_of_ble_eq_true rfl, Nat.le_of_ble_eq_true rfl⟩) (md_recv hK hP rfl) hK hP hD hN rfl hl.1 rfl (Nat.le_of_ble_eq_true rfl) dX1_letPianosBePlayed_30) (fun H locs hP hD hS => ?_)
        refine lv_iload_n hx hb dX1_letPianosBePlayed_33 rfl (lv_at hl 2 rfl) ?_
        refine gn_i hP hS hA (rn_SN (As := [.int (pX1_openOnes x), .int v2]) (rest := []) ⟨hx, hb, hml, hown, hts⟩ (ctX2_has l G cI cC cZ cR (pX1_openOnes x) v2) ⟨va_cnB 2 hts gX1_letPianosBePlayed_X2_has_n87 rfl rfl rfl (NWs.nw hN 28 rfl) (hts _ (List.mem_of_getElem? (i := 19) rfl)) (by decide +kernel) ⟨Nat.le_of_ble_eq_true rfl, Nat.le_of_ble_eq_true rfl⟩, hts _ (List.mem_of_getElem? (i := 18) rfl), trivial⟩ hK nilP (nilD (A := A)) hN rfl hl.1 rfl (Nat.le_of_ble_eq_true rfl) dX1_letPianosBePlayed_34) (fun H locs hP hS => ?_)
        refine lv_if_eq (tgt := 106) hx hb dX1_letPianosBePlayed_37 (by decide) (fun c_4 => ?_) (fun c_4 => ?_)
        · refine lv_iinc (v := (v2 + 1)) (lv' := [(2, .int (v2 + 1)), (0, .ref (h 0)), (1, .int v1)]) hx hb dX1_letPianosBePlayed_106 hl (k := 2) rfl rfl (by decide) rfl (fun ls hl => ?_)
          have a_106 := i_add1 (a := v2) (by omega) (by omega)
          refine lv_goto (tgt := 23) hx hb dX1_letPianosBePlayed_109 (by decide) ?_
          exact ih v1 (v2 + 1) x (by omega) (by omega) (by omega) ((show pX1_letPianosBePlayed_L23 (n + 1) v1 v2 x = pX1_letPianosBePlayed_L23 n v1 (v2 + 1) x by rw [pX1_letPianosBePlayed_L23, if_neg c_3, if_pos c_4]).symm.trans hq) _ _ _ hP hD hS (lv_sub hl [1, 2, 0] rfl)
        · refine lv_aload_n hx hb dX1_letPianosBePlayed_40 rfl (lv_at hl 0 rfl) ?_
          refine md_get (ci := 1) (C := RX1) (T := TX1) (N := 18) (v := .ref (h 3)) hx hb hts hin hown hK hP rfl 5 (by decide) k_28 rfl rfl rfl dX1_letPianosBePlayed_41 ?_
          refine lv_iload_n hx hb dX1_letPianosBePlayed_44 rfl (lv_at hl 2 rfl) ?_
          refine md_ia (v := x.2 2 (ix v2)) hx hb hK hP 2 0 rfl rfl (by first | assumption | decide | exact vp_in_iff.mpr ⟨by omega, by omega⟩ | exact isPlace_in (by assumption) | exact has_in (by assumption)) rfl dX1_letPianosBePlayed_45 ?_
          refine lv_bipush (v := 50) hx hb dX1_letPianosBePlayed_46 (by decide) ?_
          refine lv_icmp_ge (tgt := 106) hx hb dX1_letPianosBePlayed_48 (by decide) (fun c_5 => ?_) (fun c_5 => ?_)
          · have t_5 := i_le (z := (50)) (w := (Int32.toInt (x.2 2 (ix v2)))) c_5 (by decide) rfl
            refine lv_iinc (v := (v2 + 1)) (lv' := [(2, .int (v2 + 1)), (0, .ref (h 0)), (1, .int v1)]) hx hb dX1_letPianosBePlayed_106 hl (k := 2) rfl rfl (by decide) rfl (fun ls hl => ?_)
            have a_106 := i_add1 (a := v2) (by omega) (by omega)
            refine lv_goto (tgt := 23) hx hb dX1_letPianosBePlayed_109 (by decide) ?_
            exact ih v1 (v2 + 1) x (by omega) (by omega) (by omega) ((show pX1_letPianosBePlayed_L23 (n + 1) v1 v2 x = pX1_letPianosBePlayed_L23 n v1 (v2 + 1) x by rw [pX1_letPianosBePlayed_L23, if_neg c_3, if_neg c_4, if_pos c_5]).symm.trans hq) _ _ _ hP hD hS (lv_sub hl [1, 2, 0] rfl)
          · have t_5 := i_nle (z := (50)) (w := (Int32.toInt (x.2 2 (ix v2)))) c_5 (by decide) rfl
            refine lv_aload_n hx hb dX1_letPianosBePlayed_51 rfl (lv_at hl 0 rfl) ?_
            refine md_get (ci := 1) (C := RX1) (T := TX1) (N := 18) (v := .ref (h 1)) hx hb hts hin hown hK hP rfl 0 (by decide) k_9 rfl rfl rfl dX1_letPianosBePlayed_52 ?_
            refine lv_iconst (v := 4) hx hb dX1_letPianosBePlayed_55 (by decide) ?_
            refine md_ia (v := x.2 0 (ix 4)) hx hb hK hP 0 0 rfl rfl (vp_in_iff.mpr ⟨by decide, by decide⟩) rfl dX1_letPianosBePlayed_56 ?_
            refine lv_aload_n hx hb dX1_letPianosBePlayed_57 rfl (lv_at hl 0 rfl) ?_
            refine md_get (ci := 1) (C := RX1) (T := TX1) (N := 18) (v := .ref (h 2)) hx hb hts hin hown hK hP rfl 4 (by decide) k_25 rfl rfl rfl dX1_letPianosBePlayed_58 ?_
            refine lv_iload_n hx hb dX1_letPianosBePlayed_61 rfl (lv_at hl 2 rfl) ?_
            refine md_ia (v := x.2 1 (ix v2)) hx hb hK hP 1 0 rfl rfl (by first | assumption | decide | exact vp_in_iff.mpr ⟨by omega, by omega⟩ | exact isPlace_in (by assumption) | exact has_in (by assumption)) rfl dX1_letPianosBePlayed_62 ?_
            refine lv_imul hx hb dX1_letPianosBePlayed_63 ?_
            refine lv_bipush (v := 100) hx hb dX1_letPianosBePlayed_64 (by decide) ?_
            refine lv_idiv hx hb dX1_letPianosBePlayed_66 (by decide) ?_
            refine lv_istore_n (lv' := [(3, .int (((x.2 0 (ix 4)) * (x.2 1 (ix v2))) / 100)), (0, .ref (h 0)), (1, .int v1), (2, .int v2)]) hx hb dX1_letPianosBePlayed_67 rfl hl (by decide) rfl (fun ls hl => ?_)
            refine lv_aload_n hx hb dX1_letPianosBePlayed_68 rfl (lv_at hl 1 rfl) ?_
            refine md_get (ci := 1) (C := RX1) (T := TX1) (N := 18) (v := .ref (h 4)) hx hb hts hin hown hK hP rfl 6 (by decide) k_31 rfl rfl rfl dX1_letPianosBePlayed_69 ?_
            refine lv_iload_n hx hb dX1_letPianosBePlayed_72 rfl (lv_at hl 3 rfl) ?_
            refine lv_dup2_11 hx hb dX1_letPianosBePlayed_73 rfl rfl ?_
            refine md_ia (v := x.2 3 (ix v2)) hx hb hK hP 3 0 rfl rfl (by first | assumption | decide | exact vp_in_iff.mpr ⟨by omega, by omega⟩ | exact isPlace_in (by assumption) | exact has_in (by assumption)) rfl dX1_letPianosBePlayed_74 ?_
            refine lv_iload_n hx hb dX1_letPianosBePlayed_75 rfl (lv_at hl 0 rfl) ?_
            refine lv_iadd hx hb dX1_letPianosBePlayed_76 ?_
            refine md_is hx hb hK hP hD hS 3 0 rfl rfl (by first | assumption | decide | exact vp_in_iff.mpr ⟨by omega, by omega⟩ | exact isPlace_in (by assumption) | exact has_in (by assumption)) dX1_letPianosBePlayed_77 (fun H locs hP hD hS => ?_)
            refine lv_aload_n hx hb dX1_letPianosBePlayed_78 rfl (lv_at hl 1 rfl) ?_
            refine lv_dup hx hb dX1_letPianosBePlayed_79 rfl ?_
            refine md_get (ci := 1) (C := RX1) (T := TX1) (N := 18) (v := .int (x.1 6)) hx hb hts hin hown hK hP rfl 16 (by decide) k_61 rfl rfl rfl dX1_letPianosBePlayed_80 ?_
            refine lv_iload_n hx hb dX1_letPianosBePlayed_83 rfl (lv_at hl 0 rfl) ?_
            refine lv_iadd hx hb dX1_letPianosBePlayed_84 ?_
            refine md_put (ci := 1) (C := RX1) (T := TX1) (N := 18) hx hb hts hin tyX1 tyX1_ok nmX1 hown hK hP hD hS rfl 16 (by decide) k_61 rfl rfl (q := 6) rfl (fu (by decide)) rfl rfl dX1_letPianosBePlayed_85 (fun H locs hP hD hS => ?_)
            refine lv_aload_n hx hb dX1_letPianosBePlayed_88 rfl (lv_at hl 1 rfl) ?_
            refine md_get (ci := 1) (C := RX1) (T := TX1) (N := 18) (v := .ref (h 2)) hx hb hts hin hown hK hP rfl 4 (by decide) k_25 rfl rfl rfl dX1_letPianosBePlayed_89 ?_
            refine lv_iload_n hx hb dX1_letPianosBePlayed_92 rfl (lv_at hl 3 rfl) ?_
            refine lv_iconst (v := 0) hx hb dX1_letPianosBePlayed_93 (by decide) ?_
            refine lv_aload_n hx hb dX1_letPianosBePlayed_94 rfl (lv_at hl 1 rfl) ?_
            refine md_get (ci := 1) (C := RX1) (T := TX1) (N := 18) (v := .ref (h 2)) hx hb hts hin hown hK hP rfl 4 (by decide) k_25 rfl rfl rfl dX1_letPianosBePlayed_95 ?_
            refine lv_iload_n hx hb dX1_letPianosBePlayed_98 rfl (lv_at hl 3 rfl) ?_
            refine md_ia (v := x.2 1 (ix v2)) hx hb hK hP 1 0 rfl rfl (by first | assumption | decide | exact vp_in_iff.mpr ⟨by omega, by omega⟩ | exact isPlace_in (by assumption) | exact has_in (by assumption)) rfl dX1_letPianosBePlayed_99 ?_
            refine lv_iconst (v := 1) hx hb dX1_letPianosBePlayed_100 (by decide) ?_
            refine lv_isub hx hb dX1_letPianosBePlayed_101 ?_
            refine va_mmax hx hb (hml.trans hl.1.symm) hown (hts _ (List.mem_of_getElem? (i := 7) rfl)) (hts _ (List.mem_of_getElem? (i := 8) rfl)) (hts _ (List.mem_of_getElem? (i := 9) rfl)) (hts _ (List.mem_of_getElem? (i := 10) rfl)) (Nat.le_of_ble_eq_true rfl) (Nat.le_of_ble_eq_true rfl) (Nat.zero_le _) (Nat.zero_le _) dX1_letPianosBePlayed_102 ?_
            refine W.eq (g2 := F0 m 105 ls (.int (mx 0 ((x.2 1 (ix v2)) - 1)) :: [.int v2, .ref (h 2)])) rfl ?_
            refine md_is hx hb hK hP hD hS 1 0 rfl rfl (by first | assumption | decide | exact vp_in_iff.mpr ⟨by omega, by omega⟩ | exact isPlace_in (by assumption) | exact has_in (by assumption)) dX1_letPianosBePlayed_105 (fun H locs hP hD hS => ?_)
            refine lv_iinc (v := (v2 + 1)) (lv' := [(2, .int (v2 + 1)), (3, .int (((x.2 0 (ix 4)) * (x.2 1 (ix v2))) / 100)), (0, .ref (h 0)), (1, .int v1)]) hx hb dX1_letPianosBePlayed_106 hl (k := 3) rfl rfl (by decide) rfl (fun ls hl => ?_)
            have a_106 := i_add1 (a := v2) (by omega) (by omega)
            refine lv_goto (tgt := 23) hx hb dX1_letPianosBePlayed_109 (by decide) ?_
            exact ih v1 (v2 + 1) (pR (pS (pR x 3 v2 ((x.2 3 (ix v2)) + (((x.2 0 (ix 4)) * (x.2 1 (ix v2))) / 100))) 6 ((x.1 6) + (((x.2 0 (ix 4)) * (x.2 1 (ix v2))) / 100))) 1 v2 (mx 0 ((x.2 1 (ix v2)) - 1))) (by omega) (by omega) (by omega) ((show pX1_letPianosBePlayed_L23 (n + 1) v1 v2 x = pX1_letPianosBePlayed_L23 n v1 (v2 + 1) (pR (pS (pR x 3 v2 ((x.2 3 (ix v2)) + (((x.2 0 (ix 4)) * (x.2 1 (ix v2))) / 100))) 6 ((x.1 6) + (((x.2 0 (ix 4)) * (x.2 1 (ix v2))) / 100))) 1 v2 (mx 0 ((x.2 1 (ix v2)) - 1))) by rw [pX1_letPianosBePlayed_L23, if_neg c_3, if_neg c_4, if_neg c_5]).symm.trans hq) _ _ _ hP hD hS (lv_sub hl [2, 3, 0] rfl)
  refine lv_aload_n hx hb dX1_letPianosBePlayed_0 rfl (lv_at hl 0 rfl) ?_
  refine md_get (ci := 1) (C := RX1) (T := TX1) (N := 18) (v := .int (x.1 5)) hx hb hts hin hown hK hP rfl 15 (by decide) k_58 rfl rfl rfl dX1_letPianosBePlayed_1 ?_
  refine lv_bipush (v := 24) hx hb dX1_letPianosBePlayed_4 (by decide) ?_
  refine lv_irem hx hb dX1_letPianosBePlayed_6 (by decide) ?_
  refine lv_istore_n (lv' := [(1, .int ((x.1 5) - (x.1 5) / 24 * 24)), (0, .ref (h 0))]) hx hb dX1_letPianosBePlayed_7 rfl hl (by decide) rfl (fun ls hl => ?_)
  refine lv_iload_n hx hb dX1_letPianosBePlayed_8 rfl (lv_at hl 0 rfl) ?_
  refine lv_bipush (v := 8) hx hb dX1_letPianosBePlayed_9 (by decide) ?_
  refine lv_icmp_lt (tgt := 20) hx hb dX1_letPianosBePlayed_11 (by decide) (fun c_1 => ?_) (fun c_1 => ?_)
  · have t_1 := i_lt (z := (Int32.toInt ((x.1 5) - (x.1 5) / 24 * 24))) (w := (8)) c_1 rfl (by decide)
    exact rt_s hx hb hr hlocks hP hD hS ((show pX1_letPianosBePlayed x = x by rw [pX1_letPianosBePlayed, if_pos c_1]).symm.trans hres |>.symm) dX1_letPianosBePlayed_20
  · have t_1 := i_nlt (z := (Int32.toInt ((x.1 5) - (x.1 5) / 24 * 24))) (w := (8)) c_1 rfl (by decide)
    refine lv_iload_n hx hb dX1_letPianosBePlayed_14 rfl (lv_at hl 0 rfl) ?_
    refine lv_bipush (v := 21) hx hb dX1_letPianosBePlayed_15 (by decide) ?_
    refine lv_icmp_le (tgt := 21) hx hb dX1_letPianosBePlayed_17 (by decide) (fun c_2 => ?_) (fun c_2 => ?_)
    · have t_2 := i_le (z := (Int32.toInt ((x.1 5) - (x.1 5) / 24 * 24))) (w := (21)) c_2 rfl (by decide)
      refine lv_iconst (v := 0) hx hb dX1_letPianosBePlayed_21 (by decide) ?_
      refine lv_istore_n (lv' := [(2, .int 0), (1, .int ((x.1 5) - (x.1 5) / 24 * 24)), (0, .ref (h 0))]) hx hb dX1_letPianosBePlayed_22 rfl hl (by decide) rfl (fun ls hl => ?_)
      exact lp_23 13 ((x.1 5) - (x.1 5) / 24 * 24) 0 x (by first | decide | omega | assumption) (by first | decide | omega | assumption) (by decide) ((show pX1_letPianosBePlayed x = pX1_letPianosBePlayed_L23 13 ((x.1 5) - (x.1 5) / 24 * 24) 0 x by rw [pX1_letPianosBePlayed, if_neg c_1, if_pos c_2]).symm.trans hres) _ _ _ hP hD hS (lv_sub hl [2, 1, 0] rfl)
    · have t_2 := i_nle (z := (Int32.toInt ((x.1 5) - (x.1 5) / 24 * 24))) (w := (21)) c_2 rfl (by decide)
      exact rt_s hx hb hr hlocks hP hD hS ((show pX1_letPianosBePlayed x = x by rw [pX1_letPianosBePlayed, if_neg c_1, if_neg c_2]).symm.trans hres |>.symm) dX1_letPianosBePlayed_20
