-- chars
def isCh (v : Int32) : Prop := 0 ≤ v ∧ v ≤ 65535
def chOK (x : SR) : Prop := ∀ k, isCh (x.2 0 k)
theorem chF {v : Int32} (h : isCh v) : fits .char (.int v) = true := by
  show (decide (0 ≤ v) && decide (v ≤ 65535)) = true
  rw [decide_eq_true h.1, decide_eq_true h.2]
  rfl
theorem ch_nI {v : Int32} (h : isCh v) : ∃ n : Nat, n ≤ 65535 ∧ v = nI n := by
  have h1 := i_le (z := 0) (w := Int32.toInt v) h.1 (by decide) rfl
  have h2 := i_le (z := Int32.toInt v) (w := 65535) h.2 rfl (by decide)
  refine ⟨v.toInt.toNat, by omega, ?_⟩
  apply Int32.toInt_inj.mp
  rw [nI_toInt (by omega)]
  omega
theorem chN {v : Int32} (h : isCh v) : narrow .char (.int v) = .int v := by
  obtain ⟨n, hn, rfl⟩ := ch_nI h
  show Value.int _ = Value.int _
  congr 1
  apply Int32.toBitVec_inj.mp
  apply BitVec.eq_of_toNat_eq
  show ((BitVec.ofNat 32 n).setWidth 16 |>.setWidth 32).toNat = (BitVec.ofNat 32 n).toNat
  simp only [BitVec.toNat_setWidth, BitVec.toNat_ofNat]
  omega
theorem pS_2 (x : SR) (q : Nat) (v : Int32) : (pS x q v).2 = x.2 := rfl
theorem ch_of {x y : SR} (e : y.2 = x.2) (h : chOK x) : chOK y := fun k => by rw [e]; exact h k
theorem fz_of {v : Int32} (h : v = 0 ∨ v = 1) : fits .boolean (.int v) = true := by rcases h with rfl | rfl <;> rfl
def pX0_clear (x : SR) : SR := (pS x 0 0)
set_option maxHeartbeats 4000000 in
set_option maxRecDepth 100000 in
theorem ctX0_clear (l : Launch) (G : va_G) (cI cC cZ cR : ClassId) (h : Ad) (x : SR) : Ct l yX0_clear wsX0_clear (rmz 0 0) G (TY cI cC cZ cR) [.ref (h 0)] (wPd cC h x) (Qv G (wPd cC h x) (wPd cC h (pX0_clear x))) := by
  refine Ct.ofV (cc := cX0_clear) (maxL := 1) (ret := none) (by decide) rfl rfl ?_
  intro p e s m below meth c A ls E0 hP hD hS hl
  obtain ⟨hx, hb, hr, hml, hlocks, hts, hown, hK, hN, hA⟩ := E0
  have hl : lv_has ls 1 [(0, .ref (h 0))] := hl
  have hin : ∀ w ∈ wsX00, w ∈ wsX0_clear := fun w hw => List.mem_cons_of_mem _ (List.mem_append_right _ (hw))
  have k_15 : (Cond.fieldLink RX0 15 RX0 (TX0 1).2.1 (TX0 1).2.2.1).before ([.ref (h 0)] : List Value).toArray s = true := hts _ (List.mem_of_getElem? (i := 1) rfl)
  generalize hres : pX0_clear x = res
  refine lv_aload_n hx hb dX0_clear_0 rfl (lv_at hl 0 rfl) ?_
  refine lv_iconst (v := 0) hx hb dX0_clear_1 (by decide) ?_
  refine md_put (ci := 0) (C := RX0) (T := TX0) (N := 8) hx hb hts hin tyX0 tyX0_ok nmX0 hown hK hP hD hS rfl 1 (by decide) k_15 rfl rfl (q := 0) rfl (fu (by decide)) rfl rfl dX0_clear_2 (fun H locs hP hD hS => ?_)
  exact rt_s hx hb hr hlocks hP hD hS ((show pX0_clear x = (pS x 0 0) by rw [pX0_clear]).symm.trans hres |>.symm) dX0_clear_5
def pX0_rewind (x : SR) : SR := (pS (pS x 1 0) 6 1)
set_option maxHeartbeats 4000000 in
set_option maxRecDepth 100000 in
theorem ctX0_rewind (l : Launch) (G : va_G) (cI cC cZ cR : ClassId) (h : Ad) (x : SR) : Ct l yX0_rewind wsX0_rewind (rmz 0 0) G (TY cI cC cZ cR) [.ref (h 0)] (wPd cC h x) (Qv G (wPd cC h x) (wPd cC h (pX0_rewind x))) := by
  refine Ct.ofV (cc := cX0_rewind) (maxL := 1) (ret := none) (by decide) rfl rfl ?_
  intro p e s m below meth c A ls E0 hP hD hS hl
  obtain ⟨hx, hb, hr, hml, hlocks, hts, hown, hK, hN, hA⟩ := E0
  have hl : lv_has ls 1 [(0, .ref (h 0))] := hl
  have hin : ∀ w ∈ wsX00, w ∈ wsX0_rewind := fun w hw => List.mem_cons_of_mem _ (List.mem_append_right _ (hw))
  have k_19 : (Cond.fieldLink RX0 19 RX0 (TX0 2).2.1 (TX0 2).2.2.1).before ([.ref (h 0)] : List Value).toArray s = true := hts _ (List.mem_of_getElem? (i := 1) rfl)
  have k_35 : (Cond.fieldLink RX0 35 RX0 (TX0 7).2.1 (TX0 7).2.2.1).before ([.ref (h 0)] : List Value).toArray s = true := hts _ (List.mem_of_getElem? (i := 2) rfl)
  generalize hres : pX0_rewind x = res
  refine lv_aload_n hx hb dX0_rewind_0 rfl (lv_at hl 0 rfl) ?_
  refine lv_iconst (v := 0) hx hb dX0_rewind_1 (by decide) ?_
  refine md_put (ci := 0) (C := RX0) (T := TX0) (N := 8) hx hb hts hin tyX0 tyX0_ok nmX0 hown hK hP hD hS rfl 2 (by decide) k_19 rfl rfl (q := 1) rfl (fu (by decide)) rfl rfl dX0_rewind_2 (fun H locs hP hD hS => ?_)
  refine lv_aload_n hx hb dX0_rewind_5 rfl (lv_at hl 0 rfl) ?_
  refine lv_iconst (v := 1) hx hb dX0_rewind_6 (by decide) ?_
  refine md_put (ci := 0) (C := RX0) (T := TX0) (N := 8) hx hb hts hin tyX0 tyX0_ok nmX0 hown hK hP hD hS rfl 7 (by decide) k_35 rfl rfl (q := 6) rfl (fu (by decide)) rfl rfl dX0_rewind_7 (fun H locs hP hD hS => ?_)
  exact rt_s hx hb hr hlocks hP hD hS ((show pX0_rewind x = (pS (pS x 1 0) 6 1) by rw [pX0_rewind]).symm.trans hres |>.symm) dX0_rewind_10
def pX0_append (a1 : Int32) (x : SR) : SR := if (x.1 0) < 0 then x
  else if 80 ≤ (x.1 0) then x
    else (pS (pR x 0 (x.1 0) (vp_nar .char a1)) 0 ((x.1 0) + 1))
set_option maxHeartbeats 4000000 in
set_option maxRecDepth 100000 in
theorem ctX0_append (l : Launch) (G : va_G) (cI cC cZ cR : ClassId) (h : Ad) (x : SR) (a1 : Int32) : Ct l yX0_append wsX0_append (rmz 0 0) G (TY cI cC cZ cR) [.ref (h 0), .int a1] (wPd cC h x) (Qv G (wPd cC h x) (wPd cC h (pX0_append a1 x))) := by
  refine Ct.ofV (cc := cX0_append) (maxL := 2) (ret := none) (by decide) rfl rfl ?_
  intro p e s m below meth c A ls E0 hP hD hS hl
  obtain ⟨hx, hb, hr, hml, hlocks, hts, hown, hK, hN, hA⟩ := E0
  have hl : lv_has ls 2 [(0, .ref (h 0)), (1, .int a1)] := hl
  have hin : ∀ w ∈ wsX00, w ∈ wsX0_append := fun w hw => List.mem_cons_of_mem _ (List.mem_append_right _ (hw))
  have k_15 : (Cond.fieldLink RX0 15 RX0 (TX0 1).2.1 (TX0 1).2.2.1).before ([.ref (h 0), .int a1] : List Value).toArray s = true := hts _ (List.mem_of_getElem? (i := 1) rfl)
  have k_9 : (Cond.fieldLink RX0 9 RX0 (TX0 0).2.1 (TX0 0).2.2.1).before ([.ref (h 0), .int a1] : List Value).toArray s = true := hts _ (List.mem_of_getElem? (i := 2) rfl)
  generalize hres : pX0_append a1 x = res
  refine lv_aload_n hx hb dX0_append_0 rfl (lv_at hl 0 rfl) ?_
  refine md_get (ci := 0) (C := RX0) (T := TX0) (N := 8) (v := .int (x.1 0)) hx hb hts hin hown hK hP rfl 1 (by decide) k_15 rfl rfl rfl dX0_append_1 ?_
  refine lv_if_lt (tgt := 36) hx hb dX0_append_4 (by decide) (fun c_1 => ?_) (fun c_1 => ?_)
  · have t_1 := i_lt (z := (Int32.toInt (x.1 0))) (w := (0)) c_1 rfl (by decide)
    exact rt_s hx hb hr hlocks hP hD hS ((show pX0_append a1 x = x by rw [pX0_append, if_pos c_1]).symm.trans hres |>.symm) dX0_append_36
  · have t_1 := i_nlt (z := (Int32.toInt (x.1 0))) (w := (0)) c_1 rfl (by decide)
    refine lv_aload_n hx hb dX0_append_7 rfl (lv_at hl 0 rfl) ?_
    refine md_get (ci := 0) (C := RX0) (T := TX0) (N := 8) (v := .int (x.1 0)) hx hb hts hin hown hK hP rfl 1 (by decide) k_15 rfl rfl rfl dX0_append_8 ?_
    refine lv_bipush (v := 80) hx hb dX0_append_11 (by decide) ?_
    refine lv_icmp_ge (tgt := 36) hx hb dX0_append_13 (by decide) (fun c_2 => ?_) (fun c_2 => ?_)
    · have t_2 := i_le (z := (80)) (w := (Int32.toInt (x.1 0))) c_2 (by decide) rfl
      exact rt_s hx hb hr hlocks hP hD hS ((show pX0_append a1 x = x by rw [pX0_append, if_neg c_1, if_pos c_2]).symm.trans hres |>.symm) dX0_append_36
    · have t_2 := i_nle (z := (80)) (w := (Int32.toInt (x.1 0))) c_2 (by decide) rfl
      refine lv_aload_n hx hb dX0_append_16 rfl (lv_at hl 0 rfl) ?_
      refine md_get (ci := 0) (C := RX0) (T := TX0) (N := 8) (v := .ref (h 1)) hx hb hts hin hown hK hP rfl 0 (by decide) k_9 rfl rfl rfl dX0_append_17 ?_
      refine lv_aload_n hx hb dX0_append_20 rfl (lv_at hl 0 rfl) ?_
      refine md_get (ci := 0) (C := RX0) (T := TX0) (N := 8) (v := .int (x.1 0)) hx hb hts hin hown hK hP rfl 1 (by decide) k_15 rfl rfl rfl dX0_append_21 ?_
      refine lv_iload_n hx hb dX0_append_24 rfl (lv_at hl 1 rfl) ?_
      refine md_cs hx hb hK hP hD hS 0 1 rfl rfl (by first | assumption | decide | exact vp_in_iff.mpr ⟨by omega, by omega⟩ | exact isPlace_in (by assumption) | exact has_in (by assumption)) dX0_append_25 (fun H locs hP hD hS => ?_)
      refine lv_aload_n hx hb dX0_append_26 rfl (lv_at hl 0 rfl) ?_
      refine lv_dup hx hb dX0_append_27 rfl ?_
      refine md_get (ci := 0) (C := RX0) (T := TX0) (N := 8) (v := .int (x.1 0)) hx hb hts hin hown hK hP rfl 1 (by decide) k_15 rfl rfl rfl dX0_append_28 ?_
      refine lv_iconst (v := 1) hx hb dX0_append_31 (by decide) ?_
      refine lv_iadd hx hb dX0_append_32 ?_
      refine md_put (ci := 0) (C := RX0) (T := TX0) (N := 8) hx hb hts hin tyX0 tyX0_ok nmX0 hown hK hP hD hS rfl 1 (by decide) k_15 rfl rfl (q := 0) rfl (fu (by decide)) rfl rfl dX0_append_33 (fun H locs hP hD hS => ?_)
      exact rt_s hx hb hr hlocks hP hD hS ((show pX0_append a1 x = (pS (pR x 0 (x.1 0) (vp_nar .char a1)) 0 ((x.1 0) + 1)) by rw [pX0_append, if_neg c_1, if_neg c_2]).symm.trans hres |>.symm) dX0_append_36
def pX0_next (x : SR) : Int32 := if (x.1 1) < 0 then 0
  else if (x.1 0) ≤ (x.1 1) then 0
    else if 80 ≤ (x.1 1) then 0
      else x.2 0 (ix (x.1 1))
set_option maxHeartbeats 4000000 in
set_option maxRecDepth 100000 in
theorem ctX0_next (l : Launch) (G : va_G) (cI cC cZ cR : ClassId) (h : Ad) (x : SR) (q_0 : chOK x) : Ct l yX0_next wsX0_next (rmz 0 0) G (TY cI cC cZ cR) [.ref (h 0)] (wPd cC h x) (Qi G (wPd cC h x) (pX0_next x) (wPd cC h x)) := by
  refine Ct.ofI (cc := cX0_next) (maxL := 1) (ret := (some .char)) (by decide) rfl rfl ?_
  intro p e s m below meth c A ls E0 hP hD hS hl
  obtain ⟨hx, hb, hr, hml, hlocks, hts, hown, hK, hN, hA⟩ := E0
  have hl : lv_has ls 1 [(0, .ref (h 0))] := hl
  have hin : ∀ w ∈ wsX00, w ∈ wsX0_next := fun w hw => List.mem_cons_of_mem _ (List.mem_append_right _ (hw))
  have k_19 : (Cond.fieldLink RX0 19 RX0 (TX0 2).2.1 (TX0 2).2.2.1).before ([.ref (h 0)] : List Value).toArray s = true := hts _ (List.mem_of_getElem? (i := 1) rfl)
  have k_15 : (Cond.fieldLink RX0 15 RX0 (TX0 1).2.1 (TX0 1).2.2.1).before ([.ref (h 0)] : List Value).toArray s = true := hts _ (List.mem_of_getElem? (i := 2) rfl)
  have k_9 : (Cond.fieldLink RX0 9 RX0 (TX0 0).2.1 (TX0 0).2.2.1).before ([.ref (h 0)] : List Value).toArray s = true := hts _ (List.mem_of_getElem? (i := 3) rfl)
  generalize hres : pX0_next x = res
  refine lv_aload_n hx hb dX0_next_0 rfl (lv_at hl 0 rfl) ?_
  refine md_get (ci := 0) (C := RX0) (T := TX0) (N := 8) (v := .int (x.1 1)) hx hb hts hin hown hK hP rfl 2 (by decide) k_19 rfl rfl rfl dX0_next_1 ?_
  refine lv_if_lt (tgt := 39) hx hb dX0_next_4 (by decide) (fun c_1 => ?_) (fun c_1 => ?_)
  · have t_1 := i_lt (z := (Int32.toInt (x.1 1))) (w := (0)) c_1 rfl (by decide)
    refine lv_iconst (v := 0) hx hb dX0_next_39 (by decide) ?_
    exact rt_r hx hb hr hlocks hP hD hS rfl ((show pX0_next x = 0 by rw [pX0_next, if_pos c_1]).symm.trans hres |>.symm) dX0_next_40
  · have t_1 := i_nlt (z := (Int32.toInt (x.1 1))) (w := (0)) c_1 rfl (by decide)
    refine lv_aload_n hx hb dX0_next_7 rfl (lv_at hl 0 rfl) ?_
    refine md_get (ci := 0) (C := RX0) (T := TX0) (N := 8) (v := .int (x.1 1)) hx hb hts hin hown hK hP rfl 2 (by decide) k_19 rfl rfl rfl dX0_next_8 ?_
    refine lv_aload_n hx hb dX0_next_11 rfl (lv_at hl 0 rfl) ?_
    refine md_get (ci := 0) (C := RX0) (T := TX0) (N := 8) (v := .int (x.1 0)) hx hb hts hin hown hK hP rfl 1 (by decide) k_15 rfl rfl rfl dX0_next_12 ?_
    refine lv_icmp_ge (tgt := 39) hx hb dX0_next_15 (by decide) (fun c_2 => ?_) (fun c_2 => ?_)
    · have t_2 := i_le (z := (Int32.toInt (x.1 0))) (w := (Int32.toInt (x.1 1))) c_2 rfl rfl
      refine lv_iconst (v := 0) hx hb dX0_next_39 (by decide) ?_
      exact rt_r hx hb hr hlocks hP hD hS rfl ((show pX0_next x = 0 by rw [pX0_next, if_neg c_1, if_pos c_2]).symm.trans hres |>.symm) dX0_next_40
    · have t_2 := i_nle (z := (Int32.toInt (x.1 0))) (w := (Int32.toInt (x.1 1))) c_2 rfl rfl
      refine lv_aload_n hx hb dX0_next_18 rfl (lv_at hl 0 rfl) ?_
      refine md_get (ci := 0) (C := RX0) (T := TX0) (N := 8) (v := .int (x.1 1)) hx hb hts hin hown hK hP rfl 2 (by decide) k_19 rfl rfl rfl dX0_next_19 ?_
      refine lv_bipush (v := 80) hx hb dX0_next_22 (by decide) ?_
      refine lv_icmp_ge (tgt := 39) hx hb dX0_next_24 (by decide) (fun c_3 => ?_) (fun c_3 => ?_)
      · have t_3 := i_le (z := (80)) (w := (Int32.toInt (x.1 1))) c_3 (by decide) rfl
        refine lv_iconst (v := 0) hx hb dX0_next_39 (by decide) ?_
        exact rt_r hx hb hr hlocks hP hD hS rfl ((show pX0_next x = 0 by rw [pX0_next, if_neg c_1, if_neg c_2, if_pos c_3]).symm.trans hres |>.symm) dX0_next_40
      · have t_3 := i_nle (z := (80)) (w := (Int32.toInt (x.1 1))) c_3 (by decide) rfl
        refine lv_aload_n hx hb dX0_next_27 rfl (lv_at hl 0 rfl) ?_
        refine md_get (ci := 0) (C := RX0) (T := TX0) (N := 8) (v := .ref (h 1)) hx hb hts hin hown hK hP rfl 0 (by decide) k_9 rfl rfl rfl dX0_next_28 ?_
        refine lv_aload_n hx hb dX0_next_31 rfl (lv_at hl 0 rfl) ?_
        refine md_get (ci := 0) (C := RX0) (T := TX0) (N := 8) (v := .int (x.1 1)) hx hb hts hin hown hK hP rfl 2 (by decide) k_19 rfl rfl rfl dX0_next_32 ?_
        refine md_ca (v := x.2 0 (ix (x.1 1))) hx hb hK hP 0 1 rfl rfl (by first | assumption | decide | exact vp_in_iff.mpr ⟨by omega, by omega⟩ | exact isPlace_in (by assumption) | exact has_in (by assumption)) rfl dX0_next_35 ?_
        refine lv_goto (tgt := 40) hx hb dX0_next_36 (by decide) ?_
        exact rt_r hx hb hr hlocks hP hD hS (chN (q_0 _)) ((show pX0_next x = x.2 0 (ix (x.1 1)) by rw [pX0_next, if_neg c_1, if_neg c_2, if_neg c_3]).symm.trans hres |>.symm) dX0_next_40
theorem ch_next {x : SR} (h : chOK x) : isCh (pX0_next x) := by
  unfold pX0_next
  repeat' split
  all_goals first | exact h _ | exact ⟨by decide, by decide⟩
def pX0_isDigit (a1 : Int32) : Int32 := if a1 < 48 then 0
  else if 57 < a1 then 0
    else 1
set_option maxHeartbeats 4000000 in
set_option maxRecDepth 100000 in
theorem ctX0_isDigit (l : Launch) (G : va_G) (cI cC cZ cR : ClassId) (a1 : Int32) : Ct l yX0_isDigit wsX0_isDigit (rmz 0 0) G (TY cI cC cZ cR) [.int a1] [] (Qi G [] (pX0_isDigit a1) []) := by
  refine Ct.ofI (cc := cX0_isDigit) (maxL := 1) (ret := (some .boolean)) (by decide) rfl rfl ?_
  intro p e s m below meth c A ls E0 hP hD hS hl
  obtain ⟨hx, hb, hr, hml, hlocks, hts, hown, hK, hN, hA⟩ := E0
  have hl : lv_has ls 1 [(0, .int a1)] := hl
  generalize hres : pX0_isDigit a1 = res
  refine lv_iload_n hx hb dX0_isDigit_0 rfl (lv_at hl 0 rfl) ?_
  refine lv_bipush (v := 48) hx hb dX0_isDigit_1 (by decide) ?_
  refine lv_icmp_lt (tgt := 16) hx hb dX0_isDigit_3 (by decide) (fun c_1 => ?_) (fun c_1 => ?_)
  · have t_1 := i_lt (z := (Int32.toInt a1)) (w := (48)) c_1 rfl (by decide)
    refine lv_iconst (v := 0) hx hb dX0_isDigit_16 (by decide) ?_
    exact rt_r hx hb hr hlocks hP hD hS rfl ((show pX0_isDigit a1 = 0 by rw [pX0_isDigit, if_pos c_1]).symm.trans hres |>.symm) dX0_isDigit_17
  · have t_1 := i_nlt (z := (Int32.toInt a1)) (w := (48)) c_1 rfl (by decide)
    refine lv_iload_n hx hb dX0_isDigit_6 rfl (lv_at hl 0 rfl) ?_
    refine lv_bipush (v := 57) hx hb dX0_isDigit_7 (by decide) ?_
    refine lv_icmp_gt (tgt := 16) hx hb dX0_isDigit_9 (by decide) (fun c_2 => ?_) (fun c_2 => ?_)
    · have t_2 := i_lt (z := (57)) (w := (Int32.toInt a1)) c_2 (by decide) rfl
      refine lv_iconst (v := 0) hx hb dX0_isDigit_16 (by decide) ?_
      exact rt_r hx hb hr hlocks hP hD hS rfl ((show pX0_isDigit a1 = 0 by rw [pX0_isDigit, if_neg c_1, if_pos c_2]).symm.trans hres |>.symm) dX0_isDigit_17
    · have t_2 := i_nlt (z := (57)) (w := (Int32.toInt a1)) c_2 (by decide) rfl
      refine lv_iconst (v := 1) hx hb dX0_isDigit_12 (by decide) ?_
      refine lv_goto (tgt := 17) hx hb dX0_isDigit_13 (by decide) ?_
      exact rt_r hx hb hr hlocks hP hD hS rfl ((show pX0_isDigit a1 = 1 by rw [pX0_isDigit, if_neg c_1, if_neg c_2]).symm.trans hres |>.symm) dX0_isDigit_17
def pX0_skip (a1 : Int32) (x : SR) : Int32 × SR := if (pX0_next x) = a1 then ((1 : Int32), (pS x 1 ((x.1 1) + 1)))
  else ((0 : Int32), x)
set_option maxHeartbeats 4000000 in
set_option maxRecDepth 100000 in
theorem ctX0_skip (l : Launch) (G : va_G) (cI cC cZ cR : ClassId) (h : Ad) (x : SR) (a1 : Int32) (q_0 : chOK x) : Ct l yX0_skip wsX0_skip (rmz 1 20) G (TY cI cC cZ cR) [.ref (h 0), .int a1] (wPd cC h x) (Qi G (wPd cC h x) (pX0_skip a1 x).1 (wPd cC h (pX0_skip a1 x).2)) := by
  refine Ct.ofI (cc := cX0_skip) (maxL := 2) (ret := (some .boolean)) (by decide) rfl rfl ?_
  intro p e s m below meth c A ls E0 hP hD hS hl
  obtain ⟨hx, hb, hr, hml, hlocks, hts, hown, hK, hN, hA⟩ := E0
  have hl : lv_has ls 2 [(0, .ref (h 0)), (1, .int a1)] := hl
  have hin : ∀ w ∈ wsX00, w ∈ wsX0_skip := fun w hw => List.mem_cons_of_mem _ (List.mem_append_right _ (hw))
  have k_19 : (Cond.fieldLink RX0 19 RX0 (TX0 2).2.1 (TX0 2).2.2.1).before ([.ref (h 0), .int a1] : List Value).toArray s = true := hts _ (List.mem_of_getElem? (i := 1) rfl)
  generalize hres : pX0_skip a1 x = res
  refine lv_aload_n hx hb dX0_skip_0 rfl (lv_at hl 0 rfl) ?_
  refine go_i hD hS hA (rn_V (As := []) (rest := []) ⟨hx, hb, hml, hown, hts⟩ (ctX0_next l G cI cC cZ cR h x (by first | assumption | decide | exact vp_in_iff.mpr ⟨by omega, by omega⟩ | exact isPlace_in (by assumption) | exact has_in (by assumption))) (cwV 0 hts gX0_skip_X0_next rfl rfl rfl (by decide +kernel) ⟨Nat.le_of_ble_eq_true rfl, Nat.le_of_ble_eq_true rfl⟩) (md_recv hK hP rfl) hK hP hD hN rfl hl.1 rfl (Nat.le_of_ble_eq_true rfl) dX0_skip_1) (fun H locs hP hD hS => ?_)
  refine lv_iload_n hx hb dX0_skip_4 rfl (lv_at hl 1 rfl) ?_
  refine lv_icmp_eq (tgt := 10) hx hb dX0_skip_5 (by decide) (fun c_1 => ?_) (fun c_1 => ?_)
  · refine lv_aload_n hx hb dX0_skip_10 rfl (lv_at hl 0 rfl) ?_
    refine lv_dup hx hb dX0_skip_11 rfl ?_
    refine md_get (ci := 0) (C := RX0) (T := TX0) (N := 8) (v := .int (x.1 1)) hx hb hts hin hown hK hP rfl 2 (by decide) k_19 rfl rfl rfl dX0_skip_12 ?_
    refine lv_iconst (v := 1) hx hb dX0_skip_15 (by decide) ?_
    refine lv_iadd hx hb dX0_skip_16 ?_
    refine md_put (ci := 0) (C := RX0) (T := TX0) (N := 8) hx hb hts hin tyX0 tyX0_ok nmX0 hown hK hP hD hS rfl 2 (by decide) k_19 rfl rfl (q := 1) rfl (fu (by decide)) rfl rfl dX0_skip_17 (fun H locs hP hD hS => ?_)
    refine lv_iconst (v := 1) hx hb dX0_skip_20 (by decide) ?_
    exact rt_b hx hb hr hlocks hP hD hS rfl ((show pX0_skip a1 x = ((1 : Int32), (pS x 1 ((x.1 1) + 1))) by rw [pX0_skip, if_pos c_1]).symm.trans hres |>.symm) dX0_skip_21
  · refine lv_iconst (v := 0) hx hb dX0_skip_8 (by decide) ?_
    exact rt_b hx hb hr hlocks hP hD hS rfl ((show pX0_skip a1 x = ((0 : Int32), x) by rw [pX0_skip, if_neg c_1]).symm.trans hres |>.symm) dX0_skip_9
theorem skip_b (c : Int32) (x : SR) : (pX0_skip c x).1 = 0 ∨ (pX0_skip c x).1 = 1 := by
  unfold pX0_skip
  repeat' split
  all_goals first | with_reducible exact Or.inl rfl | with_reducible exact Or.inr rfl
theorem skip_t (c : Int32) (x : SR) : (pX0_skip c x).2.2 = x.2 := by
  unfold pX0_skip
  repeat' split
  all_goals simp only [pS_2]
def pX0_readNumber (a1 : Int32) (x : SR) : Int32 × SR := if (pX0_isDigit (pX0_next x)) = 0 then ((0 : Int32), x)
  else if ((pX0_next x) - 48) ≤ 0 then ((1 : Int32), (pS (pS x 3 ((pX0_next x) - 48)) 1 ((x.1 1) + 1)))
    else if (pX0_isDigit (pX0_next (pS (pS x 3 ((pX0_next x) - 48)) 1 ((x.1 1) + 1)))) = 0 then ((1 : Int32), (pS (pS x 3 ((pX0_next x) - 48)) 1 ((x.1 1) + 1)))
      else if a1 < (((10 * ((pX0_next x) - 48)) + (pX0_next (pS (pS x 3 ((pX0_next x) - 48)) 1 ((x.1 1) + 1)))) - 48) then ((1 : Int32), (pS (pS x 3 ((pX0_next x) - 48)) 1 ((x.1 1) + 1)))
        else ((1 : Int32), (pS (pS (pS (pS x 3 ((pX0_next x) - 48)) 1 ((x.1 1) + 1)) 3 (((10 * ((pX0_next x) - 48)) + (pX0_next (pS (pS x 3 ((pX0_next x) - 48)) 1 ((x.1 1) + 1)))) - 48)) 1 (((x.1 1) + 1) + 1)))
set_option maxHeartbeats 4000000 in
set_option maxRecDepth 100000 in
theorem ctX0_readNumber (l : Launch) (G : va_G) (cI cC cZ cR : ClassId) (h : Ad) (x : SR) (a1 : Int32) (q_0 : chOK x) : Ct l yX0_readNumber wsX0_readNumber (rmz 1 20) G (TY cI cC cZ cR) [.ref (h 0), .int a1] (wPd cC h x) (Qi G (wPd cC h x) (pX0_readNumber a1 x).1 (wPd cC h (pX0_readNumber a1 x).2)) := by
  refine Ct.ofI (cc := cX0_readNumber) (maxL := 3) (ret := (some .boolean)) (by decide) rfl rfl ?_
  intro p e s m below meth c A ls E0 hP hD hS hl
  obtain ⟨hx, hb, hr, hml, hlocks, hts, hown, hK, hN, hA⟩ := E0
  have hl : lv_has ls 3 [(0, .ref (h 0)), (1, .int a1)] := hl
  have hin : ∀ w ∈ wsX00, w ∈ wsX0_readNumber := fun w hw => List.mem_cons_of_mem _ (List.mem_append_right _ (hw))
  have k_26 : (Cond.fieldLink RX0 26 RX0 (TX0 4).2.1 (TX0 4).2.2.1).before ([.ref (h 0), .int a1] : List Value).toArray s = true := hts _ (List.mem_of_getElem? (i := 1) rfl)
  have k_19 : (Cond.fieldLink RX0 19 RX0 (TX0 2).2.1 (TX0 2).2.2.1).before ([.ref (h 0), .int a1] : List Value).toArray s = true := hts _ (List.mem_of_getElem? (i := 2) rfl)
  generalize hres : pX0_readNumber a1 x = res
  refine lv_aload_n hx hb dX0_readNumber_0 rfl (lv_at hl 0 rfl) ?_
  refine go_i hD hS hA (rn_V (As := []) (rest := []) ⟨hx, hb, hml, hown, hts⟩ (ctX0_next l G cI cC cZ cR h x (by exact q_0)) (cwV 0 hts gX0_readNumber_X0_next rfl rfl rfl (by decide +kernel) ⟨Nat.le_of_ble_eq_true rfl, Nat.le_of_ble_eq_true rfl⟩) (md_recv hK hP rfl) hK hP hD hN rfl hl.1 rfl (Nat.le_of_ble_eq_true rfl) dX0_readNumber_1) (fun H locs hP hD hS => ?_)
  refine gn_i hP hS hA (rn_S (As := [.int (pX0_next x)]) (rest := []) ⟨hx, hb, hml, hown, hts⟩ (ctX0_isDigit l G cI cC cZ cR (pX0_next x)) (va_cwS 1 hts gX0_readNumber_X0_isDigit rfl rfl rfl (by decide +kernel) ⟨Nat.le_of_ble_eq_true rfl, Nat.le_of_ble_eq_true rfl⟩) hK nilP (nilD (A := A)) hN rfl hl.1 rfl (Nat.le_of_ble_eq_true rfl) dX0_readNumber_4) (fun H locs hP hS => ?_)
  refine lv_if_ne (tgt := 12) hx hb dX0_readNumber_7 (by decide) (fun c_1 => ?_) (fun c_1 => ?_)
  · refine lv_aload_n hx hb dX0_readNumber_12 rfl (lv_at hl 0 rfl) ?_
    refine lv_aload_n hx hb dX0_readNumber_13 rfl (lv_at hl 0 rfl) ?_
    refine go_i hD hS hA (rn_V (As := []) (rest := [.ref (h 0)]) ⟨hx, hb, hml, hown, hts⟩ (ctX0_next l G cI cC cZ cR h x (by exact q_0)) (cwV 0 hts gX0_readNumber_X0_next rfl rfl rfl (by decide +kernel) ⟨Nat.le_of_ble_eq_true rfl, Nat.le_of_ble_eq_true rfl⟩) (md_recv hK hP rfl) hK hP hD hN rfl hl.1 rfl (Nat.le_of_ble_eq_true rfl) dX0_readNumber_14) (fun H locs hP hD hS => ?_)
    refine lv_bipush (v := 48) hx hb dX0_readNumber_17 (by decide) ?_
    refine lv_isub hx hb dX0_readNumber_19 ?_
    refine md_put (ci := 0) (C := RX0) (T := TX0) (N := 8) hx hb hts hin tyX0 tyX0_ok nmX0 hown hK hP hD hS rfl 4 (by decide) k_26 rfl rfl (q := 3) rfl (fu (by decide)) rfl rfl dX0_readNumber_20 (fun H locs hP hD hS => ?_)
    refine lv_aload_n hx hb dX0_readNumber_23 rfl (lv_at hl 0 rfl) ?_
    refine lv_dup hx hb dX0_readNumber_24 rfl ?_
    refine md_get (ci := 0) (C := RX0) (T := TX0) (N := 8) (v := .int (x.1 1)) hx hb hts hin hown hK hP rfl 2 (by decide) k_19 rfl rfl rfl dX0_readNumber_25 ?_
    refine lv_iconst (v := 1) hx hb dX0_readNumber_28 (by decide) ?_
    refine lv_iadd hx hb dX0_readNumber_29 ?_
    refine md_put (ci := 0) (C := RX0) (T := TX0) (N := 8) hx hb hts hin tyX0 tyX0_ok nmX0 hown hK hP hD hS rfl 2 (by decide) k_19 rfl rfl (q := 1) rfl (fu (by decide)) rfl rfl dX0_readNumber_30 (fun H locs hP hD hS => ?_)
    refine lv_aload_n hx hb dX0_readNumber_33 rfl (lv_at hl 0 rfl) ?_
    refine md_get (ci := 0) (C := RX0) (T := TX0) (N := 8) (v := .int ((pX0_next x) - 48)) hx hb hts hin hown hK hP rfl 4 (by decide) k_26 rfl rfl rfl dX0_readNumber_34 ?_
    refine lv_if_le (tgt := 54) hx hb dX0_readNumber_37 (by decide) (fun c_2 => ?_) (fun c_2 => ?_)
    · have t_2 := i_le (z := (Int32.toInt ((pX0_next x) - 48))) (w := (0)) c_2 rfl (by decide)
      refine lv_iconst (v := 0) hx hb dX0_readNumber_54 (by decide) ?_
      refine lv_istore_n (lv' := [(2, .int 0), (0, .ref (h 0)), (1, .int a1)]) hx hb dX0_readNumber_55 rfl hl (by decide) rfl (fun ls hl => ?_)
      refine lv_iload_n hx hb dX0_readNumber_56 rfl (lv_at hl 0 rfl) ?_
      refine lv_if_eq (tgt := 108) hx hb dX0_readNumber_57 (by decide) (fun cz => ?_) (fun cz => absurd cz (by decide))
      refine lv_iconst (v := 1) hx hb dX0_readNumber_108 (by decide) ?_
      exact rt_b hx hb hr hlocks hP hD hS rfl ((show pX0_readNumber a1 x = ((1 : Int32), (pS (pS x 3 ((pX0_next x) - 48)) 1 ((x.1 1) + 1))) by rw [pX0_readNumber, if_neg c_1, if_pos c_2]).symm.trans hres |>.symm) dX0_readNumber_109
    · have t_2 := i_nle (z := (Int32.toInt ((pX0_next x) - 48))) (w := (0)) c_2 rfl (by decide)
      refine lv_aload_n hx hb dX0_readNumber_40 rfl (lv_at hl 0 rfl) ?_
      refine go_i hD hS hA (rn_V (As := []) (rest := []) ⟨hx, hb, hml, hown, hts⟩ (ctX0_next l G cI cC cZ cR h (pS (pS x 3 ((pX0_next x) - 48)) 1 ((x.1 1) + 1)) (by exact q_0)) (cwV 0 hts gX0_readNumber_X0_next rfl rfl rfl (by decide +kernel) ⟨Nat.le_of_ble_eq_true rfl, Nat.le_of_ble_eq_true rfl⟩) (md_recv hK hP rfl) hK hP hD hN rfl hl.1 rfl (Nat.le_of_ble_eq_true rfl) dX0_readNumber_41) (fun H locs hP hD hS => ?_)
      refine gn_i hP hS hA (rn_S (As := [.int (pX0_next (pS (pS x 3 ((pX0_next x) - 48)) 1 ((x.1 1) + 1)))]) (rest := []) ⟨hx, hb, hml, hown, hts⟩ (ctX0_isDigit l G cI cC cZ cR (pX0_next (pS (pS x 3 ((pX0_next x) - 48)) 1 ((x.1 1) + 1)))) (va_cwS 1 hts gX0_readNumber_X0_isDigit rfl rfl rfl (by decide +kernel) ⟨Nat.le_of_ble_eq_true rfl, Nat.le_of_ble_eq_true rfl⟩) hK nilP (nilD (A := A)) hN rfl hl.1 rfl (Nat.le_of_ble_eq_true rfl) dX0_readNumber_44) (fun H locs hP hS => ?_)
      refine lv_if_eq (tgt := 54) hx hb dX0_readNumber_47 (by decide) (fun c_3 => ?_) (fun c_3 => ?_)
      · refine lv_iconst (v := 0) hx hb dX0_readNumber_54 (by decide) ?_
        refine lv_istore_n (lv' := [(2, .int 0), (0, .ref (h 0)), (1, .int a1)]) hx hb dX0_readNumber_55 rfl hl (by decide) rfl (fun ls hl => ?_)
        refine lv_iload_n hx hb dX0_readNumber_56 rfl (lv_at hl 0 rfl) ?_
        refine lv_if_eq (tgt := 108) hx hb dX0_readNumber_57 (by decide) (fun cz => ?_) (fun cz => absurd cz (by decide))
        refine lv_iconst (v := 1) hx hb dX0_readNumber_108 (by decide) ?_
        exact rt_b hx hb hr hlocks hP hD hS rfl ((show pX0_readNumber a1 x = ((1 : Int32), (pS (pS x 3 ((pX0_next x) - 48)) 1 ((x.1 1) + 1))) by rw [pX0_readNumber, if_neg c_1, if_neg c_2, if_pos c_3]).symm.trans hres |>.symm) dX0_readNumber_109
      · refine lv_iconst (v := 1) hx hb dX0_readNumber_50 (by decide) ?_
        refine lv_goto (tgt := 55) hx hb dX0_readNumber_51 (by decide) ?_
        refine lv_istore_n (lv' := [(2, .int 1), (0, .ref (h 0)), (1, .int a1)]) hx hb dX0_readNumber_55 rfl hl (by decide) rfl (fun ls hl => ?_)
        refine lv_iload_n hx hb dX0_readNumber_56 rfl (lv_at hl 0 rfl) ?_
        refine lv_if_eq (tgt := 108) hx hb dX0_readNumber_57 (by decide) (fun cz => absurd cz (by decide)) (fun cz => ?_)
        refine lv_bipush (v := 10) hx hb dX0_readNumber_60 (by decide) ?_
        refine lv_aload_n hx hb dX0_readNumber_62 rfl (lv_at hl 1 rfl) ?_
        refine md_get (ci := 0) (C := RX0) (T := TX0) (N := 8) (v := .int ((pX0_next x) - 48)) hx hb hts hin hown hK hP rfl 4 (by decide) k_26 rfl rfl rfl dX0_readNumber_63 ?_
        refine lv_imul hx hb dX0_readNumber_66 ?_
        refine lv_aload_n hx hb dX0_readNumber_67 rfl (lv_at hl 1 rfl) ?_
        refine go_i hD hS hA (rn_V (As := []) (rest := [.int (10 * ((pX0_next x) - 48))]) ⟨hx, hb, hml, hown, hts⟩ (ctX0_next l G cI cC cZ cR h (pS (pS x 3 ((pX0_next x) - 48)) 1 ((x.1 1) + 1)) (by exact q_0)) (cwV 0 hts gX0_readNumber_X0_next rfl rfl rfl (by decide +kernel) ⟨Nat.le_of_ble_eq_true rfl, Nat.le_of_ble_eq_true rfl⟩) (md_recv hK hP rfl) hK hP hD hN rfl hl.1 rfl (Nat.le_of_ble_eq_true rfl) dX0_readNumber_68) (fun H locs hP hD hS => ?_)
        refine lv_iadd hx hb dX0_readNumber_71 ?_
        refine lv_bipush (v := 48) hx hb dX0_readNumber_72 (by decide) ?_
        refine lv_isub hx hb dX0_readNumber_74 ?_
        refine lv_iload_n hx hb dX0_readNumber_75 rfl (lv_at hl 2 rfl) ?_
        refine lv_icmp_gt (tgt := 108) hx hb dX0_readNumber_76 (by decide) (fun c_4 => ?_) (fun c_4 => ?_)
        · have t_4 := i_lt (z := (Int32.toInt a1)) (w := (Int32.toInt (((10 * ((pX0_next x) - 48)) + (pX0_next (pS (pS x 3 ((pX0_next x) - 48)) 1 ((x.1 1) + 1)))) - 48))) c_4 rfl rfl
          refine lv_iconst (v := 1) hx hb dX0_readNumber_108 (by decide) ?_
          exact rt_b hx hb hr hlocks hP hD hS rfl ((show pX0_readNumber a1 x = ((1 : Int32), (pS (pS x 3 ((pX0_next x) - 48)) 1 ((x.1 1) + 1))) by rw [pX0_readNumber, if_neg c_1, if_neg c_2, if_neg c_3, if_pos c_4]).symm.trans hres |>.symm) dX0_readNumber_109
        · have t_4 := i_nlt (z := (Int32.toInt a1)) (w := (Int32.toInt (((10 * ((pX0_next x) - 48)) + (pX0_next (pS (pS x 3 ((pX0_next x) - 48)) 1 ((x.1 1) + 1)))) - 48))) c_4 rfl rfl
          refine lv_aload_n hx hb dX0_readNumber_79 rfl (lv_at hl 1 rfl) ?_
          refine lv_bipush (v := 10) hx hb dX0_readNumber_80 (by decide) ?_
          refine lv_aload_n hx hb dX0_readNumber_82 rfl (lv_at hl 1 rfl) ?_
          refine md_get (ci := 0) (C := RX0) (T := TX0) (N := 8) (v := .int ((pX0_next x) - 48)) hx hb hts hin hown hK hP rfl 4 (by decide) k_26 rfl rfl rfl dX0_readNumber_83 ?_
          refine lv_imul hx hb dX0_readNumber_86 ?_
          refine lv_aload_n hx hb dX0_readNumber_87 rfl (lv_at hl 1 rfl) ?_
          refine go_i hD hS hA (rn_V (As := []) (rest := [.int (10 * ((pX0_next x) - 48)), .ref (h 0)]) ⟨hx, hb, hml, hown, hts⟩ (ctX0_next l G cI cC cZ cR h (pS (pS x 3 ((pX0_next x) - 48)) 1 ((x.1 1) + 1)) (by exact q_0)) (cwV 0 hts gX0_readNumber_X0_next rfl rfl rfl (by decide +kernel) ⟨Nat.le_of_ble_eq_true rfl, Nat.le_of_ble_eq_true rfl⟩) (md_recv hK hP rfl) hK hP hD hN rfl hl.1 rfl (Nat.le_of_ble_eq_true rfl) dX0_readNumber_88) (fun H locs hP hD hS => ?_)
          refine lv_iadd hx hb dX0_readNumber_91 ?_
          refine lv_bipush (v := 48) hx hb dX0_readNumber_92 (by decide) ?_
          refine lv_isub hx hb dX0_readNumber_94 ?_
          refine md_put (ci := 0) (C := RX0) (T := TX0) (N := 8) hx hb hts hin tyX0 tyX0_ok nmX0 hown hK hP hD hS rfl 4 (by decide) k_26 rfl rfl (q := 3) rfl (fu (by decide)) rfl rfl dX0_readNumber_95 (fun H locs hP hD hS => ?_)
          refine lv_aload_n hx hb dX0_readNumber_98 rfl (lv_at hl 1 rfl) ?_
          refine lv_dup hx hb dX0_readNumber_99 rfl ?_
          refine md_get (ci := 0) (C := RX0) (T := TX0) (N := 8) (v := .int ((x.1 1) + 1)) hx hb hts hin hown hK hP rfl 2 (by decide) k_19 rfl rfl rfl dX0_readNumber_100 ?_
          refine lv_iconst (v := 1) hx hb dX0_readNumber_103 (by decide) ?_
          refine lv_iadd hx hb dX0_readNumber_104 ?_
          refine md_put (ci := 0) (C := RX0) (T := TX0) (N := 8) hx hb hts hin tyX0 tyX0_ok nmX0 hown hK hP hD hS rfl 2 (by decide) k_19 rfl rfl (q := 1) rfl (fu (by decide)) rfl rfl dX0_readNumber_105 (fun H locs hP hD hS => ?_)
          refine lv_iconst (v := 1) hx hb dX0_readNumber_108 (by decide) ?_
          exact rt_b hx hb hr hlocks hP hD hS rfl ((show pX0_readNumber a1 x = ((1 : Int32), (pS (pS (pS (pS x 3 ((pX0_next x) - 48)) 1 ((x.1 1) + 1)) 3 (((10 * ((pX0_next x) - 48)) + (pX0_next (pS (pS x 3 ((pX0_next x) - 48)) 1 ((x.1 1) + 1)))) - 48)) 1 (((x.1 1) + 1) + 1))) by rw [pX0_readNumber, if_neg c_1, if_neg c_2, if_neg c_3, if_neg c_4]).symm.trans hres |>.symm) dX0_readNumber_109
  · refine lv_iconst (v := 0) hx hb dX0_readNumber_10 (by decide) ?_
    exact rt_b hx hb hr hlocks hP hD hS rfl ((show pX0_readNumber a1 x = ((0 : Int32), x) by rw [pX0_readNumber, if_pos c_1]).symm.trans hres |>.symm) dX0_readNumber_11
theorem readNumber_b (c : Int32) (x : SR) : (pX0_readNumber c x).1 = 0 ∨ (pX0_readNumber c x).1 = 1 := by
  unfold pX0_readNumber
  repeat' split
  all_goals first | with_reducible exact Or.inl rfl | with_reducible exact Or.inr rfl
theorem readNumber_t (c : Int32) (x : SR) : (pX0_readNumber c x).2.2 = x.2 := by
  unfold pX0_readNumber
  repeat' split
  all_goals simp only [pS_2]
