def pX0_readOrder (x : SR) : Int32 × SR := if ((pX0_readBody (pS (pS (pS (pS (pS x 3 0) 4 0) 5 0) 6 0) 2 (pX0_next (pS (pS (pS (pS x 3 0) 4 0) 5 0) 6 0)))).1) = 0 then ((0 : Int32), (pX0_readBody (pS (pS (pS (pS (pS x 3 0) 4 0) 5 0) 6 0) 2 (pX0_next (pS (pS (pS (pS x 3 0) 4 0) 5 0) 6 0)))).2)
  else if ((pX0_skip 59 (pX0_readBody (pS (pS (pS (pS (pS x 3 0) 4 0) 5 0) 6 0) 2 (pX0_next (pS (pS (pS (pS x 3 0) 4 0) 5 0) 6 0)))).2).1) = 0 then if ((pX0_skip 59 (pX0_readBody (pS (pS (pS (pS (pS x 3 0) 4 0) 5 0) 6 0) 2 (pX0_next (pS (pS (pS (pS x 3 0) 4 0) 5 0) 6 0)))).2).2.1 1) = ((pX0_skip 59 (pX0_readBody (pS (pS (pS (pS (pS x 3 0) 4 0) 5 0) 6 0) 2 (pX0_next (pS (pS (pS (pS x 3 0) 4 0) 5 0) 6 0)))).2).2.1 0) then ((1 : Int32), (pS (pX0_skip 59 (pX0_readBody (pS (pS (pS (pS (pS x 3 0) 4 0) 5 0) 6 0) 2 (pX0_next (pS (pS (pS (pS x 3 0) 4 0) 5 0) 6 0)))).2).2 6 ((pX0_skip 59 (pX0_readBody (pS (pS (pS (pS (pS x 3 0) 4 0) 5 0) 6 0) 2 (pX0_next (pS (pS (pS (pS x 3 0) 4 0) 5 0) 6 0)))).2).1)))
      else ((0 : Int32), (pS (pX0_skip 59 (pX0_readBody (pS (pS (pS (pS (pS x 3 0) 4 0) 5 0) 6 0) 2 (pX0_next (pS (pS (pS (pS x 3 0) 4 0) 5 0) 6 0)))).2).2 6 ((pX0_skip 59 (pX0_readBody (pS (pS (pS (pS (pS x 3 0) 4 0) 5 0) 6 0) 2 (pX0_next (pS (pS (pS (pS x 3 0) 4 0) 5 0) 6 0)))).2).1)))
    else ((1 : Int32), (pS (pX0_skip 59 (pX0_readBody (pS (pS (pS (pS (pS x 3 0) 4 0) 5 0) 6 0) 2 (pX0_next (pS (pS (pS (pS x 3 0) 4 0) 5 0) 6 0)))).2).2 6 ((pX0_skip 59 (pX0_readBody (pS (pS (pS (pS (pS x 3 0) 4 0) 5 0) 6 0) 2 (pX0_next (pS (pS (pS (pS x 3 0) 4 0) 5 0) 6 0)))).2).1)))
set_option maxHeartbeats 4000000 in
set_option maxRecDepth 100000 in
theorem ctX0_readOrder (l : Launch) (G : va_G) (cI cC cZ cR : ClassId) (h : Ad) (x : SR) (q_0 : chOK x) : Ct l yX0_readOrder wsX0_readOrder (rmz 4 83) G (TY cI cC cZ cR) [.ref (h 0)] (wPd cC h x) (Qi G (wPd cC h x) (pX0_readOrder x).1 (wPd cC h (pX0_readOrder x).2)) := by
  refine Ct.ofI (cc := cX0_readOrder) (maxL := 1) (ret := (some .boolean)) (by decide) rfl rfl ?_
  intro p e s m below meth c A ls E0 hP hD hS hl
  obtain ⟨hx, hb, hr, hml, hlocks, hts, hown, hK, hN, hA⟩ := E0
  have hl : lv_has ls 1 [(0, .ref (h 0))] := hl
  have hin : ∀ w ∈ wsX00, w ∈ wsX0_readOrder := fun w hw => List.mem_cons_of_mem _ (List.mem_append_right _ (hw))
  have k_26 : (Cond.fieldLink RX0 26 RX0 (TX0 4).2.1 (TX0 4).2.2.1).before ([.ref (h 0)] : List Value).toArray s = true := hts _ (List.mem_of_getElem? (i := 1) rfl)
  have k_29 : (Cond.fieldLink RX0 29 RX0 (TX0 5).2.1 (TX0 5).2.2.1).before ([.ref (h 0)] : List Value).toArray s = true := hts _ (List.mem_of_getElem? (i := 2) rfl)
  have k_32 : (Cond.fieldLink RX0 32 RX0 (TX0 6).2.1 (TX0 6).2.2.1).before ([.ref (h 0)] : List Value).toArray s = true := hts _ (List.mem_of_getElem? (i := 3) rfl)
  have k_35 : (Cond.fieldLink RX0 35 RX0 (TX0 7).2.1 (TX0 7).2.2.1).before ([.ref (h 0)] : List Value).toArray s = true := hts _ (List.mem_of_getElem? (i := 4) rfl)
  have k_22 : (Cond.fieldLink RX0 22 RX0 (TX0 3).2.1 (TX0 3).2.2.1).before ([.ref (h 0)] : List Value).toArray s = true := hts _ (List.mem_of_getElem? (i := 5) rfl)
  have k_19 : (Cond.fieldLink RX0 19 RX0 (TX0 2).2.1 (TX0 2).2.2.1).before ([.ref (h 0)] : List Value).toArray s = true := hts _ (List.mem_of_getElem? (i := 6) rfl)
  have k_15 : (Cond.fieldLink RX0 15 RX0 (TX0 1).2.1 (TX0 1).2.2.1).before ([.ref (h 0)] : List Value).toArray s = true := hts _ (List.mem_of_getElem? (i := 7) rfl)
  generalize hres : pX0_readOrder x = res
  refine lv_aload_n hx hb dX0_readOrder_0 rfl (lv_at hl 0 rfl) ?_
  refine lv_iconst (v := 0) hx hb dX0_readOrder_1 (by decide) ?_
  refine md_put (ci := 0) (C := RX0) (T := TX0) (N := 8) hx hb hts hin tyX0 tyX0_ok nmX0 hown hK hP hD hS rfl 4 (by decide) k_26 rfl rfl (q := 3) rfl (fu (by decide)) rfl rfl dX0_readOrder_2 (fun H locs hP hD hS => ?_)
  refine lv_aload_n hx hb dX0_readOrder_5 rfl (lv_at hl 0 rfl) ?_
  refine lv_iconst (v := 0) hx hb dX0_readOrder_6 (by decide) ?_
  refine md_put (ci := 0) (C := RX0) (T := TX0) (N := 8) hx hb hts hin tyX0 tyX0_ok nmX0 hown hK hP hD hS rfl 5 (by decide) k_29 rfl rfl (q := 4) rfl (fu (by decide)) rfl rfl dX0_readOrder_7 (fun H locs hP hD hS => ?_)
  refine lv_aload_n hx hb dX0_readOrder_10 rfl (lv_at hl 0 rfl) ?_
  refine lv_iconst (v := 0) hx hb dX0_readOrder_11 (by decide) ?_
  refine md_put (ci := 0) (C := RX0) (T := TX0) (N := 8) hx hb hts hin tyX0 tyX0_ok nmX0 hown hK hP hD hS rfl 6 (by decide) k_32 rfl rfl (q := 5) rfl (fu (by decide)) rfl rfl dX0_readOrder_12 (fun H locs hP hD hS => ?_)
  refine lv_aload_n hx hb dX0_readOrder_15 rfl (lv_at hl 0 rfl) ?_
  refine lv_iconst (v := 0) hx hb dX0_readOrder_16 (by decide) ?_
  refine md_put (ci := 0) (C := RX0) (T := TX0) (N := 8) hx hb hts hin tyX0 tyX0_ok nmX0 hown hK hP hD hS rfl 7 (by decide) k_35 rfl rfl (q := 6) rfl (fu (by decide)) rfl rfl dX0_readOrder_17 (fun H locs hP hD hS => ?_)
  refine lv_aload_n hx hb dX0_readOrder_20 rfl (lv_at hl 0 rfl) ?_
  refine lv_aload_n hx hb dX0_readOrder_21 rfl (lv_at hl 0 rfl) ?_
  refine go_i hD hS hA (rn_V (As := []) (rest := [.ref (h 0)]) ⟨hx, hb, hml, hown, hts⟩ (ctX0_next l G cI cC cZ cR h (pS (pS (pS (pS x 3 0) 4 0) 5 0) 6 0) (by exact q_0)) (cwV 0 hts gX0_readOrder_X0_next rfl rfl rfl (by decide +kernel) ⟨Nat.le_of_ble_eq_true rfl, Nat.le_of_ble_eq_true rfl⟩) (md_recv hK hP rfl) hK hP hD hN rfl hl.1 rfl (Nat.le_of_ble_eq_true rfl) dX0_readOrder_22) (fun H locs hP hD hS => ?_)
  refine md_put (ci := 0) (C := RX0) (T := TX0) (N := 8) hx hb hts hin tyX0 tyX0_ok nmX0 hown hK hP hD hS rfl 3 (by decide) k_22 rfl rfl (q := 2) rfl (fu (by decide)) (chN (ch_next q_0)) (chF (ch_next q_0)) dX0_readOrder_25 (fun H locs hP hD hS => ?_)
  refine lv_aload_n hx hb dX0_readOrder_28 rfl (lv_at hl 0 rfl) ?_
  refine go_i hD hS hA (rn_V (As := []) (rest := []) ⟨hx, hb, hml, hown, hts⟩ (ctX0_readBody l G cI cC cZ cR h (pS (pS (pS (pS (pS x 3 0) 4 0) 5 0) 6 0) 2 (pX0_next (pS (pS (pS (pS x 3 0) 4 0) 5 0) 6 0))) (by exact q_0)) (cwV 0 hts gX0_readOrder_X0_readBody rfl rfl rfl (by decide +kernel) ⟨Nat.le_of_ble_eq_true rfl, Nat.le_of_ble_eq_true rfl⟩) (md_recv hK hP rfl) hK hP hD hN rfl hl.1 rfl (Nat.le_of_ble_eq_true rfl) dX0_readOrder_29) (fun H locs hP hD hS => ?_)
  refine lv_if_ne (tgt := 37) hx hb dX0_readOrder_32 (by decide) (fun c_1 => ?_) (fun c_1 => ?_)
  · refine lv_aload_n hx hb dX0_readOrder_37 rfl (lv_at hl 0 rfl) ?_
    refine lv_aload_n hx hb dX0_readOrder_38 rfl (lv_at hl 0 rfl) ?_
    refine lv_bipush (v := 59) hx hb dX0_readOrder_39 (by decide) ?_
    refine go_i hD hS hA (rn_V (As := [.int 59]) (rest := [.ref (h 0)]) ⟨hx, hb, hml, hown, hts⟩ (ctX0_skip l G cI cC cZ cR h (pX0_readBody (pS (pS (pS (pS (pS x 3 0) 4 0) 5 0) 6 0) 2 (pX0_next (pS (pS (pS (pS x 3 0) 4 0) 5 0) 6 0)))).2 59 (by exact ch_of (readBody_t _) q_0)) (cwV 1 hts gX0_readOrder_X0_skip rfl rfl rfl (by decide +kernel) ⟨Nat.le_of_ble_eq_true rfl, Nat.le_of_ble_eq_true rfl⟩) (md_recv hK hP rfl) hK hP hD hN rfl hl.1 rfl (Nat.le_of_ble_eq_true rfl) dX0_readOrder_41) (fun H locs hP hD hS => ?_)
    refine md_put (ci := 0) (C := RX0) (T := TX0) (N := 8) hx hb hts hin tyX0 tyX0_ok nmX0 hown hK hP hD hS rfl 7 (by decide) k_35 rfl rfl (q := 6) rfl (fu (by decide)) (nz_of (skip_b _ _)) (fz_of (skip_b _ _)) dX0_readOrder_44 (fun H locs hP hD hS => ?_)
    refine lv_aload_n hx hb dX0_readOrder_47 rfl (lv_at hl 0 rfl) ?_
    refine md_get (ci := 0) (C := RX0) (T := TX0) (N := 8) (v := .int ((pX0_skip 59 (pX0_readBody (pS (pS (pS (pS (pS x 3 0) 4 0) 5 0) 6 0) 2 (pX0_next (pS (pS (pS (pS x 3 0) 4 0) 5 0) 6 0)))).2).1)) hx hb hts hin hown hK hP rfl 7 (by decide) k_35 rfl rfl rfl dX0_readOrder_48 ?_
    refine lv_if_ne (tgt := 65) hx hb dX0_readOrder_51 (by decide) (fun c_2 => ?_) (fun c_2 => ?_)
    · refine lv_iconst (v := 1) hx hb dX0_readOrder_65 (by decide) ?_
      refine lv_goto (tgt := 70) hx hb dX0_readOrder_66 (by decide) ?_
      exact rt_b hx hb hr hlocks hP hD hS rfl ((show pX0_readOrder x = ((1 : Int32), (pS (pX0_skip 59 (pX0_readBody (pS (pS (pS (pS (pS x 3 0) 4 0) 5 0) 6 0) 2 (pX0_next (pS (pS (pS (pS x 3 0) 4 0) 5 0) 6 0)))).2).2 6 ((pX0_skip 59 (pX0_readBody (pS (pS (pS (pS (pS x 3 0) 4 0) 5 0) 6 0) 2 (pX0_next (pS (pS (pS (pS x 3 0) 4 0) 5 0) 6 0)))).2).1))) by rw [pX0_readOrder, if_neg c_1, if_neg c_2]).symm.trans hres |>.symm) dX0_readOrder_70
    · refine lv_aload_n hx hb dX0_readOrder_54 rfl (lv_at hl 0 rfl) ?_
      refine md_get (ci := 0) (C := RX0) (T := TX0) (N := 8) (v := .int ((pX0_skip 59 (pX0_readBody (pS (pS (pS (pS (pS x 3 0) 4 0) 5 0) 6 0) 2 (pX0_next (pS (pS (pS (pS x 3 0) 4 0) 5 0) 6 0)))).2).2.1 1)) hx hb hts hin hown hK hP rfl 2 (by decide) k_19 rfl rfl rfl dX0_readOrder_55 ?_
      refine lv_aload_n hx hb dX0_readOrder_58 rfl (lv_at hl 0 rfl) ?_
      refine md_get (ci := 0) (C := RX0) (T := TX0) (N := 8) (v := .int ((pX0_skip 59 (pX0_readBody (pS (pS (pS (pS (pS x 3 0) 4 0) 5 0) 6 0) 2 (pX0_next (pS (pS (pS (pS x 3 0) 4 0) 5 0) 6 0)))).2).2.1 0)) hx hb hts hin hown hK hP rfl 1 (by decide) k_15 rfl rfl rfl dX0_readOrder_59 ?_
      refine lv_icmp_ne (tgt := 69) hx hb dX0_readOrder_62 (by decide) (fun c_3 => ?_) (fun c_3 => ?_)
      · refine lv_iconst (v := 0) hx hb dX0_readOrder_69 (by decide) ?_
        exact rt_b hx hb hr hlocks hP hD hS rfl ((show pX0_readOrder x = ((0 : Int32), (pS (pX0_skip 59 (pX0_readBody (pS (pS (pS (pS (pS x 3 0) 4 0) 5 0) 6 0) 2 (pX0_next (pS (pS (pS (pS x 3 0) 4 0) 5 0) 6 0)))).2).2 6 ((pX0_skip 59 (pX0_readBody (pS (pS (pS (pS (pS x 3 0) 4 0) 5 0) 6 0) 2 (pX0_next (pS (pS (pS (pS x 3 0) 4 0) 5 0) 6 0)))).2).1))) by rw [pX0_readOrder, if_neg c_1, if_pos c_2, if_neg c_3]).symm.trans hres |>.symm) dX0_readOrder_70
      · refine lv_iconst (v := 1) hx hb dX0_readOrder_65 (by decide) ?_
        refine lv_goto (tgt := 70) hx hb dX0_readOrder_66 (by decide) ?_
        exact rt_b hx hb hr hlocks hP hD hS rfl ((show pX0_readOrder x = ((1 : Int32), (pS (pX0_skip 59 (pX0_readBody (pS (pS (pS (pS (pS x 3 0) 4 0) 5 0) 6 0) 2 (pX0_next (pS (pS (pS (pS x 3 0) 4 0) 5 0) 6 0)))).2).2 6 ((pX0_skip 59 (pX0_readBody (pS (pS (pS (pS (pS x 3 0) 4 0) 5 0) 6 0) 2 (pX0_next (pS (pS (pS (pS x 3 0) 4 0) 5 0) 6 0)))).2).1))) by rw [pX0_readOrder, if_neg c_1, if_pos c_2, if_pos c_3]).symm.trans hres |>.symm) dX0_readOrder_70
  · refine lv_iconst (v := 0) hx hb dX0_readOrder_35 (by decide) ?_
    exact rt_b hx hb hr hlocks hP hD hS rfl ((show pX0_readOrder x = ((0 : Int32), (pX0_readBody (pS (pS (pS (pS (pS x 3 0) 4 0) 5 0) 6 0) 2 (pX0_next (pS (pS (pS (pS x 3 0) 4 0) 5 0) 6 0)))).2) by rw [pX0_readOrder, if_pos c_1]).symm.trans hres |>.symm) dX0_readOrder_36
theorem readOrder_b (x : SR) : (pX0_readOrder x).1 = 0 ∨ (pX0_readOrder x).1 = 1 := by
  rw [pX0_readOrder]
  by_cases d_19 : ((pX0_readBody (pS (pS (pS (pS (pS x 3 0) 4 0) 5 0) 6 0) 2 (pX0_next (pS (pS (pS (pS x 3 0) 4 0) 5 0) 6 0)))).1) = 0
  · rw [if_pos d_19]
    dsimp only; first | with_reducible exact readNumber_b _ _ | with_reducible exact Or.inl rfl | with_reducible exact Or.inr rfl
  · rw [if_neg d_19]
    by_cases d_20 : ((pX0_skip 59 (pX0_readBody (pS (pS (pS (pS (pS x 3 0) 4 0) 5 0) 6 0) 2 (pX0_next (pS (pS (pS (pS x 3 0) 4 0) 5 0) 6 0)))).2).1) = 0
    · rw [if_pos d_20]
      by_cases d_21 : ((pX0_skip 59 (pX0_readBody (pS (pS (pS (pS (pS x 3 0) 4 0) 5 0) 6 0) 2 (pX0_next (pS (pS (pS (pS x 3 0) 4 0) 5 0) 6 0)))).2).2.1 1) = ((pX0_skip 59 (pX0_readBody (pS (pS (pS (pS (pS x 3 0) 4 0) 5 0) 6 0) 2 (pX0_next (pS (pS (pS (pS x 3 0) 4 0) 5 0) 6 0)))).2).2.1 0)
      · rw [if_pos d_21]
        dsimp only; first | with_reducible exact readNumber_b _ _ | with_reducible exact Or.inl rfl | with_reducible exact Or.inr rfl
      · rw [if_neg d_21]
        dsimp only; first | with_reducible exact readNumber_b _ _ | with_reducible exact Or.inl rfl | with_reducible exact Or.inr rfl
    · rw [if_neg d_20]
      dsimp only; first | with_reducible exact readNumber_b _ _ | with_reducible exact Or.inl rfl | with_reducible exact Or.inr rfl
theorem readOrder_t (x : SR) : (pX0_readOrder x).2.2 = x.2 := by
  rw [pX0_readOrder]
  by_cases d_22 : ((pX0_readBody (pS (pS (pS (pS (pS x 3 0) 4 0) 5 0) 6 0) 2 (pX0_next (pS (pS (pS (pS x 3 0) 4 0) 5 0) 6 0)))).1) = 0
  · rw [if_pos d_22]
    all_goals simp only [pS_2, skip_t, readNumber_t, readHours_t, readBody_t]
  · rw [if_neg d_22]
    by_cases d_23 : ((pX0_skip 59 (pX0_readBody (pS (pS (pS (pS (pS x 3 0) 4 0) 5 0) 6 0) 2 (pX0_next (pS (pS (pS (pS x 3 0) 4 0) 5 0) 6 0)))).2).1) = 0
    · rw [if_pos d_23]
      by_cases d_24 : ((pX0_skip 59 (pX0_readBody (pS (pS (pS (pS (pS x 3 0) 4 0) 5 0) 6 0) 2 (pX0_next (pS (pS (pS (pS x 3 0) 4 0) 5 0) 6 0)))).2).2.1 1) = ((pX0_skip 59 (pX0_readBody (pS (pS (pS (pS (pS x 3 0) 4 0) 5 0) 6 0) 2 (pX0_next (pS (pS (pS (pS x 3 0) 4 0) 5 0) 6 0)))).2).2.1 0)
      · rw [if_pos d_24]
        all_goals simp only [pS_2, skip_t, readNumber_t, readHours_t, readBody_t]
      · rw [if_neg d_24]
        all_goals simp only [pS_2, skip_t, readNumber_t, readHours_t, readBody_t]
    · rw [if_neg d_23]
      all_goals simp only [pS_2, skip_t, readNumber_t, readHours_t, readBody_t]
