theorem PA_inc1 {x : SR} (h : PA x) (hl : Int32.toInt (x.1 3) ≤ 80) (h3 : Int32.toInt (x.1 3) + 1 ≤ 81) : PA (pS x 3 (x.1 3 + 1)) := (PA_inc h hl).1
theorem PA_o (x : SR) (w : Int32) (h : PA x) (hl : Int32.toInt (x.1 3) ≤ 80) : PA (pS (pS (pS x 4 w) 6 0) 3 (x.1 3 + 1)) ∧ Int32.toInt ((pS (pS (pS x 4 w) 6 0) 3 (x.1 3 + 1)).1 3) = Int32.toInt (x.1 3) + 1 := by
  have k0 := PA_S (q := 6) 0 (PA_S (q := 4) w h (by decide) (by decide)) (by decide) (by decide)
  have e : (pS (pS x 4 w) 6 0).1 3 = x.1 3 := by rw [pS_ne _ _ (show (3 : Nat) ≠ 6 by decide), pS_ne _ _ (show (3 : Nat) ≠ 4 by decide)]
  have k1 := PA_inc k0 (by rw [e]; exact hl)
  rw [e] at k1
  exact k1
def pX3_readsOrder (x : SR) : Int32 × SR := if (pX3_character (x.1 3) x) = 99 then ((pX3_takesNumber (pS (pS (pS x 4 (pX3_character (x.1 3) x)) 6 0) 3 ((x.1 3) + 1))).1, (pX3_takesNumber (pS (pS (pS x 4 (pX3_character (x.1 3) x)) 6 0) 3 ((x.1 3) + 1))).2)
  else if (pX3_character (x.1 3) x) = 107 then ((pX3_takesNumber (pS (pS (pS x 4 (pX3_character (x.1 3) x)) 6 0) 3 ((x.1 3) + 1))).1, (pX3_takesNumber (pS (pS (pS x 4 (pX3_character (x.1 3) x)) 6 0) 3 ((x.1 3) + 1))).2)
    else if (pX3_character (x.1 3) x) = 112 then if ((pX3_takesNumber (pS (pS (pS x 4 (pX3_character (x.1 3) x)) 6 0) 3 ((x.1 3) + 1))).1) = 0 then ((pX3_takesNumber (pS (pS (pS x 4 (pX3_character (x.1 3) x)) 6 0) 3 ((x.1 3) + 1))).1, (pS (pX3_takesNumber (pS (pS (pS x 4 (pX3_character (x.1 3) x)) 6 0) 3 ((x.1 3) + 1))).2 6 0))
        else if ((pX3_isNext 99 (pX3_takesNumber (pS (pS (pS x 4 (pX3_character (x.1 3) x)) 6 0) 3 ((x.1 3) + 1))).2).1) = 0 then ((pX3_takesNumber (pS (pS (pS x 4 (pX3_character (x.1 3) x)) 6 0) 3 ((x.1 3) + 1))).1, (pS (pX3_isNext 99 (pX3_takesNumber (pS (pS (pS x 4 (pX3_character (x.1 3) x)) 6 0) 3 ((x.1 3) + 1))).2).2 6 0))
          else ((pX3_takesNumber (pS (pS (pS x 4 (pX3_character (x.1 3) x)) 6 0) 3 ((x.1 3) + 1))).1, (pS (pX3_isNext 99 (pX3_takesNumber (pS (pS (pS x 4 (pX3_character (x.1 3) x)) 6 0) 3 ((x.1 3) + 1))).2).2 6 1))
      else if (pX3_character (x.1 3) x) = 114 then ((pX3_takesHours (pS (pS (pS x 4 (pX3_character (x.1 3) x)) 6 0) 3 ((x.1 3) + 1))).1, (pX3_takesHours (pS (pS (pS x 4 (pX3_character (x.1 3) x)) 6 0) 3 ((x.1 3) + 1))).2)
        else if (pX3_character (x.1 3) x) = 116 then ((pX3_takesNumber (pS (pS (pS x 4 (pX3_character (x.1 3) x)) 6 0) 3 ((x.1 3) + 1))).1, (pX3_takesNumber (pS (pS (pS x 4 (pX3_character (x.1 3) x)) 6 0) 3 ((x.1 3) + 1))).2)
          else ((0 : Int32), (pS (pS (pS (pS x 4 (pX3_character (x.1 3) x)) 6 0) 3 ((x.1 3) + 1)) 3 (((x.1 3) + 1) - 1)))
set_option maxHeartbeats 600000 in
set_option maxRecDepth 100000 in
theorem ctX3_readsOrder (l : Launch) (G : va_G) (cI cC cZ cR : ClassId) (h : Ad) (x : SR) (q_0 : PA x) (q_1 : Int32.toInt (x.1 3) ≤ 80) : Ct l yX3_readsOrder wsX3_readsOrder (rmz 4 85) G (TY cI cC cZ cR) [.ref (h 0)] (wMo cI h x) (Qi G (wMo cI h x) (pX3_readsOrder x).1 (wMo cI h (pX3_readsOrder x).2)) := by
  refine Ct.ofI (cc := cX3_readsOrder) (maxL := 2) (ret := (some .boolean)) (by decide) rfl rfl ?_
  intro p e s m below meth c A ls E0 hP hD hS hl
  obtain ⟨hx, hb, hr, hml, hlocks, hts, hown, hK, hN, hA⟩ := E0
  have hl : lv_has ls 2 [(0, .ref (h 0))] := hl
  have hin : ∀ w ∈ wsX30, w ∈ wsX3_readsOrder := fun w hw => List.mem_cons_of_mem _ (List.mem_append_right _ (hw))
  have k_161 : (Cond.fieldLink RX3 161 RX3 (TX3 9).2.1 (TX3 9).2.2.1).before ([.ref (h 0)] : List Value).toArray s = true := hts _ (List.mem_of_getElem? (i := 1) rfl)
  have k_179 : (Cond.fieldLink RX3 179 RX3 (TX3 10).2.1 (TX3 10).2.2.1).before ([.ref (h 0)] : List Value).toArray s = true := hts _ (List.mem_of_getElem? (i := 2) rfl)
  have k_182 : (Cond.fieldLink RX3 182 RX3 (TX3 12).2.1 (TX3 12).2.2.1).before ([.ref (h 0)] : List Value).toArray s = true := hts _ (List.mem_of_getElem? (i := 3) rfl)
  generalize hres : pX3_readsOrder x = res
  refine lv_aload_n hx hb dX3_readsOrder_0 rfl (lv_at hl 0 rfl) ?_
  refine lv_aload_n hx hb dX3_readsOrder_1 rfl (lv_at hl 0 rfl) ?_
  refine lv_aload_n hx hb dX3_readsOrder_2 rfl (lv_at hl 0 rfl) ?_
  refine md_get (ci := 3) (C := RX3) (T := TX3) (N := 13) (v := .int (x.1 3)) hx hb hts hin hown hK hP rfl 9 (by decide) k_161 rfl rfl rfl dX3_readsOrder_3 ?_
  refine go_i hD hS hA (rn_V (As := [.int (x.1 3)]) (rest := [.ref (h 0)]) ⟨hx, hb, hml, hown, hts⟩ (ctX3_character l G cI cC cZ cR h x (x.1 3) (by exact q_0.1) (by exact q_0.2.2)) (cwV 1 hts gX3_readsOrder_X3_character rfl rfl rfl (by decide +kernel) ⟨Nat.le_of_ble_eq_true rfl, Nat.le_of_ble_eq_true rfl⟩) (md_recv hK hP rfl) hK hP hD hN rfl hl.1 rfl (Nat.le_of_ble_eq_true rfl) dX3_readsOrder_6) (fun H locs hP hD hS => ?_)
  refine md_put (ci := 3) (C := RX3) (T := TX3) (N := 13) hx hb hts hin tyX3 tyX3_ok nmX3 hown hK hP hD hS rfl 10 (by decide) k_179 rfl rfl (q := 4) rfl (fu (by decide)) rfl rfl dX3_readsOrder_9 (fun H locs hP hD hS => ?_)
  refine lv_aload_n hx hb dX3_readsOrder_12 rfl (lv_at hl 0 rfl) ?_
  refine lv_iconst (v := 0) hx hb dX3_readsOrder_13 (by decide) ?_
  refine md_put (ci := 3) (C := RX3) (T := TX3) (N := 13) hx hb hts hin tyX3 tyX3_ok nmX3 hown hK hP hD hS rfl 12 (by decide) k_182 rfl rfl (q := 6) rfl (fu (by decide)) rfl rfl dX3_readsOrder_14 (fun H locs hP hD hS => ?_)
  refine lv_aload_n hx hb dX3_readsOrder_17 rfl (lv_at hl 0 rfl) ?_
  refine lv_dup hx hb dX3_readsOrder_18 rfl ?_
  refine md_get (ci := 3) (C := RX3) (T := TX3) (N := 13) (v := .int (x.1 3)) hx hb hts hin hown hK hP rfl 9 (by decide) k_161 rfl rfl rfl dX3_readsOrder_19 ?_
  refine lv_iconst (v := 1) hx hb dX3_readsOrder_22 (by decide) ?_
  refine lv_iadd hx hb dX3_readsOrder_23 ?_
  refine md_put (ci := 3) (C := RX3) (T := TX3) (N := 13) hx hb hts hin tyX3 tyX3_ok nmX3 hown hK hP hD hS rfl 9 (by decide) k_161 rfl rfl (q := 3) rfl (fu (by decide)) rfl rfl dX3_readsOrder_24 (fun H locs hP hD hS => ?_)
  refine lv_iconst (v := 0) hx hb dX3_readsOrder_27 (by decide) ?_
  refine lv_istore_n (lv' := [(1, .int 0), (0, .ref (h 0))]) hx hb dX3_readsOrder_28 rfl hl (by decide) rfl (fun ls hl => ?_)
  refine lv_aload_n hx hb dX3_readsOrder_29 rfl (lv_at hl 1 rfl) ?_
  refine md_get (ci := 3) (C := RX3) (T := TX3) (N := 13) (v := .int (pX3_character (x.1 3) x)) hx hb hts hin hown hK hP rfl 10 (by decide) k_179 rfl rfl rfl dX3_readsOrder_30 ?_
  by_cases c_1 : (pX3_character (x.1 3) x) = 99
  · refine lv_lookup (tgt := 113) hx hb dX3_readsOrder_33 (by decide) (by rw [c_1]; first | done | rfl) (by decide) ?_
    refine lv_aload_n hx hb dX3_readsOrder_113 rfl (lv_at hl 1 rfl) ?_
    refine go_i hD hS hA (rn_V (As := []) (rest := []) ⟨hx, hb, hml, hown, hts⟩ (ctX3_takesNumber l G cI cC cZ cR h (pS (pS (pS x 4 (pX3_character (x.1 3) x)) 6 0) 3 ((x.1 3) + 1)) (by exact (PA_o x (pX3_character (x.1 3) x) q_0 q_1).1)) (cwV 0 hts gX3_readsOrder_X3_takesNumber rfl rfl rfl (by decide +kernel) ⟨Nat.le_of_ble_eq_true rfl, Nat.le_of_ble_eq_true rfl⟩) (md_recv hK hP rfl) hK hP hD hN rfl hl.1 rfl (Nat.le_of_ble_eq_true rfl) dX3_readsOrder_114) (fun H locs hP hD hS => ?_)
    exact rt_b hx hb hr hlocks hP hD hS (nz_of (by first | with_reducible exact takesNumber_b _ | with_reducible exact takesHours_b _)) ((show pX3_readsOrder x = ((pX3_takesNumber (pS (pS (pS x 4 (pX3_character (x.1 3) x)) 6 0) 3 ((x.1 3) + 1))).1, (pX3_takesNumber (pS (pS (pS x 4 (pX3_character (x.1 3) x)) 6 0) 3 ((x.1 3) + 1))).2) by rw [pX3_readsOrder, if_pos c_1]).symm.trans hres |>.symm) dX3_readsOrder_117
  · skip
    by_cases c_2 : (pX3_character (x.1 3) x) = 107
    · refine lv_lookup (tgt := 113) hx hb dX3_readsOrder_33 (by decide) (by rw [c_2]; first | done | rfl) (by decide) ?_
      refine lv_aload_n hx hb dX3_readsOrder_113 rfl (lv_at hl 1 rfl) ?_
      refine go_i hD hS hA (rn_V (As := []) (rest := []) ⟨hx, hb, hml, hown, hts⟩ (ctX3_takesNumber l G cI cC cZ cR h (pS (pS (pS x 4 (pX3_character (x.1 3) x)) 6 0) 3 ((x.1 3) + 1)) (by exact (PA_o x (pX3_character (x.1 3) x) q_0 q_1).1)) (cwV 0 hts gX3_readsOrder_X3_takesNumber rfl rfl rfl (by decide +kernel) ⟨Nat.le_of_ble_eq_true rfl, Nat.le_of_ble_eq_true rfl⟩) (md_recv hK hP rfl) hK hP hD hN rfl hl.1 rfl (Nat.le_of_ble_eq_true rfl) dX3_readsOrder_114) (fun H locs hP hD hS => ?_)
      exact rt_b hx hb hr hlocks hP hD hS (nz_of (by first | with_reducible exact takesNumber_b _ | with_reducible exact takesHours_b _)) ((show pX3_readsOrder x = ((pX3_takesNumber (pS (pS (pS x 4 (pX3_character (x.1 3) x)) 6 0) 3 ((x.1 3) + 1))).1, (pX3_takesNumber (pS (pS (pS x 4 (pX3_character (x.1 3) x)) 6 0) 3 ((x.1 3) + 1))).2) by rw [pX3_readsOrder, if_neg c_1, if_pos c_2]).symm.trans hres |>.symm) dX3_readsOrder_117
    · skip
      by_cases c_3 : (pX3_character (x.1 3) x) = 112
      · refine lv_lookup (tgt := 84) hx hb dX3_readsOrder_33 (by decide) (by rw [c_3]; first | done | rfl) (by decide) ?_
        refine lv_aload_n hx hb dX3_readsOrder_84 rfl (lv_at hl 1 rfl) ?_
        refine go_i hD hS hA (rn_V (As := []) (rest := []) ⟨hx, hb, hml, hown, hts⟩ (ctX3_takesNumber l G cI cC cZ cR h (pS (pS (pS x 4 (pX3_character (x.1 3) x)) 6 0) 3 ((x.1 3) + 1)) (by exact (PA_o x (pX3_character (x.1 3) x) q_0 q_1).1)) (cwV 0 hts gX3_readsOrder_X3_takesNumber rfl rfl rfl (by decide +kernel) ⟨Nat.le_of_ble_eq_true rfl, Nat.le_of_ble_eq_true rfl⟩) (md_recv hK hP rfl) hK hP hD hN rfl hl.1 rfl (Nat.le_of_ble_eq_true rfl) dX3_readsOrder_85) (fun H locs hP hD hS => ?_)
        refine lv_istore_n (lv' := [(1, .int ((pX3_takesNumber (pS (pS (pS x 4 (pX3_character (x.1 3) x)) 6 0) 3 ((x.1 3) + 1))).1)), (0, .ref (h 0))]) hx hb dX3_readsOrder_88 rfl hl (by decide) rfl (fun ls hl => ?_)
        refine lv_aload_n hx hb dX3_readsOrder_89 rfl (lv_at hl 1 rfl) ?_
        refine lv_iload_n hx hb dX3_readsOrder_90 rfl (lv_at hl 0 rfl) ?_
        refine lv_if_eq (tgt := 107) hx hb dX3_readsOrder_91 (by decide) (fun c_4 => ?_) (fun c_4 => ?_)
        · refine lv_iconst (v := 0) hx hb dX3_readsOrder_107 (by decide) ?_
          refine md_put (ci := 3) (C := RX3) (T := TX3) (N := 13) hx hb hts hin tyX3 tyX3_ok nmX3 hown hK hP hD hS rfl 12 (by decide) k_182 rfl rfl (q := 6) rfl (fu (by decide)) rfl rfl dX3_readsOrder_108 (fun H locs hP hD hS => ?_)
          refine lv_iload_n hx hb dX3_readsOrder_111 rfl (lv_at hl 0 rfl) ?_
          exact rt_b hx hb hr hlocks hP hD hS (nz_of (by first | with_reducible exact takesNumber_b _ | with_reducible exact takesHours_b _)) ((show pX3_readsOrder x = ((pX3_takesNumber (pS (pS (pS x 4 (pX3_character (x.1 3) x)) 6 0) 3 ((x.1 3) + 1))).1, (pS (pX3_takesNumber (pS (pS (pS x 4 (pX3_character (x.1 3) x)) 6 0) 3 ((x.1 3) + 1))).2 6 0)) by rw [pX3_readsOrder, if_neg c_1, if_neg c_2, if_pos c_3, if_pos c_4]).symm.trans hres |>.symm) dX3_readsOrder_112
        · refine lv_aload_n hx hb dX3_readsOrder_94 rfl (lv_at hl 1 rfl) ?_
          refine lv_bipush (v := 99) hx hb dX3_readsOrder_95 (by decide) ?_
          refine go_i hD hS hA (rn_V (As := [.int 99]) (rest := [.ref (h 0)]) ⟨hx, hb, hml, hown, hts⟩ (ctX3_isNext l G cI cC cZ cR h (pX3_takesNumber (pS (pS (pS x 4 (pX3_character (x.1 3) x)) 6 0) 3 ((x.1 3) + 1))).2 99 (by exact (takesNumber_P (PA_o x (pX3_character (x.1 3) x) q_0 q_1).1).1)) (cwV 1 hts gX3_readsOrder_X3_isNext rfl rfl rfl (by decide +kernel) ⟨Nat.le_of_ble_eq_true rfl, Nat.le_of_ble_eq_true rfl⟩) (md_recv hK hP rfl) hK hP hD hN rfl hl.1 rfl (Nat.le_of_ble_eq_true rfl) dX3_readsOrder_97) (fun H locs hP hD hS => ?_)
          refine lv_if_eq (tgt := 107) hx hb dX3_readsOrder_100 (by decide) (fun c_5 => ?_) (fun c_5 => ?_)
          · refine lv_iconst (v := 0) hx hb dX3_readsOrder_107 (by decide) ?_
            refine md_put (ci := 3) (C := RX3) (T := TX3) (N := 13) hx hb hts hin tyX3 tyX3_ok nmX3 hown hK hP hD hS rfl 12 (by decide) k_182 rfl rfl (q := 6) rfl (fu (by decide)) rfl rfl dX3_readsOrder_108 (fun H locs hP hD hS => ?_)
            refine lv_iload_n hx hb dX3_readsOrder_111 rfl (lv_at hl 0 rfl) ?_
            exact rt_b hx hb hr hlocks hP hD hS (nz_of (by first | with_reducible exact takesNumber_b _ | with_reducible exact takesHours_b _)) ((show pX3_readsOrder x = ((pX3_takesNumber (pS (pS (pS x 4 (pX3_character (x.1 3) x)) 6 0) 3 ((x.1 3) + 1))).1, (pS (pX3_isNext 99 (pX3_takesNumber (pS (pS (pS x 4 (pX3_character (x.1 3) x)) 6 0) 3 ((x.1 3) + 1))).2).2 6 0)) by rw [pX3_readsOrder, if_neg c_1, if_neg c_2, if_pos c_3, if_neg c_4, if_pos c_5]).symm.trans hres |>.symm) dX3_readsOrder_112
          · refine lv_iconst (v := 1) hx hb dX3_readsOrder_103 (by decide) ?_
            refine lv_goto (tgt := 108) hx hb dX3_readsOrder_104 (by decide) ?_
            refine md_put (ci := 3) (C := RX3) (T := TX3) (N := 13) hx hb hts hin tyX3 tyX3_ok nmX3 hown hK hP hD hS rfl 12 (by decide) k_182 rfl rfl (q := 6) rfl (fu (by decide)) rfl rfl dX3_readsOrder_108 (fun H locs hP hD hS => ?_)
            refine lv_iload_n hx hb dX3_readsOrder_111 rfl (lv_at hl 0 rfl) ?_
            exact rt_b hx hb hr hlocks hP hD hS (nz_of (by first | with_reducible exact takesNumber_b _ | with_reducible exact takesHours_b _)) ((show pX3_readsOrder x = ((pX3_takesNumber (pS (pS (pS x 4 (pX3_character (x.1 3) x)) 6 0) 3 ((x.1 3) + 1))).1, (pS (pX3_isNext 99 (pX3_takesNumber (pS (pS (pS x 4 (pX3_character (x.1 3) x)) 6 0) 3 ((x.1 3) + 1))).2).2 6 1)) by rw [pX3_readsOrder, if_neg c_1, if_neg c_2, if_pos c_3, if_neg c_4, if_neg c_5]).symm.trans hres |>.symm) dX3_readsOrder_112
      · skip
        by_cases c_6 : (pX3_character (x.1 3) x) = 114
        · refine lv_lookup (tgt := 118) hx hb dX3_readsOrder_33 (by decide) (by rw [c_6]; first | done | rfl) (by decide) ?_
          refine lv_aload_n hx hb dX3_readsOrder_118 rfl (lv_at hl 1 rfl) ?_
          refine go_i hD hS hA (rn_V (As := []) (rest := []) ⟨hx, hb, hml, hown, hts⟩ (ctX3_takesHours l G cI cC cZ cR h (pS (pS (pS x 4 (pX3_character (x.1 3) x)) 6 0) 3 ((x.1 3) + 1)) (by exact (PA_o x (pX3_character (x.1 3) x) q_0 q_1).1)) (cwV 0 hts gX3_readsOrder_X3_takesHours rfl rfl rfl (by decide +kernel) ⟨Nat.le_of_ble_eq_true rfl, Nat.le_of_ble_eq_true rfl⟩) (md_recv hK hP rfl) hK hP hD hN rfl hl.1 rfl (Nat.le_of_ble_eq_true rfl) dX3_readsOrder_119) (fun H locs hP hD hS => ?_)
          exact rt_b hx hb hr hlocks hP hD hS (nz_of (by first | with_reducible exact takesNumber_b _ | with_reducible exact takesHours_b _)) ((show pX3_readsOrder x = ((pX3_takesHours (pS (pS (pS x 4 (pX3_character (x.1 3) x)) 6 0) 3 ((x.1 3) + 1))).1, (pX3_takesHours (pS (pS (pS x 4 (pX3_character (x.1 3) x)) 6 0) 3 ((x.1 3) + 1))).2) by rw [pX3_readsOrder, if_neg c_1, if_neg c_2, if_neg c_3, if_pos c_6]).symm.trans hres |>.symm) dX3_readsOrder_122
        · skip
          by_cases c_7 : (pX3_character (x.1 3) x) = 116
          · refine lv_lookup (tgt := 113) hx hb dX3_readsOrder_33 (by decide) (by rw [c_7]; first | done | rfl) (by decide) ?_
            refine lv_aload_n hx hb dX3_readsOrder_113 rfl (lv_at hl 1 rfl) ?_
            refine go_i hD hS hA (rn_V (As := []) (rest := []) ⟨hx, hb, hml, hown, hts⟩ (ctX3_takesNumber l G cI cC cZ cR h (pS (pS (pS x 4 (pX3_character (x.1 3) x)) 6 0) 3 ((x.1 3) + 1)) (by exact (PA_o x (pX3_character (x.1 3) x) q_0 q_1).1)) (cwV 0 hts gX3_readsOrder_X3_takesNumber rfl rfl rfl (by decide +kernel) ⟨Nat.le_of_ble_eq_true rfl, Nat.le_of_ble_eq_true rfl⟩) (md_recv hK hP rfl) hK hP hD hN rfl hl.1 rfl (Nat.le_of_ble_eq_true rfl) dX3_readsOrder_114) (fun H locs hP hD hS => ?_)
            exact rt_b hx hb hr hlocks hP hD hS (nz_of (by first | with_reducible exact takesNumber_b _ | with_reducible exact takesHours_b _)) ((show pX3_readsOrder x = ((pX3_takesNumber (pS (pS (pS x 4 (pX3_character (x.1 3) x)) 6 0) 3 ((x.1 3) + 1))).1, (pX3_takesNumber (pS (pS (pS x 4 (pX3_character (x.1 3) x)) 6 0) 3 ((x.1 3) + 1))).2) by rw [pX3_readsOrder, if_neg c_1, if_neg c_2, if_neg c_3, if_neg c_6, if_pos c_7]).symm.trans hres |>.symm) dX3_readsOrder_117
          · skip
            refine lv_lookup (off := 90) (tgt := 123) hx hb dX3_readsOrder_33 (by decide) ((lv_osw (a := 99) c_1 (by decide)).trans ((lv_osw (a := 107) c_2 (by decide)).trans ((lv_osw (a := 112) c_3 (by decide)).trans ((lv_osw (a := 114) c_6 (by decide)).trans ((lv_osw (a := 116) c_7 (by decide)).trans (rfl)))))) (by decide) ?_
            refine lv_aload_n hx hb dX3_readsOrder_123 rfl (lv_at hl 1 rfl) ?_
            refine lv_dup hx hb dX3_readsOrder_124 rfl ?_
            refine md_get (ci := 3) (C := RX3) (T := TX3) (N := 13) (v := .int ((x.1 3) + 1)) hx hb hts hin hown hK hP rfl 9 (by decide) k_161 rfl rfl rfl dX3_readsOrder_125 ?_
            refine lv_iconst (v := 1) hx hb dX3_readsOrder_128 (by decide) ?_
            refine lv_isub hx hb dX3_readsOrder_129 ?_
            refine md_put (ci := 3) (C := RX3) (T := TX3) (N := 13) hx hb hts hin tyX3 tyX3_ok nmX3 hown hK hP hD hS rfl 9 (by decide) k_161 rfl rfl (q := 3) rfl (fu (by decide)) rfl rfl dX3_readsOrder_130 (fun H locs hP hD hS => ?_)
            refine lv_iconst (v := 0) hx hb dX3_readsOrder_133 (by decide) ?_
            exact rt_b hx hb hr hlocks hP hD hS rfl ((show pX3_readsOrder x = ((0 : Int32), (pS (pS (pS (pS x 4 (pX3_character (x.1 3) x)) 6 0) 3 ((x.1 3) + 1)) 3 (((x.1 3) + 1) - 1))) by rw [pX3_readsOrder, if_neg c_1, if_neg c_2, if_neg c_3, if_neg c_6, if_neg c_7]).symm.trans hres |>.symm) dX3_readsOrder_134
theorem readsOrder_b (x : SR) : (pX3_readsOrder x).1 = 0 ∨ (pX3_readsOrder x).1 = 1 := by
  rw [pX3_readsOrder]
  by_cases d_64 : (pX3_character (x.1 3) x) = 99
  · rw [if_pos d_64]
    dsimp only; with_reducible exact takesNumber_b _
  · rw [if_neg d_64]
    by_cases d_65 : (pX3_character (x.1 3) x) = 107
    · rw [if_pos d_65]
      dsimp only; with_reducible exact takesNumber_b _
    · rw [if_neg d_65]
      by_cases d_66 : (pX3_character (x.1 3) x) = 112
      · rw [if_pos d_66]
        by_cases d_67 : ((pX3_takesNumber (pS (pS (pS x 4 (pX3_character (x.1 3) x)) 6 0) 3 ((x.1 3) + 1))).1) = 0
        · rw [if_pos d_67]
          dsimp only; with_reducible exact takesNumber_b _
        · rw [if_neg d_67]
          by_cases d_68 : ((pX3_isNext 99 (pX3_takesNumber (pS (pS (pS x 4 (pX3_character (x.1 3) x)) 6 0) 3 ((x.1 3) + 1))).2).1) = 0
          · rw [if_pos d_68]
            dsimp only; with_reducible exact takesNumber_b _
          · rw [if_neg d_68]
            dsimp only; with_reducible exact takesNumber_b _
      · rw [if_neg d_66]
        by_cases d_69 : (pX3_character (x.1 3) x) = 114
        · rw [if_pos d_69]
          dsimp only; with_reducible exact takesHours_b _
        · rw [if_neg d_69]
          by_cases d_70 : (pX3_character (x.1 3) x) = 116
          · rw [if_pos d_70]
            dsimp only; with_reducible exact takesNumber_b _
          · rw [if_neg d_70]
            with_reducible exact Or.inl rfl
theorem rd_S {x y : SR} {v : Int32} (h : PA y) (hl : Int32.toInt (x.1 3) ≤ Int32.toInt (y.1 3)) : PA (pS y 6 v) ∧ Int32.toInt (x.1 3) ≤ Int32.toInt ((pS y 6 v).1 3) := by
  refine ⟨PA_S v h (by decide) (by decide), ?_⟩
  rw [pS_ne _ _ (show (3 : Nat) ≠ 6 by decide)]
  exact hl
theorem rd_0 {x : SR} {w : Int32} (h : PA x) : PA (pS (pS (pS (pS x 4 w) 6 0) 3 (x.1 3 + 1)) 3 (x.1 3 + 1 - 1)) ∧ Int32.toInt (x.1 3) ≤ Int32.toInt ((pS (pS (pS (pS x 4 w) 6 0) 3 (x.1 3 + 1)) 3 (x.1 3 + 1 - 1)).1 3) := by
  have e3 : (pS (pS (pS (pS x 4 w) 6 0) 3 (x.1 3 + 1)) 3 (x.1 3 + 1 - 1)).1 3 = x.1 3 := by
    rw [pS_at, Int32.add_sub_cancel]
  have e1 : (pS (pS (pS (pS x 4 w) 6 0) 3 (x.1 3 + 1)) 3 (x.1 3 + 1 - 1)).1 1 = x.1 1 := by
    rw [pS_ne _ _ (show (1 : Nat) ≠ 3 by decide), pS_ne _ _ (show (1 : Nat) ≠ 3 by decide), pS_ne _ _ (show (1 : Nat) ≠ 6 by decide), pS_ne _ _ (show (1 : Nat) ≠ 4 by decide)]
  unfold PA
  rw [e3, e1]
  exact ⟨h, Int.le_refl _⟩
theorem readsOrder_P {x : SR} (h : PA x) (hl : Int32.toInt (x.1 3) ≤ 80) : PA (pX3_readsOrder x).2 ∧ Int32.toInt (x.1 3) ≤ Int32.toInt ((pX3_readsOrder x).2.1 3) := by
  have M := PA_o x (pX3_character (x.1 3) x) h hl
  have kn := takesNumber_P M.1
  have kh := takesHours_P M.1
  have kc := isNext_P (c := 99) (by decide) kn.1
  rw [pX3_readsOrder]
  by_cases d_71 : (pX3_character (x.1 3) x) = 99
  · rw [if_pos d_71]
    refine ⟨kn.1, ?_⟩; dsimp only; omega
  · rw [if_neg d_71]
    by_cases d_72 : (pX3_character (x.1 3) x) = 107
    · rw [if_pos d_72]
      refine ⟨kn.1, ?_⟩; dsimp only; omega
    · rw [if_neg d_72]
      by_cases d_73 : (pX3_character (x.1 3) x) = 112
      · rw [if_pos d_73]
        by_cases d_74 : ((pX3_takesNumber (pS (pS (pS x 4 (pX3_character (x.1 3) x)) 6 0) 3 ((x.1 3) + 1))).1) = 0
        · rw [if_pos d_74]
          exact rd_S kn.1 (by omega)
        · rw [if_neg d_74]
          by_cases d_75 : ((pX3_isNext 99 (pX3_takesNumber (pS (pS (pS x 4 (pX3_character (x.1 3) x)) 6 0) 3 ((x.1 3) + 1))).2).1) = 0
          · rw [if_pos d_75]
            exact rd_S kc.1 (by omega)
          · rw [if_neg d_75]
            exact rd_S kc.1 (by omega)
      · rw [if_neg d_73]
        by_cases d_76 : (pX3_character (x.1 3) x) = 114
        · rw [if_pos d_76]
          refine ⟨kh.1, ?_⟩; dsimp only; omega
        · rw [if_neg d_76]
          by_cases d_77 : (pX3_character (x.1 3) x) = 116
          · rw [if_pos d_77]
            refine ⟨kn.1, ?_⟩; dsimp only; omega
          · rw [if_neg d_77]
            exact rd_0 h
theorem ff_0 {x : SR} (h : PA x) : PA (pS x 3 0) := by
  unfold PA
  rw [pS_at, pS_ne _ _ (show (1 : Nat) ≠ 3 by decide)]
  exact ⟨by decide, by decide, h.2.2⟩
theorem ff_n {x : SR} (h : PA x) (hl : Int32.toInt (x.1 3) ≤ 80) (hn : ¬ (pX3_isNext 59 (pX3_readsOrder x).2).1 = 0) : PA (pX3_isNext 59 (pX3_readsOrder x).2).2 ∧ Int32.toInt ((pX3_isNext 59 (pX3_readsOrder x).2).2.1 3) ≤ 80 ∧ ∀ n : Nat, 81 - Int32.toInt (x.1 3) < ((n + 1 : Nat) : Int) → 81 - Int32.toInt ((pX3_isNext 59 (pX3_readsOrder x).2).2.1 3) < (n : Int) := by
  have k1 := readsOrder_P h hl
  have k2 := isNext_P (c := 59) (by decide) k1.1
  have k3 := k2.2.2 hn
  have k4 := k1.1.2.2
  refine ⟨k2.1, by omega, fun n hm => by omega⟩
def pX3_findFault_L5 : Nat → SR → Int32 × SR
  | 0, x => (0, x)
  | n + 1, x => if ((pX3_readsOrder x).1) = 0 then ((pX3_readsOrder x).2.1 3, (pX3_readsOrder x).2)
    else if ((pX3_readsOrder x).2.1 3) = ((pX3_readsOrder x).2.1 1) then (((-6) : Int32), (pX3_readsOrder x).2)
      else if ((pX3_isNext 59 (pX3_readsOrder x).2).1) = 0 then ((pX3_isNext 59 (pX3_readsOrder x).2).2.1 3, (pX3_isNext 59 (pX3_readsOrder x).2).2)
        else pX3_findFault_L5 n (pX3_isNext 59 (pX3_readsOrder x).2).2
def pX3_findFault (x : SR) : Int32 × SR := pX3_findFault_L5 82 (pS x 3 0)
set_option maxHeartbeats 600000 in
set_option maxRecDepth 100000 in
theorem ctX3_findFault (l : Launch) (G : va_G) (cI cC cZ cR : ClassId) (h : Ad) (x : SR) (q_0 : PA x) : Ct l yX3_findFault wsX3_findFault (rmz 5 106) G (TY cI cC cZ cR) [.ref (h 0)] (wMo cI h x) (Qi G (wMo cI h x) (pX3_findFault x).1 (wMo cI h (pX3_findFault x).2)) := by
  refine Ct.ofI (cc := cX3_findFault) (maxL := 1) (ret := (some .int)) (by decide) rfl rfl ?_
  intro p e s m below meth c A ls E0 hP hD hS hl
  obtain ⟨hx, hb, hr, hml, hlocks, hts, hown, hK, hN, hA⟩ := E0
  have hl : lv_has ls 1 [(0, .ref (h 0))] := hl
  have hin : ∀ w ∈ wsX30, w ∈ wsX3_findFault := fun w hw => List.mem_cons_of_mem _ (List.mem_append_right _ (hw))
  have k_161 : (Cond.fieldLink RX3 161 RX3 (TX3 9).2.1 (TX3 9).2.2.1).before ([.ref (h 0)] : List Value).toArray s = true := hts _ (List.mem_of_getElem? (i := 1) rfl)
  have k_153 : (Cond.fieldLink RX3 153 RX3 (TX3 7).2.1 (TX3 7).2.2.1).before ([.ref (h 0)] : List Value).toArray s = true := hts _ (List.mem_of_getElem? (i := 2) rfl)
  generalize hres : pX3_findFault x = res
  have lp_5 : ∀ (n : Nat) (x : SR), PA x → Int32.toInt (x.1 3) ≤ 80 → 81 - Int32.toInt (x.1 3) < (n : Int) → pX3_findFault_L5 n x = res → ∀ (H : Heap) (locs : List Loc) (ls : Array Slot), va_P G vwCl (wMo cI h x) H → va_D A (wMo cI h x) → va_S A s.heap H locs → lv_has ls 1 [(0, .ref (h 0))] → W p l e (rmz 5 106) s m ([.ref (h 0)] : List Value).toArray below meth c H locs 0 0 (MQ below (QiA G A res.1 (wMo cI h res.2)) ([.ref (h 0)] : List Value).toArray s 0 0 A) (F0 m 5 ls []) := by
    intro n
    induction n with
    | zero =>
      intro x g_0 g_1 hm
      exfalso; omega
    | succ n ih =>
      intro x g_0 g_1 hm hq H locs ls hP hD hS hl
      refine lv_aload_n hx hb dX3_findFault_5 rfl (lv_at hl 0 rfl) ?_
      refine go_i hD hS hA (rn_V (As := []) (rest := []) ⟨hx, hb, hml, hown, hts⟩ (ctX3_readsOrder l G cI cC cZ cR h x (by exact g_0) (by exact g_1)) (cwV 0 hts gX3_findFault_X3_readsOrder rfl rfl rfl (by decide +kernel) ⟨Nat.le_of_ble_eq_true rfl, Nat.le_of_ble_eq_true rfl⟩) (md_recv hK hP rfl) hK hP hD hN rfl hl.1 rfl (Nat.le_of_ble_eq_true rfl) dX3_findFault_6) (fun H locs hP hD hS => ?_)
      refine lv_if_ne (tgt := 17) hx hb dX3_findFault_9 (by decide) (fun c_1 => ?_) (fun c_1 => ?_)
      · refine lv_aload_n hx hb dX3_findFault_17 rfl (lv_at hl 0 rfl) ?_
        refine md_get (ci := 3) (C := RX3) (T := TX3) (N := 13) (v := .int ((pX3_readsOrder x).2.1 3)) hx hb hts hin hown hK hP rfl 9 (by decide) k_161 rfl rfl rfl dX3_findFault_18 ?_
        refine lv_aload_n hx hb dX3_findFault_21 rfl (lv_at hl 0 rfl) ?_
        refine md_get (ci := 3) (C := RX3) (T := TX3) (N := 13) (v := .int ((pX3_readsOrder x).2.1 1)) hx hb hts hin hown hK hP rfl 7 (by decide) k_153 rfl rfl rfl dX3_findFault_22 ?_
        refine lv_icmp_ne (tgt := 31) hx hb dX3_findFault_25 (by decide) (fun c_2 => ?_) (fun c_2 => ?_)
        · refine lv_aload_n hx hb dX3_findFault_31 rfl (lv_at hl 0 rfl) ?_
          refine lv_bipush (v := 59) hx hb dX3_findFault_32 (by decide) ?_
          refine go_i hD hS hA (rn_V (As := [.int 59]) (rest := []) ⟨hx, hb, hml, hown, hts⟩ (ctX3_isNext l G cI cC cZ cR h (pX3_readsOrder x).2 59 (by exact (readsOrder_P g_0 g_1).1)) (cwV 1 hts gX3_findFault_X3_isNext rfl rfl rfl (by decide +kernel) ⟨Nat.le_of_ble_eq_true rfl, Nat.le_of_ble_eq_true rfl⟩) (md_recv hK hP rfl) hK hP hD hN rfl hl.1 rfl (Nat.le_of_ble_eq_true rfl) dX3_findFault_34) (fun H locs hP hD hS => ?_)
          refine lv_if_ne (tgt := 5) hx hb dX3_findFault_37 (by decide) (fun c_3 => ?_) (fun c_3 => ?_)
          · exact ih (pX3_isNext 59 (pX3_readsOrder x).2).2 (by exact (ff_n g_0 g_1 (by with_reducible assumption)).1) (by exact (ff_n g_0 g_1 (by with_reducible assumption)).2.1) (by exact (ff_n g_0 g_1 (by with_reducible assumption)).2.2 n hm) ((show pX3_findFault_L5 (n + 1) x = pX3_findFault_L5 n (pX3_isNext 59 (pX3_readsOrder x).2).2 by rw [pX3_findFault_L5, if_neg c_1, if_neg c_2, if_neg c_3]).symm.trans hq) _ _ _ hP hD hS (lv_sub hl [0] rfl)
          · refine lv_aload_n hx hb dX3_findFault_40 rfl (lv_at hl 0 rfl) ?_
            refine md_get (ci := 3) (C := RX3) (T := TX3) (N := 13) (v := .int ((pX3_isNext 59 (pX3_readsOrder x).2).2.1 3)) hx hb hts hin hown hK hP rfl 9 (by decide) k_161 rfl rfl rfl dX3_findFault_41 ?_
            exact rt_b hx hb hr hlocks hP hD hS rfl ((show pX3_findFault_L5 (n + 1) x = ((pX3_isNext 59 (pX3_readsOrder x).2).2.1 3, (pX3_isNext 59 (pX3_readsOrder x).2).2) by rw [pX3_findFault_L5, if_neg c_1, if_neg c_2, if_pos c_3]).symm.trans hq |>.symm) dX3_findFault_44
        · refine lv_bipush (v := (-6)) hx hb dX3_findFault_28 (by decide) ?_
          exact rt_b hx hb hr hlocks hP hD hS rfl ((show pX3_findFault_L5 (n + 1) x = (((-6) : Int32), (pX3_readsOrder x).2) by rw [pX3_findFault_L5, if_neg c_1, if_pos c_2]).symm.trans hq |>.symm) dX3_findFault_30
      · refine lv_aload_n hx hb dX3_findFault_12 rfl (lv_at hl 0 rfl) ?_
        refine md_get (ci := 3) (C := RX3) (T := TX3) (N := 13) (v := .int ((pX3_readsOrder x).2.1 3)) hx hb hts hin hown hK hP rfl 9 (by decide) k_161 rfl rfl rfl dX3_findFault_13 ?_
        exact rt_b hx hb hr hlocks hP hD hS rfl ((show pX3_findFault_L5 (n + 1) x = ((pX3_readsOrder x).2.1 3, (pX3_readsOrder x).2) by rw [pX3_findFault_L5, if_pos c_1]).symm.trans hq |>.symm) dX3_findFault_16
  refine lv_aload_n hx hb dX3_findFault_0 rfl (lv_at hl 0 rfl) ?_
  refine lv_iconst (v := 0) hx hb dX3_findFault_1 (by decide) ?_
  refine md_put (ci := 3) (C := RX3) (T := TX3) (N := 13) hx hb hts hin tyX3 tyX3_ok nmX3 hown hK hP hD hS rfl 9 (by decide) k_161 rfl rfl (q := 3) rfl (fu (by decide)) rfl rfl dX3_findFault_2 (fun H locs hP hD hS => ?_)
  exact lp_5 82 (pS x 3 0) (by exact ff_0 q_0) (by show (0 : Int) ≤ 80; decide) (by show 81 - Int32.toInt ((pS x 3 0).1 3) < ((82 : Nat) : Int); rw [pS_at]; decide) ((show pX3_findFault x = pX3_findFault_L5 82 (pS x 3 0) by rw [pX3_findFault]).symm.trans hres) _ _ _ hP hD hS (lv_sub hl [0] rfl)
def pX3_fault (x : SR) : Int32 × SR := ((pX3_findFault x).1, (pX3_findFault x).2)
set_option maxHeartbeats 600000 in
set_option maxRecDepth 100000 in
theorem ctX3_fault (l : Launch) (G : va_G) (cI cC cZ cR : ClassId) (h : Ad) (x : SR) (q_0 : PA x) : Ct l yX3_fault wsX3_fault (rmz 6 126) G (TY cI cC cZ cR) [.ref (h 0)] (wMo cI h x) (Qi G (wMo cI h x) (pX3_fault x).1 (wMo cI h (pX3_fault x).2)) := by
  refine Ct.ofI (cc := cX3_fault) (maxL := 1) (ret := (some .int)) (by decide) rfl rfl ?_
  intro p e s m below meth c A ls E0 hP hD hS hl
  obtain ⟨hx, hb, hr, hml, hlocks, hts, hown, hK, hN, hA⟩ := E0
  have hl : lv_has ls 1 [(0, .ref (h 0))] := hl
  have hin : ∀ w ∈ wsX30, w ∈ wsX3_fault := fun w hw => List.mem_cons_of_mem _ (List.mem_append_right _ (hw))
  generalize hres : pX3_fault x = res
  refine lv_aload_n hx hb dX3_fault_0 rfl (lv_at hl 0 rfl) ?_
  refine go_i hD hS hA (rn_V (As := []) (rest := []) ⟨hx, hb, hml, hown, hts⟩ (ctX3_findFault l G cI cC cZ cR h x (by exact q_0)) (cwV 0 hts gX3_fault_X3_findFault rfl rfl rfl (by decide +kernel) ⟨Nat.le_of_ble_eq_true rfl, Nat.le_of_ble_eq_true rfl⟩) (md_recv hK hP rfl) hK hP hD hN rfl hl.1 rfl (Nat.le_of_ble_eq_true rfl) dX3_fault_1) (fun H locs hP hD hS => ?_)
  exact rt_b hx hb hr hlocks hP hD hS rfl ((show pX3_fault x = ((pX3_findFault x).1, (pX3_findFault x).2) by rw [pX3_fault]).symm.trans hres |>.symm) dX3_fault_4
