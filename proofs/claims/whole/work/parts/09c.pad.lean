def pX0_readBody (x : SR) : Int32 × SR := if (x.1 2) = 99 then ((pX0_readNumber 99 (pS x 1 ((x.1 1) + 1))).1, (pX0_readNumber 99 (pS x 1 ((x.1 1) + 1))).2)
  else if (x.1 2) = 107 then ((pX0_readNumber 99 (pS x 1 ((x.1 1) + 1))).1, (pX0_readNumber 99 (pS x 1 ((x.1 1) + 1))).2)
    else if (x.1 2) = 112 then if ((pX0_readNumber 99 (pS x 1 ((x.1 1) + 1))).1) = 0 then ((0 : Int32), (pX0_readNumber 99 (pS x 1 ((x.1 1) + 1))).2)
        else if ((pX0_skip 99 (pX0_readNumber 99 (pS x 1 ((x.1 1) + 1))).2).1) = 0 then ((1 : Int32), (pS (pX0_skip 99 (pX0_readNumber 99 (pS x 1 ((x.1 1) + 1))).2).2 4 0))
          else ((1 : Int32), (pS (pX0_skip 99 (pX0_readNumber 99 (pS x 1 ((x.1 1) + 1))).2).2 4 1))
      else if (x.1 2) = 114 then if ((pX0_skip 45 (pS x 1 ((x.1 1) + 1))).1) = 0 then if ((pX0_readHours (pX0_skip 45 (pS x 1 ((x.1 1) + 1))).2).1) = 0 then ((0 : Int32), (pX0_readHours (pX0_skip 45 (pS x 1 ((x.1 1) + 1))).2).2)
            else ((1 : Int32), (pX0_readHours (pX0_skip 45 (pS x 1 ((x.1 1) + 1))).2).2)
          else ((1 : Int32), (pX0_skip 45 (pS x 1 ((x.1 1) + 1))).2)
        else if (x.1 2) = 116 then ((pX0_readNumber 99 (pS x 1 ((x.1 1) + 1))).1, (pX0_readNumber 99 (pS x 1 ((x.1 1) + 1))).2)
          else ((0 : Int32), x)
set_option maxHeartbeats 4000000 in
set_option maxRecDepth 100000 in
theorem ctX0_readBody (l : Launch) (G : va_G) (cI cC cZ cR : ClassId) (h : Ad) (x : SR) (q_0 : chOK x) : Ct l yX0_readBody wsX0_readBody (rmz 3 63) G (TY cI cC cZ cR) [.ref (h 0)] (wPd cC h x) (Qi G (wPd cC h x) (pX0_readBody x).1 (wPd cC h (pX0_readBody x).2)) := by
  refine Ct.ofI (cc := cX0_readBody) (maxL := 1) (ret := (some .boolean)) (by decide) rfl rfl ?_
  intro p e s m below meth c A ls E0 hP hD hS hl
  obtain ⟨hx, hb, hr, hml, hlocks, hts, hown, hK, hN, hA⟩ := E0
  have hl : lv_has ls 1 [(0, .ref (h 0))] := hl
  have hin : ∀ w ∈ wsX00, w ∈ wsX0_readBody := fun w hw => List.mem_cons_of_mem _ (List.mem_append_right _ (hw))
  have k_22 : (Cond.fieldLink RX0 22 RX0 (TX0 3).2.1 (TX0 3).2.2.1).before ([.ref (h 0)] : List Value).toArray s = true := hts _ (List.mem_of_getElem? (i := 1) rfl)
  have k_19 : (Cond.fieldLink RX0 19 RX0 (TX0 2).2.1 (TX0 2).2.2.1).before ([.ref (h 0)] : List Value).toArray s = true := hts _ (List.mem_of_getElem? (i := 2) rfl)
  have k_29 : (Cond.fieldLink RX0 29 RX0 (TX0 5).2.1 (TX0 5).2.2.1).before ([.ref (h 0)] : List Value).toArray s = true := hts _ (List.mem_of_getElem? (i := 3) rfl)
  generalize hres : pX0_readBody x = res
  refine lv_aload_n hx hb dX0_readBody_0 rfl (lv_at hl 0 rfl) ?_
  refine md_get (ci := 0) (C := RX0) (T := TX0) (N := 8) (v := .int (x.1 2)) hx hb hts hin hown hK hP rfl 3 (by decide) k_22 rfl rfl rfl dX0_readBody_1 ?_
  by_cases c_1 : (x.1 2) = 99
  · refine lv_lookup (tgt := 97) hx hb dX0_readBody_4 (by decide) (by rw [c_1]; first | done | rfl) (by decide) ?_
    refine lv_aload_n hx hb dX0_readBody_97 rfl (lv_at hl 0 rfl) ?_
    refine lv_dup hx hb dX0_readBody_98 rfl ?_
    refine md_get (ci := 0) (C := RX0) (T := TX0) (N := 8) (v := .int (x.1 1)) hx hb hts hin hown hK hP rfl 2 (by decide) k_19 rfl rfl rfl dX0_readBody_99 ?_
    refine lv_iconst (v := 1) hx hb dX0_readBody_102 (by decide) ?_
    refine lv_iadd hx hb dX0_readBody_103 ?_
    refine md_put (ci := 0) (C := RX0) (T := TX0) (N := 8) hx hb hts hin tyX0 tyX0_ok nmX0 hown hK hP hD hS rfl 2 (by decide) k_19 rfl rfl (q := 1) rfl (fu (by decide)) rfl rfl dX0_readBody_104 (fun H locs hP hD hS => ?_)
    refine lv_aload_n hx hb dX0_readBody_107 rfl (lv_at hl 0 rfl) ?_
    refine lv_bipush (v := 99) hx hb dX0_readBody_108 (by decide) ?_
    refine go_i hD hS hA (rn_V (As := [.int 99]) (rest := []) ⟨hx, hb, hml, hown, hts⟩ (ctX0_readNumber l G cI cC cZ cR h (pS x 1 ((x.1 1) + 1)) 99 (by exact q_0)) (cwV 1 hts gX0_readBody_X0_readNumber rfl rfl rfl (by decide +kernel) ⟨Nat.le_of_ble_eq_true rfl, Nat.le_of_ble_eq_true rfl⟩) (md_recv hK hP rfl) hK hP hD hN rfl hl.1 rfl (Nat.le_of_ble_eq_true rfl) dX0_readBody_110) (fun H locs hP hD hS => ?_)
    exact rt_b hx hb hr hlocks hP hD hS (nz_of (readNumber_b _ _)) ((show pX0_readBody x = ((pX0_readNumber 99 (pS x 1 ((x.1 1) + 1))).1, (pX0_readNumber 99 (pS x 1 ((x.1 1) + 1))).2) by rw [pX0_readBody, if_pos c_1]).symm.trans hres |>.symm) dX0_readBody_113
  · skip
    by_cases c_2 : (x.1 2) = 107
    · refine lv_lookup (tgt := 97) hx hb dX0_readBody_4 (by decide) (by rw [c_2]; first | done | rfl) (by decide) ?_
      refine lv_aload_n hx hb dX0_readBody_97 rfl (lv_at hl 0 rfl) ?_
      refine lv_dup hx hb dX0_readBody_98 rfl ?_
      refine md_get (ci := 0) (C := RX0) (T := TX0) (N := 8) (v := .int (x.1 1)) hx hb hts hin hown hK hP rfl 2 (by decide) k_19 rfl rfl rfl dX0_readBody_99 ?_
      refine lv_iconst (v := 1) hx hb dX0_readBody_102 (by decide) ?_
      refine lv_iadd hx hb dX0_readBody_103 ?_
      refine md_put (ci := 0) (C := RX0) (T := TX0) (N := 8) hx hb hts hin tyX0 tyX0_ok nmX0 hown hK hP hD hS rfl 2 (by decide) k_19 rfl rfl (q := 1) rfl (fu (by decide)) rfl rfl dX0_readBody_104 (fun H locs hP hD hS => ?_)
      refine lv_aload_n hx hb dX0_readBody_107 rfl (lv_at hl 0 rfl) ?_
      refine lv_bipush (v := 99) hx hb dX0_readBody_108 (by decide) ?_
      refine go_i hD hS hA (rn_V (As := [.int 99]) (rest := []) ⟨hx, hb, hml, hown, hts⟩ (ctX0_readNumber l G cI cC cZ cR h (pS x 1 ((x.1 1) + 1)) 99 (by exact q_0)) (cwV 1 hts gX0_readBody_X0_readNumber rfl rfl rfl (by decide +kernel) ⟨Nat.le_of_ble_eq_true rfl, Nat.le_of_ble_eq_true rfl⟩) (md_recv hK hP rfl) hK hP hD hN rfl hl.1 rfl (Nat.le_of_ble_eq_true rfl) dX0_readBody_110) (fun H locs hP hD hS => ?_)
      exact rt_b hx hb hr hlocks hP hD hS (nz_of (readNumber_b _ _)) ((show pX0_readBody x = ((pX0_readNumber 99 (pS x 1 ((x.1 1) + 1))).1, (pX0_readNumber 99 (pS x 1 ((x.1 1) + 1))).2) by rw [pX0_readBody, if_neg c_1, if_pos c_2]).symm.trans hres |>.symm) dX0_readBody_113
    · skip
      by_cases c_3 : (x.1 2) = 112
      · refine lv_lookup (tgt := 56) hx hb dX0_readBody_4 (by decide) (by rw [c_3]; first | done | rfl) (by decide) ?_
        refine lv_aload_n hx hb dX0_readBody_56 rfl (lv_at hl 0 rfl) ?_
        refine lv_dup hx hb dX0_readBody_57 rfl ?_
        refine md_get (ci := 0) (C := RX0) (T := TX0) (N := 8) (v := .int (x.1 1)) hx hb hts hin hown hK hP rfl 2 (by decide) k_19 rfl rfl rfl dX0_readBody_58 ?_
        refine lv_iconst (v := 1) hx hb dX0_readBody_61 (by decide) ?_
        refine lv_iadd hx hb dX0_readBody_62 ?_
        refine md_put (ci := 0) (C := RX0) (T := TX0) (N := 8) hx hb hts hin tyX0 tyX0_ok nmX0 hown hK hP hD hS rfl 2 (by decide) k_19 rfl rfl (q := 1) rfl (fu (by decide)) rfl rfl dX0_readBody_63 (fun H locs hP hD hS => ?_)
        refine lv_aload_n hx hb dX0_readBody_66 rfl (lv_at hl 0 rfl) ?_
        refine lv_bipush (v := 99) hx hb dX0_readBody_67 (by decide) ?_
        refine go_i hD hS hA (rn_V (As := [.int 99]) (rest := []) ⟨hx, hb, hml, hown, hts⟩ (ctX0_readNumber l G cI cC cZ cR h (pS x 1 ((x.1 1) + 1)) 99 (by exact q_0)) (cwV 1 hts gX0_readBody_X0_readNumber rfl rfl rfl (by decide +kernel) ⟨Nat.le_of_ble_eq_true rfl, Nat.le_of_ble_eq_true rfl⟩) (md_recv hK hP rfl) hK hP hD hN rfl hl.1 rfl (Nat.le_of_ble_eq_true rfl) dX0_readBody_69) (fun H locs hP hD hS => ?_)
        refine lv_if_ne (tgt := 77) hx hb dX0_readBody_72 (by decide) (fun c_4 => ?_) (fun c_4 => ?_)
        · refine lv_aload_n hx hb dX0_readBody_77 rfl (lv_at hl 0 rfl) ?_
          refine lv_aload_n hx hb dX0_readBody_78 rfl (lv_at hl 0 rfl) ?_
          refine lv_bipush (v := 99) hx hb dX0_readBody_79 (by decide) ?_
          refine go_i hD hS hA (rn_V (As := [.int 99]) (rest := [.ref (h 0)]) ⟨hx, hb, hml, hown, hts⟩ (ctX0_skip l G cI cC cZ cR h (pX0_readNumber 99 (pS x 1 ((x.1 1) + 1))).2 99 (by exact ch_of (readNumber_t _ _) q_0)) (cwV 1 hts gX0_readBody_X0_skip rfl rfl rfl (by decide +kernel) ⟨Nat.le_of_ble_eq_true rfl, Nat.le_of_ble_eq_true rfl⟩) (md_recv hK hP rfl) hK hP hD hN rfl hl.1 rfl (Nat.le_of_ble_eq_true rfl) dX0_readBody_81) (fun H locs hP hD hS => ?_)
          refine lv_if_eq (tgt := 91) hx hb dX0_readBody_84 (by decide) (fun c_5 => ?_) (fun c_5 => ?_)
          · refine lv_iconst (v := 0) hx hb dX0_readBody_91 (by decide) ?_
            refine md_put (ci := 0) (C := RX0) (T := TX0) (N := 8) hx hb hts hin tyX0 tyX0_ok nmX0 hown hK hP hD hS rfl 5 (by decide) k_29 rfl rfl (q := 4) rfl (fu (by decide)) rfl rfl dX0_readBody_92 (fun H locs hP hD hS => ?_)
            refine lv_iconst (v := 1) hx hb dX0_readBody_95 (by decide) ?_
            exact rt_b hx hb hr hlocks hP hD hS rfl ((show pX0_readBody x = ((1 : Int32), (pS (pX0_skip 99 (pX0_readNumber 99 (pS x 1 ((x.1 1) + 1))).2).2 4 0)) by rw [pX0_readBody, if_neg c_1, if_neg c_2, if_pos c_3, if_neg c_4, if_pos c_5]).symm.trans hres |>.symm) dX0_readBody_96
          · refine lv_iconst (v := 1) hx hb dX0_readBody_87 (by decide) ?_
            refine lv_goto (tgt := 92) hx hb dX0_readBody_88 (by decide) ?_
            refine md_put (ci := 0) (C := RX0) (T := TX0) (N := 8) hx hb hts hin tyX0 tyX0_ok nmX0 hown hK hP hD hS rfl 5 (by decide) k_29 rfl rfl (q := 4) rfl (fu (by decide)) rfl rfl dX0_readBody_92 (fun H locs hP hD hS => ?_)
            refine lv_iconst (v := 1) hx hb dX0_readBody_95 (by decide) ?_
            exact rt_b hx hb hr hlocks hP hD hS rfl ((show pX0_readBody x = ((1 : Int32), (pS (pX0_skip 99 (pX0_readNumber 99 (pS x 1 ((x.1 1) + 1))).2).2 4 1)) by rw [pX0_readBody, if_neg c_1, if_neg c_2, if_pos c_3, if_neg c_4, if_neg c_5]).symm.trans hres |>.symm) dX0_readBody_96
        · refine lv_iconst (v := 0) hx hb dX0_readBody_75 (by decide) ?_
          exact rt_b hx hb hr hlocks hP hD hS rfl ((show pX0_readBody x = ((0 : Int32), (pX0_readNumber 99 (pS x 1 ((x.1 1) + 1))).2) by rw [pX0_readBody, if_neg c_1, if_neg c_2, if_pos c_3, if_pos c_4]).symm.trans hres |>.symm) dX0_readBody_76
      · skip
        by_cases c_6 : (x.1 2) = 114
        · refine lv_lookup (tgt := 114) hx hb dX0_readBody_4 (by decide) (by rw [c_6]; first | done | rfl) (by decide) ?_
          refine lv_aload_n hx hb dX0_readBody_114 rfl (lv_at hl 0 rfl) ?_
          refine lv_dup hx hb dX0_readBody_115 rfl ?_
          refine md_get (ci := 0) (C := RX0) (T := TX0) (N := 8) (v := .int (x.1 1)) hx hb hts hin hown hK hP rfl 2 (by decide) k_19 rfl rfl rfl dX0_readBody_116 ?_
          refine lv_iconst (v := 1) hx hb dX0_readBody_119 (by decide) ?_
          refine lv_iadd hx hb dX0_readBody_120 ?_
          refine md_put (ci := 0) (C := RX0) (T := TX0) (N := 8) hx hb hts hin tyX0 tyX0_ok nmX0 hown hK hP hD hS rfl 2 (by decide) k_19 rfl rfl (q := 1) rfl (fu (by decide)) rfl rfl dX0_readBody_121 (fun H locs hP hD hS => ?_)
          refine lv_aload_n hx hb dX0_readBody_124 rfl (lv_at hl 0 rfl) ?_
          refine lv_bipush (v := 45) hx hb dX0_readBody_125 (by decide) ?_
          refine go_i hD hS hA (rn_V (As := [.int 45]) (rest := []) ⟨hx, hb, hml, hown, hts⟩ (ctX0_skip l G cI cC cZ cR h (pS x 1 ((x.1 1) + 1)) 45 (by exact q_0)) (cwV 1 hts gX0_readBody_X0_skip rfl rfl rfl (by decide +kernel) ⟨Nat.le_of_ble_eq_true rfl, Nat.le_of_ble_eq_true rfl⟩) (md_recv hK hP rfl) hK hP hD hN rfl hl.1 rfl (Nat.le_of_ble_eq_true rfl) dX0_readBody_127) (fun H locs hP hD hS => ?_)
          refine lv_if_ne (tgt := 140) hx hb dX0_readBody_130 (by decide) (fun c_7 => ?_) (fun c_7 => ?_)
          · refine lv_iconst (v := 1) hx hb dX0_readBody_140 (by decide) ?_
            refine lv_goto (tgt := 145) hx hb dX0_readBody_141 (by decide) ?_
            exact rt_b hx hb hr hlocks hP hD hS rfl ((show pX0_readBody x = ((1 : Int32), (pX0_skip 45 (pS x 1 ((x.1 1) + 1))).2) by rw [pX0_readBody, if_neg c_1, if_neg c_2, if_neg c_3, if_pos c_6, if_neg c_7]).symm.trans hres |>.symm) dX0_readBody_145
          · refine lv_aload_n hx hb dX0_readBody_133 rfl (lv_at hl 0 rfl) ?_
            refine go_i hD hS hA (rn_V (As := []) (rest := []) ⟨hx, hb, hml, hown, hts⟩ (ctX0_readHours l G cI cC cZ cR h (pX0_skip 45 (pS x 1 ((x.1 1) + 1))).2 (by exact ch_of (skip_t _ _) q_0)) (cwV 0 hts gX0_readBody_X0_readHours rfl rfl rfl (by decide +kernel) ⟨Nat.le_of_ble_eq_true rfl, Nat.le_of_ble_eq_true rfl⟩) (md_recv hK hP rfl) hK hP hD hN rfl hl.1 rfl (Nat.le_of_ble_eq_true rfl) dX0_readBody_134) (fun H locs hP hD hS => ?_)
            refine lv_if_eq (tgt := 144) hx hb dX0_readBody_137 (by decide) (fun c_8 => ?_) (fun c_8 => ?_)
            · refine lv_iconst (v := 0) hx hb dX0_readBody_144 (by decide) ?_
              exact rt_b hx hb hr hlocks hP hD hS rfl ((show pX0_readBody x = ((0 : Int32), (pX0_readHours (pX0_skip 45 (pS x 1 ((x.1 1) + 1))).2).2) by rw [pX0_readBody, if_neg c_1, if_neg c_2, if_neg c_3, if_pos c_6, if_pos c_7, if_pos c_8]).symm.trans hres |>.symm) dX0_readBody_145
            · refine lv_iconst (v := 1) hx hb dX0_readBody_140 (by decide) ?_
              refine lv_goto (tgt := 145) hx hb dX0_readBody_141 (by decide) ?_
              exact rt_b hx hb hr hlocks hP hD hS rfl ((show pX0_readBody x = ((1 : Int32), (pX0_readHours (pX0_skip 45 (pS x 1 ((x.1 1) + 1))).2).2) by rw [pX0_readBody, if_neg c_1, if_neg c_2, if_neg c_3, if_pos c_6, if_pos c_7, if_neg c_8]).symm.trans hres |>.symm) dX0_readBody_145
        · skip
          by_cases c_9 : (x.1 2) = 116
          · refine lv_lookup (tgt := 97) hx hb dX0_readBody_4 (by decide) (by rw [c_9]; first | done | rfl) (by decide) ?_
            refine lv_aload_n hx hb dX0_readBody_97 rfl (lv_at hl 0 rfl) ?_
            refine lv_dup hx hb dX0_readBody_98 rfl ?_
            refine md_get (ci := 0) (C := RX0) (T := TX0) (N := 8) (v := .int (x.1 1)) hx hb hts hin hown hK hP rfl 2 (by decide) k_19 rfl rfl rfl dX0_readBody_99 ?_
            refine lv_iconst (v := 1) hx hb dX0_readBody_102 (by decide) ?_
            refine lv_iadd hx hb dX0_readBody_103 ?_
            refine md_put (ci := 0) (C := RX0) (T := TX0) (N := 8) hx hb hts hin tyX0 tyX0_ok nmX0 hown hK hP hD hS rfl 2 (by decide) k_19 rfl rfl (q := 1) rfl (fu (by decide)) rfl rfl dX0_readBody_104 (fun H locs hP hD hS => ?_)
            refine lv_aload_n hx hb dX0_readBody_107 rfl (lv_at hl 0 rfl) ?_
            refine lv_bipush (v := 99) hx hb dX0_readBody_108 (by decide) ?_
            refine go_i hD hS hA (rn_V (As := [.int 99]) (rest := []) ⟨hx, hb, hml, hown, hts⟩ (ctX0_readNumber l G cI cC cZ cR h (pS x 1 ((x.1 1) + 1)) 99 (by exact q_0)) (cwV 1 hts gX0_readBody_X0_readNumber rfl rfl rfl (by decide +kernel) ⟨Nat.le_of_ble_eq_true rfl, Nat.le_of_ble_eq_true rfl⟩) (md_recv hK hP rfl) hK hP hD hN rfl hl.1 rfl (Nat.le_of_ble_eq_true rfl) dX0_readBody_110) (fun H locs hP hD hS => ?_)
            exact rt_b hx hb hr hlocks hP hD hS (nz_of (readNumber_b _ _)) ((show pX0_readBody x = ((pX0_readNumber 99 (pS x 1 ((x.1 1) + 1))).1, (pX0_readNumber 99 (pS x 1 ((x.1 1) + 1))).2) by rw [pX0_readBody, if_neg c_1, if_neg c_2, if_neg c_3, if_neg c_6, if_pos c_9]).symm.trans hres |>.symm) dX0_readBody_113
          · skip
            refine lv_lookup (off := 142) (tgt := 146) hx hb dX0_readBody_4 (by decide) ((lv_osw (a := 99) c_1 (by decide)).trans ((lv_osw (a := 107) c_2 (by decide)).trans ((lv_osw (a := 112) c_3 (by decide)).trans ((lv_osw (a := 114) c_6 (by decide)).trans ((lv_osw (a := 116) c_9 (by decide)).trans (rfl)))))) (by decide) ?_
            refine lv_iconst (v := 0) hx hb dX0_readBody_146 (by decide) ?_
            exact rt_b hx hb hr hlocks hP hD hS rfl ((show pX0_readBody x = ((0 : Int32), x) by rw [pX0_readBody, if_neg c_1, if_neg c_2, if_neg c_3, if_neg c_6, if_neg c_9]).symm.trans hres |>.symm) dX0_readBody_147
