def pX3_whyNotDone (x : SR) : Int32 := if (x.1 4) = 99 then (pX3_whyNoCover (x.1 5) x)
  else if (x.1 4) = 107 then (pX3_whyNoKeeper (x.1 5) x)
    else if (x.1 4) = 112 then if (x.1 6) = 0 then (pX3_whyNoPiano (x.1 5) 0 x)
        else (pX3_whyNoPiano (x.1 5) 1 x)
      else if (x.1 4) = 116 then (pX3_whyNotPassed (x.1 5) x)
        else 0
set_option maxHeartbeats 600000 in
set_option maxRecDepth 100000 in
theorem ctX3_whyNotDone (l : Launch) (G : va_G) (cI cC cZ cR : ClassId) (h : Ad) (x : SR) : Ct l yX3_whyNotDone wsX3_whyNotDone (rmz 4 85) G (TY cI cC cZ cR) [.ref (h 0)] (wMo cI h x) (Qi G (wMo cI h x) (pX3_whyNotDone x) (wMo cI h x)) := by
  refine Ct.ofI (cc := cX3_whyNotDone) (maxL := 1) (ret := (some .int)) (by decide) rfl rfl ?_
  intro p e s m below meth c A ls E0 hP hD hS hl
  obtain ⟨hx, hb, hr, hml, hlocks, hts, hown, hK, hN, hA⟩ := E0
  have hl : lv_has ls 1 [(0, .ref (h 0))] := hl
  have hin : ∀ w ∈ wsX30, w ∈ wsX3_whyNotDone := fun w hw => List.mem_cons_of_mem _ (List.mem_append_right _ (hw))
  have k_179 : (Cond.fieldLink RX3 179 RX3 (TX3 10).2.1 (TX3 10).2.2.1).before ([.ref (h 0)] : List Value).toArray s = true := hts _ (List.mem_of_getElem? (i := 1) rfl)
  have k_173 : (Cond.fieldLink RX3 173 RX3 (TX3 11).2.1 (TX3 11).2.2.1).before ([.ref (h 0)] : List Value).toArray s = true := hts _ (List.mem_of_getElem? (i := 2) rfl)
  have k_182 : (Cond.fieldLink RX3 182 RX3 (TX3 12).2.1 (TX3 12).2.2.1).before ([.ref (h 0)] : List Value).toArray s = true := hts _ (List.mem_of_getElem? (i := 3) rfl)
  generalize hres : pX3_whyNotDone x = res
  refine lv_aload_n hx hb dX3_whyNotDone_0 rfl (lv_at hl 0 rfl) ?_
  refine md_get (ci := 3) (C := RX3) (T := TX3) (N := 13) (v := .int (x.1 4)) hx hb hts hin hown hK hP rfl 10 (by decide) k_179 rfl rfl rfl dX3_whyNotDone_1 ?_
  by_cases c_1 : (x.1 4) = 99
  · refine lv_lookup (tgt := 78) hx hb dX3_whyNotDone_4 (by decide) (by rw [c_1]; first | done | rfl) (by decide) ?_
    refine lv_aload_n hx hb dX3_whyNotDone_78 rfl (lv_at hl 0 rfl) ?_
    refine lv_aload_n hx hb dX3_whyNotDone_79 rfl (lv_at hl 0 rfl) ?_
    refine md_get (ci := 3) (C := RX3) (T := TX3) (N := 13) (v := .int (x.1 5)) hx hb hts hin hown hK hP rfl 11 (by decide) k_173 rfl rfl rfl dX3_whyNotDone_80 ?_
    refine go_i hD hS hA (rn_V (As := [.int (x.1 5)]) (rest := []) ⟨hx, hb, hml, hown, hts⟩ (ctX3_whyNoCover l G cI cC cZ cR h x (x.1 5)) (cwV 1 hts gX3_whyNotDone_X3_whyNoCover rfl rfl rfl (by decide +kernel) ⟨Nat.le_of_ble_eq_true rfl, Nat.le_of_ble_eq_true rfl⟩) (md_recv hK hP rfl) hK hP hD hN rfl hl.1 rfl (Nat.le_of_ble_eq_true rfl) dX3_whyNotDone_83) (fun H locs hP hD hS => ?_)
    exact rt_r hx hb hr hlocks hP hD hS rfl ((show pX3_whyNotDone x = (pX3_whyNoCover (x.1 5) x) by rw [pX3_whyNotDone, if_pos c_1]).symm.trans hres |>.symm) dX3_whyNotDone_86
  · skip
    by_cases c_2 : (x.1 4) = 107
    · refine lv_lookup (tgt := 69) hx hb dX3_whyNotDone_4 (by decide) (by rw [c_2]; first | done | rfl) (by decide) ?_
      refine lv_aload_n hx hb dX3_whyNotDone_69 rfl (lv_at hl 0 rfl) ?_
      refine lv_aload_n hx hb dX3_whyNotDone_70 rfl (lv_at hl 0 rfl) ?_
      refine md_get (ci := 3) (C := RX3) (T := TX3) (N := 13) (v := .int (x.1 5)) hx hb hts hin hown hK hP rfl 11 (by decide) k_173 rfl rfl rfl dX3_whyNotDone_71 ?_
      refine go_i hD hS hA (rn_V (As := [.int (x.1 5)]) (rest := []) ⟨hx, hb, hml, hown, hts⟩ (ctX3_whyNoKeeper l G cI cC cZ cR h x (x.1 5)) (cwV 1 hts gX3_whyNotDone_X3_whyNoKeeper rfl rfl rfl (by decide +kernel) ⟨Nat.le_of_ble_eq_true rfl, Nat.le_of_ble_eq_true rfl⟩) (md_recv hK hP rfl) hK hP hD hN rfl hl.1 rfl (Nat.le_of_ble_eq_true rfl) dX3_whyNotDone_74) (fun H locs hP hD hS => ?_)
      exact rt_r hx hb hr hlocks hP hD hS rfl ((show pX3_whyNotDone x = (pX3_whyNoKeeper (x.1 5) x) by rw [pX3_whyNotDone, if_neg c_1, if_pos c_2]).symm.trans hres |>.symm) dX3_whyNotDone_77
    · skip
      by_cases c_3 : (x.1 4) = 112
      · refine lv_lookup (tgt := 48) hx hb dX3_whyNotDone_4 (by decide) (by rw [c_3]; first | done | rfl) (by decide) ?_
        refine lv_aload_n hx hb dX3_whyNotDone_48 rfl (lv_at hl 0 rfl) ?_
        refine lv_aload_n hx hb dX3_whyNotDone_49 rfl (lv_at hl 0 rfl) ?_
        refine md_get (ci := 3) (C := RX3) (T := TX3) (N := 13) (v := .int (x.1 5)) hx hb hts hin hown hK hP rfl 11 (by decide) k_173 rfl rfl rfl dX3_whyNotDone_50 ?_
        refine lv_aload_n hx hb dX3_whyNotDone_53 rfl (lv_at hl 0 rfl) ?_
        refine md_get (ci := 3) (C := RX3) (T := TX3) (N := 13) (v := .int (x.1 6)) hx hb hts hin hown hK hP rfl 12 (by decide) k_182 rfl rfl rfl dX3_whyNotDone_54 ?_
        refine lv_if_eq (tgt := 64) hx hb dX3_whyNotDone_57 (by decide) (fun c_4 => ?_) (fun c_4 => ?_)
        · refine lv_iconst (v := 0) hx hb dX3_whyNotDone_64 (by decide) ?_
          refine go_i hD hS hA (rn_V (As := [.int (x.1 5), .int 0]) (rest := []) ⟨hx, hb, hml, hown, hts⟩ (ctX3_whyNoPiano l G cI cC cZ cR h x (x.1 5) 0) (cwV 2 hts gX3_whyNotDone_X3_whyNoPiano rfl rfl rfl (by decide +kernel) ⟨Nat.le_of_ble_eq_true rfl, Nat.le_of_ble_eq_true rfl⟩) (md_recv hK hP rfl) hK hP hD hN rfl hl.1 rfl (Nat.le_of_ble_eq_true rfl) dX3_whyNotDone_65) (fun H locs hP hD hS => ?_)
          exact rt_r hx hb hr hlocks hP hD hS rfl ((show pX3_whyNotDone x = (pX3_whyNoPiano (x.1 5) 0 x) by rw [pX3_whyNotDone, if_neg c_1, if_neg c_2, if_pos c_3, if_pos c_4]).symm.trans hres |>.symm) dX3_whyNotDone_68
        · refine lv_iconst (v := 1) hx hb dX3_whyNotDone_60 (by decide) ?_
          refine lv_goto (tgt := 65) hx hb dX3_whyNotDone_61 (by decide) ?_
          refine go_i hD hS hA (rn_V (As := [.int (x.1 5), .int 1]) (rest := []) ⟨hx, hb, hml, hown, hts⟩ (ctX3_whyNoPiano l G cI cC cZ cR h x (x.1 5) 1) (cwV 2 hts gX3_whyNotDone_X3_whyNoPiano rfl rfl rfl (by decide +kernel) ⟨Nat.le_of_ble_eq_true rfl, Nat.le_of_ble_eq_true rfl⟩) (md_recv hK hP rfl) hK hP hD hN rfl hl.1 rfl (Nat.le_of_ble_eq_true rfl) dX3_whyNotDone_65) (fun H locs hP hD hS => ?_)
          exact rt_r hx hb hr hlocks hP hD hS rfl ((show pX3_whyNotDone x = (pX3_whyNoPiano (x.1 5) 1 x) by rw [pX3_whyNotDone, if_neg c_1, if_neg c_2, if_pos c_3, if_neg c_4]).symm.trans hres |>.symm) dX3_whyNotDone_68
      · skip
        by_cases c_5 : (x.1 4) = 116
        · refine lv_lookup (tgt := 87) hx hb dX3_whyNotDone_4 (by decide) (by rw [c_5]; first | done | rfl) (by decide) ?_
          refine lv_aload_n hx hb dX3_whyNotDone_87 rfl (lv_at hl 0 rfl) ?_
          refine lv_aload_n hx hb dX3_whyNotDone_88 rfl (lv_at hl 0 rfl) ?_
          refine md_get (ci := 3) (C := RX3) (T := TX3) (N := 13) (v := .int (x.1 5)) hx hb hts hin hown hK hP rfl 11 (by decide) k_173 rfl rfl rfl dX3_whyNotDone_89 ?_
          refine go_i hD hS hA (rn_V (As := [.int (x.1 5)]) (rest := []) ⟨hx, hb, hml, hown, hts⟩ (ctX3_whyNotPassed l G cI cC cZ cR h x (x.1 5)) (cwV 1 hts gX3_whyNotDone_X3_whyNotPassed rfl rfl rfl (by decide +kernel) ⟨Nat.le_of_ble_eq_true rfl, Nat.le_of_ble_eq_true rfl⟩) (md_recv hK hP rfl) hK hP hD hN rfl hl.1 rfl (Nat.le_of_ble_eq_true rfl) dX3_whyNotDone_92) (fun H locs hP hD hS => ?_)
          exact rt_r hx hb hr hlocks hP hD hS rfl ((show pX3_whyNotDone x = (pX3_whyNotPassed (x.1 5) x) by rw [pX3_whyNotDone, if_neg c_1, if_neg c_2, if_neg c_3, if_pos c_5]).symm.trans hres |>.symm) dX3_whyNotDone_95
        · skip
          refine lv_lookup (off := 92) (tgt := 96) hx hb dX3_whyNotDone_4 (by decide) ((lv_osw (a := 99) c_1 (by decide)).trans ((lv_osw (a := 107) c_2 (by decide)).trans ((lv_osw (a := 112) c_3 (by decide)).trans ((lv_osw (a := 116) c_5 (by decide)).trans (rfl))))) (by decide) ?_
          refine lv_iconst (v := 0) hx hb dX3_whyNotDone_96 (by decide) ?_
          exact rt_r hx hb hr hlocks hP hD hS rfl ((show pX3_whyNotDone x = 0 by rw [pX3_whyNotDone, if_neg c_1, if_neg c_2, if_neg c_3, if_neg c_5]).symm.trans hres |>.symm) dX3_whyNotDone_97
theorem wd_p {x : SR} (h : pX3_whyNotDone x = 0) (hc : x.1 4 = 112) : vp_in (x.1 5) 12 := by
  rw [pX3_whyNotDone, if_neg (by rw [hc]; decide), if_neg (by rw [hc]; decide), if_pos hc] at h
  by_cases h6 : x.1 6 = 0
  · rw [if_pos h6] at h
    exact whyNoPiano_in (by rw [h]; decide)
  · rw [if_neg h6] at h
    exact whyNoPiano_in (by rw [h]; decide)
theorem wd_c {x : SR} (h : pX3_whyNotDone x = 0) (hc : x.1 4 = 99) : vp_in (x.1 5) 12 := by
  rw [pX3_whyNotDone, if_pos hc] at h
  exact whyNoCover_in (by rw [h]; decide)
theorem wd_t {x : SR} (h : pX3_whyNotDone x = 0) (hc : x.1 4 = 116) : 0 ≤ Int32.toInt (x.1 5) ∧ Int32.toInt (x.1 5) ≤ 99 := by
  rw [pX3_whyNotDone, if_neg (by rw [hc]; decide), if_neg (by rw [hc]; decide), if_neg (by rw [hc]; decide), if_pos hc] at h
  exact whyNotPassed_in (by rw [h]; decide)
def pX3_doesOrder (x : SR) : SR := if (x.1 4) = 99 then (pX3_setPiano (x.1 5) 3 1 x)
  else if (x.1 4) = 107 then (pX3_keeperComes (x.1 5) x).2
    else if (x.1 4) = 112 then if (x.1 6) = 0 then (pX3_pianoComes (x.1 5) 0 x)
        else (pX3_pianoComes (x.1 5) 1 x)
      else if (x.1 4) = 116 then (pX3_passes (x.1 5) x).2
        else (pR x 0 8 (x.1 5))
set_option maxHeartbeats 600000 in
set_option maxRecDepth 100000 in
theorem ctX3_doesOrder (l : Launch) (G : va_G) (cI cC cZ cR : ClassId) (h : Ad) (x : SR) (q_0 : pX3_whyNotDone x = 0) (q_1 : Mf (x.2 0)) : Ct l yX3_doesOrder wsX3_doesOrder (rmz 10 223) G (TY cI cC cZ cR) [.ref (h 0)] (wMo cI h x) (Qv G (wMo cI h x) (wMo cI h (pX3_doesOrder x))) := by
  refine Ct.ofV (cc := cX3_doesOrder) (maxL := 1) (ret := none) (by decide) rfl rfl ?_
  intro p e s m below meth c A ls E0 hP hD hS hl
  obtain ⟨hx, hb, hr, hml, hlocks, hts, hown, hK, hN, hA⟩ := E0
  have hl : lv_has ls 1 [(0, .ref (h 0))] := hl
  have hin : ∀ w ∈ wsX30, w ∈ wsX3_doesOrder := fun w hw => List.mem_cons_of_mem _ (List.mem_append_right _ (hw))
  have k_179 : (Cond.fieldLink RX3 179 RX3 (TX3 10).2.1 (TX3 10).2.2.1).before ([.ref (h 0)] : List Value).toArray s = true := hts _ (List.mem_of_getElem? (i := 1) rfl)
  have k_173 : (Cond.fieldLink RX3 173 RX3 (TX3 11).2.1 (TX3 11).2.2.1).before ([.ref (h 0)] : List Value).toArray s = true := hts _ (List.mem_of_getElem? (i := 2) rfl)
  have k_182 : (Cond.fieldLink RX3 182 RX3 (TX3 12).2.1 (TX3 12).2.2.1).before ([.ref (h 0)] : List Value).toArray s = true := hts _ (List.mem_of_getElem? (i := 3) rfl)
  have k_7 : (Cond.fieldLink RX3 7 RX3 (TX3 0).2.1 (TX3 0).2.2.1).before ([.ref (h 0)] : List Value).toArray s = true := hts _ (List.mem_of_getElem? (i := 4) rfl)
  generalize hres : pX3_doesOrder x = res
  refine lv_aload_n hx hb dX3_doesOrder_0 rfl (lv_at hl 0 rfl) ?_
  refine md_get (ci := 3) (C := RX3) (T := TX3) (N := 13) (v := .int (x.1 4)) hx hb hts hin hown hK hP rfl 10 (by decide) k_179 rfl rfl rfl dX3_doesOrder_1 ?_
  by_cases c_1 : (x.1 4) = 99
  · refine lv_lookup (tgt := 83) hx hb dX3_doesOrder_4 (by decide) (by rw [c_1]; first | done | rfl) (by decide) ?_
    refine lv_aload_n hx hb dX3_doesOrder_83 rfl (lv_at hl 0 rfl) ?_
    refine lv_aload_n hx hb dX3_doesOrder_84 rfl (lv_at hl 0 rfl) ?_
    refine md_get (ci := 3) (C := RX3) (T := TX3) (N := 13) (v := .int (x.1 5)) hx hb hts hin hown hK hP rfl 11 (by decide) k_173 rfl rfl rfl dX3_doesOrder_85 ?_
    refine lv_iconst (v := 3) hx hb dX3_doesOrder_88 (by decide) ?_
    refine lv_iconst (v := 1) hx hb dX3_doesOrder_89 (by decide) ?_
    refine go_v hD hS hA (rn_V (As := [.int (x.1 5), .int 3, .int 1]) (rest := []) ⟨hx, hb, hml, hown, hts⟩ (ctX3_setPiano l G cI cC cZ cR h x (x.1 5) 3 1 (by exact wd_c q_0 (by with_reducible assumption)) (by exact li_in (by decide))) (cwV 3 hts gX3_doesOrder_X3_setPiano rfl rfl rfl (by decide +kernel) ⟨Nat.le_of_ble_eq_true rfl, Nat.le_of_ble_eq_true rfl⟩) (md_recv hK hP rfl) hK hP hD hN rfl hl.1 rfl (Nat.le_of_ble_eq_true rfl) dX3_doesOrder_90) (fun H locs hP hD hS => ?_)
    refine lv_goto (tgt := 119) hx hb dX3_doesOrder_93 (by decide) ?_
    exact rt_s hx hb hr hlocks hP hD hS ((show pX3_doesOrder x = (pX3_setPiano (x.1 5) 3 1 x) by rw [pX3_doesOrder, if_pos c_1]).symm.trans hres |>.symm) dX3_doesOrder_119
  · skip
    by_cases c_2 : (x.1 4) = 107
    · refine lv_lookup (tgt := 71) hx hb dX3_doesOrder_4 (by decide) (by rw [c_2]; first | done | rfl) (by decide) ?_
      refine lv_aload_n hx hb dX3_doesOrder_71 rfl (lv_at hl 0 rfl) ?_
      refine lv_aload_n hx hb dX3_doesOrder_72 rfl (lv_at hl 0 rfl) ?_
      refine md_get (ci := 3) (C := RX3) (T := TX3) (N := 13) (v := .int (x.1 5)) hx hb hts hin hown hK hP rfl 11 (by decide) k_173 rfl rfl rfl dX3_doesOrder_73 ?_
      refine go_i hD hS hA (rn_V (As := [.int (x.1 5)]) (rest := []) ⟨hx, hb, hml, hown, hts⟩ (ctX3_keeperComes l G cI cC cZ cR h x (x.1 5) (by exact q_1.1.2.2.1) (by exact q_1.2)) (cwV 1 hts gX3_doesOrder_X3_keeperComes rfl rfl rfl (by decide +kernel) ⟨Nat.le_of_ble_eq_true rfl, Nat.le_of_ble_eq_true rfl⟩) (md_recv hK hP rfl) hK hP hD hN rfl hl.1 rfl (Nat.le_of_ble_eq_true rfl) dX3_doesOrder_76) (fun H locs hP hD hS => ?_)
      refine lv_pop hx hb dX3_doesOrder_79 rfl ?_
      refine lv_goto (tgt := 119) hx hb dX3_doesOrder_80 (by decide) ?_
      exact rt_s hx hb hr hlocks hP hD hS ((show pX3_doesOrder x = (pX3_keeperComes (x.1 5) x).2 by rw [pX3_doesOrder, if_neg c_1, if_pos c_2]).symm.trans hres |>.symm) dX3_doesOrder_119
    · skip
      by_cases c_3 : (x.1 4) = 112
      · refine lv_lookup (tgt := 48) hx hb dX3_doesOrder_4 (by decide) (by rw [c_3]; first | done | rfl) (by decide) ?_
        refine lv_aload_n hx hb dX3_doesOrder_48 rfl (lv_at hl 0 rfl) ?_
        refine lv_aload_n hx hb dX3_doesOrder_49 rfl (lv_at hl 0 rfl) ?_
        refine md_get (ci := 3) (C := RX3) (T := TX3) (N := 13) (v := .int (x.1 5)) hx hb hts hin hown hK hP rfl 11 (by decide) k_173 rfl rfl rfl dX3_doesOrder_50 ?_
        refine lv_aload_n hx hb dX3_doesOrder_53 rfl (lv_at hl 0 rfl) ?_
        refine md_get (ci := 3) (C := RX3) (T := TX3) (N := 13) (v := .int (x.1 6)) hx hb hts hin hown hK hP rfl 12 (by decide) k_182 rfl rfl rfl dX3_doesOrder_54 ?_
        refine lv_if_eq (tgt := 64) hx hb dX3_doesOrder_57 (by decide) (fun c_4 => ?_) (fun c_4 => ?_)
        · refine lv_iconst (v := 0) hx hb dX3_doesOrder_64 (by decide) ?_
          refine go_v hD hS hA (rn_V (As := [.int (x.1 5), .int 0]) (rest := []) ⟨hx, hb, hml, hown, hts⟩ (ctX3_pianoComes l G cI cC cZ cR h x (x.1 5) 0 (by exact wd_p q_0 (by with_reducible assumption))) (cwV 2 hts gX3_doesOrder_X3_pianoComes rfl rfl rfl (by decide +kernel) ⟨Nat.le_of_ble_eq_true rfl, Nat.le_of_ble_eq_true rfl⟩) (md_recv hK hP rfl) hK hP hD hN rfl hl.1 rfl (Nat.le_of_ble_eq_true rfl) dX3_doesOrder_65) (fun H locs hP hD hS => ?_)
          refine lv_goto (tgt := 119) hx hb dX3_doesOrder_68 (by decide) ?_
          exact rt_s hx hb hr hlocks hP hD hS ((show pX3_doesOrder x = (pX3_pianoComes (x.1 5) 0 x) by rw [pX3_doesOrder, if_neg c_1, if_neg c_2, if_pos c_3, if_pos c_4]).symm.trans hres |>.symm) dX3_doesOrder_119
        · refine lv_iconst (v := 1) hx hb dX3_doesOrder_60 (by decide) ?_
          refine lv_goto (tgt := 65) hx hb dX3_doesOrder_61 (by decide) ?_
          refine go_v hD hS hA (rn_V (As := [.int (x.1 5), .int 1]) (rest := []) ⟨hx, hb, hml, hown, hts⟩ (ctX3_pianoComes l G cI cC cZ cR h x (x.1 5) 1 (by exact wd_p q_0 (by with_reducible assumption))) (cwV 2 hts gX3_doesOrder_X3_pianoComes rfl rfl rfl (by decide +kernel) ⟨Nat.le_of_ble_eq_true rfl, Nat.le_of_ble_eq_true rfl⟩) (md_recv hK hP rfl) hK hP hD hN rfl hl.1 rfl (Nat.le_of_ble_eq_true rfl) dX3_doesOrder_65) (fun H locs hP hD hS => ?_)
          refine lv_goto (tgt := 119) hx hb dX3_doesOrder_68 (by decide) ?_
          exact rt_s hx hb hr hlocks hP hD hS ((show pX3_doesOrder x = (pX3_pianoComes (x.1 5) 1 x) by rw [pX3_doesOrder, if_neg c_1, if_neg c_2, if_pos c_3, if_neg c_4]).symm.trans hres |>.symm) dX3_doesOrder_119
      · skip
        by_cases c_5 : (x.1 4) = 116
        · refine lv_lookup (tgt := 96) hx hb dX3_doesOrder_4 (by decide) (by rw [c_5]; first | done | rfl) (by decide) ?_
          refine lv_aload_n hx hb dX3_doesOrder_96 rfl (lv_at hl 0 rfl) ?_
          refine lv_aload_n hx hb dX3_doesOrder_97 rfl (lv_at hl 0 rfl) ?_
          refine md_get (ci := 3) (C := RX3) (T := TX3) (N := 13) (v := .int (x.1 5)) hx hb hts hin hown hK hP rfl 11 (by decide) k_173 rfl rfl rfl dX3_doesOrder_98 ?_
          refine go_i hD hS hA (rn_V (As := [.int (x.1 5)]) (rest := []) ⟨hx, hb, hml, hown, hts⟩ (ctX3_passes l G cI cC cZ cR h x (x.1 5) (by exact (wd_t q_0 (by with_reducible assumption)).1) (by exact (wd_t q_0 (by with_reducible assumption)).2) (by exact q_1.1)) (cwV 1 hts gX3_doesOrder_X3_passes rfl rfl rfl (by decide +kernel) ⟨Nat.le_of_ble_eq_true rfl, Nat.le_of_ble_eq_true rfl⟩) (md_recv hK hP rfl) hK hP hD hN rfl hl.1 rfl (Nat.le_of_ble_eq_true rfl) dX3_doesOrder_101) (fun H locs hP hD hS => ?_)
          refine lv_pop hx hb dX3_doesOrder_104 rfl ?_
          refine lv_goto (tgt := 119) hx hb dX3_doesOrder_105 (by decide) ?_
          exact rt_s hx hb hr hlocks hP hD hS ((show pX3_doesOrder x = (pX3_passes (x.1 5) x).2 by rw [pX3_doesOrder, if_neg c_1, if_neg c_2, if_neg c_3, if_pos c_5]).symm.trans hres |>.symm) dX3_doesOrder_119
        · skip
          refine lv_lookup (off := 104) (tgt := 108) hx hb dX3_doesOrder_4 (by decide) ((lv_osw (a := 99) c_1 (by decide)).trans ((lv_osw (a := 107) c_2 (by decide)).trans ((lv_osw (a := 112) c_3 (by decide)).trans ((lv_osw (a := 116) c_5 (by decide)).trans (rfl))))) (by decide) ?_
          refine lv_aload_n hx hb dX3_doesOrder_108 rfl (lv_at hl 0 rfl) ?_
          refine md_get (ci := 3) (C := RX3) (T := TX3) (N := 13) (v := .ref (h 1)) hx hb hts hin hown hK hP rfl 0 (by decide) k_7 rfl rfl rfl dX3_doesOrder_109 ?_
          refine lv_bipush (v := 8) hx hb dX3_doesOrder_112 (by decide) ?_
          refine lv_aload_n hx hb dX3_doesOrder_114 rfl (lv_at hl 0 rfl) ?_
          refine md_get (ci := 3) (C := RX3) (T := TX3) (N := 13) (v := .int (x.1 5)) hx hb hts hin hown hK hP rfl 11 (by decide) k_173 rfl rfl rfl dX3_doesOrder_115 ?_
          refine md_is hx hb hK hP hD hS 0 0 rfl rfl (vp_in_iff.mpr ⟨by decide, by decide⟩) dX3_doesOrder_118 (fun H locs hP hD hS => ?_)
          exact rt_s hx hb hr hlocks hP hD hS ((show pX3_doesOrder x = (pR x 0 8 (x.1 5)) by rw [pX3_doesOrder, if_neg c_1, if_neg c_2, if_neg c_3, if_neg c_5]).symm.trans hres |>.symm) dX3_doesOrder_119
theorem rec_ok1 {r : Int32} (h : ¬ r = 0) (h0 : 0 ≤ Int32.toInt r) (h6 : Int32.toInt r ≤ 6) : 0 ≤ Int32.toInt ((r - 1) * 109) ∧ Int32.toInt ((r - 1) * 109) + 109 ≤ ((654 : Nat) : Int) := by
  have hz : Int32.toInt r ≠ 0 := fun e => h (Int32.toInt_inj.mp (by rw [e]; rfl))
  have e : (r - 1).toInt = r.toInt - 1 := by
    rw [Int32.toInt_sub, show (1 : Int32).toInt = 1 from rfl, Int.bmod_eq_of_le] <;> omega
  refine rec_ok (fun z => ?_) (by omega) (by omega)
  rw [z, show (6 : Int32).toInt = 6 from rfl] at e
  omega
theorem slot_ok {a : Int32} (h : ¬ pX3_within a 0 1 = 0) : vp_in a 2 ∧ 0 ≤ Int32.toInt (109 * a) ∧ Int32.toInt (109 * a) + 109 ≤ ((218 : Nat) : Int) := by
  have h2 := within_in h
  rw [show Int32.toInt 0 = 0 from rfl, show Int32.toInt 1 = 1 from rfl] at h2
  have hv : vp_in a 2 := vp_in_iff.mpr ⟨by omega, by omega⟩
  refine ⟨hv, ?_⟩
  obtain ⟨j, hj, rfl⟩ := vp_in_of hv (by decide)
  rw [show (109 : Int32) = nI 109 from rfl, nI_mulN, nI_toInt (by omega)]
  omega
theorem cnt_in {a : Int32} (h : ¬ pX3_within a 10 16 = 0) : vp_in (a - 10) 109 := by
  have h2 := within_in h
  rw [show Int32.toInt 10 = 10 from rfl, show Int32.toInt 16 = 16 from rfl] at h2
  have e : (a - 10).toInt = a.toInt - 10 := by
    rw [Int32.toInt_sub, show (10 : Int32).toInt = 10 from rfl, Int.bmod_eq_of_le] <;> omega
  exact vp_in_iff.mpr ⟨by omega, by omega⟩
def pX3_undo (x : SR) : Int32 × SR := if (x.1 0) = 0 then (((-5) : Int32), x)
  else ((pX3_moves 2 (((x.1 0) - 1) * 109) 0 0 (pS x 0 ((x.1 0) - 1))).1 0, (pX3_moves 2 (((x.1 0) - 1) * 109) 0 0 (pS x 0 ((x.1 0) - 1))))
set_option maxHeartbeats 600000 in
set_option maxRecDepth 100000 in
theorem ctX3_undo (l : Launch) (G : va_G) (cI cC cZ cR : ClassId) (h : Ad) (x : SR) (q_0 : 0 ≤ Int32.toInt (x.1 0)) (q_1 : Int32.toInt (x.1 0) ≤ 6) : Ct l yX3_undo wsX3_undo (rmz 1 24) G (TY cI cC cZ cR) [.ref (h 0)] (wMo cI h x) (Qi G (wMo cI h x) (pX3_undo x).1 (wMo cI h (pX3_undo x).2)) := by
  refine Ct.ofI (cc := cX3_undo) (maxL := 1) (ret := (some .int)) (by decide) rfl rfl ?_
  intro p e s m below meth c A ls E0 hP hD hS hl
  obtain ⟨hx, hb, hr, hml, hlocks, hts, hown, hK, hN, hA⟩ := E0
  have hl : lv_has ls 1 [(0, .ref (h 0))] := hl
  have hin : ∀ w ∈ wsX30, w ∈ wsX3_undo := fun w hw => List.mem_cons_of_mem _ (List.mem_append_right _ (hw))
  have k_28 : (Cond.fieldLink RX3 28 RX3 (TX3 3).2.1 (TX3 3).2.2.1).before ([.ref (h 0)] : List Value).toArray s = true := hts _ (List.mem_of_getElem? (i := 1) rfl)
  have k_16 : (Cond.fieldLink RX3 16 RX3 (TX3 2).2.1 (TX3 2).2.2.1).before ([.ref (h 0)] : List Value).toArray s = true := hts _ (List.mem_of_getElem? (i := 2) rfl)
  have k_7 : (Cond.fieldLink RX3 7 RX3 (TX3 0).2.1 (TX3 0).2.2.1).before ([.ref (h 0)] : List Value).toArray s = true := hts _ (List.mem_of_getElem? (i := 3) rfl)
  generalize hres : pX3_undo x = res
  refine lv_aload_n hx hb dX3_undo_0 rfl (lv_at hl 0 rfl) ?_
  refine md_get (ci := 3) (C := RX3) (T := TX3) (N := 13) (v := .int (x.1 0)) hx hb hts hin hown hK hP rfl 3 (by decide) k_28 rfl rfl rfl dX3_undo_1 ?_
  refine lv_if_ne (tgt := 10) hx hb dX3_undo_4 (by decide) (fun c_1 => ?_) (fun c_1 => ?_)
  · refine lv_aload_n hx hb dX3_undo_10 rfl (lv_at hl 0 rfl) ?_
    refine lv_dup hx hb dX3_undo_11 rfl ?_
    refine md_get (ci := 3) (C := RX3) (T := TX3) (N := 13) (v := .int (x.1 0)) hx hb hts hin hown hK hP rfl 3 (by decide) k_28 rfl rfl rfl dX3_undo_12 ?_
    refine lv_iconst (v := 1) hx hb dX3_undo_15 (by decide) ?_
    refine lv_isub hx hb dX3_undo_16 ?_
    refine md_put (ci := 3) (C := RX3) (T := TX3) (N := 13) hx hb hts hin tyX3 tyX3_ok nmX3 hown hK hP hD hS rfl 3 (by decide) k_28 rfl rfl (q := 0) rfl (fu (by decide)) rfl rfl dX3_undo_17 (fun H locs hP hD hS => ?_)
    refine lv_aload_n hx hb dX3_undo_20 rfl (lv_at hl 0 rfl) ?_
    refine md_get (ci := 3) (C := RX3) (T := TX3) (N := 13) (v := .ref (h 3)) hx hb hts hin hown hK hP rfl 2 (by decide) k_16 rfl rfl rfl dX3_undo_21 ?_
    refine lv_aload_n hx hb dX3_undo_24 rfl (lv_at hl 0 rfl) ?_
    refine md_get (ci := 3) (C := RX3) (T := TX3) (N := 13) (v := .int ((x.1 0) - 1)) hx hb hts hin hown hK hP rfl 3 (by decide) k_28 rfl rfl rfl dX3_undo_25 ?_
    refine lv_bipush (v := 109) hx hb dX3_undo_28 (by decide) ?_
    refine lv_imul hx hb dX3_undo_30 ?_
    refine lv_aload_n hx hb dX3_undo_31 rfl (lv_at hl 0 rfl) ?_
    refine md_get (ci := 3) (C := RX3) (T := TX3) (N := 13) (v := .ref (h 1)) hx hb hts hin hown hK hP rfl 0 (by decide) k_7 rfl rfl rfl dX3_undo_32 ?_
    refine lv_iconst (v := 0) hx hb dX3_undo_35 (by decide) ?_
    refine go_v hD hS hA (rn_S (As := [.ref (h 3), .int (((x.1 0) - 1) * 109), .ref (h 1), .int 0]) (rest := []) ⟨hx, hb, hml, hown, hts⟩ (ctX3_moves l G cI cC cZ cR h (pS x 0 ((x.1 0) - 1)) 2 (((x.1 0) - 1) * 109) 0 0 654 109 (by rfl) (by rfl) (by exact (rec_ok1 (by with_reducible assumption) q_0 q_1).1) (by exact (rec_ok1 (by with_reducible assumption) q_0 q_1).2) (by decide) (by decide) (by decide) (by decide)) (va_cwS 4 hts gX3_undo_X3_moves rfl rfl rfl (by decide +kernel) ⟨Nat.le_of_ble_eq_true rfl, Nat.le_of_ble_eq_true rfl⟩) hK hP hD hN rfl hl.1 rfl (Nat.le_of_ble_eq_true rfl) dX3_undo_36) (fun H locs hP hD hS => ?_)
    refine lv_aload_n hx hb dX3_undo_39 rfl (lv_at hl 0 rfl) ?_
    refine md_get (ci := 3) (C := RX3) (T := TX3) (N := 13) (v := .int ((pX3_moves 2 (((x.1 0) - 1) * 109) 0 0 (pS x 0 ((x.1 0) - 1))).1 0)) hx hb hts hin hown hK hP rfl 3 (by decide) k_28 rfl rfl rfl dX3_undo_40 ?_
    exact rt_b hx hb hr hlocks hP hD hS rfl ((show pX3_undo x = ((pX3_moves 2 (((x.1 0) - 1) * 109) 0 0 (pS x 0 ((x.1 0) - 1))).1 0, (pX3_moves 2 (((x.1 0) - 1) * 109) 0 0 (pS x 0 ((x.1 0) - 1)))) by rw [pX3_undo, if_neg c_1]).symm.trans hres |>.symm) dX3_undo_43
  · refine lv_bipush (v := (-5)) hx hb dX3_undo_7 (by decide) ?_
    exact rt_b hx hb hr hlocks hP hD hS rfl ((show pX3_undo x = (((-5) : Int32), x) by rw [pX3_undo, if_pos c_1]).symm.trans hres |>.symm) dX3_undo_9
def pX3_save (a1 : Int32) (x : SR) : Int32 × SR := if (pX3_within a1 0 1) = 0 then (((-2) : Int32), x)
  else ((pX3_pianosThere (pR (pX3_moves 0 0 3 (109 * a1) x) 4 a1 1)), (pR (pX3_moves 0 0 3 (109 * a1) x) 4 a1 1))
set_option maxHeartbeats 600000 in
set_option maxRecDepth 100000 in
theorem ctX3_save (l : Launch) (G : va_G) (cI cC cZ cR : ClassId) (h : Ad) (x : SR) (a1 : Int32) : Ct l yX3_save wsX3_save (rmz 2 44) G (TY cI cC cZ cR) [.ref (h 0), .int a1] (wMo cI h x) (Qi G (wMo cI h x) (pX3_save a1 x).1 (wMo cI h (pX3_save a1 x).2)) := by
  refine Ct.ofI (cc := cX3_save) (maxL := 2) (ret := (some .int)) (by decide) rfl rfl ?_
  intro p e s m below meth c A ls E0 hP hD hS hl
  obtain ⟨hx, hb, hr, hml, hlocks, hts, hown, hK, hN, hA⟩ := E0
  have hl : lv_has ls 2 [(0, .ref (h 0)), (1, .int a1)] := hl
  have hin : ∀ w ∈ wsX30, w ∈ wsX3_save := fun w hw => List.mem_cons_of_mem _ (List.mem_append_right _ (hw))
  have k_7 : (Cond.fieldLink RX3 7 RX3 (TX3 0).2.1 (TX3 0).2.2.1).before ([.ref (h 0), .int a1] : List Value).toArray s = true := hts _ (List.mem_of_getElem? (i := 1) rfl)
  have k_19 : (Cond.fieldLink RX3 19 RX3 (TX3 4).2.1 (TX3 4).2.2.1).before ([.ref (h 0), .int a1] : List Value).toArray s = true := hts _ (List.mem_of_getElem? (i := 2) rfl)
  have k_22 : (Cond.fieldLink RX3 22 RX3 (TX3 5).2.1 (TX3 5).2.2.1).before ([.ref (h 0), .int a1] : List Value).toArray s = true := hts _ (List.mem_of_getElem? (i := 3) rfl)
  generalize hres : pX3_save a1 x = res
  refine lv_iload_n hx hb dX3_save_0 rfl (lv_at hl 1 rfl) ?_
  refine lv_iconst (v := 0) hx hb dX3_save_1 (by decide) ?_
  refine lv_iconst (v := 1) hx hb dX3_save_2 (by decide) ?_
  refine gn_i hP hS hA (rn_S (As := [.int a1, .int 0, .int 1]) (rest := []) ⟨hx, hb, hml, hown, hts⟩ (ctX3_within l G cI cC cZ cR a1 0 1) (va_cwS 3 hts gX3_save_X3_within rfl rfl rfl (by decide +kernel) ⟨Nat.le_of_ble_eq_true rfl, Nat.le_of_ble_eq_true rfl⟩) hK nilP (nilD (A := A)) hN rfl hl.1 rfl (Nat.le_of_ble_eq_true rfl) dX3_save_3) (fun H locs hP hS => ?_)
  refine lv_if_ne (tgt := 12) hx hb dX3_save_6 (by decide) (fun c_1 => ?_) (fun c_1 => ?_)
  · refine lv_aload_n hx hb dX3_save_12 rfl (lv_at hl 0 rfl) ?_
    refine md_get (ci := 3) (C := RX3) (T := TX3) (N := 13) (v := .ref (h 1)) hx hb hts hin hown hK hP rfl 0 (by decide) k_7 rfl rfl rfl dX3_save_13 ?_
    refine lv_iconst (v := 0) hx hb dX3_save_16 (by decide) ?_
    refine lv_aload_n hx hb dX3_save_17 rfl (lv_at hl 0 rfl) ?_
    refine md_get (ci := 3) (C := RX3) (T := TX3) (N := 13) (v := .ref (h 4)) hx hb hts hin hown hK hP rfl 4 (by decide) k_19 rfl rfl rfl dX3_save_18 ?_
    refine lv_bipush (v := 109) hx hb dX3_save_21 (by decide) ?_
    refine lv_iload_n hx hb dX3_save_23 rfl (lv_at hl 1 rfl) ?_
    refine lv_imul hx hb dX3_save_24 ?_
    refine go_v hD hS hA (rn_S (As := [.ref (h 1), .int 0, .ref (h 4), .int (109 * a1)]) (rest := []) ⟨hx, hb, hml, hown, hts⟩ (ctX3_moves l G cI cC cZ cR h x 0 0 3 (109 * a1) 109 218 (by rfl) (by rfl) (by decide) (by decide) (by exact (slot_ok (by with_reducible assumption)).2.1) (by exact (slot_ok (by with_reducible assumption)).2.2) (by decide) (by decide)) (va_cwS 4 hts gX3_save_X3_moves rfl rfl rfl (by decide +kernel) ⟨Nat.le_of_ble_eq_true rfl, Nat.le_of_ble_eq_true rfl⟩) hK hP hD hN rfl hl.1 rfl (Nat.le_of_ble_eq_true rfl) dX3_save_25) (fun H locs hP hD hS => ?_)
    refine lv_aload_n hx hb dX3_save_28 rfl (lv_at hl 0 rfl) ?_
    refine md_get (ci := 3) (C := RX3) (T := TX3) (N := 13) (v := .ref (h 5)) hx hb hts hin hown hK hP rfl 5 (by decide) k_22 rfl rfl rfl dX3_save_29 ?_
    refine lv_iload_n hx hb dX3_save_32 rfl (lv_at hl 1 rfl) ?_
    refine lv_iconst (v := 1) hx hb dX3_save_33 (by decide) ?_
    refine md_is hx hb hK hP hD hS 4 0 rfl rfl (by exact (slot_ok (by with_reducible assumption)).1) dX3_save_34 (fun H locs hP hD hS => ?_)
    refine lv_aload_n hx hb dX3_save_35 rfl (lv_at hl 0 rfl) ?_
    refine go_i hD hS hA (rn_V (As := []) (rest := []) ⟨hx, hb, hml, hown, hts⟩ (ctX3_pianosThere l G cI cC cZ cR h (pR (pX3_moves 0 0 3 (109 * a1) x) 4 a1 1)) (cwV 0 hts gX3_save_X3_pianosThere rfl rfl rfl (by decide +kernel) ⟨Nat.le_of_ble_eq_true rfl, Nat.le_of_ble_eq_true rfl⟩) (md_recv hK hP rfl) hK hP hD hN rfl hl.1 rfl (Nat.le_of_ble_eq_true rfl) dX3_save_36) (fun H locs hP hD hS => ?_)
    exact rt_b hx hb hr hlocks hP hD hS rfl ((show pX3_save a1 x = ((pX3_pianosThere (pR (pX3_moves 0 0 3 (109 * a1) x) 4 a1 1)), (pR (pX3_moves 0 0 3 (109 * a1) x) 4 a1 1)) by rw [pX3_save, if_neg c_1]).symm.trans hres |>.symm) dX3_save_39
  · refine lv_bipush (v := (-2)) hx hb dX3_save_9 (by decide) ?_
    exact rt_b hx hb hr hlocks hP hD hS rfl ((show pX3_save a1 x = (((-2) : Int32), x) by rw [pX3_save, if_pos c_1]).symm.trans hres |>.symm) dX3_save_11
def pX3_restore (a1 : Int32) (x : SR) : Int32 × SR := if (pX3_within a1 0 1) = 0 then (((-2) : Int32), x)
  else if (x.2 4 (ix a1)) = 0 then (((-5) : Int32), x)
    else ((pX3_pianosThere (pX3_moves 3 (109 * a1) 0 0 (pX3_record x))), (pX3_moves 3 (109 * a1) 0 0 (pX3_record x)))
set_option maxHeartbeats 600000 in
set_option maxRecDepth 100000 in
theorem ctX3_restore (l : Launch) (G : va_G) (cI cC cZ cR : ClassId) (h : Ad) (x : SR) (a1 : Int32) (q_0 : 0 ≤ Int32.toInt (x.1 0)) (q_1 : Int32.toInt (x.1 0) ≤ 6) : Ct l yX3_restore wsX3_restore (rmz 2 45) G (TY cI cC cZ cR) [.ref (h 0), .int a1] (wMo cI h x) (Qi G (wMo cI h x) (pX3_restore a1 x).1 (wMo cI h (pX3_restore a1 x).2)) := by
  refine Ct.ofI (cc := cX3_restore) (maxL := 2) (ret := (some .int)) (by decide) rfl rfl ?_
  intro p e s m below meth c A ls E0 hP hD hS hl
  obtain ⟨hx, hb, hr, hml, hlocks, hts, hown, hK, hN, hA⟩ := E0
  have hl : lv_has ls 2 [(0, .ref (h 0)), (1, .int a1)] := hl
  have hin : ∀ w ∈ wsX30, w ∈ wsX3_restore := fun w hw => List.mem_cons_of_mem _ (List.mem_append_right _ (hw))
  have k_22 : (Cond.fieldLink RX3 22 RX3 (TX3 5).2.1 (TX3 5).2.2.1).before ([.ref (h 0), .int a1] : List Value).toArray s = true := hts _ (List.mem_of_getElem? (i := 1) rfl)
  have k_19 : (Cond.fieldLink RX3 19 RX3 (TX3 4).2.1 (TX3 4).2.2.1).before ([.ref (h 0), .int a1] : List Value).toArray s = true := hts _ (List.mem_of_getElem? (i := 2) rfl)
  have k_7 : (Cond.fieldLink RX3 7 RX3 (TX3 0).2.1 (TX3 0).2.2.1).before ([.ref (h 0), .int a1] : List Value).toArray s = true := hts _ (List.mem_of_getElem? (i := 3) rfl)
  generalize hres : pX3_restore a1 x = res
  refine lv_iload_n hx hb dX3_restore_0 rfl (lv_at hl 1 rfl) ?_
  refine lv_iconst (v := 0) hx hb dX3_restore_1 (by decide) ?_
  refine lv_iconst (v := 1) hx hb dX3_restore_2 (by decide) ?_
  refine gn_i hP hS hA (rn_S (As := [.int a1, .int 0, .int 1]) (rest := []) ⟨hx, hb, hml, hown, hts⟩ (ctX3_within l G cI cC cZ cR a1 0 1) (va_cwS 3 hts gX3_restore_X3_within rfl rfl rfl (by decide +kernel) ⟨Nat.le_of_ble_eq_true rfl, Nat.le_of_ble_eq_true rfl⟩) hK nilP (nilD (A := A)) hN rfl hl.1 rfl (Nat.le_of_ble_eq_true rfl) dX3_restore_3) (fun H locs hP hS => ?_)
  refine lv_if_ne (tgt := 12) hx hb dX3_restore_6 (by decide) (fun c_1 => ?_) (fun c_1 => ?_)
  · refine lv_aload_n hx hb dX3_restore_12 rfl (lv_at hl 0 rfl) ?_
    refine md_get (ci := 3) (C := RX3) (T := TX3) (N := 13) (v := .ref (h 5)) hx hb hts hin hown hK hP rfl 5 (by decide) k_22 rfl rfl rfl dX3_restore_13 ?_
    refine lv_iload_n hx hb dX3_restore_16 rfl (lv_at hl 1 rfl) ?_
    refine md_ia (v := x.2 4 (ix a1)) hx hb hK hP 4 0 rfl rfl (by exact (slot_ok (by with_reducible assumption)).1) rfl dX3_restore_17 ?_
    refine lv_if_ne (tgt := 24) hx hb dX3_restore_18 (by decide) (fun c_2 => ?_) (fun c_2 => ?_)
    · refine lv_aload_n hx hb dX3_restore_24 rfl (lv_at hl 0 rfl) ?_
      refine go_v hD hS hA (rn_V (As := []) (rest := []) ⟨hx, hb, hml, hown, hts⟩ (ctX3_record l G cI cC cZ cR h x (by first | with_reducible assumption | exact vp_in_iff.mpr ⟨by decide, by decide⟩ | exact vp_in_iff.mpr ⟨by omega, by omega⟩ | exact isPlace_in (by with_reducible assumption) | exact has_in (by with_reducible assumption) | exact isPlace3_in (by with_reducible assumption) | exact isPiano_in (by with_reducible assumption) | exact isOpen_in (by with_reducible assumption) | exact nearest3_in (by with_reducible assumption)) (by first | with_reducible assumption | exact vp_in_iff.mpr ⟨by decide, by decide⟩ | exact vp_in_iff.mpr ⟨by omega, by omega⟩ | exact isPlace_in (by with_reducible assumption) | exact has_in (by with_reducible assumption) | exact isPlace3_in (by with_reducible assumption) | exact isPiano_in (by with_reducible assumption) | exact isOpen_in (by with_reducible assumption) | exact nearest3_in (by with_reducible assumption))) (cwV 0 hts gX3_restore_X3_record rfl rfl rfl (by decide +kernel) ⟨Nat.le_of_ble_eq_true rfl, Nat.le_of_ble_eq_true rfl⟩) (md_recv hK hP rfl) hK hP hD hN rfl hl.1 rfl (Nat.le_of_ble_eq_true rfl) dX3_restore_25) (fun H locs hP hD hS => ?_)
      refine lv_aload_n hx hb dX3_restore_28 rfl (lv_at hl 0 rfl) ?_
      refine md_get (ci := 3) (C := RX3) (T := TX3) (N := 13) (v := .ref (h 4)) hx hb hts hin hown hK hP rfl 4 (by decide) k_19 rfl rfl rfl dX3_restore_29 ?_
      refine lv_bipush (v := 109) hx hb dX3_restore_32 (by decide) ?_
      refine lv_iload_n hx hb dX3_restore_34 rfl (lv_at hl 1 rfl) ?_
      refine lv_imul hx hb dX3_restore_35 ?_
      refine lv_aload_n hx hb dX3_restore_36 rfl (lv_at hl 0 rfl) ?_
      refine md_get (ci := 3) (C := RX3) (T := TX3) (N := 13) (v := .ref (h 1)) hx hb hts hin hown hK hP rfl 0 (by decide) k_7 rfl rfl rfl dX3_restore_37 ?_
      refine lv_iconst (v := 0) hx hb dX3_restore_40 (by decide) ?_
      refine go_v hD hS hA (rn_S (As := [.ref (h 4), .int (109 * a1), .ref (h 1), .int 0]) (rest := []) ⟨hx, hb, hml, hown, hts⟩ (ctX3_moves l G cI cC cZ cR h (pX3_record x) 3 (109 * a1) 0 0 218 109 (by rfl) (by rfl) (by exact (slot_ok (by with_reducible assumption)).2.1) (by exact (slot_ok (by with_reducible assumption)).2.2) (by decide) (by decide) (by decide) (by decide)) (va_cwS 4 hts gX3_restore_X3_moves rfl rfl rfl (by decide +kernel) ⟨Nat.le_of_ble_eq_true rfl, Nat.le_of_ble_eq_true rfl⟩) hK hP hD hN rfl hl.1 rfl (Nat.le_of_ble_eq_true rfl) dX3_restore_41) (fun H locs hP hD hS => ?_)
      refine lv_aload_n hx hb dX3_restore_44 rfl (lv_at hl 0 rfl) ?_
      refine go_i hD hS hA (rn_V (As := []) (rest := []) ⟨hx, hb, hml, hown, hts⟩ (ctX3_pianosThere l G cI cC cZ cR h (pX3_moves 3 (109 * a1) 0 0 (pX3_record x))) (cwV 0 hts gX3_restore_X3_pianosThere rfl rfl rfl (by decide +kernel) ⟨Nat.le_of_ble_eq_true rfl, Nat.le_of_ble_eq_true rfl⟩) (md_recv hK hP rfl) hK hP hD hN rfl hl.1 rfl (Nat.le_of_ble_eq_true rfl) dX3_restore_45) (fun H locs hP hD hS => ?_)
      exact rt_b hx hb hr hlocks hP hD hS rfl ((show pX3_restore a1 x = ((pX3_pianosThere (pX3_moves 3 (109 * a1) 0 0 (pX3_record x))), (pX3_moves 3 (109 * a1) 0 0 (pX3_record x))) by rw [pX3_restore, if_neg c_1, if_neg c_2]).symm.trans hres |>.symm) dX3_restore_48
    · refine lv_bipush (v := (-5)) hx hb dX3_restore_21 (by decide) ?_
      exact rt_b hx hb hr hlocks hP hD hS rfl ((show pX3_restore a1 x = (((-5) : Int32), x) by rw [pX3_restore, if_neg c_1, if_pos c_2]).symm.trans hres |>.symm) dX3_restore_23
  · refine lv_bipush (v := (-2)) hx hb dX3_restore_9 (by decide) ?_
    exact rt_b hx hb hr hlocks hP hD hS rfl ((show pX3_restore a1 x = (((-2) : Int32), x) by rw [pX3_restore, if_pos c_1]).symm.trans hres |>.symm) dX3_restore_11
def pX3_count (a1 : Int32) (x : SR) : Int32 := if (pX3_within a1 10 16) = 0 then if a1 = 0 then x.2 0 (ix 7)
    else if a1 = 1 then (pX3_pianosWith 0 x)
      else if a1 = 2 then (pX3_pianosWith 2 x)
        else if a1 = 3 then (pX3_pianosWith 1 x)
          else if a1 = 4 then x.2 0 (ix 11)
            else if a1 = 5 then x.2 0 (ix 9)
              else if a1 = 6 then x.2 0 (ix 10)
                else if a1 = 7 then x.2 0 (ix 8)
                  else if a1 = 8 then if (pX3_isRainAhead x) = 0 then 0
                      else 1
                    else if a1 = 9 then if (pX3_rainsIn 0 x) = 0 then 0
                        else 1
                      else if a1 = 10 then (-2)
                        else if a1 = 11 then (-2)
                          else if a1 = 12 then (-2)
                            else if a1 = 13 then (-2)
                              else if a1 = 14 then (-2)
                                else if a1 = 15 then (-2)
                                  else if a1 = 16 then (-2)
                                    else if a1 = 17 then x.1 1
                                      else if a1 = 18 then x.1 0
                                        else (-2)
  else x.2 0 (ix (a1 - 10))
set_option maxHeartbeats 600000 in
set_option maxRecDepth 100000 in
theorem ctX3_count (l : Launch) (G : va_G) (cI cC cZ cR : ClassId) (h : Ad) (x : SR) (a1 : Int32) (q_0 : Mf (x.2 0)) : Ct l yX3_count wsX3_count (rmz 4 86) G (TY cI cC cZ cR) [.ref (h 0), .int a1] (wMo cI h x) (Qi G (wMo cI h x) (pX3_count a1 x) (wMo cI h x)) := by
  refine Ct.ofI (cc := cX3_count) (maxL := 2) (ret := (some .int)) (by decide) rfl rfl ?_
  intro p e s m below meth c A ls E0 hP hD hS hl
  obtain ⟨hx, hb, hr, hml, hlocks, hts, hown, hK, hN, hA⟩ := E0
  have hl : lv_has ls 2 [(0, .ref (h 0)), (1, .int a1)] := hl
  have hin : ∀ w ∈ wsX30, w ∈ wsX3_count := fun w hw => List.mem_cons_of_mem _ (List.mem_append_right _ (hw))
  have k_7 : (Cond.fieldLink RX3 7 RX3 (TX3 0).2.1 (TX3 0).2.2.1).before ([.ref (h 0), .int a1] : List Value).toArray s = true := hts _ (List.mem_of_getElem? (i := 1) rfl)
  have k_153 : (Cond.fieldLink RX3 153 RX3 (TX3 7).2.1 (TX3 7).2.2.1).before ([.ref (h 0), .int a1] : List Value).toArray s = true := hts _ (List.mem_of_getElem? (i := 2) rfl)
  have k_28 : (Cond.fieldLink RX3 28 RX3 (TX3 3).2.1 (TX3 3).2.2.1).before ([.ref (h 0), .int a1] : List Value).toArray s = true := hts _ (List.mem_of_getElem? (i := 3) rfl)
  generalize hres : pX3_count a1 x = res
  refine lv_iload_n hx hb dX3_count_0 rfl (lv_at hl 1 rfl) ?_
  refine lv_bipush (v := 10) hx hb dX3_count_1 (by decide) ?_
  refine lv_bipush (v := 16) hx hb dX3_count_3 (by decide) ?_
  refine gn_i hP hS hA (rn_S (As := [.int a1, .int 10, .int 16]) (rest := []) ⟨hx, hb, hml, hown, hts⟩ (ctX3_within l G cI cC cZ cR a1 10 16) (va_cwS 3 hts gX3_count_X3_within rfl rfl rfl (by decide +kernel) ⟨Nat.le_of_ble_eq_true rfl, Nat.le_of_ble_eq_true rfl⟩) hK nilP (nilD (A := A)) hN rfl hl.1 rfl (Nat.le_of_ble_eq_true rfl) dX3_count_5) (fun H locs hP hS => ?_)
  refine lv_if_eq (tgt := 21) hx hb dX3_count_8 (by decide) (fun c_1 => ?_) (fun c_1 => ?_)
  · refine lv_iload_n hx hb dX3_count_21 rfl (lv_at hl 1 rfl) ?_
    by_cases c_2 : a1 = 0
    · refine lv_tableIn (tgt := 112) hx hb dX3_count_22 (by rw [c_2]; decide) (by rw [c_2]; decide) (by rw [c_2]; first | done | rfl) (by decide) ?_
      refine lv_aload_n hx hb dX3_count_112 rfl (lv_at hl 0 rfl) ?_
      refine md_get (ci := 3) (C := RX3) (T := TX3) (N := 13) (v := .ref (h 1)) hx hb hts hin hown hK hP rfl 0 (by decide) k_7 rfl rfl rfl dX3_count_113 ?_
      refine lv_bipush (v := 7) hx hb dX3_count_116 (by decide) ?_
      refine md_ia (v := x.2 0 (ix 7)) hx hb hK hP 0 0 rfl rfl (vp_in_iff.mpr ⟨by decide, by decide⟩) rfl dX3_count_118 ?_
      exact rt_r hx hb hr hlocks hP hD hS rfl ((show pX3_count a1 x = x.2 0 (ix 7) by rw [pX3_count, if_pos c_1, if_pos c_2]).symm.trans hres |>.symm) dX3_count_119
    · skip
      by_cases c_3 : a1 = 1
      · refine lv_tableIn (tgt := 120) hx hb dX3_count_22 (by rw [c_3]; decide) (by rw [c_3]; decide) (by rw [c_3]; first | done | rfl) (by decide) ?_
        refine lv_aload_n hx hb dX3_count_120 rfl (lv_at hl 0 rfl) ?_
        refine lv_iconst (v := 0) hx hb dX3_count_121 (by decide) ?_
        refine go_i hD hS hA (rn_V (As := [.int 0]) (rest := []) ⟨hx, hb, hml, hown, hts⟩ (ctX3_pianosWith l G cI cC cZ cR h x 0) (cwV 1 hts gX3_count_X3_pianosWith rfl rfl rfl (by decide +kernel) ⟨Nat.le_of_ble_eq_true rfl, Nat.le_of_ble_eq_true rfl⟩) (md_recv hK hP rfl) hK hP hD hN rfl hl.1 rfl (Nat.le_of_ble_eq_true rfl) dX3_count_122) (fun H locs hP hD hS => ?_)
        exact rt_r hx hb hr hlocks hP hD hS rfl ((show pX3_count a1 x = (pX3_pianosWith 0 x) by rw [pX3_count, if_pos c_1, if_neg c_2, if_pos c_3]).symm.trans hres |>.symm) dX3_count_125
      · skip
        by_cases c_4 : a1 = 2
        · refine lv_tableIn (tgt := 126) hx hb dX3_count_22 (by rw [c_4]; decide) (by rw [c_4]; decide) (by rw [c_4]; first | done | rfl) (by decide) ?_
          refine lv_aload_n hx hb dX3_count_126 rfl (lv_at hl 0 rfl) ?_
          refine lv_iconst (v := 2) hx hb dX3_count_127 (by decide) ?_
          refine go_i hD hS hA (rn_V (As := [.int 2]) (rest := []) ⟨hx, hb, hml, hown, hts⟩ (ctX3_pianosWith l G cI cC cZ cR h x 2) (cwV 1 hts gX3_count_X3_pianosWith rfl rfl rfl (by decide +kernel) ⟨Nat.le_of_ble_eq_true rfl, Nat.le_of_ble_eq_true rfl⟩) (md_recv hK hP rfl) hK hP hD hN rfl hl.1 rfl (Nat.le_of_ble_eq_true rfl) dX3_count_128) (fun H locs hP hD hS => ?_)
          exact rt_r hx hb hr hlocks hP hD hS rfl ((show pX3_count a1 x = (pX3_pianosWith 2 x) by rw [pX3_count, if_pos c_1, if_neg c_2, if_neg c_3, if_pos c_4]).symm.trans hres |>.symm) dX3_count_131
        · skip
          by_cases c_5 : a1 = 3
          · refine lv_tableIn (tgt := 132) hx hb dX3_count_22 (by rw [c_5]; decide) (by rw [c_5]; decide) (by rw [c_5]; first | done | rfl) (by decide) ?_
            refine lv_aload_n hx hb dX3_count_132 rfl (lv_at hl 0 rfl) ?_
            refine lv_iconst (v := 1) hx hb dX3_count_133 (by decide) ?_
            refine go_i hD hS hA (rn_V (As := [.int 1]) (rest := []) ⟨hx, hb, hml, hown, hts⟩ (ctX3_pianosWith l G cI cC cZ cR h x 1) (cwV 1 hts gX3_count_X3_pianosWith rfl rfl rfl (by decide +kernel) ⟨Nat.le_of_ble_eq_true rfl, Nat.le_of_ble_eq_true rfl⟩) (md_recv hK hP rfl) hK hP hD hN rfl hl.1 rfl (Nat.le_of_ble_eq_true rfl) dX3_count_134) (fun H locs hP hD hS => ?_)
            exact rt_r hx hb hr hlocks hP hD hS rfl ((show pX3_count a1 x = (pX3_pianosWith 1 x) by rw [pX3_count, if_pos c_1, if_neg c_2, if_neg c_3, if_neg c_4, if_pos c_5]).symm.trans hres |>.symm) dX3_count_137
          · skip
            by_cases c_6 : a1 = 4
            · refine lv_tableIn (tgt := 138) hx hb dX3_count_22 (by rw [c_6]; decide) (by rw [c_6]; decide) (by rw [c_6]; first | done | rfl) (by decide) ?_
              refine lv_aload_n hx hb dX3_count_138 rfl (lv_at hl 0 rfl) ?_
              refine md_get (ci := 3) (C := RX3) (T := TX3) (N := 13) (v := .ref (h 1)) hx hb hts hin hown hK hP rfl 0 (by decide) k_7 rfl rfl rfl dX3_count_139 ?_
              refine lv_bipush (v := 11) hx hb dX3_count_142 (by decide) ?_
              refine md_ia (v := x.2 0 (ix 11)) hx hb hK hP 0 0 rfl rfl (vp_in_iff.mpr ⟨by decide, by decide⟩) rfl dX3_count_144 ?_
              exact rt_r hx hb hr hlocks hP hD hS rfl ((show pX3_count a1 x = x.2 0 (ix 11) by rw [pX3_count, if_pos c_1, if_neg c_2, if_neg c_3, if_neg c_4, if_neg c_5, if_pos c_6]).symm.trans hres |>.symm) dX3_count_145
            · skip
              by_cases c_7 : a1 = 5
              · refine lv_tableIn (tgt := 146) hx hb dX3_count_22 (by rw [c_7]; decide) (by rw [c_7]; decide) (by rw [c_7]; first | done | rfl) (by decide) ?_
                refine lv_aload_n hx hb dX3_count_146 rfl (lv_at hl 0 rfl) ?_
                refine md_get (ci := 3) (C := RX3) (T := TX3) (N := 13) (v := .ref (h 1)) hx hb hts hin hown hK hP rfl 0 (by decide) k_7 rfl rfl rfl dX3_count_147 ?_
                refine lv_bipush (v := 9) hx hb dX3_count_150 (by decide) ?_
                refine md_ia (v := x.2 0 (ix 9)) hx hb hK hP 0 0 rfl rfl (vp_in_iff.mpr ⟨by decide, by decide⟩) rfl dX3_count_152 ?_
                exact rt_r hx hb hr hlocks hP hD hS rfl ((show pX3_count a1 x = x.2 0 (ix 9) by rw [pX3_count, if_pos c_1, if_neg c_2, if_neg c_3, if_neg c_4, if_neg c_5, if_neg c_6, if_pos c_7]).symm.trans hres |>.symm) dX3_count_153
              · skip
                by_cases c_8 : a1 = 6
                · refine lv_tableIn (tgt := 154) hx hb dX3_count_22 (by rw [c_8]; decide) (by rw [c_8]; decide) (by rw [c_8]; first | done | rfl) (by decide) ?_
                  refine lv_aload_n hx hb dX3_count_154 rfl (lv_at hl 0 rfl) ?_
                  refine md_get (ci := 3) (C := RX3) (T := TX3) (N := 13) (v := .ref (h 1)) hx hb hts hin hown hK hP rfl 0 (by decide) k_7 rfl rfl rfl dX3_count_155 ?_
                  refine lv_bipush (v := 10) hx hb dX3_count_158 (by decide) ?_
                  refine md_ia (v := x.2 0 (ix 10)) hx hb hK hP 0 0 rfl rfl (vp_in_iff.mpr ⟨by decide, by decide⟩) rfl dX3_count_160 ?_
                  exact rt_r hx hb hr hlocks hP hD hS rfl ((show pX3_count a1 x = x.2 0 (ix 10) by rw [pX3_count, if_pos c_1, if_neg c_2, if_neg c_3, if_neg c_4, if_neg c_5, if_neg c_6, if_neg c_7, if_pos c_8]).symm.trans hres |>.symm) dX3_count_161
                · skip
                  by_cases c_9 : a1 = 7
                  · refine lv_tableIn (tgt := 162) hx hb dX3_count_22 (by rw [c_9]; decide) (by rw [c_9]; decide) (by rw [c_9]; first | done | rfl) (by decide) ?_
                    refine lv_aload_n hx hb dX3_count_162 rfl (lv_at hl 0 rfl) ?_
                    refine md_get (ci := 3) (C := RX3) (T := TX3) (N := 13) (v := .ref (h 1)) hx hb hts hin hown hK hP rfl 0 (by decide) k_7 rfl rfl rfl dX3_count_163 ?_
                    refine lv_bipush (v := 8) hx hb dX3_count_166 (by decide) ?_
                    refine md_ia (v := x.2 0 (ix 8)) hx hb hK hP 0 0 rfl rfl (vp_in_iff.mpr ⟨by decide, by decide⟩) rfl dX3_count_168 ?_
                    exact rt_r hx hb hr hlocks hP hD hS rfl ((show pX3_count a1 x = x.2 0 (ix 8) by rw [pX3_count, if_pos c_1, if_neg c_2, if_neg c_3, if_neg c_4, if_neg c_5, if_neg c_6, if_neg c_7, if_neg c_8, if_pos c_9]).symm.trans hres |>.symm) dX3_count_169
                  · skip
                    by_cases c_10 : a1 = 8
                    · refine lv_tableIn (tgt := 170) hx hb dX3_count_22 (by rw [c_10]; decide) (by rw [c_10]; decide) (by rw [c_10]; first | done | rfl) (by decide) ?_
                      refine lv_aload_n hx hb dX3_count_170 rfl (lv_at hl 0 rfl) ?_
                      refine go_i hD hS hA (rn_V (As := []) (rest := []) ⟨hx, hb, hml, hown, hts⟩ (ctX3_isRainAhead l G cI cC cZ cR h x (by exact q_0.1.1)) (cwV 0 hts gX3_count_X3_isRainAhead rfl rfl rfl (by decide +kernel) ⟨Nat.le_of_ble_eq_true rfl, Nat.le_of_ble_eq_true rfl⟩) (md_recv hK hP rfl) hK hP hD hN rfl hl.1 rfl (Nat.le_of_ble_eq_true rfl) dX3_count_171) (fun H locs hP hD hS => ?_)
                      refine lv_if_eq (tgt := 181) hx hb dX3_count_174 (by decide) (fun c_11 => ?_) (fun c_11 => ?_)
                      · refine lv_iconst (v := 0) hx hb dX3_count_181 (by decide) ?_
                        exact rt_r hx hb hr hlocks hP hD hS rfl ((show pX3_count a1 x = 0 by rw [pX3_count, if_pos c_1, if_neg c_2, if_neg c_3, if_neg c_4, if_neg c_5, if_neg c_6, if_neg c_7, if_neg c_8, if_neg c_9, if_pos c_10, if_pos c_11]).symm.trans hres |>.symm) dX3_count_182
                      · refine lv_iconst (v := 1) hx hb dX3_count_177 (by decide) ?_
                        refine lv_goto (tgt := 182) hx hb dX3_count_178 (by decide) ?_
                        exact rt_r hx hb hr hlocks hP hD hS rfl ((show pX3_count a1 x = 1 by rw [pX3_count, if_pos c_1, if_neg c_2, if_neg c_3, if_neg c_4, if_neg c_5, if_neg c_6, if_neg c_7, if_neg c_8, if_neg c_9, if_pos c_10, if_neg c_11]).symm.trans hres |>.symm) dX3_count_182
                    · skip
                      by_cases c_12 : a1 = 9
                      · refine lv_tableIn (tgt := 183) hx hb dX3_count_22 (by rw [c_12]; decide) (by rw [c_12]; decide) (by rw [c_12]; first | done | rfl) (by decide) ?_
                        refine lv_aload_n hx hb dX3_count_183 rfl (lv_at hl 0 rfl) ?_
                        refine lv_iconst (v := 0) hx hb dX3_count_184 (by decide) ?_
                        refine go_i hD hS hA (rn_V (As := [.int 0]) (rest := []) ⟨hx, hb, hml, hown, hts⟩ (ctX3_rainsIn l G cI cC cZ cR h x 0) (cwV 1 hts gX3_count_X3_rainsIn rfl rfl rfl (by decide +kernel) ⟨Nat.le_of_ble_eq_true rfl, Nat.le_of_ble_eq_true rfl⟩) (md_recv hK hP rfl) hK hP hD hN rfl hl.1 rfl (Nat.le_of_ble_eq_true rfl) dX3_count_185) (fun H locs hP hD hS => ?_)
                        refine lv_if_eq (tgt := 195) hx hb dX3_count_188 (by decide) (fun c_13 => ?_) (fun c_13 => ?_)
                        · refine lv_iconst (v := 0) hx hb dX3_count_195 (by decide) ?_
                          exact rt_r hx hb hr hlocks hP hD hS rfl ((show pX3_count a1 x = 0 by rw [pX3_count, if_pos c_1, if_neg c_2, if_neg c_3, if_neg c_4, if_neg c_5, if_neg c_6, if_neg c_7, if_neg c_8, if_neg c_9, if_neg c_10, if_pos c_12, if_pos c_13]).symm.trans hres |>.symm) dX3_count_196
                        · refine lv_iconst (v := 1) hx hb dX3_count_191 (by decide) ?_
                          refine lv_goto (tgt := 196) hx hb dX3_count_192 (by decide) ?_
                          exact rt_r hx hb hr hlocks hP hD hS rfl ((show pX3_count a1 x = 1 by rw [pX3_count, if_pos c_1, if_neg c_2, if_neg c_3, if_neg c_4, if_neg c_5, if_neg c_6, if_neg c_7, if_neg c_8, if_neg c_9, if_neg c_10, if_pos c_12, if_neg c_13]).symm.trans hres |>.symm) dX3_count_196
                      · skip
                        by_cases c_14 : a1 = 10
                        · refine lv_tableIn (tgt := 207) hx hb dX3_count_22 (by rw [c_14]; decide) (by rw [c_14]; decide) (by rw [c_14]; first | done | rfl) (by decide) ?_
                          refine lv_bipush (v := (-2)) hx hb dX3_count_207 (by decide) ?_
                          exact rt_r hx hb hr hlocks hP hD hS rfl ((show pX3_count a1 x = (-2) by rw [pX3_count, if_pos c_1, if_neg c_2, if_neg c_3, if_neg c_4, if_neg c_5, if_neg c_6, if_neg c_7, if_neg c_8, if_neg c_9, if_neg c_10, if_neg c_12, if_pos c_14]).symm.trans hres |>.symm) dX3_count_209
                        · skip
                          by_cases c_15 : a1 = 11
                          · refine lv_tableIn (tgt := 207) hx hb dX3_count_22 (by rw [c_15]; decide) (by rw [c_15]; decide) (by rw [c_15]; first | done | rfl) (by decide) ?_
                            refine lv_bipush (v := (-2)) hx hb dX3_count_207 (by decide) ?_
                            exact rt_r hx hb hr hlocks hP hD hS rfl ((show pX3_count a1 x = (-2) by rw [pX3_count, if_pos c_1, if_neg c_2, if_neg c_3, if_neg c_4, if_neg c_5, if_neg c_6, if_neg c_7, if_neg c_8, if_neg c_9, if_neg c_10, if_neg c_12, if_neg c_14, if_pos c_15]).symm.trans hres |>.symm) dX3_count_209
                          · skip
                            by_cases c_16 : a1 = 12
                            · refine lv_tableIn (tgt := 207) hx hb dX3_count_22 (by rw [c_16]; decide) (by rw [c_16]; decide) (by rw [c_16]; first | done | rfl) (by decide) ?_
                              refine lv_bipush (v := (-2)) hx hb dX3_count_207 (by decide) ?_
                              exact rt_r hx hb hr hlocks hP hD hS rfl ((show pX3_count a1 x = (-2) by rw [pX3_count, if_pos c_1, if_neg c_2, if_neg c_3, if_neg c_4, if_neg c_5, if_neg c_6, if_neg c_7, if_neg c_8, if_neg c_9, if_neg c_10, if_neg c_12, if_neg c_14, if_neg c_15, if_pos c_16]).symm.trans hres |>.symm) dX3_count_209
                            · skip
                              by_cases c_17 : a1 = 13
                              · refine lv_tableIn (tgt := 207) hx hb dX3_count_22 (by rw [c_17]; decide) (by rw [c_17]; decide) (by rw [c_17]; first | done | rfl) (by decide) ?_
                                refine lv_bipush (v := (-2)) hx hb dX3_count_207 (by decide) ?_
                                exact rt_r hx hb hr hlocks hP hD hS rfl ((show pX3_count a1 x = (-2) by rw [pX3_count, if_pos c_1, if_neg c_2, if_neg c_3, if_neg c_4, if_neg c_5, if_neg c_6, if_neg c_7, if_neg c_8, if_neg c_9, if_neg c_10, if_neg c_12, if_neg c_14, if_neg c_15, if_neg c_16, if_pos c_17]).symm.trans hres |>.symm) dX3_count_209
                              · skip
                                by_cases c_18 : a1 = 14
                                · refine lv_tableIn (tgt := 207) hx hb dX3_count_22 (by rw [c_18]; decide) (by rw [c_18]; decide) (by rw [c_18]; first | done | rfl) (by decide) ?_
                                  refine lv_bipush (v := (-2)) hx hb dX3_count_207 (by decide) ?_
                                  exact rt_r hx hb hr hlocks hP hD hS rfl ((show pX3_count a1 x = (-2) by rw [pX3_count, if_pos c_1, if_neg c_2, if_neg c_3, if_neg c_4, if_neg c_5, if_neg c_6, if_neg c_7, if_neg c_8, if_neg c_9, if_neg c_10, if_neg c_12, if_neg c_14, if_neg c_15, if_neg c_16, if_neg c_17, if_pos c_18]).symm.trans hres |>.symm) dX3_count_209
                                · skip
                                  by_cases c_19 : a1 = 15
                                  · refine lv_tableIn (tgt := 207) hx hb dX3_count_22 (by rw [c_19]; decide) (by rw [c_19]; decide) (by rw [c_19]; first | done | rfl) (by decide) ?_
                                    refine lv_bipush (v := (-2)) hx hb dX3_count_207 (by decide) ?_
                                    exact rt_r hx hb hr hlocks hP hD hS rfl ((show pX3_count a1 x = (-2) by rw [pX3_count, if_pos c_1, if_neg c_2, if_neg c_3, if_neg c_4, if_neg c_5, if_neg c_6, if_neg c_7, if_neg c_8, if_neg c_9, if_neg c_10, if_neg c_12, if_neg c_14, if_neg c_15, if_neg c_16, if_neg c_17, if_neg c_18, if_pos c_19]).symm.trans hres |>.symm) dX3_count_209
                                  · skip
                                    by_cases c_20 : a1 = 16
                                    · refine lv_tableIn (tgt := 207) hx hb dX3_count_22 (by rw [c_20]; decide) (by rw [c_20]; decide) (by rw [c_20]; first | done | rfl) (by decide) ?_
                                      refine lv_bipush (v := (-2)) hx hb dX3_count_207 (by decide) ?_
                                      exact rt_r hx hb hr hlocks hP hD hS rfl ((show pX3_count a1 x = (-2) by rw [pX3_count, if_pos c_1, if_neg c_2, if_neg c_3, if_neg c_4, if_neg c_5, if_neg c_6, if_neg c_7, if_neg c_8, if_neg c_9, if_neg c_10, if_neg c_12, if_neg c_14, if_neg c_15, if_neg c_16, if_neg c_17, if_neg c_18, if_neg c_19, if_pos c_20]).symm.trans hres |>.symm) dX3_count_209
                                    · skip
                                      by_cases c_21 : a1 = 17
                                      · refine lv_tableIn (tgt := 197) hx hb dX3_count_22 (by rw [c_21]; decide) (by rw [c_21]; decide) (by rw [c_21]; first | done | rfl) (by decide) ?_
                                        refine lv_aload_n hx hb dX3_count_197 rfl (lv_at hl 0 rfl) ?_
                                        refine md_get (ci := 3) (C := RX3) (T := TX3) (N := 13) (v := .int (x.1 1)) hx hb hts hin hown hK hP rfl 7 (by decide) k_153 rfl rfl rfl dX3_count_198 ?_
                                        exact rt_r hx hb hr hlocks hP hD hS rfl ((show pX3_count a1 x = x.1 1 by rw [pX3_count, if_pos c_1, if_neg c_2, if_neg c_3, if_neg c_4, if_neg c_5, if_neg c_6, if_neg c_7, if_neg c_8, if_neg c_9, if_neg c_10, if_neg c_12, if_neg c_14, if_neg c_15, if_neg c_16, if_neg c_17, if_neg c_18, if_neg c_19, if_neg c_20, if_pos c_21]).symm.trans hres |>.symm) dX3_count_201
                                      · skip
                                        by_cases c_22 : a1 = 18
                                        · refine lv_tableIn (tgt := 202) hx hb dX3_count_22 (by rw [c_22]; decide) (by rw [c_22]; decide) (by rw [c_22]; first | done | rfl) (by decide) ?_
                                          refine lv_aload_n hx hb dX3_count_202 rfl (lv_at hl 0 rfl) ?_
                                          refine md_get (ci := 3) (C := RX3) (T := TX3) (N := 13) (v := .int (x.1 0)) hx hb hts hin hown hK hP rfl 3 (by decide) k_28 rfl rfl rfl dX3_count_203 ?_
                                          exact rt_r hx hb hr hlocks hP hD hS rfl ((show pX3_count a1 x = x.1 0 by rw [pX3_count, if_pos c_1, if_neg c_2, if_neg c_3, if_neg c_4, if_neg c_5, if_neg c_6, if_neg c_7, if_neg c_8, if_neg c_9, if_neg c_10, if_neg c_12, if_neg c_14, if_neg c_15, if_neg c_16, if_neg c_17, if_neg c_18, if_neg c_19, if_neg c_20, if_neg c_21, if_pos c_22]).symm.trans hres |>.symm) dX3_count_206
                                        · skip
                                          refine lv_tableOut (tgt := 207) hx hb dX3_count_22 (by have u_0 := lv_neT (a := 0) c_2 (by decide); have u_1 := lv_neT (a := 1) c_3 (by decide); have u_2 := lv_neT (a := 2) c_4 (by decide); have u_3 := lv_neT (a := 3) c_5 (by decide); have u_4 := lv_neT (a := 4) c_6 (by decide); have u_5 := lv_neT (a := 5) c_7 (by decide); have u_6 := lv_neT (a := 6) c_8 (by decide); have u_7 := lv_neT (a := 7) c_9 (by decide); have u_8 := lv_neT (a := 8) c_10 (by decide); have u_9 := lv_neT (a := 9) c_12 (by decide); have u_10 := lv_neT (a := 10) c_14 (by decide); have u_11 := lv_neT (a := 11) c_15 (by decide); have u_12 := lv_neT (a := 12) c_16 (by decide); have u_13 := lv_neT (a := 13) c_17 (by decide); have u_14 := lv_neT (a := 14) c_18 (by decide); have u_15 := lv_neT (a := 15) c_19 (by decide); have u_16 := lv_neT (a := 16) c_20 (by decide); have u_17 := lv_neT (a := 17) c_21 (by decide); have u_18 := lv_neT (a := 18) c_22 (by decide); omega) (by decide) ?_
                                          refine lv_bipush (v := (-2)) hx hb dX3_count_207 (by decide) ?_
                                          exact rt_r hx hb hr hlocks hP hD hS rfl ((show pX3_count a1 x = (-2) by rw [pX3_count, if_pos c_1, if_neg c_2, if_neg c_3, if_neg c_4, if_neg c_5, if_neg c_6, if_neg c_7, if_neg c_8, if_neg c_9, if_neg c_10, if_neg c_12, if_neg c_14, if_neg c_15, if_neg c_16, if_neg c_17, if_neg c_18, if_neg c_19, if_neg c_20, if_neg c_21, if_neg c_22]).symm.trans hres |>.symm) dX3_count_209
  · refine lv_aload_n hx hb dX3_count_11 rfl (lv_at hl 0 rfl) ?_
    refine md_get (ci := 3) (C := RX3) (T := TX3) (N := 13) (v := .ref (h 1)) hx hb hts hin hown hK hP rfl 0 (by decide) k_7 rfl rfl rfl dX3_count_12 ?_
    refine lv_iload_n hx hb dX3_count_15 rfl (lv_at hl 1 rfl) ?_
    refine lv_bipush (v := 10) hx hb dX3_count_16 (by decide) ?_
    refine lv_isub hx hb dX3_count_18 ?_
    refine md_ia (v := x.2 0 (ix (a1 - 10))) hx hb hK hP 0 0 rfl rfl (by exact cnt_in (by with_reducible assumption)) rfl dX3_count_19 ?_
    exact rt_r hx hb hr hlocks hP hD hS rfl ((show pX3_count a1 x = x.2 0 (ix (a1 - 10)) by rw [pX3_count, if_neg c_1]).symm.trans hres |>.symm) dX3_count_20
