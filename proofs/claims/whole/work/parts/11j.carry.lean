theorem answer_P (x : TV) : (pX2_answerToOrder x).2.2.1 = x.2.1 := by
  rw [pX2_answerToOrder]
  by_cases d_84 : (x.2.1.1 2) = 99
  · rw [if_pos d_84]
    all_goals rfl
  · rw [if_neg d_84]
    by_cases d_85 : (x.2.1.1 2) = 107
    · rw [if_pos d_85]
      all_goals rfl
    · rw [if_neg d_85]
      by_cases d_86 : (x.2.1.1 2) = 112
      · rw [if_pos d_86]
        all_goals rfl
      · rw [if_neg d_86]
        by_cases d_87 : (x.2.1.1 2) = 114
        · rw [if_pos d_87]
          all_goals rfl
        · rw [if_neg d_87]
          by_cases d_88 : (x.2.1.1 2) = 116
          · rw [if_pos d_88]
            all_goals rfl
          · rw [if_neg d_88]
            all_goals rfl
theorem ch_rw {y : SR} (h : chOK y) : chOK (pX0_rewind y) := by
  unfold pX0_rewind
  exact ch_of (by rw [pS_2, pS_2]) h
def pX2_carryOut_L35 : Nat → Int32 → TV → Int32 × TV
  | 0, v1, x => (0, x)
  | n + 1, v1, x => if 80 ≤ v1 then ((pX2_recorded v1 (tP x (pX0_clear x.2.1))).1, (pX2_recorded v1 (tP x (pX0_clear x.2.1))).2)
    else if (x.2.1.1 6) = 0 then ((pX2_recorded v1 (tP x (pX0_clear x.2.1))).1, (pX2_recorded v1 (tP x (pX0_clear x.2.1))).2)
      else if ((pX0_readOrder x.2.1).1) = 0 then ((pX2_recorded v1 (tP (tP x ((pX0_readOrder x.2.1).2)) (pX0_clear ((pX0_readOrder x.2.1).2)))).1, (pX2_recorded v1 (tP (tP x ((pX0_readOrder x.2.1).2)) (pX0_clear ((pX0_readOrder x.2.1).2)))).2)
        else if ((pX2_answerToOrder (tP x ((pX0_readOrder x.2.1).2))).1) < 0 then ((pX2_recorded v1 (tP (pX2_answerToOrder (tP x ((pX0_readOrder x.2.1).2))).2 (pX0_clear ((pX2_answerToOrder (tP x ((pX0_readOrder x.2.1).2))).2.2.1)))).1, (pX2_recorded v1 (tP (pX2_answerToOrder (tP x ((pX0_readOrder x.2.1).2))).2 (pX0_clear ((pX2_answerToOrder (tP x ((pX0_readOrder x.2.1).2))).2.2.1)))).2)
          else pX2_carryOut_L35 n (v1 + 1) (pX2_answerToOrder (tP x ((pX0_readOrder x.2.1).2))).2
def pX2_carryOut (x : TV) : Int32 × TV := if ((pX0_findFault x.2.1).1) = (-6) then pX2_carryOut_L35 81 0 (tP (tQ (tP x ((pX0_findFault x.2.1).2)) 1 (pX2_copy (x.1 0) (x.1 1))) (pX0_rewind ((pX0_findFault x.2.1).2)))
  else (((-3) : Int32), (tP x ((pX0_findFault x.2.1).2)))
set_option maxHeartbeats 1000000 in
set_option maxRecDepth 100000 in
theorem ctX2_carryOut (l : Launch) (G : va_G) (cI cC cZ cR : ClassId) (ho : Nat → Nat) (hh : Nat → Ad) (hp : Ad) (x : TV) (q_0 : chOK x.2.1) : Ct l yX2_carryOut wsX2_carryOut (rmz 6 132) G (TY cI cC cZ cR) [.ref (ho 0)] (wX cI cC cZ cR ho hh hp x) (Qx G (wX cI cC cZ cR ho hh hp x) (pX2_carryOut x).1 (fun hh => (wX cI cC cZ cR ho hh hp (pX2_carryOut x).2))) := by
  refine Ct.ofX (cc := cX2_carryOut) (maxL := 2) (ret := (some .int)) (by decide) rfl rfl ?_
  intro p e s m below meth c A ls E0 hP hD hS hl
  obtain ⟨hx, hb, hr, hml, hlocks, hts, hown, hK, hN, hA⟩ := E0
  have hl : lv_has ls 2 [(0, .ref (ho 0))] := hl
  have hin : ∀ w ∈ wsX20, w ∈ wsX2_carryOut := fun w hw => List.mem_cons_of_mem _ (List.mem_append_left _ (List.mem_append_left _ (List.mem_append_right _ (hw))))
  have hin1 : ∀ w ∈ wsX10, w ∈ wsX2_carryOut := fun w hw => List.mem_cons_of_mem _ (List.mem_append_right _ (hw))
  have hin0 : ∀ w ∈ wsX00, w ∈ wsX2_carryOut := fun w hw => List.mem_cons_of_mem _ (List.mem_append_left _ (List.mem_append_right _ (hw)))
  have k_40 : (Cond.fieldLink RX2 40 RX2 (TX2 7).2.1 (TX2 7).2.2.1).before ([.ref (ho 0)] : List Value).toArray s = true := hts _ (List.mem_of_getElem? (i := 1) rfl)
  have k_10 : (Cond.fieldLink RX2 10 RX2 (TX2 0).2.1 (TX2 0).2.2.1).before ([.ref (ho 0)] : List Value).toArray s = true := hts _ (List.mem_of_getElem? (i := 2) rfl)
  have k_16 : (Cond.fieldLink RX2 16 RX2 (TX2 1).2.1 (TX2 1).2.2.1).before ([.ref (ho 0)] : List Value).toArray s = true := hts _ (List.mem_of_getElem? (i := 3) rfl)
  generalize hres : pX2_carryOut x = res
  have lp_35 : ∀ (n : Nat) (v1 : Int32) (x : TV), 0 ≤ Int32.toInt v1 → Int32.toInt v1 ≤ 80 → chOK x.2.1 → 80 - Int32.toInt v1 < (n : Int) → pX2_carryOut_L35 n v1 x = res → ∀ (H : Heap) (locs : List Loc) (ls : Array Slot), va_P G vwCl (wX cI cC cZ cR ho hh hp x) H → va_D A (wX cI cC cZ cR ho hh hp x) → va_S A s.heap H locs → lv_has ls 2 [(0, .ref (ho 0)), (1, .int v1)] → W p l e (rmz 6 132) s m ([.ref (ho 0)] : List Value).toArray below meth c H locs 0 0 (MQ below (QxA G A res.1 (fun hh => (wX cI cC cZ cR ho hh hp res.2))) ([.ref (ho 0)] : List Value).toArray s 0 0 A) (F0 m 35 ls []) := by
    intro n
    induction n with
    | zero =>
      intro v1 x g_0 g_1 g_2 hm
      exfalso; omega
    | succ n ih =>
      intro v1 x g_0 g_1 g_2 hm hq H locs ls hP hD hS hl
      refine lv_iload_n hx hb dX2_carryOut_35 rfl (lv_at hl 1 rfl) ?_
      refine lv_bipush (v := 80) hx hb dX2_carryOut_36 (by decide) ?_
      refine lv_icmp_ge (tgt := 74) hx hb dX2_carryOut_38 (by decide) (fun c_2 => ?_) (fun c_2 => ?_)
      · have t_2 := i_le (z := (80)) (w := (Int32.toInt v1)) c_2 (by decide) rfl
        refine lv_aload_n hx hb dX2_carryOut_74 rfl (lv_at hl 0 rfl) ?_
        refine tx_get (v := .ref (hp 0)) hx hb hts hin hown hK hP 7 (by decide) k_40 rfl rfl dX2_carryOut_75 ?_
        refine gp_v wX_P wX_Pu hP hD hS hA (rn_VN (As := []) (rest := []) ⟨hx, hb, hml, hown, hts⟩ (ctX0_clear l G cI cC cZ cR hp x.2.1) ⟨va_cnB 0 hts gX2_carryOut_X0_clear_n178 rfl rfl rfl (NWs.nw hN 46 rfl) (hts _ (List.mem_of_getElem? (i := 5) rfl)) (by decide +kernel) ⟨Nat.le_of_ble_eq_true rfl, Nat.le_of_ble_eq_true rfl⟩, (hts _ (List.mem_of_getElem? (i := 179) rfl)), (hts _ (List.mem_of_getElem? (i := 180) rfl))⟩ (md_recv hK (xblkP hP) rfl) hK (xblkP hP) (xblkPD hD) hN rfl hl.1 rfl (Nat.le_of_ble_eq_true rfl) dX2_carryOut_78) (fun H locs hP hD hS => ?_)
        refine lv_aload_n hx hb dX2_carryOut_81 rfl (lv_at hl 0 rfl) ?_
        refine lv_iload_n hx hb dX2_carryOut_82 rfl (lv_at hl 1 rfl) ?_
        refine go_x hD hS hA (rn_V (As := [.int v1]) (rest := []) ⟨hx, hb, hml, hown, hts⟩ (ctX2_recorded l G cI cC cZ cR ho hh hp (tP x (pX0_clear x.2.1)) v1) (cwV 1 hts gX2_carryOut_X2_recorded rfl rfl rfl (by decide +kernel) ⟨Nat.le_of_ble_eq_true rfl, Nat.le_of_ble_eq_true rfl⟩) (tx_recv hK hP) hK hP hD hN rfl hl.1 rfl (Nat.le_of_ble_eq_true rfl) dX2_carryOut_83) (fun hh1 H locs hP hD hS => ?_)
        exact rt_x (fun y hh => wX cI cC cZ cR ho hh hp y) hh1 hx hb hr hlocks hP hD hS rfl ((show pX2_carryOut_L35 (n + 1) v1 x = ((pX2_recorded v1 (tP x (pX0_clear x.2.1))).1, (pX2_recorded v1 (tP x (pX0_clear x.2.1))).2) by rw [pX2_carryOut_L35, if_pos c_2]).symm.trans hq |>.symm) dX2_carryOut_86
      · have t_2 := i_nle (z := (80)) (w := (Int32.toInt v1)) c_2 (by decide) rfl
        refine lv_aload_n hx hb dX2_carryOut_41 rfl (lv_at hl 0 rfl) ?_
        refine tx_get (v := .ref (hp 0)) hx hb hts hin hown hK hP 7 (by decide) k_40 rfl rfl dX2_carryOut_42 ?_
        refine md_getN (ci := 0) (C := RX0) (T := TX0) (N := 8) (x := x.2.1) (v := .int (x.2.1.1 6)) hx hb hts hin0 hown hK (xblkP (t := x) hP) rfl 7 (by decide) (NWs.at hN 24 rfl) rfl rfl rfl dX2_carryOut_45 ?_
        refine lv_if_eq (tgt := 74) hx hb dX2_carryOut_48 (by decide) (fun c_3 => ?_) (fun c_3 => ?_)
        · refine lv_aload_n hx hb dX2_carryOut_74 rfl (lv_at hl 0 rfl) ?_
          refine tx_get (v := .ref (hp 0)) hx hb hts hin hown hK hP 7 (by decide) k_40 rfl rfl dX2_carryOut_75 ?_
          refine gp_v wX_P wX_Pu hP hD hS hA (rn_VN (As := []) (rest := []) ⟨hx, hb, hml, hown, hts⟩ (ctX0_clear l G cI cC cZ cR hp x.2.1) ⟨va_cnB 0 hts gX2_carryOut_X0_clear_n178 rfl rfl rfl (NWs.nw hN 46 rfl) (hts _ (List.mem_of_getElem? (i := 5) rfl)) (by decide +kernel) ⟨Nat.le_of_ble_eq_true rfl, Nat.le_of_ble_eq_true rfl⟩, (hts _ (List.mem_of_getElem? (i := 179) rfl)), (hts _ (List.mem_of_getElem? (i := 180) rfl))⟩ (md_recv hK (xblkP hP) rfl) hK (xblkP hP) (xblkPD hD) hN rfl hl.1 rfl (Nat.le_of_ble_eq_true rfl) dX2_carryOut_78) (fun H locs hP hD hS => ?_)
          refine lv_aload_n hx hb dX2_carryOut_81 rfl (lv_at hl 0 rfl) ?_
          refine lv_iload_n hx hb dX2_carryOut_82 rfl (lv_at hl 1 rfl) ?_
          refine go_x hD hS hA (rn_V (As := [.int v1]) (rest := []) ⟨hx, hb, hml, hown, hts⟩ (ctX2_recorded l G cI cC cZ cR ho hh hp (tP x (pX0_clear x.2.1)) v1) (cwV 1 hts gX2_carryOut_X2_recorded rfl rfl rfl (by decide +kernel) ⟨Nat.le_of_ble_eq_true rfl, Nat.le_of_ble_eq_true rfl⟩) (tx_recv hK hP) hK hP hD hN rfl hl.1 rfl (Nat.le_of_ble_eq_true rfl) dX2_carryOut_83) (fun hh1 H locs hP hD hS => ?_)
          exact rt_x (fun y hh => wX cI cC cZ cR ho hh hp y) hh1 hx hb hr hlocks hP hD hS rfl ((show pX2_carryOut_L35 (n + 1) v1 x = ((pX2_recorded v1 (tP x (pX0_clear x.2.1))).1, (pX2_recorded v1 (tP x (pX0_clear x.2.1))).2) by rw [pX2_carryOut_L35, if_neg c_2, if_pos c_3]).symm.trans hq |>.symm) dX2_carryOut_86
        · refine lv_aload_n hx hb dX2_carryOut_51 rfl (lv_at hl 0 rfl) ?_
          refine tx_get (v := .ref (hp 0)) hx hb hts hin hown hK hP 7 (by decide) k_40 rfl rfl dX2_carryOut_52 ?_
          refine gp_i wX_P wX_Pu hP hD hS hA (rn_VN (As := []) (rest := []) ⟨hx, hb, hml, hown, hts⟩ (ctX0_readOrder l G cI cC cZ cR hp x.2.1 (by exact g_2)) ⟨va_cnB 0 hts gX2_carryOut_X0_readOrder_n191 rfl rfl rfl (NWs.nw hN 49 rfl) (hts _ (List.mem_of_getElem? (i := 5) rfl)) (by decide +kernel) ⟨Nat.le_of_ble_eq_true rfl, Nat.le_of_ble_eq_true rfl⟩, (hts _ (List.mem_of_getElem? (i := 15) rfl)), (hts _ (List.mem_of_getElem? (i := 16) rfl))⟩ (md_recv hK (xblkP hP) rfl) hK (xblkP hP) (xblkPD hD) hN rfl hl.1 rfl (Nat.le_of_ble_eq_true rfl) dX2_carryOut_55) (fun H locs hP hD hS => ?_)
          refine lv_if_eq (tgt := 74) hx hb dX2_carryOut_58 (by decide) (fun c_4 => ?_) (fun c_4 => ?_)
          · refine lv_aload_n hx hb dX2_carryOut_74 rfl (lv_at hl 0 rfl) ?_
            refine tx_get (v := .ref (hp 0)) hx hb hts hin hown hK hP 7 (by decide) k_40 rfl rfl dX2_carryOut_75 ?_
            refine gp_v wX_P wX_Pu hP hD hS hA (rn_VN (As := []) (rest := []) ⟨hx, hb, hml, hown, hts⟩ (ctX0_clear l G cI cC cZ cR hp ((pX0_readOrder x.2.1).2)) ⟨va_cnB 0 hts gX2_carryOut_X0_clear_n178 rfl rfl rfl (NWs.nw hN 46 rfl) (hts _ (List.mem_of_getElem? (i := 5) rfl)) (by decide +kernel) ⟨Nat.le_of_ble_eq_true rfl, Nat.le_of_ble_eq_true rfl⟩, (hts _ (List.mem_of_getElem? (i := 179) rfl)), (hts _ (List.mem_of_getElem? (i := 180) rfl))⟩ (md_recv hK (xblkP hP) rfl) hK (xblkP hP) (xblkPD hD) hN rfl hl.1 rfl (Nat.le_of_ble_eq_true rfl) dX2_carryOut_78) (fun H locs hP hD hS => ?_)
            refine lv_aload_n hx hb dX2_carryOut_81 rfl (lv_at hl 0 rfl) ?_
            refine lv_iload_n hx hb dX2_carryOut_82 rfl (lv_at hl 1 rfl) ?_
            refine go_x hD hS hA (rn_V (As := [.int v1]) (rest := []) ⟨hx, hb, hml, hown, hts⟩ (ctX2_recorded l G cI cC cZ cR ho hh hp (tP (tP x ((pX0_readOrder x.2.1).2)) (pX0_clear ((pX0_readOrder x.2.1).2))) v1) (cwV 1 hts gX2_carryOut_X2_recorded rfl rfl rfl (by decide +kernel) ⟨Nat.le_of_ble_eq_true rfl, Nat.le_of_ble_eq_true rfl⟩) (tx_recv hK hP) hK hP hD hN rfl hl.1 rfl (Nat.le_of_ble_eq_true rfl) dX2_carryOut_83) (fun hh1 H locs hP hD hS => ?_)
            exact rt_x (fun y hh => wX cI cC cZ cR ho hh hp y) hh1 hx hb hr hlocks hP hD hS rfl ((show pX2_carryOut_L35 (n + 1) v1 x = ((pX2_recorded v1 (tP (tP x ((pX0_readOrder x.2.1).2)) (pX0_clear ((pX0_readOrder x.2.1).2)))).1, (pX2_recorded v1 (tP (tP x ((pX0_readOrder x.2.1).2)) (pX0_clear ((pX0_readOrder x.2.1).2)))).2) by rw [pX2_carryOut_L35, if_neg c_2, if_neg c_3, if_pos c_4]).symm.trans hq |>.symm) dX2_carryOut_86
          · refine lv_aload_n hx hb dX2_carryOut_61 rfl (lv_at hl 0 rfl) ?_
            refine go_i hD hS hA (rn_V (As := []) (rest := []) ⟨hx, hb, hml, hown, hts⟩ (ctX2_answerToOrder l G cI cC cZ cR ho hh hp (tP x ((pX0_readOrder x.2.1).2))) (cwV 0 hts gX2_carryOut_X2_answerToOrder rfl rfl rfl (by decide +kernel) ⟨Nat.le_of_ble_eq_true rfl, Nat.le_of_ble_eq_true rfl⟩) (tx_recv hK hP) hK hP hD hN rfl hl.1 rfl (Nat.le_of_ble_eq_true rfl) dX2_carryOut_62) (fun H locs hP hD hS => ?_)
            refine lv_if_lt (tgt := 74) hx hb dX2_carryOut_65 (by decide) (fun c_5 => ?_) (fun c_5 => ?_)
            · have t_5 := i_lt (z := (Int32.toInt ((pX2_answerToOrder (tP x ((pX0_readOrder x.2.1).2))).1))) (w := (0)) c_5 rfl (by decide)
              refine lv_aload_n hx hb dX2_carryOut_74 rfl (lv_at hl 0 rfl) ?_
              refine tx_get (v := .ref (hp 0)) hx hb hts hin hown hK hP 7 (by decide) k_40 rfl rfl dX2_carryOut_75 ?_
              refine gp_v wX_P wX_Pu hP hD hS hA (rn_VN (As := []) (rest := []) ⟨hx, hb, hml, hown, hts⟩ (ctX0_clear l G cI cC cZ cR hp ((pX2_answerToOrder (tP x ((pX0_readOrder x.2.1).2))).2.2.1)) ⟨va_cnB 0 hts gX2_carryOut_X0_clear_n178 rfl rfl rfl (NWs.nw hN 46 rfl) (hts _ (List.mem_of_getElem? (i := 5) rfl)) (by decide +kernel) ⟨Nat.le_of_ble_eq_true rfl, Nat.le_of_ble_eq_true rfl⟩, (hts _ (List.mem_of_getElem? (i := 179) rfl)), (hts _ (List.mem_of_getElem? (i := 180) rfl))⟩ (md_recv hK (xblkP hP) rfl) hK (xblkP hP) (xblkPD hD) hN rfl hl.1 rfl (Nat.le_of_ble_eq_true rfl) dX2_carryOut_78) (fun H locs hP hD hS => ?_)
              refine lv_aload_n hx hb dX2_carryOut_81 rfl (lv_at hl 0 rfl) ?_
              refine lv_iload_n hx hb dX2_carryOut_82 rfl (lv_at hl 1 rfl) ?_
              refine go_x hD hS hA (rn_V (As := [.int v1]) (rest := []) ⟨hx, hb, hml, hown, hts⟩ (ctX2_recorded l G cI cC cZ cR ho hh hp (tP (pX2_answerToOrder (tP x ((pX0_readOrder x.2.1).2))).2 (pX0_clear ((pX2_answerToOrder (tP x ((pX0_readOrder x.2.1).2))).2.2.1))) v1) (cwV 1 hts gX2_carryOut_X2_recorded rfl rfl rfl (by decide +kernel) ⟨Nat.le_of_ble_eq_true rfl, Nat.le_of_ble_eq_true rfl⟩) (tx_recv hK hP) hK hP hD hN rfl hl.1 rfl (Nat.le_of_ble_eq_true rfl) dX2_carryOut_83) (fun hh1 H locs hP hD hS => ?_)
              exact rt_x (fun y hh => wX cI cC cZ cR ho hh hp y) hh1 hx hb hr hlocks hP hD hS rfl ((show pX2_carryOut_L35 (n + 1) v1 x = ((pX2_recorded v1 (tP (pX2_answerToOrder (tP x ((pX0_readOrder x.2.1).2))).2 (pX0_clear ((pX2_answerToOrder (tP x ((pX0_readOrder x.2.1).2))).2.2.1)))).1, (pX2_recorded v1 (tP (pX2_answerToOrder (tP x ((pX0_readOrder x.2.1).2))).2 (pX0_clear ((pX2_answerToOrder (tP x ((pX0_readOrder x.2.1).2))).2.2.1)))).2) by rw [pX2_carryOut_L35, if_neg c_2, if_neg c_3, if_neg c_4, if_pos c_5]).symm.trans hq |>.symm) dX2_carryOut_86
            · have t_5 := i_nlt (z := (Int32.toInt ((pX2_answerToOrder (tP x ((pX0_readOrder x.2.1).2))).1))) (w := (0)) c_5 rfl (by decide)
              refine lv_iinc (v := (v1 + 1)) (lv' := [(1, .int (v1 + 1)), (0, .ref (ho 0))]) hx hb dX2_carryOut_68 hl (k := 1) rfl rfl (by decide) rfl (fun ls hl => ?_)
              have a_68 := i_add1 (a := v1) (by omega) (by omega)
              refine lv_goto (tgt := 35) hx hb dX2_carryOut_71 (by decide) ?_
              exact ih (v1 + 1) (pX2_answerToOrder (tP x ((pX0_readOrder x.2.1).2))).2 (by omega) (by omega) (by rw [answer_P]; exact ch_of (readOrder_t x.2.1) g_2) (by omega) ((show pX2_carryOut_L35 (n + 1) v1 x = pX2_carryOut_L35 n (v1 + 1) (pX2_answerToOrder (tP x ((pX0_readOrder x.2.1).2))).2 by rw [pX2_carryOut_L35, if_neg c_2, if_neg c_3, if_neg c_4, if_neg c_5]).symm.trans hq) _ _ _ hP hD hS (lv_sub hl [1, 0] rfl)
  refine lv_aload_n hx hb dX2_carryOut_0 rfl (lv_at hl 0 rfl) ?_
  refine tx_get (v := .ref (hp 0)) hx hb hts hin hown hK hP 7 (by decide) k_40 rfl rfl dX2_carryOut_1 ?_
  refine gp_i wX_P wX_Pu hP hD hS hA (rn_VN (As := []) (rest := []) ⟨hx, hb, hml, hown, hts⟩ (ctX0_findFault l G cI cC cZ cR hp x.2.1 (by exact q_0)) ⟨va_cnB 0 hts gX2_carryOut_X0_findFault_n181 rfl rfl rfl (NWs.nw hN 47 rfl) (hts _ (List.mem_of_getElem? (i := 5) rfl)) (by decide +kernel) ⟨Nat.le_of_ble_eq_true rfl, Nat.le_of_ble_eq_true rfl⟩, (hts _ (List.mem_of_getElem? (i := 4) rfl)), (hts _ (List.mem_of_getElem? (i := 6) rfl))⟩ (md_recv hK (xblkP hP) rfl) hK (xblkP hP) (xblkPD hD) hN rfl hl.1 rfl (Nat.le_of_ble_eq_true rfl) dX2_carryOut_4) (fun H locs hP hD hS => ?_)
  refine lv_bipush (v := (-6)) hx hb dX2_carryOut_7 (by decide) ?_
  refine lv_icmp_eq (tgt := 15) hx hb dX2_carryOut_9 (by decide) (fun c_1 => ?_) (fun c_1 => ?_)
  · refine lv_aload_n hx hb dX2_carryOut_15 rfl (lv_at hl 0 rfl) ?_
    refine tx_get (v := .ref (hh 0 0)) hx hb hts hin hown hK hP 0 (by decide) k_10 rfl rfl dX2_carryOut_16 ?_
    refine lv_aload_n hx hb dX2_carryOut_19 rfl (lv_at hl 0 rfl) ?_
    refine tx_get (v := .ref (hh 1 0)) hx hb hts hin hown hK hP 1 (by decide) k_16 rfl rfl dX2_carryOut_20 ?_
    refine gp_v (wX_2 (j := 0) (k := 1) (by decide) (by decide) (by decide)) (wX_2u (j := 0) (k := 1) (by decide) (by decide) (by decide)) hP hD hS hA (rn_S (As := [.ref (hh 0 0), .ref (hh 1 0)]) (rest := []) ⟨hx, hb, hml, hown, hts⟩ (ctX2_copy l G cI cC cZ cR (hh 0) (hh 1) (x.1 0) (x.1 1)) (va_cwS 2 hts gX2_carryOut_X2_copy rfl rfl rfl (by decide +kernel) ⟨Nat.le_of_ble_eq_true rfl, Nat.le_of_ble_eq_true rfl⟩) hK (hP.perm (wX_2 (j := 0) (k := 1) (by decide) (by decide) (by decide))).left (va_D.leftD (hD.perm (wX_2 (j := 0) (k := 1) (by decide) (by decide) (by decide)))) hN rfl hl.1 rfl (Nat.le_of_ble_eq_true rfl) dX2_carryOut_23) (fun H locs hP hD hS => ?_)
    refine lv_aload_n hx hb dX2_carryOut_26 rfl (lv_at hl 0 rfl) ?_
    refine tx_get (v := .ref (hp 0)) hx hb hts hin hown hK hP 7 (by decide) k_40 rfl rfl dX2_carryOut_27 ?_
    refine gp_v wX_P wX_Pu hP hD hS hA (rn_VN (As := []) (rest := []) ⟨hx, hb, hml, hown, hts⟩ (ctX0_rewind l G cI cC cZ cR hp ((pX0_findFault x.2.1).2)) ⟨va_cnB 0 hts gX2_carryOut_X0_rewind_n184 rfl rfl rfl (NWs.nw hN 48 rfl) (hts _ (List.mem_of_getElem? (i := 5) rfl)) (by decide +kernel) ⟨Nat.le_of_ble_eq_true rfl, Nat.le_of_ble_eq_true rfl⟩, (hts _ (List.mem_of_getElem? (i := 11) rfl)), (hts _ (List.mem_of_getElem? (i := 12) rfl))⟩ (md_recv hK (xblkP hP) rfl) hK (xblkP hP) (xblkPD hD) hN rfl hl.1 rfl (Nat.le_of_ble_eq_true rfl) dX2_carryOut_30) (fun H locs hP hD hS => ?_)
    refine lv_iconst (v := 0) hx hb dX2_carryOut_33 (by decide) ?_
    refine lv_istore_n (lv' := [(1, .int 0), (0, .ref (ho 0))]) hx hb dX2_carryOut_34 rfl hl (by decide) rfl (fun ls hl => ?_)
    exact lp_35 81 0 (tP (tQ (tP x ((pX0_findFault x.2.1).2)) 1 (pX2_copy (x.1 0) (x.1 1))) (pX0_rewind ((pX0_findFault x.2.1).2))) (by decide) (by decide) (by show chOK (pX0_rewind (pX0_findFault x.2.1).2); exact ch_rw (ch_of (findFault_t x.2.1) q_0)) (by decide) ((show pX2_carryOut x = pX2_carryOut_L35 81 0 (tP (tQ (tP x ((pX0_findFault x.2.1).2)) 1 (pX2_copy (x.1 0) (x.1 1))) (pX0_rewind ((pX0_findFault x.2.1).2))) by rw [pX2_carryOut, if_pos c_1]).symm.trans hres) _ _ _ hP hD hS (lv_sub hl [1, 0] rfl)
  · refine lv_bipush (v := (-3)) hx hb dX2_carryOut_12 (by decide) ?_
    exact rt_x (fun y hh => wX cI cC cZ cR ho hh hp y) hh hx hb hr hlocks hP hD hS rfl ((show pX2_carryOut x = (((-3) : Int32), (tP x ((pX0_findFault x.2.1).2))) by rw [pX2_carryOut, if_neg c_1]).symm.trans hres |>.symm) dX2_carryOut_14
