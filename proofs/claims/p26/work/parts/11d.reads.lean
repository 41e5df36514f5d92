def pX2_of (a1 : Int32) (a2 : Int32) (x : TV) : Int32 := if (pX2_has ((x.1 0).1 0) a1) = 0 then (-1)
  else if a2 = 0 then ((x.1 0).2 1 (ix a1))
    else if a2 = 1 then ((x.1 0).2 2 (ix a1))
      else if a2 = 2 then (pX1_coverAt a1 (x.1 0))
        else if a2 = 3 then ((x.1 0).2 3 (ix a1))
          else if a2 = 4 then ((x.1 0).2 4 (ix a1))
            else if a2 = 5 then (pX1_keepersAt a1 (x.1 0))
              else (-2)
set_option maxHeartbeats 1000000 in
set_option maxRecDepth 100000 in
theorem ctX2_of (l : Launch) (G : va_G) (cI cC cZ cR : ClassId) (ho : Nat → Nat) (hh : Nat → Ad) (hp : Ad) (x : TV) (a1 : Int32) (a2 : Int32) : Ct l yX2_of wsX2_of (rmz 2 42) G (TY cI cC cZ cR) [.ref (ho 0), .int a1, .int a2] (wX cI cC cZ cR ho hh hp x) (Qi G (wX cI cC cZ cR ho hh hp x) (pX2_of a1 a2 x) (wX cI cC cZ cR ho hh hp x)) := by
  refine Ct.ofI (cc := cX2_of) (maxL := 3) (ret := (some .int)) (by decide) rfl rfl ?_
  intro p e s m below meth c A ls E0 hP hD hS hl
  obtain ⟨hx, hb, hr, hml, hlocks, hts, hown, hK, hN, hA⟩ := E0
  have hl : lv_has ls 3 [(0, .ref (ho 0)), (1, .int a1), (2, .int a2)] := hl
  have hin : ∀ w ∈ wsX20, w ∈ wsX2_of := fun w hw => List.mem_cons_of_mem _ (List.mem_append_left _ (List.mem_append_right _ (hw)))
  have hin1 : ∀ w ∈ wsX10, w ∈ wsX2_of := fun w hw => List.mem_cons_of_mem _ (List.mem_append_right _ (hw))
  have k_10 : (Cond.fieldLink RX2 10 RX2 (TX2 0).2.1 (TX2 0).2.2.1).before ([.ref (ho 0), .int a1, .int a2] : List Value).toArray s = true := hts _ (List.mem_of_getElem? (i := 1) rfl)
  generalize hres : pX2_of a1 a2 x = res
  refine lv_aload_n hx hb dX2_of_0 rfl (lv_at hl 0 rfl) ?_
  refine tx_get (v := .ref (hh 0 0)) hx hb hts hin hown hK hP 0 (by decide) k_10 rfl rfl dX2_of_1 ?_
  refine md_getN (ci := 1) (C := RX1) (T := TX1) (N := 18) (x := (x.1 0)) (v := .int ((x.1 0).1 0)) hx hb hts hin1 hown hK (xblk (t := x) (j := 0) hP (by decide)) rfl 1 (by decide) (NWs.at hN 2 rfl) rfl rfl rfl dX2_of_4 ?_
  refine lv_iload_n hx hb dX2_of_7 rfl (lv_at hl 1 rfl) ?_
  refine gn_i hP hS hA (rn_S (As := [.int ((x.1 0).1 0), .int a1]) (rest := []) ⟨hx, hb, hml, hown, hts⟩ (ctX2_has l G cI cC cZ cR ((x.1 0).1 0) a1) (va_cwS 2 hts gX2_of_X2_has rfl rfl rfl (by decide +kernel) ⟨Nat.le_of_ble_eq_true rfl, Nat.le_of_ble_eq_true rfl⟩) hK nilP (nilD (A := A)) hN rfl hl.1 rfl (Nat.le_of_ble_eq_true rfl) dX2_of_8) (fun H locs hP hS => ?_)
  refine lv_if_ne (tgt := 16) hx hb dX2_of_11 (by decide) (fun c_1 => ?_) (fun c_1 => ?_)
  · refine lv_iload_n hx hb dX2_of_16 rfl (lv_at hl 2 rfl) ?_
    by_cases c_2 : a2 = 0
    · refine lv_tableIn (tgt := 56) hx hb dX2_of_17 (by rw [c_2]; decide) (by rw [c_2]; decide) (by rw [c_2]; first | done | rfl) (by decide) ?_
      refine lv_aload_n hx hb dX2_of_56 rfl (lv_at hl 0 rfl) ?_
      refine tx_get (v := .ref (hh 0 0)) hx hb hts hin hown hK hP 0 (by decide) k_10 rfl rfl dX2_of_57 ?_
      refine md_getN (ci := 1) (C := RX1) (T := TX1) (N := 18) (x := (x.1 0)) (v := .ref (hh 0 2)) hx hb hts hin1 hown hK (xblk (t := x) (j := 0) hP (by decide)) rfl 4 (by decide) (NWs.at hN 5 rfl) rfl rfl rfl dX2_of_60 ?_
      refine lv_iload_n hx hb dX2_of_63 rfl (lv_at hl 1 rfl) ?_
      refine md_ia (x := (x.1 0)) (v := ((x.1 0).2 1 (ix a1))) hx hb hK (xblk (t := x) (j := 0) hP (by decide)) 1 0 rfl rfl (by first | with_reducible assumption | exact vp_in_iff.mpr ⟨by decide, by decide⟩ | exact vp_in_iff.mpr ⟨by omega, by omega⟩ | exact has_in (by with_reducible assumption)) rfl dX2_of_64 ?_
      exact rt_r hx hb hr hlocks hP hD hS rfl ((show pX2_of a1 a2 x = ((x.1 0).2 1 (ix a1)) by rw [pX2_of, if_neg c_1, if_pos c_2]).symm.trans hres |>.symm) dX2_of_65
    · skip
      by_cases c_3 : a2 = 1
      · refine lv_tableIn (tgt := 66) hx hb dX2_of_17 (by rw [c_3]; decide) (by rw [c_3]; decide) (by rw [c_3]; first | done | rfl) (by decide) ?_
        refine lv_aload_n hx hb dX2_of_66 rfl (lv_at hl 0 rfl) ?_
        refine tx_get (v := .ref (hh 0 0)) hx hb hts hin hown hK hP 0 (by decide) k_10 rfl rfl dX2_of_67 ?_
        refine md_getN (ci := 1) (C := RX1) (T := TX1) (N := 18) (x := (x.1 0)) (v := .ref (hh 0 3)) hx hb hts hin1 hown hK (xblk (t := x) (j := 0) hP (by decide)) rfl 5 (by decide) (NWs.at hN 6 rfl) rfl rfl rfl dX2_of_70 ?_
        refine lv_iload_n hx hb dX2_of_73 rfl (lv_at hl 1 rfl) ?_
        refine md_ia (x := (x.1 0)) (v := ((x.1 0).2 2 (ix a1))) hx hb hK (xblk (t := x) (j := 0) hP (by decide)) 2 0 rfl rfl (by first | with_reducible assumption | exact vp_in_iff.mpr ⟨by decide, by decide⟩ | exact vp_in_iff.mpr ⟨by omega, by omega⟩ | exact has_in (by with_reducible assumption)) rfl dX2_of_74 ?_
        exact rt_r hx hb hr hlocks hP hD hS rfl ((show pX2_of a1 a2 x = ((x.1 0).2 2 (ix a1)) by rw [pX2_of, if_neg c_1, if_neg c_2, if_pos c_3]).symm.trans hres |>.symm) dX2_of_75
      · skip
        by_cases c_4 : a2 = 2
        · refine lv_tableIn (tgt := 76) hx hb dX2_of_17 (by rw [c_4]; decide) (by rw [c_4]; decide) (by rw [c_4]; first | done | rfl) (by decide) ?_
          refine lv_aload_n hx hb dX2_of_76 rfl (lv_at hl 0 rfl) ?_
          refine tx_get (v := .ref (hh 0 0)) hx hb hts hin hown hK hP 0 (by decide) k_10 rfl rfl dX2_of_77 ?_
          refine lv_iload_n hx hb dX2_of_80 rfl (lv_at hl 1 rfl) ?_
          refine gp_i (wX_1 (j := 0) (by decide)) (wX_1 (j := 0) (by decide)) hP hD hS hA (rn_VN (As := [.int a1]) (rest := []) ⟨hx, hb, hml, hown, hts⟩ (ctX1_coverAt l G cI cC cZ cR (hh 0) (x.1 0) a1) ⟨va_cnB 1 hts gX2_of_X1_coverAt_n88 rfl rfl rfl (NWs.nw hN 33 rfl) (hts _ (List.mem_of_getElem? (i := 7) rfl)) (by decide +kernel) ⟨Nat.le_of_ble_eq_true rfl, Nat.le_of_ble_eq_true rfl⟩, (hts _ (List.mem_of_getElem? (i := 6) rfl)), (hts _ (List.mem_of_getElem? (i := 8) rfl))⟩ (md_recv hK (xblk (j := 0) hP (by decide)) rfl) hK (xblk (j := 0) hP (by decide)) (xblkD (j := 0) hD (by decide)) hN rfl hl.1 rfl (Nat.le_of_ble_eq_true rfl) dX2_of_81) (fun H locs hP hD hS => ?_)
          exact rt_r hx hb hr hlocks hP hD hS rfl ((show pX2_of a1 a2 x = (pX1_coverAt a1 (x.1 0)) by rw [pX2_of, if_neg c_1, if_neg c_2, if_neg c_3, if_pos c_4]).symm.trans hres |>.symm) dX2_of_84
        · skip
          by_cases c_5 : a2 = 3
          · refine lv_tableIn (tgt := 85) hx hb dX2_of_17 (by rw [c_5]; decide) (by rw [c_5]; decide) (by rw [c_5]; first | done | rfl) (by decide) ?_
            refine lv_aload_n hx hb dX2_of_85 rfl (lv_at hl 0 rfl) ?_
            refine tx_get (v := .ref (hh 0 0)) hx hb hts hin hown hK hP 0 (by decide) k_10 rfl rfl dX2_of_86 ?_
            refine md_getN (ci := 1) (C := RX1) (T := TX1) (N := 18) (x := (x.1 0)) (v := .ref (hh 0 4)) hx hb hts hin1 hown hK (xblk (t := x) (j := 0) hP (by decide)) rfl 6 (by decide) (NWs.at hN 7 rfl) rfl rfl rfl dX2_of_89 ?_
            refine lv_iload_n hx hb dX2_of_92 rfl (lv_at hl 1 rfl) ?_
            refine md_ia (x := (x.1 0)) (v := ((x.1 0).2 3 (ix a1))) hx hb hK (xblk (t := x) (j := 0) hP (by decide)) 3 0 rfl rfl (by first | with_reducible assumption | exact vp_in_iff.mpr ⟨by decide, by decide⟩ | exact vp_in_iff.mpr ⟨by omega, by omega⟩ | exact has_in (by with_reducible assumption)) rfl dX2_of_93 ?_
            exact rt_r hx hb hr hlocks hP hD hS rfl ((show pX2_of a1 a2 x = ((x.1 0).2 3 (ix a1)) by rw [pX2_of, if_neg c_1, if_neg c_2, if_neg c_3, if_neg c_4, if_pos c_5]).symm.trans hres |>.symm) dX2_of_94
          · skip
            by_cases c_6 : a2 = 4
            · refine lv_tableIn (tgt := 95) hx hb dX2_of_17 (by rw [c_6]; decide) (by rw [c_6]; decide) (by rw [c_6]; first | done | rfl) (by decide) ?_
              refine lv_aload_n hx hb dX2_of_95 rfl (lv_at hl 0 rfl) ?_
              refine tx_get (v := .ref (hh 0 0)) hx hb hts hin hown hK hP 0 (by decide) k_10 rfl rfl dX2_of_96 ?_
              refine md_getN (ci := 1) (C := RX1) (T := TX1) (N := 18) (x := (x.1 0)) (v := .ref (hh 0 5)) hx hb hts hin1 hown hK (xblk (t := x) (j := 0) hP (by decide)) rfl 7 (by decide) (NWs.at hN 8 rfl) rfl rfl rfl dX2_of_99 ?_
              refine lv_iload_n hx hb dX2_of_102 rfl (lv_at hl 1 rfl) ?_
              refine md_ia (x := (x.1 0)) (v := ((x.1 0).2 4 (ix a1))) hx hb hK (xblk (t := x) (j := 0) hP (by decide)) 4 0 rfl rfl (by first | with_reducible assumption | exact vp_in_iff.mpr ⟨by decide, by decide⟩ | exact vp_in_iff.mpr ⟨by omega, by omega⟩ | exact has_in (by with_reducible assumption)) rfl dX2_of_103 ?_
              exact rt_r hx hb hr hlocks hP hD hS rfl ((show pX2_of a1 a2 x = ((x.1 0).2 4 (ix a1)) by rw [pX2_of, if_neg c_1, if_neg c_2, if_neg c_3, if_neg c_4, if_neg c_5, if_pos c_6]).symm.trans hres |>.symm) dX2_of_104
            · skip
              by_cases c_7 : a2 = 5
              · refine lv_tableIn (tgt := 105) hx hb dX2_of_17 (by rw [c_7]; decide) (by rw [c_7]; decide) (by rw [c_7]; first | done | rfl) (by decide) ?_
                refine lv_aload_n hx hb dX2_of_105 rfl (lv_at hl 0 rfl) ?_
                refine tx_get (v := .ref (hh 0 0)) hx hb hts hin hown hK hP 0 (by decide) k_10 rfl rfl dX2_of_106 ?_
                refine lv_iload_n hx hb dX2_of_109 rfl (lv_at hl 1 rfl) ?_
                refine gp_i (wX_1 (j := 0) (by decide)) (wX_1 (j := 0) (by decide)) hP hD hS hA (rn_VN (As := [.int a1]) (rest := []) ⟨hx, hb, hml, hown, hts⟩ (ctX1_keepersAt l G cI cC cZ cR (hh 0) (x.1 0) a1) ⟨va_cnB 1 hts gX2_of_X1_keepersAt_n97 rfl rfl rfl (NWs.nw hN 34 rfl) (hts _ (List.mem_of_getElem? (i := 7) rfl)) (by decide +kernel) ⟨Nat.le_of_ble_eq_true rfl, Nat.le_of_ble_eq_true rfl⟩, (hts _ (List.mem_of_getElem? (i := 12) rfl)), (hts _ (List.mem_of_getElem? (i := 13) rfl))⟩ (md_recv hK (xblk (j := 0) hP (by decide)) rfl) hK (xblk (j := 0) hP (by decide)) (xblkD (j := 0) hD (by decide)) hN rfl hl.1 rfl (Nat.le_of_ble_eq_true rfl) dX2_of_110) (fun H locs hP hD hS => ?_)
                exact rt_r hx hb hr hlocks hP hD hS rfl ((show pX2_of a1 a2 x = (pX1_keepersAt a1 (x.1 0)) by rw [pX2_of, if_neg c_1, if_neg c_2, if_neg c_3, if_neg c_4, if_neg c_5, if_neg c_6, if_pos c_7]).symm.trans hres |>.symm) dX2_of_113
              · skip
                refine lv_tableOut (tgt := 114) hx hb dX2_of_17 (by have u_0 := lv_neT (a := 0) c_2 (by decide); have u_1 := lv_neT (a := 1) c_3 (by decide); have u_2 := lv_neT (a := 2) c_4 (by decide); have u_3 := lv_neT (a := 3) c_5 (by decide); have u_4 := lv_neT (a := 4) c_6 (by decide); have u_5 := lv_neT (a := 5) c_7 (by decide); omega) (by decide) ?_
                refine lv_bipush (v := (-2)) hx hb dX2_of_114 (by decide) ?_
                exact rt_r hx hb hr hlocks hP hD hS rfl ((show pX2_of a1 a2 x = (-2) by rw [pX2_of, if_neg c_1, if_neg c_2, if_neg c_3, if_neg c_4, if_neg c_5, if_neg c_6, if_neg c_7]).symm.trans hres |>.symm) dX2_of_116
  · refine lv_iconst (v := (-1)) hx hb dX2_of_14 (by decide) ?_
    exact rt_r hx hb hr hlocks hP hD hS rfl ((show pX2_of a1 a2 x = (-1) by rw [pX2_of, if_pos c_1]).symm.trans hres |>.symm) dX2_of_15
def pX2_ofKeeper (a1 : Int32) (a2 : Int32) (x : TV) : Int32 := if a1 < 0 then (-1)
  else if ((x.1 0).1 3) ≤ a1 then (-1)
    else if a1 < 4 then if a2 = 0 then ((x.1 0).2 5 (ix a1))
        else if a2 = 1 then ((x.1 0).2 6 (ix a1))
          else if a2 = 2 then ((x.1 0).2 7 (ix a1))
            else if a2 = 3 then ((x.1 0).2 8 (ix a1))
              else if a2 = 4 then ((x.1 0).2 9 (ix a1))
                else (-2)
      else (-1)
set_option maxHeartbeats 1000000 in
set_option maxRecDepth 100000 in
theorem ctX2_ofKeeper (l : Launch) (G : va_G) (cI cC cZ cR : ClassId) (ho : Nat → Nat) (hh : Nat → Ad) (hp : Ad) (x : TV) (a1 : Int32) (a2 : Int32) : Ct l yX2_ofKeeper wsX2_ofKeeper (rmz 0 0) G (TY cI cC cZ cR) [.ref (ho 0), .int a1, .int a2] (wX cI cC cZ cR ho hh hp x) (Qi G (wX cI cC cZ cR ho hh hp x) (pX2_ofKeeper a1 a2 x) (wX cI cC cZ cR ho hh hp x)) := by
  refine Ct.ofI (cc := cX2_ofKeeper) (maxL := 3) (ret := (some .int)) (by decide) rfl rfl ?_
  intro p e s m below meth c A ls E0 hP hD hS hl
  obtain ⟨hx, hb, hr, hml, hlocks, hts, hown, hK, hN, hA⟩ := E0
  have hl : lv_has ls 3 [(0, .ref (ho 0)), (1, .int a1), (2, .int a2)] := hl
  have hin : ∀ w ∈ wsX20, w ∈ wsX2_ofKeeper := fun w hw => List.mem_cons_of_mem _ (List.mem_append_left _ (List.mem_append_right _ (hw)))
  have hin1 : ∀ w ∈ wsX10, w ∈ wsX2_ofKeeper := fun w hw => List.mem_cons_of_mem _ (List.mem_append_right _ (hw))
  have k_10 : (Cond.fieldLink RX2 10 RX2 (TX2 0).2.1 (TX2 0).2.2.1).before ([.ref (ho 0), .int a1, .int a2] : List Value).toArray s = true := hts _ (List.mem_of_getElem? (i := 1) rfl)
  generalize hres : pX2_ofKeeper a1 a2 x = res
  refine lv_iload_n hx hb dX2_ofKeeper_0 rfl (lv_at hl 1 rfl) ?_
  refine lv_if_lt (tgt := 20) hx hb dX2_ofKeeper_1 (by decide) (fun c_1 => ?_) (fun c_1 => ?_)
  · have t_1 := i_lt (z := (Int32.toInt a1)) (w := (0)) c_1 rfl (by decide)
    refine lv_iconst (v := (-1)) hx hb dX2_ofKeeper_20 (by decide) ?_
    exact rt_r hx hb hr hlocks hP hD hS rfl ((show pX2_ofKeeper a1 a2 x = (-1) by rw [pX2_ofKeeper, if_pos c_1]).symm.trans hres |>.symm) dX2_ofKeeper_21
  · have t_1 := i_nlt (z := (Int32.toInt a1)) (w := (0)) c_1 rfl (by decide)
    refine lv_iload_n hx hb dX2_ofKeeper_4 rfl (lv_at hl 1 rfl) ?_
    refine lv_aload_n hx hb dX2_ofKeeper_5 rfl (lv_at hl 0 rfl) ?_
    refine tx_get (v := .ref (hh 0 0)) hx hb hts hin hown hK hP 0 (by decide) k_10 rfl rfl dX2_ofKeeper_6 ?_
    refine md_getN (ci := 1) (C := RX1) (T := TX1) (N := 18) (x := (x.1 0)) (v := .int ((x.1 0).1 3)) hx hb hts hin1 hown hK (xblk (t := x) (j := 0) hP (by decide)) rfl 8 (by decide) (NWs.at hN 9 rfl) rfl rfl rfl dX2_ofKeeper_9 ?_
    refine lv_icmp_ge (tgt := 20) hx hb dX2_ofKeeper_12 (by decide) (fun c_2 => ?_) (fun c_2 => ?_)
    · have t_2 := i_le (z := (Int32.toInt ((x.1 0).1 3))) (w := (Int32.toInt a1)) c_2 rfl rfl
      refine lv_iconst (v := (-1)) hx hb dX2_ofKeeper_20 (by decide) ?_
      exact rt_r hx hb hr hlocks hP hD hS rfl ((show pX2_ofKeeper a1 a2 x = (-1) by rw [pX2_ofKeeper, if_neg c_1, if_pos c_2]).symm.trans hres |>.symm) dX2_ofKeeper_21
    · have t_2 := i_nle (z := (Int32.toInt ((x.1 0).1 3))) (w := (Int32.toInt a1)) c_2 rfl rfl
      refine lv_iload_n hx hb dX2_ofKeeper_15 rfl (lv_at hl 1 rfl) ?_
      refine lv_iconst (v := 4) hx hb dX2_ofKeeper_16 (by decide) ?_
      refine lv_icmp_lt (tgt := 22) hx hb dX2_ofKeeper_17 (by decide) (fun c_3 => ?_) (fun c_3 => ?_)
      · have t_3 := i_lt (z := (Int32.toInt a1)) (w := (4)) c_3 rfl (by decide)
        refine lv_iload_n hx hb dX2_ofKeeper_22 rfl (lv_at hl 2 rfl) ?_
        by_cases c_4 : a2 = 0
        · refine lv_tableIn (tgt := 56) hx hb dX2_ofKeeper_23 (by rw [c_4]; decide) (by rw [c_4]; decide) (by rw [c_4]; first | done | rfl) (by decide) ?_
          refine lv_aload_n hx hb dX2_ofKeeper_56 rfl (lv_at hl 0 rfl) ?_
          refine tx_get (v := .ref (hh 0 0)) hx hb hts hin hown hK hP 0 (by decide) k_10 rfl rfl dX2_ofKeeper_57 ?_
          refine md_getN (ci := 1) (C := RX1) (T := TX1) (N := 18) (x := (x.1 0)) (v := .ref (hh 0 6)) hx hb hts hin1 hown hK (xblk (t := x) (j := 0) hP (by decide)) rfl 9 (by decide) (NWs.at hN 10 rfl) rfl rfl rfl dX2_ofKeeper_60 ?_
          refine lv_iload_n hx hb dX2_ofKeeper_63 rfl (lv_at hl 1 rfl) ?_
          refine md_ia (x := (x.1 0)) (v := ((x.1 0).2 5 (ix a1))) hx hb hK (xblk (t := x) (j := 0) hP (by decide)) 5 0 rfl rfl (by first | with_reducible assumption | exact vp_in_iff.mpr ⟨by decide, by decide⟩ | exact vp_in_iff.mpr ⟨by omega, by omega⟩ | exact has_in (by with_reducible assumption)) rfl dX2_ofKeeper_64 ?_
          exact rt_r hx hb hr hlocks hP hD hS rfl ((show pX2_ofKeeper a1 a2 x = ((x.1 0).2 5 (ix a1)) by rw [pX2_ofKeeper, if_neg c_1, if_neg c_2, if_pos c_3, if_pos c_4]).symm.trans hres |>.symm) dX2_ofKeeper_65
        · skip
          by_cases c_5 : a2 = 1
          · refine lv_tableIn (tgt := 66) hx hb dX2_ofKeeper_23 (by rw [c_5]; decide) (by rw [c_5]; decide) (by rw [c_5]; first | done | rfl) (by decide) ?_
            refine lv_aload_n hx hb dX2_ofKeeper_66 rfl (lv_at hl 0 rfl) ?_
            refine tx_get (v := .ref (hh 0 0)) hx hb hts hin hown hK hP 0 (by decide) k_10 rfl rfl dX2_ofKeeper_67 ?_
            refine md_getN (ci := 1) (C := RX1) (T := TX1) (N := 18) (x := (x.1 0)) (v := .ref (hh 0 7)) hx hb hts hin1 hown hK (xblk (t := x) (j := 0) hP (by decide)) rfl 10 (by decide) (NWs.at hN 11 rfl) rfl rfl rfl dX2_ofKeeper_70 ?_
            refine lv_iload_n hx hb dX2_ofKeeper_73 rfl (lv_at hl 1 rfl) ?_
            refine md_ia (x := (x.1 0)) (v := ((x.1 0).2 6 (ix a1))) hx hb hK (xblk (t := x) (j := 0) hP (by decide)) 6 0 rfl rfl (by first | with_reducible assumption | exact vp_in_iff.mpr ⟨by decide, by decide⟩ | exact vp_in_iff.mpr ⟨by omega, by omega⟩ | exact has_in (by with_reducible assumption)) rfl dX2_ofKeeper_74 ?_
            exact rt_r hx hb hr hlocks hP hD hS rfl ((show pX2_ofKeeper a1 a2 x = ((x.1 0).2 6 (ix a1)) by rw [pX2_ofKeeper, if_neg c_1, if_neg c_2, if_pos c_3, if_neg c_4, if_pos c_5]).symm.trans hres |>.symm) dX2_ofKeeper_75
          · skip
            by_cases c_6 : a2 = 2
            · refine lv_tableIn (tgt := 76) hx hb dX2_ofKeeper_23 (by rw [c_6]; decide) (by rw [c_6]; decide) (by rw [c_6]; first | done | rfl) (by decide) ?_
              refine lv_aload_n hx hb dX2_ofKeeper_76 rfl (lv_at hl 0 rfl) ?_
              refine tx_get (v := .ref (hh 0 0)) hx hb hts hin hown hK hP 0 (by decide) k_10 rfl rfl dX2_ofKeeper_77 ?_
              refine md_getN (ci := 1) (C := RX1) (T := TX1) (N := 18) (x := (x.1 0)) (v := .ref (hh 0 8)) hx hb hts hin1 hown hK (xblk (t := x) (j := 0) hP (by decide)) rfl 11 (by decide) (NWs.at hN 12 rfl) rfl rfl rfl dX2_ofKeeper_80 ?_
              refine lv_iload_n hx hb dX2_ofKeeper_83 rfl (lv_at hl 1 rfl) ?_
              refine md_ia (x := (x.1 0)) (v := ((x.1 0).2 7 (ix a1))) hx hb hK (xblk (t := x) (j := 0) hP (by decide)) 7 0 rfl rfl (by first | with_reducible assumption | exact vp_in_iff.mpr ⟨by decide, by decide⟩ | exact vp_in_iff.mpr ⟨by omega, by omega⟩ | exact has_in (by with_reducible assumption)) rfl dX2_ofKeeper_84 ?_
              exact rt_r hx hb hr hlocks hP hD hS rfl ((show pX2_ofKeeper a1 a2 x = ((x.1 0).2 7 (ix a1)) by rw [pX2_ofKeeper, if_neg c_1, if_neg c_2, if_pos c_3, if_neg c_4, if_neg c_5, if_pos c_6]).symm.trans hres |>.symm) dX2_ofKeeper_85
            · skip
              by_cases c_7 : a2 = 3
              · refine lv_tableIn (tgt := 86) hx hb dX2_ofKeeper_23 (by rw [c_7]; decide) (by rw [c_7]; decide) (by rw [c_7]; first | done | rfl) (by decide) ?_
                refine lv_aload_n hx hb dX2_ofKeeper_86 rfl (lv_at hl 0 rfl) ?_
                refine tx_get (v := .ref (hh 0 0)) hx hb hts hin hown hK hP 0 (by decide) k_10 rfl rfl dX2_ofKeeper_87 ?_
                refine md_getN (ci := 1) (C := RX1) (T := TX1) (N := 18) (x := (x.1 0)) (v := .ref (hh 0 9)) hx hb hts hin1 hown hK (xblk (t := x) (j := 0) hP (by decide)) rfl 12 (by decide) (NWs.at hN 13 rfl) rfl rfl rfl dX2_ofKeeper_90 ?_
                refine lv_iload_n hx hb dX2_ofKeeper_93 rfl (lv_at hl 1 rfl) ?_
                refine md_ia (x := (x.1 0)) (v := ((x.1 0).2 8 (ix a1))) hx hb hK (xblk (t := x) (j := 0) hP (by decide)) 8 0 rfl rfl (by first | with_reducible assumption | exact vp_in_iff.mpr ⟨by decide, by decide⟩ | exact vp_in_iff.mpr ⟨by omega, by omega⟩ | exact has_in (by with_reducible assumption)) rfl dX2_ofKeeper_94 ?_
                exact rt_r hx hb hr hlocks hP hD hS rfl ((show pX2_ofKeeper a1 a2 x = ((x.1 0).2 8 (ix a1)) by rw [pX2_ofKeeper, if_neg c_1, if_neg c_2, if_pos c_3, if_neg c_4, if_neg c_5, if_neg c_6, if_pos c_7]).symm.trans hres |>.symm) dX2_ofKeeper_95
              · skip
                by_cases c_8 : a2 = 4
                · refine lv_tableIn (tgt := 96) hx hb dX2_ofKeeper_23 (by rw [c_8]; decide) (by rw [c_8]; decide) (by rw [c_8]; first | done | rfl) (by decide) ?_
                  refine lv_aload_n hx hb dX2_ofKeeper_96 rfl (lv_at hl 0 rfl) ?_
                  refine tx_get (v := .ref (hh 0 0)) hx hb hts hin hown hK hP 0 (by decide) k_10 rfl rfl dX2_ofKeeper_97 ?_
                  refine md_getN (ci := 1) (C := RX1) (T := TX1) (N := 18) (x := (x.1 0)) (v := .ref (hh 0 10)) hx hb hts hin1 hown hK (xblk (t := x) (j := 0) hP (by decide)) rfl 13 (by decide) (NWs.at hN 14 rfl) rfl rfl rfl dX2_ofKeeper_100 ?_
                  refine lv_iload_n hx hb dX2_ofKeeper_103 rfl (lv_at hl 1 rfl) ?_
                  refine md_ia (x := (x.1 0)) (v := ((x.1 0).2 9 (ix a1))) hx hb hK (xblk (t := x) (j := 0) hP (by decide)) 9 0 rfl rfl (by first | with_reducible assumption | exact vp_in_iff.mpr ⟨by decide, by decide⟩ | exact vp_in_iff.mpr ⟨by omega, by omega⟩ | exact has_in (by with_reducible assumption)) rfl dX2_ofKeeper_104 ?_
                  exact rt_r hx hb hr hlocks hP hD hS rfl ((show pX2_ofKeeper a1 a2 x = ((x.1 0).2 9 (ix a1)) by rw [pX2_ofKeeper, if_neg c_1, if_neg c_2, if_pos c_3, if_neg c_4, if_neg c_5, if_neg c_6, if_neg c_7, if_pos c_8]).symm.trans hres |>.symm) dX2_ofKeeper_105
                · skip
                  refine lv_tableOut (tgt := 106) hx hb dX2_ofKeeper_23 (by have u_0 := lv_neT (a := 0) c_4 (by decide); have u_1 := lv_neT (a := 1) c_5 (by decide); have u_2 := lv_neT (a := 2) c_6 (by decide); have u_3 := lv_neT (a := 3) c_7 (by decide); have u_4 := lv_neT (a := 4) c_8 (by decide); omega) (by decide) ?_
                  refine lv_bipush (v := (-2)) hx hb dX2_ofKeeper_106 (by decide) ?_
                  exact rt_r hx hb hr hlocks hP hD hS rfl ((show pX2_ofKeeper a1 a2 x = (-2) by rw [pX2_ofKeeper, if_neg c_1, if_neg c_2, if_pos c_3, if_neg c_4, if_neg c_5, if_neg c_6, if_neg c_7, if_neg c_8]).symm.trans hres |>.symm) dX2_ofKeeper_108
      · have t_3 := i_nlt (z := (Int32.toInt a1)) (w := (4)) c_3 rfl (by decide)
        refine lv_iconst (v := (-1)) hx hb dX2_ofKeeper_20 (by decide) ?_
        exact rt_r hx hb hr hlocks hP hD hS rfl ((show pX2_ofKeeper a1 a2 x = (-1) by rw [pX2_ofKeeper, if_neg c_1, if_neg c_2, if_neg c_3]).symm.trans hres |>.symm) dX2_ofKeeper_21
def pX2_count (a1 : Int32) (x : TV) : Int32 := if a1 < 10 then if a1 = 0 then ((x.1 0).1 5)
    else if a1 = 1 then ((x.1 0).1 0)
      else if a1 = 2 then ((x.1 0).1 2)
        else if a1 = 3 then ((x.1 0).1 1)
          else if a1 = 4 then ((x.1 0).1 3)
            else if a1 = 5 then ((x.1 0).1 6)
              else if a1 = 6 then ((x.1 0).1 7)
                else if a1 = 7 then ((x.1 0).1 4)
                  else if a1 = 8 then if (pX1_rainIsAhead (x.1 0)) = 0 then 0
                      else 1
                    else if a1 = 9 then if (pX1_rainsAfter 0 (x.1 0)) = 0 then 0
                        else 1
                      else if a1 = 10 then (-2)
                        else if a1 = 11 then (-2)
                          else if a1 = 12 then (-2)
                            else if a1 = 13 then (-2)
                              else if a1 = 14 then (-2)
                                else if a1 = 15 then (-2)
                                  else if a1 = 16 then (-2)
                                    else if a1 = 17 then (x.2.1.1 0)
                                      else if a1 = 18 then x.2.2.1
                                        else (-2)
  else if 17 ≤ a1 then if a1 = 0 then ((x.1 0).1 5)
      else if a1 = 1 then ((x.1 0).1 0)
        else if a1 = 2 then ((x.1 0).1 2)
          else if a1 = 3 then ((x.1 0).1 1)
            else if a1 = 4 then ((x.1 0).1 3)
              else if a1 = 5 then ((x.1 0).1 6)
                else if a1 = 6 then ((x.1 0).1 7)
                  else if a1 = 7 then ((x.1 0).1 4)
                    else if a1 = 8 then if (pX1_rainIsAhead (x.1 0)) = 0 then 0
                        else 1
                      else if a1 = 9 then if (pX1_rainsAfter 0 (x.1 0)) = 0 then 0
                          else 1
                        else if a1 = 10 then (-2)
                          else if a1 = 11 then (-2)
                            else if a1 = 12 then (-2)
                              else if a1 = 13 then (-2)
                                else if a1 = 14 then (-2)
                                  else if a1 = 15 then (-2)
                                    else if a1 = 16 then (-2)
                                      else if a1 = 17 then (x.2.1.1 0)
                                        else if a1 = 18 then x.2.2.1
                                          else (-2)
    else ((x.1 0).2 0 (ix (a1 - 10)))
set_option maxHeartbeats 1000000 in
set_option maxRecDepth 100000 in
theorem ctX2_count (l : Launch) (G : va_G) (cI cC cZ cR : ClassId) (ho : Nat → Nat) (hh : Nat → Ad) (hp : Ad) (x : TV) (a1 : Int32) : Ct l yX2_count wsX2_count (rmz 2 42) G (TY cI cC cZ cR) [.ref (ho 0), .int a1] (wX cI cC cZ cR ho hh hp x) (Qi G (wX cI cC cZ cR ho hh hp x) (pX2_count a1 x) (wX cI cC cZ cR ho hh hp x)) := by
  refine Ct.ofI (cc := cX2_count) (maxL := 2) (ret := (some .int)) (by decide) rfl rfl ?_
  intro p e s m below meth c A ls E0 hP hD hS hl
  obtain ⟨hx, hb, hr, hml, hlocks, hts, hown, hK, hN, hA⟩ := E0
  have hl : lv_has ls 2 [(0, .ref (ho 0)), (1, .int a1)] := hl
  have hin : ∀ w ∈ wsX20, w ∈ wsX2_count := fun w hw => List.mem_cons_of_mem _ (List.mem_append_left _ (List.mem_append_left _ (List.mem_append_right _ (hw))))
  have hin1 : ∀ w ∈ wsX10, w ∈ wsX2_count := fun w hw => List.mem_cons_of_mem _ (List.mem_append_left _ (List.mem_append_right _ (hw)))
  have hin0 : ∀ w ∈ wsX00, w ∈ wsX2_count := fun w hw => List.mem_cons_of_mem _ (List.mem_append_right _ (hw))
  have k_10 : (Cond.fieldLink RX2 10 RX2 (TX2 0).2.1 (TX2 0).2.2.1).before ([.ref (ho 0), .int a1] : List Value).toArray s = true := hts _ (List.mem_of_getElem? (i := 1) rfl)
  have k_40 : (Cond.fieldLink RX2 40 RX2 (TX2 7).2.1 (TX2 7).2.2.1).before ([.ref (ho 0), .int a1] : List Value).toArray s = true := hts _ (List.mem_of_getElem? (i := 2) rfl)
  have k_26 : (Cond.fieldLink RX2 26 RX2 (TX2 4).2.1 (TX2 4).2.2.1).before ([.ref (ho 0), .int a1] : List Value).toArray s = true := hts _ (List.mem_of_getElem? (i := 3) rfl)
  generalize hres : pX2_count a1 x = res
  refine lv_iload_n hx hb dX2_count_0 rfl (lv_at hl 1 rfl) ?_
  refine lv_bipush (v := 10) hx hb dX2_count_1 (by decide) ?_
  refine lv_icmp_lt (tgt := 25) hx hb dX2_count_3 (by decide) (fun c_1 => ?_) (fun c_1 => ?_)
  · have t_1 := i_lt (z := (Int32.toInt a1)) (w := (10)) c_1 rfl (by decide)
    refine lv_iload_n hx hb dX2_count_25 rfl (lv_at hl 1 rfl) ?_
    by_cases c_2 : a1 = 0
    · refine lv_tableIn (tgt := 116) hx hb dX2_count_26 (by rw [c_2]; decide) (by rw [c_2]; decide) (by rw [c_2]; first | done | rfl) (by decide) ?_
      refine lv_aload_n hx hb dX2_count_116 rfl (lv_at hl 0 rfl) ?_
      refine tx_get (v := .ref (hh 0 0)) hx hb hts hin hown hK hP 0 (by decide) k_10 rfl rfl dX2_count_117 ?_
      refine md_getN (ci := 1) (C := RX1) (T := TX1) (N := 18) (x := (x.1 0)) (v := .int ((x.1 0).1 5)) hx hb hts hin1 hown hK (xblk (t := x) (j := 0) hP (by decide)) rfl 15 (by decide) (NWs.at hN 16 rfl) rfl rfl rfl dX2_count_120 ?_
      exact rt_r hx hb hr hlocks hP hD hS rfl ((show pX2_count a1 x = ((x.1 0).1 5) by rw [pX2_count, if_pos c_1, if_pos c_2]).symm.trans hres |>.symm) dX2_count_123
    · skip
      by_cases c_3 : a1 = 1
      · refine lv_tableIn (tgt := 124) hx hb dX2_count_26 (by rw [c_3]; decide) (by rw [c_3]; decide) (by rw [c_3]; first | done | rfl) (by decide) ?_
        refine lv_aload_n hx hb dX2_count_124 rfl (lv_at hl 0 rfl) ?_
        refine tx_get (v := .ref (hh 0 0)) hx hb hts hin hown hK hP 0 (by decide) k_10 rfl rfl dX2_count_125 ?_
        refine md_getN (ci := 1) (C := RX1) (T := TX1) (N := 18) (x := (x.1 0)) (v := .int ((x.1 0).1 0)) hx hb hts hin1 hown hK (xblk (t := x) (j := 0) hP (by decide)) rfl 1 (by decide) (NWs.at hN 2 rfl) rfl rfl rfl dX2_count_128 ?_
        exact rt_r hx hb hr hlocks hP hD hS rfl ((show pX2_count a1 x = ((x.1 0).1 0) by rw [pX2_count, if_pos c_1, if_neg c_2, if_pos c_3]).symm.trans hres |>.symm) dX2_count_131
      · skip
        by_cases c_4 : a1 = 2
        · refine lv_tableIn (tgt := 132) hx hb dX2_count_26 (by rw [c_4]; decide) (by rw [c_4]; decide) (by rw [c_4]; first | done | rfl) (by decide) ?_
          refine lv_aload_n hx hb dX2_count_132 rfl (lv_at hl 0 rfl) ?_
          refine tx_get (v := .ref (hh 0 0)) hx hb hts hin hown hK hP 0 (by decide) k_10 rfl rfl dX2_count_133 ?_
          refine md_getN (ci := 1) (C := RX1) (T := TX1) (N := 18) (x := (x.1 0)) (v := .int ((x.1 0).1 2)) hx hb hts hin1 hown hK (xblk (t := x) (j := 0) hP (by decide)) rfl 3 (by decide) (NWs.at hN 4 rfl) rfl rfl rfl dX2_count_136 ?_
          exact rt_r hx hb hr hlocks hP hD hS rfl ((show pX2_count a1 x = ((x.1 0).1 2) by rw [pX2_count, if_pos c_1, if_neg c_2, if_neg c_3, if_pos c_4]).symm.trans hres |>.symm) dX2_count_139
        · skip
          by_cases c_5 : a1 = 3
          · refine lv_tableIn (tgt := 140) hx hb dX2_count_26 (by rw [c_5]; decide) (by rw [c_5]; decide) (by rw [c_5]; first | done | rfl) (by decide) ?_
            refine lv_aload_n hx hb dX2_count_140 rfl (lv_at hl 0 rfl) ?_
            refine tx_get (v := .ref (hh 0 0)) hx hb hts hin hown hK hP 0 (by decide) k_10 rfl rfl dX2_count_141 ?_
            refine md_getN (ci := 1) (C := RX1) (T := TX1) (N := 18) (x := (x.1 0)) (v := .int ((x.1 0).1 1)) hx hb hts hin1 hown hK (xblk (t := x) (j := 0) hP (by decide)) rfl 2 (by decide) (NWs.at hN 3 rfl) rfl rfl rfl dX2_count_144 ?_
            exact rt_r hx hb hr hlocks hP hD hS rfl ((show pX2_count a1 x = ((x.1 0).1 1) by rw [pX2_count, if_pos c_1, if_neg c_2, if_neg c_3, if_neg c_4, if_pos c_5]).symm.trans hres |>.symm) dX2_count_147
          · skip
            by_cases c_6 : a1 = 4
            · refine lv_tableIn (tgt := 148) hx hb dX2_count_26 (by rw [c_6]; decide) (by rw [c_6]; decide) (by rw [c_6]; first | done | rfl) (by decide) ?_
              refine lv_aload_n hx hb dX2_count_148 rfl (lv_at hl 0 rfl) ?_
              refine tx_get (v := .ref (hh 0 0)) hx hb hts hin hown hK hP 0 (by decide) k_10 rfl rfl dX2_count_149 ?_
              refine md_getN (ci := 1) (C := RX1) (T := TX1) (N := 18) (x := (x.1 0)) (v := .int ((x.1 0).1 3)) hx hb hts hin1 hown hK (xblk (t := x) (j := 0) hP (by decide)) rfl 8 (by decide) (NWs.at hN 9 rfl) rfl rfl rfl dX2_count_152 ?_
              exact rt_r hx hb hr hlocks hP hD hS rfl ((show pX2_count a1 x = ((x.1 0).1 3) by rw [pX2_count, if_pos c_1, if_neg c_2, if_neg c_3, if_neg c_4, if_neg c_5, if_pos c_6]).symm.trans hres |>.symm) dX2_count_155
            · skip
              by_cases c_7 : a1 = 5
              · refine lv_tableIn (tgt := 156) hx hb dX2_count_26 (by rw [c_7]; decide) (by rw [c_7]; decide) (by rw [c_7]; first | done | rfl) (by decide) ?_
                refine lv_aload_n hx hb dX2_count_156 rfl (lv_at hl 0 rfl) ?_
                refine tx_get (v := .ref (hh 0 0)) hx hb hts hin hown hK hP 0 (by decide) k_10 rfl rfl dX2_count_157 ?_
                refine md_getN (ci := 1) (C := RX1) (T := TX1) (N := 18) (x := (x.1 0)) (v := .int ((x.1 0).1 6)) hx hb hts hin1 hown hK (xblk (t := x) (j := 0) hP (by decide)) rfl 16 (by decide) (NWs.at hN 17 rfl) rfl rfl rfl dX2_count_160 ?_
                exact rt_r hx hb hr hlocks hP hD hS rfl ((show pX2_count a1 x = ((x.1 0).1 6) by rw [pX2_count, if_pos c_1, if_neg c_2, if_neg c_3, if_neg c_4, if_neg c_5, if_neg c_6, if_pos c_7]).symm.trans hres |>.symm) dX2_count_163
              · skip
                by_cases c_8 : a1 = 6
                · refine lv_tableIn (tgt := 164) hx hb dX2_count_26 (by rw [c_8]; decide) (by rw [c_8]; decide) (by rw [c_8]; first | done | rfl) (by decide) ?_
                  refine lv_aload_n hx hb dX2_count_164 rfl (lv_at hl 0 rfl) ?_
                  refine tx_get (v := .ref (hh 0 0)) hx hb hts hin hown hK hP 0 (by decide) k_10 rfl rfl dX2_count_165 ?_
                  refine md_getN (ci := 1) (C := RX1) (T := TX1) (N := 18) (x := (x.1 0)) (v := .int ((x.1 0).1 7)) hx hb hts hin1 hown hK (xblk (t := x) (j := 0) hP (by decide)) rfl 17 (by decide) (NWs.at hN 18 rfl) rfl rfl rfl dX2_count_168 ?_
                  exact rt_r hx hb hr hlocks hP hD hS rfl ((show pX2_count a1 x = ((x.1 0).1 7) by rw [pX2_count, if_pos c_1, if_neg c_2, if_neg c_3, if_neg c_4, if_neg c_5, if_neg c_6, if_neg c_7, if_pos c_8]).symm.trans hres |>.symm) dX2_count_171
                · skip
                  by_cases c_9 : a1 = 7
                  · refine lv_tableIn (tgt := 172) hx hb dX2_count_26 (by rw [c_9]; decide) (by rw [c_9]; decide) (by rw [c_9]; first | done | rfl) (by decide) ?_
                    refine lv_aload_n hx hb dX2_count_172 rfl (lv_at hl 0 rfl) ?_
                    refine tx_get (v := .ref (hh 0 0)) hx hb hts hin hown hK hP 0 (by decide) k_10 rfl rfl dX2_count_173 ?_
                    refine md_getN (ci := 1) (C := RX1) (T := TX1) (N := 18) (x := (x.1 0)) (v := .int ((x.1 0).1 4)) hx hb hts hin1 hown hK (xblk (t := x) (j := 0) hP (by decide)) rfl 14 (by decide) (NWs.at hN 15 rfl) rfl rfl rfl dX2_count_176 ?_
                    exact rt_r hx hb hr hlocks hP hD hS rfl ((show pX2_count a1 x = ((x.1 0).1 4) by rw [pX2_count, if_pos c_1, if_neg c_2, if_neg c_3, if_neg c_4, if_neg c_5, if_neg c_6, if_neg c_7, if_neg c_8, if_pos c_9]).symm.trans hres |>.symm) dX2_count_179
                  · skip
                    by_cases c_10 : a1 = 8
                    · refine lv_tableIn (tgt := 180) hx hb dX2_count_26 (by rw [c_10]; decide) (by rw [c_10]; decide) (by rw [c_10]; first | done | rfl) (by decide) ?_
                      refine lv_aload_n hx hb dX2_count_180 rfl (lv_at hl 0 rfl) ?_
                      refine tx_get (v := .ref (hh 0 0)) hx hb hts hin hown hK hP 0 (by decide) k_10 rfl rfl dX2_count_181 ?_
                      refine gp_i (wX_1 (j := 0) (by decide)) (wX_1 (j := 0) (by decide)) hP hD hS hA (rn_VN (As := []) (rest := []) ⟨hx, hb, hml, hown, hts⟩ (ctX1_rainIsAhead l G cI cC cZ cR (hh 0) (x.1 0)) ⟨va_cnB 0 hts gX2_count_X1_rainIsAhead_n139 rfl rfl rfl (NWs.nw hN 35 rfl) (hts _ (List.mem_of_getElem? (i := 5) rfl)) (by decide +kernel) ⟨Nat.le_of_ble_eq_true rfl, Nat.le_of_ble_eq_true rfl⟩, (hts _ (List.mem_of_getElem? (i := 4) rfl)), (hts _ (List.mem_of_getElem? (i := 6) rfl))⟩ (md_recv hK (xblk (j := 0) hP (by decide)) rfl) hK (xblk (j := 0) hP (by decide)) (xblkD (j := 0) hD (by decide)) hN rfl hl.1 rfl (Nat.le_of_ble_eq_true rfl) dX2_count_184) (fun H locs hP hD hS => ?_)
                      refine lv_if_eq (tgt := 194) hx hb dX2_count_187 (by decide) (fun c_11 => ?_) (fun c_11 => ?_)
                      · refine lv_iconst (v := 0) hx hb dX2_count_194 (by decide) ?_
                        exact rt_r hx hb hr hlocks hP hD hS rfl ((show pX2_count a1 x = 0 by rw [pX2_count, if_pos c_1, if_neg c_2, if_neg c_3, if_neg c_4, if_neg c_5, if_neg c_6, if_neg c_7, if_neg c_8, if_neg c_9, if_pos c_10, if_pos c_11]).symm.trans hres |>.symm) dX2_count_195
                      · refine lv_iconst (v := 1) hx hb dX2_count_190 (by decide) ?_
                        refine lv_goto (tgt := 195) hx hb dX2_count_191 (by decide) ?_
                        exact rt_r hx hb hr hlocks hP hD hS rfl ((show pX2_count a1 x = 1 by rw [pX2_count, if_pos c_1, if_neg c_2, if_neg c_3, if_neg c_4, if_neg c_5, if_neg c_6, if_neg c_7, if_neg c_8, if_neg c_9, if_pos c_10, if_neg c_11]).symm.trans hres |>.symm) dX2_count_195
                    · skip
                      by_cases c_12 : a1 = 9
                      · refine lv_tableIn (tgt := 196) hx hb dX2_count_26 (by rw [c_12]; decide) (by rw [c_12]; decide) (by rw [c_12]; first | done | rfl) (by decide) ?_
                        refine lv_aload_n hx hb dX2_count_196 rfl (lv_at hl 0 rfl) ?_
                        refine tx_get (v := .ref (hh 0 0)) hx hb hts hin hown hK hP 0 (by decide) k_10 rfl rfl dX2_count_197 ?_
                        refine lv_iconst (v := 0) hx hb dX2_count_200 (by decide) ?_
                        refine gp_i (wX_1 (j := 0) (by decide)) (wX_1 (j := 0) (by decide)) hP hD hS hA (rn_VN (As := [.int 0]) (rest := []) ⟨hx, hb, hml, hown, hts⟩ (ctX1_rainsAfter l G cI cC cZ cR (hh 0) (x.1 0) 0) ⟨va_cnB 1 hts gX2_count_X1_rainsAfter_n143 rfl rfl rfl (NWs.nw hN 36 rfl) (hts _ (List.mem_of_getElem? (i := 5) rfl)) (by decide +kernel) ⟨Nat.le_of_ble_eq_true rfl, Nat.le_of_ble_eq_true rfl⟩, (hts _ (List.mem_of_getElem? (i := 10) rfl)), (hts _ (List.mem_of_getElem? (i := 11) rfl))⟩ (md_recv hK (xblk (j := 0) hP (by decide)) rfl) hK (xblk (j := 0) hP (by decide)) (xblkD (j := 0) hD (by decide)) hN rfl hl.1 rfl (Nat.le_of_ble_eq_true rfl) dX2_count_201) (fun H locs hP hD hS => ?_)
                        refine lv_if_eq (tgt := 211) hx hb dX2_count_204 (by decide) (fun c_13 => ?_) (fun c_13 => ?_)
                        · refine lv_iconst (v := 0) hx hb dX2_count_211 (by decide) ?_
                          exact rt_r hx hb hr hlocks hP hD hS rfl ((show pX2_count a1 x = 0 by rw [pX2_count, if_pos c_1, if_neg c_2, if_neg c_3, if_neg c_4, if_neg c_5, if_neg c_6, if_neg c_7, if_neg c_8, if_neg c_9, if_neg c_10, if_pos c_12, if_pos c_13]).symm.trans hres |>.symm) dX2_count_212
                        · refine lv_iconst (v := 1) hx hb dX2_count_207 (by decide) ?_
                          refine lv_goto (tgt := 212) hx hb dX2_count_208 (by decide) ?_
                          exact rt_r hx hb hr hlocks hP hD hS rfl ((show pX2_count a1 x = 1 by rw [pX2_count, if_pos c_1, if_neg c_2, if_neg c_3, if_neg c_4, if_neg c_5, if_neg c_6, if_neg c_7, if_neg c_8, if_neg c_9, if_neg c_10, if_pos c_12, if_neg c_13]).symm.trans hres |>.symm) dX2_count_212
                      · skip
                        by_cases c_14 : a1 = 10
                        · refine lv_tableIn (tgt := 226) hx hb dX2_count_26 (by rw [c_14]; decide) (by rw [c_14]; decide) (by rw [c_14]; first | done | rfl) (by decide) ?_
                          refine lv_bipush (v := (-2)) hx hb dX2_count_226 (by decide) ?_
                          exact rt_r hx hb hr hlocks hP hD hS rfl ((show pX2_count a1 x = (-2) by rw [pX2_count, if_pos c_1, if_neg c_2, if_neg c_3, if_neg c_4, if_neg c_5, if_neg c_6, if_neg c_7, if_neg c_8, if_neg c_9, if_neg c_10, if_neg c_12, if_pos c_14]).symm.trans hres |>.symm) dX2_count_228
                        · skip
                          by_cases c_15 : a1 = 11
                          · refine lv_tableIn (tgt := 226) hx hb dX2_count_26 (by rw [c_15]; decide) (by rw [c_15]; decide) (by rw [c_15]; first | done | rfl) (by decide) ?_
                            refine lv_bipush (v := (-2)) hx hb dX2_count_226 (by decide) ?_
                            exact rt_r hx hb hr hlocks hP hD hS rfl ((show pX2_count a1 x = (-2) by rw [pX2_count, if_pos c_1, if_neg c_2, if_neg c_3, if_neg c_4, if_neg c_5, if_neg c_6, if_neg c_7, if_neg c_8, if_neg c_9, if_neg c_10, if_neg c_12, if_neg c_14, if_pos c_15]).symm.trans hres |>.symm) dX2_count_228
                          · skip
                            by_cases c_16 : a1 = 12
                            · refine lv_tableIn (tgt := 226) hx hb dX2_count_26 (by rw [c_16]; decide) (by rw [c_16]; decide) (by rw [c_16]; first | done | rfl) (by decide) ?_
                              refine lv_bipush (v := (-2)) hx hb dX2_count_226 (by decide) ?_
                              exact rt_r hx hb hr hlocks hP hD hS rfl ((show pX2_count a1 x = (-2) by rw [pX2_count, if_pos c_1, if_neg c_2, if_neg c_3, if_neg c_4, if_neg c_5, if_neg c_6, if_neg c_7, if_neg c_8, if_neg c_9, if_neg c_10, if_neg c_12, if_neg c_14, if_neg c_15, if_pos c_16]).symm.trans hres |>.symm) dX2_count_228
                            · skip
                              by_cases c_17 : a1 = 13
                              · refine lv_tableIn (tgt := 226) hx hb dX2_count_26 (by rw [c_17]; decide) (by rw [c_17]; decide) (by rw [c_17]; first | done | rfl) (by decide) ?_
                                refine lv_bipush (v := (-2)) hx hb dX2_count_226 (by decide) ?_
                                exact rt_r hx hb hr hlocks hP hD hS rfl ((show pX2_count a1 x = (-2) by rw [pX2_count, if_pos c_1, if_neg c_2, if_neg c_3, if_neg c_4, if_neg c_5, if_neg c_6, if_neg c_7, if_neg c_8, if_neg c_9, if_neg c_10, if_neg c_12, if_neg c_14, if_neg c_15, if_neg c_16, if_pos c_17]).symm.trans hres |>.symm) dX2_count_228
                              · skip
                                by_cases c_18 : a1 = 14
                                · refine lv_tableIn (tgt := 226) hx hb dX2_count_26 (by rw [c_18]; decide) (by rw [c_18]; decide) (by rw [c_18]; first | done | rfl) (by decide) ?_
                                  refine lv_bipush (v := (-2)) hx hb dX2_count_226 (by decide) ?_
                                  exact rt_r hx hb hr hlocks hP hD hS rfl ((show pX2_count a1 x = (-2) by rw [pX2_count, if_pos c_1, if_neg c_2, if_neg c_3, if_neg c_4, if_neg c_5, if_neg c_6, if_neg c_7, if_neg c_8, if_neg c_9, if_neg c_10, if_neg c_12, if_neg c_14, if_neg c_15, if_neg c_16, if_neg c_17, if_pos c_18]).symm.trans hres |>.symm) dX2_count_228
                                · skip
                                  by_cases c_19 : a1 = 15
                                  · refine lv_tableIn (tgt := 226) hx hb dX2_count_26 (by rw [c_19]; decide) (by rw [c_19]; decide) (by rw [c_19]; first | done | rfl) (by decide) ?_
                                    refine lv_bipush (v := (-2)) hx hb dX2_count_226 (by decide) ?_
                                    exact rt_r hx hb hr hlocks hP hD hS rfl ((show pX2_count a1 x = (-2) by rw [pX2_count, if_pos c_1, if_neg c_2, if_neg c_3, if_neg c_4, if_neg c_5, if_neg c_6, if_neg c_7, if_neg c_8, if_neg c_9, if_neg c_10, if_neg c_12, if_neg c_14, if_neg c_15, if_neg c_16, if_neg c_17, if_neg c_18, if_pos c_19]).symm.trans hres |>.symm) dX2_count_228
                                  · skip
                                    by_cases c_20 : a1 = 16
                                    · refine lv_tableIn (tgt := 226) hx hb dX2_count_26 (by rw [c_20]; decide) (by rw [c_20]; decide) (by rw [c_20]; first | done | rfl) (by decide) ?_
                                      refine lv_bipush (v := (-2)) hx hb dX2_count_226 (by decide) ?_
                                      exact rt_r hx hb hr hlocks hP hD hS rfl ((show pX2_count a1 x = (-2) by rw [pX2_count, if_pos c_1, if_neg c_2, if_neg c_3, if_neg c_4, if_neg c_5, if_neg c_6, if_neg c_7, if_neg c_8, if_neg c_9, if_neg c_10, if_neg c_12, if_neg c_14, if_neg c_15, if_neg c_16, if_neg c_17, if_neg c_18, if_neg c_19, if_pos c_20]).symm.trans hres |>.symm) dX2_count_228
                                    · skip
                                      by_cases c_21 : a1 = 17
                                      · refine lv_tableIn (tgt := 213) hx hb dX2_count_26 (by rw [c_21]; decide) (by rw [c_21]; decide) (by rw [c_21]; first | done | rfl) (by decide) ?_
                                        refine lv_aload_n hx hb dX2_count_213 rfl (lv_at hl 0 rfl) ?_
                                        refine tx_get (v := .ref (hp 0)) hx hb hts hin hown hK hP 7 (by decide) k_40 rfl rfl dX2_count_214 ?_
                                        refine md_getN (ci := 0) (C := RX0) (T := TX0) (N := 8) (x := x.2.1) (v := .int (x.2.1.1 0)) hx hb hts hin0 hown hK (xblkP (t := x) hP) rfl 1 (by decide) (NWs.at hN 19 rfl) rfl rfl rfl dX2_count_217 ?_
                                        exact rt_r hx hb hr hlocks hP hD hS rfl ((show pX2_count a1 x = (x.2.1.1 0) by rw [pX2_count, if_pos c_1, if_neg c_2, if_neg c_3, if_neg c_4, if_neg c_5, if_neg c_6, if_neg c_7, if_neg c_8, if_neg c_9, if_neg c_10, if_neg c_12, if_neg c_14, if_neg c_15, if_neg c_16, if_neg c_17, if_neg c_18, if_neg c_19, if_neg c_20, if_pos c_21]).symm.trans hres |>.symm) dX2_count_220
                                      · skip
                                        by_cases c_22 : a1 = 18
                                        · refine lv_tableIn (tgt := 221) hx hb dX2_count_26 (by rw [c_22]; decide) (by rw [c_22]; decide) (by rw [c_22]; first | done | rfl) (by decide) ?_
                                          refine lv_aload_n hx hb dX2_count_221 rfl (lv_at hl 0 rfl) ?_
                                          refine tx_get (v := .int x.2.2.1) hx hb hts hin hown hK hP 4 (by decide) k_26 rfl rfl dX2_count_222 ?_
                                          exact rt_r hx hb hr hlocks hP hD hS rfl ((show pX2_count a1 x = x.2.2.1 by rw [pX2_count, if_pos c_1, if_neg c_2, if_neg c_3, if_neg c_4, if_neg c_5, if_neg c_6, if_neg c_7, if_neg c_8, if_neg c_9, if_neg c_10, if_neg c_12, if_neg c_14, if_neg c_15, if_neg c_16, if_neg c_17, if_neg c_18, if_neg c_19, if_neg c_20, if_neg c_21, if_pos c_22]).symm.trans hres |>.symm) dX2_count_225
                                        · skip
                                          refine lv_tableOut (tgt := 226) hx hb dX2_count_26 (by have u_0 := lv_neT (a := 0) c_2 (by decide); have u_1 := lv_neT (a := 1) c_3 (by decide); have u_2 := lv_neT (a := 2) c_4 (by decide); have u_3 := lv_neT (a := 3) c_5 (by decide); have u_4 := lv_neT (a := 4) c_6 (by decide); have u_5 := lv_neT (a := 5) c_7 (by decide); have u_6 := lv_neT (a := 6) c_8 (by decide); have u_7 := lv_neT (a := 7) c_9 (by decide); have u_8 := lv_neT (a := 8) c_10 (by decide); have u_9 := lv_neT (a := 9) c_12 (by decide); have u_10 := lv_neT (a := 10) c_14 (by decide); have u_11 := lv_neT (a := 11) c_15 (by decide); have u_12 := lv_neT (a := 12) c_16 (by decide); have u_13 := lv_neT (a := 13) c_17 (by decide); have u_14 := lv_neT (a := 14) c_18 (by decide); have u_15 := lv_neT (a := 15) c_19 (by decide); have u_16 := lv_neT (a := 16) c_20 (by decide); have u_17 := lv_neT (a := 17) c_21 (by decide); have u_18 := lv_neT (a := 18) c_22 (by decide); omega) (by decide) ?_
                                          refine lv_bipush (v := (-2)) hx hb dX2_count_226 (by decide) ?_
                                          exact rt_r hx hb hr hlocks hP hD hS rfl ((show pX2_count a1 x = (-2) by rw [pX2_count, if_pos c_1, if_neg c_2, if_neg c_3, if_neg c_4, if_neg c_5, if_neg c_6, if_neg c_7, if_neg c_8, if_neg c_9, if_neg c_10, if_neg c_12, if_neg c_14, if_neg c_15, if_neg c_16, if_neg c_17, if_neg c_18, if_neg c_19, if_neg c_20, if_neg c_21, if_neg c_22]).symm.trans hres |>.symm) dX2_count_228
  · have t_1 := i_nlt (z := (Int32.toInt a1)) (w := (10)) c_1 rfl (by decide)
    refine lv_iload_n hx hb dX2_count_6 rfl (lv_at hl 1 rfl) ?_
    refine lv_bipush (v := 17) hx hb dX2_count_7 (by decide) ?_
    refine lv_icmp_ge (tgt := 25) hx hb dX2_count_9 (by decide) (fun c_23 => ?_) (fun c_23 => ?_)
    · have t_23 := i_le (z := (17)) (w := (Int32.toInt a1)) c_23 (by decide) rfl
      refine lv_iload_n hx hb dX2_count_25 rfl (lv_at hl 1 rfl) ?_
      by_cases c_24 : a1 = 0
      · refine lv_tableIn (tgt := 116) hx hb dX2_count_26 (by rw [c_24]; decide) (by rw [c_24]; decide) (by rw [c_24]; first | done | rfl) (by decide) ?_
        refine lv_aload_n hx hb dX2_count_116 rfl (lv_at hl 0 rfl) ?_
        refine tx_get (v := .ref (hh 0 0)) hx hb hts hin hown hK hP 0 (by decide) k_10 rfl rfl dX2_count_117 ?_
        refine md_getN (ci := 1) (C := RX1) (T := TX1) (N := 18) (x := (x.1 0)) (v := .int ((x.1 0).1 5)) hx hb hts hin1 hown hK (xblk (t := x) (j := 0) hP (by decide)) rfl 15 (by decide) (NWs.at hN 16 rfl) rfl rfl rfl dX2_count_120 ?_
        exact rt_r hx hb hr hlocks hP hD hS rfl ((show pX2_count a1 x = ((x.1 0).1 5) by rw [pX2_count, if_neg c_1, if_pos c_23, if_pos c_24]).symm.trans hres |>.symm) dX2_count_123
      · skip
        by_cases c_25 : a1 = 1
        · refine lv_tableIn (tgt := 124) hx hb dX2_count_26 (by rw [c_25]; decide) (by rw [c_25]; decide) (by rw [c_25]; first | done | rfl) (by decide) ?_
          refine lv_aload_n hx hb dX2_count_124 rfl (lv_at hl 0 rfl) ?_
          refine tx_get (v := .ref (hh 0 0)) hx hb hts hin hown hK hP 0 (by decide) k_10 rfl rfl dX2_count_125 ?_
          refine md_getN (ci := 1) (C := RX1) (T := TX1) (N := 18) (x := (x.1 0)) (v := .int ((x.1 0).1 0)) hx hb hts hin1 hown hK (xblk (t := x) (j := 0) hP (by decide)) rfl 1 (by decide) (NWs.at hN 2 rfl) rfl rfl rfl dX2_count_128 ?_
          exact rt_r hx hb hr hlocks hP hD hS rfl ((show pX2_count a1 x = ((x.1 0).1 0) by rw [pX2_count, if_neg c_1, if_pos c_23, if_neg c_24, if_pos c_25]).symm.trans hres |>.symm) dX2_count_131
        · skip
          by_cases c_26 : a1 = 2
          · refine lv_tableIn (tgt := 132) hx hb dX2_count_26 (by rw [c_26]; decide) (by rw [c_26]; decide) (by rw [c_26]; first | done | rfl) (by decide) ?_
            refine lv_aload_n hx hb dX2_count_132 rfl (lv_at hl 0 rfl) ?_
            refine tx_get (v := .ref (hh 0 0)) hx hb hts hin hown hK hP 0 (by decide) k_10 rfl rfl dX2_count_133 ?_
            refine md_getN (ci := 1) (C := RX1) (T := TX1) (N := 18) (x := (x.1 0)) (v := .int ((x.1 0).1 2)) hx hb hts hin1 hown hK (xblk (t := x) (j := 0) hP (by decide)) rfl 3 (by decide) (NWs.at hN 4 rfl) rfl rfl rfl dX2_count_136 ?_
            exact rt_r hx hb hr hlocks hP hD hS rfl ((show pX2_count a1 x = ((x.1 0).1 2) by rw [pX2_count, if_neg c_1, if_pos c_23, if_neg c_24, if_neg c_25, if_pos c_26]).symm.trans hres |>.symm) dX2_count_139
          · skip
            by_cases c_27 : a1 = 3
            · refine lv_tableIn (tgt := 140) hx hb dX2_count_26 (by rw [c_27]; decide) (by rw [c_27]; decide) (by rw [c_27]; first | done | rfl) (by decide) ?_
              refine lv_aload_n hx hb dX2_count_140 rfl (lv_at hl 0 rfl) ?_
              refine tx_get (v := .ref (hh 0 0)) hx hb hts hin hown hK hP 0 (by decide) k_10 rfl rfl dX2_count_141 ?_
              refine md_getN (ci := 1) (C := RX1) (T := TX1) (N := 18) (x := (x.1 0)) (v := .int ((x.1 0).1 1)) hx hb hts hin1 hown hK (xblk (t := x) (j := 0) hP (by decide)) rfl 2 (by decide) (NWs.at hN 3 rfl) rfl rfl rfl dX2_count_144 ?_
              exact rt_r hx hb hr hlocks hP hD hS rfl ((show pX2_count a1 x = ((x.1 0).1 1) by rw [pX2_count, if_neg c_1, if_pos c_23, if_neg c_24, if_neg c_25, if_neg c_26, if_pos c_27]).symm.trans hres |>.symm) dX2_count_147
            · skip
              by_cases c_28 : a1 = 4
              · refine lv_tableIn (tgt := 148) hx hb dX2_count_26 (by rw [c_28]; decide) (by rw [c_28]; decide) (by rw [c_28]; first | done | rfl) (by decide) ?_
                refine lv_aload_n hx hb dX2_count_148 rfl (lv_at hl 0 rfl) ?_
                refine tx_get (v := .ref (hh 0 0)) hx hb hts hin hown hK hP 0 (by decide) k_10 rfl rfl dX2_count_149 ?_
                refine md_getN (ci := 1) (C := RX1) (T := TX1) (N := 18) (x := (x.1 0)) (v := .int ((x.1 0).1 3)) hx hb hts hin1 hown hK (xblk (t := x) (j := 0) hP (by decide)) rfl 8 (by decide) (NWs.at hN 9 rfl) rfl rfl rfl dX2_count_152 ?_
                exact rt_r hx hb hr hlocks hP hD hS rfl ((show pX2_count a1 x = ((x.1 0).1 3) by rw [pX2_count, if_neg c_1, if_pos c_23, if_neg c_24, if_neg c_25, if_neg c_26, if_neg c_27, if_pos c_28]).symm.trans hres |>.symm) dX2_count_155
              · skip
                by_cases c_29 : a1 = 5
                · refine lv_tableIn (tgt := 156) hx hb dX2_count_26 (by rw [c_29]; decide) (by rw [c_29]; decide) (by rw [c_29]; first | done | rfl) (by decide) ?_
                  refine lv_aload_n hx hb dX2_count_156 rfl (lv_at hl 0 rfl) ?_
                  refine tx_get (v := .ref (hh 0 0)) hx hb hts hin hown hK hP 0 (by decide) k_10 rfl rfl dX2_count_157 ?_
                  refine md_getN (ci := 1) (C := RX1) (T := TX1) (N := 18) (x := (x.1 0)) (v := .int ((x.1 0).1 6)) hx hb hts hin1 hown hK (xblk (t := x) (j := 0) hP (by decide)) rfl 16 (by decide) (NWs.at hN 17 rfl) rfl rfl rfl dX2_count_160 ?_
                  exact rt_r hx hb hr hlocks hP hD hS rfl ((show pX2_count a1 x = ((x.1 0).1 6) by rw [pX2_count, if_neg c_1, if_pos c_23, if_neg c_24, if_neg c_25, if_neg c_26, if_neg c_27, if_neg c_28, if_pos c_29]).symm.trans hres |>.symm) dX2_count_163
                · skip
                  by_cases c_30 : a1 = 6
                  · refine lv_tableIn (tgt := 164) hx hb dX2_count_26 (by rw [c_30]; decide) (by rw [c_30]; decide) (by rw [c_30]; first | done | rfl) (by decide) ?_
                    refine lv_aload_n hx hb dX2_count_164 rfl (lv_at hl 0 rfl) ?_
                    refine tx_get (v := .ref (hh 0 0)) hx hb hts hin hown hK hP 0 (by decide) k_10 rfl rfl dX2_count_165 ?_
                    refine md_getN (ci := 1) (C := RX1) (T := TX1) (N := 18) (x := (x.1 0)) (v := .int ((x.1 0).1 7)) hx hb hts hin1 hown hK (xblk (t := x) (j := 0) hP (by decide)) rfl 17 (by decide) (NWs.at hN 18 rfl) rfl rfl rfl dX2_count_168 ?_
                    exact rt_r hx hb hr hlocks hP hD hS rfl ((show pX2_count a1 x = ((x.1 0).1 7) by rw [pX2_count, if_neg c_1, if_pos c_23, if_neg c_24, if_neg c_25, if_neg c_26, if_neg c_27, if_neg c_28, if_neg c_29, if_pos c_30]).symm.trans hres |>.symm) dX2_count_171
                  · skip
                    by_cases c_31 : a1 = 7
                    · refine lv_tableIn (tgt := 172) hx hb dX2_count_26 (by rw [c_31]; decide) (by rw [c_31]; decide) (by rw [c_31]; first | done | rfl) (by decide) ?_
                      refine lv_aload_n hx hb dX2_count_172 rfl (lv_at hl 0 rfl) ?_
                      refine tx_get (v := .ref (hh 0 0)) hx hb hts hin hown hK hP 0 (by decide) k_10 rfl rfl dX2_count_173 ?_
                      refine md_getN (ci := 1) (C := RX1) (T := TX1) (N := 18) (x := (x.1 0)) (v := .int ((x.1 0).1 4)) hx hb hts hin1 hown hK (xblk (t := x) (j := 0) hP (by decide)) rfl 14 (by decide) (NWs.at hN 15 rfl) rfl rfl rfl dX2_count_176 ?_
                      exact rt_r hx hb hr hlocks hP hD hS rfl ((show pX2_count a1 x = ((x.1 0).1 4) by rw [pX2_count, if_neg c_1, if_pos c_23, if_neg c_24, if_neg c_25, if_neg c_26, if_neg c_27, if_neg c_28, if_neg c_29, if_neg c_30, if_pos c_31]).symm.trans hres |>.symm) dX2_count_179
                    · skip
                      by_cases c_32 : a1 = 8
                      · refine lv_tableIn (tgt := 180) hx hb dX2_count_26 (by rw [c_32]; decide) (by rw [c_32]; decide) (by rw [c_32]; first | done | rfl) (by decide) ?_
                        refine lv_aload_n hx hb dX2_count_180 rfl (lv_at hl 0 rfl) ?_
                        refine tx_get (v := .ref (hh 0 0)) hx hb hts hin hown hK hP 0 (by decide) k_10 rfl rfl dX2_count_181 ?_
                        refine gp_i (wX_1 (j := 0) (by decide)) (wX_1 (j := 0) (by decide)) hP hD hS hA (rn_VN (As := []) (rest := []) ⟨hx, hb, hml, hown, hts⟩ (ctX1_rainIsAhead l G cI cC cZ cR (hh 0) (x.1 0)) ⟨va_cnB 0 hts gX2_count_X1_rainIsAhead_n139 rfl rfl rfl (NWs.nw hN 35 rfl) (hts _ (List.mem_of_getElem? (i := 5) rfl)) (by decide +kernel) ⟨Nat.le_of_ble_eq_true rfl, Nat.le_of_ble_eq_true rfl⟩, (hts _ (List.mem_of_getElem? (i := 4) rfl)), (hts _ (List.mem_of_getElem? (i := 6) rfl))⟩ (md_recv hK (xblk (j := 0) hP (by decide)) rfl) hK (xblk (j := 0) hP (by decide)) (xblkD (j := 0) hD (by decide)) hN rfl hl.1 rfl (Nat.le_of_ble_eq_true rfl) dX2_count_184) (fun H locs hP hD hS => ?_)
                        refine lv_if_eq (tgt := 194) hx hb dX2_count_187 (by decide) (fun c_33 => ?_) (fun c_33 => ?_)
                        · refine lv_iconst (v := 0) hx hb dX2_count_194 (by decide) ?_
                          exact rt_r hx hb hr hlocks hP hD hS rfl ((show pX2_count a1 x = 0 by rw [pX2_count, if_neg c_1, if_pos c_23, if_neg c_24, if_neg c_25, if_neg c_26, if_neg c_27, if_neg c_28, if_neg c_29, if_neg c_30, if_neg c_31, if_pos c_32, if_pos c_33]).symm.trans hres |>.symm) dX2_count_195
                        · refine lv_iconst (v := 1) hx hb dX2_count_190 (by decide) ?_
                          refine lv_goto (tgt := 195) hx hb dX2_count_191 (by decide) ?_
                          exact rt_r hx hb hr hlocks hP hD hS rfl ((show pX2_count a1 x = 1 by rw [pX2_count, if_neg c_1, if_pos c_23, if_neg c_24, if_neg c_25, if_neg c_26, if_neg c_27, if_neg c_28, if_neg c_29, if_neg c_30, if_neg c_31, if_pos c_32, if_neg c_33]).symm.trans hres |>.symm) dX2_count_195
                      · skip
                        by_cases c_34 : a1 = 9
                        · refine lv_tableIn (tgt := 196) hx hb dX2_count_26 (by rw [c_34]; decide) (by rw [c_34]; decide) (by rw [c_34]; first | done | rfl) (by decide) ?_
                          refine lv_aload_n hx hb dX2_count_196 rfl (lv_at hl 0 rfl) ?_
                          refine tx_get (v := .ref (hh 0 0)) hx hb hts hin hown hK hP 0 (by decide) k_10 rfl rfl dX2_count_197 ?_
                          refine lv_iconst (v := 0) hx hb dX2_count_200 (by decide) ?_
                          refine gp_i (wX_1 (j := 0) (by decide)) (wX_1 (j := 0) (by decide)) hP hD hS hA (rn_VN (As := [.int 0]) (rest := []) ⟨hx, hb, hml, hown, hts⟩ (ctX1_rainsAfter l G cI cC cZ cR (hh 0) (x.1 0) 0) ⟨va_cnB 1 hts gX2_count_X1_rainsAfter_n143 rfl rfl rfl (NWs.nw hN 36 rfl) (hts _ (List.mem_of_getElem? (i := 5) rfl)) (by decide +kernel) ⟨Nat.le_of_ble_eq_true rfl, Nat.le_of_ble_eq_true rfl⟩, (hts _ (List.mem_of_getElem? (i := 10) rfl)), (hts _ (List.mem_of_getElem? (i := 11) rfl))⟩ (md_recv hK (xblk (j := 0) hP (by decide)) rfl) hK (xblk (j := 0) hP (by decide)) (xblkD (j := 0) hD (by decide)) hN rfl hl.1 rfl (Nat.le_of_ble_eq_true rfl) dX2_count_201) (fun H locs hP hD hS => ?_)
                          refine lv_if_eq (tgt := 211) hx hb dX2_count_204 (by decide) (fun c_35 => ?_) (fun c_35 => ?_)
                          · refine lv_iconst (v := 0) hx hb dX2_count_211 (by decide) ?_
                            exact rt_r hx hb hr hlocks hP hD hS rfl ((show pX2_count a1 x = 0 by rw [pX2_count, if_neg c_1, if_pos c_23, if_neg c_24, if_neg c_25, if_neg c_26, if_neg c_27, if_neg c_28, if_neg c_29, if_neg c_30, if_neg c_31, if_neg c_32, if_pos c_34, if_pos c_35]).symm.trans hres |>.symm) dX2_count_212
                          · refine lv_iconst (v := 1) hx hb dX2_count_207 (by decide) ?_
                            refine lv_goto (tgt := 212) hx hb dX2_count_208 (by decide) ?_
                            exact rt_r hx hb hr hlocks hP hD hS rfl ((show pX2_count a1 x = 1 by rw [pX2_count, if_neg c_1, if_pos c_23, if_neg c_24, if_neg c_25, if_neg c_26, if_neg c_27, if_neg c_28, if_neg c_29, if_neg c_30, if_neg c_31, if_neg c_32, if_pos c_34, if_neg c_35]).symm.trans hres |>.symm) dX2_count_212
                        · skip
                          by_cases c_36 : a1 = 10
                          · refine lv_tableIn (tgt := 226) hx hb dX2_count_26 (by rw [c_36]; decide) (by rw [c_36]; decide) (by rw [c_36]; first | done | rfl) (by decide) ?_
                            refine lv_bipush (v := (-2)) hx hb dX2_count_226 (by decide) ?_
                            exact rt_r hx hb hr hlocks hP hD hS rfl ((show pX2_count a1 x = (-2) by rw [pX2_count, if_neg c_1, if_pos c_23, if_neg c_24, if_neg c_25, if_neg c_26, if_neg c_27, if_neg c_28, if_neg c_29, if_neg c_30, if_neg c_31, if_neg c_32, if_neg c_34, if_pos c_36]).symm.trans hres |>.symm) dX2_count_228
                          · skip
                            by_cases c_37 : a1 = 11
                            · refine lv_tableIn (tgt := 226) hx hb dX2_count_26 (by rw [c_37]; decide) (by rw [c_37]; decide) (by rw [c_37]; first | done | rfl) (by decide) ?_
                              refine lv_bipush (v := (-2)) hx hb dX2_count_226 (by decide) ?_
                              exact rt_r hx hb hr hlocks hP hD hS rfl ((show pX2_count a1 x = (-2) by rw [pX2_count, if_neg c_1, if_pos c_23, if_neg c_24, if_neg c_25, if_neg c_26, if_neg c_27, if_neg c_28, if_neg c_29, if_neg c_30, if_neg c_31, if_neg c_32, if_neg c_34, if_neg c_36, if_pos c_37]).symm.trans hres |>.symm) dX2_count_228
                            · skip
                              by_cases c_38 : a1 = 12
                              · refine lv_tableIn (tgt := 226) hx hb dX2_count_26 (by rw [c_38]; decide) (by rw [c_38]; decide) (by rw [c_38]; first | done | rfl) (by decide) ?_
                                refine lv_bipush (v := (-2)) hx hb dX2_count_226 (by decide) ?_
                                exact rt_r hx hb hr hlocks hP hD hS rfl ((show pX2_count a1 x = (-2) by rw [pX2_count, if_neg c_1, if_pos c_23, if_neg c_24, if_neg c_25, if_neg c_26, if_neg c_27, if_neg c_28, if_neg c_29, if_neg c_30, if_neg c_31, if_neg c_32, if_neg c_34, if_neg c_36, if_neg c_37, if_pos c_38]).symm.trans hres |>.symm) dX2_count_228
                              · skip
                                by_cases c_39 : a1 = 13
                                · refine lv_tableIn (tgt := 226) hx hb dX2_count_26 (by rw [c_39]; decide) (by rw [c_39]; decide) (by rw [c_39]; first | done | rfl) (by decide) ?_
                                  refine lv_bipush (v := (-2)) hx hb dX2_count_226 (by decide) ?_
                                  exact rt_r hx hb hr hlocks hP hD hS rfl ((show pX2_count a1 x = (-2) by rw [pX2_count, if_neg c_1, if_pos c_23, if_neg c_24, if_neg c_25, if_neg c_26, if_neg c_27, if_neg c_28, if_neg c_29, if_neg c_30, if_neg c_31, if_neg c_32, if_neg c_34, if_neg c_36, if_neg c_37, if_neg c_38, if_pos c_39]).symm.trans hres |>.symm) dX2_count_228
                                · skip
                                  by_cases c_40 : a1 = 14
                                  · refine lv_tableIn (tgt := 226) hx hb dX2_count_26 (by rw [c_40]; decide) (by rw [c_40]; decide) (by rw [c_40]; first | done | rfl) (by decide) ?_
                                    refine lv_bipush (v := (-2)) hx hb dX2_count_226 (by decide) ?_
                                    exact rt_r hx hb hr hlocks hP hD hS rfl ((show pX2_count a1 x = (-2) by rw [pX2_count, if_neg c_1, if_pos c_23, if_neg c_24, if_neg c_25, if_neg c_26, if_neg c_27, if_neg c_28, if_neg c_29, if_neg c_30, if_neg c_31, if_neg c_32, if_neg c_34, if_neg c_36, if_neg c_37, if_neg c_38, if_neg c_39, if_pos c_40]).symm.trans hres |>.symm) dX2_count_228
                                  · skip
                                    by_cases c_41 : a1 = 15
                                    · refine lv_tableIn (tgt := 226) hx hb dX2_count_26 (by rw [c_41]; decide) (by rw [c_41]; decide) (by rw [c_41]; first | done | rfl) (by decide) ?_
                                      refine lv_bipush (v := (-2)) hx hb dX2_count_226 (by decide) ?_
                                      exact rt_r hx hb hr hlocks hP hD hS rfl ((show pX2_count a1 x = (-2) by rw [pX2_count, if_neg c_1, if_pos c_23, if_neg c_24, if_neg c_25, if_neg c_26, if_neg c_27, if_neg c_28, if_neg c_29, if_neg c_30, if_neg c_31, if_neg c_32, if_neg c_34, if_neg c_36, if_neg c_37, if_neg c_38, if_neg c_39, if_neg c_40, if_pos c_41]).symm.trans hres |>.symm) dX2_count_228
                                    · skip
                                      by_cases c_42 : a1 = 16
                                      · refine lv_tableIn (tgt := 226) hx hb dX2_count_26 (by rw [c_42]; decide) (by rw [c_42]; decide) (by rw [c_42]; first | done | rfl) (by decide) ?_
                                        refine lv_bipush (v := (-2)) hx hb dX2_count_226 (by decide) ?_
                                        exact rt_r hx hb hr hlocks hP hD hS rfl ((show pX2_count a1 x = (-2) by rw [pX2_count, if_neg c_1, if_pos c_23, if_neg c_24, if_neg c_25, if_neg c_26, if_neg c_27, if_neg c_28, if_neg c_29, if_neg c_30, if_neg c_31, if_neg c_32, if_neg c_34, if_neg c_36, if_neg c_37, if_neg c_38, if_neg c_39, if_neg c_40, if_neg c_41, if_pos c_42]).symm.trans hres |>.symm) dX2_count_228
                                      · skip
                                        by_cases c_43 : a1 = 17
                                        · refine lv_tableIn (tgt := 213) hx hb dX2_count_26 (by rw [c_43]; decide) (by rw [c_43]; decide) (by rw [c_43]; first | done | rfl) (by decide) ?_
                                          refine lv_aload_n hx hb dX2_count_213 rfl (lv_at hl 0 rfl) ?_
                                          refine tx_get (v := .ref (hp 0)) hx hb hts hin hown hK hP 7 (by decide) k_40 rfl rfl dX2_count_214 ?_
                                          refine md_getN (ci := 0) (C := RX0) (T := TX0) (N := 8) (x := x.2.1) (v := .int (x.2.1.1 0)) hx hb hts hin0 hown hK (xblkP (t := x) hP) rfl 1 (by decide) (NWs.at hN 19 rfl) rfl rfl rfl dX2_count_217 ?_
                                          exact rt_r hx hb hr hlocks hP hD hS rfl ((show pX2_count a1 x = (x.2.1.1 0) by rw [pX2_count, if_neg c_1, if_pos c_23, if_neg c_24, if_neg c_25, if_neg c_26, if_neg c_27, if_neg c_28, if_neg c_29, if_neg c_30, if_neg c_31, if_neg c_32, if_neg c_34, if_neg c_36, if_neg c_37, if_neg c_38, if_neg c_39, if_neg c_40, if_neg c_41, if_neg c_42, if_pos c_43]).symm.trans hres |>.symm) dX2_count_220
                                        · skip
                                          by_cases c_44 : a1 = 18
                                          · refine lv_tableIn (tgt := 221) hx hb dX2_count_26 (by rw [c_44]; decide) (by rw [c_44]; decide) (by rw [c_44]; first | done | rfl) (by decide) ?_
                                            refine lv_aload_n hx hb dX2_count_221 rfl (lv_at hl 0 rfl) ?_
                                            refine tx_get (v := .int x.2.2.1) hx hb hts hin hown hK hP 4 (by decide) k_26 rfl rfl dX2_count_222 ?_
                                            exact rt_r hx hb hr hlocks hP hD hS rfl ((show pX2_count a1 x = x.2.2.1 by rw [pX2_count, if_neg c_1, if_pos c_23, if_neg c_24, if_neg c_25, if_neg c_26, if_neg c_27, if_neg c_28, if_neg c_29, if_neg c_30, if_neg c_31, if_neg c_32, if_neg c_34, if_neg c_36, if_neg c_37, if_neg c_38, if_neg c_39, if_neg c_40, if_neg c_41, if_neg c_42, if_neg c_43, if_pos c_44]).symm.trans hres |>.symm) dX2_count_225
                                          · skip
                                            refine lv_tableOut (tgt := 226) hx hb dX2_count_26 (by have u_0 := lv_neT (a := 0) c_24 (by decide); have u_1 := lv_neT (a := 1) c_25 (by decide); have u_2 := lv_neT (a := 2) c_26 (by decide); have u_3 := lv_neT (a := 3) c_27 (by decide); have u_4 := lv_neT (a := 4) c_28 (by decide); have u_5 := lv_neT (a := 5) c_29 (by decide); have u_6 := lv_neT (a := 6) c_30 (by decide); have u_7 := lv_neT (a := 7) c_31 (by decide); have u_8 := lv_neT (a := 8) c_32 (by decide); have u_9 := lv_neT (a := 9) c_34 (by decide); have u_10 := lv_neT (a := 10) c_36 (by decide); have u_11 := lv_neT (a := 11) c_37 (by decide); have u_12 := lv_neT (a := 12) c_38 (by decide); have u_13 := lv_neT (a := 13) c_39 (by decide); have u_14 := lv_neT (a := 14) c_40 (by decide); have u_15 := lv_neT (a := 15) c_41 (by decide); have u_16 := lv_neT (a := 16) c_42 (by decide); have u_17 := lv_neT (a := 17) c_43 (by decide); have u_18 := lv_neT (a := 18) c_44 (by decide); omega) (by decide) ?_
                                            refine lv_bipush (v := (-2)) hx hb dX2_count_226 (by decide) ?_
                                            exact rt_r hx hb hr hlocks hP hD hS rfl ((show pX2_count a1 x = (-2) by rw [pX2_count, if_neg c_1, if_pos c_23, if_neg c_24, if_neg c_25, if_neg c_26, if_neg c_27, if_neg c_28, if_neg c_29, if_neg c_30, if_neg c_31, if_neg c_32, if_neg c_34, if_neg c_36, if_neg c_37, if_neg c_38, if_neg c_39, if_neg c_40, if_neg c_41, if_neg c_42, if_neg c_43, if_neg c_44]).symm.trans hres |>.symm) dX2_count_228
    · have t_23 := i_nle (z := (17)) (w := (Int32.toInt a1)) c_23 (by decide) rfl
      refine lv_aload_n hx hb dX2_count_12 rfl (lv_at hl 0 rfl) ?_
      refine tx_get (v := .ref (hh 0 0)) hx hb hts hin hown hK hP 0 (by decide) k_10 rfl rfl dX2_count_13 ?_
      refine md_getN (ci := 1) (C := RX1) (T := TX1) (N := 18) (x := (x.1 0)) (v := .ref (hh 0 1)) hx hb hts hin1 hown hK (xblk (t := x) (j := 0) hP (by decide)) rfl 0 (by decide) (NWs.at hN 1 rfl) rfl rfl rfl dX2_count_16 ?_
      refine lv_iload_n hx hb dX2_count_19 rfl (lv_at hl 1 rfl) ?_
      refine lv_bipush (v := 10) hx hb dX2_count_20 (by decide) ?_
      refine lv_isub hx hb dX2_count_22 ?_
      refine md_ia (x := (x.1 0)) (v := ((x.1 0).2 0 (ix (a1 - 10)))) hx hb hK (xblk (t := x) (j := 0) hP (by decide)) 0 0 rfl rfl (by exact sub10_in (by omega) (by omega)) rfl dX2_count_23 ?_
      exact rt_r hx hb hr hlocks hP hD hS rfl ((show pX2_count a1 x = ((x.1 0).2 0 (ix (a1 - 10))) by rw [pX2_count, if_neg c_1, if_neg c_23]).symm.trans hres |>.symm) dX2_count_24
def pX2_worst_L7 : Nat → Int32 → Int32 → Int32 → TV → Int32
  | 0, v1, v2, v3, x => 0
  | n + 1, v1, v2, v3, x => if 12 ≤ v3 then v1
    else if (pX2_has ((x.1 0).1 0) v3) = 0 then pX2_worst_L7 n v1 v2 (v3 + 1) x
      else if v1 = (-6) then pX2_worst_L7 n v3 (((x.1 0).2 1 (ix v3)) - ((x.1 0).2 2 (ix v3))) (v3 + 1) x
        else if v2 ≤ (((x.1 0).2 1 (ix v3)) - ((x.1 0).2 2 (ix v3))) then pX2_worst_L7 n v1 v2 (v3 + 1) x
          else pX2_worst_L7 n v3 (((x.1 0).2 1 (ix v3)) - ((x.1 0).2 2 (ix v3))) (v3 + 1) x
def pX2_worst (x : TV) : Int32 := pX2_worst_L7 13 (-6) 0 0 x
set_option maxHeartbeats 1000000 in
set_option maxRecDepth 100000 in
theorem ctX2_worst (l : Launch) (G : va_G) (cI cC cZ cR : ClassId) (ho : Nat → Nat) (hh : Nat → Ad) (hp : Ad) (x : TV) : Ct l yX2_worst wsX2_worst (rmz 1 21) G (TY cI cC cZ cR) [.ref (ho 0)] (wX cI cC cZ cR ho hh hp x) (Qi G (wX cI cC cZ cR ho hh hp x) (pX2_worst x) (wX cI cC cZ cR ho hh hp x)) := by
  refine Ct.ofI (cc := cX2_worst) (maxL := 5) (ret := (some .int)) (by decide) rfl rfl ?_
  intro p e s m below meth c A ls E0 hP hD hS hl
  obtain ⟨hx, hb, hr, hml, hlocks, hts, hown, hK, hN, hA⟩ := E0
  have hl : lv_has ls 5 [(0, .ref (ho 0))] := hl
  have hin : ∀ w ∈ wsX20, w ∈ wsX2_worst := fun w hw => List.mem_cons_of_mem _ (List.mem_append_left _ (List.mem_append_right _ (hw)))
  have hin1 : ∀ w ∈ wsX10, w ∈ wsX2_worst := fun w hw => List.mem_cons_of_mem _ (List.mem_append_right _ (hw))
  have k_10 : (Cond.fieldLink RX2 10 RX2 (TX2 0).2.1 (TX2 0).2.2.1).before ([.ref (ho 0)] : List Value).toArray s = true := hts _ (List.mem_of_getElem? (i := 1) rfl)
  generalize hres : pX2_worst x = res
  have lp_7 : ∀ (n : Nat) (v1 : Int32) (v2 : Int32) (v3 : Int32), 0 ≤ Int32.toInt v3 → Int32.toInt v3 ≤ 12 → 12 - Int32.toInt v3 < (n : Int) → pX2_worst_L7 n v1 v2 v3 x = res → ∀ (H : Heap) (locs : List Loc) (ls : Array Slot), va_P G vwCl (wX cI cC cZ cR ho hh hp x) H → va_D A (wX cI cC cZ cR ho hh hp x) → va_S A s.heap H locs → lv_has ls 5 [(0, .ref (ho 0)), (1, .int v1), (2, .int v2), (3, .int v3)] → W p l e (rmz 1 21) s m ([.ref (ho 0)] : List Value).toArray below meth c H locs 0 0 (MQ below (QiA G A res (wX cI cC cZ cR ho hh hp x)) ([.ref (ho 0)] : List Value).toArray s 0 0 A) (F0 m 7 ls []) := by
    intro n
    induction n with
    | zero =>
      intro v1 v2 v3 g_0 g_1 hm
      exfalso; omega
    | succ n ih =>
      intro v1 v2 v3 g_0 g_1 hm hq H locs ls hP hD hS hl
      refine lv_iload_n hx hb dX2_worst_7 rfl (lv_at hl 3 rfl) ?_
      refine lv_bipush (v := 12) hx hb dX2_worst_8 (by decide) ?_
      refine lv_icmp_ge (tgt := 71) hx hb dX2_worst_10 (by decide) (fun c_1 => ?_) (fun c_1 => ?_)
      · have t_1 := i_le (z := (12)) (w := (Int32.toInt v3)) c_1 (by decide) rfl
        refine lv_iload_n hx hb dX2_worst_71 rfl (lv_at hl 1 rfl) ?_
        exact rt_r hx hb hr hlocks hP hD hS rfl ((show pX2_worst_L7 (n + 1) v1 v2 v3 x = v1 by rw [pX2_worst_L7, if_pos c_1]).symm.trans hq |>.symm) dX2_worst_72
      · have t_1 := i_nle (z := (12)) (w := (Int32.toInt v3)) c_1 (by decide) rfl
        refine lv_aload_n hx hb dX2_worst_13 rfl (lv_at hl 0 rfl) ?_
        refine tx_get (v := .ref (hh 0 0)) hx hb hts hin hown hK hP 0 (by decide) k_10 rfl rfl dX2_worst_14 ?_
        refine md_getN (ci := 1) (C := RX1) (T := TX1) (N := 18) (x := (x.1 0)) (v := .ref (hh 0 2)) hx hb hts hin1 hown hK (xblk (t := x) (j := 0) hP (by decide)) rfl 4 (by decide) (NWs.at hN 5 rfl) rfl rfl rfl dX2_worst_17 ?_
        refine lv_iload_n hx hb dX2_worst_20 rfl (lv_at hl 3 rfl) ?_
        refine md_ia (x := (x.1 0)) (v := ((x.1 0).2 1 (ix v3))) hx hb hK (xblk (t := x) (j := 0) hP (by decide)) 1 0 rfl rfl (by first | with_reducible assumption | exact vp_in_iff.mpr ⟨by decide, by decide⟩ | exact vp_in_iff.mpr ⟨by omega, by omega⟩ | exact has_in (by with_reducible assumption)) rfl dX2_worst_21 ?_
        refine lv_aload_n hx hb dX2_worst_22 rfl (lv_at hl 0 rfl) ?_
        refine tx_get (v := .ref (hh 0 0)) hx hb hts hin hown hK hP 0 (by decide) k_10 rfl rfl dX2_worst_23 ?_
        refine md_getN (ci := 1) (C := RX1) (T := TX1) (N := 18) (x := (x.1 0)) (v := .ref (hh 0 3)) hx hb hts hin1 hown hK (xblk (t := x) (j := 0) hP (by decide)) rfl 5 (by decide) (NWs.at hN 6 rfl) rfl rfl rfl dX2_worst_26 ?_
        refine lv_iload_n hx hb dX2_worst_29 rfl (lv_at hl 3 rfl) ?_
        refine md_ia (x := (x.1 0)) (v := ((x.1 0).2 2 (ix v3))) hx hb hK (xblk (t := x) (j := 0) hP (by decide)) 2 0 rfl rfl (by first | with_reducible assumption | exact vp_in_iff.mpr ⟨by decide, by decide⟩ | exact vp_in_iff.mpr ⟨by omega, by omega⟩ | exact has_in (by with_reducible assumption)) rfl dX2_worst_30 ?_
        refine lv_isub hx hb dX2_worst_31 ?_
        refine lv_istore (lv' := [(4, .int (((x.1 0).2 1 (ix v3)) - ((x.1 0).2 2 (ix v3)))), (0, .ref (ho 0)), (1, .int v1), (2, .int v2), (3, .int v3)]) hx hb dX2_worst_32 hl (by decide) rfl (fun ls hl => ?_)
        refine lv_aload_n hx hb dX2_worst_34 rfl (lv_at hl 1 rfl) ?_
        refine tx_get (v := .ref (hh 0 0)) hx hb hts hin hown hK hP 0 (by decide) k_10 rfl rfl dX2_worst_35 ?_
        refine md_getN (ci := 1) (C := RX1) (T := TX1) (N := 18) (x := (x.1 0)) (v := .int ((x.1 0).1 0)) hx hb hts hin1 hown hK (xblk (t := x) (j := 0) hP (by decide)) rfl 1 (by decide) (NWs.at hN 2 rfl) rfl rfl rfl dX2_worst_38 ?_
        refine lv_iload_n hx hb dX2_worst_41 rfl (lv_at hl 4 rfl) ?_
        refine gn_i hP hS hA (rn_S (As := [.int ((x.1 0).1 0), .int v3]) (rest := []) ⟨hx, hb, hml, hown, hts⟩ (ctX2_has l G cI cC cZ cR ((x.1 0).1 0) v3) (va_cwS 2 hts gX2_worst_X2_has rfl rfl rfl (by decide +kernel) ⟨Nat.le_of_ble_eq_true rfl, Nat.le_of_ble_eq_true rfl⟩) hK nilP (nilD (A := A)) hN rfl hl.1 rfl (Nat.le_of_ble_eq_true rfl) dX2_worst_42) (fun H locs hP hS => ?_)
        refine lv_if_eq (tgt := 65) hx hb dX2_worst_45 (by decide) (fun c_2 => ?_) (fun c_2 => ?_)
        · refine lv_iinc (v := (v3 + 1)) (lv' := [(3, .int (v3 + 1)), (4, .int (((x.1 0).2 1 (ix v3)) - ((x.1 0).2 2 (ix v3)))), (0, .ref (ho 0)), (1, .int v1), (2, .int v2)]) hx hb dX2_worst_65 hl (k := 4) rfl rfl (by decide) rfl (fun ls hl => ?_)
          have a_65 := i_add1 (a := v3) (by omega) (by omega)
          refine lv_goto (tgt := 7) hx hb dX2_worst_68 (by decide) ?_
          exact ih v1 v2 (v3 + 1) (by omega) (by omega) (by omega) ((show pX2_worst_L7 (n + 1) v1 v2 v3 x = pX2_worst_L7 n v1 v2 (v3 + 1) x by rw [pX2_worst_L7, if_neg c_1, if_pos c_2]).symm.trans hq) _ _ _ hP hD hS (lv_sub hl [2, 3, 4, 0] rfl)
        · refine lv_iload_n hx hb dX2_worst_48 rfl (lv_at hl 2 rfl) ?_
          refine lv_bipush (v := (-6)) hx hb dX2_worst_49 (by decide) ?_
          refine lv_icmp_eq (tgt := 60) hx hb dX2_worst_51 (by decide) (fun c_3 => ?_) (fun c_3 => ?_)
          · refine lv_iload_n hx hb dX2_worst_60 rfl (lv_at hl 4 rfl) ?_
            refine lv_istore_n (lv' := [(1, .int v3), (4, .int (((x.1 0).2 1 (ix v3)) - ((x.1 0).2 2 (ix v3)))), (0, .ref (ho 0)), (2, .int v2), (3, .int v3)]) hx hb dX2_worst_61 rfl hl (by decide) rfl (fun ls hl => ?_)
            refine lv_iload hx hb dX2_worst_62 (lv_at hl 1 rfl) ?_
            refine lv_istore_n (lv' := [(2, .int (((x.1 0).2 1 (ix v3)) - ((x.1 0).2 2 (ix v3)))), (1, .int v3), (4, .int (((x.1 0).2 1 (ix v3)) - ((x.1 0).2 2 (ix v3)))), (0, .ref (ho 0)), (3, .int v3)]) hx hb dX2_worst_64 rfl hl (by decide) rfl (fun ls hl => ?_)
            refine lv_iinc (v := (v3 + 1)) (lv' := [(3, .int (v3 + 1)), (2, .int (((x.1 0).2 1 (ix v3)) - ((x.1 0).2 2 (ix v3)))), (1, .int v3), (4, .int (((x.1 0).2 1 (ix v3)) - ((x.1 0).2 2 (ix v3)))), (0, .ref (ho 0))]) hx hb dX2_worst_65 hl (k := 4) rfl rfl (by decide) rfl (fun ls hl => ?_)
            have a_65 := i_add1 (a := v3) (by omega) (by omega)
            refine lv_goto (tgt := 7) hx hb dX2_worst_68 (by decide) ?_
            exact ih v3 (((x.1 0).2 1 (ix v3)) - ((x.1 0).2 2 (ix v3))) (v3 + 1) (by omega) (by omega) (by omega) ((show pX2_worst_L7 (n + 1) v1 v2 v3 x = pX2_worst_L7 n v3 (((x.1 0).2 1 (ix v3)) - ((x.1 0).2 2 (ix v3))) (v3 + 1) x by rw [pX2_worst_L7, if_neg c_1, if_neg c_2, if_pos c_3]).symm.trans hq) _ _ _ hP hD hS (lv_sub hl [4, 2, 1, 0] rfl)
          · refine lv_iload hx hb dX2_worst_54 (lv_at hl 0 rfl) ?_
            refine lv_iload_n hx hb dX2_worst_56 rfl (lv_at hl 3 rfl) ?_
            refine lv_icmp_ge (tgt := 65) hx hb dX2_worst_57 (by decide) (fun c_4 => ?_) (fun c_4 => ?_)
            · have t_4 := i_le (z := (Int32.toInt v2)) (w := (Int32.toInt (((x.1 0).2 1 (ix v3)) - ((x.1 0).2 2 (ix v3))))) c_4 rfl rfl
              refine lv_iinc (v := (v3 + 1)) (lv' := [(3, .int (v3 + 1)), (4, .int (((x.1 0).2 1 (ix v3)) - ((x.1 0).2 2 (ix v3)))), (0, .ref (ho 0)), (1, .int v1), (2, .int v2)]) hx hb dX2_worst_65 hl (k := 4) rfl rfl (by decide) rfl (fun ls hl => ?_)
              have a_65 := i_add1 (a := v3) (by omega) (by omega)
              refine lv_goto (tgt := 7) hx hb dX2_worst_68 (by decide) ?_
              exact ih v1 v2 (v3 + 1) (by omega) (by omega) (by omega) ((show pX2_worst_L7 (n + 1) v1 v2 v3 x = pX2_worst_L7 n v1 v2 (v3 + 1) x by rw [pX2_worst_L7, if_neg c_1, if_neg c_2, if_neg c_3, if_pos c_4]).symm.trans hq) _ _ _ hP hD hS (lv_sub hl [2, 3, 4, 0] rfl)
            · have t_4 := i_nle (z := (Int32.toInt v2)) (w := (Int32.toInt (((x.1 0).2 1 (ix v3)) - ((x.1 0).2 2 (ix v3))))) c_4 rfl rfl
              refine lv_iload_n hx hb dX2_worst_60 rfl (lv_at hl 4 rfl) ?_
              refine lv_istore_n (lv' := [(1, .int v3), (4, .int (((x.1 0).2 1 (ix v3)) - ((x.1 0).2 2 (ix v3)))), (0, .ref (ho 0)), (2, .int v2), (3, .int v3)]) hx hb dX2_worst_61 rfl hl (by decide) rfl (fun ls hl => ?_)
              refine lv_iload hx hb dX2_worst_62 (lv_at hl 1 rfl) ?_
              refine lv_istore_n (lv' := [(2, .int (((x.1 0).2 1 (ix v3)) - ((x.1 0).2 2 (ix v3)))), (1, .int v3), (4, .int (((x.1 0).2 1 (ix v3)) - ((x.1 0).2 2 (ix v3)))), (0, .ref (ho 0)), (3, .int v3)]) hx hb dX2_worst_64 rfl hl (by decide) rfl (fun ls hl => ?_)
              refine lv_iinc (v := (v3 + 1)) (lv' := [(3, .int (v3 + 1)), (2, .int (((x.1 0).2 1 (ix v3)) - ((x.1 0).2 2 (ix v3)))), (1, .int v3), (4, .int (((x.1 0).2 1 (ix v3)) - ((x.1 0).2 2 (ix v3)))), (0, .ref (ho 0))]) hx hb dX2_worst_65 hl (k := 4) rfl rfl (by decide) rfl (fun ls hl => ?_)
              have a_65 := i_add1 (a := v3) (by omega) (by omega)
              refine lv_goto (tgt := 7) hx hb dX2_worst_68 (by decide) ?_
              exact ih v3 (((x.1 0).2 1 (ix v3)) - ((x.1 0).2 2 (ix v3))) (v3 + 1) (by omega) (by omega) (by omega) ((show pX2_worst_L7 (n + 1) v1 v2 v3 x = pX2_worst_L7 n v3 (((x.1 0).2 1 (ix v3)) - ((x.1 0).2 2 (ix v3))) (v3 + 1) x by rw [pX2_worst_L7, if_neg c_1, if_neg c_2, if_neg c_3, if_neg c_4]).symm.trans hq) _ _ _ hP hD hS (lv_sub hl [4, 2, 1, 0] rfl)
  refine lv_bipush (v := (-6)) hx hb dX2_worst_0 (by decide) ?_
  refine lv_istore_n (lv' := [(1, .int (-6)), (0, .ref (ho 0))]) hx hb dX2_worst_2 rfl hl (by decide) rfl (fun ls hl => ?_)
  refine lv_iconst (v := 0) hx hb dX2_worst_3 (by decide) ?_
  refine lv_istore_n (lv' := [(2, .int 0), (1, .int (-6)), (0, .ref (ho 0))]) hx hb dX2_worst_4 rfl hl (by decide) rfl (fun ls hl => ?_)
  refine lv_iconst (v := 0) hx hb dX2_worst_5 (by decide) ?_
  refine lv_istore_n (lv' := [(3, .int 0), (2, .int 0), (1, .int (-6)), (0, .ref (ho 0))]) hx hb dX2_worst_6 rfl hl (by decide) rfl (fun ls hl => ?_)
  exact lp_7 13 (-6) 0 0 (by first | decide | omega | assumption) (by first | decide | omega | assumption) (by decide) ((show pX2_worst x = pX2_worst_L7 13 (-6) 0 0 x by rw [pX2_worst]).symm.trans hres) _ _ _ hP hD hS (lv_sub hl [3, 2, 1, 0] rfl)
def pX2_why (a1 : Int32) (x : TV) : Int32 := if (pX2_has ((x.1 0).1 0) a1) = 0 then (-1)
  else if (pX2_has ((x.1 0).1 2) a1) = 0 then if (pX2_has ((x.1 0).1 1) a1) = 0 then 1
      else if (pX1_rainIsAhead (x.1 0)) = 0 then 2
        else if ((x.1 0).1 3) = 0 then 3
          else if (pX1_keepersAt a1 (x.1 0)) = 0 then 4
            else 5
    else 0
set_option maxHeartbeats 1000000 in
set_option maxRecDepth 100000 in
theorem ctX2_why (l : Launch) (G : va_G) (cI cC cZ cR : ClassId) (ho : Nat → Nat) (hh : Nat → Ad) (hp : Ad) (x : TV) (a1 : Int32) : Ct l yX2_why wsX2_why (rmz 2 42) G (TY cI cC cZ cR) [.ref (ho 0), .int a1] (wX cI cC cZ cR ho hh hp x) (Qi G (wX cI cC cZ cR ho hh hp x) (pX2_why a1 x) (wX cI cC cZ cR ho hh hp x)) := by
  refine Ct.ofI (cc := cX2_why) (maxL := 2) (ret := (some .int)) (by decide) rfl rfl ?_
  intro p e s m below meth c A ls E0 hP hD hS hl
  obtain ⟨hx, hb, hr, hml, hlocks, hts, hown, hK, hN, hA⟩ := E0
  have hl : lv_has ls 2 [(0, .ref (ho 0)), (1, .int a1)] := hl
  have hin : ∀ w ∈ wsX20, w ∈ wsX2_why := fun w hw => List.mem_cons_of_mem _ (List.mem_append_left _ (List.mem_append_right _ (hw)))
  have hin1 : ∀ w ∈ wsX10, w ∈ wsX2_why := fun w hw => List.mem_cons_of_mem _ (List.mem_append_right _ (hw))
  have k_10 : (Cond.fieldLink RX2 10 RX2 (TX2 0).2.1 (TX2 0).2.2.1).before ([.ref (ho 0), .int a1] : List Value).toArray s = true := hts _ (List.mem_of_getElem? (i := 1) rfl)
  generalize hres : pX2_why a1 x = res
  refine lv_aload_n hx hb dX2_why_0 rfl (lv_at hl 0 rfl) ?_
  refine tx_get (v := .ref (hh 0 0)) hx hb hts hin hown hK hP 0 (by decide) k_10 rfl rfl dX2_why_1 ?_
  refine md_getN (ci := 1) (C := RX1) (T := TX1) (N := 18) (x := (x.1 0)) (v := .int ((x.1 0).1 0)) hx hb hts hin1 hown hK (xblk (t := x) (j := 0) hP (by decide)) rfl 1 (by decide) (NWs.at hN 2 rfl) rfl rfl rfl dX2_why_4 ?_
  refine lv_iload_n hx hb dX2_why_7 rfl (lv_at hl 1 rfl) ?_
  refine gn_i hP hS hA (rn_S (As := [.int ((x.1 0).1 0), .int a1]) (rest := []) ⟨hx, hb, hml, hown, hts⟩ (ctX2_has l G cI cC cZ cR ((x.1 0).1 0) a1) (va_cwS 2 hts gX2_why_X2_has rfl rfl rfl (by decide +kernel) ⟨Nat.le_of_ble_eq_true rfl, Nat.le_of_ble_eq_true rfl⟩) hK nilP (nilD (A := A)) hN rfl hl.1 rfl (Nat.le_of_ble_eq_true rfl) dX2_why_8) (fun H locs hP hS => ?_)
  refine lv_if_ne (tgt := 16) hx hb dX2_why_11 (by decide) (fun c_1 => ?_) (fun c_1 => ?_)
  · refine lv_aload_n hx hb dX2_why_16 rfl (lv_at hl 0 rfl) ?_
    refine tx_get (v := .ref (hh 0 0)) hx hb hts hin hown hK hP 0 (by decide) k_10 rfl rfl dX2_why_17 ?_
    refine md_getN (ci := 1) (C := RX1) (T := TX1) (N := 18) (x := (x.1 0)) (v := .int ((x.1 0).1 2)) hx hb hts hin1 hown hK (xblk (t := x) (j := 0) hP (by decide)) rfl 3 (by decide) (NWs.at hN 4 rfl) rfl rfl rfl dX2_why_20 ?_
    refine lv_iload_n hx hb dX2_why_23 rfl (lv_at hl 1 rfl) ?_
    refine gn_i hP hS hA (rn_S (As := [.int ((x.1 0).1 2), .int a1]) (rest := []) ⟨hx, hb, hml, hown, hts⟩ (ctX2_has l G cI cC cZ cR ((x.1 0).1 2) a1) (va_cwS 2 hts gX2_why_X2_has rfl rfl rfl (by decide +kernel) ⟨Nat.le_of_ble_eq_true rfl, Nat.le_of_ble_eq_true rfl⟩) hK nilP (nilD (A := A)) hN rfl hl.1 rfl (Nat.le_of_ble_eq_true rfl) dX2_why_24) (fun H locs hP hS => ?_)
    refine lv_if_eq (tgt := 32) hx hb dX2_why_27 (by decide) (fun c_2 => ?_) (fun c_2 => ?_)
    · refine lv_aload_n hx hb dX2_why_32 rfl (lv_at hl 0 rfl) ?_
      refine tx_get (v := .ref (hh 0 0)) hx hb hts hin hown hK hP 0 (by decide) k_10 rfl rfl dX2_why_33 ?_
      refine md_getN (ci := 1) (C := RX1) (T := TX1) (N := 18) (x := (x.1 0)) (v := .int ((x.1 0).1 1)) hx hb hts hin1 hown hK (xblk (t := x) (j := 0) hP (by decide)) rfl 2 (by decide) (NWs.at hN 3 rfl) rfl rfl rfl dX2_why_36 ?_
      refine lv_iload_n hx hb dX2_why_39 rfl (lv_at hl 1 rfl) ?_
      refine gn_i hP hS hA (rn_S (As := [.int ((x.1 0).1 1), .int a1]) (rest := []) ⟨hx, hb, hml, hown, hts⟩ (ctX2_has l G cI cC cZ cR ((x.1 0).1 1) a1) (va_cwS 2 hts gX2_why_X2_has rfl rfl rfl (by decide +kernel) ⟨Nat.le_of_ble_eq_true rfl, Nat.le_of_ble_eq_true rfl⟩) hK nilP (nilD (A := A)) hN rfl hl.1 rfl (Nat.le_of_ble_eq_true rfl) dX2_why_40) (fun H locs hP hS => ?_)
      refine lv_if_ne (tgt := 48) hx hb dX2_why_43 (by decide) (fun c_3 => ?_) (fun c_3 => ?_)
      · refine lv_aload_n hx hb dX2_why_48 rfl (lv_at hl 0 rfl) ?_
        refine tx_get (v := .ref (hh 0 0)) hx hb hts hin hown hK hP 0 (by decide) k_10 rfl rfl dX2_why_49 ?_
        refine gp_i (wX_1 (j := 0) (by decide)) (wX_1 (j := 0) (by decide)) hP hD hS hA (rn_VN (As := []) (rest := []) ⟨hx, hb, hml, hown, hts⟩ (ctX1_rainIsAhead l G cI cC cZ cR (hh 0) (x.1 0)) ⟨va_cnB 0 hts gX2_why_X1_rainIsAhead_n139 rfl rfl rfl (NWs.nw hN 35 rfl) (hts _ (List.mem_of_getElem? (i := 7) rfl)) (by decide +kernel) ⟨Nat.le_of_ble_eq_true rfl, Nat.le_of_ble_eq_true rfl⟩, (hts _ (List.mem_of_getElem? (i := 6) rfl)), (hts _ (List.mem_of_getElem? (i := 8) rfl))⟩ (md_recv hK (xblk (j := 0) hP (by decide)) rfl) hK (xblk (j := 0) hP (by decide)) (xblkD (j := 0) hD (by decide)) hN rfl hl.1 rfl (Nat.le_of_ble_eq_true rfl) dX2_why_52) (fun H locs hP hD hS => ?_)
        refine lv_if_ne (tgt := 60) hx hb dX2_why_55 (by decide) (fun c_4 => ?_) (fun c_4 => ?_)
        · refine lv_aload_n hx hb dX2_why_60 rfl (lv_at hl 0 rfl) ?_
          refine tx_get (v := .ref (hh 0 0)) hx hb hts hin hown hK hP 0 (by decide) k_10 rfl rfl dX2_why_61 ?_
          refine md_getN (ci := 1) (C := RX1) (T := TX1) (N := 18) (x := (x.1 0)) (v := .int ((x.1 0).1 3)) hx hb hts hin1 hown hK (xblk (t := x) (j := 0) hP (by decide)) rfl 8 (by decide) (NWs.at hN 9 rfl) rfl rfl rfl dX2_why_64 ?_
          refine lv_if_ne (tgt := 72) hx hb dX2_why_67 (by decide) (fun c_5 => ?_) (fun c_5 => ?_)
          · refine lv_aload_n hx hb dX2_why_72 rfl (lv_at hl 0 rfl) ?_
            refine tx_get (v := .ref (hh 0 0)) hx hb hts hin hown hK hP 0 (by decide) k_10 rfl rfl dX2_why_73 ?_
            refine lv_iload_n hx hb dX2_why_76 rfl (lv_at hl 1 rfl) ?_
            refine gp_i (wX_1 (j := 0) (by decide)) (wX_1 (j := 0) (by decide)) hP hD hS hA (rn_VN (As := [.int a1]) (rest := []) ⟨hx, hb, hml, hown, hts⟩ (ctX1_keepersAt l G cI cC cZ cR (hh 0) (x.1 0) a1) ⟨va_cnB 1 hts gX2_why_X1_keepersAt_n97 rfl rfl rfl (NWs.nw hN 34 rfl) (hts _ (List.mem_of_getElem? (i := 7) rfl)) (by decide +kernel) ⟨Nat.le_of_ble_eq_true rfl, Nat.le_of_ble_eq_true rfl⟩, (hts _ (List.mem_of_getElem? (i := 17) rfl)), (hts _ (List.mem_of_getElem? (i := 18) rfl))⟩ (md_recv hK (xblk (j := 0) hP (by decide)) rfl) hK (xblk (j := 0) hP (by decide)) (xblkD (j := 0) hD (by decide)) hN rfl hl.1 rfl (Nat.le_of_ble_eq_true rfl) dX2_why_77) (fun H locs hP hD hS => ?_)
            refine lv_if_ne (tgt := 87) hx hb dX2_why_80 (by decide) (fun c_6 => ?_) (fun c_6 => ?_)
            · refine lv_iconst (v := 5) hx hb dX2_why_87 (by decide) ?_
              exact rt_r hx hb hr hlocks hP hD hS rfl ((show pX2_why a1 x = 5 by rw [pX2_why, if_neg c_1, if_pos c_2, if_neg c_3, if_neg c_4, if_neg c_5, if_neg c_6]).symm.trans hres |>.symm) dX2_why_88
            · refine lv_iconst (v := 4) hx hb dX2_why_83 (by decide) ?_
              refine lv_goto (tgt := 88) hx hb dX2_why_84 (by decide) ?_
              exact rt_r hx hb hr hlocks hP hD hS rfl ((show pX2_why a1 x = 4 by rw [pX2_why, if_neg c_1, if_pos c_2, if_neg c_3, if_neg c_4, if_neg c_5, if_pos c_6]).symm.trans hres |>.symm) dX2_why_88
          · refine lv_iconst (v := 3) hx hb dX2_why_70 (by decide) ?_
            exact rt_r hx hb hr hlocks hP hD hS rfl ((show pX2_why a1 x = 3 by rw [pX2_why, if_neg c_1, if_pos c_2, if_neg c_3, if_neg c_4, if_pos c_5]).symm.trans hres |>.symm) dX2_why_71
        · refine lv_iconst (v := 2) hx hb dX2_why_58 (by decide) ?_
          exact rt_r hx hb hr hlocks hP hD hS rfl ((show pX2_why a1 x = 2 by rw [pX2_why, if_neg c_1, if_pos c_2, if_neg c_3, if_pos c_4]).symm.trans hres |>.symm) dX2_why_59
      · refine lv_iconst (v := 1) hx hb dX2_why_46 (by decide) ?_
        exact rt_r hx hb hr hlocks hP hD hS rfl ((show pX2_why a1 x = 1 by rw [pX2_why, if_neg c_1, if_pos c_2, if_pos c_3]).symm.trans hres |>.symm) dX2_why_47
    · refine lv_iconst (v := 0) hx hb dX2_why_30 (by decide) ?_
      exact rt_r hx hb hr hlocks hP hD hS rfl ((show pX2_why a1 x = 0 by rw [pX2_why, if_neg c_1, if_neg c_2]).symm.trans hres |>.symm) dX2_why_31
  · refine lv_iconst (v := (-1)) hx hb dX2_why_14 (by decide) ?_
    exact rt_r hx hb hr hlocks hP hD hS rfl ((show pX2_why a1 x = (-1) by rw [pX2_why, if_pos c_1]).symm.trans hres |>.symm) dX2_why_15
def pX2_rainIn (x : TV) : Int32 := (pX1_hoursUntilRain (x.1 0))
set_option maxHeartbeats 1000000 in
set_option maxRecDepth 100000 in
theorem ctX2_rainIn (l : Launch) (G : va_G) (cI cC cZ cR : ClassId) (ho : Nat → Nat) (hh : Nat → Ad) (hp : Ad) (x : TV) : Ct l yX2_rainIn wsX2_rainIn (rmz 2 42) G (TY cI cC cZ cR) [.ref (ho 0)] (wX cI cC cZ cR ho hh hp x) (Qi G (wX cI cC cZ cR ho hh hp x) (pX2_rainIn x) (wX cI cC cZ cR ho hh hp x)) := by
  refine Ct.ofI (cc := cX2_rainIn) (maxL := 1) (ret := (some .int)) (by decide) rfl rfl ?_
  intro p e s m below meth c A ls E0 hP hD hS hl
  obtain ⟨hx, hb, hr, hml, hlocks, hts, hown, hK, hN, hA⟩ := E0
  have hl : lv_has ls 1 [(0, .ref (ho 0))] := hl
  have hin : ∀ w ∈ wsX20, w ∈ wsX2_rainIn := fun w hw => List.mem_cons_of_mem _ (List.mem_append_left _ (List.mem_append_right _ (hw)))
  have hin1 : ∀ w ∈ wsX10, w ∈ wsX2_rainIn := fun w hw => List.mem_cons_of_mem _ (List.mem_append_right _ (hw))
  have k_10 : (Cond.fieldLink RX2 10 RX2 (TX2 0).2.1 (TX2 0).2.2.1).before ([.ref (ho 0)] : List Value).toArray s = true := hts _ (List.mem_of_getElem? (i := 1) rfl)
  generalize hres : pX2_rainIn x = res
  refine lv_aload_n hx hb dX2_rainIn_0 rfl (lv_at hl 0 rfl) ?_
  refine tx_get (v := .ref (hh 0 0)) hx hb hts hin hown hK hP 0 (by decide) k_10 rfl rfl dX2_rainIn_1 ?_
  refine gp_i (wX_1 (j := 0) (by decide)) (wX_1 (j := 0) (by decide)) hP hD hS hA (rn_VN (As := []) (rest := []) ⟨hx, hb, hml, hown, hts⟩ (ctX1_hoursUntilRain l G cI cC cZ cR (hh 0) (x.1 0)) ⟨va_cnB 0 hts gX2_rainIn_X1_hoursUntilRain_n150 rfl rfl rfl (NWs.nw hN 37 rfl) (hts _ (List.mem_of_getElem? (i := 3) rfl)) (by decide +kernel) ⟨Nat.le_of_ble_eq_true rfl, Nat.le_of_ble_eq_true rfl⟩, (hts _ (List.mem_of_getElem? (i := 2) rfl)), (hts _ (List.mem_of_getElem? (i := 4) rfl))⟩ (md_recv hK (xblk (j := 0) hP (by decide)) rfl) hK (xblk (j := 0) hP (by decide)) (xblkD (j := 0) hD (by decide)) hN rfl hl.1 rfl (Nat.le_of_ble_eq_true rfl) dX2_rainIn_4) (fun H locs hP hD hS => ?_)
  exact rt_r hx hb hr hlocks hP hD hS rfl ((show pX2_rainIn x = (pX1_hoursUntilRain (x.1 0)) by rw [pX2_rainIn]).symm.trans hres |>.symm) dX2_rainIn_7
