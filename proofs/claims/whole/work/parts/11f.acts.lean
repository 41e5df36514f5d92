def pX2_put_L34 (a1 : Int64) : Nat → Int32 → Int32 → TV → Int32 × TV
  | 0, v3, v4, x => (0, x)
  | n + 1, v3, v4, x => if v4 < 0 then ((x.2.1.1 0), x)
    else pX2_put_L34 a1 n v3 (v4 + (-1)) (tP x (pX0_append (i2c ((((lush a1 (8 * v4)) &&& 255)).toInt32)) x.2.1))
def pX2_put (a1 : Int64) (x : TV) : Int32 × TV := if (pX2_charactersIn a1) = 0 then (((-2) : Int32), x)
  else if ((x.2.1.1 0) + (pX2_charactersIn a1)) ≤ 80 then pX2_put_L34 a1 9 (pX2_charactersIn a1) ((pX2_charactersIn a1) - 1) x
    else (((-4) : Int32), x)
set_option maxHeartbeats 1000000 in
set_option maxRecDepth 100000 in
theorem ctX2_put (l : Launch) (G : va_G) (cI cC cZ cR : ClassId) (ho : Nat → Nat) (hh : Nat → Ad) (hp : Ad) (x : TV) (a1 : Int64) : Ct l yX2_put wsX2_put (rmz 1 26) G (TY cI cC cZ cR) [.ref (ho 0), .long a1] (wX cI cC cZ cR ho hh hp x) (Qi G (wX cI cC cZ cR ho hh hp x) (pX2_put a1 x).1 (wX cI cC cZ cR ho hh hp (pX2_put a1 x).2)) := by
  refine Ct.ofI (cc := cX2_put) (maxL := 5) (ret := (some .int)) (by decide) rfl rfl ?_
  intro p e s m below meth c A ls E0 hP hD hS hl
  obtain ⟨hx, hb, hr, hml, hlocks, hts, hown, hK, hN, hA⟩ := E0
  have hl : lv_has ls 5 [(0, .ref (ho 0)), (1, .long a1)] := hl
  have hin : ∀ w ∈ wsX20, w ∈ wsX2_put := fun w hw => List.mem_cons_of_mem _ (List.mem_append_left _ (List.mem_append_right _ (hw)))
  have hin0 : ∀ w ∈ wsX00, w ∈ wsX2_put := fun w hw => List.mem_cons_of_mem _ (List.mem_append_right _ (hw))
  have k_40 : (Cond.fieldLink RX2 40 RX2 (TX2 7).2.1 (TX2 7).2.2.1).before ([.ref (ho 0), .long a1] : List Value).toArray s = true := hts _ (List.mem_of_getElem? (i := 1) rfl)
  have k_168 : (Cond.constantLong RX2 168 255).before ([.ref (ho 0), .long a1] : List Value).toArray s = true := hts _ (List.mem_of_getElem? (i := 2) rfl)
  generalize hres : pX2_put a1 x = res
  have lp_34 : ∀ (n : Nat) (v3 : Int32) (v4 : Int32) (x : TV), -1 ≤ Int32.toInt v4 → Int32.toInt v4 ≤ 7 → Int32.toInt v4 + 1 < (n : Int) → pX2_put_L34 a1 n v3 v4 x = res → ∀ (H : Heap) (locs : List Loc) (ls : Array Slot), va_P G vwCl (wX cI cC cZ cR ho hh hp x) H → va_D A (wX cI cC cZ cR ho hh hp x) → va_S A s.heap H locs → lv_has ls 5 [(0, .ref (ho 0)), (1, .long a1), (3, .int v3), (4, .int v4)] → W p l e (rmz 1 26) s m ([.ref (ho 0), .long a1] : List Value).toArray below meth c H locs 0 0 (MQ below (QiA G A res.1 (wX cI cC cZ cR ho hh hp res.2)) ([.ref (ho 0), .long a1] : List Value).toArray s 0 0 A) (F0 m 34 ls []) := by
    intro n
    induction n with
    | zero =>
      intro v3 v4 x g_0 g_1 hm
      exfalso; omega
    | succ n ih =>
      intro v3 v4 x g_0 g_1 hm hq H locs ls hP hD hS hl
      refine lv_iload hx hb dX2_put_34 (lv_at hl 3 rfl) ?_
      refine lv_if_lt (tgt := 65) hx hb dX2_put_36 (by decide) (fun c_3 => ?_) (fun c_3 => ?_)
      · have t_3 := i_lt (z := (Int32.toInt v4)) (w := (0)) c_3 rfl (by decide)
        refine lv_aload_n hx hb dX2_put_65 rfl (lv_at hl 0 rfl) ?_
        refine tx_get (v := .ref (hp 0)) hx hb hts hin hown hK hP 7 (by decide) k_40 rfl rfl dX2_put_66 ?_
        refine md_getN (ci := 0) (C := RX0) (T := TX0) (N := 8) (x := x.2.1) (v := .int (x.2.1.1 0)) hx hb hts hin0 hown hK (xblkP (t := x) hP) rfl 1 (by decide) (NWs.at hN 19 rfl) rfl rfl rfl dX2_put_69 ?_
        exact rt_xb (fun y hh => wX cI cC cZ cR ho hh hp y) hh hx hb hr hlocks hP hD hS rfl ((show pX2_put_L34 a1 (n + 1) v3 v4 x = ((x.2.1.1 0), x) by rw [pX2_put_L34, if_pos c_3]).symm.trans hq |>.symm) dX2_put_72
      · have t_3 := i_nlt (z := (Int32.toInt v4)) (w := (0)) c_3 rfl (by decide)
        refine lv_aload_n hx hb dX2_put_39 rfl (lv_at hl 0 rfl) ?_
        refine tx_get (v := .ref (hp 0)) hx hb hts hin hown hK hP 7 (by decide) k_40 rfl rfl dX2_put_40 ?_
        refine lv_lload_n hx hb dX2_put_43 rfl (lv_at hl 1 rfl) ?_
        refine lv_bipush (v := 8) hx hb dX2_put_44 (by decide) ?_
        refine lv_iload hx hb dX2_put_46 (lv_at hl 3 rfl) ?_
        refine lv_imul hx hb dX2_put_48 ?_
        refine lv_lushr (v := (lush a1 (8 * v4))) hx hb dX2_put_49 rfl ?_
        refine lv_ldc2 hx hb hown k_168 dX2_put_50 ?_
        refine lv_land hx hb dX2_put_53 ?_
        refine lv_l2i (v := (((lush a1 (8 * v4)) &&& 255)).toInt32) hx hb dX2_put_54 rfl ?_
        refine lv_i2c (v := (i2c ((((lush a1 (8 * v4)) &&& 255)).toInt32))) hx hb dX2_put_55 rfl ?_
        refine gp_v wX_P wX_Pu hP hD hS hA (rn_VN (As := [.int (i2c ((((lush a1 (8 * v4)) &&& 255)).toInt32))]) (rest := []) ⟨hx, hb, hml, hown, hts⟩ (ctX0_append l G cI cC cZ cR hp x.2.1 (i2c ((((lush a1 (8 * v4)) &&& 255)).toInt32))) ⟨va_cnB 1 hts gX2_put_X0_append_n170 rfl rfl rfl (NWs.nw hN 45 rfl) (hts _ (List.mem_of_getElem? (i := 10) rfl)) (by decide +kernel) ⟨Nat.le_of_ble_eq_true rfl, Nat.le_of_ble_eq_true rfl⟩, (hts _ (List.mem_of_getElem? (i := 9) rfl)), (hts _ (List.mem_of_getElem? (i := 11) rfl))⟩ (md_recv hK (xblkP hP) rfl) hK (xblkP hP) (xblkPD hD) hN rfl hl.1 rfl (Nat.le_of_ble_eq_true rfl) dX2_put_56) (fun H locs hP hD hS => ?_)
        refine lv_iinc (v := (v4 + (-1))) (lv' := [(4, .int (v4 + (-1))), (0, .ref (ho 0)), (1, .long a1), (3, .int v3)]) hx hb dX2_put_59 hl (k := 3) rfl rfl (by decide) rfl (fun ls hl => ?_)
        have a_59 := i_sub1 (a := v4) (by omega) (by omega)
        refine lv_goto (tgt := 34) hx hb dX2_put_62 (by decide) ?_
        exact ih v3 (v4 + (-1)) (tP x (pX0_append (i2c ((((lush a1 (8 * v4)) &&& 255)).toInt32)) x.2.1)) (by omega) (by omega) (by omega) ((show pX2_put_L34 a1 (n + 1) v3 v4 x = pX2_put_L34 a1 n v3 (v4 + (-1)) (tP x (pX0_append (i2c ((((lush a1 (8 * v4)) &&& 255)).toInt32)) x.2.1)) by rw [pX2_put_L34, if_neg c_3]).symm.trans hq) _ _ _ hP hD hS (lv_sub hl [1, 2, 3, 0] rfl)
  refine lv_lload_n hx hb dX2_put_0 rfl (lv_at hl 1 rfl) ?_
  refine gn_i hP hS hA (rn_S (As := [.long a1]) (rest := []) ⟨hx, hb, hml, hown, hts⟩ (ctX2_charactersIn l G cI cC cZ cR a1) (va_cwS 1 hts gX2_put_X2_charactersIn rfl rfl rfl (by decide +kernel) ⟨Nat.le_of_ble_eq_true rfl, Nat.le_of_ble_eq_true rfl⟩) hK nilP (nilD (A := A)) hN rfl hl.1 rfl (Nat.le_of_ble_eq_true rfl) dX2_put_1) (fun H locs hP hS => ?_)
  refine lv_istore_n (lv' := [(3, .int (pX2_charactersIn a1)), (0, .ref (ho 0)), (1, .long a1)]) hx hb dX2_put_4 rfl hl (by decide) rfl (fun ls hl => ?_)
  refine lv_iload_n hx hb dX2_put_5 rfl (lv_at hl 0 rfl) ?_
  refine lv_if_ne (tgt := 12) hx hb dX2_put_6 (by decide) (fun c_1 => ?_) (fun c_1 => ?_)
  · refine lv_aload_n hx hb dX2_put_12 rfl (lv_at hl 1 rfl) ?_
    refine tx_get (v := .ref (hp 0)) hx hb hts hin hown hK hP 7 (by decide) k_40 rfl rfl dX2_put_13 ?_
    refine md_getN (ci := 0) (C := RX0) (T := TX0) (N := 8) (x := x.2.1) (v := .int (x.2.1.1 0)) hx hb hts hin0 hown hK (xblkP (t := x) hP) rfl 1 (by decide) (NWs.at hN 19 rfl) rfl rfl rfl dX2_put_16 ?_
    refine lv_iload_n hx hb dX2_put_19 rfl (lv_at hl 0 rfl) ?_
    refine lv_iadd hx hb dX2_put_20 ?_
    refine lv_bipush (v := 80) hx hb dX2_put_21 (by decide) ?_
    refine lv_icmp_le (tgt := 29) hx hb dX2_put_23 (by decide) (fun c_2 => ?_) (fun c_2 => ?_)
    · have t_2 := i_le (z := (Int32.toInt ((x.2.1.1 0) + (pX2_charactersIn a1)))) (w := (80)) c_2 rfl (by decide)
      refine lv_iload_n hx hb dX2_put_29 rfl (lv_at hl 0 rfl) ?_
      refine lv_iconst (v := 1) hx hb dX2_put_30 (by decide) ?_
      refine lv_isub hx hb dX2_put_31 ?_
      refine lv_istore (lv' := [(4, .int ((pX2_charactersIn a1) - 1)), (3, .int (pX2_charactersIn a1)), (0, .ref (ho 0)), (1, .long a1)]) hx hb dX2_put_32 hl (by decide) rfl (fun ls hl => ?_)
      exact lp_34 9 (pX2_charactersIn a1) ((pX2_charactersIn a1) - 1) x (by exact (cput_k (charIn_le a1).1 (charIn_le a1).2).1) (by exact (cput_k (charIn_le a1).1 (charIn_le a1).2).2.1) (by exact (cput_k (charIn_le a1).1 (charIn_le a1).2).2.2) ((show pX2_put a1 x = pX2_put_L34 a1 9 (pX2_charactersIn a1) ((pX2_charactersIn a1) - 1) x by rw [pX2_put, if_neg c_1, if_pos c_2]).symm.trans hres) _ _ _ hP hD hS (lv_sub hl [2, 3, 1, 0] rfl)
    · have t_2 := i_nle (z := (Int32.toInt ((x.2.1.1 0) + (pX2_charactersIn a1)))) (w := (80)) c_2 rfl (by decide)
      refine lv_bipush (v := (-4)) hx hb dX2_put_26 (by decide) ?_
      exact rt_xb (fun y hh => wX cI cC cZ cR ho hh hp y) hh hx hb hr hlocks hP hD hS rfl ((show pX2_put a1 x = (((-4) : Int32), x) by rw [pX2_put, if_neg c_1, if_neg c_2]).symm.trans hres |>.symm) dX2_put_28
  · refine lv_bipush (v := (-2)) hx hb dX2_put_9 (by decide) ?_
    exact rt_xb (fun y hh => wX cI cC cZ cR ho hh hp y) hh hx hb hr hlocks hP hD hS rfl ((show pX2_put a1 x = (((-2) : Int32), x) by rw [pX2_put, if_pos c_1]).symm.trans hres |>.symm) dX2_put_11
def pX2_wipe (x : TV) : Int32 × TV := ((x.2.1.1 0), (tP x (pX0_clear x.2.1)))
set_option maxHeartbeats 1000000 in
set_option maxRecDepth 100000 in
theorem ctX2_wipe (l : Launch) (G : va_G) (cI cC cZ cR : ClassId) (ho : Nat → Nat) (hh : Nat → Ad) (hp : Ad) (x : TV) : Ct l yX2_wipe wsX2_wipe (rmz 1 20) G (TY cI cC cZ cR) [.ref (ho 0)] (wX cI cC cZ cR ho hh hp x) (Qi G (wX cI cC cZ cR ho hh hp x) (pX2_wipe x).1 (wX cI cC cZ cR ho hh hp (pX2_wipe x).2)) := by
  refine Ct.ofI (cc := cX2_wipe) (maxL := 2) (ret := (some .int)) (by decide) rfl rfl ?_
  intro p e s m below meth c A ls E0 hP hD hS hl
  obtain ⟨hx, hb, hr, hml, hlocks, hts, hown, hK, hN, hA⟩ := E0
  have hl : lv_has ls 2 [(0, .ref (ho 0))] := hl
  have hin : ∀ w ∈ wsX20, w ∈ wsX2_wipe := fun w hw => List.mem_cons_of_mem _ (List.mem_append_left _ (List.mem_append_right _ (hw)))
  have hin0 : ∀ w ∈ wsX00, w ∈ wsX2_wipe := fun w hw => List.mem_cons_of_mem _ (List.mem_append_right _ (hw))
  have k_40 : (Cond.fieldLink RX2 40 RX2 (TX2 7).2.1 (TX2 7).2.2.1).before ([.ref (ho 0)] : List Value).toArray s = true := hts _ (List.mem_of_getElem? (i := 1) rfl)
  generalize hres : pX2_wipe x = res
  refine lv_aload_n hx hb dX2_wipe_0 rfl (lv_at hl 0 rfl) ?_
  refine tx_get (v := .ref (hp 0)) hx hb hts hin hown hK hP 7 (by decide) k_40 rfl rfl dX2_wipe_1 ?_
  refine md_getN (ci := 0) (C := RX0) (T := TX0) (N := 8) (x := x.2.1) (v := .int (x.2.1.1 0)) hx hb hts hin0 hown hK (xblkP (t := x) hP) rfl 1 (by decide) (NWs.at hN 19 rfl) rfl rfl rfl dX2_wipe_4 ?_
  refine lv_istore_n (lv' := [(1, .int (x.2.1.1 0)), (0, .ref (ho 0))]) hx hb dX2_wipe_7 rfl hl (by decide) rfl (fun ls hl => ?_)
  refine lv_aload_n hx hb dX2_wipe_8 rfl (lv_at hl 1 rfl) ?_
  refine tx_get (v := .ref (hp 0)) hx hb hts hin hown hK hP 7 (by decide) k_40 rfl rfl dX2_wipe_9 ?_
  refine gp_v wX_P wX_Pu hP hD hS hA (rn_VN (As := []) (rest := []) ⟨hx, hb, hml, hown, hts⟩ (ctX0_clear l G cI cC cZ cR hp x.2.1) ⟨va_cnB 0 hts gX2_wipe_X0_clear_n178 rfl rfl rfl (NWs.nw hN 46 rfl) (hts _ (List.mem_of_getElem? (i := 3) rfl)) (by decide +kernel) ⟨Nat.le_of_ble_eq_true rfl, Nat.le_of_ble_eq_true rfl⟩, (hts _ (List.mem_of_getElem? (i := 2) rfl)), (hts _ (List.mem_of_getElem? (i := 4) rfl))⟩ (md_recv hK (xblkP hP) rfl) hK (xblkP hP) (xblkPD hD) hN rfl hl.1 rfl (Nat.le_of_ble_eq_true rfl) dX2_wipe_12) (fun H locs hP hD hS => ?_)
  refine lv_iload_n hx hb dX2_wipe_15 rfl (lv_at hl 0 rfl) ?_
  exact rt_xb (fun y hh => wX cI cC cZ cR ho hh hp y) hh hx hb hr hlocks hP hD hS rfl ((show pX2_wipe x = ((x.2.1.1 0), (tP x (pX0_clear x.2.1))) by rw [pX2_wipe]).symm.trans hres |>.symm) dX2_wipe_16
def pX2_fault (x : TV) : Int32 × TV := ((pX0_findFault x.2.1).1, (tP x ((pX0_findFault x.2.1).2)))
set_option maxHeartbeats 1000000 in
set_option maxRecDepth 100000 in
theorem ctX2_fault (l : Launch) (G : va_G) (cI cC cZ cR : ClassId) (ho : Nat → Nat) (hh : Nat → Ad) (hp : Ad) (x : TV) (q_0 : chOK x.2.1) : Ct l yX2_fault wsX2_fault (rmz 6 124) G (TY cI cC cZ cR) [.ref (ho 0)] (wX cI cC cZ cR ho hh hp x) (Qi G (wX cI cC cZ cR ho hh hp x) (pX2_fault x).1 (wX cI cC cZ cR ho hh hp (pX2_fault x).2)) := by
  refine Ct.ofI (cc := cX2_fault) (maxL := 1) (ret := (some .int)) (by decide) rfl rfl ?_
  intro p e s m below meth c A ls E0 hP hD hS hl
  obtain ⟨hx, hb, hr, hml, hlocks, hts, hown, hK, hN, hA⟩ := E0
  have hl : lv_has ls 1 [(0, .ref (ho 0))] := hl
  have hin : ∀ w ∈ wsX20, w ∈ wsX2_fault := fun w hw => List.mem_cons_of_mem _ (List.mem_append_left _ (List.mem_append_right _ (hw)))
  have hin0 : ∀ w ∈ wsX00, w ∈ wsX2_fault := fun w hw => List.mem_cons_of_mem _ (List.mem_append_right _ (hw))
  have k_40 : (Cond.fieldLink RX2 40 RX2 (TX2 7).2.1 (TX2 7).2.2.1).before ([.ref (ho 0)] : List Value).toArray s = true := hts _ (List.mem_of_getElem? (i := 1) rfl)
  generalize hres : pX2_fault x = res
  refine lv_aload_n hx hb dX2_fault_0 rfl (lv_at hl 0 rfl) ?_
  refine tx_get (v := .ref (hp 0)) hx hb hts hin hown hK hP 7 (by decide) k_40 rfl rfl dX2_fault_1 ?_
  refine gp_i wX_P wX_Pu hP hD hS hA (rn_VN (As := []) (rest := []) ⟨hx, hb, hml, hown, hts⟩ (ctX0_findFault l G cI cC cZ cR hp x.2.1 (by exact q_0)) ⟨va_cnB 0 hts gX2_fault_X0_findFault_n181 rfl rfl rfl (NWs.nw hN 47 rfl) (hts _ (List.mem_of_getElem? (i := 3) rfl)) (by decide +kernel) ⟨Nat.le_of_ble_eq_true rfl, Nat.le_of_ble_eq_true rfl⟩, (hts _ (List.mem_of_getElem? (i := 2) rfl)), (hts _ (List.mem_of_getElem? (i := 4) rfl))⟩ (md_recv hK (xblkP hP) rfl) hK (xblkP hP) (xblkPD hD) hN rfl hl.1 rfl (Nat.le_of_ble_eq_true rfl) dX2_fault_4) (fun H locs hP hD hS => ?_)
  exact rt_xb (fun y hh => wX cI cC cZ cR ho hh hp y) hh hx hb hr hlocks hP hD hS rfl ((show pX2_fault x = ((pX0_findFault x.2.1).1, (tP x ((pX0_findFault x.2.1).2))) by rw [pX2_fault]).symm.trans hres |>.symm) dX2_fault_7
def pX2_save (a1 : Int32) (x : TV) : Int32 × TV := if a1 < 0 then (((-2) : Int32), x)
  else if a1 < 2 then ((pJ6_bitCount_0f7a4 (((tQ x (9 + ix a1) (pX2_copy (x.1 0) (x.1 (9 + ix a1)))).1 0).1 0)), (tW (tQ x (9 + ix a1) (pX2_copy (x.1 0) (x.1 (9 + ix a1)))) a1 1))
    else (((-2) : Int32), x)
set_option maxHeartbeats 1000000 in
set_option maxRecDepth 100000 in
theorem ctX2_save (l : Launch) (G : va_G) (cI cC cZ cR : ClassId) (ho : Nat → Nat) (hh : Nat → Ad) (hp : Ad) (x : TV) (a1 : Int32) : Ct l yX2_save wsX2_save (rmz 2 61) G (TY cI cC cZ cR) [.ref (ho 0), .int a1] (wX cI cC cZ cR ho hh hp x) (Qi G (wX cI cC cZ cR ho hh hp x) (pX2_save a1 x).1 (wX cI cC cZ cR ho hh hp (pX2_save a1 x).2)) := by
  refine Ct.ofI (cc := cX2_save) (maxL := 2) (ret := (some .int)) (by decide) rfl rfl ?_
  intro p e s m below meth c A ls E0 hP hD hS hl
  obtain ⟨hx, hb, hr, hml, hlocks, hts, hown, hK, hN, hA⟩ := E0
  have hl : lv_has ls 2 [(0, .ref (ho 0)), (1, .int a1)] := hl
  have hin : ∀ w ∈ wsX20, w ∈ wsX2_save := fun w hw => List.mem_cons_of_mem _ (List.mem_append_left _ (List.mem_append_right _ (hw)))
  have hin1 : ∀ w ∈ wsX10, w ∈ wsX2_save := fun w hw => List.mem_cons_of_mem _ (List.mem_append_right _ (hw))
  have k_10 : (Cond.fieldLink RX2 10 RX2 (TX2 0).2.1 (TX2 0).2.2.1).before ([.ref (ho 0), .int a1] : List Value).toArray s = true := hts _ (List.mem_of_getElem? (i := 1) rfl)
  have k_30 : (Cond.fieldLink RX2 30 RX2 (TX2 5).2.1 (TX2 5).2.2.1).before ([.ref (ho 0), .int a1] : List Value).toArray s = true := hts _ (List.mem_of_getElem? (i := 2) rfl)
  have k_33 : (Cond.fieldLink RX2 33 RX2 (TX2 6).2.1 (TX2 6).2.2.1).before ([.ref (ho 0), .int a1] : List Value).toArray s = true := hts _ (List.mem_of_getElem? (i := 3) rfl)
  generalize hres : pX2_save a1 x = res
  refine lv_iload_n hx hb dX2_save_0 rfl (lv_at hl 1 rfl) ?_
  refine lv_if_lt (tgt := 9) hx hb dX2_save_1 (by decide) (fun c_1 => ?_) (fun c_1 => ?_)
  · have t_1 := i_lt (z := (Int32.toInt a1)) (w := (0)) c_1 rfl (by decide)
    refine lv_bipush (v := (-2)) hx hb dX2_save_9 (by decide) ?_
    exact rt_xb (fun y hh => wX cI cC cZ cR ho hh hp y) hh hx hb hr hlocks hP hD hS rfl ((show pX2_save a1 x = (((-2) : Int32), x) by rw [pX2_save, if_pos c_1]).symm.trans hres |>.symm) dX2_save_11
  · have t_1 := i_nlt (z := (Int32.toInt a1)) (w := (0)) c_1 rfl (by decide)
    refine lv_iload_n hx hb dX2_save_4 rfl (lv_at hl 1 rfl) ?_
    refine lv_iconst (v := 2) hx hb dX2_save_5 (by decide) ?_
    refine lv_icmp_lt (tgt := 12) hx hb dX2_save_6 (by decide) (fun c_2 => ?_) (fun c_2 => ?_)
    · have t_2 := i_lt (z := (Int32.toInt a1)) (w := (2)) c_2 rfl (by decide)
      refine lv_aload_n hx hb dX2_save_12 rfl (lv_at hl 0 rfl) ?_
      refine tx_get (v := .ref (hh 0 0)) hx hb hts hin hown hK hP 0 (by decide) k_10 rfl rfl dX2_save_13 ?_
      refine lv_aload_n hx hb dX2_save_16 rfl (lv_at hl 0 rfl) ?_
      refine tx_get (v := .ref (ho 2)) hx hb hts hin hown hK hP 5 (by decide) k_30 rfl rfl dX2_save_17 ?_
      refine lv_iload_n hx hb dX2_save_20 rfl (lv_at hl 1 rfl) ?_
      refine tx_alds hx hb hK hP (by first | with_reducible assumption | exact vp_in_iff.mpr ⟨by decide, by decide⟩ | exact vp_in_iff.mpr ⟨by omega, by omega⟩ | exact has_in (by with_reducible assumption)) dX2_save_21 ?_
      refine gp_v (wX_2 (j := 0) (k := (9 + ix a1)) (by decide) (by have := ix_lt (n := 2) (i := a1) (vp_in_iff.mpr ⟨by omega, by omega⟩); omega) (by omega)) (wX_2u (j := 0) (k := (9 + ix a1)) (by decide) (by have := ix_lt (n := 2) (i := a1) (vp_in_iff.mpr ⟨by omega, by omega⟩); omega) (by omega)) hP hD hS hA (rn_S (As := [.ref (hh 0 0), .ref (hh (9 + ix a1) 0)]) (rest := []) ⟨hx, hb, hml, hown, hts⟩ (ctX2_copy l G cI cC cZ cR (hh 0) (hh (9 + ix a1)) (x.1 0) (x.1 (9 + ix a1))) (va_cwS 2 hts gX2_save_X2_copy rfl rfl rfl (by decide +kernel) ⟨Nat.le_of_ble_eq_true rfl, Nat.le_of_ble_eq_true rfl⟩) hK (hP.perm (wX_2 (j := 0) (k := (9 + ix a1)) (by decide) (by have := ix_lt (n := 2) (i := a1) (vp_in_iff.mpr ⟨by omega, by omega⟩); omega) (by omega))).left (va_D.leftD (hD.perm (wX_2 (j := 0) (k := (9 + ix a1)) (by decide) (by have := ix_lt (n := 2) (i := a1) (vp_in_iff.mpr ⟨by omega, by omega⟩); omega) (by omega)))) hN rfl hl.1 rfl (Nat.le_of_ble_eq_true rfl) dX2_save_22) (fun H locs hP hD hS => ?_)
      refine lv_aload_n hx hb dX2_save_25 rfl (lv_at hl 0 rfl) ?_
      refine tx_get (v := .ref (ho 3)) hx hb hts hin hown hK hP 6 (by decide) k_33 rfl rfl dX2_save_26 ?_
      refine lv_iload_n hx hb dX2_save_29 rfl (lv_at hl 1 rfl) ?_
      refine lv_iconst (v := 1) hx hb dX2_save_30 (by decide) ?_
      refine tx_zst hx hb hK hP hD hS (by first | with_reducible assumption | exact vp_in_iff.mpr ⟨by decide, by decide⟩ | exact vp_in_iff.mpr ⟨by omega, by omega⟩ | exact has_in (by with_reducible assumption)) dX2_save_31 (fun H locs hP hD hS => ?_)
      refine lv_aload_n hx hb dX2_save_32 rfl (lv_at hl 0 rfl) ?_
      refine tx_get (v := .ref (hh 0 0)) hx hb hts hin hown hK hP 0 (by decide) k_10 rfl rfl dX2_save_33 ?_
      refine md_getN (ci := 1) (C := RX1) (T := TX1) (N := 18) (x := ((tQ x (9 + ix a1) (pX2_copy (x.1 0) (x.1 (9 + ix a1)))).1 0)) (v := .int (((tQ x (9 + ix a1) (pX2_copy (x.1 0) (x.1 (9 + ix a1)))).1 0).1 0)) hx hb hts hin1 hown hK (xblk (t := (tW (tQ x (9 + ix a1) (pX2_copy (x.1 0) (x.1 (9 + ix a1)))) a1 1)) (j := 0) hP (by decide)) rfl 1 (by decide) (NWs.at hN 2 rfl) rfl rfl rfl dX2_save_36 ?_
      refine gn_i hP hS hA (rn_S (As := [.int (((tQ x (9 + ix a1) (pX2_copy (x.1 0) (x.1 (9 + ix a1)))).1 0).1 0)]) (rest := []) ⟨hx, hb, hml, hown, hts⟩ (ctJ6_bitCount_0f7a4 l G cI cC cZ cR (((tQ x (9 + ix a1) (pX2_copy (x.1 0) (x.1 (9 + ix a1)))).1 0).1 0)) (va_cwS 1 hts gX2_save_J6_bitCount_0f7a4 rfl rfl rfl (by decide +kernel) ⟨Nat.le_of_ble_eq_true rfl, Nat.le_of_ble_eq_true rfl⟩) hK nilP (nilD (A := A)) hN rfl hl.1 rfl (Nat.le_of_ble_eq_true rfl) dX2_save_39) (fun H locs hP hS => ?_)
      exact rt_xb (fun y hh => wX cI cC cZ cR ho hh hp y) hh hx hb hr hlocks hP hD hS rfl ((show pX2_save a1 x = ((pJ6_bitCount_0f7a4 (((tQ x (9 + ix a1) (pX2_copy (x.1 0) (x.1 (9 + ix a1)))).1 0).1 0)), (tW (tQ x (9 + ix a1) (pX2_copy (x.1 0) (x.1 (9 + ix a1)))) a1 1)) by rw [pX2_save, if_neg c_1, if_pos c_2]).symm.trans hres |>.symm) dX2_save_42
    · have t_2 := i_nlt (z := (Int32.toInt a1)) (w := (2)) c_2 rfl (by decide)
      refine lv_bipush (v := (-2)) hx hb dX2_save_9 (by decide) ?_
      exact rt_xb (fun y hh => wX cI cC cZ cR ho hh hp y) hh hx hb hr hlocks hP hD hS rfl ((show pX2_save a1 x = (((-2) : Int32), x) by rw [pX2_save, if_neg c_1, if_neg c_2]).symm.trans hres |>.symm) dX2_save_11
def pX2_undo (x : TV) : Int32 × TV := if x.2.2.1 < 1 then (((-5) : Int32), x)
  else if x.2.2.1 ≤ 6 then ((x.2.2.1 - 1), (tQ (tU x (x.2.2.1 - 1)) 0 (pX2_copy (x.1 (3 + ix (x.2.2.1 - 1))) (x.1 0))))
    else (((-5) : Int32), x)
set_option maxHeartbeats 1000000 in
set_option maxRecDepth 100000 in
theorem ctX2_undo (l : Launch) (G : va_G) (cI cC cZ cR : ClassId) (ho : Nat → Nat) (hh : Nat → Ad) (hp : Ad) (x : TV) : Ct l yX2_undo wsX2_undo (rmz 2 61) G (TY cI cC cZ cR) [.ref (ho 0)] (wX cI cC cZ cR ho hh hp x) (Qi G (wX cI cC cZ cR ho hh hp x) (pX2_undo x).1 (wX cI cC cZ cR ho hh hp (pX2_undo x).2)) := by
  refine Ct.ofI (cc := cX2_undo) (maxL := 1) (ret := (some .int)) (by decide) rfl rfl ?_
  intro p e s m below meth c A ls E0 hP hD hS hl
  obtain ⟨hx, hb, hr, hml, hlocks, hts, hown, hK, hN, hA⟩ := E0
  have hl : lv_has ls 1 [(0, .ref (ho 0))] := hl
  have hin : ∀ w ∈ wsX20, w ∈ wsX2_undo := fun w hw => List.mem_cons_of_mem _ (List.mem_append_left _ (List.mem_append_right _ (hw)))
  have hin1 : ∀ w ∈ wsX10, w ∈ wsX2_undo := fun w hw => List.mem_cons_of_mem _ (List.mem_append_right _ (hw))
  have k_26 : (Cond.fieldLink RX2 26 RX2 (TX2 4).2.1 (TX2 4).2.2.1).before ([.ref (ho 0)] : List Value).toArray s = true := hts _ (List.mem_of_getElem? (i := 1) rfl)
  have k_22 : (Cond.fieldLink RX2 22 RX2 (TX2 3).2.1 (TX2 3).2.2.1).before ([.ref (ho 0)] : List Value).toArray s = true := hts _ (List.mem_of_getElem? (i := 2) rfl)
  have k_10 : (Cond.fieldLink RX2 10 RX2 (TX2 0).2.1 (TX2 0).2.2.1).before ([.ref (ho 0)] : List Value).toArray s = true := hts _ (List.mem_of_getElem? (i := 3) rfl)
  generalize hres : pX2_undo x = res
  refine lv_aload_n hx hb dX2_undo_0 rfl (lv_at hl 0 rfl) ?_
  refine tx_get (v := .int x.2.2.1) hx hb hts hin hown hK hP 4 (by decide) k_26 rfl rfl dX2_undo_1 ?_
  refine lv_iconst (v := 1) hx hb dX2_undo_4 (by decide) ?_
  refine lv_icmp_lt (tgt := 17) hx hb dX2_undo_5 (by decide) (fun c_1 => ?_) (fun c_1 => ?_)
  · have t_1 := i_lt (z := (Int32.toInt x.2.2.1)) (w := (1)) c_1 rfl (by decide)
    refine lv_bipush (v := (-5)) hx hb dX2_undo_17 (by decide) ?_
    exact rt_xb (fun y hh => wX cI cC cZ cR ho hh hp y) hh hx hb hr hlocks hP hD hS rfl ((show pX2_undo x = (((-5) : Int32), x) by rw [pX2_undo, if_pos c_1]).symm.trans hres |>.symm) dX2_undo_19
  · have t_1 := i_nlt (z := (Int32.toInt x.2.2.1)) (w := (1)) c_1 rfl (by decide)
    refine lv_aload_n hx hb dX2_undo_8 rfl (lv_at hl 0 rfl) ?_
    refine tx_get (v := .int x.2.2.1) hx hb hts hin hown hK hP 4 (by decide) k_26 rfl rfl dX2_undo_9 ?_
    refine lv_bipush (v := 6) hx hb dX2_undo_12 (by decide) ?_
    refine lv_icmp_le (tgt := 20) hx hb dX2_undo_14 (by decide) (fun c_2 => ?_) (fun c_2 => ?_)
    · have t_2 := i_le (z := (Int32.toInt x.2.2.1)) (w := (6)) c_2 rfl (by decide)
      refine lv_aload_n hx hb dX2_undo_20 rfl (lv_at hl 0 rfl) ?_
      refine lv_dup hx hb dX2_undo_21 rfl ?_
      refine tx_get (v := .int x.2.2.1) hx hb hts hin hown hK hP 4 (by decide) k_26 rfl rfl dX2_undo_22 ?_
      refine lv_iconst (v := 1) hx hb dX2_undo_25 (by decide) ?_
      refine lv_isub hx hb dX2_undo_26 ?_
      refine tx_putU hx hb hts hin hown hK hP hD hS k_26 dX2_undo_27 (fun H locs hP hD hS => ?_)
      refine lv_aload_n hx hb dX2_undo_30 rfl (lv_at hl 0 rfl) ?_
      refine tx_get (v := .ref (ho 1)) hx hb hts hin hown hK hP 3 (by decide) k_22 rfl rfl dX2_undo_31 ?_
      refine lv_aload_n hx hb dX2_undo_34 rfl (lv_at hl 0 rfl) ?_
      refine tx_get (v := .int (x.2.2.1 - 1)) hx hb hts hin hown hK hP 4 (by decide) k_26 rfl rfl dX2_undo_35 ?_
      refine tx_aldh hx hb hK hP (by exact usub_in (by omega) (by omega)) dX2_undo_38 ?_
      refine lv_aload_n hx hb dX2_undo_39 rfl (lv_at hl 0 rfl) ?_
      refine tx_get (v := .ref (hh 0 0)) hx hb hts hin hown hK hP 0 (by decide) k_10 rfl rfl dX2_undo_40 ?_
      refine gp_v (wX_2 (j := (3 + ix (x.2.2.1 - 1))) (k := 0) (by have := ix_lt (usub_in (u := x.2.2.1) (by omega) (by omega)); omega) (by decide) (by omega)) (wX_2u (j := (3 + ix (x.2.2.1 - 1))) (k := 0) (by have := ix_lt (usub_in (u := x.2.2.1) (by omega) (by omega)); omega) (by decide) (by omega)) hP hD hS hA (rn_S (As := [.ref (hh (3 + ix (x.2.2.1 - 1)) 0), .ref (hh 0 0)]) (rest := []) ⟨hx, hb, hml, hown, hts⟩ (ctX2_copy l G cI cC cZ cR (hh (3 + ix (x.2.2.1 - 1))) (hh 0) (x.1 (3 + ix (x.2.2.1 - 1))) (x.1 0)) (va_cwS 2 hts gX2_undo_X2_copy rfl rfl rfl (by decide +kernel) ⟨Nat.le_of_ble_eq_true rfl, Nat.le_of_ble_eq_true rfl⟩) hK (hP.perm (wX_2 (j := (3 + ix (x.2.2.1 - 1))) (k := 0) (by have := ix_lt (usub_in (u := x.2.2.1) (by omega) (by omega)); omega) (by decide) (by omega))).left (va_D.leftD (hD.perm (wX_2 (j := (3 + ix (x.2.2.1 - 1))) (k := 0) (by have := ix_lt (usub_in (u := x.2.2.1) (by omega) (by omega)); omega) (by decide) (by omega)))) hN rfl hl.1 rfl (Nat.le_of_ble_eq_true rfl) dX2_undo_43) (fun H locs hP hD hS => ?_)
      refine lv_aload_n hx hb dX2_undo_46 rfl (lv_at hl 0 rfl) ?_
      refine tx_get (v := .int (x.2.2.1 - 1)) hx hb hts hin hown hK hP 4 (by decide) k_26 rfl rfl dX2_undo_47 ?_
      exact rt_xb (fun y hh => wX cI cC cZ cR ho hh hp y) hh hx hb hr hlocks hP hD hS rfl ((show pX2_undo x = ((x.2.2.1 - 1), (tQ (tU x (x.2.2.1 - 1)) 0 (pX2_copy (x.1 (3 + ix (x.2.2.1 - 1))) (x.1 0)))) by rw [pX2_undo, if_neg c_1, if_pos c_2]).symm.trans hres |>.symm) dX2_undo_50
    · have t_2 := i_nle (z := (Int32.toInt x.2.2.1)) (w := (6)) c_2 rfl (by decide)
      refine lv_bipush (v := (-5)) hx hb dX2_undo_17 (by decide) ?_
      exact rt_xb (fun y hh => wX cI cC cZ cR ho hh hp y) hh hx hb hr hlocks hP hD hS rfl ((show pX2_undo x = (((-5) : Int32), x) by rw [pX2_undo, if_neg c_1, if_neg c_2]).symm.trans hres |>.symm) dX2_undo_19
def pX2_answerToOrder (x : TV) : Int32 × TV := if (x.2.1.1 2) = 99 then ((pX1_layCover (x.2.1.1 3) (x.1 0)).1, (tQ x 0 ((pX1_layCover (x.2.1.1 3) (x.1 0)).2)))
  else if (x.2.1.1 2) = 107 then ((pX1_hireKeeper (x.2.1.1 3) (x.1 0)).1, (tQ x 0 ((pX1_hireKeeper (x.2.1.1 3) (x.1 0)).2)))
    else if (x.2.1.1 2) = 112 then ((pX1_addPiano (x.2.1.1 3) (x.2.1.1 4) (x.1 0)).1, (tQ x 0 ((pX1_addPiano (x.2.1.1 3) (x.2.1.1 4) (x.1 0)).2)))
      else if (x.2.1.1 2) = 114 then ((pX1_changeRain (x.2.1.1 5) (x.1 0)).1, (tQ x 0 ((pX1_changeRain (x.2.1.1 5) (x.1 0)).2)))
        else if (x.2.1.1 2) = 116 then ((pX1_passCounted (x.2.1.1 3) (x.1 0)).1, (tQ x 0 ((pX1_passCounted (x.2.1.1 3) (x.1 0)).2)))
          else (((-3) : Int32), x)
set_option maxHeartbeats 1000000 in
set_option maxRecDepth 100000 in
theorem ctX2_answerToOrder (l : Launch) (G : va_G) (cI cC cZ cR : ClassId) (ho : Nat → Nat) (hh : Nat → Ad) (hp : Ad) (x : TV) : Ct l yX2_answerToOrder wsX2_answerToOrder (rmz 5 112) G (TY cI cC cZ cR) [.ref (ho 0)] (wX cI cC cZ cR ho hh hp x) (Qi G (wX cI cC cZ cR ho hh hp x) (pX2_answerToOrder x).1 (wX cI cC cZ cR ho hh hp (pX2_answerToOrder x).2)) := by
  refine Ct.ofI (cc := cX2_answerToOrder) (maxL := 1) (ret := (some .int)) (by decide) rfl rfl ?_
  intro p e s m below meth c A ls E0 hP hD hS hl
  obtain ⟨hx, hb, hr, hml, hlocks, hts, hown, hK, hN, hA⟩ := E0
  have hl : lv_has ls 1 [(0, .ref (ho 0))] := hl
  have hin : ∀ w ∈ wsX20, w ∈ wsX2_answerToOrder := fun w hw => List.mem_cons_of_mem _ (List.mem_append_left _ (List.mem_append_left _ (List.mem_append_right _ (hw))))
  have hin1 : ∀ w ∈ wsX10, w ∈ wsX2_answerToOrder := fun w hw => List.mem_cons_of_mem _ (List.mem_append_right _ (hw))
  have hin0 : ∀ w ∈ wsX00, w ∈ wsX2_answerToOrder := fun w hw => List.mem_cons_of_mem _ (List.mem_append_left _ (List.mem_append_right _ (hw)))
  have k_40 : (Cond.fieldLink RX2 40 RX2 (TX2 7).2.1 (TX2 7).2.2.1).before ([.ref (ho 0)] : List Value).toArray s = true := hts _ (List.mem_of_getElem? (i := 1) rfl)
  have k_10 : (Cond.fieldLink RX2 10 RX2 (TX2 0).2.1 (TX2 0).2.2.1).before ([.ref (ho 0)] : List Value).toArray s = true := hts _ (List.mem_of_getElem? (i := 2) rfl)
  generalize hres : pX2_answerToOrder x = res
  refine lv_aload_n hx hb dX2_answerToOrder_0 rfl (lv_at hl 0 rfl) ?_
  refine tx_get (v := .ref (hp 0)) hx hb hts hin hown hK hP 7 (by decide) k_40 rfl rfl dX2_answerToOrder_1 ?_
  refine md_getN (ci := 0) (C := RX0) (T := TX0) (N := 8) (x := x.2.1) (v := .int (x.2.1.1 2)) hx hb hts hin0 hown hK (xblkP (t := x) hP) rfl 3 (by decide) (NWs.at hN 20 rfl) rfl rfl rfl dX2_answerToOrder_4 ?_
  by_cases c_1 : (x.2.1.1 2) = 99
  · refine lv_lookup (tgt := 93) hx hb dX2_answerToOrder_7 (by decide) (by rw [c_1]; first | done | rfl) (by decide) ?_
    refine lv_aload_n hx hb dX2_answerToOrder_93 rfl (lv_at hl 0 rfl) ?_
    refine tx_get (v := .ref (hh 0 0)) hx hb hts hin hown hK hP 0 (by decide) k_10 rfl rfl dX2_answerToOrder_94 ?_
    refine lv_aload_n hx hb dX2_answerToOrder_97 rfl (lv_at hl 0 rfl) ?_
    refine tx_get (v := .ref (hp 0)) hx hb hts hin hown hK hP 7 (by decide) k_40 rfl rfl dX2_answerToOrder_98 ?_
    refine md_getN (ci := 0) (C := RX0) (T := TX0) (N := 8) (x := x.2.1) (v := .int (x.2.1.1 3)) hx hb hts hin0 hown hK (xblkP (t := x) hP) rfl 4 (by decide) (NWs.at hN 21 rfl) rfl rfl rfl dX2_answerToOrder_101 ?_
    refine gp_i (wX_1 (j := 0) (by decide)) (wX_1u (j := 0) (by decide)) hP hD hS hA (rn_VN (As := [.int (x.2.1.1 3)]) (rest := []) ⟨hx, hb, hml, hown, hts⟩ (ctX1_layCover l G cI cC cZ cR (hh 0) (x.1 0) (x.2.1.1 3)) ⟨va_cnB 1 hts gX2_answerToOrder_X1_layCover_n68 rfl rfl rfl (NWs.nw hN 36 rfl) (hts _ (List.mem_of_getElem? (i := 4) rfl)) (by decide +kernel) ⟨Nat.le_of_ble_eq_true rfl, Nat.le_of_ble_eq_true rfl⟩, (hts _ (List.mem_of_getElem? (i := 38) rfl)), (hts _ (List.mem_of_getElem? (i := 39) rfl))⟩ (md_recv hK (xblk (j := 0) hP (by decide)) rfl) hK (xblk (j := 0) hP (by decide)) (xblkD (j := 0) hD (by decide)) hN rfl hl.1 rfl (Nat.le_of_ble_eq_true rfl) dX2_answerToOrder_104) (fun H locs hP hD hS => ?_)
    exact rt_xb (fun y hh => wX cI cC cZ cR ho hh hp y) hh hx hb hr hlocks hP hD hS rfl ((show pX2_answerToOrder x = ((pX1_layCover (x.2.1.1 3) (x.1 0)).1, (tQ x 0 ((pX1_layCover (x.2.1.1 3) (x.1 0)).2))) by rw [pX2_answerToOrder, if_pos c_1]).symm.trans hres |>.symm) dX2_answerToOrder_107
  · skip
    by_cases c_2 : (x.2.1.1 2) = 107
    · refine lv_lookup (tgt := 78) hx hb dX2_answerToOrder_7 (by decide) (by rw [c_2]; first | done | rfl) (by decide) ?_
      refine lv_aload_n hx hb dX2_answerToOrder_78 rfl (lv_at hl 0 rfl) ?_
      refine tx_get (v := .ref (hh 0 0)) hx hb hts hin hown hK hP 0 (by decide) k_10 rfl rfl dX2_answerToOrder_79 ?_
      refine lv_aload_n hx hb dX2_answerToOrder_82 rfl (lv_at hl 0 rfl) ?_
      refine tx_get (v := .ref (hp 0)) hx hb hts hin hown hK hP 7 (by decide) k_40 rfl rfl dX2_answerToOrder_83 ?_
      refine md_getN (ci := 0) (C := RX0) (T := TX0) (N := 8) (x := x.2.1) (v := .int (x.2.1.1 3)) hx hb hts hin0 hown hK (xblkP (t := x) hP) rfl 4 (by decide) (NWs.at hN 21 rfl) rfl rfl rfl dX2_answerToOrder_86 ?_
      refine gp_i (wX_1 (j := 0) (by decide)) (wX_1u (j := 0) (by decide)) hP hD hS hA (rn_VN (As := [.int (x.2.1.1 3)]) (rest := []) ⟨hx, hb, hml, hown, hts⟩ (ctX1_hireKeeper l G cI cC cZ cR (hh 0) (x.1 0) (x.2.1.1 3)) ⟨va_cnB 1 hts gX2_answerToOrder_X1_hireKeeper_n65 rfl rfl rfl (NWs.nw hN 35 rfl) (hts _ (List.mem_of_getElem? (i := 4) rfl)) (by decide +kernel) ⟨Nat.le_of_ble_eq_true rfl, Nat.le_of_ble_eq_true rfl⟩, (hts _ (List.mem_of_getElem? (i := 25) rfl)), (hts _ (List.mem_of_getElem? (i := 26) rfl))⟩ (md_recv hK (xblk (j := 0) hP (by decide)) rfl) hK (xblk (j := 0) hP (by decide)) (xblkD (j := 0) hD (by decide)) hN rfl hl.1 rfl (Nat.le_of_ble_eq_true rfl) dX2_answerToOrder_89) (fun H locs hP hD hS => ?_)
      exact rt_xb (fun y hh => wX cI cC cZ cR ho hh hp y) hh hx hb hr hlocks hP hD hS rfl ((show pX2_answerToOrder x = ((pX1_hireKeeper (x.2.1.1 3) (x.1 0)).1, (tQ x 0 ((pX1_hireKeeper (x.2.1.1 3) (x.1 0)).2))) by rw [pX2_answerToOrder, if_neg c_1, if_pos c_2]).symm.trans hres |>.symm) dX2_answerToOrder_92
    · skip
      by_cases c_3 : (x.2.1.1 2) = 112
      · refine lv_lookup (tgt := 56) hx hb dX2_answerToOrder_7 (by decide) (by rw [c_3]; first | done | rfl) (by decide) ?_
        refine lv_aload_n hx hb dX2_answerToOrder_56 rfl (lv_at hl 0 rfl) ?_
        refine tx_get (v := .ref (hh 0 0)) hx hb hts hin hown hK hP 0 (by decide) k_10 rfl rfl dX2_answerToOrder_57 ?_
        refine lv_aload_n hx hb dX2_answerToOrder_60 rfl (lv_at hl 0 rfl) ?_
        refine tx_get (v := .ref (hp 0)) hx hb hts hin hown hK hP 7 (by decide) k_40 rfl rfl dX2_answerToOrder_61 ?_
        refine md_getN (ci := 0) (C := RX0) (T := TX0) (N := 8) (x := x.2.1) (v := .int (x.2.1.1 3)) hx hb hts hin0 hown hK (xblkP (t := x) hP) rfl 4 (by decide) (NWs.at hN 21 rfl) rfl rfl rfl dX2_answerToOrder_64 ?_
        refine lv_aload_n hx hb dX2_answerToOrder_67 rfl (lv_at hl 0 rfl) ?_
        refine tx_get (v := .ref (hp 0)) hx hb hts hin hown hK hP 7 (by decide) k_40 rfl rfl dX2_answerToOrder_68 ?_
        refine md_getN (ci := 0) (C := RX0) (T := TX0) (N := 8) (x := x.2.1) (v := .int (x.2.1.1 4)) hx hb hts hin0 hown hK (xblkP (t := x) hP) rfl 5 (by decide) (NWs.at hN 22 rfl) rfl rfl rfl dX2_answerToOrder_71 ?_
        refine gp_i (wX_1 (j := 0) (by decide)) (wX_1u (j := 0) (by decide)) hP hD hS hA (rn_VN (As := [.int (x.2.1.1 3), .int (x.2.1.1 4)]) (rest := []) ⟨hx, hb, hml, hown, hts⟩ (ctX1_addPiano l G cI cC cZ cR (hh 0) (x.1 0) (x.2.1.1 3) (x.2.1.1 4)) ⟨va_cnB 2 hts gX2_answerToOrder_X1_addPiano_n59 rfl rfl rfl (NWs.nw hN 31 rfl) (hts _ (List.mem_of_getElem? (i := 4) rfl)) (by decide +kernel) ⟨Nat.le_of_ble_eq_true rfl, Nat.le_of_ble_eq_true rfl⟩, (hts _ (List.mem_of_getElem? (i := 3) rfl)), (hts _ (List.mem_of_getElem? (i := 5) rfl))⟩ (md_recv hK (xblk (j := 0) hP (by decide)) rfl) hK (xblk (j := 0) hP (by decide)) (xblkD (j := 0) hD (by decide)) hN rfl hl.1 rfl (Nat.le_of_ble_eq_true rfl) dX2_answerToOrder_74) (fun H locs hP hD hS => ?_)
        exact rt_xb (fun y hh => wX cI cC cZ cR ho hh hp y) hh hx hb hr hlocks hP hD hS rfl ((show pX2_answerToOrder x = ((pX1_addPiano (x.2.1.1 3) (x.2.1.1 4) (x.1 0)).1, (tQ x 0 ((pX1_addPiano (x.2.1.1 3) (x.2.1.1 4) (x.1 0)).2))) by rw [pX2_answerToOrder, if_neg c_1, if_neg c_2, if_pos c_3]).symm.trans hres |>.symm) dX2_answerToOrder_77
      · skip
        by_cases c_4 : (x.2.1.1 2) = 114
        · refine lv_lookup (tgt := 108) hx hb dX2_answerToOrder_7 (by decide) (by rw [c_4]; first | done | rfl) (by decide) ?_
          refine lv_aload_n hx hb dX2_answerToOrder_108 rfl (lv_at hl 0 rfl) ?_
          refine tx_get (v := .ref (hh 0 0)) hx hb hts hin hown hK hP 0 (by decide) k_10 rfl rfl dX2_answerToOrder_109 ?_
          refine lv_aload_n hx hb dX2_answerToOrder_112 rfl (lv_at hl 0 rfl) ?_
          refine tx_get (v := .ref (hp 0)) hx hb hts hin hown hK hP 7 (by decide) k_40 rfl rfl dX2_answerToOrder_113 ?_
          refine md_getN (ci := 0) (C := RX0) (T := TX0) (N := 8) (x := x.2.1) (v := .int (x.2.1.1 5)) hx hb hts hin0 hown hK (xblkP (t := x) hP) rfl 6 (by decide) (NWs.at hN 23 rfl) rfl rfl rfl dX2_answerToOrder_116 ?_
          refine gp_i (wX_1 (j := 0) (by decide)) (wX_1u (j := 0) (by decide)) hP hD hS hA (rn_VN (As := [.int (x.2.1.1 5)]) (rest := []) ⟨hx, hb, hml, hown, hts⟩ (ctX1_changeRain l G cI cC cZ cR (hh 0) (x.1 0) (x.2.1.1 5)) ⟨va_cnB 1 hts gX2_answerToOrder_X1_changeRain_n56 rfl rfl rfl (NWs.nw hN 30 rfl) (hts _ (List.mem_of_getElem? (i := 4) rfl)) (by decide +kernel) ⟨Nat.le_of_ble_eq_true rfl, Nat.le_of_ble_eq_true rfl⟩, (hts _ (List.mem_of_getElem? (i := 42) rfl)), (hts _ (List.mem_of_getElem? (i := 43) rfl))⟩ (md_recv hK (xblk (j := 0) hP (by decide)) rfl) hK (xblk (j := 0) hP (by decide)) (xblkD (j := 0) hD (by decide)) hN rfl hl.1 rfl (Nat.le_of_ble_eq_true rfl) dX2_answerToOrder_119) (fun H locs hP hD hS => ?_)
          exact rt_xb (fun y hh => wX cI cC cZ cR ho hh hp y) hh hx hb hr hlocks hP hD hS rfl ((show pX2_answerToOrder x = ((pX1_changeRain (x.2.1.1 5) (x.1 0)).1, (tQ x 0 ((pX1_changeRain (x.2.1.1 5) (x.1 0)).2))) by rw [pX2_answerToOrder, if_neg c_1, if_neg c_2, if_neg c_3, if_pos c_4]).symm.trans hres |>.symm) dX2_answerToOrder_122
        · skip
          by_cases c_5 : (x.2.1.1 2) = 116
          · refine lv_lookup (tgt := 123) hx hb dX2_answerToOrder_7 (by decide) (by rw [c_5]; first | done | rfl) (by decide) ?_
            refine lv_aload_n hx hb dX2_answerToOrder_123 rfl (lv_at hl 0 rfl) ?_
            refine tx_get (v := .ref (hh 0 0)) hx hb hts hin hown hK hP 0 (by decide) k_10 rfl rfl dX2_answerToOrder_124 ?_
            refine lv_aload_n hx hb dX2_answerToOrder_127 rfl (lv_at hl 0 rfl) ?_
            refine tx_get (v := .ref (hp 0)) hx hb hts hin hown hK hP 7 (by decide) k_40 rfl rfl dX2_answerToOrder_128 ?_
            refine md_getN (ci := 0) (C := RX0) (T := TX0) (N := 8) (x := x.2.1) (v := .int (x.2.1.1 3)) hx hb hts hin0 hown hK (xblkP (t := x) hP) rfl 4 (by decide) (NWs.at hN 21 rfl) rfl rfl rfl dX2_answerToOrder_131 ?_
            refine gp_i (wX_1 (j := 0) (by decide)) (wX_1u (j := 0) (by decide)) hP hD hS hA (rn_VN (As := [.int (x.2.1.1 3)]) (rest := []) ⟨hx, hb, hml, hown, hts⟩ (ctX1_passCounted l G cI cC cZ cR (hh 0) (x.1 0) (x.2.1.1 3)) ⟨va_cnB 1 hts gX2_answerToOrder_X1_passCounted_n71 rfl rfl rfl (NWs.nw hN 37 rfl) (hts _ (List.mem_of_getElem? (i := 4) rfl)) (by decide +kernel) ⟨Nat.le_of_ble_eq_true rfl, Nat.le_of_ble_eq_true rfl⟩, (hts _ (List.mem_of_getElem? (i := 47) rfl)), (hts _ (List.mem_of_getElem? (i := 48) rfl))⟩ (md_recv hK (xblk (j := 0) hP (by decide)) rfl) hK (xblk (j := 0) hP (by decide)) (xblkD (j := 0) hD (by decide)) hN rfl hl.1 rfl (Nat.le_of_ble_eq_true rfl) dX2_answerToOrder_134) (fun H locs hP hD hS => ?_)
            exact rt_xb (fun y hh => wX cI cC cZ cR ho hh hp y) hh hx hb hr hlocks hP hD hS rfl ((show pX2_answerToOrder x = ((pX1_passCounted (x.2.1.1 3) (x.1 0)).1, (tQ x 0 ((pX1_passCounted (x.2.1.1 3) (x.1 0)).2))) by rw [pX2_answerToOrder, if_neg c_1, if_neg c_2, if_neg c_3, if_neg c_4, if_pos c_5]).symm.trans hres |>.symm) dX2_answerToOrder_137
          · skip
            refine lv_lookup (off := 131) (tgt := 138) hx hb dX2_answerToOrder_7 (by decide) ((lv_osw (a := 99) c_1 (by decide)).trans ((lv_osw (a := 107) c_2 (by decide)).trans ((lv_osw (a := 112) c_3 (by decide)).trans ((lv_osw (a := 114) c_4 (by decide)).trans ((lv_osw (a := 116) c_5 (by decide)).trans (rfl)))))) (by decide) ?_
            refine lv_bipush (v := (-3)) hx hb dX2_answerToOrder_138 (by decide) ?_
            exact rt_xb (fun y hh => wX cI cC cZ cR ho hh hp y) hh hx hb hr hlocks hP hD hS rfl ((show pX2_answerToOrder x = (((-3) : Int32), x) by rw [pX2_answerToOrder, if_neg c_1, if_neg c_2, if_neg c_3, if_neg c_4, if_neg c_5]).symm.trans hres |>.symm) dX2_answerToOrder_140
