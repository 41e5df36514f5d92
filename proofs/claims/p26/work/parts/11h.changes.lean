def pX2_recorded (a1 : Int32) (x : TV) : Int32 × TV := if 0 ≤ a1 then if x.2.2.1 < 6 then if x.2.2.1 < 0 then (a1, x)
      else if 6 ≤ x.2.2.1 then (a1, x)
        else (a1, (tU (tQ x (3 + ix x.2.2.1) (pX2_copy (x.1 1) (x.1 (3 + ix x.2.2.1)))) (x.2.2.1 + 1)))
    else if ((pX2_dropOldest x).2.2.1) < 0 then (a1, (pX2_dropOldest x))
      else if 6 ≤ ((pX2_dropOldest x).2.2.1) then (a1, (pX2_dropOldest x))
        else (a1, (tU (tQ (pX2_dropOldest x) (3 + ix ((pX2_dropOldest x).2.2.1)) (pX2_copy ((pX2_dropOldest x).1 1) ((pX2_dropOldest x).1 (3 + ix ((pX2_dropOldest x).2.2.1))))) (((pX2_dropOldest x).2.2.1) + 1)))
  else (a1, x)
set_option maxHeartbeats 1000000 in
set_option maxRecDepth 100000 in
theorem ctX2_recorded (l : Launch) (G : va_G) (cI cC cZ cR : ClassId) (ho : Nat → Nat) (hh : Nat → Ad) (hp : Ad) (x : TV) (a1 : Int32) : Ct l yX2_recorded wsX2_recorded (rmz 2 61) G (TY cI cC cZ cR) [.ref (ho 0), .int a1] (wX cI cC cZ cR ho hh hp x) (Qx G (wX cI cC cZ cR ho hh hp x) (pX2_recorded a1 x).1 (fun hh => (wX cI cC cZ cR ho hh hp (pX2_recorded a1 x).2))) := by
  refine Ct.ofX (cc := cX2_recorded) (maxL := 2) (ret := (some .int)) (by decide) rfl rfl ?_
  intro p e s m below meth c A ls E0 hP hD hS hl
  obtain ⟨hx, hb, hr, hml, hlocks, hts, hown, hK, hN, hA⟩ := E0
  have hl : lv_has ls 2 [(0, .ref (ho 0)), (1, .int a1)] := hl
  have hin : ∀ w ∈ wsX20, w ∈ wsX2_recorded := fun w hw => List.mem_cons_of_mem _ (List.mem_append_left _ (List.mem_append_right _ (hw)))
  have hin1 : ∀ w ∈ wsX10, w ∈ wsX2_recorded := fun w hw => List.mem_cons_of_mem _ (List.mem_append_right _ (hw))
  have k_26 : (Cond.fieldLink RX2 26 RX2 (TX2 4).2.1 (TX2 4).2.2.1).before ([.ref (ho 0), .int a1] : List Value).toArray s = true := hts _ (List.mem_of_getElem? (i := 1) rfl)
  have k_16 : (Cond.fieldLink RX2 16 RX2 (TX2 1).2.1 (TX2 1).2.2.1).before ([.ref (ho 0), .int a1] : List Value).toArray s = true := hts _ (List.mem_of_getElem? (i := 2) rfl)
  have k_22 : (Cond.fieldLink RX2 22 RX2 (TX2 3).2.1 (TX2 3).2.2.1).before ([.ref (ho 0), .int a1] : List Value).toArray s = true := hts _ (List.mem_of_getElem? (i := 3) rfl)
  generalize hres : pX2_recorded a1 x = res
  refine lv_iload_n hx hb dX2_recorded_0 rfl (lv_at hl 1 rfl) ?_
  refine lv_if_ge (tgt := 6) hx hb dX2_recorded_1 (by decide) (fun c_1 => ?_) (fun c_1 => ?_)
  · have t_1 := i_le (z := (0)) (w := (Int32.toInt a1)) c_1 (by decide) rfl
    refine lv_aload_n hx hb dX2_recorded_6 rfl (lv_at hl 0 rfl) ?_
    refine tx_get (v := .int x.2.2.1) hx hb hts hin hown hK hP 4 (by decide) k_26 rfl rfl dX2_recorded_7 ?_
    refine lv_bipush (v := 6) hx hb dX2_recorded_10 (by decide) ?_
    refine lv_icmp_lt (tgt := 19) hx hb dX2_recorded_12 (by decide) (fun c_2 => ?_) (fun c_2 => ?_)
    · have t_2 := i_lt (z := (Int32.toInt x.2.2.1)) (w := (6)) c_2 rfl (by decide)
      refine lv_aload_n hx hb dX2_recorded_19 rfl (lv_at hl 0 rfl) ?_
      refine tx_get (v := .int x.2.2.1) hx hb hts hin hown hK hP 4 (by decide) k_26 rfl rfl dX2_recorded_20 ?_
      refine lv_if_lt (tgt := 61) hx hb dX2_recorded_23 (by decide) (fun c_3 => ?_) (fun c_3 => ?_)
      · have t_3 := i_lt (z := (Int32.toInt x.2.2.1)) (w := (0)) c_3 rfl (by decide)
        refine lv_iload_n hx hb dX2_recorded_61 rfl (lv_at hl 1 rfl) ?_
        exact rt_x (fun y hh => wX cI cC cZ cR ho hh hp y) hh hx hb hr hlocks hP hD hS rfl ((show pX2_recorded a1 x = (a1, x) by rw [pX2_recorded, if_pos c_1, if_pos c_2, if_pos c_3]).symm.trans hres |>.symm) dX2_recorded_62
      · have t_3 := i_nlt (z := (Int32.toInt x.2.2.1)) (w := (0)) c_3 rfl (by decide)
        refine lv_aload_n hx hb dX2_recorded_26 rfl (lv_at hl 0 rfl) ?_
        refine tx_get (v := .int x.2.2.1) hx hb hts hin hown hK hP 4 (by decide) k_26 rfl rfl dX2_recorded_27 ?_
        refine lv_bipush (v := 6) hx hb dX2_recorded_30 (by decide) ?_
        refine lv_icmp_ge (tgt := 61) hx hb dX2_recorded_32 (by decide) (fun c_4 => ?_) (fun c_4 => ?_)
        · have t_4 := i_le (z := (6)) (w := (Int32.toInt x.2.2.1)) c_4 (by decide) rfl
          refine lv_iload_n hx hb dX2_recorded_61 rfl (lv_at hl 1 rfl) ?_
          exact rt_x (fun y hh => wX cI cC cZ cR ho hh hp y) hh hx hb hr hlocks hP hD hS rfl ((show pX2_recorded a1 x = (a1, x) by rw [pX2_recorded, if_pos c_1, if_pos c_2, if_neg c_3, if_pos c_4]).symm.trans hres |>.symm) dX2_recorded_62
        · have t_4 := i_nle (z := (6)) (w := (Int32.toInt x.2.2.1)) c_4 (by decide) rfl
          refine lv_aload_n hx hb dX2_recorded_35 rfl (lv_at hl 0 rfl) ?_
          refine tx_get (v := .ref (hh 1 0)) hx hb hts hin hown hK hP 1 (by decide) k_16 rfl rfl dX2_recorded_36 ?_
          refine lv_aload_n hx hb dX2_recorded_39 rfl (lv_at hl 0 rfl) ?_
          refine tx_get (v := .ref (ho 1)) hx hb hts hin hown hK hP 3 (by decide) k_22 rfl rfl dX2_recorded_40 ?_
          refine lv_aload_n hx hb dX2_recorded_43 rfl (lv_at hl 0 rfl) ?_
          refine tx_get (v := .int x.2.2.1) hx hb hts hin hown hK hP 4 (by decide) k_26 rfl rfl dX2_recorded_44 ?_
          refine tx_aldh hx hb hK hP (by exact vp_in_iff.mpr ⟨by omega, by omega⟩) dX2_recorded_47 ?_
          refine gp_v (wX_2 (j := 1) (k := (3 + ix x.2.2.1)) (by decide) (by first | (have := ix_lt (n := 6) (i := x.2.2.1) (vp_in_iff.mpr ⟨by omega, by omega⟩); omega) | (have := ix_lt (n := 6) (i := (pX2_dropOldest x).2.2.1) (vp_in_iff.mpr ⟨by omega, by omega⟩); omega)) (by omega)) (wX_2u (j := 1) (k := (3 + ix x.2.2.1)) (by decide) (by first | (have := ix_lt (n := 6) (i := x.2.2.1) (vp_in_iff.mpr ⟨by omega, by omega⟩); omega) | (have := ix_lt (n := 6) (i := (pX2_dropOldest x).2.2.1) (vp_in_iff.mpr ⟨by omega, by omega⟩); omega)) (by omega)) hP hD hS hA (rn_S (As := [.ref (hh 1 0), .ref (hh (3 + ix x.2.2.1) 0)]) (rest := []) ⟨hx, hb, hml, hown, hts⟩ (ctX2_copy l G cI cC cZ cR (hh 1) (hh (3 + ix x.2.2.1)) (x.1 1) (x.1 (3 + ix x.2.2.1))) (va_cwS 2 hts gX2_recorded_X2_copy rfl rfl rfl (by decide +kernel) ⟨Nat.le_of_ble_eq_true rfl, Nat.le_of_ble_eq_true rfl⟩) hK (hP.perm (wX_2 (j := 1) (k := (3 + ix x.2.2.1)) (by decide) (by first | (have := ix_lt (n := 6) (i := x.2.2.1) (vp_in_iff.mpr ⟨by omega, by omega⟩); omega) | (have := ix_lt (n := 6) (i := (pX2_dropOldest x).2.2.1) (vp_in_iff.mpr ⟨by omega, by omega⟩); omega)) (by omega))).left (va_D.leftD (hD.perm (wX_2 (j := 1) (k := (3 + ix x.2.2.1)) (by decide) (by first | (have := ix_lt (n := 6) (i := x.2.2.1) (vp_in_iff.mpr ⟨by omega, by omega⟩); omega) | (have := ix_lt (n := 6) (i := (pX2_dropOldest x).2.2.1) (vp_in_iff.mpr ⟨by omega, by omega⟩); omega)) (by omega)))) hN rfl hl.1 rfl (Nat.le_of_ble_eq_true rfl) dX2_recorded_48) (fun H locs hP hD hS => ?_)
          refine lv_aload_n hx hb dX2_recorded_51 rfl (lv_at hl 0 rfl) ?_
          refine lv_dup hx hb dX2_recorded_52 rfl ?_
          refine tx_get (v := .int x.2.2.1) hx hb hts hin hown hK hP 4 (by decide) k_26 rfl rfl dX2_recorded_53 ?_
          refine lv_iconst (v := 1) hx hb dX2_recorded_56 (by decide) ?_
          refine lv_iadd hx hb dX2_recorded_57 ?_
          refine tx_putU hx hb hts hin hown hK hP hD hS k_26 dX2_recorded_58 (fun H locs hP hD hS => ?_)
          refine lv_iload_n hx hb dX2_recorded_61 rfl (lv_at hl 1 rfl) ?_
          exact rt_x (fun y hh => wX cI cC cZ cR ho hh hp y) hh hx hb hr hlocks hP hD hS rfl ((show pX2_recorded a1 x = (a1, (tU (tQ x (3 + ix x.2.2.1) (pX2_copy (x.1 1) (x.1 (3 + ix x.2.2.1)))) (x.2.2.1 + 1))) by rw [pX2_recorded, if_pos c_1, if_pos c_2, if_neg c_3, if_neg c_4]).symm.trans hres |>.symm) dX2_recorded_62
    · have t_2 := i_nlt (z := (Int32.toInt x.2.2.1)) (w := (6)) c_2 rfl (by decide)
      refine lv_aload_n hx hb dX2_recorded_15 rfl (lv_at hl 0 rfl) ?_
      refine go_v hD hS hA (rn_V (As := []) (rest := []) ⟨hx, hb, hml, hown, hts⟩ (ctX2_dropOldest l G cI cC cZ cR ho hh hp x) (cwV 0 hts gX2_recorded_X2_dropOldest rfl rfl rfl (by decide +kernel) ⟨Nat.le_of_ble_eq_true rfl, Nat.le_of_ble_eq_true rfl⟩) (tx_recv hK hP) hK hP hD hN rfl hl.1 rfl (Nat.le_of_ble_eq_true rfl) dX2_recorded_16) (fun H locs hP hD hS => ?_)
      refine lv_aload_n hx hb dX2_recorded_19 rfl (lv_at hl 0 rfl) ?_
      refine tx_get (v := .int ((pX2_dropOldest x).2.2.1)) hx hb hts hin hown hK hP 4 (by decide) k_26 rfl rfl dX2_recorded_20 ?_
      refine lv_if_lt (tgt := 61) hx hb dX2_recorded_23 (by decide) (fun c_5 => ?_) (fun c_5 => ?_)
      · have t_5 := i_lt (z := (Int32.toInt ((pX2_dropOldest x).2.2.1))) (w := (0)) c_5 rfl (by decide)
        refine lv_iload_n hx hb dX2_recorded_61 rfl (lv_at hl 1 rfl) ?_
        exact rt_x (fun y hh => wX cI cC cZ cR ho hh hp y) (rotA hh) hx hb hr hlocks hP hD hS rfl ((show pX2_recorded a1 x = (a1, (pX2_dropOldest x)) by rw [pX2_recorded, if_pos c_1, if_neg c_2, if_pos c_5]).symm.trans hres |>.symm) dX2_recorded_62
      · have t_5 := i_nlt (z := (Int32.toInt ((pX2_dropOldest x).2.2.1))) (w := (0)) c_5 rfl (by decide)
        refine lv_aload_n hx hb dX2_recorded_26 rfl (lv_at hl 0 rfl) ?_
        refine tx_get (v := .int ((pX2_dropOldest x).2.2.1)) hx hb hts hin hown hK hP 4 (by decide) k_26 rfl rfl dX2_recorded_27 ?_
        refine lv_bipush (v := 6) hx hb dX2_recorded_30 (by decide) ?_
        refine lv_icmp_ge (tgt := 61) hx hb dX2_recorded_32 (by decide) (fun c_6 => ?_) (fun c_6 => ?_)
        · have t_6 := i_le (z := (6)) (w := (Int32.toInt ((pX2_dropOldest x).2.2.1))) c_6 (by decide) rfl
          refine lv_iload_n hx hb dX2_recorded_61 rfl (lv_at hl 1 rfl) ?_
          exact rt_x (fun y hh => wX cI cC cZ cR ho hh hp y) (rotA hh) hx hb hr hlocks hP hD hS rfl ((show pX2_recorded a1 x = (a1, (pX2_dropOldest x)) by rw [pX2_recorded, if_pos c_1, if_neg c_2, if_neg c_5, if_pos c_6]).symm.trans hres |>.symm) dX2_recorded_62
        · have t_6 := i_nle (z := (6)) (w := (Int32.toInt ((pX2_dropOldest x).2.2.1))) c_6 (by decide) rfl
          refine lv_aload_n hx hb dX2_recorded_35 rfl (lv_at hl 0 rfl) ?_
          refine tx_get (v := .ref ((rotA hh) 1 0)) hx hb hts hin hown hK hP 1 (by decide) k_16 rfl rfl dX2_recorded_36 ?_
          refine lv_aload_n hx hb dX2_recorded_39 rfl (lv_at hl 0 rfl) ?_
          refine tx_get (v := .ref (ho 1)) hx hb hts hin hown hK hP 3 (by decide) k_22 rfl rfl dX2_recorded_40 ?_
          refine lv_aload_n hx hb dX2_recorded_43 rfl (lv_at hl 0 rfl) ?_
          refine tx_get (v := .int ((pX2_dropOldest x).2.2.1)) hx hb hts hin hown hK hP 4 (by decide) k_26 rfl rfl dX2_recorded_44 ?_
          refine tx_aldh hx hb hK hP (by exact vp_in_iff.mpr ⟨by omega, by omega⟩) dX2_recorded_47 ?_
          refine gp_v (wX_2 (j := 1) (k := (3 + ix ((pX2_dropOldest x).2.2.1))) (by decide) (by first | (have := ix_lt (n := 6) (i := x.2.2.1) (vp_in_iff.mpr ⟨by omega, by omega⟩); omega) | (have := ix_lt (n := 6) (i := (pX2_dropOldest x).2.2.1) (vp_in_iff.mpr ⟨by omega, by omega⟩); omega)) (by omega)) (wX_2u (j := 1) (k := (3 + ix ((pX2_dropOldest x).2.2.1))) (by decide) (by first | (have := ix_lt (n := 6) (i := x.2.2.1) (vp_in_iff.mpr ⟨by omega, by omega⟩); omega) | (have := ix_lt (n := 6) (i := (pX2_dropOldest x).2.2.1) (vp_in_iff.mpr ⟨by omega, by omega⟩); omega)) (by omega)) hP hD hS hA (rn_S (As := [.ref ((rotA hh) 1 0), .ref ((rotA hh) (3 + ix ((pX2_dropOldest x).2.2.1)) 0)]) (rest := []) ⟨hx, hb, hml, hown, hts⟩ (ctX2_copy l G cI cC cZ cR ((rotA hh) 1) ((rotA hh) (3 + ix ((pX2_dropOldest x).2.2.1))) ((pX2_dropOldest x).1 1) ((pX2_dropOldest x).1 (3 + ix ((pX2_dropOldest x).2.2.1)))) (va_cwS 2 hts gX2_recorded_X2_copy rfl rfl rfl (by decide +kernel) ⟨Nat.le_of_ble_eq_true rfl, Nat.le_of_ble_eq_true rfl⟩) hK (hP.perm (wX_2 (j := 1) (k := (3 + ix ((pX2_dropOldest x).2.2.1))) (by decide) (by first | (have := ix_lt (n := 6) (i := x.2.2.1) (vp_in_iff.mpr ⟨by omega, by omega⟩); omega) | (have := ix_lt (n := 6) (i := (pX2_dropOldest x).2.2.1) (vp_in_iff.mpr ⟨by omega, by omega⟩); omega)) (by omega))).left (va_D.leftD (hD.perm (wX_2 (j := 1) (k := (3 + ix ((pX2_dropOldest x).2.2.1))) (by decide) (by first | (have := ix_lt (n := 6) (i := x.2.2.1) (vp_in_iff.mpr ⟨by omega, by omega⟩); omega) | (have := ix_lt (n := 6) (i := (pX2_dropOldest x).2.2.1) (vp_in_iff.mpr ⟨by omega, by omega⟩); omega)) (by omega)))) hN rfl hl.1 rfl (Nat.le_of_ble_eq_true rfl) dX2_recorded_48) (fun H locs hP hD hS => ?_)
          refine lv_aload_n hx hb dX2_recorded_51 rfl (lv_at hl 0 rfl) ?_
          refine lv_dup hx hb dX2_recorded_52 rfl ?_
          refine tx_get (v := .int ((pX2_dropOldest x).2.2.1)) hx hb hts hin hown hK hP 4 (by decide) k_26 rfl rfl dX2_recorded_53 ?_
          refine lv_iconst (v := 1) hx hb dX2_recorded_56 (by decide) ?_
          refine lv_iadd hx hb dX2_recorded_57 ?_
          refine tx_putU hx hb hts hin hown hK hP hD hS k_26 dX2_recorded_58 (fun H locs hP hD hS => ?_)
          refine lv_iload_n hx hb dX2_recorded_61 rfl (lv_at hl 1 rfl) ?_
          exact rt_x (fun y hh => wX cI cC cZ cR ho hh hp y) (rotA hh) hx hb hr hlocks hP hD hS rfl ((show pX2_recorded a1 x = (a1, (tU (tQ (pX2_dropOldest x) (3 + ix ((pX2_dropOldest x).2.2.1)) (pX2_copy ((pX2_dropOldest x).1 1) ((pX2_dropOldest x).1 (3 + ix ((pX2_dropOldest x).2.2.1))))) (((pX2_dropOldest x).2.2.1) + 1))) by rw [pX2_recorded, if_pos c_1, if_neg c_2, if_neg c_5, if_neg c_6]).symm.trans hres |>.symm) dX2_recorded_62
  · have t_1 := i_nle (z := (0)) (w := (Int32.toInt a1)) c_1 (by decide) rfl
    refine lv_iload_n hx hb dX2_recorded_4 rfl (lv_at hl 1 rfl) ?_
    exact rt_x (fun y hh => wX cI cC cZ cR ho hh hp y) hh hx hb hr hlocks hP hD hS rfl ((show pX2_recorded a1 x = (a1, x) by rw [pX2_recorded, if_neg c_1]).symm.trans hres |>.symm) dX2_recorded_5
def pX2_rain (a1 : Int32) (x : TV) : Int32 × TV := ((pX2_recorded ((pX1_changeRain a1 (x.1 0)).1) (tQ (tQ x 1 (pX2_copy (x.1 0) (x.1 1))) 0 ((pX1_changeRain a1 (x.1 0)).2))).1, (pX2_recorded ((pX1_changeRain a1 (x.1 0)).1) (tQ (tQ x 1 (pX2_copy (x.1 0) (x.1 1))) 0 ((pX1_changeRain a1 (x.1 0)).2))).2)
set_option maxHeartbeats 1000000 in
set_option maxRecDepth 100000 in
theorem ctX2_rain (l : Launch) (G : va_G) (cI cC cZ cR : ClassId) (ho : Nat → Nat) (hh : Nat → Ad) (hp : Ad) (x : TV) (a1 : Int32) : Ct l yX2_rain wsX2_rain (rmz 3 82) G (TY cI cC cZ cR) [.ref (ho 0), .int a1] (wX cI cC cZ cR ho hh hp x) (Qx G (wX cI cC cZ cR ho hh hp x) (pX2_rain a1 x).1 (fun hh => (wX cI cC cZ cR ho hh hp (pX2_rain a1 x).2))) := by
  refine Ct.ofX (cc := cX2_rain) (maxL := 2) (ret := (some .int)) (by decide) rfl rfl ?_
  intro p e s m below meth c A ls E0 hP hD hS hl
  obtain ⟨hx, hb, hr, hml, hlocks, hts, hown, hK, hN, hA⟩ := E0
  have hl : lv_has ls 2 [(0, .ref (ho 0)), (1, .int a1)] := hl
  have hin : ∀ w ∈ wsX20, w ∈ wsX2_rain := fun w hw => List.mem_cons_of_mem _ (List.mem_append_left _ (List.mem_append_right _ (hw)))
  have hin1 : ∀ w ∈ wsX10, w ∈ wsX2_rain := fun w hw => List.mem_cons_of_mem _ (List.mem_append_right _ (hw))
  have k_10 : (Cond.fieldLink RX2 10 RX2 (TX2 0).2.1 (TX2 0).2.2.1).before ([.ref (ho 0), .int a1] : List Value).toArray s = true := hts _ (List.mem_of_getElem? (i := 1) rfl)
  have k_16 : (Cond.fieldLink RX2 16 RX2 (TX2 1).2.1 (TX2 1).2.2.1).before ([.ref (ho 0), .int a1] : List Value).toArray s = true := hts _ (List.mem_of_getElem? (i := 2) rfl)
  generalize hres : pX2_rain a1 x = res
  refine lv_aload_n hx hb dX2_rain_0 rfl (lv_at hl 0 rfl) ?_
  refine tx_get (v := .ref (hh 0 0)) hx hb hts hin hown hK hP 0 (by decide) k_10 rfl rfl dX2_rain_1 ?_
  refine lv_aload_n hx hb dX2_rain_4 rfl (lv_at hl 0 rfl) ?_
  refine tx_get (v := .ref (hh 1 0)) hx hb hts hin hown hK hP 1 (by decide) k_16 rfl rfl dX2_rain_5 ?_
  refine gp_v (wX_2 (j := 0) (k := 1) (by decide) (by decide) (by decide)) (wX_2u (j := 0) (k := 1) (by decide) (by decide) (by decide)) hP hD hS hA (rn_S (As := [.ref (hh 0 0), .ref (hh 1 0)]) (rest := []) ⟨hx, hb, hml, hown, hts⟩ (ctX2_copy l G cI cC cZ cR (hh 0) (hh 1) (x.1 0) (x.1 1)) (va_cwS 2 hts gX2_rain_X2_copy rfl rfl rfl (by decide +kernel) ⟨Nat.le_of_ble_eq_true rfl, Nat.le_of_ble_eq_true rfl⟩) hK (hP.perm (wX_2 (j := 0) (k := 1) (by decide) (by decide) (by decide))).left (va_D.leftD (hD.perm (wX_2 (j := 0) (k := 1) (by decide) (by decide) (by decide)))) hN rfl hl.1 rfl (Nat.le_of_ble_eq_true rfl) dX2_rain_8) (fun H locs hP hD hS => ?_)
  refine lv_aload_n hx hb dX2_rain_11 rfl (lv_at hl 0 rfl) ?_
  refine lv_aload_n hx hb dX2_rain_12 rfl (lv_at hl 0 rfl) ?_
  refine tx_get (v := .ref (hh 0 0)) hx hb hts hin hown hK hP 0 (by decide) k_10 rfl rfl dX2_rain_13 ?_
  refine lv_iload_n hx hb dX2_rain_16 rfl (lv_at hl 1 rfl) ?_
  refine gp_i (wX_1 (j := 0) (by decide)) (wX_1u (j := 0) (by decide)) hP hD hS hA (rn_VN (As := [.int a1]) (rest := [.ref (ho 0)]) ⟨hx, hb, hml, hown, hts⟩ (ctX1_changeRain l G cI cC cZ cR (hh 0) (x.1 0) a1) ⟨va_cnB 1 hts gX2_rain_X1_changeRain_n56 rfl rfl rfl (NWs.nw hN 25 rfl) (hts _ (List.mem_of_getElem? (i := 12) rfl)) (by decide +kernel) ⟨Nat.le_of_ble_eq_true rfl, Nat.le_of_ble_eq_true rfl⟩, (hts _ (List.mem_of_getElem? (i := 11) rfl)), (hts _ (List.mem_of_getElem? (i := 13) rfl))⟩ (md_recv hK (xblk (j := 0) hP (by decide)) rfl) hK (xblk (j := 0) hP (by decide)) (xblkD (j := 0) hD (by decide)) hN rfl hl.1 rfl (Nat.le_of_ble_eq_true rfl) dX2_rain_17) (fun H locs hP hD hS => ?_)
  refine go_x hD hS hA (rn_V (As := [.int ((pX1_changeRain a1 (x.1 0)).1)]) (rest := []) ⟨hx, hb, hml, hown, hts⟩ (ctX2_recorded l G cI cC cZ cR ho hh hp (tQ (tQ x 1 (pX2_copy (x.1 0) (x.1 1))) 0 ((pX1_changeRain a1 (x.1 0)).2)) ((pX1_changeRain a1 (x.1 0)).1)) (cwV 1 hts gX2_rain_X2_recorded rfl rfl rfl (by decide +kernel) ⟨Nat.le_of_ble_eq_true rfl, Nat.le_of_ble_eq_true rfl⟩) (tx_recv hK hP) hK hP hD hN rfl hl.1 rfl (Nat.le_of_ble_eq_true rfl) dX2_rain_20) (fun hh1 H locs hP hD hS => ?_)
  exact rt_x (fun y hh => wX cI cC cZ cR ho hh hp y) hh1 hx hb hr hlocks hP hD hS rfl ((show pX2_rain a1 x = ((pX2_recorded ((pX1_changeRain a1 (x.1 0)).1) (tQ (tQ x 1 (pX2_copy (x.1 0) (x.1 1))) 0 ((pX1_changeRain a1 (x.1 0)).2))).1, (pX2_recorded ((pX1_changeRain a1 (x.1 0)).1) (tQ (tQ x 1 (pX2_copy (x.1 0) (x.1 1))) 0 ((pX1_changeRain a1 (x.1 0)).2))).2) by rw [pX2_rain]).symm.trans hres |>.symm) dX2_rain_23
def pX2_piano (a1 : Int32) (a2 : Int32) (x : TV) : Int32 × TV := ((pX2_recorded ((pX1_addPiano a1 a2 (x.1 0)).1) (tQ (tQ x 1 (pX2_copy (x.1 0) (x.1 1))) 0 ((pX1_addPiano a1 a2 (x.1 0)).2))).1, (pX2_recorded ((pX1_addPiano a1 a2 (x.1 0)).1) (tQ (tQ x 1 (pX2_copy (x.1 0) (x.1 1))) 0 ((pX1_addPiano a1 a2 (x.1 0)).2))).2)
set_option maxHeartbeats 1000000 in
set_option maxRecDepth 100000 in
theorem ctX2_piano (l : Launch) (G : va_G) (cI cC cZ cR : ClassId) (ho : Nat → Nat) (hh : Nat → Ad) (hp : Ad) (x : TV) (a1 : Int32) (a2 : Int32) : Ct l yX2_piano wsX2_piano (rmz 3 82) G (TY cI cC cZ cR) [.ref (ho 0), .int a1, .int a2] (wX cI cC cZ cR ho hh hp x) (Qx G (wX cI cC cZ cR ho hh hp x) (pX2_piano a1 a2 x).1 (fun hh => (wX cI cC cZ cR ho hh hp (pX2_piano a1 a2 x).2))) := by
  refine Ct.ofX (cc := cX2_piano) (maxL := 3) (ret := (some .int)) (by decide) rfl rfl ?_
  intro p e s m below meth c A ls E0 hP hD hS hl
  obtain ⟨hx, hb, hr, hml, hlocks, hts, hown, hK, hN, hA⟩ := E0
  have hl : lv_has ls 3 [(0, .ref (ho 0)), (1, .int a1), (2, .int a2)] := hl
  have hin : ∀ w ∈ wsX20, w ∈ wsX2_piano := fun w hw => List.mem_cons_of_mem _ (List.mem_append_left _ (List.mem_append_right _ (hw)))
  have hin1 : ∀ w ∈ wsX10, w ∈ wsX2_piano := fun w hw => List.mem_cons_of_mem _ (List.mem_append_right _ (hw))
  have k_10 : (Cond.fieldLink RX2 10 RX2 (TX2 0).2.1 (TX2 0).2.2.1).before ([.ref (ho 0), .int a1, .int a2] : List Value).toArray s = true := hts _ (List.mem_of_getElem? (i := 1) rfl)
  have k_16 : (Cond.fieldLink RX2 16 RX2 (TX2 1).2.1 (TX2 1).2.2.1).before ([.ref (ho 0), .int a1, .int a2] : List Value).toArray s = true := hts _ (List.mem_of_getElem? (i := 2) rfl)
  generalize hres : pX2_piano a1 a2 x = res
  refine lv_aload_n hx hb dX2_piano_0 rfl (lv_at hl 0 rfl) ?_
  refine tx_get (v := .ref (hh 0 0)) hx hb hts hin hown hK hP 0 (by decide) k_10 rfl rfl dX2_piano_1 ?_
  refine lv_aload_n hx hb dX2_piano_4 rfl (lv_at hl 0 rfl) ?_
  refine tx_get (v := .ref (hh 1 0)) hx hb hts hin hown hK hP 1 (by decide) k_16 rfl rfl dX2_piano_5 ?_
  refine gp_v (wX_2 (j := 0) (k := 1) (by decide) (by decide) (by decide)) (wX_2u (j := 0) (k := 1) (by decide) (by decide) (by decide)) hP hD hS hA (rn_S (As := [.ref (hh 0 0), .ref (hh 1 0)]) (rest := []) ⟨hx, hb, hml, hown, hts⟩ (ctX2_copy l G cI cC cZ cR (hh 0) (hh 1) (x.1 0) (x.1 1)) (va_cwS 2 hts gX2_piano_X2_copy rfl rfl rfl (by decide +kernel) ⟨Nat.le_of_ble_eq_true rfl, Nat.le_of_ble_eq_true rfl⟩) hK (hP.perm (wX_2 (j := 0) (k := 1) (by decide) (by decide) (by decide))).left (va_D.leftD (hD.perm (wX_2 (j := 0) (k := 1) (by decide) (by decide) (by decide)))) hN rfl hl.1 rfl (Nat.le_of_ble_eq_true rfl) dX2_piano_8) (fun H locs hP hD hS => ?_)
  refine lv_aload_n hx hb dX2_piano_11 rfl (lv_at hl 0 rfl) ?_
  refine lv_aload_n hx hb dX2_piano_12 rfl (lv_at hl 0 rfl) ?_
  refine tx_get (v := .ref (hh 0 0)) hx hb hts hin hown hK hP 0 (by decide) k_10 rfl rfl dX2_piano_13 ?_
  refine lv_iload_n hx hb dX2_piano_16 rfl (lv_at hl 1 rfl) ?_
  refine lv_iload_n hx hb dX2_piano_17 rfl (lv_at hl 2 rfl) ?_
  refine gp_i (wX_1 (j := 0) (by decide)) (wX_1u (j := 0) (by decide)) hP hD hS hA (rn_VN (As := [.int a1, .int a2]) (rest := [.ref (ho 0)]) ⟨hx, hb, hml, hown, hts⟩ (ctX1_addPiano l G cI cC cZ cR (hh 0) (x.1 0) a1 a2) ⟨va_cnB 2 hts gX2_piano_X1_addPiano_n59 rfl rfl rfl (NWs.nw hN 26 rfl) (hts _ (List.mem_of_getElem? (i := 12) rfl)) (by decide +kernel) ⟨Nat.le_of_ble_eq_true rfl, Nat.le_of_ble_eq_true rfl⟩, (hts _ (List.mem_of_getElem? (i := 11) rfl)), (hts _ (List.mem_of_getElem? (i := 13) rfl))⟩ (md_recv hK (xblk (j := 0) hP (by decide)) rfl) hK (xblk (j := 0) hP (by decide)) (xblkD (j := 0) hD (by decide)) hN rfl hl.1 rfl (Nat.le_of_ble_eq_true rfl) dX2_piano_18) (fun H locs hP hD hS => ?_)
  refine go_x hD hS hA (rn_V (As := [.int ((pX1_addPiano a1 a2 (x.1 0)).1)]) (rest := []) ⟨hx, hb, hml, hown, hts⟩ (ctX2_recorded l G cI cC cZ cR ho hh hp (tQ (tQ x 1 (pX2_copy (x.1 0) (x.1 1))) 0 ((pX1_addPiano a1 a2 (x.1 0)).2)) ((pX1_addPiano a1 a2 (x.1 0)).1)) (cwV 1 hts gX2_piano_X2_recorded rfl rfl rfl (by decide +kernel) ⟨Nat.le_of_ble_eq_true rfl, Nat.le_of_ble_eq_true rfl⟩) (tx_recv hK hP) hK hP hD hN rfl hl.1 rfl (Nat.le_of_ble_eq_true rfl) dX2_piano_21) (fun hh1 H locs hP hD hS => ?_)
  exact rt_x (fun y hh => wX cI cC cZ cR ho hh hp y) hh1 hx hb hr hlocks hP hD hS rfl ((show pX2_piano a1 a2 x = ((pX2_recorded ((pX1_addPiano a1 a2 (x.1 0)).1) (tQ (tQ x 1 (pX2_copy (x.1 0) (x.1 1))) 0 ((pX1_addPiano a1 a2 (x.1 0)).2))).1, (pX2_recorded ((pX1_addPiano a1 a2 (x.1 0)).1) (tQ (tQ x 1 (pX2_copy (x.1 0) (x.1 1))) 0 ((pX1_addPiano a1 a2 (x.1 0)).2))).2) by rw [pX2_piano]).symm.trans hres |>.symm) dX2_piano_24
def pX2_take (a1 : Int32) (x : TV) : Int32 × TV := ((pX2_recorded ((pX1_removePiano a1 (x.1 0)).1) (tQ (tQ x 1 (pX2_copy (x.1 0) (x.1 1))) 0 ((pX1_removePiano a1 (x.1 0)).2))).1, (pX2_recorded ((pX1_removePiano a1 (x.1 0)).1) (tQ (tQ x 1 (pX2_copy (x.1 0) (x.1 1))) 0 ((pX1_removePiano a1 (x.1 0)).2))).2)
set_option maxHeartbeats 1000000 in
set_option maxRecDepth 100000 in
theorem ctX2_take (l : Launch) (G : va_G) (cI cC cZ cR : ClassId) (ho : Nat → Nat) (hh : Nat → Ad) (hp : Ad) (x : TV) (a1 : Int32) : Ct l yX2_take wsX2_take (rmz 3 82) G (TY cI cC cZ cR) [.ref (ho 0), .int a1] (wX cI cC cZ cR ho hh hp x) (Qx G (wX cI cC cZ cR ho hh hp x) (pX2_take a1 x).1 (fun hh => (wX cI cC cZ cR ho hh hp (pX2_take a1 x).2))) := by
  refine Ct.ofX (cc := cX2_take) (maxL := 2) (ret := (some .int)) (by decide) rfl rfl ?_
  intro p e s m below meth c A ls E0 hP hD hS hl
  obtain ⟨hx, hb, hr, hml, hlocks, hts, hown, hK, hN, hA⟩ := E0
  have hl : lv_has ls 2 [(0, .ref (ho 0)), (1, .int a1)] := hl
  have hin : ∀ w ∈ wsX20, w ∈ wsX2_take := fun w hw => List.mem_cons_of_mem _ (List.mem_append_left _ (List.mem_append_right _ (hw)))
  have hin1 : ∀ w ∈ wsX10, w ∈ wsX2_take := fun w hw => List.mem_cons_of_mem _ (List.mem_append_right _ (hw))
  have k_10 : (Cond.fieldLink RX2 10 RX2 (TX2 0).2.1 (TX2 0).2.2.1).before ([.ref (ho 0), .int a1] : List Value).toArray s = true := hts _ (List.mem_of_getElem? (i := 1) rfl)
  have k_16 : (Cond.fieldLink RX2 16 RX2 (TX2 1).2.1 (TX2 1).2.2.1).before ([.ref (ho 0), .int a1] : List Value).toArray s = true := hts _ (List.mem_of_getElem? (i := 2) rfl)
  generalize hres : pX2_take a1 x = res
  refine lv_aload_n hx hb dX2_take_0 rfl (lv_at hl 0 rfl) ?_
  refine tx_get (v := .ref (hh 0 0)) hx hb hts hin hown hK hP 0 (by decide) k_10 rfl rfl dX2_take_1 ?_
  refine lv_aload_n hx hb dX2_take_4 rfl (lv_at hl 0 rfl) ?_
  refine tx_get (v := .ref (hh 1 0)) hx hb hts hin hown hK hP 1 (by decide) k_16 rfl rfl dX2_take_5 ?_
  refine gp_v (wX_2 (j := 0) (k := 1) (by decide) (by decide) (by decide)) (wX_2u (j := 0) (k := 1) (by decide) (by decide) (by decide)) hP hD hS hA (rn_S (As := [.ref (hh 0 0), .ref (hh 1 0)]) (rest := []) ⟨hx, hb, hml, hown, hts⟩ (ctX2_copy l G cI cC cZ cR (hh 0) (hh 1) (x.1 0) (x.1 1)) (va_cwS 2 hts gX2_take_X2_copy rfl rfl rfl (by decide +kernel) ⟨Nat.le_of_ble_eq_true rfl, Nat.le_of_ble_eq_true rfl⟩) hK (hP.perm (wX_2 (j := 0) (k := 1) (by decide) (by decide) (by decide))).left (va_D.leftD (hD.perm (wX_2 (j := 0) (k := 1) (by decide) (by decide) (by decide)))) hN rfl hl.1 rfl (Nat.le_of_ble_eq_true rfl) dX2_take_8) (fun H locs hP hD hS => ?_)
  refine lv_aload_n hx hb dX2_take_11 rfl (lv_at hl 0 rfl) ?_
  refine lv_aload_n hx hb dX2_take_12 rfl (lv_at hl 0 rfl) ?_
  refine tx_get (v := .ref (hh 0 0)) hx hb hts hin hown hK hP 0 (by decide) k_10 rfl rfl dX2_take_13 ?_
  refine lv_iload_n hx hb dX2_take_16 rfl (lv_at hl 1 rfl) ?_
  refine gp_i (wX_1 (j := 0) (by decide)) (wX_1u (j := 0) (by decide)) hP hD hS hA (rn_VN (As := [.int a1]) (rest := [.ref (ho 0)]) ⟨hx, hb, hml, hown, hts⟩ (ctX1_removePiano l G cI cC cZ cR (hh 0) (x.1 0) a1) ⟨va_cnB 1 hts gX2_take_X1_removePiano_n62 rfl rfl rfl (NWs.nw hN 29 rfl) (hts _ (List.mem_of_getElem? (i := 12) rfl)) (by decide +kernel) ⟨Nat.le_of_ble_eq_true rfl, Nat.le_of_ble_eq_true rfl⟩, (hts _ (List.mem_of_getElem? (i := 11) rfl)), (hts _ (List.mem_of_getElem? (i := 13) rfl))⟩ (md_recv hK (xblk (j := 0) hP (by decide)) rfl) hK (xblk (j := 0) hP (by decide)) (xblkD (j := 0) hD (by decide)) hN rfl hl.1 rfl (Nat.le_of_ble_eq_true rfl) dX2_take_17) (fun H locs hP hD hS => ?_)
  refine go_x hD hS hA (rn_V (As := [.int ((pX1_removePiano a1 (x.1 0)).1)]) (rest := []) ⟨hx, hb, hml, hown, hts⟩ (ctX2_recorded l G cI cC cZ cR ho hh hp (tQ (tQ x 1 (pX2_copy (x.1 0) (x.1 1))) 0 ((pX1_removePiano a1 (x.1 0)).2)) ((pX1_removePiano a1 (x.1 0)).1)) (cwV 1 hts gX2_take_X2_recorded rfl rfl rfl (by decide +kernel) ⟨Nat.le_of_ble_eq_true rfl, Nat.le_of_ble_eq_true rfl⟩) (tx_recv hK hP) hK hP hD hN rfl hl.1 rfl (Nat.le_of_ble_eq_true rfl) dX2_take_20) (fun hh1 H locs hP hD hS => ?_)
  exact rt_x (fun y hh => wX cI cC cZ cR ho hh hp y) hh1 hx hb hr hlocks hP hD hS rfl ((show pX2_take a1 x = ((pX2_recorded ((pX1_removePiano a1 (x.1 0)).1) (tQ (tQ x 1 (pX2_copy (x.1 0) (x.1 1))) 0 ((pX1_removePiano a1 (x.1 0)).2))).1, (pX2_recorded ((pX1_removePiano a1 (x.1 0)).1) (tQ (tQ x 1 (pX2_copy (x.1 0) (x.1 1))) 0 ((pX1_removePiano a1 (x.1 0)).2))).2) by rw [pX2_take]).symm.trans hres |>.symm) dX2_take_23
def pX2_keeper (a1 : Int32) (x : TV) : Int32 × TV := ((pX2_recorded ((pX1_hireKeeper a1 (x.1 0)).1) (tQ (tQ x 1 (pX2_copy (x.1 0) (x.1 1))) 0 ((pX1_hireKeeper a1 (x.1 0)).2))).1, (pX2_recorded ((pX1_hireKeeper a1 (x.1 0)).1) (tQ (tQ x 1 (pX2_copy (x.1 0) (x.1 1))) 0 ((pX1_hireKeeper a1 (x.1 0)).2))).2)
set_option maxHeartbeats 1000000 in
set_option maxRecDepth 100000 in
theorem ctX2_keeper (l : Launch) (G : va_G) (cI cC cZ cR : ClassId) (ho : Nat → Nat) (hh : Nat → Ad) (hp : Ad) (x : TV) (a1 : Int32) : Ct l yX2_keeper wsX2_keeper (rmz 3 82) G (TY cI cC cZ cR) [.ref (ho 0), .int a1] (wX cI cC cZ cR ho hh hp x) (Qx G (wX cI cC cZ cR ho hh hp x) (pX2_keeper a1 x).1 (fun hh => (wX cI cC cZ cR ho hh hp (pX2_keeper a1 x).2))) := by
  refine Ct.ofX (cc := cX2_keeper) (maxL := 2) (ret := (some .int)) (by decide) rfl rfl ?_
  intro p e s m below meth c A ls E0 hP hD hS hl
  obtain ⟨hx, hb, hr, hml, hlocks, hts, hown, hK, hN, hA⟩ := E0
  have hl : lv_has ls 2 [(0, .ref (ho 0)), (1, .int a1)] := hl
  have hin : ∀ w ∈ wsX20, w ∈ wsX2_keeper := fun w hw => List.mem_cons_of_mem _ (List.mem_append_left _ (List.mem_append_right _ (hw)))
  have hin1 : ∀ w ∈ wsX10, w ∈ wsX2_keeper := fun w hw => List.mem_cons_of_mem _ (List.mem_append_right _ (hw))
  have k_10 : (Cond.fieldLink RX2 10 RX2 (TX2 0).2.1 (TX2 0).2.2.1).before ([.ref (ho 0), .int a1] : List Value).toArray s = true := hts _ (List.mem_of_getElem? (i := 1) rfl)
  have k_16 : (Cond.fieldLink RX2 16 RX2 (TX2 1).2.1 (TX2 1).2.2.1).before ([.ref (ho 0), .int a1] : List Value).toArray s = true := hts _ (List.mem_of_getElem? (i := 2) rfl)
  generalize hres : pX2_keeper a1 x = res
  refine lv_aload_n hx hb dX2_keeper_0 rfl (lv_at hl 0 rfl) ?_
  refine tx_get (v := .ref (hh 0 0)) hx hb hts hin hown hK hP 0 (by decide) k_10 rfl rfl dX2_keeper_1 ?_
  refine lv_aload_n hx hb dX2_keeper_4 rfl (lv_at hl 0 rfl) ?_
  refine tx_get (v := .ref (hh 1 0)) hx hb hts hin hown hK hP 1 (by decide) k_16 rfl rfl dX2_keeper_5 ?_
  refine gp_v (wX_2 (j := 0) (k := 1) (by decide) (by decide) (by decide)) (wX_2u (j := 0) (k := 1) (by decide) (by decide) (by decide)) hP hD hS hA (rn_S (As := [.ref (hh 0 0), .ref (hh 1 0)]) (rest := []) ⟨hx, hb, hml, hown, hts⟩ (ctX2_copy l G cI cC cZ cR (hh 0) (hh 1) (x.1 0) (x.1 1)) (va_cwS 2 hts gX2_keeper_X2_copy rfl rfl rfl (by decide +kernel) ⟨Nat.le_of_ble_eq_true rfl, Nat.le_of_ble_eq_true rfl⟩) hK (hP.perm (wX_2 (j := 0) (k := 1) (by decide) (by decide) (by decide))).left (va_D.leftD (hD.perm (wX_2 (j := 0) (k := 1) (by decide) (by decide) (by decide)))) hN rfl hl.1 rfl (Nat.le_of_ble_eq_true rfl) dX2_keeper_8) (fun H locs hP hD hS => ?_)
  refine lv_aload_n hx hb dX2_keeper_11 rfl (lv_at hl 0 rfl) ?_
  refine lv_aload_n hx hb dX2_keeper_12 rfl (lv_at hl 0 rfl) ?_
  refine tx_get (v := .ref (hh 0 0)) hx hb hts hin hown hK hP 0 (by decide) k_10 rfl rfl dX2_keeper_13 ?_
  refine lv_iload_n hx hb dX2_keeper_16 rfl (lv_at hl 1 rfl) ?_
  refine gp_i (wX_1 (j := 0) (by decide)) (wX_1u (j := 0) (by decide)) hP hD hS hA (rn_VN (As := [.int a1]) (rest := [.ref (ho 0)]) ⟨hx, hb, hml, hown, hts⟩ (ctX1_hireKeeper l G cI cC cZ cR (hh 0) (x.1 0) a1) ⟨va_cnB 1 hts gX2_keeper_X1_hireKeeper_n65 rfl rfl rfl (NWs.nw hN 30 rfl) (hts _ (List.mem_of_getElem? (i := 12) rfl)) (by decide +kernel) ⟨Nat.le_of_ble_eq_true rfl, Nat.le_of_ble_eq_true rfl⟩, (hts _ (List.mem_of_getElem? (i := 11) rfl)), (hts _ (List.mem_of_getElem? (i := 13) rfl))⟩ (md_recv hK (xblk (j := 0) hP (by decide)) rfl) hK (xblk (j := 0) hP (by decide)) (xblkD (j := 0) hD (by decide)) hN rfl hl.1 rfl (Nat.le_of_ble_eq_true rfl) dX2_keeper_17) (fun H locs hP hD hS => ?_)
  refine go_x hD hS hA (rn_V (As := [.int ((pX1_hireKeeper a1 (x.1 0)).1)]) (rest := []) ⟨hx, hb, hml, hown, hts⟩ (ctX2_recorded l G cI cC cZ cR ho hh hp (tQ (tQ x 1 (pX2_copy (x.1 0) (x.1 1))) 0 ((pX1_hireKeeper a1 (x.1 0)).2)) ((pX1_hireKeeper a1 (x.1 0)).1)) (cwV 1 hts gX2_keeper_X2_recorded rfl rfl rfl (by decide +kernel) ⟨Nat.le_of_ble_eq_true rfl, Nat.le_of_ble_eq_true rfl⟩) (tx_recv hK hP) hK hP hD hN rfl hl.1 rfl (Nat.le_of_ble_eq_true rfl) dX2_keeper_20) (fun hh1 H locs hP hD hS => ?_)
  exact rt_x (fun y hh => wX cI cC cZ cR ho hh hp y) hh1 hx hb hr hlocks hP hD hS rfl ((show pX2_keeper a1 x = ((pX2_recorded ((pX1_hireKeeper a1 (x.1 0)).1) (tQ (tQ x 1 (pX2_copy (x.1 0) (x.1 1))) 0 ((pX1_hireKeeper a1 (x.1 0)).2))).1, (pX2_recorded ((pX1_hireKeeper a1 (x.1 0)).1) (tQ (tQ x 1 (pX2_copy (x.1 0) (x.1 1))) 0 ((pX1_hireKeeper a1 (x.1 0)).2))).2) by rw [pX2_keeper]).symm.trans hres |>.symm) dX2_keeper_23
def pX2_cover (a1 : Int32) (x : TV) : Int32 × TV := ((pX2_recorded ((pX1_layCover a1 (x.1 0)).1) (tQ (tQ x 1 (pX2_copy (x.1 0) (x.1 1))) 0 ((pX1_layCover a1 (x.1 0)).2))).1, (pX2_recorded ((pX1_layCover a1 (x.1 0)).1) (tQ (tQ x 1 (pX2_copy (x.1 0) (x.1 1))) 0 ((pX1_layCover a1 (x.1 0)).2))).2)
set_option maxHeartbeats 1000000 in
set_option maxRecDepth 100000 in
theorem ctX2_cover (l : Launch) (G : va_G) (cI cC cZ cR : ClassId) (ho : Nat → Nat) (hh : Nat → Ad) (hp : Ad) (x : TV) (a1 : Int32) : Ct l yX2_cover wsX2_cover (rmz 3 82) G (TY cI cC cZ cR) [.ref (ho 0), .int a1] (wX cI cC cZ cR ho hh hp x) (Qx G (wX cI cC cZ cR ho hh hp x) (pX2_cover a1 x).1 (fun hh => (wX cI cC cZ cR ho hh hp (pX2_cover a1 x).2))) := by
  refine Ct.ofX (cc := cX2_cover) (maxL := 2) (ret := (some .int)) (by decide) rfl rfl ?_
  intro p e s m below meth c A ls E0 hP hD hS hl
  obtain ⟨hx, hb, hr, hml, hlocks, hts, hown, hK, hN, hA⟩ := E0
  have hl : lv_has ls 2 [(0, .ref (ho 0)), (1, .int a1)] := hl
  have hin : ∀ w ∈ wsX20, w ∈ wsX2_cover := fun w hw => List.mem_cons_of_mem _ (List.mem_append_left _ (List.mem_append_right _ (hw)))
  have hin1 : ∀ w ∈ wsX10, w ∈ wsX2_cover := fun w hw => List.mem_cons_of_mem _ (List.mem_append_right _ (hw))
  have k_10 : (Cond.fieldLink RX2 10 RX2 (TX2 0).2.1 (TX2 0).2.2.1).before ([.ref (ho 0), .int a1] : List Value).toArray s = true := hts _ (List.mem_of_getElem? (i := 1) rfl)
  have k_16 : (Cond.fieldLink RX2 16 RX2 (TX2 1).2.1 (TX2 1).2.2.1).before ([.ref (ho 0), .int a1] : List Value).toArray s = true := hts _ (List.mem_of_getElem? (i := 2) rfl)
  generalize hres : pX2_cover a1 x = res
  refine lv_aload_n hx hb dX2_cover_0 rfl (lv_at hl 0 rfl) ?_
  refine tx_get (v := .ref (hh 0 0)) hx hb hts hin hown hK hP 0 (by decide) k_10 rfl rfl dX2_cover_1 ?_
  refine lv_aload_n hx hb dX2_cover_4 rfl (lv_at hl 0 rfl) ?_
  refine tx_get (v := .ref (hh 1 0)) hx hb hts hin hown hK hP 1 (by decide) k_16 rfl rfl dX2_cover_5 ?_
  refine gp_v (wX_2 (j := 0) (k := 1) (by decide) (by decide) (by decide)) (wX_2u (j := 0) (k := 1) (by decide) (by decide) (by decide)) hP hD hS hA (rn_S (As := [.ref (hh 0 0), .ref (hh 1 0)]) (rest := []) ⟨hx, hb, hml, hown, hts⟩ (ctX2_copy l G cI cC cZ cR (hh 0) (hh 1) (x.1 0) (x.1 1)) (va_cwS 2 hts gX2_cover_X2_copy rfl rfl rfl (by decide +kernel) ⟨Nat.le_of_ble_eq_true rfl, Nat.le_of_ble_eq_true rfl⟩) hK (hP.perm (wX_2 (j := 0) (k := 1) (by decide) (by decide) (by decide))).left (va_D.leftD (hD.perm (wX_2 (j := 0) (k := 1) (by decide) (by decide) (by decide)))) hN rfl hl.1 rfl (Nat.le_of_ble_eq_true rfl) dX2_cover_8) (fun H locs hP hD hS => ?_)
  refine lv_aload_n hx hb dX2_cover_11 rfl (lv_at hl 0 rfl) ?_
  refine lv_aload_n hx hb dX2_cover_12 rfl (lv_at hl 0 rfl) ?_
  refine tx_get (v := .ref (hh 0 0)) hx hb hts hin hown hK hP 0 (by decide) k_10 rfl rfl dX2_cover_13 ?_
  refine lv_iload_n hx hb dX2_cover_16 rfl (lv_at hl 1 rfl) ?_
  refine gp_i (wX_1 (j := 0) (by decide)) (wX_1u (j := 0) (by decide)) hP hD hS hA (rn_VN (As := [.int a1]) (rest := [.ref (ho 0)]) ⟨hx, hb, hml, hown, hts⟩ (ctX1_layCover l G cI cC cZ cR (hh 0) (x.1 0) a1) ⟨va_cnB 1 hts gX2_cover_X1_layCover_n68 rfl rfl rfl (NWs.nw hN 31 rfl) (hts _ (List.mem_of_getElem? (i := 12) rfl)) (by decide +kernel) ⟨Nat.le_of_ble_eq_true rfl, Nat.le_of_ble_eq_true rfl⟩, (hts _ (List.mem_of_getElem? (i := 11) rfl)), (hts _ (List.mem_of_getElem? (i := 13) rfl))⟩ (md_recv hK (xblk (j := 0) hP (by decide)) rfl) hK (xblk (j := 0) hP (by decide)) (xblkD (j := 0) hD (by decide)) hN rfl hl.1 rfl (Nat.le_of_ble_eq_true rfl) dX2_cover_17) (fun H locs hP hD hS => ?_)
  refine go_x hD hS hA (rn_V (As := [.int ((pX1_layCover a1 (x.1 0)).1)]) (rest := []) ⟨hx, hb, hml, hown, hts⟩ (ctX2_recorded l G cI cC cZ cR ho hh hp (tQ (tQ x 1 (pX2_copy (x.1 0) (x.1 1))) 0 ((pX1_layCover a1 (x.1 0)).2)) ((pX1_layCover a1 (x.1 0)).1)) (cwV 1 hts gX2_cover_X2_recorded rfl rfl rfl (by decide +kernel) ⟨Nat.le_of_ble_eq_true rfl, Nat.le_of_ble_eq_true rfl⟩) (tx_recv hK hP) hK hP hD hN rfl hl.1 rfl (Nat.le_of_ble_eq_true rfl) dX2_cover_20) (fun hh1 H locs hP hD hS => ?_)
  exact rt_x (fun y hh => wX cI cC cZ cR ho hh hp y) hh1 hx hb hr hlocks hP hD hS rfl ((show pX2_cover a1 x = ((pX2_recorded ((pX1_layCover a1 (x.1 0)).1) (tQ (tQ x 1 (pX2_copy (x.1 0) (x.1 1))) 0 ((pX1_layCover a1 (x.1 0)).2))).1, (pX2_recorded ((pX1_layCover a1 (x.1 0)).1) (tQ (tQ x 1 (pX2_copy (x.1 0) (x.1 1))) 0 ((pX1_layCover a1 (x.1 0)).2))).2) by rw [pX2_cover]).symm.trans hres |>.symm) dX2_cover_23
def pX2_pass (a1 : Int32) (x : TV) : Int32 × TV := ((pX2_recorded ((pX1_passCounted a1 (x.1 0)).1) (tQ (tQ x 1 (pX2_copy (x.1 0) (x.1 1))) 0 ((pX1_passCounted a1 (x.1 0)).2))).1, (pX2_recorded ((pX1_passCounted a1 (x.1 0)).1) (tQ (tQ x 1 (pX2_copy (x.1 0) (x.1 1))) 0 ((pX1_passCounted a1 (x.1 0)).2))).2)
set_option maxHeartbeats 1000000 in
set_option maxRecDepth 100000 in
theorem ctX2_pass (l : Launch) (G : va_G) (cI cC cZ cR : ClassId) (ho : Nat → Nat) (hh : Nat → Ad) (hp : Ad) (x : TV) (a1 : Int32) : Ct l yX2_pass wsX2_pass (rmz 5 112) G (TY cI cC cZ cR) [.ref (ho 0), .int a1] (wX cI cC cZ cR ho hh hp x) (Qx G (wX cI cC cZ cR ho hh hp x) (pX2_pass a1 x).1 (fun hh => (wX cI cC cZ cR ho hh hp (pX2_pass a1 x).2))) := by
  refine Ct.ofX (cc := cX2_pass) (maxL := 2) (ret := (some .int)) (by decide) rfl rfl ?_
  intro p e s m below meth c A ls E0 hP hD hS hl
  obtain ⟨hx, hb, hr, hml, hlocks, hts, hown, hK, hN, hA⟩ := E0
  have hl : lv_has ls 2 [(0, .ref (ho 0)), (1, .int a1)] := hl
  have hin : ∀ w ∈ wsX20, w ∈ wsX2_pass := fun w hw => List.mem_cons_of_mem _ (List.mem_append_left _ (List.mem_append_right _ (hw)))
  have hin1 : ∀ w ∈ wsX10, w ∈ wsX2_pass := fun w hw => List.mem_cons_of_mem _ (List.mem_append_right _ (hw))
  have k_10 : (Cond.fieldLink RX2 10 RX2 (TX2 0).2.1 (TX2 0).2.2.1).before ([.ref (ho 0), .int a1] : List Value).toArray s = true := hts _ (List.mem_of_getElem? (i := 1) rfl)
  have k_16 : (Cond.fieldLink RX2 16 RX2 (TX2 1).2.1 (TX2 1).2.2.1).before ([.ref (ho 0), .int a1] : List Value).toArray s = true := hts _ (List.mem_of_getElem? (i := 2) rfl)
  generalize hres : pX2_pass a1 x = res
  refine lv_aload_n hx hb dX2_pass_0 rfl (lv_at hl 0 rfl) ?_
  refine tx_get (v := .ref (hh 0 0)) hx hb hts hin hown hK hP 0 (by decide) k_10 rfl rfl dX2_pass_1 ?_
  refine lv_aload_n hx hb dX2_pass_4 rfl (lv_at hl 0 rfl) ?_
  refine tx_get (v := .ref (hh 1 0)) hx hb hts hin hown hK hP 1 (by decide) k_16 rfl rfl dX2_pass_5 ?_
  refine gp_v (wX_2 (j := 0) (k := 1) (by decide) (by decide) (by decide)) (wX_2u (j := 0) (k := 1) (by decide) (by decide) (by decide)) hP hD hS hA (rn_S (As := [.ref (hh 0 0), .ref (hh 1 0)]) (rest := []) ⟨hx, hb, hml, hown, hts⟩ (ctX2_copy l G cI cC cZ cR (hh 0) (hh 1) (x.1 0) (x.1 1)) (va_cwS 2 hts gX2_pass_X2_copy rfl rfl rfl (by decide +kernel) ⟨Nat.le_of_ble_eq_true rfl, Nat.le_of_ble_eq_true rfl⟩) hK (hP.perm (wX_2 (j := 0) (k := 1) (by decide) (by decide) (by decide))).left (va_D.leftD (hD.perm (wX_2 (j := 0) (k := 1) (by decide) (by decide) (by decide)))) hN rfl hl.1 rfl (Nat.le_of_ble_eq_true rfl) dX2_pass_8) (fun H locs hP hD hS => ?_)
  refine lv_aload_n hx hb dX2_pass_11 rfl (lv_at hl 0 rfl) ?_
  refine lv_aload_n hx hb dX2_pass_12 rfl (lv_at hl 0 rfl) ?_
  refine tx_get (v := .ref (hh 0 0)) hx hb hts hin hown hK hP 0 (by decide) k_10 rfl rfl dX2_pass_13 ?_
  refine lv_iload_n hx hb dX2_pass_16 rfl (lv_at hl 1 rfl) ?_
  refine gp_i (wX_1 (j := 0) (by decide)) (wX_1u (j := 0) (by decide)) hP hD hS hA (rn_VN (As := [.int a1]) (rest := [.ref (ho 0)]) ⟨hx, hb, hml, hown, hts⟩ (ctX1_passCounted l G cI cC cZ cR (hh 0) (x.1 0) a1) ⟨va_cnB 1 hts gX2_pass_X1_passCounted_n71 rfl rfl rfl (NWs.nw hN 32 rfl) (hts _ (List.mem_of_getElem? (i := 12) rfl)) (by decide +kernel) ⟨Nat.le_of_ble_eq_true rfl, Nat.le_of_ble_eq_true rfl⟩, (hts _ (List.mem_of_getElem? (i := 11) rfl)), (hts _ (List.mem_of_getElem? (i := 13) rfl))⟩ (md_recv hK (xblk (j := 0) hP (by decide)) rfl) hK (xblk (j := 0) hP (by decide)) (xblkD (j := 0) hD (by decide)) hN rfl hl.1 rfl (Nat.le_of_ble_eq_true rfl) dX2_pass_17) (fun H locs hP hD hS => ?_)
  refine go_x hD hS hA (rn_V (As := [.int ((pX1_passCounted a1 (x.1 0)).1)]) (rest := []) ⟨hx, hb, hml, hown, hts⟩ (ctX2_recorded l G cI cC cZ cR ho hh hp (tQ (tQ x 1 (pX2_copy (x.1 0) (x.1 1))) 0 ((pX1_passCounted a1 (x.1 0)).2)) ((pX1_passCounted a1 (x.1 0)).1)) (cwV 1 hts gX2_pass_X2_recorded rfl rfl rfl (by decide +kernel) ⟨Nat.le_of_ble_eq_true rfl, Nat.le_of_ble_eq_true rfl⟩) (tx_recv hK hP) hK hP hD hN rfl hl.1 rfl (Nat.le_of_ble_eq_true rfl) dX2_pass_20) (fun hh1 H locs hP hD hS => ?_)
  exact rt_x (fun y hh => wX cI cC cZ cR ho hh hp y) hh1 hx hb hr hlocks hP hD hS rfl ((show pX2_pass a1 x = ((pX2_recorded ((pX1_passCounted a1 (x.1 0)).1) (tQ (tQ x 1 (pX2_copy (x.1 0) (x.1 1))) 0 ((pX1_passCounted a1 (x.1 0)).2))).1, (pX2_recorded ((pX1_passCounted a1 (x.1 0)).1) (tQ (tQ x 1 (pX2_copy (x.1 0) (x.1 1))) 0 ((pX1_passCounted a1 (x.1 0)).2))).2) by rw [pX2_pass]).symm.trans hres |>.symm) dX2_pass_23