def pX2_coveredIn_L29 (a1 : Int32) : Nat → Int32 → TV → Int32 × TV
  | 0, v2, x => (0, x)
  | n + 1, v2, x => if 96 ≤ v2 then if (pX2_has ((x.1 2).1 2) a1) = 0 then (((-6) : Int32), x)
      else ((96 : Int32), x)
    else if (pX2_has ((x.1 2).1 2) a1) = 0 then pX2_coveredIn_L29 a1 n (v2 + 1) (tQ x 2 ((pX1_passHours 1 (x.1 2)).2))
      else (v2, x)
def pX2_coveredIn (a1 : Int32) (x : TV) : Int32 × TV := if (pX2_has ((x.1 0).1 0) a1) = 0 then (((-1) : Int32), x)
  else pX2_coveredIn_L29 a1 97 0 (tQ x 2 (pX2_copy (x.1 0) (x.1 2)))
set_option maxHeartbeats 1000000 in
set_option maxRecDepth 100000 in
theorem ctX2_coveredIn (l : Launch) (G : va_G) (cI cC cZ cR : ClassId) (ho : Nat → Nat) (hh : Nat → Ad) (hp : Ad) (x : TV) (a1 : Int32) : Ct l yX2_coveredIn wsX2_coveredIn (rmz 4 91) G (TY cI cC cZ cR) [.ref (ho 0), .int a1] (wX cI cC cZ cR ho hh hp x) (Qi G (wX cI cC cZ cR ho hh hp x) (pX2_coveredIn a1 x).1 (wX cI cC cZ cR ho hh hp (pX2_coveredIn a1 x).2)) := by
  refine Ct.ofI (cc := cX2_coveredIn) (maxL := 3) (ret := (some .int)) (by decide) rfl rfl ?_
  intro p e s m below meth c A ls E0 hP hD hS hl
  obtain ⟨hx, hb, hr, hml, hlocks, hts, hown, hK, hN, hA⟩ := E0
  have hl : lv_has ls 3 [(0, .ref (ho 0)), (1, .int a1)] := hl
  have hin : ∀ w ∈ wsX20, w ∈ wsX2_coveredIn := fun w hw => List.mem_cons_of_mem _ (List.mem_append_left _ (List.mem_append_right _ (hw)))
  have hin1 : ∀ w ∈ wsX10, w ∈ wsX2_coveredIn := fun w hw => List.mem_cons_of_mem _ (List.mem_append_right _ (hw))
  have k_10 : (Cond.fieldLink RX2 10 RX2 (TX2 0).2.1 (TX2 0).2.2.1).before ([.ref (ho 0), .int a1] : List Value).toArray s = true := hts _ (List.mem_of_getElem? (i := 1) rfl)
  have k_19 : (Cond.fieldLink RX2 19 RX2 (TX2 2).2.1 (TX2 2).2.2.1).before ([.ref (ho 0), .int a1] : List Value).toArray s = true := hts _ (List.mem_of_getElem? (i := 2) rfl)
  generalize hres : pX2_coveredIn a1 x = res
  have lp_29 : ∀ (n : Nat) (v2 : Int32) (x : TV), 0 ≤ Int32.toInt v2 → Int32.toInt v2 ≤ 96 → 96 - Int32.toInt v2 < (n : Int) → pX2_coveredIn_L29 a1 n v2 x = res → ∀ (H : Heap) (locs : List Loc) (ls : Array Slot), va_P G vwCl (wX cI cC cZ cR ho hh hp x) H → va_D A (wX cI cC cZ cR ho hh hp x) → va_S A s.heap H locs → lv_has ls 3 [(0, .ref (ho 0)), (1, .int a1), (2, .int v2)] → W p l e (rmz 4 91) s m ([.ref (ho 0), .int a1] : List Value).toArray below meth c H locs 0 0 (MQ below (QiA G A res.1 (wX cI cC cZ cR ho hh hp res.2)) ([.ref (ho 0), .int a1] : List Value).toArray s 0 0 A) (F0 m 29 ls []) := by
    intro n
    induction n with
    | zero =>
      intro v2 x g_0 g_1 hm
      exfalso; omega
    | succ n ih =>
      intro v2 x g_0 g_1 hm hq H locs ls hP hD hS hl
      refine lv_iload_n hx hb dX2_coveredIn_29 rfl (lv_at hl 2 rfl) ?_
      refine lv_bipush (v := 96) hx hb dX2_coveredIn_30 (by decide) ?_
      refine lv_icmp_ge (tgt := 66) hx hb dX2_coveredIn_32 (by decide) (fun c_2 => ?_) (fun c_2 => ?_)
      · have t_2 := i_le (z := (96)) (w := (Int32.toInt v2)) c_2 (by decide) rfl
        refine lv_aload_n hx hb dX2_coveredIn_66 rfl (lv_at hl 0 rfl) ?_
        refine tx_get (v := .ref (hh 2 0)) hx hb hts hin hown hK hP 2 (by decide) k_19 rfl rfl dX2_coveredIn_67 ?_
        refine md_getN (ci := 1) (C := RX1) (T := TX1) (N := 18) (x := (x.1 2)) (v := .int ((x.1 2).1 2)) hx hb hts hin1 hown hK (xblk (t := x) (j := 2) hP (by decide)) rfl 3 (by decide) (NWs.at hN 4 rfl) rfl rfl rfl dX2_coveredIn_70 ?_
        refine lv_iload_n hx hb dX2_coveredIn_73 rfl (lv_at hl 1 rfl) ?_
        refine gn_i hP hS hA (rn_S (As := [.int ((x.1 2).1 2), .int a1]) (rest := []) ⟨hx, hb, hml, hown, hts⟩ (ctX2_has l G cI cC cZ cR ((x.1 2).1 2) a1) (va_cwS 2 hts gX2_coveredIn_X2_has rfl rfl rfl (by decide +kernel) ⟨Nat.le_of_ble_eq_true rfl, Nat.le_of_ble_eq_true rfl⟩) hK nilP (nilD (A := A)) hN rfl hl.1 rfl (Nat.le_of_ble_eq_true rfl) dX2_coveredIn_74) (fun H locs hP hS => ?_)
        refine lv_if_eq (tgt := 85) hx hb dX2_coveredIn_77 (by decide) (fun c_3 => ?_) (fun c_3 => ?_)
        · refine lv_bipush (v := (-6)) hx hb dX2_coveredIn_85 (by decide) ?_
          exact rt_xb (fun y hh => wX cI cC cZ cR ho hh hp y) hh hx hb hr hlocks hP hD hS rfl ((show pX2_coveredIn_L29 a1 (n + 1) v2 x = (((-6) : Int32), x) by rw [pX2_coveredIn_L29, if_pos c_2, if_pos c_3]).symm.trans hq |>.symm) dX2_coveredIn_87
        · refine lv_bipush (v := 96) hx hb dX2_coveredIn_80 (by decide) ?_
          refine lv_goto (tgt := 87) hx hb dX2_coveredIn_82 (by decide) ?_
          exact rt_xb (fun y hh => wX cI cC cZ cR ho hh hp y) hh hx hb hr hlocks hP hD hS rfl ((show pX2_coveredIn_L29 a1 (n + 1) v2 x = ((96 : Int32), x) by rw [pX2_coveredIn_L29, if_pos c_2, if_neg c_3]).symm.trans hq |>.symm) dX2_coveredIn_87
      · have t_2 := i_nle (z := (96)) (w := (Int32.toInt v2)) c_2 (by decide) rfl
        refine lv_aload_n hx hb dX2_coveredIn_35 rfl (lv_at hl 0 rfl) ?_
        refine tx_get (v := .ref (hh 2 0)) hx hb hts hin hown hK hP 2 (by decide) k_19 rfl rfl dX2_coveredIn_36 ?_
        refine md_getN (ci := 1) (C := RX1) (T := TX1) (N := 18) (x := (x.1 2)) (v := .int ((x.1 2).1 2)) hx hb hts hin1 hown hK (xblk (t := x) (j := 2) hP (by decide)) rfl 3 (by decide) (NWs.at hN 4 rfl) rfl rfl rfl dX2_coveredIn_39 ?_
        refine lv_iload_n hx hb dX2_coveredIn_42 rfl (lv_at hl 1 rfl) ?_
        refine gn_i hP hS hA (rn_S (As := [.int ((x.1 2).1 2), .int a1]) (rest := []) ⟨hx, hb, hml, hown, hts⟩ (ctX2_has l G cI cC cZ cR ((x.1 2).1 2) a1) (va_cwS 2 hts gX2_coveredIn_X2_has rfl rfl rfl (by decide +kernel) ⟨Nat.le_of_ble_eq_true rfl, Nat.le_of_ble_eq_true rfl⟩) hK nilP (nilD (A := A)) hN rfl hl.1 rfl (Nat.le_of_ble_eq_true rfl) dX2_coveredIn_43) (fun H locs hP hS => ?_)
        refine lv_if_eq (tgt := 51) hx hb dX2_coveredIn_46 (by decide) (fun c_4 => ?_) (fun c_4 => ?_)
        · refine lv_aload_n hx hb dX2_coveredIn_51 rfl (lv_at hl 0 rfl) ?_
          refine tx_get (v := .ref (hh 2 0)) hx hb hts hin hown hK hP 2 (by decide) k_19 rfl rfl dX2_coveredIn_52 ?_
          refine lv_iconst (v := 1) hx hb dX2_coveredIn_55 (by decide) ?_
          refine gp_i (wX_1 (j := 2) (by decide)) (wX_1u (j := 2) (by decide)) hP hD hS hA (rn_VN (As := [.int 1]) (rest := []) ⟨hx, hb, hml, hown, hts⟩ (ctX1_passHours l G cI cC cZ cR (hh 2) (x.1 2) 1 (by decide) (by decide)) ⟨va_cnB 1 hts gX2_coveredIn_X1_passHours_n154 rfl rfl rfl (NWs.nw hN 38 rfl) (hts _ (List.mem_of_getElem? (i := 15) rfl)) (by decide +kernel) ⟨Nat.le_of_ble_eq_true rfl, Nat.le_of_ble_eq_true rfl⟩, (hts _ (List.mem_of_getElem? (i := 14) rfl)), (hts _ (List.mem_of_getElem? (i := 16) rfl))⟩ (md_recv hK (xblk (j := 2) hP (by decide)) rfl) hK (xblk (j := 2) hP (by decide)) (xblkD (j := 2) hD (by decide)) hN rfl hl.1 rfl (Nat.le_of_ble_eq_true rfl) dX2_coveredIn_56) (fun H locs hP hD hS => ?_)
          refine lv_pop hx hb dX2_coveredIn_59 rfl ?_
          refine lv_iinc (v := (v2 + 1)) (lv' := [(2, .int (v2 + 1)), (0, .ref (ho 0)), (1, .int a1)]) hx hb dX2_coveredIn_60 hl (k := 2) rfl rfl (by decide) rfl (fun ls hl => ?_)
          have a_60 := i_add1 (a := v2) (by omega) (by omega)
          refine lv_goto (tgt := 29) hx hb dX2_coveredIn_63 (by decide) ?_
          exact ih (v2 + 1) (tQ x 2 ((pX1_passHours 1 (x.1 2)).2)) (by omega) (by omega) (by omega) ((show pX2_coveredIn_L29 a1 (n + 1) v2 x = pX2_coveredIn_L29 a1 n (v2 + 1) (tQ x 2 ((pX1_passHours 1 (x.1 2)).2)) by rw [pX2_coveredIn_L29, if_neg c_2, if_pos c_4]).symm.trans hq) _ _ _ hP hD hS (lv_sub hl [1, 2, 0] rfl)
        · refine lv_iload_n hx hb dX2_coveredIn_49 rfl (lv_at hl 2 rfl) ?_
          exact rt_xb (fun y hh => wX cI cC cZ cR ho hh hp y) hh hx hb hr hlocks hP hD hS rfl ((show pX2_coveredIn_L29 a1 (n + 1) v2 x = (v2, x) by rw [pX2_coveredIn_L29, if_neg c_2, if_neg c_4]).symm.trans hq |>.symm) dX2_coveredIn_50
  refine lv_aload_n hx hb dX2_coveredIn_0 rfl (lv_at hl 0 rfl) ?_
  refine tx_get (v := .ref (hh 0 0)) hx hb hts hin hown hK hP 0 (by decide) k_10 rfl rfl dX2_coveredIn_1 ?_
  refine md_getN (ci := 1) (C := RX1) (T := TX1) (N := 18) (x := (x.1 0)) (v := .int ((x.1 0).1 0)) hx hb hts hin1 hown hK (xblk (t := x) (j := 0) hP (by decide)) rfl 1 (by decide) (NWs.at hN 2 rfl) rfl rfl rfl dX2_coveredIn_4 ?_
  refine lv_iload_n hx hb dX2_coveredIn_7 rfl (lv_at hl 1 rfl) ?_
  refine gn_i hP hS hA (rn_S (As := [.int ((x.1 0).1 0), .int a1]) (rest := []) ⟨hx, hb, hml, hown, hts⟩ (ctX2_has l G cI cC cZ cR ((x.1 0).1 0) a1) (va_cwS 2 hts gX2_coveredIn_X2_has rfl rfl rfl (by decide +kernel) ⟨Nat.le_of_ble_eq_true rfl, Nat.le_of_ble_eq_true rfl⟩) hK nilP (nilD (A := A)) hN rfl hl.1 rfl (Nat.le_of_ble_eq_true rfl) dX2_coveredIn_8) (fun H locs hP hS => ?_)
  refine lv_if_ne (tgt := 16) hx hb dX2_coveredIn_11 (by decide) (fun c_1 => ?_) (fun c_1 => ?_)
  · refine lv_aload_n hx hb dX2_coveredIn_16 rfl (lv_at hl 0 rfl) ?_
    refine tx_get (v := .ref (hh 0 0)) hx hb hts hin hown hK hP 0 (by decide) k_10 rfl rfl dX2_coveredIn_17 ?_
    refine lv_aload_n hx hb dX2_coveredIn_20 rfl (lv_at hl 0 rfl) ?_
    refine tx_get (v := .ref (hh 2 0)) hx hb hts hin hown hK hP 2 (by decide) k_19 rfl rfl dX2_coveredIn_21 ?_
    refine gp_v (wX_2 (j := 0) (k := 2) (by decide) (by decide) (by decide)) (wX_2u (j := 0) (k := 2) (by decide) (by decide) (by decide)) hP hD hS hA (rn_S (As := [.ref (hh 0 0), .ref (hh 2 0)]) (rest := []) ⟨hx, hb, hml, hown, hts⟩ (ctX2_copy l G cI cC cZ cR (hh 0) (hh 2) (x.1 0) (x.1 2)) (va_cwS 2 hts gX2_coveredIn_X2_copy rfl rfl rfl (by decide +kernel) ⟨Nat.le_of_ble_eq_true rfl, Nat.le_of_ble_eq_true rfl⟩) hK (hP.perm (wX_2 (j := 0) (k := 2) (by decide) (by decide) (by decide))).left (va_D.leftD (hD.perm (wX_2 (j := 0) (k := 2) (by decide) (by decide) (by decide)))) hN rfl hl.1 rfl (Nat.le_of_ble_eq_true rfl) dX2_coveredIn_24) (fun H locs hP hD hS => ?_)
    refine lv_iconst (v := 0) hx hb dX2_coveredIn_27 (by decide) ?_
    refine lv_istore_n (lv' := [(2, .int 0), (0, .ref (ho 0)), (1, .int a1)]) hx hb dX2_coveredIn_28 rfl hl (by decide) rfl (fun ls hl => ?_)
    exact lp_29 97 0 (tQ x 2 (pX2_copy (x.1 0) (x.1 2))) (by first | decide | omega | assumption) (by first | decide | omega | assumption) (by decide) ((show pX2_coveredIn a1 x = pX2_coveredIn_L29 a1 97 0 (tQ x 2 (pX2_copy (x.1 0) (x.1 2))) by rw [pX2_coveredIn, if_neg c_1]).symm.trans hres) _ _ _ hP hD hS (lv_sub hl [1, 2, 0] rfl)
  · refine lv_iconst (v := (-1)) hx hb dX2_coveredIn_14 (by decide) ?_
    exact rt_xb (fun y hh => wX cI cC cZ cR ho hh hp y) hh hx hb hr hlocks hP hD hS rfl ((show pX2_coveredIn a1 x = (((-1) : Int32), x) by rw [pX2_coveredIn, if_pos c_1]).symm.trans hres |>.symm) dX2_coveredIn_15
def pX2_willBeWet_L38 (a1 : Int32) : Nat → Int32 → Int32 → TV → Int32 × TV
  | 0, v2, v3, x => (0, x)
  | n + 1, v2, v3, x => if 12 ≤ v3 then (v2, x)
    else if ((x.1 2).2 4 (ix v3)) ≤ ((x.1 0).2 4 (ix v3)) then pX2_willBeWet_L38 a1 n v2 (v3 + 1) x
      else pX2_willBeWet_L38 a1 n (v2 ||| (1 <<< (v3 &&& 31))) (v3 + 1) x
def pX2_willBeWet (a1 : Int32) (x : TV) : Int32 × TV := if a1 < 1 then (((-2) : Int32), x)
  else if a1 ≤ 99 then pX2_willBeWet_L38 a1 13 0 0 (tQ (tQ x 2 (pX2_copy (x.1 0) (x.1 2))) 2 ((pX1_passHours a1 (pX2_copy (x.1 0) (x.1 2))).2))
    else (((-2) : Int32), x)
set_option maxHeartbeats 1000000 in
set_option maxRecDepth 100000 in
theorem ctX2_willBeWet (l : Launch) (G : va_G) (cI cC cZ cR : ClassId) (ho : Nat → Nat) (hh : Nat → Ad) (hp : Ad) (x : TV) (a1 : Int32) : Ct l yX2_willBeWet wsX2_willBeWet (rmz 4 91) G (TY cI cC cZ cR) [.ref (ho 0), .int a1] (wX cI cC cZ cR ho hh hp x) (Qi G (wX cI cC cZ cR ho hh hp x) (pX2_willBeWet a1 x).1 (wX cI cC cZ cR ho hh hp (pX2_willBeWet a1 x).2)) := by
  refine Ct.ofI (cc := cX2_willBeWet) (maxL := 4) (ret := (some .int)) (by decide) rfl rfl ?_
  intro p e s m below meth c A ls E0 hP hD hS hl
  obtain ⟨hx, hb, hr, hml, hlocks, hts, hown, hK, hN, hA⟩ := E0
  have hl : lv_has ls 4 [(0, .ref (ho 0)), (1, .int a1)] := hl
  have hin : ∀ w ∈ wsX20, w ∈ wsX2_willBeWet := fun w hw => List.mem_cons_of_mem _ (List.mem_append_left _ (List.mem_append_right _ (hw)))
  have hin1 : ∀ w ∈ wsX10, w ∈ wsX2_willBeWet := fun w hw => List.mem_cons_of_mem _ (List.mem_append_right _ (hw))
  have k_10 : (Cond.fieldLink RX2 10 RX2 (TX2 0).2.1 (TX2 0).2.2.1).before ([.ref (ho 0), .int a1] : List Value).toArray s = true := hts _ (List.mem_of_getElem? (i := 1) rfl)
  have k_19 : (Cond.fieldLink RX2 19 RX2 (TX2 2).2.1 (TX2 2).2.2.1).before ([.ref (ho 0), .int a1] : List Value).toArray s = true := hts _ (List.mem_of_getElem? (i := 2) rfl)
  generalize hres : pX2_willBeWet a1 x = res
  have lp_38 : ∀ (n : Nat) (v2 : Int32) (v3 : Int32) (x : TV), 0 ≤ Int32.toInt v3 → Int32.toInt v3 ≤ 12 → 12 - Int32.toInt v3 < (n : Int) → pX2_willBeWet_L38 a1 n v2 v3 x = res → ∀ (H : Heap) (locs : List Loc) (ls : Array Slot), va_P G vwCl (wX cI cC cZ cR ho hh hp x) H → va_D A (wX cI cC cZ cR ho hh hp x) → va_S A s.heap H locs → lv_has ls 4 [(0, .ref (ho 0)), (1, .int a1), (2, .int v2), (3, .int v3)] → W p l e (rmz 4 91) s m ([.ref (ho 0), .int a1] : List Value).toArray below meth c H locs 0 0 (MQ below (QiA G A res.1 (wX cI cC cZ cR ho hh hp res.2)) ([.ref (ho 0), .int a1] : List Value).toArray s 0 0 A) (F0 m 38 ls []) := by
    intro n
    induction n with
    | zero =>
      intro v2 v3 x g_0 g_1 hm
      exfalso; omega
    | succ n ih =>
      intro v2 v3 x g_0 g_1 hm hq H locs ls hP hD hS hl
      refine lv_iload_n hx hb dX2_willBeWet_38 rfl (lv_at hl 3 rfl) ?_
      refine lv_bipush (v := 12) hx hb dX2_willBeWet_39 (by decide) ?_
      refine lv_icmp_ge (tgt := 77) hx hb dX2_willBeWet_41 (by decide) (fun c_3 => ?_) (fun c_3 => ?_)
      · have t_3 := i_le (z := (12)) (w := (Int32.toInt v3)) c_3 (by decide) rfl
        refine lv_iload_n hx hb dX2_willBeWet_77 rfl (lv_at hl 2 rfl) ?_
        exact rt_xb (fun y hh => wX cI cC cZ cR ho hh hp y) hh hx hb hr hlocks hP hD hS rfl ((show pX2_willBeWet_L38 a1 (n + 1) v2 v3 x = (v2, x) by rw [pX2_willBeWet_L38, if_pos c_3]).symm.trans hq |>.symm) dX2_willBeWet_78
      · have t_3 := i_nle (z := (12)) (w := (Int32.toInt v3)) c_3 (by decide) rfl
        refine lv_aload_n hx hb dX2_willBeWet_44 rfl (lv_at hl 0 rfl) ?_
        refine tx_get (v := .ref (hh 2 0)) hx hb hts hin hown hK hP 2 (by decide) k_19 rfl rfl dX2_willBeWet_45 ?_
        refine md_getN (ci := 1) (C := RX1) (T := TX1) (N := 18) (x := (x.1 2)) (v := .ref (hh 2 5)) hx hb hts hin1 hown hK (xblk (t := x) (j := 2) hP (by decide)) rfl 7 (by decide) (NWs.at hN 8 rfl) rfl rfl rfl dX2_willBeWet_48 ?_
        refine lv_iload_n hx hb dX2_willBeWet_51 rfl (lv_at hl 3 rfl) ?_
        refine md_ia (x := (x.1 2)) (v := ((x.1 2).2 4 (ix v3))) hx hb hK (xblk (t := x) (j := 2) hP (by decide)) 4 0 rfl rfl (by first | with_reducible assumption | exact vp_in_iff.mpr ⟨by decide, by decide⟩ | exact vp_in_iff.mpr ⟨by omega, by omega⟩ | exact has_in (by with_reducible assumption)) rfl dX2_willBeWet_52 ?_
        refine lv_aload_n hx hb dX2_willBeWet_53 rfl (lv_at hl 0 rfl) ?_
        refine tx_get (v := .ref (hh 0 0)) hx hb hts hin hown hK hP 0 (by decide) k_10 rfl rfl dX2_willBeWet_54 ?_
        refine md_getN (ci := 1) (C := RX1) (T := TX1) (N := 18) (x := (x.1 0)) (v := .ref (hh 0 5)) hx hb hts hin1 hown hK (xblk (t := x) (j := 0) hP (by decide)) rfl 7 (by decide) (NWs.at hN 8 rfl) rfl rfl rfl dX2_willBeWet_57 ?_
        refine lv_iload_n hx hb dX2_willBeWet_60 rfl (lv_at hl 3 rfl) ?_
        refine md_ia (x := (x.1 0)) (v := ((x.1 0).2 4 (ix v3))) hx hb hK (xblk (t := x) (j := 0) hP (by decide)) 4 0 rfl rfl (by first | with_reducible assumption | exact vp_in_iff.mpr ⟨by decide, by decide⟩ | exact vp_in_iff.mpr ⟨by omega, by omega⟩ | exact has_in (by with_reducible assumption)) rfl dX2_willBeWet_61 ?_
        refine lv_icmp_le (tgt := 71) hx hb dX2_willBeWet_62 (by decide) (fun c_4 => ?_) (fun c_4 => ?_)
        · have t_4 := i_le (z := (Int32.toInt ((x.1 2).2 4 (ix v3)))) (w := (Int32.toInt ((x.1 0).2 4 (ix v3)))) c_4 rfl rfl
          refine lv_iinc (v := (v3 + 1)) (lv' := [(3, .int (v3 + 1)), (0, .ref (ho 0)), (1, .int a1), (2, .int v2)]) hx hb dX2_willBeWet_71 hl (k := 3) rfl rfl (by decide) rfl (fun ls hl => ?_)
          have a_71 := i_add1 (a := v3) (by omega) (by omega)
          refine lv_goto (tgt := 38) hx hb dX2_willBeWet_74 (by decide) ?_
          exact ih v2 (v3 + 1) x (by omega) (by omega) (by omega) ((show pX2_willBeWet_L38 a1 (n + 1) v2 v3 x = pX2_willBeWet_L38 a1 n v2 (v3 + 1) x by rw [pX2_willBeWet_L38, if_neg c_3, if_pos c_4]).symm.trans hq) _ _ _ hP hD hS (lv_sub hl [1, 2, 3, 0] rfl)
        · have t_4 := i_nle (z := (Int32.toInt ((x.1 2).2 4 (ix v3)))) (w := (Int32.toInt ((x.1 0).2 4 (ix v3)))) c_4 rfl rfl
          refine lv_iload_n hx hb dX2_willBeWet_65 rfl (lv_at hl 2 rfl) ?_
          refine lv_iconst (v := 1) hx hb dX2_willBeWet_66 (by decide) ?_
          refine lv_iload_n hx hb dX2_willBeWet_67 rfl (lv_at hl 3 rfl) ?_
          refine lv_ishl hx hb dX2_willBeWet_68 ?_
          refine lv_ior hx hb dX2_willBeWet_69 ?_
          refine lv_istore_n (lv' := [(2, .int (v2 ||| (1 <<< (v3 &&& 31)))), (0, .ref (ho 0)), (1, .int a1), (3, .int v3)]) hx hb dX2_willBeWet_70 rfl hl (by decide) rfl (fun ls hl => ?_)
          refine lv_iinc (v := (v3 + 1)) (lv' := [(3, .int (v3 + 1)), (2, .int (v2 ||| (1 <<< (v3 &&& 31)))), (0, .ref (ho 0)), (1, .int a1)]) hx hb dX2_willBeWet_71 hl (k := 3) rfl rfl (by decide) rfl (fun ls hl => ?_)
          have a_71 := i_add1 (a := v3) (by omega) (by omega)
          refine lv_goto (tgt := 38) hx hb dX2_willBeWet_74 (by decide) ?_
          exact ih (v2 ||| (1 <<< (v3 &&& 31))) (v3 + 1) x (by omega) (by omega) (by omega) ((show pX2_willBeWet_L38 a1 (n + 1) v2 v3 x = pX2_willBeWet_L38 a1 n (v2 ||| (1 <<< (v3 &&& 31))) (v3 + 1) x by rw [pX2_willBeWet_L38, if_neg c_3, if_neg c_4]).symm.trans hq) _ _ _ hP hD hS (lv_sub hl [2, 3, 1, 0] rfl)
  refine lv_iload_n hx hb dX2_willBeWet_0 rfl (lv_at hl 1 rfl) ?_
  refine lv_iconst (v := 1) hx hb dX2_willBeWet_1 (by decide) ?_
  refine lv_icmp_lt (tgt := 11) hx hb dX2_willBeWet_2 (by decide) (fun c_1 => ?_) (fun c_1 => ?_)
  · have t_1 := i_lt (z := (Int32.toInt a1)) (w := (1)) c_1 rfl (by decide)
    refine lv_bipush (v := (-2)) hx hb dX2_willBeWet_11 (by decide) ?_
    exact rt_xb (fun y hh => wX cI cC cZ cR ho hh hp y) hh hx hb hr hlocks hP hD hS rfl ((show pX2_willBeWet a1 x = (((-2) : Int32), x) by rw [pX2_willBeWet, if_pos c_1]).symm.trans hres |>.symm) dX2_willBeWet_13
  · have t_1 := i_nlt (z := (Int32.toInt a1)) (w := (1)) c_1 rfl (by decide)
    refine lv_iload_n hx hb dX2_willBeWet_5 rfl (lv_at hl 1 rfl) ?_
    refine lv_bipush (v := 99) hx hb dX2_willBeWet_6 (by decide) ?_
    refine lv_icmp_le (tgt := 14) hx hb dX2_willBeWet_8 (by decide) (fun c_2 => ?_) (fun c_2 => ?_)
    · have t_2 := i_le (z := (Int32.toInt a1)) (w := (99)) c_2 rfl (by decide)
      refine lv_aload_n hx hb dX2_willBeWet_14 rfl (lv_at hl 0 rfl) ?_
      refine tx_get (v := .ref (hh 0 0)) hx hb hts hin hown hK hP 0 (by decide) k_10 rfl rfl dX2_willBeWet_15 ?_
      refine lv_aload_n hx hb dX2_willBeWet_18 rfl (lv_at hl 0 rfl) ?_
      refine tx_get (v := .ref (hh 2 0)) hx hb hts hin hown hK hP 2 (by decide) k_19 rfl rfl dX2_willBeWet_19 ?_
      refine gp_v (wX_2 (j := 0) (k := 2) (by decide) (by decide) (by decide)) (wX_2u (j := 0) (k := 2) (by decide) (by decide) (by decide)) hP hD hS hA (rn_S (As := [.ref (hh 0 0), .ref (hh 2 0)]) (rest := []) ⟨hx, hb, hml, hown, hts⟩ (ctX2_copy l G cI cC cZ cR (hh 0) (hh 2) (x.1 0) (x.1 2)) (va_cwS 2 hts gX2_willBeWet_X2_copy rfl rfl rfl (by decide +kernel) ⟨Nat.le_of_ble_eq_true rfl, Nat.le_of_ble_eq_true rfl⟩) hK (hP.perm (wX_2 (j := 0) (k := 2) (by decide) (by decide) (by decide))).left (va_D.leftD (hD.perm (wX_2 (j := 0) (k := 2) (by decide) (by decide) (by decide)))) hN rfl hl.1 rfl (Nat.le_of_ble_eq_true rfl) dX2_willBeWet_22) (fun H locs hP hD hS => ?_)
      refine lv_aload_n hx hb dX2_willBeWet_25 rfl (lv_at hl 0 rfl) ?_
      refine tx_get (v := .ref (hh 2 0)) hx hb hts hin hown hK hP 2 (by decide) k_19 rfl rfl dX2_willBeWet_26 ?_
      refine lv_iload_n hx hb dX2_willBeWet_29 rfl (lv_at hl 1 rfl) ?_
      refine gp_i (wX_1 (j := 2) (by decide)) (wX_1u (j := 2) (by decide)) hP hD hS hA (rn_VN (As := [.int a1]) (rest := []) ⟨hx, hb, hml, hown, hts⟩ (ctX1_passHours l G cI cC cZ cR (hh 2) (pX2_copy (x.1 0) (x.1 2)) a1 (by omega) (by omega)) ⟨va_cnB 1 hts gX2_willBeWet_X1_passHours_n154 rfl rfl rfl (NWs.nw hN 38 rfl) (hts _ (List.mem_of_getElem? (i := 12) rfl)) (by decide +kernel) ⟨Nat.le_of_ble_eq_true rfl, Nat.le_of_ble_eq_true rfl⟩, (hts _ (List.mem_of_getElem? (i := 11) rfl)), (hts _ (List.mem_of_getElem? (i := 13) rfl))⟩ (md_recv hK (xblk (j := 2) hP (by decide)) rfl) hK (xblk (j := 2) hP (by decide)) (xblkD (j := 2) hD (by decide)) hN rfl hl.1 rfl (Nat.le_of_ble_eq_true rfl) dX2_willBeWet_30) (fun H locs hP hD hS => ?_)
      refine lv_pop hx hb dX2_willBeWet_33 rfl ?_
      refine lv_iconst (v := 0) hx hb dX2_willBeWet_34 (by decide) ?_
      refine lv_istore_n (lv' := [(2, .int 0), (0, .ref (ho 0)), (1, .int a1)]) hx hb dX2_willBeWet_35 rfl hl (by decide) rfl (fun ls hl => ?_)
      refine lv_iconst (v := 0) hx hb dX2_willBeWet_36 (by decide) ?_
      refine lv_istore_n (lv' := [(3, .int 0), (2, .int 0), (0, .ref (ho 0)), (1, .int a1)]) hx hb dX2_willBeWet_37 rfl hl (by decide) rfl (fun ls hl => ?_)
      exact lp_38 13 0 0 (tQ (tQ x 2 (pX2_copy (x.1 0) (x.1 2))) 2 ((pX1_passHours a1 (pX2_copy (x.1 0) (x.1 2))).2)) (by first | decide | omega | assumption) (by first | decide | omega | assumption) (by decide) ((show pX2_willBeWet a1 x = pX2_willBeWet_L38 a1 13 0 0 (tQ (tQ x 2 (pX2_copy (x.1 0) (x.1 2))) 2 ((pX1_passHours a1 (pX2_copy (x.1 0) (x.1 2))).2)) by rw [pX2_willBeWet, if_neg c_1, if_pos c_2]).symm.trans hres) _ _ _ hP hD hS (lv_sub hl [2, 3, 1, 0] rfl)
    · have t_2 := i_nle (z := (Int32.toInt a1)) (w := (99)) c_2 rfl (by decide)
      refine lv_bipush (v := (-2)) hx hb dX2_willBeWet_11 (by decide) ?_
      exact rt_xb (fun y hh => wX cI cC cZ cR ho hh hp y) hh hx hb hr hlocks hP hD hS rfl ((show pX2_willBeWet a1 x = (((-2) : Int32), x) by rw [pX2_willBeWet, if_neg c_1, if_neg c_2]).symm.trans hres |>.symm) dX2_willBeWet_13
def pX2_coinsWithOneMoreAt (a1 : Int32) (a2 : Int32) (x : TV) : Int32 × TV := ((pX1_passHours a2 (pX1_addKeeper a1 (pX2_copy (x.1 0) (x.1 2)))).1, (tQ (tQ (tQ x 2 (pX2_copy (x.1 0) (x.1 2))) 2 (pX1_addKeeper a1 (pX2_copy (x.1 0) (x.1 2)))) 2 ((pX1_passHours a2 (pX1_addKeeper a1 (pX2_copy (x.1 0) (x.1 2)))).2)))
set_option maxHeartbeats 1000000 in
set_option maxRecDepth 100000 in
theorem ctX2_coinsWithOneMoreAt (l : Launch) (G : va_G) (cI cC cZ cR : ClassId) (ho : Nat → Nat) (hh : Nat → Ad) (hp : Ad) (x : TV) (a1 : Int32) (a2 : Int32) (q_0 : 0 ≤ Int32.toInt a2) (q_1 : Int32.toInt a2 ≤ 99) : Ct l yX2_coinsWithOneMoreAt wsX2_coinsWithOneMoreAt (rmz 4 91) G (TY cI cC cZ cR) [.ref (ho 0), .int a1, .int a2] (wX cI cC cZ cR ho hh hp x) (Qi G (wX cI cC cZ cR ho hh hp x) (pX2_coinsWithOneMoreAt a1 a2 x).1 (wX cI cC cZ cR ho hh hp (pX2_coinsWithOneMoreAt a1 a2 x).2)) := by
  refine Ct.ofI (cc := cX2_coinsWithOneMoreAt) (maxL := 3) (ret := (some .int)) (by decide) rfl rfl ?_
  intro p e s m below meth c A ls E0 hP hD hS hl
  obtain ⟨hx, hb, hr, hml, hlocks, hts, hown, hK, hN, hA⟩ := E0
  have hl : lv_has ls 3 [(0, .ref (ho 0)), (1, .int a1), (2, .int a2)] := hl
  have hin : ∀ w ∈ wsX20, w ∈ wsX2_coinsWithOneMoreAt := fun w hw => List.mem_cons_of_mem _ (List.mem_append_left _ (List.mem_append_right _ (hw)))
  have hin1 : ∀ w ∈ wsX10, w ∈ wsX2_coinsWithOneMoreAt := fun w hw => List.mem_cons_of_mem _ (List.mem_append_right _ (hw))
  have k_10 : (Cond.fieldLink RX2 10 RX2 (TX2 0).2.1 (TX2 0).2.2.1).before ([.ref (ho 0), .int a1, .int a2] : List Value).toArray s = true := hts _ (List.mem_of_getElem? (i := 1) rfl)
  have k_19 : (Cond.fieldLink RX2 19 RX2 (TX2 2).2.1 (TX2 2).2.2.1).before ([.ref (ho 0), .int a1, .int a2] : List Value).toArray s = true := hts _ (List.mem_of_getElem? (i := 2) rfl)
  generalize hres : pX2_coinsWithOneMoreAt a1 a2 x = res
  refine lv_aload_n hx hb dX2_coinsWithOneMoreAt_0 rfl (lv_at hl 0 rfl) ?_
  refine tx_get (v := .ref (hh 0 0)) hx hb hts hin hown hK hP 0 (by decide) k_10 rfl rfl dX2_coinsWithOneMoreAt_1 ?_
  refine lv_aload_n hx hb dX2_coinsWithOneMoreAt_4 rfl (lv_at hl 0 rfl) ?_
  refine tx_get (v := .ref (hh 2 0)) hx hb hts hin hown hK hP 2 (by decide) k_19 rfl rfl dX2_coinsWithOneMoreAt_5 ?_
  refine gp_v (wX_2 (j := 0) (k := 2) (by decide) (by decide) (by decide)) (wX_2u (j := 0) (k := 2) (by decide) (by decide) (by decide)) hP hD hS hA (rn_S (As := [.ref (hh 0 0), .ref (hh 2 0)]) (rest := []) ⟨hx, hb, hml, hown, hts⟩ (ctX2_copy l G cI cC cZ cR (hh 0) (hh 2) (x.1 0) (x.1 2)) (va_cwS 2 hts gX2_coinsWithOneMoreAt_X2_copy rfl rfl rfl (by decide +kernel) ⟨Nat.le_of_ble_eq_true rfl, Nat.le_of_ble_eq_true rfl⟩) hK (hP.perm (wX_2 (j := 0) (k := 2) (by decide) (by decide) (by decide))).left (va_D.leftD (hD.perm (wX_2 (j := 0) (k := 2) (by decide) (by decide) (by decide)))) hN rfl hl.1 rfl (Nat.le_of_ble_eq_true rfl) dX2_coinsWithOneMoreAt_8) (fun H locs hP hD hS => ?_)
  refine lv_aload_n hx hb dX2_coinsWithOneMoreAt_11 rfl (lv_at hl 0 rfl) ?_
  refine tx_get (v := .ref (hh 2 0)) hx hb hts hin hown hK hP 2 (by decide) k_19 rfl rfl dX2_coinsWithOneMoreAt_12 ?_
  refine lv_iload_n hx hb dX2_coinsWithOneMoreAt_15 rfl (lv_at hl 1 rfl) ?_
  refine gp_v (wX_1 (j := 2) (by decide)) (wX_1u (j := 2) (by decide)) hP hD hS hA (rn_VN (As := [.int a1]) (rest := []) ⟨hx, hb, hml, hown, hts⟩ (ctX1_addKeeper l G cI cC cZ cR (hh 2) (pX2_copy (x.1 0) (x.1 2)) a1) ⟨va_cnB 1 hts gX2_coinsWithOneMoreAt_X1_addKeeper_n160 rfl rfl rfl (NWs.nw hN 39 rfl) (hts _ (List.mem_of_getElem? (i := 12) rfl)) (by decide +kernel) ⟨Nat.le_of_ble_eq_true rfl, Nat.le_of_ble_eq_true rfl⟩, (hts _ (List.mem_of_getElem? (i := 11) rfl)), (hts _ (List.mem_of_getElem? (i := 13) rfl))⟩ (md_recv hK (xblk (j := 2) hP (by decide)) rfl) hK (xblk (j := 2) hP (by decide)) (xblkD (j := 2) hD (by decide)) hN rfl hl.1 rfl (Nat.le_of_ble_eq_true rfl) dX2_coinsWithOneMoreAt_16) (fun H locs hP hD hS => ?_)
  refine lv_aload_n hx hb dX2_coinsWithOneMoreAt_19 rfl (lv_at hl 0 rfl) ?_
  refine tx_get (v := .ref (hh 2 0)) hx hb hts hin hown hK hP 2 (by decide) k_19 rfl rfl dX2_coinsWithOneMoreAt_20 ?_
  refine lv_iload_n hx hb dX2_coinsWithOneMoreAt_23 rfl (lv_at hl 2 rfl) ?_
  refine gp_i (wX_1 (j := 2) (by decide)) (wX_1u (j := 2) (by decide)) hP hD hS hA (rn_VN (As := [.int a2]) (rest := []) ⟨hx, hb, hml, hown, hts⟩ (ctX1_passHours l G cI cC cZ cR (hh 2) (pX1_addKeeper a1 (pX2_copy (x.1 0) (x.1 2))) a2 (by exact q_0) (by exact q_1)) ⟨va_cnB 1 hts gX2_coinsWithOneMoreAt_X1_passHours_n154 rfl rfl rfl (NWs.nw hN 38 rfl) (hts _ (List.mem_of_getElem? (i := 12) rfl)) (by decide +kernel) ⟨Nat.le_of_ble_eq_true rfl, Nat.le_of_ble_eq_true rfl⟩, (hts _ (List.mem_of_getElem? (i := 21) rfl)), (hts _ (List.mem_of_getElem? (i := 22) rfl))⟩ (md_recv hK (xblk (j := 2) hP (by decide)) rfl) hK (xblk (j := 2) hP (by decide)) (xblkD (j := 2) hD (by decide)) hN rfl hl.1 rfl (Nat.le_of_ble_eq_true rfl) dX2_coinsWithOneMoreAt_24) (fun H locs hP hD hS => ?_)
  exact rt_xb (fun y hh => wX cI cC cZ cR ho hh hp y) hh hx hb hr hlocks hP hD hS rfl ((show pX2_coinsWithOneMoreAt a1 a2 x = ((pX1_passHours a2 (pX1_addKeeper a1 (pX2_copy (x.1 0) (x.1 2)))).1, (tQ (tQ (tQ x 2 (pX2_copy (x.1 0) (x.1 2))) 2 (pX1_addKeeper a1 (pX2_copy (x.1 0) (x.1 2)))) 2 ((pX1_passHours a2 (pX1_addKeeper a1 (pX2_copy (x.1 0) (x.1 2)))).2))) by rw [pX2_coinsWithOneMoreAt]).symm.trans hres |>.symm) dX2_coinsWithOneMoreAt_27
def pX2_bestPlace_L32 (a1 : Int32) (a2 : Int32) : Nat → Int32 → Int32 → Int32 → TV → Int32 × TV
  | 0, v3, v4, v5, x => (0, x)
  | n + 1, v3, v4, v5, x => if 12 ≤ v5 then if a2 = 0 then (v3, x)
      else (v4, x)
    else if v3 = (-6) then pX2_bestPlace_L32 a1 a2 n v5 ((pX2_coinsWithOneMoreAt v5 a1 x).1) (v5 + 1) (pX2_coinsWithOneMoreAt v5 a1 x).2
      else if ((pX2_coinsWithOneMoreAt v5 a1 x).1) ≤ v4 then pX2_bestPlace_L32 a1 a2 n v3 v4 (v5 + 1) (pX2_coinsWithOneMoreAt v5 a1 x).2
        else pX2_bestPlace_L32 a1 a2 n v5 ((pX2_coinsWithOneMoreAt v5 a1 x).1) (v5 + 1) (pX2_coinsWithOneMoreAt v5 a1 x).2
def pX2_bestPlace (a1 : Int32) (a2 : Int32) (x : TV) : Int32 × TV := if a1 < 1 then (((-2) : Int32), x)
  else if 48 < a1 then (((-2) : Int32), x)
    else if a2 < 0 then (((-2) : Int32), x)
      else if a2 ≤ 1 then pX2_bestPlace_L32 a1 a2 13 (-6) 0 0 x
        else (((-2) : Int32), x)
set_option maxHeartbeats 1000000 in
set_option maxRecDepth 100000 in
theorem ctX2_bestPlace (l : Launch) (G : va_G) (cI cC cZ cR : ClassId) (ho : Nat → Nat) (hh : Nat → Ad) (hp : Ad) (x : TV) (a1 : Int32) (a2 : Int32) : Ct l yX2_bestPlace wsX2_bestPlace (rmz 5 113) G (TY cI cC cZ cR) [.ref (ho 0), .int a1, .int a2] (wX cI cC cZ cR ho hh hp x) (Qi G (wX cI cC cZ cR ho hh hp x) (pX2_bestPlace a1 a2 x).1 (wX cI cC cZ cR ho hh hp (pX2_bestPlace a1 a2 x).2)) := by
  refine Ct.ofI (cc := cX2_bestPlace) (maxL := 7) (ret := (some .int)) (by decide) rfl rfl ?_
  intro p e s m below meth c A ls E0 hP hD hS hl
  obtain ⟨hx, hb, hr, hml, hlocks, hts, hown, hK, hN, hA⟩ := E0
  have hl : lv_has ls 7 [(0, .ref (ho 0)), (1, .int a1), (2, .int a2)] := hl
  have hin : ∀ w ∈ wsX20, w ∈ wsX2_bestPlace := fun w hw => List.mem_cons_of_mem _ (List.mem_append_left _ (List.mem_append_right _ (hw)))
  have hin1 : ∀ w ∈ wsX10, w ∈ wsX2_bestPlace := fun w hw => List.mem_cons_of_mem _ (List.mem_append_right _ (hw))
  generalize hres : pX2_bestPlace a1 a2 x = res
  have lp_32 : ∀ (n : Nat) (v3 : Int32) (v4 : Int32) (v5 : Int32) (x : TV), 0 ≤ Int32.toInt v5 → Int32.toInt v5 ≤ 12 → 0 ≤ Int32.toInt a1 → Int32.toInt a1 ≤ 99 → 12 - Int32.toInt v5 < (n : Int) → pX2_bestPlace_L32 a1 a2 n v3 v4 v5 x = res → ∀ (H : Heap) (locs : List Loc) (ls : Array Slot), va_P G vwCl (wX cI cC cZ cR ho hh hp x) H → va_D A (wX cI cC cZ cR ho hh hp x) → va_S A s.heap H locs → lv_has ls 7 [(0, .ref (ho 0)), (1, .int a1), (2, .int a2), (3, .int v3), (4, .int v4), (5, .int v5)] → W p l e (rmz 5 113) s m ([.ref (ho 0), .int a1, .int a2] : List Value).toArray below meth c H locs 0 0 (MQ below (QiA G A res.1 (wX cI cC cZ cR ho hh hp res.2)) ([.ref (ho 0), .int a1, .int a2] : List Value).toArray s 0 0 A) (F0 m 32 ls []) := by
    intro n
    induction n with
    | zero =>
      intro v3 v4 v5 x g_0 g_1 g_2 g_3 hm
      exfalso; omega
    | succ n ih =>
      intro v3 v4 v5 x g_0 g_1 g_2 g_3 hm hq H locs ls hP hD hS hl
      refine lv_iload hx hb dX2_bestPlace_32 (lv_at hl 5 rfl) ?_
      refine lv_bipush (v := 12) hx hb dX2_bestPlace_34 (by decide) ?_
      refine lv_icmp_ge (tgt := 74) hx hb dX2_bestPlace_36 (by decide) (fun c_5 => ?_) (fun c_5 => ?_)
      · have t_5 := i_le (z := (12)) (w := (Int32.toInt v5)) c_5 (by decide) rfl
        refine lv_iload_n hx hb dX2_bestPlace_74 rfl (lv_at hl 2 rfl) ?_
        refine lv_if_ne (tgt := 82) hx hb dX2_bestPlace_75 (by decide) (fun c_6 => ?_) (fun c_6 => ?_)
        · refine lv_iload hx hb dX2_bestPlace_82 (lv_at hl 4 rfl) ?_
          exact rt_xb (fun y hh => wX cI cC cZ cR ho hh hp y) hh hx hb hr hlocks hP hD hS rfl ((show pX2_bestPlace_L32 a1 a2 (n + 1) v3 v4 v5 x = (v4, x) by rw [pX2_bestPlace_L32, if_pos c_5, if_neg c_6]).symm.trans hq |>.symm) dX2_bestPlace_84
        · refine lv_iload_n hx hb dX2_bestPlace_78 rfl (lv_at hl 3 rfl) ?_
          refine lv_goto (tgt := 84) hx hb dX2_bestPlace_79 (by decide) ?_
          exact rt_xb (fun y hh => wX cI cC cZ cR ho hh hp y) hh hx hb hr hlocks hP hD hS rfl ((show pX2_bestPlace_L32 a1 a2 (n + 1) v3 v4 v5 x = (v3, x) by rw [pX2_bestPlace_L32, if_pos c_5, if_pos c_6]).symm.trans hq |>.symm) dX2_bestPlace_84
      · have t_5 := i_nle (z := (12)) (w := (Int32.toInt v5)) c_5 (by decide) rfl
        refine lv_aload_n hx hb dX2_bestPlace_39 rfl (lv_at hl 0 rfl) ?_
        refine lv_iload hx hb dX2_bestPlace_40 (lv_at hl 5 rfl) ?_
        refine lv_iload_n hx hb dX2_bestPlace_42 rfl (lv_at hl 1 rfl) ?_
        refine go_i hD hS hA (rn_V (As := [.int v5, .int a1]) (rest := []) ⟨hx, hb, hml, hown, hts⟩ (ctX2_coinsWithOneMoreAt l G cI cC cZ cR ho hh hp x v5 a1 (by exact g_2) (by exact g_3)) (cwV 2 hts gX2_bestPlace_X2_coinsWithOneMoreAt rfl rfl rfl (by decide +kernel) ⟨Nat.le_of_ble_eq_true rfl, Nat.le_of_ble_eq_true rfl⟩) (tx_recv hK hP) hK hP hD hN rfl hl.1 rfl (Nat.le_of_ble_eq_true rfl) dX2_bestPlace_43) (fun H locs hP hD hS => ?_)
        refine lv_istore (lv' := [(6, .int ((pX2_coinsWithOneMoreAt v5 a1 x).1)), (0, .ref (ho 0)), (1, .int a1), (2, .int a2), (3, .int v3), (4, .int v4), (5, .int v5)]) hx hb dX2_bestPlace_46 hl (by decide) rfl (fun ls hl => ?_)
        refine lv_iload_n hx hb dX2_bestPlace_48 rfl (lv_at hl 4 rfl) ?_
        refine lv_bipush (v := (-6)) hx hb dX2_bestPlace_49 (by decide) ?_
        refine lv_icmp_eq (tgt := 61) hx hb dX2_bestPlace_51 (by decide) (fun c_7 => ?_) (fun c_7 => ?_)
        · refine lv_iload hx hb dX2_bestPlace_61 (lv_at hl 6 rfl) ?_
          refine lv_istore_n (lv' := [(3, .int v5), (6, .int ((pX2_coinsWithOneMoreAt v5 a1 x).1)), (0, .ref (ho 0)), (1, .int a1), (2, .int a2), (4, .int v4), (5, .int v5)]) hx hb dX2_bestPlace_63 rfl hl (by decide) rfl (fun ls hl => ?_)
          refine lv_iload hx hb dX2_bestPlace_64 (lv_at hl 1 rfl) ?_
          refine lv_istore (lv' := [(4, .int ((pX2_coinsWithOneMoreAt v5 a1 x).1)), (3, .int v5), (6, .int ((pX2_coinsWithOneMoreAt v5 a1 x).1)), (0, .ref (ho 0)), (1, .int a1), (2, .int a2), (5, .int v5)]) hx hb dX2_bestPlace_66 hl (by decide) rfl (fun ls hl => ?_)
          refine lv_iinc (v := (v5 + 1)) (lv' := [(5, .int (v5 + 1)), (4, .int ((pX2_coinsWithOneMoreAt v5 a1 x).1)), (3, .int v5), (6, .int ((pX2_coinsWithOneMoreAt v5 a1 x).1)), (0, .ref (ho 0)), (1, .int a1), (2, .int a2)]) hx hb dX2_bestPlace_68 hl (k := 6) rfl rfl (by decide) rfl (fun ls hl => ?_)
          have a_68 := i_add1 (a := v5) (by omega) (by omega)
          refine lv_goto (tgt := 32) hx hb dX2_bestPlace_71 (by decide) ?_
          exact ih v5 ((pX2_coinsWithOneMoreAt v5 a1 x).1) (v5 + 1) (pX2_coinsWithOneMoreAt v5 a1 x).2 (by omega) (by omega) (by omega) (by omega) (by omega) ((show pX2_bestPlace_L32 a1 a2 (n + 1) v3 v4 v5 x = pX2_bestPlace_L32 a1 a2 n v5 ((pX2_coinsWithOneMoreAt v5 a1 x).1) (v5 + 1) (pX2_coinsWithOneMoreAt v5 a1 x).2 by rw [pX2_bestPlace_L32, if_neg c_5, if_pos c_7]).symm.trans hq) _ _ _ hP hD hS (lv_sub hl [4, 5, 6, 2, 1, 0] rfl)
        · refine lv_iload hx hb dX2_bestPlace_54 (lv_at hl 0 rfl) ?_
          refine lv_iload hx hb dX2_bestPlace_56 (lv_at hl 5 rfl) ?_
          refine lv_icmp_le (tgt := 68) hx hb dX2_bestPlace_58 (by decide) (fun c_8 => ?_) (fun c_8 => ?_)
          · have t_8 := i_le (z := (Int32.toInt ((pX2_coinsWithOneMoreAt v5 a1 x).1))) (w := (Int32.toInt v4)) c_8 rfl rfl
            refine lv_iinc (v := (v5 + 1)) (lv' := [(5, .int (v5 + 1)), (6, .int ((pX2_coinsWithOneMoreAt v5 a1 x).1)), (0, .ref (ho 0)), (1, .int a1), (2, .int a2), (3, .int v3), (4, .int v4)]) hx hb dX2_bestPlace_68 hl (k := 6) rfl rfl (by decide) rfl (fun ls hl => ?_)
            have a_68 := i_add1 (a := v5) (by omega) (by omega)
            refine lv_goto (tgt := 32) hx hb dX2_bestPlace_71 (by decide) ?_
            exact ih v3 v4 (v5 + 1) (pX2_coinsWithOneMoreAt v5 a1 x).2 (by omega) (by omega) (by omega) (by omega) (by omega) ((show pX2_bestPlace_L32 a1 a2 (n + 1) v3 v4 v5 x = pX2_bestPlace_L32 a1 a2 n v3 v4 (v5 + 1) (pX2_coinsWithOneMoreAt v5 a1 x).2 by rw [pX2_bestPlace_L32, if_neg c_5, if_neg c_7, if_pos c_8]).symm.trans hq) _ _ _ hP hD hS (lv_sub hl [2, 3, 4, 5, 6, 0] rfl)
          · have t_8 := i_nle (z := (Int32.toInt ((pX2_coinsWithOneMoreAt v5 a1 x).1))) (w := (Int32.toInt v4)) c_8 rfl rfl
            refine lv_iload hx hb dX2_bestPlace_61 (lv_at hl 6 rfl) ?_
            refine lv_istore_n (lv' := [(3, .int v5), (6, .int ((pX2_coinsWithOneMoreAt v5 a1 x).1)), (0, .ref (ho 0)), (1, .int a1), (2, .int a2), (4, .int v4), (5, .int v5)]) hx hb dX2_bestPlace_63 rfl hl (by decide) rfl (fun ls hl => ?_)
            refine lv_iload hx hb dX2_bestPlace_64 (lv_at hl 1 rfl) ?_
            refine lv_istore (lv' := [(4, .int ((pX2_coinsWithOneMoreAt v5 a1 x).1)), (3, .int v5), (6, .int ((pX2_coinsWithOneMoreAt v5 a1 x).1)), (0, .ref (ho 0)), (1, .int a1), (2, .int a2), (5, .int v5)]) hx hb dX2_bestPlace_66 hl (by decide) rfl (fun ls hl => ?_)
            refine lv_iinc (v := (v5 + 1)) (lv' := [(5, .int (v5 + 1)), (4, .int ((pX2_coinsWithOneMoreAt v5 a1 x).1)), (3, .int v5), (6, .int ((pX2_coinsWithOneMoreAt v5 a1 x).1)), (0, .ref (ho 0)), (1, .int a1), (2, .int a2)]) hx hb dX2_bestPlace_68 hl (k := 6) rfl rfl (by decide) rfl (fun ls hl => ?_)
            have a_68 := i_add1 (a := v5) (by omega) (by omega)
            refine lv_goto (tgt := 32) hx hb dX2_bestPlace_71 (by decide) ?_
            exact ih v5 ((pX2_coinsWithOneMoreAt v5 a1 x).1) (v5 + 1) (pX2_coinsWithOneMoreAt v5 a1 x).2 (by omega) (by omega) (by omega) (by omega) (by omega) ((show pX2_bestPlace_L32 a1 a2 (n + 1) v3 v4 v5 x = pX2_bestPlace_L32 a1 a2 n v5 ((pX2_coinsWithOneMoreAt v5 a1 x).1) (v5 + 1) (pX2_coinsWithOneMoreAt v5 a1 x).2 by rw [pX2_bestPlace_L32, if_neg c_5, if_neg c_7, if_neg c_8]).symm.trans hq) _ _ _ hP hD hS (lv_sub hl [4, 5, 6, 2, 1, 0] rfl)
  refine lv_iload_n hx hb dX2_bestPlace_0 rfl (lv_at hl 1 rfl) ?_
  refine lv_iconst (v := 1) hx hb dX2_bestPlace_1 (by decide) ?_
  refine lv_icmp_lt (tgt := 20) hx hb dX2_bestPlace_2 (by decide) (fun c_1 => ?_) (fun c_1 => ?_)
  · have t_1 := i_lt (z := (Int32.toInt a1)) (w := (1)) c_1 rfl (by decide)
    refine lv_bipush (v := (-2)) hx hb dX2_bestPlace_20 (by decide) ?_
    exact rt_xb (fun y hh => wX cI cC cZ cR ho hh hp y) hh hx hb hr hlocks hP hD hS rfl ((show pX2_bestPlace a1 a2 x = (((-2) : Int32), x) by rw [pX2_bestPlace, if_pos c_1]).symm.trans hres |>.symm) dX2_bestPlace_22
  · have t_1 := i_nlt (z := (Int32.toInt a1)) (w := (1)) c_1 rfl (by decide)
    refine lv_iload_n hx hb dX2_bestPlace_5 rfl (lv_at hl 1 rfl) ?_
    refine lv_bipush (v := 48) hx hb dX2_bestPlace_6 (by decide) ?_
    refine lv_icmp_gt (tgt := 20) hx hb dX2_bestPlace_8 (by decide) (fun c_2 => ?_) (fun c_2 => ?_)
    · have t_2 := i_lt (z := (48)) (w := (Int32.toInt a1)) c_2 (by decide) rfl
      refine lv_bipush (v := (-2)) hx hb dX2_bestPlace_20 (by decide) ?_
      exact rt_xb (fun y hh => wX cI cC cZ cR ho hh hp y) hh hx hb hr hlocks hP hD hS rfl ((show pX2_bestPlace a1 a2 x = (((-2) : Int32), x) by rw [pX2_bestPlace, if_neg c_1, if_pos c_2]).symm.trans hres |>.symm) dX2_bestPlace_22
    · have t_2 := i_nlt (z := (48)) (w := (Int32.toInt a1)) c_2 (by decide) rfl
      refine lv_iload_n hx hb dX2_bestPlace_11 rfl (lv_at hl 2 rfl) ?_
      refine lv_if_lt (tgt := 20) hx hb dX2_bestPlace_12 (by decide) (fun c_3 => ?_) (fun c_3 => ?_)
      · have t_3 := i_lt (z := (Int32.toInt a2)) (w := (0)) c_3 rfl (by decide)
        refine lv_bipush (v := (-2)) hx hb dX2_bestPlace_20 (by decide) ?_
        exact rt_xb (fun y hh => wX cI cC cZ cR ho hh hp y) hh hx hb hr hlocks hP hD hS rfl ((show pX2_bestPlace a1 a2 x = (((-2) : Int32), x) by rw [pX2_bestPlace, if_neg c_1, if_neg c_2, if_pos c_3]).symm.trans hres |>.symm) dX2_bestPlace_22
      · have t_3 := i_nlt (z := (Int32.toInt a2)) (w := (0)) c_3 rfl (by decide)
        refine lv_iload_n hx hb dX2_bestPlace_15 rfl (lv_at hl 2 rfl) ?_
        refine lv_iconst (v := 1) hx hb dX2_bestPlace_16 (by decide) ?_
        refine lv_icmp_le (tgt := 23) hx hb dX2_bestPlace_17 (by decide) (fun c_4 => ?_) (fun c_4 => ?_)
        · have t_4 := i_le (z := (Int32.toInt a2)) (w := (1)) c_4 rfl (by decide)
          refine lv_bipush (v := (-6)) hx hb dX2_bestPlace_23 (by decide) ?_
          refine lv_istore_n (lv' := [(3, .int (-6)), (0, .ref (ho 0)), (1, .int a1), (2, .int a2)]) hx hb dX2_bestPlace_25 rfl hl (by decide) rfl (fun ls hl => ?_)
          refine lv_iconst (v := 0) hx hb dX2_bestPlace_26 (by decide) ?_
          refine lv_istore (lv' := [(4, .int 0), (3, .int (-6)), (0, .ref (ho 0)), (1, .int a1), (2, .int a2)]) hx hb dX2_bestPlace_27 hl (by decide) rfl (fun ls hl => ?_)
          refine lv_iconst (v := 0) hx hb dX2_bestPlace_29 (by decide) ?_
          refine lv_istore (lv' := [(5, .int 0), (4, .int 0), (3, .int (-6)), (0, .ref (ho 0)), (1, .int a1), (2, .int a2)]) hx hb dX2_bestPlace_30 hl (by decide) rfl (fun ls hl => ?_)
          exact lp_32 13 (-6) 0 0 x (by decide) (by decide) (by omega) (by omega) (by decide) ((show pX2_bestPlace a1 a2 x = pX2_bestPlace_L32 a1 a2 13 (-6) 0 0 x by rw [pX2_bestPlace, if_neg c_1, if_neg c_2, if_neg c_3, if_pos c_4]).symm.trans hres) _ _ _ hP hD hS (lv_sub hl [3, 4, 5, 2, 1, 0] rfl)
        · have t_4 := i_nle (z := (Int32.toInt a2)) (w := (1)) c_4 rfl (by decide)
          refine lv_bipush (v := (-2)) hx hb dX2_bestPlace_20 (by decide) ?_
          exact rt_xb (fun y hh => wX cI cC cZ cR ho hh hp y) hh hx hb hr hlocks hP hD hS rfl ((show pX2_bestPlace a1 a2 x = (((-2) : Int32), x) by rw [pX2_bestPlace, if_neg c_1, if_neg c_2, if_neg c_3, if_neg c_4]).symm.trans hres |>.symm) dX2_bestPlace_22
