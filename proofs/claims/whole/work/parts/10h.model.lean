theorem inc_in {a : Int32} (h : ¬ pX3_within a 0 4 = 0) : vp_in (a + 1) 6 := by
  have h2 := within_in h
  rw [show Int32.toInt 0 = 0 from rfl, show Int32.toInt 4 = 4 from rfl] at h2
  have e := i_add1 (a := a) (by omega) (by omega)
  exact vp_in_iff.mpr ⟨by omega, by omega⟩
theorem kw_in {a : Int32} (h : ¬ pX3_within a 0 4 = 0) : vp_in a 5 := by
  have h2 := within_in h
  rw [show Int32.toInt 0 = 0 from rfl, show Int32.toInt 4 = 4 from rfl] at h2
  exact vp_in_iff.mpr ⟨by omega, by omega⟩
theorem kn_in {a n : Int32} (h : ¬ pX3_within a 0 (n - 1) = 0) (h0 : 0 ≤ Int32.toInt n) (h5 : Int32.toInt n ≤ 5) : vp_in a 5 := by
  have h2 := within_in h
  have e : (n - 1).toInt = n.toInt - 1 := by
    rw [Int32.toInt_sub, show (1 : Int32).toInt = 1 from rfl, Int.bmod_eq_of_le] <;> omega
  rw [show Int32.toInt 0 = 0 from rfl, e] at h2
  exact vp_in_iff.mpr ⟨by omega, by omega⟩
def pX3_of (a1 : Int32) (a2 : Int32) (x : SR) : Int32 := if (pX3_isPiano a1 x) = 0 then (-1)
  else if a2 = 5 then (pX3_keepersAt a1 x)
    else if (pX3_within a2 0 4) = 0 then (-2)
      else (pX3_pianoPart a1 (a2 + 1) x)
set_option maxHeartbeats 4000000 in
set_option maxRecDepth 100000 in
theorem ctX3_of (l : Launch) (G : va_G) (cI cC cZ cR : ClassId) (h : Ad) (x : SR) (a1 : Int32) (a2 : Int32) (q_0 : Mf (x.2 0)) : Ct l yX3_of wsX3_of (rmz 3 63) G (TY cI cC cZ cR) [.ref (h 0), .int a1, .int a2] (wMo cI h x) (Qi G (wMo cI h x) (pX3_of a1 a2 x) (wMo cI h x)) := by
  refine Ct.ofI (cc := cX3_of) (maxL := 3) (ret := (some .int)) (by decide) rfl rfl ?_
  intro p e s m below meth c A ls E0 hP hD hS hl
  obtain ⟨hx, hb, hr, hml, hlocks, hts, hown, hK, hN, hA⟩ := E0
  have hl : lv_has ls 3 [(0, .ref (h 0)), (1, .int a1), (2, .int a2)] := hl
  have hin : ∀ w ∈ wsX30, w ∈ wsX3_of := fun w hw => List.mem_cons_of_mem _ (List.mem_append_right _ (hw))
  generalize hres : pX3_of a1 a2 x = res
  refine lv_aload_n hx hb dX3_of_0 rfl (lv_at hl 0 rfl) ?_
  refine lv_iload_n hx hb dX3_of_1 rfl (lv_at hl 1 rfl) ?_
  refine go_i hD hS hA (rn_V (As := [.int a1]) (rest := []) ⟨hx, hb, hml, hown, hts⟩ (ctX3_isPiano l G cI cC cZ cR h x a1) (cwV 1 hts gX3_of_X3_isPiano rfl rfl rfl (by decide +kernel) ⟨Nat.le_of_ble_eq_true rfl, Nat.le_of_ble_eq_true rfl⟩) (md_recv hK hP rfl) hK hP hD hN rfl hl.1 rfl (Nat.le_of_ble_eq_true rfl) dX3_of_2) (fun H locs hP hD hS => ?_)
  refine lv_if_ne (tgt := 10) hx hb dX3_of_5 (by decide) (fun c_1 => ?_) (fun c_1 => ?_)
  · refine lv_iload_n hx hb dX3_of_10 rfl (lv_at hl 2 rfl) ?_
    refine lv_iconst (v := 5) hx hb dX3_of_11 (by decide) ?_
    refine lv_icmp_ne (tgt := 21) hx hb dX3_of_12 (by decide) (fun c_2 => ?_) (fun c_2 => ?_)
    · refine lv_iload_n hx hb dX3_of_21 rfl (lv_at hl 2 rfl) ?_
      refine lv_iconst (v := 0) hx hb dX3_of_22 (by decide) ?_
      refine lv_iconst (v := 4) hx hb dX3_of_23 (by decide) ?_
      refine gn_i hP hS hA (rn_S (As := [.int a2, .int 0, .int 4]) (rest := []) ⟨hx, hb, hml, hown, hts⟩ (ctX3_within l G cI cC cZ cR a2 0 4) (va_cwS 3 hts gX3_of_X3_within rfl rfl rfl (by decide +kernel) ⟨Nat.le_of_ble_eq_true rfl, Nat.le_of_ble_eq_true rfl⟩) hK nilP (nilD (A := A)) hN rfl hl.1 rfl (Nat.le_of_ble_eq_true rfl) dX3_of_24) (fun H locs hP hS => ?_)
      refine lv_if_ne (tgt := 35) hx hb dX3_of_27 (by decide) (fun c_3 => ?_) (fun c_3 => ?_)
      · refine lv_aload_n hx hb dX3_of_35 rfl (lv_at hl 0 rfl) ?_
        refine lv_iload_n hx hb dX3_of_36 rfl (lv_at hl 1 rfl) ?_
        refine lv_iload_n hx hb dX3_of_37 rfl (lv_at hl 2 rfl) ?_
        refine lv_iconst (v := 1) hx hb dX3_of_38 (by decide) ?_
        refine lv_iadd hx hb dX3_of_39 ?_
        refine go_i hD hS hA (rn_V (As := [.int a1, .int (a2 + 1)]) (rest := []) ⟨hx, hb, hml, hown, hts⟩ (ctX3_pianoPart l G cI cC cZ cR h x a1 (a2 + 1) (by exact isPiano_in (by with_reducible assumption)) (by exact inc_in (by with_reducible assumption))) (cwV 2 hts gX3_of_X3_pianoPart rfl rfl rfl (by decide +kernel) ⟨Nat.le_of_ble_eq_true rfl, Nat.le_of_ble_eq_true rfl⟩) (md_recv hK hP rfl) hK hP hD hN rfl hl.1 rfl (Nat.le_of_ble_eq_true rfl) dX3_of_40) (fun H locs hP hD hS => ?_)
        exact rt_r hx hb hr hlocks hP hD hS rfl ((show pX3_of a1 a2 x = (pX3_pianoPart a1 (a2 + 1) x) by rw [pX3_of, if_neg c_1, if_neg c_2, if_neg c_3]).symm.trans hres |>.symm) dX3_of_43
      · refine lv_bipush (v := (-2)) hx hb dX3_of_30 (by decide) ?_
        refine lv_goto (tgt := 43) hx hb dX3_of_32 (by decide) ?_
        exact rt_r hx hb hr hlocks hP hD hS rfl ((show pX3_of a1 a2 x = (-2) by rw [pX3_of, if_neg c_1, if_neg c_2, if_pos c_3]).symm.trans hres |>.symm) dX3_of_43
    · refine lv_aload_n hx hb dX3_of_15 rfl (lv_at hl 0 rfl) ?_
      refine lv_iload_n hx hb dX3_of_16 rfl (lv_at hl 1 rfl) ?_
      refine go_i hD hS hA (rn_V (As := [.int a1]) (rest := []) ⟨hx, hb, hml, hown, hts⟩ (ctX3_keepersAt l G cI cC cZ cR h x a1 (by exact q_0.1.2.2.2)) (cwV 1 hts gX3_of_X3_keepersAt rfl rfl rfl (by decide +kernel) ⟨Nat.le_of_ble_eq_true rfl, Nat.le_of_ble_eq_true rfl⟩) (md_recv hK hP rfl) hK hP hD hN rfl hl.1 rfl (Nat.le_of_ble_eq_true rfl) dX3_of_17) (fun H locs hP hD hS => ?_)
      exact rt_r hx hb hr hlocks hP hD hS rfl ((show pX3_of a1 a2 x = (pX3_keepersAt a1 x) by rw [pX3_of, if_neg c_1, if_pos c_2]).symm.trans hres |>.symm) dX3_of_20
  · refine lv_iconst (v := (-1)) hx hb dX3_of_8 (by decide) ?_
    exact rt_r hx hb hr hlocks hP hD hS rfl ((show pX3_of a1 a2 x = (-1) by rw [pX3_of, if_pos c_1]).symm.trans hres |>.symm) dX3_of_9
def pX3_ofKeeper (a1 : Int32) (a2 : Int32) (x : SR) : Int32 := if (pX3_within a1 0 ((x.2 0 (ix 11)) - 1)) = 0 then (-1)
  else if (pX3_within a2 0 4) = 0 then (-2)
    else (pX3_keeperPart a1 a2 x)
set_option maxHeartbeats 4000000 in
set_option maxRecDepth 100000 in
theorem ctX3_ofKeeper (l : Launch) (G : va_G) (cI cC cZ cR : ClassId) (h : Ad) (x : SR) (a1 : Int32) (a2 : Int32) (q_0 : Mf (x.2 0)) : Ct l yX3_ofKeeper wsX3_ofKeeper (rmz 1 22) G (TY cI cC cZ cR) [.ref (h 0), .int a1, .int a2] (wMo cI h x) (Qi G (wMo cI h x) (pX3_ofKeeper a1 a2 x) (wMo cI h x)) := by
  refine Ct.ofI (cc := cX3_ofKeeper) (maxL := 3) (ret := (some .int)) (by decide) rfl rfl ?_
  intro p e s m below meth c A ls E0 hP hD hS hl
  obtain ⟨hx, hb, hr, hml, hlocks, hts, hown, hK, hN, hA⟩ := E0
  have hl : lv_has ls 3 [(0, .ref (h 0)), (1, .int a1), (2, .int a2)] := hl
  have hin : ∀ w ∈ wsX30, w ∈ wsX3_ofKeeper := fun w hw => List.mem_cons_of_mem _ (List.mem_append_right _ (hw))
  have k_7 : (Cond.fieldLink RX3 7 RX3 (TX3 0).2.1 (TX3 0).2.2.1).before ([.ref (h 0), .int a1, .int a2] : List Value).toArray s = true := hts _ (List.mem_of_getElem? (i := 1) rfl)
  generalize hres : pX3_ofKeeper a1 a2 x = res
  refine lv_iload_n hx hb dX3_ofKeeper_0 rfl (lv_at hl 1 rfl) ?_
  refine lv_iconst (v := 0) hx hb dX3_ofKeeper_1 (by decide) ?_
  refine lv_aload_n hx hb dX3_ofKeeper_2 rfl (lv_at hl 0 rfl) ?_
  refine md_get (ci := 3) (C := RX3) (T := TX3) (N := 13) (v := .ref (h 1)) hx hb hts hin hown hK hP rfl 0 (by decide) k_7 rfl rfl rfl dX3_ofKeeper_3 ?_
  refine lv_bipush (v := 11) hx hb dX3_ofKeeper_6 (by decide) ?_
  refine md_ia (v := x.2 0 (ix 11)) hx hb hK hP 0 0 rfl rfl (vp_in_iff.mpr ⟨by decide, by decide⟩) rfl dX3_ofKeeper_8 ?_
  refine lv_iconst (v := 1) hx hb dX3_ofKeeper_9 (by decide) ?_
  refine lv_isub hx hb dX3_ofKeeper_10 ?_
  refine gn_i hP hS hA (rn_S (As := [.int a1, .int 0, .int ((x.2 0 (ix 11)) - 1)]) (rest := []) ⟨hx, hb, hml, hown, hts⟩ (ctX3_within l G cI cC cZ cR a1 0 ((x.2 0 (ix 11)) - 1)) (va_cwS 3 hts gX3_ofKeeper_X3_within rfl rfl rfl (by decide +kernel) ⟨Nat.le_of_ble_eq_true rfl, Nat.le_of_ble_eq_true rfl⟩) hK nilP (nilD (A := A)) hN rfl hl.1 rfl (Nat.le_of_ble_eq_true rfl) dX3_ofKeeper_11) (fun H locs hP hS => ?_)
  refine lv_if_ne (tgt := 19) hx hb dX3_ofKeeper_14 (by decide) (fun c_1 => ?_) (fun c_1 => ?_)
  · refine lv_iload_n hx hb dX3_ofKeeper_19 rfl (lv_at hl 2 rfl) ?_
    refine lv_iconst (v := 0) hx hb dX3_ofKeeper_20 (by decide) ?_
    refine lv_iconst (v := 4) hx hb dX3_ofKeeper_21 (by decide) ?_
    refine gn_i hP hS hA (rn_S (As := [.int a2, .int 0, .int 4]) (rest := []) ⟨hx, hb, hml, hown, hts⟩ (ctX3_within l G cI cC cZ cR a2 0 4) (va_cwS 3 hts gX3_ofKeeper_X3_within rfl rfl rfl (by decide +kernel) ⟨Nat.le_of_ble_eq_true rfl, Nat.le_of_ble_eq_true rfl⟩) hK nilP (nilD (A := A)) hN rfl hl.1 rfl (Nat.le_of_ble_eq_true rfl) dX3_ofKeeper_22) (fun H locs hP hS => ?_)
    refine lv_if_eq (tgt := 37) hx hb dX3_ofKeeper_25 (by decide) (fun c_2 => ?_) (fun c_2 => ?_)
    · refine lv_bipush (v := (-2)) hx hb dX3_ofKeeper_37 (by decide) ?_
      exact rt_r hx hb hr hlocks hP hD hS rfl ((show pX3_ofKeeper a1 a2 x = (-2) by rw [pX3_ofKeeper, if_neg c_1, if_pos c_2]).symm.trans hres |>.symm) dX3_ofKeeper_39
    · refine lv_aload_n hx hb dX3_ofKeeper_28 rfl (lv_at hl 0 rfl) ?_
      refine lv_iload_n hx hb dX3_ofKeeper_29 rfl (lv_at hl 1 rfl) ?_
      refine lv_iload_n hx hb dX3_ofKeeper_30 rfl (lv_at hl 2 rfl) ?_
      refine go_i hD hS hA (rn_V (As := [.int a1, .int a2]) (rest := []) ⟨hx, hb, hml, hown, hts⟩ (ctX3_keeperPart l G cI cC cZ cR h x a1 a2 (by exact kn_in (by with_reducible assumption) q_0.1.2.2.1 q_0.1.2.2.2) (by exact kw_in (by with_reducible assumption))) (cwV 2 hts gX3_ofKeeper_X3_keeperPart rfl rfl rfl (by decide +kernel) ⟨Nat.le_of_ble_eq_true rfl, Nat.le_of_ble_eq_true rfl⟩) (md_recv hK hP rfl) hK hP hD hN rfl hl.1 rfl (Nat.le_of_ble_eq_true rfl) dX3_ofKeeper_31) (fun H locs hP hD hS => ?_)
      refine lv_goto (tgt := 39) hx hb dX3_ofKeeper_34 (by decide) ?_
      exact rt_r hx hb hr hlocks hP hD hS rfl ((show pX3_ofKeeper a1 a2 x = (pX3_keeperPart a1 a2 x) by rw [pX3_ofKeeper, if_neg c_1, if_neg c_2]).symm.trans hres |>.symm) dX3_ofKeeper_39
  · refine lv_iconst (v := (-1)) hx hb dX3_ofKeeper_17 (by decide) ?_
    exact rt_r hx hb hr hlocks hP hD hS rfl ((show pX3_ofKeeper a1 a2 x = (-1) by rw [pX3_ofKeeper, if_pos c_1]).symm.trans hres |>.symm) dX3_ofKeeper_18
def pX3_pianosWith_L4 (a1 : Int32) : Nat → Int32 → Int32 → SR → Int32
  | 0, v2, v3, x => 0
  | n + 1, v2, v3, x => if 12 ≤ v3 then v2
    else if (pX3_isPiano v3 x) = 0 then pX3_pianosWith_L4 a1 n (v2 ||| 0) (v3 + 1) x
      else if a1 = 0 then pX3_pianosWith_L4 a1 n (v2 ||| (1 <<< (v3 &&& 31))) (v3 + 1) x
        else if (pX3_pianoPart v3 3 x) = a1 then pX3_pianosWith_L4 a1 n (v2 ||| (1 <<< (v3 &&& 31))) (v3 + 1) x
          else pX3_pianosWith_L4 a1 n (v2 ||| 0) (v3 + 1) x
def pX3_pianosWith (a1 : Int32) (x : SR) : Int32 := pX3_pianosWith_L4 a1 13 0 0 x
set_option maxHeartbeats 4000000 in
set_option maxRecDepth 100000 in
theorem ctX3_pianosWith (l : Launch) (G : va_G) (cI cC cZ cR : ClassId) (h : Ad) (x : SR) (a1 : Int32) : Ct l yX3_pianosWith wsX3_pianosWith (rmz 3 63) G (TY cI cC cZ cR) [.ref (h 0), .int a1] (wMo cI h x) (Qi G (wMo cI h x) (pX3_pianosWith a1 x) (wMo cI h x)) := by
  refine Ct.ofI (cc := cX3_pianosWith) (maxL := 4) (ret := (some .int)) (by decide) rfl rfl ?_
  intro p e s m below meth c A ls E0 hP hD hS hl
  obtain ⟨hx, hb, hr, hml, hlocks, hts, hown, hK, hN, hA⟩ := E0
  have hl : lv_has ls 4 [(0, .ref (h 0)), (1, .int a1)] := hl
  have hin : ∀ w ∈ wsX30, w ∈ wsX3_pianosWith := fun w hw => List.mem_cons_of_mem _ (List.mem_append_right _ (hw))
  generalize hres : pX3_pianosWith a1 x = res
  have lp_4 : ∀ (n : Nat) (v2 : Int32) (v3 : Int32), 0 ≤ Int32.toInt v3 → Int32.toInt v3 ≤ 12 → 12 - Int32.toInt v3 < (n : Int) → pX3_pianosWith_L4 a1 n v2 v3 x = res → ∀ (H : Heap) (locs : List Loc) (ls : Array Slot), va_P G vwCl (wMo cI h x) H → va_D A (wMo cI h x) → va_S A s.heap H locs → lv_has ls 4 [(0, .ref (h 0)), (1, .int a1), (2, .int v2), (3, .int v3)] → W p l e (rmz 3 63) s m ([.ref (h 0), .int a1] : List Value).toArray below meth c H locs 0 0 (MQ below (QiA G A res (wMo cI h x)) ([.ref (h 0), .int a1] : List Value).toArray s 0 0 A) (F0 m 4 ls []) := by
    intro n
    induction n with
    | zero =>
      intro v2 v3 g_0 g_1 hm
      exfalso; omega
    | succ n ih =>
      intro v2 v3 g_0 g_1 hm hq H locs ls hP hD hS hl
      refine lv_iload_n hx hb dX3_pianosWith_4 rfl (lv_at hl 3 rfl) ?_
      refine lv_bipush (v := 12) hx hb dX3_pianosWith_5 (by decide) ?_
      refine lv_icmp_ge (tgt := 48) hx hb dX3_pianosWith_7 (by decide) (fun c_1 => ?_) (fun c_1 => ?_)
      · have t_1 := i_le (z := (12)) (w := (Int32.toInt v3)) c_1 (by decide) rfl
        refine lv_iload_n hx hb dX3_pianosWith_48 rfl (lv_at hl 2 rfl) ?_
        exact rt_r hx hb hr hlocks hP hD hS rfl ((show pX3_pianosWith_L4 a1 (n + 1) v2 v3 x = v2 by rw [pX3_pianosWith_L4, if_pos c_1]).symm.trans hq |>.symm) dX3_pianosWith_49
      · have t_1 := i_nle (z := (12)) (w := (Int32.toInt v3)) c_1 (by decide) rfl
        refine lv_iload_n hx hb dX3_pianosWith_10 rfl (lv_at hl 2 rfl) ?_
        refine lv_aload_n hx hb dX3_pianosWith_11 rfl (lv_at hl 0 rfl) ?_
        refine lv_iload_n hx hb dX3_pianosWith_12 rfl (lv_at hl 3 rfl) ?_
        refine go_i hD hS hA (rn_V (As := [.int v3]) (rest := [.int v2]) ⟨hx, hb, hml, hown, hts⟩ (ctX3_isPiano l G cI cC cZ cR h x v3) (cwV 1 hts gX3_pianosWith_X3_isPiano rfl rfl rfl (by decide +kernel) ⟨Nat.le_of_ble_eq_true rfl, Nat.le_of_ble_eq_true rfl⟩) (md_recv hK hP rfl) hK hP hD hN rfl hl.1 rfl (Nat.le_of_ble_eq_true rfl) dX3_pianosWith_13) (fun H locs hP hD hS => ?_)
        refine lv_if_eq (tgt := 39) hx hb dX3_pianosWith_16 (by decide) (fun c_2 => ?_) (fun c_2 => ?_)
        · refine lv_iconst (v := 0) hx hb dX3_pianosWith_39 (by decide) ?_
          refine lv_ior hx hb dX3_pianosWith_40 ?_
          refine lv_istore_n (lv' := [(2, .int (v2 ||| 0)), (0, .ref (h 0)), (1, .int a1), (3, .int v3)]) hx hb dX3_pianosWith_41 rfl hl (by decide) rfl (fun ls hl => ?_)
          refine lv_iinc (v := (v3 + 1)) (lv' := [(3, .int (v3 + 1)), (2, .int (v2 ||| 0)), (0, .ref (h 0)), (1, .int a1)]) hx hb dX3_pianosWith_42 hl (k := 3) rfl rfl (by decide) rfl (fun ls hl => ?_)
          have a_42 := i_add1 (a := v3) (by omega) (by omega)
          refine lv_goto (tgt := 4) hx hb dX3_pianosWith_45 (by decide) ?_
          exact ih (v2 ||| 0) (v3 + 1) (by omega) (by omega) (by omega) ((show pX3_pianosWith_L4 a1 (n + 1) v2 v3 x = pX3_pianosWith_L4 a1 n (v2 ||| 0) (v3 + 1) x by rw [pX3_pianosWith_L4, if_neg c_1, if_pos c_2]).symm.trans hq) _ _ _ hP hD hS (lv_sub hl [2, 3, 1, 0] rfl)
        · refine lv_iload_n hx hb dX3_pianosWith_19 rfl (lv_at hl 1 rfl) ?_
          refine lv_if_eq (tgt := 33) hx hb dX3_pianosWith_20 (by decide) (fun c_3 => ?_) (fun c_3 => ?_)
          · refine lv_iconst (v := 1) hx hb dX3_pianosWith_33 (by decide) ?_
            refine lv_iload_n hx hb dX3_pianosWith_34 rfl (lv_at hl 3 rfl) ?_
            refine lv_ishl hx hb dX3_pianosWith_35 ?_
            refine lv_goto (tgt := 40) hx hb dX3_pianosWith_36 (by decide) ?_
            refine lv_ior hx hb dX3_pianosWith_40 ?_
            refine lv_istore_n (lv' := [(2, .int (v2 ||| (1 <<< (v3 &&& 31)))), (0, .ref (h 0)), (1, .int a1), (3, .int v3)]) hx hb dX3_pianosWith_41 rfl hl (by decide) rfl (fun ls hl => ?_)
            refine lv_iinc (v := (v3 + 1)) (lv' := [(3, .int (v3 + 1)), (2, .int (v2 ||| (1 <<< (v3 &&& 31)))), (0, .ref (h 0)), (1, .int a1)]) hx hb dX3_pianosWith_42 hl (k := 3) rfl rfl (by decide) rfl (fun ls hl => ?_)
            have a_42 := i_add1 (a := v3) (by omega) (by omega)
            refine lv_goto (tgt := 4) hx hb dX3_pianosWith_45 (by decide) ?_
            exact ih (v2 ||| (1 <<< (v3 &&& 31))) (v3 + 1) (by omega) (by omega) (by omega) ((show pX3_pianosWith_L4 a1 (n + 1) v2 v3 x = pX3_pianosWith_L4 a1 n (v2 ||| (1 <<< (v3 &&& 31))) (v3 + 1) x by rw [pX3_pianosWith_L4, if_neg c_1, if_neg c_2, if_pos c_3]).symm.trans hq) _ _ _ hP hD hS (lv_sub hl [2, 3, 1, 0] rfl)
          · refine lv_aload_n hx hb dX3_pianosWith_23 rfl (lv_at hl 0 rfl) ?_
            refine lv_iload_n hx hb dX3_pianosWith_24 rfl (lv_at hl 3 rfl) ?_
            refine lv_iconst (v := 3) hx hb dX3_pianosWith_25 (by decide) ?_
            refine go_i hD hS hA (rn_V (As := [.int v3, .int 3]) (rest := [.int v2]) ⟨hx, hb, hml, hown, hts⟩ (ctX3_pianoPart l G cI cC cZ cR h x v3 3 (by first | with_reducible assumption | exact vp_in_iff.mpr ⟨by decide, by decide⟩ | exact vp_in_iff.mpr ⟨by omega, by omega⟩ | exact isPlace_in (by with_reducible assumption) | exact has_in (by with_reducible assumption) | exact isPlace3_in (by with_reducible assumption) | exact isPiano_in (by with_reducible assumption) | exact isOpen_in (by with_reducible assumption) | exact nearest3_in (by with_reducible assumption)) (by first | with_reducible assumption | exact vp_in_iff.mpr ⟨by decide, by decide⟩ | exact vp_in_iff.mpr ⟨by omega, by omega⟩ | exact isPlace_in (by with_reducible assumption) | exact has_in (by with_reducible assumption) | exact isPlace3_in (by with_reducible assumption) | exact isPiano_in (by with_reducible assumption) | exact isOpen_in (by with_reducible assumption) | exact nearest3_in (by with_reducible assumption))) (cwV 2 hts gX3_pianosWith_X3_pianoPart rfl rfl rfl (by decide +kernel) ⟨Nat.le_of_ble_eq_true rfl, Nat.le_of_ble_eq_true rfl⟩) (md_recv hK hP rfl) hK hP hD hN rfl hl.1 rfl (Nat.le_of_ble_eq_true rfl) dX3_pianosWith_26) (fun H locs hP hD hS => ?_)
            refine lv_iload_n hx hb dX3_pianosWith_29 rfl (lv_at hl 1 rfl) ?_
            refine lv_icmp_ne (tgt := 39) hx hb dX3_pianosWith_30 (by decide) (fun c_4 => ?_) (fun c_4 => ?_)
            · refine lv_iconst (v := 0) hx hb dX3_pianosWith_39 (by decide) ?_
              refine lv_ior hx hb dX3_pianosWith_40 ?_
              refine lv_istore_n (lv' := [(2, .int (v2 ||| 0)), (0, .ref (h 0)), (1, .int a1), (3, .int v3)]) hx hb dX3_pianosWith_41 rfl hl (by decide) rfl (fun ls hl => ?_)
              refine lv_iinc (v := (v3 + 1)) (lv' := [(3, .int (v3 + 1)), (2, .int (v2 ||| 0)), (0, .ref (h 0)), (1, .int a1)]) hx hb dX3_pianosWith_42 hl (k := 3) rfl rfl (by decide) rfl (fun ls hl => ?_)
              have a_42 := i_add1 (a := v3) (by omega) (by omega)
              refine lv_goto (tgt := 4) hx hb dX3_pianosWith_45 (by decide) ?_
              exact ih (v2 ||| 0) (v3 + 1) (by omega) (by omega) (by omega) ((show pX3_pianosWith_L4 a1 (n + 1) v2 v3 x = pX3_pianosWith_L4 a1 n (v2 ||| 0) (v3 + 1) x by rw [pX3_pianosWith_L4, if_neg c_1, if_neg c_2, if_neg c_3, if_neg c_4]).symm.trans hq) _ _ _ hP hD hS (lv_sub hl [2, 3, 1, 0] rfl)
            · refine lv_iconst (v := 1) hx hb dX3_pianosWith_33 (by decide) ?_
              refine lv_iload_n hx hb dX3_pianosWith_34 rfl (lv_at hl 3 rfl) ?_
              refine lv_ishl hx hb dX3_pianosWith_35 ?_
              refine lv_goto (tgt := 40) hx hb dX3_pianosWith_36 (by decide) ?_
              refine lv_ior hx hb dX3_pianosWith_40 ?_
              refine lv_istore_n (lv' := [(2, .int (v2 ||| (1 <<< (v3 &&& 31)))), (0, .ref (h 0)), (1, .int a1), (3, .int v3)]) hx hb dX3_pianosWith_41 rfl hl (by decide) rfl (fun ls hl => ?_)
              refine lv_iinc (v := (v3 + 1)) (lv' := [(3, .int (v3 + 1)), (2, .int (v2 ||| (1 <<< (v3 &&& 31)))), (0, .ref (h 0)), (1, .int a1)]) hx hb dX3_pianosWith_42 hl (k := 3) rfl rfl (by decide) rfl (fun ls hl => ?_)
              have a_42 := i_add1 (a := v3) (by omega) (by omega)
              refine lv_goto (tgt := 4) hx hb dX3_pianosWith_45 (by decide) ?_
              exact ih (v2 ||| (1 <<< (v3 &&& 31))) (v3 + 1) (by omega) (by omega) (by omega) ((show pX3_pianosWith_L4 a1 (n + 1) v2 v3 x = pX3_pianosWith_L4 a1 n (v2 ||| (1 <<< (v3 &&& 31))) (v3 + 1) x by rw [pX3_pianosWith_L4, if_neg c_1, if_neg c_2, if_neg c_3, if_pos c_4]).symm.trans hq) _ _ _ hP hD hS (lv_sub hl [2, 3, 1, 0] rfl)
  refine lv_iconst (v := 0) hx hb dX3_pianosWith_0 (by decide) ?_
  refine lv_istore_n (lv' := [(2, .int 0), (0, .ref (h 0)), (1, .int a1)]) hx hb dX3_pianosWith_1 rfl hl (by decide) rfl (fun ls hl => ?_)
  refine lv_iconst (v := 0) hx hb dX3_pianosWith_2 (by decide) ?_
  refine lv_istore_n (lv' := [(3, .int 0), (2, .int 0), (0, .ref (h 0)), (1, .int a1)]) hx hb dX3_pianosWith_3 rfl hl (by decide) rfl (fun ls hl => ?_)
  exact lp_4 13 0 0 (by first | decide | omega | assumption) (by first | decide | omega | assumption) (by decide) ((show pX3_pianosWith a1 x = pX3_pianosWith_L4 a1 13 0 0 x by rw [pX3_pianosWith]).symm.trans hres) _ _ _ hP hD hS (lv_sub hl [2, 3, 1, 0] rfl)
def pX3_worth (a1 : Int32) (x : SR) : Int32 := ((pX3_pianoPart a1 1 x) - (pX3_pianoPart a1 2 x))
set_option maxHeartbeats 4000000 in
set_option maxRecDepth 100000 in
theorem ctX3_worth (l : Launch) (G : va_G) (cI cC cZ cR : ClassId) (h : Ad) (x : SR) (a1 : Int32) (q_0 : vp_in a1 12) : Ct l yX3_worth wsX3_worth (rmz 1 22) G (TY cI cC cZ cR) [.ref (h 0), .int a1] (wMo cI h x) (Qi G (wMo cI h x) (pX3_worth a1 x) (wMo cI h x)) := by
  refine Ct.ofI (cc := cX3_worth) (maxL := 2) (ret := (some .int)) (by decide) rfl rfl ?_
  intro p e s m below meth c A ls E0 hP hD hS hl
  obtain ⟨hx, hb, hr, hml, hlocks, hts, hown, hK, hN, hA⟩ := E0
  have hl : lv_has ls 2 [(0, .ref (h 0)), (1, .int a1)] := hl
  have hin : ∀ w ∈ wsX30, w ∈ wsX3_worth := fun w hw => List.mem_cons_of_mem _ (List.mem_append_right _ (hw))
  generalize hres : pX3_worth a1 x = res
  refine lv_aload_n hx hb dX3_worth_0 rfl (lv_at hl 0 rfl) ?_
  refine lv_iload_n hx hb dX3_worth_1 rfl (lv_at hl 1 rfl) ?_
  refine lv_iconst (v := 1) hx hb dX3_worth_2 (by decide) ?_
  refine go_i hD hS hA (rn_V (As := [.int a1, .int 1]) (rest := []) ⟨hx, hb, hml, hown, hts⟩ (ctX3_pianoPart l G cI cC cZ cR h x a1 1 (by first | with_reducible assumption | exact vp_in_iff.mpr ⟨by decide, by decide⟩ | exact vp_in_iff.mpr ⟨by omega, by omega⟩ | exact isPlace_in (by with_reducible assumption) | exact has_in (by with_reducible assumption) | exact isPlace3_in (by with_reducible assumption) | exact isPiano_in (by with_reducible assumption) | exact isOpen_in (by with_reducible assumption) | exact nearest3_in (by with_reducible assumption)) (by first | with_reducible assumption | exact vp_in_iff.mpr ⟨by decide, by decide⟩ | exact vp_in_iff.mpr ⟨by omega, by omega⟩ | exact isPlace_in (by with_reducible assumption) | exact has_in (by with_reducible assumption) | exact isPlace3_in (by with_reducible assumption) | exact isPiano_in (by with_reducible assumption) | exact isOpen_in (by with_reducible assumption) | exact nearest3_in (by with_reducible assumption))) (cwV 2 hts gX3_worth_X3_pianoPart rfl rfl rfl (by decide +kernel) ⟨Nat.le_of_ble_eq_true rfl, Nat.le_of_ble_eq_true rfl⟩) (md_recv hK hP rfl) hK hP hD hN rfl hl.1 rfl (Nat.le_of_ble_eq_true rfl) dX3_worth_3) (fun H locs hP hD hS => ?_)
  refine lv_aload_n hx hb dX3_worth_6 rfl (lv_at hl 0 rfl) ?_
  refine lv_iload_n hx hb dX3_worth_7 rfl (lv_at hl 1 rfl) ?_
  refine lv_iconst (v := 2) hx hb dX3_worth_8 (by decide) ?_
  refine go_i hD hS hA (rn_V (As := [.int a1, .int 2]) (rest := [.int (pX3_pianoPart a1 1 x)]) ⟨hx, hb, hml, hown, hts⟩ (ctX3_pianoPart l G cI cC cZ cR h x a1 2 (by first | with_reducible assumption | exact vp_in_iff.mpr ⟨by decide, by decide⟩ | exact vp_in_iff.mpr ⟨by omega, by omega⟩ | exact isPlace_in (by with_reducible assumption) | exact has_in (by with_reducible assumption) | exact isPlace3_in (by with_reducible assumption) | exact isPiano_in (by with_reducible assumption) | exact isOpen_in (by with_reducible assumption) | exact nearest3_in (by with_reducible assumption)) (by first | with_reducible assumption | exact vp_in_iff.mpr ⟨by decide, by decide⟩ | exact vp_in_iff.mpr ⟨by omega, by omega⟩ | exact isPlace_in (by with_reducible assumption) | exact has_in (by with_reducible assumption) | exact isPlace3_in (by with_reducible assumption) | exact isPiano_in (by with_reducible assumption) | exact isOpen_in (by with_reducible assumption) | exact nearest3_in (by with_reducible assumption))) (cwV 2 hts gX3_worth_X3_pianoPart rfl rfl rfl (by decide +kernel) ⟨Nat.le_of_ble_eq_true rfl, Nat.le_of_ble_eq_true rfl⟩) (md_recv hK hP rfl) hK hP hD hN rfl hl.1 rfl (Nat.le_of_ble_eq_true rfl) dX3_worth_9) (fun H locs hP hD hS => ?_)
  refine lv_isub hx hb dX3_worth_12 ?_
  exact rt_r hx hb hr hlocks hP hD hS rfl ((show pX3_worth a1 x = ((pX3_pianoPart a1 1 x) - (pX3_pianoPart a1 2 x)) by rw [pX3_worth]).symm.trans hres |>.symm) dX3_worth_13
def pX3_worst_L5 : Nat → Int32 → Int32 → SR → Int32
  | 0, v1, v2, x => 0
  | n + 1, v1, v2, x => if 12 ≤ v2 then v1
    else if (pX3_isPiano v2 x) = 0 then pX3_worst_L5 n v1 (v2 + 1) x
      else if v1 = (-6) then pX3_worst_L5 n v2 (v2 + 1) x
        else if (pX3_worth v1 x) ≤ (pX3_worth v2 x) then pX3_worst_L5 n v1 (v2 + 1) x
          else pX3_worst_L5 n v2 (v2 + 1) x
def pX3_worst (x : SR) : Int32 := pX3_worst_L5 13 (-6) 0 x
set_option maxHeartbeats 4000000 in
set_option maxRecDepth 100000 in
theorem ctX3_worst (l : Launch) (G : va_G) (cI cC cZ cR : ClassId) (h : Ad) (x : SR) : Ct l yX3_worst wsX3_worst (rmz 3 63) G (TY cI cC cZ cR) [.ref (h 0)] (wMo cI h x) (Qi G (wMo cI h x) (pX3_worst x) (wMo cI h x)) := by
  refine Ct.ofI (cc := cX3_worst) (maxL := 3) (ret := (some .int)) (by decide) rfl rfl ?_
  intro p e s m below meth c A ls E0 hP hD hS hl
  obtain ⟨hx, hb, hr, hml, hlocks, hts, hown, hK, hN, hA⟩ := E0
  have hl : lv_has ls 3 [(0, .ref (h 0))] := hl
  have hin : ∀ w ∈ wsX30, w ∈ wsX3_worst := fun w hw => List.mem_cons_of_mem _ (List.mem_append_right _ (hw))
  generalize hres : pX3_worst x = res
  have lp_5 : ∀ (n : Nat) (v1 : Int32) (v2 : Int32), 0 ≤ Int32.toInt v2 → Int32.toInt v2 ≤ 12 → v1 = -6 ∨ vp_in v1 12 → 12 - Int32.toInt v2 < (n : Int) → pX3_worst_L5 n v1 v2 x = res → ∀ (H : Heap) (locs : List Loc) (ls : Array Slot), va_P G vwCl (wMo cI h x) H → va_D A (wMo cI h x) → va_S A s.heap H locs → lv_has ls 3 [(0, .ref (h 0)), (1, .int v1), (2, .int v2)] → W p l e (rmz 3 63) s m ([.ref (h 0)] : List Value).toArray below meth c H locs 0 0 (MQ below (QiA G A res (wMo cI h x)) ([.ref (h 0)] : List Value).toArray s 0 0 A) (F0 m 5 ls []) := by
    intro n
    induction n with
    | zero =>
      intro v1 v2 g_0 g_1 g_2 hm
      exfalso; omega
    | succ n ih =>
      intro v1 v2 g_0 g_1 g_2 hm hq H locs ls hP hD hS hl
      refine lv_iload_n hx hb dX3_worst_5 rfl (lv_at hl 2 rfl) ?_
      refine lv_bipush (v := 12) hx hb dX3_worst_6 (by decide) ?_
      refine lv_icmp_ge (tgt := 50) hx hb dX3_worst_8 (by decide) (fun c_1 => ?_) (fun c_1 => ?_)
      · have t_1 := i_le (z := (12)) (w := (Int32.toInt v2)) c_1 (by decide) rfl
        refine lv_iload_n hx hb dX3_worst_50 rfl (lv_at hl 1 rfl) ?_
        exact rt_r hx hb hr hlocks hP hD hS rfl ((show pX3_worst_L5 (n + 1) v1 v2 x = v1 by rw [pX3_worst_L5, if_pos c_1]).symm.trans hq |>.symm) dX3_worst_51
      · have t_1 := i_nle (z := (12)) (w := (Int32.toInt v2)) c_1 (by decide) rfl
        refine lv_aload_n hx hb dX3_worst_11 rfl (lv_at hl 0 rfl) ?_
        refine lv_iload_n hx hb dX3_worst_12 rfl (lv_at hl 2 rfl) ?_
        refine go_i hD hS hA (rn_V (As := [.int v2]) (rest := []) ⟨hx, hb, hml, hown, hts⟩ (ctX3_isPiano l G cI cC cZ cR h x v2) (cwV 1 hts gX3_worst_X3_isPiano rfl rfl rfl (by decide +kernel) ⟨Nat.le_of_ble_eq_true rfl, Nat.le_of_ble_eq_true rfl⟩) (md_recv hK hP rfl) hK hP hD hN rfl hl.1 rfl (Nat.le_of_ble_eq_true rfl) dX3_worst_13) (fun H locs hP hD hS => ?_)
        refine lv_if_eq (tgt := 42) hx hb dX3_worst_16 (by decide) (fun c_2 => ?_) (fun c_2 => ?_)
        · refine lv_iload_n hx hb dX3_worst_42 rfl (lv_at hl 1 rfl) ?_
          refine lv_istore_n (lv' := [(1, .int v1), (0, .ref (h 0)), (2, .int v2)]) hx hb dX3_worst_43 rfl hl (by decide) rfl (fun ls hl => ?_)
          refine lv_iinc (v := (v2 + 1)) (lv' := [(2, .int (v2 + 1)), (1, .int v1), (0, .ref (h 0))]) hx hb dX3_worst_44 hl (k := 2) rfl rfl (by decide) rfl (fun ls hl => ?_)
          have a_44 := i_add1 (a := v2) (by omega) (by omega)
          refine lv_goto (tgt := 5) hx hb dX3_worst_47 (by decide) ?_
          exact ih v1 (v2 + 1) (by omega) (by omega) (by first | exact g_2 | exact Or.inr (vp_in_iff.mpr ⟨by omega, by omega⟩)) (by omega) ((show pX3_worst_L5 (n + 1) v1 v2 x = pX3_worst_L5 n v1 (v2 + 1) x by rw [pX3_worst_L5, if_neg c_1, if_pos c_2]).symm.trans hq) _ _ _ hP hD hS (lv_sub hl [2, 1, 0] rfl)
        · refine lv_iload_n hx hb dX3_worst_19 rfl (lv_at hl 1 rfl) ?_
          refine lv_bipush (v := (-6)) hx hb dX3_worst_20 (by decide) ?_
          refine lv_icmp_eq (tgt := 38) hx hb dX3_worst_22 (by decide) (fun c_3 => ?_) (fun c_3 => ?_)
          · refine lv_iload_n hx hb dX3_worst_38 rfl (lv_at hl 2 rfl) ?_
            refine lv_goto (tgt := 43) hx hb dX3_worst_39 (by decide) ?_
            refine lv_istore_n (lv' := [(1, .int v2), (0, .ref (h 0)), (2, .int v2)]) hx hb dX3_worst_43 rfl hl (by decide) rfl (fun ls hl => ?_)
            refine lv_iinc (v := (v2 + 1)) (lv' := [(2, .int (v2 + 1)), (1, .int v2), (0, .ref (h 0))]) hx hb dX3_worst_44 hl (k := 2) rfl rfl (by decide) rfl (fun ls hl => ?_)
            have a_44 := i_add1 (a := v2) (by omega) (by omega)
            refine lv_goto (tgt := 5) hx hb dX3_worst_47 (by decide) ?_
            exact ih v2 (v2 + 1) (by omega) (by omega) (by first | exact g_2 | exact Or.inr (vp_in_iff.mpr ⟨by omega, by omega⟩)) (by omega) ((show pX3_worst_L5 (n + 1) v1 v2 x = pX3_worst_L5 n v2 (v2 + 1) x by rw [pX3_worst_L5, if_neg c_1, if_neg c_2, if_pos c_3]).symm.trans hq) _ _ _ hP hD hS (lv_sub hl [2, 1, 0] rfl)
          · refine lv_aload_n hx hb dX3_worst_25 rfl (lv_at hl 0 rfl) ?_
            refine lv_iload_n hx hb dX3_worst_26 rfl (lv_at hl 2 rfl) ?_
            refine go_i hD hS hA (rn_V (As := [.int v2]) (rest := []) ⟨hx, hb, hml, hown, hts⟩ (ctX3_worth l G cI cC cZ cR h x v2 (by first | with_reducible assumption | exact vp_in_iff.mpr ⟨by decide, by decide⟩ | exact vp_in_iff.mpr ⟨by omega, by omega⟩ | exact isPlace_in (by with_reducible assumption) | exact has_in (by with_reducible assumption) | exact isPlace3_in (by with_reducible assumption) | exact isPiano_in (by with_reducible assumption) | exact isOpen_in (by with_reducible assumption) | exact nearest3_in (by with_reducible assumption))) (cwV 1 hts gX3_worst_X3_worth rfl rfl rfl (by decide +kernel) ⟨Nat.le_of_ble_eq_true rfl, Nat.le_of_ble_eq_true rfl⟩) (md_recv hK hP rfl) hK hP hD hN rfl hl.1 rfl (Nat.le_of_ble_eq_true rfl) dX3_worst_27) (fun H locs hP hD hS => ?_)
            refine lv_aload_n hx hb dX3_worst_30 rfl (lv_at hl 0 rfl) ?_
            refine lv_iload_n hx hb dX3_worst_31 rfl (lv_at hl 1 rfl) ?_
            refine go_i hD hS hA (rn_V (As := [.int v1]) (rest := [.int (pX3_worth v2 x)]) ⟨hx, hb, hml, hown, hts⟩ (ctX3_worth l G cI cC cZ cR h x v1 (by exact g_2.resolve_left (by with_reducible assumption))) (cwV 1 hts gX3_worst_X3_worth rfl rfl rfl (by decide +kernel) ⟨Nat.le_of_ble_eq_true rfl, Nat.le_of_ble_eq_true rfl⟩) (md_recv hK hP rfl) hK hP hD hN rfl hl.1 rfl (Nat.le_of_ble_eq_true rfl) dX3_worst_32) (fun H locs hP hD hS => ?_)
            refine lv_icmp_ge (tgt := 42) hx hb dX3_worst_35 (by decide) (fun c_4 => ?_) (fun c_4 => ?_)
            · have t_4 := i_le (z := (Int32.toInt (pX3_worth v1 x))) (w := (Int32.toInt (pX3_worth v2 x))) c_4 rfl rfl
              refine lv_iload_n hx hb dX3_worst_42 rfl (lv_at hl 1 rfl) ?_
              refine lv_istore_n (lv' := [(1, .int v1), (0, .ref (h 0)), (2, .int v2)]) hx hb dX3_worst_43 rfl hl (by decide) rfl (fun ls hl => ?_)
              refine lv_iinc (v := (v2 + 1)) (lv' := [(2, .int (v2 + 1)), (1, .int v1), (0, .ref (h 0))]) hx hb dX3_worst_44 hl (k := 2) rfl rfl (by decide) rfl (fun ls hl => ?_)
              have a_44 := i_add1 (a := v2) (by omega) (by omega)
              refine lv_goto (tgt := 5) hx hb dX3_worst_47 (by decide) ?_
              exact ih v1 (v2 + 1) (by omega) (by omega) (by first | exact g_2 | exact Or.inr (vp_in_iff.mpr ⟨by omega, by omega⟩)) (by omega) ((show pX3_worst_L5 (n + 1) v1 v2 x = pX3_worst_L5 n v1 (v2 + 1) x by rw [pX3_worst_L5, if_neg c_1, if_neg c_2, if_neg c_3, if_pos c_4]).symm.trans hq) _ _ _ hP hD hS (lv_sub hl [2, 1, 0] rfl)
            · have t_4 := i_nle (z := (Int32.toInt (pX3_worth v1 x))) (w := (Int32.toInt (pX3_worth v2 x))) c_4 rfl rfl
              refine lv_iload_n hx hb dX3_worst_38 rfl (lv_at hl 2 rfl) ?_
              refine lv_goto (tgt := 43) hx hb dX3_worst_39 (by decide) ?_
              refine lv_istore_n (lv' := [(1, .int v2), (0, .ref (h 0)), (2, .int v2)]) hx hb dX3_worst_43 rfl hl (by decide) rfl (fun ls hl => ?_)
              refine lv_iinc (v := (v2 + 1)) (lv' := [(2, .int (v2 + 1)), (1, .int v2), (0, .ref (h 0))]) hx hb dX3_worst_44 hl (k := 2) rfl rfl (by decide) rfl (fun ls hl => ?_)
              have a_44 := i_add1 (a := v2) (by omega) (by omega)
              refine lv_goto (tgt := 5) hx hb dX3_worst_47 (by decide) ?_
              exact ih v2 (v2 + 1) (by omega) (by omega) (by first | exact g_2 | exact Or.inr (vp_in_iff.mpr ⟨by omega, by omega⟩)) (by omega) ((show pX3_worst_L5 (n + 1) v1 v2 x = pX3_worst_L5 n v2 (v2 + 1) x by rw [pX3_worst_L5, if_neg c_1, if_neg c_2, if_neg c_3, if_neg c_4]).symm.trans hq) _ _ _ hP hD hS (lv_sub hl [2, 1, 0] rfl)
  refine lv_bipush (v := (-6)) hx hb dX3_worst_0 (by decide) ?_
  refine lv_istore_n (lv' := [(1, .int (-6)), (0, .ref (h 0))]) hx hb dX3_worst_2 rfl hl (by decide) rfl (fun ls hl => ?_)
  refine lv_iconst (v := 0) hx hb dX3_worst_3 (by decide) ?_
  refine lv_istore_n (lv' := [(2, .int 0), (1, .int (-6)), (0, .ref (h 0))]) hx hb dX3_worst_4 rfl hl (by decide) rfl (fun ls hl => ?_)
  exact lp_5 13 (-6) 0 (by decide) (by decide) (by exact Or.inl rfl) (by decide) ((show pX3_worst x = pX3_worst_L5 13 (-6) 0 x by rw [pX3_worst]).symm.trans hres) _ _ _ hP hD hS (lv_sub hl [2, 1, 0] rfl)
def pX3_why (a1 : Int32) (x : SR) : Int32 := if (pX3_isPiano a1 x) = 0 then (-1)
  else if (pX3_pianoPart a1 3 x) = 1 then if (pX3_isRainAhead x) = 0 then 2
      else if (x.2 0 (ix 11)) = 0 then 3
        else if (pX3_keepersAt a1 x) = 0 then 4
          else 5
    else if (pX3_pianoPart a1 3 x) = 2 then 0
      else 1
set_option maxHeartbeats 4000000 in
set_option maxRecDepth 100000 in
theorem ctX3_why (l : Launch) (G : va_G) (cI cC cZ cR : ClassId) (h : Ad) (x : SR) (a1 : Int32) (q_0 : Mf (x.2 0)) : Ct l yX3_why wsX3_why (rmz 3 63) G (TY cI cC cZ cR) [.ref (h 0), .int a1] (wMo cI h x) (Qi G (wMo cI h x) (pX3_why a1 x) (wMo cI h x)) := by
  refine Ct.ofI (cc := cX3_why) (maxL := 2) (ret := (some .int)) (by decide) rfl rfl ?_
  intro p e s m below meth c A ls E0 hP hD hS hl
  obtain ⟨hx, hb, hr, hml, hlocks, hts, hown, hK, hN, hA⟩ := E0
  have hl : lv_has ls 2 [(0, .ref (h 0)), (1, .int a1)] := hl
  have hin : ∀ w ∈ wsX30, w ∈ wsX3_why := fun w hw => List.mem_cons_of_mem _ (List.mem_append_right _ (hw))
  have k_7 : (Cond.fieldLink RX3 7 RX3 (TX3 0).2.1 (TX3 0).2.2.1).before ([.ref (h 0), .int a1] : List Value).toArray s = true := hts _ (List.mem_of_getElem? (i := 1) rfl)
  generalize hres : pX3_why a1 x = res
  refine lv_aload_n hx hb dX3_why_0 rfl (lv_at hl 0 rfl) ?_
  refine lv_iload_n hx hb dX3_why_1 rfl (lv_at hl 1 rfl) ?_
  refine go_i hD hS hA (rn_V (As := [.int a1]) (rest := []) ⟨hx, hb, hml, hown, hts⟩ (ctX3_isPiano l G cI cC cZ cR h x a1) (cwV 1 hts gX3_why_X3_isPiano rfl rfl rfl (by decide +kernel) ⟨Nat.le_of_ble_eq_true rfl, Nat.le_of_ble_eq_true rfl⟩) (md_recv hK hP rfl) hK hP hD hN rfl hl.1 rfl (Nat.le_of_ble_eq_true rfl) dX3_why_2) (fun H locs hP hD hS => ?_)
  refine lv_if_ne (tgt := 10) hx hb dX3_why_5 (by decide) (fun c_1 => ?_) (fun c_1 => ?_)
  · refine lv_aload_n hx hb dX3_why_10 rfl (lv_at hl 0 rfl) ?_
    refine lv_iload_n hx hb dX3_why_11 rfl (lv_at hl 1 rfl) ?_
    refine lv_iconst (v := 3) hx hb dX3_why_12 (by decide) ?_
    refine go_i hD hS hA (rn_V (As := [.int a1, .int 3]) (rest := []) ⟨hx, hb, hml, hown, hts⟩ (ctX3_pianoPart l G cI cC cZ cR h x a1 3 (by first | with_reducible assumption | exact vp_in_iff.mpr ⟨by decide, by decide⟩ | exact vp_in_iff.mpr ⟨by omega, by omega⟩ | exact isPlace_in (by with_reducible assumption) | exact has_in (by with_reducible assumption) | exact isPlace3_in (by with_reducible assumption) | exact isPiano_in (by with_reducible assumption) | exact isOpen_in (by with_reducible assumption) | exact nearest3_in (by with_reducible assumption)) (by first | with_reducible assumption | exact vp_in_iff.mpr ⟨by decide, by decide⟩ | exact vp_in_iff.mpr ⟨by omega, by omega⟩ | exact isPlace_in (by with_reducible assumption) | exact has_in (by with_reducible assumption) | exact isPlace3_in (by with_reducible assumption) | exact isPiano_in (by with_reducible assumption) | exact isOpen_in (by with_reducible assumption) | exact nearest3_in (by with_reducible assumption))) (cwV 2 hts gX3_why_X3_pianoPart rfl rfl rfl (by decide +kernel) ⟨Nat.le_of_ble_eq_true rfl, Nat.le_of_ble_eq_true rfl⟩) (md_recv hK hP rfl) hK hP hD hN rfl hl.1 rfl (Nat.le_of_ble_eq_true rfl) dX3_why_13) (fun H locs hP hD hS => ?_)
    refine lv_iconst (v := 1) hx hb dX3_why_16 (by decide) ?_
    refine lv_icmp_eq (tgt := 36) hx hb dX3_why_17 (by decide) (fun c_2 => ?_) (fun c_2 => ?_)
    · refine lv_aload_n hx hb dX3_why_36 rfl (lv_at hl 0 rfl) ?_
      refine go_i hD hS hA (rn_V (As := []) (rest := []) ⟨hx, hb, hml, hown, hts⟩ (ctX3_isRainAhead l G cI cC cZ cR h x (by exact q_0.1.1)) (cwV 0 hts gX3_why_X3_isRainAhead rfl rfl rfl (by decide +kernel) ⟨Nat.le_of_ble_eq_true rfl, Nat.le_of_ble_eq_true rfl⟩) (md_recv hK hP rfl) hK hP hD hN rfl hl.1 rfl (Nat.le_of_ble_eq_true rfl) dX3_why_37) (fun H locs hP hD hS => ?_)
      refine lv_if_ne (tgt := 45) hx hb dX3_why_40 (by decide) (fun c_3 => ?_) (fun c_3 => ?_)
      · refine lv_aload_n hx hb dX3_why_45 rfl (lv_at hl 0 rfl) ?_
        refine md_get (ci := 3) (C := RX3) (T := TX3) (N := 13) (v := .ref (h 1)) hx hb hts hin hown hK hP rfl 0 (by decide) k_7 rfl rfl rfl dX3_why_46 ?_
        refine lv_bipush (v := 11) hx hb dX3_why_49 (by decide) ?_
        refine md_ia (v := x.2 0 (ix 11)) hx hb hK hP 0 0 rfl rfl (vp_in_iff.mpr ⟨by decide, by decide⟩) rfl dX3_why_51 ?_
        refine lv_if_ne (tgt := 59) hx hb dX3_why_52 (by decide) (fun c_4 => ?_) (fun c_4 => ?_)
        · refine lv_aload_n hx hb dX3_why_59 rfl (lv_at hl 0 rfl) ?_
          refine lv_iload_n hx hb dX3_why_60 rfl (lv_at hl 1 rfl) ?_
          refine go_i hD hS hA (rn_V (As := [.int a1]) (rest := []) ⟨hx, hb, hml, hown, hts⟩ (ctX3_keepersAt l G cI cC cZ cR h x a1 (by exact q_0.1.2.2.2)) (cwV 1 hts gX3_why_X3_keepersAt rfl rfl rfl (by decide +kernel) ⟨Nat.le_of_ble_eq_true rfl, Nat.le_of_ble_eq_true rfl⟩) (md_recv hK hP rfl) hK hP hD hN rfl hl.1 rfl (Nat.le_of_ble_eq_true rfl) dX3_why_61) (fun H locs hP hD hS => ?_)
          refine lv_if_ne (tgt := 71) hx hb dX3_why_64 (by decide) (fun c_5 => ?_) (fun c_5 => ?_)
          · refine lv_iconst (v := 5) hx hb dX3_why_71 (by decide) ?_
            exact rt_r hx hb hr hlocks hP hD hS rfl ((show pX3_why a1 x = 5 by rw [pX3_why, if_neg c_1, if_pos c_2, if_neg c_3, if_neg c_4, if_neg c_5]).symm.trans hres |>.symm) dX3_why_72
          · refine lv_iconst (v := 4) hx hb dX3_why_67 (by decide) ?_
            refine lv_goto (tgt := 72) hx hb dX3_why_68 (by decide) ?_
            exact rt_r hx hb hr hlocks hP hD hS rfl ((show pX3_why a1 x = 4 by rw [pX3_why, if_neg c_1, if_pos c_2, if_neg c_3, if_neg c_4, if_pos c_5]).symm.trans hres |>.symm) dX3_why_72
        · refine lv_iconst (v := 3) hx hb dX3_why_55 (by decide) ?_
          refine lv_goto (tgt := 72) hx hb dX3_why_56 (by decide) ?_
          exact rt_r hx hb hr hlocks hP hD hS rfl ((show pX3_why a1 x = 3 by rw [pX3_why, if_neg c_1, if_pos c_2, if_neg c_3, if_pos c_4]).symm.trans hres |>.symm) dX3_why_72
      · refine lv_iconst (v := 2) hx hb dX3_why_43 (by decide) ?_
        exact rt_r hx hb hr hlocks hP hD hS rfl ((show pX3_why a1 x = 2 by rw [pX3_why, if_neg c_1, if_pos c_2, if_pos c_3]).symm.trans hres |>.symm) dX3_why_44
    · refine lv_aload_n hx hb dX3_why_20 rfl (lv_at hl 0 rfl) ?_
      refine lv_iload_n hx hb dX3_why_21 rfl (lv_at hl 1 rfl) ?_
      refine lv_iconst (v := 3) hx hb dX3_why_22 (by decide) ?_
      refine go_i hD hS hA (rn_V (As := [.int a1, .int 3]) (rest := []) ⟨hx, hb, hml, hown, hts⟩ (ctX3_pianoPart l G cI cC cZ cR h x a1 3 (by first | with_reducible assumption | exact vp_in_iff.mpr ⟨by decide, by decide⟩ | exact vp_in_iff.mpr ⟨by omega, by omega⟩ | exact isPlace_in (by with_reducible assumption) | exact has_in (by with_reducible assumption) | exact isPlace3_in (by with_reducible assumption) | exact isPiano_in (by with_reducible assumption) | exact isOpen_in (by with_reducible assumption) | exact nearest3_in (by with_reducible assumption)) (by first | with_reducible assumption | exact vp_in_iff.mpr ⟨by decide, by decide⟩ | exact vp_in_iff.mpr ⟨by omega, by omega⟩ | exact isPlace_in (by with_reducible assumption) | exact has_in (by with_reducible assumption) | exact isPlace3_in (by with_reducible assumption) | exact isPiano_in (by with_reducible assumption) | exact isOpen_in (by with_reducible assumption) | exact nearest3_in (by with_reducible assumption))) (cwV 2 hts gX3_why_X3_pianoPart rfl rfl rfl (by decide +kernel) ⟨Nat.le_of_ble_eq_true rfl, Nat.le_of_ble_eq_true rfl⟩) (md_recv hK hP rfl) hK hP hD hN rfl hl.1 rfl (Nat.le_of_ble_eq_true rfl) dX3_why_23) (fun H locs hP hD hS => ?_)
      refine lv_iconst (v := 2) hx hb dX3_why_26 (by decide) ?_
      refine lv_icmp_ne (tgt := 34) hx hb dX3_why_27 (by decide) (fun c_6 => ?_) (fun c_6 => ?_)
      · refine lv_iconst (v := 1) hx hb dX3_why_34 (by decide) ?_
        exact rt_r hx hb hr hlocks hP hD hS rfl ((show pX3_why a1 x = 1 by rw [pX3_why, if_neg c_1, if_neg c_2, if_neg c_6]).symm.trans hres |>.symm) dX3_why_35
      · refine lv_iconst (v := 0) hx hb dX3_why_30 (by decide) ?_
        refine lv_goto (tgt := 35) hx hb dX3_why_31 (by decide) ?_
        exact rt_r hx hb hr hlocks hP hD hS rfl ((show pX3_why a1 x = 0 by rw [pX3_why, if_neg c_1, if_neg c_2, if_pos c_6]).symm.trans hres |>.symm) dX3_why_35
  · refine lv_iconst (v := (-1)) hx hb dX3_why_8 (by decide) ?_
    exact rt_r hx hb hr hlocks hP hD hS rfl ((show pX3_why a1 x = (-1) by rw [pX3_why, if_pos c_1]).symm.trans hres |>.symm) dX3_why_9
def pX3_rainIn_L6 : Nat → Int32 → Int32 → SR → Int32
  | 0, v1, v2, x => 0
  | n + 1, v1, v2, x => if v2 < 0 then v1
    else if (pX3_rainsIn v2 x) = 0 then pX3_rainIn_L6 n v1 (v2 + (-1)) x
      else pX3_rainIn_L6 n v2 (v2 + (-1)) x
def pX3_rainIn (x : SR) : Int32 := pX3_rainIn_L6 25 (-6) 23 x
set_option maxHeartbeats 4000000 in
set_option maxRecDepth 100000 in
theorem ctX3_rainIn (l : Launch) (G : va_G) (cI cC cZ cR : ClassId) (h : Ad) (x : SR) : Ct l yX3_rainIn wsX3_rainIn (rmz 1 21) G (TY cI cC cZ cR) [.ref (h 0)] (wMo cI h x) (Qi G (wMo cI h x) (pX3_rainIn x) (wMo cI h x)) := by
  refine Ct.ofI (cc := cX3_rainIn) (maxL := 3) (ret := (some .int)) (by decide) rfl rfl ?_
  intro p e s m below meth c A ls E0 hP hD hS hl
  obtain ⟨hx, hb, hr, hml, hlocks, hts, hown, hK, hN, hA⟩ := E0
  have hl : lv_has ls 3 [(0, .ref (h 0))] := hl
  have hin : ∀ w ∈ wsX30, w ∈ wsX3_rainIn := fun w hw => List.mem_cons_of_mem _ (List.mem_append_right _ (hw))
  generalize hres : pX3_rainIn x = res
  have lp_6 : ∀ (n : Nat) (v1 : Int32) (v2 : Int32), -1 ≤ Int32.toInt v2 → Int32.toInt v2 ≤ 23 → Int32.toInt v2 + 1 < (n : Int) → pX3_rainIn_L6 n v1 v2 x = res → ∀ (H : Heap) (locs : List Loc) (ls : Array Slot), va_P G vwCl (wMo cI h x) H → va_D A (wMo cI h x) → va_S A s.heap H locs → lv_has ls 3 [(0, .ref (h 0)), (1, .int v1), (2, .int v2)] → W p l e (rmz 1 21) s m ([.ref (h 0)] : List Value).toArray below meth c H locs 0 0 (MQ below (QiA G A res (wMo cI h x)) ([.ref (h 0)] : List Value).toArray s 0 0 A) (F0 m 6 ls []) := by
    intro n
    induction n with
    | zero =>
      intro v1 v2 g_0 g_1 hm
      exfalso; omega
    | succ n ih =>
      intro v1 v2 g_0 g_1 hm hq H locs ls hP hD hS hl
      refine lv_iload_n hx hb dX3_rainIn_6 rfl (lv_at hl 2 rfl) ?_
      refine lv_if_lt (tgt := 30) hx hb dX3_rainIn_7 (by decide) (fun c_1 => ?_) (fun c_1 => ?_)
      · have t_1 := i_lt (z := (Int32.toInt v2)) (w := (0)) c_1 rfl (by decide)
        refine lv_iload_n hx hb dX3_rainIn_30 rfl (lv_at hl 1 rfl) ?_
        exact rt_r hx hb hr hlocks hP hD hS rfl ((show pX3_rainIn_L6 (n + 1) v1 v2 x = v1 by rw [pX3_rainIn_L6, if_pos c_1]).symm.trans hq |>.symm) dX3_rainIn_31
      · have t_1 := i_nlt (z := (Int32.toInt v2)) (w := (0)) c_1 rfl (by decide)
        refine lv_aload_n hx hb dX3_rainIn_10 rfl (lv_at hl 0 rfl) ?_
        refine lv_iload_n hx hb dX3_rainIn_11 rfl (lv_at hl 2 rfl) ?_
        refine go_i hD hS hA (rn_V (As := [.int v2]) (rest := []) ⟨hx, hb, hml, hown, hts⟩ (ctX3_rainsIn l G cI cC cZ cR h x v2) (cwV 1 hts gX3_rainIn_X3_rainsIn rfl rfl rfl (by decide +kernel) ⟨Nat.le_of_ble_eq_true rfl, Nat.le_of_ble_eq_true rfl⟩) (md_recv hK hP rfl) hK hP hD hN rfl hl.1 rfl (Nat.le_of_ble_eq_true rfl) dX3_rainIn_12) (fun H locs hP hD hS => ?_)
        refine lv_if_eq (tgt := 22) hx hb dX3_rainIn_15 (by decide) (fun c_2 => ?_) (fun c_2 => ?_)
        · refine lv_iload_n hx hb dX3_rainIn_22 rfl (lv_at hl 1 rfl) ?_
          refine lv_istore_n (lv' := [(1, .int v1), (0, .ref (h 0)), (2, .int v2)]) hx hb dX3_rainIn_23 rfl hl (by decide) rfl (fun ls hl => ?_)
          refine lv_iinc (v := (v2 + (-1))) (lv' := [(2, .int (v2 + (-1))), (1, .int v1), (0, .ref (h 0))]) hx hb dX3_rainIn_24 hl (k := 2) rfl rfl (by decide) rfl (fun ls hl => ?_)
          have a_24 := i_sub1 (a := v2) (by omega) (by omega)
          refine lv_goto (tgt := 6) hx hb dX3_rainIn_27 (by decide) ?_
          exact ih v1 (v2 + (-1)) (by omega) (by omega) (by omega) ((show pX3_rainIn_L6 (n + 1) v1 v2 x = pX3_rainIn_L6 n v1 (v2 + (-1)) x by rw [pX3_rainIn_L6, if_neg c_1, if_pos c_2]).symm.trans hq) _ _ _ hP hD hS (lv_sub hl [2, 1, 0] rfl)
        · refine lv_iload_n hx hb dX3_rainIn_18 rfl (lv_at hl 2 rfl) ?_
          refine lv_goto (tgt := 23) hx hb dX3_rainIn_19 (by decide) ?_
          refine lv_istore_n (lv' := [(1, .int v2), (0, .ref (h 0)), (2, .int v2)]) hx hb dX3_rainIn_23 rfl hl (by decide) rfl (fun ls hl => ?_)
          refine lv_iinc (v := (v2 + (-1))) (lv' := [(2, .int (v2 + (-1))), (1, .int v2), (0, .ref (h 0))]) hx hb dX3_rainIn_24 hl (k := 2) rfl rfl (by decide) rfl (fun ls hl => ?_)
          have a_24 := i_sub1 (a := v2) (by omega) (by omega)
          refine lv_goto (tgt := 6) hx hb dX3_rainIn_27 (by decide) ?_
          exact ih v2 (v2 + (-1)) (by omega) (by omega) (by omega) ((show pX3_rainIn_L6 (n + 1) v1 v2 x = pX3_rainIn_L6 n v2 (v2 + (-1)) x by rw [pX3_rainIn_L6, if_neg c_1, if_neg c_2]).symm.trans hq) _ _ _ hP hD hS (lv_sub hl [2, 1, 0] rfl)
  refine lv_bipush (v := (-6)) hx hb dX3_rainIn_0 (by decide) ?_
  refine lv_istore_n (lv' := [(1, .int (-6)), (0, .ref (h 0))]) hx hb dX3_rainIn_2 rfl hl (by decide) rfl (fun ls hl => ?_)
  refine lv_bipush (v := 23) hx hb dX3_rainIn_3 (by decide) ?_
  refine lv_istore_n (lv' := [(2, .int 23), (1, .int (-6)), (0, .ref (h 0))]) hx hb dX3_rainIn_5 rfl hl (by decide) rfl (fun ls hl => ?_)
  exact lp_6 25 (-6) 23 (by first | decide | omega | assumption) (by first | decide | omega | assumption) (by decide) ((show pX3_rainIn x = pX3_rainIn_L6 25 (-6) 23 x by rw [pX3_rainIn]).symm.trans hres) _ _ _ hP hD hS (lv_sub hl [2, 1, 0] rfl)
theorem MI_mv {x : SR} (h : Mf (x.2 0)) : MI (pX3_moves 0 0 1 0 x) := by
  unfold MI
  rw [moves_o _ _ _ (by decide)]
  exact h.1
def pX3_coveredIn_L25 (a1 : Int32) : Nat → Int32 → SR → Int32 × SR
  | 0, v2, x => (0, x)
  | n + 1, v2, x => if (pX3_pianoPart a1 3 x) = 2 then (v2, (pX3_moves 1 0 0 0 x))
    else if 96 ≤ v2 then (((-6) : Int32), (pX3_moves 1 0 0 0 x))
      else pX3_coveredIn_L25 a1 n (v2 + 1) (pX3_hour x)
def pX3_coveredIn (a1 : Int32) (x : SR) : Int32 × SR := if (pX3_isPiano a1 x) = 0 then (((-1) : Int32), x)
  else pX3_coveredIn_L25 a1 97 0 (pX3_moves 0 0 1 0 x)
set_option maxHeartbeats 4000000 in
set_option maxRecDepth 100000 in
theorem ctX3_coveredIn (l : Launch) (G : va_G) (cI cC cZ cR : ClassId) (h : Ad) (x : SR) (a1 : Int32) (q_0 : Mf (x.2 0)) : Ct l yX3_coveredIn wsX3_coveredIn (rmz 9 200) G (TY cI cC cZ cR) [.ref (h 0), .int a1] (wMo cI h x) (Qi G (wMo cI h x) (pX3_coveredIn a1 x).1 (wMo cI h (pX3_coveredIn a1 x).2)) := by
  refine Ct.ofI (cc := cX3_coveredIn) (maxL := 4) (ret := (some .int)) (by decide) rfl rfl ?_
  intro p e s m below meth c A ls E0 hP hD hS hl
  obtain ⟨hx, hb, hr, hml, hlocks, hts, hown, hK, hN, hA⟩ := E0
  have hl : lv_has ls 4 [(0, .ref (h 0)), (1, .int a1)] := hl
  have hin : ∀ w ∈ wsX30, w ∈ wsX3_coveredIn := fun w hw => List.mem_cons_of_mem _ (List.mem_append_right _ (hw))
  have k_7 : (Cond.fieldLink RX3 7 RX3 (TX3 0).2.1 (TX3 0).2.2.1).before ([.ref (h 0), .int a1] : List Value).toArray s = true := hts _ (List.mem_of_getElem? (i := 1) rfl)
  have k_13 : (Cond.fieldLink RX3 13 RX3 (TX3 1).2.1 (TX3 1).2.2.1).before ([.ref (h 0), .int a1] : List Value).toArray s = true := hts _ (List.mem_of_getElem? (i := 2) rfl)
  generalize hres : pX3_coveredIn a1 x = res
  have lp_25 : ∀ (n : Nat) (v2 : Int32) (x : SR), 0 ≤ Int32.toInt v2 → Int32.toInt v2 ≤ 96 → MI x → vp_in a1 12 → 96 - Int32.toInt v2 < (n : Int) → pX3_coveredIn_L25 a1 n v2 x = res → ∀ (H : Heap) (locs : List Loc) (ls : Array Slot), va_P G vwCl (wMo cI h x) H → va_D A (wMo cI h x) → va_S A s.heap H locs → lv_has ls 4 [(0, .ref (h 0)), (1, .int a1), (2, .int v2)] → W p l e (rmz 9 200) s m ([.ref (h 0), .int a1] : List Value).toArray below meth c H locs 0 0 (MQ below (QiA G A res.1 (wMo cI h res.2)) ([.ref (h 0), .int a1] : List Value).toArray s 0 0 A) (F0 m 25 ls []) := by
    intro n
    induction n with
    | zero =>
      intro v2 x g_0 g_1 g_2 g_3 hm
      exfalso; omega
    | succ n ih =>
      intro v2 x g_0 g_1 g_2 g_3 hm hq H locs ls hP hD hS hl
      refine lv_aload_n hx hb dX3_coveredIn_25 rfl (lv_at hl 0 rfl) ?_
      refine lv_iload_n hx hb dX3_coveredIn_26 rfl (lv_at hl 1 rfl) ?_
      refine lv_iconst (v := 3) hx hb dX3_coveredIn_27 (by decide) ?_
      refine go_i hD hS hA (rn_V (As := [.int a1, .int 3]) (rest := []) ⟨hx, hb, hml, hown, hts⟩ (ctX3_pianoPart l G cI cC cZ cR h x a1 3 (by exact g_3) (by exact li_in (by decide))) (cwV 2 hts gX3_coveredIn_X3_pianoPart rfl rfl rfl (by decide +kernel) ⟨Nat.le_of_ble_eq_true rfl, Nat.le_of_ble_eq_true rfl⟩) (md_recv hK hP rfl) hK hP hD hN rfl hl.1 rfl (Nat.le_of_ble_eq_true rfl) dX3_coveredIn_28) (fun H locs hP hD hS => ?_)
      refine lv_iconst (v := 2) hx hb dX3_coveredIn_31 (by decide) ?_
      refine lv_icmp_eq (tgt := 51) hx hb dX3_coveredIn_32 (by decide) (fun c_2 => ?_) (fun c_2 => ?_)
      · refine lv_aload_n hx hb dX3_coveredIn_51 rfl (lv_at hl 0 rfl) ?_
        refine lv_iload_n hx hb dX3_coveredIn_52 rfl (lv_at hl 1 rfl) ?_
        refine lv_iconst (v := 3) hx hb dX3_coveredIn_53 (by decide) ?_
        refine go_i hD hS hA (rn_V (As := [.int a1, .int 3]) (rest := []) ⟨hx, hb, hml, hown, hts⟩ (ctX3_pianoPart l G cI cC cZ cR h x a1 3 (by exact g_3) (by exact li_in (by decide))) (cwV 2 hts gX3_coveredIn_X3_pianoPart rfl rfl rfl (by decide +kernel) ⟨Nat.le_of_ble_eq_true rfl, Nat.le_of_ble_eq_true rfl⟩) (md_recv hK hP rfl) hK hP hD hN rfl hl.1 rfl (Nat.le_of_ble_eq_true rfl) dX3_coveredIn_54) (fun H locs hP hD hS => ?_)
        refine lv_iconst (v := 2) hx hb dX3_coveredIn_57 (by decide) ?_
        refine lv_icmp_ne (tgt := 65) hx hb dX3_coveredIn_58 (by decide) (fun cz => absurd c_2 cz) (fun cz => ?_)
        refine lv_iload_n hx hb dX3_coveredIn_61 rfl (lv_at hl 2 rfl) ?_
        refine lv_goto (tgt := 67) hx hb dX3_coveredIn_62 (by decide) ?_
        refine lv_istore_n (lv' := [(3, .int v2), (0, .ref (h 0)), (1, .int a1), (2, .int v2)]) hx hb dX3_coveredIn_67 rfl hl (by decide) rfl (fun ls hl => ?_)
        refine lv_aload_n hx hb dX3_coveredIn_68 rfl (lv_at hl 1 rfl) ?_
        refine md_get (ci := 3) (C := RX3) (T := TX3) (N := 13) (v := .ref (h 2)) hx hb hts hin hown hK hP rfl 1 (by decide) k_13 rfl rfl rfl dX3_coveredIn_69 ?_
        refine lv_iconst (v := 0) hx hb dX3_coveredIn_72 (by decide) ?_
        refine lv_aload_n hx hb dX3_coveredIn_73 rfl (lv_at hl 1 rfl) ?_
        refine md_get (ci := 3) (C := RX3) (T := TX3) (N := 13) (v := .ref (h 1)) hx hb hts hin hown hK hP rfl 0 (by decide) k_7 rfl rfl rfl dX3_coveredIn_74 ?_
        refine lv_iconst (v := 0) hx hb dX3_coveredIn_77 (by decide) ?_
        refine go_v hD hS hA (rn_S (As := [.ref (h 2), .int 0, .ref (h 1), .int 0]) (rest := []) ⟨hx, hb, hml, hown, hts⟩ (ctX3_moves l G cI cC cZ cR h x 1 0 0 0 109 109 (by rfl) (by rfl) (by decide) (by decide) (by decide) (by decide) (by decide) (by decide)) (va_cwS 4 hts gX3_coveredIn_X3_moves rfl rfl rfl (by decide +kernel) ⟨Nat.le_of_ble_eq_true rfl, Nat.le_of_ble_eq_true rfl⟩) hK hP hD hN rfl hl.1 rfl (Nat.le_of_ble_eq_true rfl) dX3_coveredIn_78) (fun H locs hP hD hS => ?_)
        refine lv_iload_n hx hb dX3_coveredIn_81 rfl (lv_at hl 0 rfl) ?_
        exact rt_b hx hb hr hlocks hP hD hS rfl ((show pX3_coveredIn_L25 a1 (n + 1) v2 x = (v2, (pX3_moves 1 0 0 0 x)) by rw [pX3_coveredIn_L25, if_pos c_2]).symm.trans hq |>.symm) dX3_coveredIn_82
      · refine lv_iload_n hx hb dX3_coveredIn_35 rfl (lv_at hl 2 rfl) ?_
        refine lv_bipush (v := 96) hx hb dX3_coveredIn_36 (by decide) ?_
        refine lv_icmp_ge (tgt := 51) hx hb dX3_coveredIn_38 (by decide) (fun c_3 => ?_) (fun c_3 => ?_)
        · have t_3 := i_le (z := (96)) (w := (Int32.toInt v2)) c_3 (by decide) rfl
          refine lv_aload_n hx hb dX3_coveredIn_51 rfl (lv_at hl 0 rfl) ?_
          refine lv_iload_n hx hb dX3_coveredIn_52 rfl (lv_at hl 1 rfl) ?_
          refine lv_iconst (v := 3) hx hb dX3_coveredIn_53 (by decide) ?_
          refine go_i hD hS hA (rn_V (As := [.int a1, .int 3]) (rest := []) ⟨hx, hb, hml, hown, hts⟩ (ctX3_pianoPart l G cI cC cZ cR h x a1 3 (by exact g_3) (by exact li_in (by decide))) (cwV 2 hts gX3_coveredIn_X3_pianoPart rfl rfl rfl (by decide +kernel) ⟨Nat.le_of_ble_eq_true rfl, Nat.le_of_ble_eq_true rfl⟩) (md_recv hK hP rfl) hK hP hD hN rfl hl.1 rfl (Nat.le_of_ble_eq_true rfl) dX3_coveredIn_54) (fun H locs hP hD hS => ?_)
          refine lv_iconst (v := 2) hx hb dX3_coveredIn_57 (by decide) ?_
          refine lv_icmp_ne (tgt := 65) hx hb dX3_coveredIn_58 (by decide) (fun cz => ?_) (fun cz => absurd cz c_2)
          refine lv_bipush (v := (-6)) hx hb dX3_coveredIn_65 (by decide) ?_
          refine lv_istore_n (lv' := [(3, .int (-6)), (0, .ref (h 0)), (1, .int a1), (2, .int v2)]) hx hb dX3_coveredIn_67 rfl hl (by decide) rfl (fun ls hl => ?_)
          refine lv_aload_n hx hb dX3_coveredIn_68 rfl (lv_at hl 1 rfl) ?_
          refine md_get (ci := 3) (C := RX3) (T := TX3) (N := 13) (v := .ref (h 2)) hx hb hts hin hown hK hP rfl 1 (by decide) k_13 rfl rfl rfl dX3_coveredIn_69 ?_
          refine lv_iconst (v := 0) hx hb dX3_coveredIn_72 (by decide) ?_
          refine lv_aload_n hx hb dX3_coveredIn_73 rfl (lv_at hl 1 rfl) ?_
          refine md_get (ci := 3) (C := RX3) (T := TX3) (N := 13) (v := .ref (h 1)) hx hb hts hin hown hK hP rfl 0 (by decide) k_7 rfl rfl rfl dX3_coveredIn_74 ?_
          refine lv_iconst (v := 0) hx hb dX3_coveredIn_77 (by decide) ?_
          refine go_v hD hS hA (rn_S (As := [.ref (h 2), .int 0, .ref (h 1), .int 0]) (rest := []) ⟨hx, hb, hml, hown, hts⟩ (ctX3_moves l G cI cC cZ cR h x 1 0 0 0 109 109 (by rfl) (by rfl) (by decide) (by decide) (by decide) (by decide) (by decide) (by decide)) (va_cwS 4 hts gX3_coveredIn_X3_moves rfl rfl rfl (by decide +kernel) ⟨Nat.le_of_ble_eq_true rfl, Nat.le_of_ble_eq_true rfl⟩) hK hP hD hN rfl hl.1 rfl (Nat.le_of_ble_eq_true rfl) dX3_coveredIn_78) (fun H locs hP hD hS => ?_)
          refine lv_iload_n hx hb dX3_coveredIn_81 rfl (lv_at hl 0 rfl) ?_
          exact rt_b hx hb hr hlocks hP hD hS rfl ((show pX3_coveredIn_L25 a1 (n + 1) v2 x = (((-6) : Int32), (pX3_moves 1 0 0 0 x)) by rw [pX3_coveredIn_L25, if_neg c_2, if_pos c_3]).symm.trans hq |>.symm) dX3_coveredIn_82
        · have t_3 := i_nle (z := (96)) (w := (Int32.toInt v2)) c_3 (by decide) rfl
          refine lv_aload_n hx hb dX3_coveredIn_41 rfl (lv_at hl 0 rfl) ?_
          refine go_v hD hS hA (rn_V (As := []) (rest := []) ⟨hx, hb, hml, hown, hts⟩ (ctX3_hour l G cI cC cZ cR h x (by exact g_2)) (cwV 0 hts gX3_coveredIn_X3_hour rfl rfl rfl (by decide +kernel) ⟨Nat.le_of_ble_eq_true rfl, Nat.le_of_ble_eq_true rfl⟩) (md_recv hK hP rfl) hK hP hD hN rfl hl.1 rfl (Nat.le_of_ble_eq_true rfl) dX3_coveredIn_42) (fun H locs hP hD hS => ?_)
          refine lv_iinc (v := (v2 + 1)) (lv' := [(2, .int (v2 + 1)), (0, .ref (h 0)), (1, .int a1)]) hx hb dX3_coveredIn_45 hl (k := 2) rfl rfl (by decide) rfl (fun ls hl => ?_)
          have a_45 := i_add1 (a := v2) (by omega) (by omega)
          refine lv_goto (tgt := 25) hx hb dX3_coveredIn_48 (by decide) ?_
          exact ih (v2 + 1) (pX3_hour x) (by omega) (by omega) (by exact MI.of (hour_K g_2) g_2) (by exact g_3) (by omega) ((show pX3_coveredIn_L25 a1 (n + 1) v2 x = pX3_coveredIn_L25 a1 n (v2 + 1) (pX3_hour x) by rw [pX3_coveredIn_L25, if_neg c_2, if_neg c_3]).symm.trans hq) _ _ _ hP hD hS (lv_sub hl [1, 2, 0] rfl)
  refine lv_aload_n hx hb dX3_coveredIn_0 rfl (lv_at hl 0 rfl) ?_
  refine lv_iload_n hx hb dX3_coveredIn_1 rfl (lv_at hl 1 rfl) ?_
  refine go_i hD hS hA (rn_V (As := [.int a1]) (rest := []) ⟨hx, hb, hml, hown, hts⟩ (ctX3_isPiano l G cI cC cZ cR h x a1) (cwV 1 hts gX3_coveredIn_X3_isPiano rfl rfl rfl (by decide +kernel) ⟨Nat.le_of_ble_eq_true rfl, Nat.le_of_ble_eq_true rfl⟩) (md_recv hK hP rfl) hK hP hD hN rfl hl.1 rfl (Nat.le_of_ble_eq_true rfl) dX3_coveredIn_2) (fun H locs hP hD hS => ?_)
  refine lv_if_ne (tgt := 10) hx hb dX3_coveredIn_5 (by decide) (fun c_1 => ?_) (fun c_1 => ?_)
  · refine lv_aload_n hx hb dX3_coveredIn_10 rfl (lv_at hl 0 rfl) ?_
    refine md_get (ci := 3) (C := RX3) (T := TX3) (N := 13) (v := .ref (h 1)) hx hb hts hin hown hK hP rfl 0 (by decide) k_7 rfl rfl rfl dX3_coveredIn_11 ?_
    refine lv_iconst (v := 0) hx hb dX3_coveredIn_14 (by decide) ?_
    refine lv_aload_n hx hb dX3_coveredIn_15 rfl (lv_at hl 0 rfl) ?_
    refine md_get (ci := 3) (C := RX3) (T := TX3) (N := 13) (v := .ref (h 2)) hx hb hts hin hown hK hP rfl 1 (by decide) k_13 rfl rfl rfl dX3_coveredIn_16 ?_
    refine lv_iconst (v := 0) hx hb dX3_coveredIn_19 (by decide) ?_
    refine go_v hD hS hA (rn_S (As := [.ref (h 1), .int 0, .ref (h 2), .int 0]) (rest := []) ⟨hx, hb, hml, hown, hts⟩ (ctX3_moves l G cI cC cZ cR h x 0 0 1 0 109 109 (by rfl) (by rfl) (by decide) (by decide) (by decide) (by decide) (by decide) (by decide)) (va_cwS 4 hts gX3_coveredIn_X3_moves rfl rfl rfl (by decide +kernel) ⟨Nat.le_of_ble_eq_true rfl, Nat.le_of_ble_eq_true rfl⟩) hK hP hD hN rfl hl.1 rfl (Nat.le_of_ble_eq_true rfl) dX3_coveredIn_20) (fun H locs hP hD hS => ?_)
    refine lv_iconst (v := 0) hx hb dX3_coveredIn_23 (by decide) ?_
    refine lv_istore_n (lv' := [(2, .int 0), (0, .ref (h 0)), (1, .int a1)]) hx hb dX3_coveredIn_24 rfl hl (by decide) rfl (fun ls hl => ?_)
    exact lp_25 97 0 (pX3_moves 0 0 1 0 x) (by decide) (by decide) (by exact MI_mv q_0) (by exact isPiano_in (by with_reducible assumption)) (by decide) ((show pX3_coveredIn a1 x = pX3_coveredIn_L25 a1 97 0 (pX3_moves 0 0 1 0 x) by rw [pX3_coveredIn, if_neg c_1]).symm.trans hres) _ _ _ hP hD hS (lv_sub hl [1, 2, 0] rfl)
  · refine lv_iconst (v := (-1)) hx hb dX3_coveredIn_8 (by decide) ?_
    exact rt_b hx hb hr hlocks hP hD hS rfl ((show pX3_coveredIn a1 x = (((-1) : Int32), x) by rw [pX3_coveredIn, if_pos c_1]).symm.trans hres |>.symm) dX3_coveredIn_9
theorem wet_in {a1 : Int32} (h : ¬ pX3_within a1 1 99 = 0) : 0 ≤ Int32.toInt a1 ∧ Int32.toInt a1 ≤ 99 := by
  have h2 := within_in h
  rw [show Int32.toInt 1 = 1 from rfl, show Int32.toInt 99 = 99 from rfl] at h2
  omega
theorem best_in {a1 : Int32} (h : ¬ pX3_within a1 1 48 = 0) : 0 ≤ Int32.toInt a1 ∧ Int32.toInt a1 ≤ 99 := by
  have h2 := within_in h
  rw [show Int32.toInt 1 = 1 from rfl, show Int32.toInt 48 = 48 from rfl] at h2
  omega
def pX3_willBeWet_L36 (a1 : Int32) : Nat → Int32 → Int32 → SR → Int32 × SR
  | 0, v2, v3, x => (0, x)
  | n + 1, v2, v3, x => if 12 ≤ v3 then (v2, (pX3_moves 1 0 0 0 x))
    else if (pX3_pianoPart v3 5 x) ≤ (x.2 1 (ix ((12 + (6 * v3)) + 5))) then pX3_willBeWet_L36 a1 n (v2 ||| 0) (v3 + 1) x
      else pX3_willBeWet_L36 a1 n (v2 ||| (1 <<< (v3 &&& 31))) (v3 + 1) x
def pX3_willBeWet (a1 : Int32) (x : SR) : Int32 × SR := if (pX3_within a1 1 99) = 0 then (((-2) : Int32), x)
  else pX3_willBeWet_L36 a1 13 0 0 (pX3_passes a1 (pX3_moves 0 0 1 0 x)).2
set_option maxHeartbeats 4000000 in
set_option maxRecDepth 100000 in
theorem ctX3_willBeWet (l : Launch) (G : va_G) (cI cC cZ cR : ClassId) (h : Ad) (x : SR) (a1 : Int32) (q_0 : Mf (x.2 0)) : Ct l yX3_willBeWet wsX3_willBeWet (rmz 10 223) G (TY cI cC cZ cR) [.ref (h 0), .int a1] (wMo cI h x) (Qi G (wMo cI h x) (pX3_willBeWet a1 x).1 (wMo cI h (pX3_willBeWet a1 x).2)) := by
  refine Ct.ofI (cc := cX3_willBeWet) (maxL := 4) (ret := (some .int)) (by decide) rfl rfl ?_
  intro p e s m below meth c A ls E0 hP hD hS hl
  obtain ⟨hx, hb, hr, hml, hlocks, hts, hown, hK, hN, hA⟩ := E0
  have hl : lv_has ls 4 [(0, .ref (h 0)), (1, .int a1)] := hl
  have hin : ∀ w ∈ wsX30, w ∈ wsX3_willBeWet := fun w hw => List.mem_cons_of_mem _ (List.mem_append_right _ (hw))
  have k_7 : (Cond.fieldLink RX3 7 RX3 (TX3 0).2.1 (TX3 0).2.2.1).before ([.ref (h 0), .int a1] : List Value).toArray s = true := hts _ (List.mem_of_getElem? (i := 1) rfl)
  have k_13 : (Cond.fieldLink RX3 13 RX3 (TX3 1).2.1 (TX3 1).2.2.1).before ([.ref (h 0), .int a1] : List Value).toArray s = true := hts _ (List.mem_of_getElem? (i := 2) rfl)
  generalize hres : pX3_willBeWet a1 x = res
  have lp_36 : ∀ (n : Nat) (v2 : Int32) (v3 : Int32) (x : SR), 0 ≤ Int32.toInt v3 → Int32.toInt v3 ≤ 12 → 12 - Int32.toInt v3 < (n : Int) → pX3_willBeWet_L36 a1 n v2 v3 x = res → ∀ (H : Heap) (locs : List Loc) (ls : Array Slot), va_P G vwCl (wMo cI h x) H → va_D A (wMo cI h x) → va_S A s.heap H locs → lv_has ls 4 [(0, .ref (h 0)), (1, .int a1), (2, .int v2), (3, .int v3)] → W p l e (rmz 10 223) s m ([.ref (h 0), .int a1] : List Value).toArray below meth c H locs 0 0 (MQ below (QiA G A res.1 (wMo cI h res.2)) ([.ref (h 0), .int a1] : List Value).toArray s 0 0 A) (F0 m 36 ls []) := by
    intro n
    induction n with
    | zero =>
      intro v2 v3 x g_0 g_1 hm
      exfalso; omega
    | succ n ih =>
      intro v2 v3 x g_0 g_1 hm hq H locs ls hP hD hS hl
      refine lv_iload_n hx hb dX3_willBeWet_36 rfl (lv_at hl 3 rfl) ?_
      refine lv_bipush (v := 12) hx hb dX3_willBeWet_37 (by decide) ?_
      refine lv_icmp_ge (tgt := 81) hx hb dX3_willBeWet_39 (by decide) (fun c_2 => ?_) (fun c_2 => ?_)
      · have t_2 := i_le (z := (12)) (w := (Int32.toInt v3)) c_2 (by decide) rfl
        refine lv_aload_n hx hb dX3_willBeWet_81 rfl (lv_at hl 0 rfl) ?_
        refine md_get (ci := 3) (C := RX3) (T := TX3) (N := 13) (v := .ref (h 2)) hx hb hts hin hown hK hP rfl 1 (by decide) k_13 rfl rfl rfl dX3_willBeWet_82 ?_
        refine lv_iconst (v := 0) hx hb dX3_willBeWet_85 (by decide) ?_
        refine lv_aload_n hx hb dX3_willBeWet_86 rfl (lv_at hl 0 rfl) ?_
        refine md_get (ci := 3) (C := RX3) (T := TX3) (N := 13) (v := .ref (h 1)) hx hb hts hin hown hK hP rfl 0 (by decide) k_7 rfl rfl rfl dX3_willBeWet_87 ?_
        refine lv_iconst (v := 0) hx hb dX3_willBeWet_90 (by decide) ?_
        refine go_v hD hS hA (rn_S (As := [.ref (h 2), .int 0, .ref (h 1), .int 0]) (rest := []) ⟨hx, hb, hml, hown, hts⟩ (ctX3_moves l G cI cC cZ cR h x 1 0 0 0 109 109 (by rfl) (by rfl) (by decide) (by decide) (by decide) (by decide) (by decide) (by decide)) (va_cwS 4 hts gX3_willBeWet_X3_moves rfl rfl rfl (by decide +kernel) ⟨Nat.le_of_ble_eq_true rfl, Nat.le_of_ble_eq_true rfl⟩) hK hP hD hN rfl hl.1 rfl (Nat.le_of_ble_eq_true rfl) dX3_willBeWet_91) (fun H locs hP hD hS => ?_)
        refine lv_iload_n hx hb dX3_willBeWet_94 rfl (lv_at hl 2 rfl) ?_
        exact rt_b hx hb hr hlocks hP hD hS rfl ((show pX3_willBeWet_L36 a1 (n + 1) v2 v3 x = (v2, (pX3_moves 1 0 0 0 x)) by rw [pX3_willBeWet_L36, if_pos c_2]).symm.trans hq |>.symm) dX3_willBeWet_95
      · have t_2 := i_nle (z := (12)) (w := (Int32.toInt v3)) c_2 (by decide) rfl
        refine lv_iload_n hx hb dX3_willBeWet_42 rfl (lv_at hl 2 rfl) ?_
        refine lv_aload_n hx hb dX3_willBeWet_43 rfl (lv_at hl 0 rfl) ?_
        refine lv_iload_n hx hb dX3_willBeWet_44 rfl (lv_at hl 3 rfl) ?_
        refine lv_iconst (v := 5) hx hb dX3_willBeWet_45 (by decide) ?_
        refine go_i hD hS hA (rn_V (As := [.int v3, .int 5]) (rest := [.int v2]) ⟨hx, hb, hml, hown, hts⟩ (ctX3_pianoPart l G cI cC cZ cR h x v3 5 (by first | with_reducible assumption | exact vp_in_iff.mpr ⟨by decide, by decide⟩ | exact vp_in_iff.mpr ⟨by omega, by omega⟩ | exact isPlace_in (by with_reducible assumption) | exact has_in (by with_reducible assumption) | exact isPlace3_in (by with_reducible assumption) | exact isPiano_in (by with_reducible assumption) | exact isOpen_in (by with_reducible assumption) | exact nearest3_in (by with_reducible assumption)) (by first | with_reducible assumption | exact vp_in_iff.mpr ⟨by decide, by decide⟩ | exact vp_in_iff.mpr ⟨by omega, by omega⟩ | exact isPlace_in (by with_reducible assumption) | exact has_in (by with_reducible assumption) | exact isPlace3_in (by with_reducible assumption) | exact isPiano_in (by with_reducible assumption) | exact isOpen_in (by with_reducible assumption) | exact nearest3_in (by with_reducible assumption))) (cwV 2 hts gX3_willBeWet_X3_pianoPart rfl rfl rfl (by decide +kernel) ⟨Nat.le_of_ble_eq_true rfl, Nat.le_of_ble_eq_true rfl⟩) (md_recv hK hP rfl) hK hP hD hN rfl hl.1 rfl (Nat.le_of_ble_eq_true rfl) dX3_willBeWet_46) (fun H locs hP hD hS => ?_)
        refine lv_aload_n hx hb dX3_willBeWet_49 rfl (lv_at hl 0 rfl) ?_
        refine md_get (ci := 3) (C := RX3) (T := TX3) (N := 13) (v := .ref (h 2)) hx hb hts hin hown hK hP rfl 1 (by decide) k_13 rfl rfl rfl dX3_willBeWet_50 ?_
        refine lv_bipush (v := 12) hx hb dX3_willBeWet_53 (by decide) ?_
        refine lv_bipush (v := 6) hx hb dX3_willBeWet_55 (by decide) ?_
        refine lv_iload_n hx hb dX3_willBeWet_57 rfl (lv_at hl 3 rfl) ?_
        refine lv_imul hx hb dX3_willBeWet_58 ?_
        refine lv_iadd hx hb dX3_willBeWet_59 ?_
        refine lv_iconst (v := 5) hx hb dX3_willBeWet_60 (by decide) ?_
        refine lv_iadd hx hb dX3_willBeWet_61 ?_
        refine md_ia (v := x.2 1 (ix ((12 + (6 * v3)) + 5))) hx hb hK hP 1 0 rfl rfl (by exact pp_in (vp_in_iff.mpr ⟨by omega, by omega⟩) (li_in (by decide))) rfl dX3_willBeWet_62 ?_
        refine lv_icmp_le (tgt := 72) hx hb dX3_willBeWet_63 (by decide) (fun c_3 => ?_) (fun c_3 => ?_)
        · have t_3 := i_le (z := (Int32.toInt (pX3_pianoPart v3 5 x))) (w := (Int32.toInt (x.2 1 (ix ((12 + (6 * v3)) + 5))))) c_3 rfl rfl
          refine lv_iconst (v := 0) hx hb dX3_willBeWet_72 (by decide) ?_
          refine lv_ior hx hb dX3_willBeWet_73 ?_
          refine lv_istore_n (lv' := [(2, .int (v2 ||| 0)), (0, .ref (h 0)), (1, .int a1), (3, .int v3)]) hx hb dX3_willBeWet_74 rfl hl (by decide) rfl (fun ls hl => ?_)
          refine lv_iinc (v := (v3 + 1)) (lv' := [(3, .int (v3 + 1)), (2, .int (v2 ||| 0)), (0, .ref (h 0)), (1, .int a1)]) hx hb dX3_willBeWet_75 hl (k := 3) rfl rfl (by decide) rfl (fun ls hl => ?_)
          have a_75 := i_add1 (a := v3) (by omega) (by omega)
          refine lv_goto (tgt := 36) hx hb dX3_willBeWet_78 (by decide) ?_
          exact ih (v2 ||| 0) (v3 + 1) x (by omega) (by omega) (by omega) ((show pX3_willBeWet_L36 a1 (n + 1) v2 v3 x = pX3_willBeWet_L36 a1 n (v2 ||| 0) (v3 + 1) x by rw [pX3_willBeWet_L36, if_neg c_2, if_pos c_3]).symm.trans hq) _ _ _ hP hD hS (lv_sub hl [2, 3, 1, 0] rfl)
        · have t_3 := i_nle (z := (Int32.toInt (pX3_pianoPart v3 5 x))) (w := (Int32.toInt (x.2 1 (ix ((12 + (6 * v3)) + 5))))) c_3 rfl rfl
          refine lv_iconst (v := 1) hx hb dX3_willBeWet_66 (by decide) ?_
          refine lv_iload_n hx hb dX3_willBeWet_67 rfl (lv_at hl 3 rfl) ?_
          refine lv_ishl hx hb dX3_willBeWet_68 ?_
          refine lv_goto (tgt := 73) hx hb dX3_willBeWet_69 (by decide) ?_
          refine lv_ior hx hb dX3_willBeWet_73 ?_
          refine lv_istore_n (lv' := [(2, .int (v2 ||| (1 <<< (v3 &&& 31)))), (0, .ref (h 0)), (1, .int a1), (3, .int v3)]) hx hb dX3_willBeWet_74 rfl hl (by decide) rfl (fun ls hl => ?_)
          refine lv_iinc (v := (v3 + 1)) (lv' := [(3, .int (v3 + 1)), (2, .int (v2 ||| (1 <<< (v3 &&& 31)))), (0, .ref (h 0)), (1, .int a1)]) hx hb dX3_willBeWet_75 hl (k := 3) rfl rfl (by decide) rfl (fun ls hl => ?_)
          have a_75 := i_add1 (a := v3) (by omega) (by omega)
          refine lv_goto (tgt := 36) hx hb dX3_willBeWet_78 (by decide) ?_
          exact ih (v2 ||| (1 <<< (v3 &&& 31))) (v3 + 1) x (by omega) (by omega) (by omega) ((show pX3_willBeWet_L36 a1 (n + 1) v2 v3 x = pX3_willBeWet_L36 a1 n (v2 ||| (1 <<< (v3 &&& 31))) (v3 + 1) x by rw [pX3_willBeWet_L36, if_neg c_2, if_neg c_3]).symm.trans hq) _ _ _ hP hD hS (lv_sub hl [2, 3, 1, 0] rfl)
  refine lv_iload_n hx hb dX3_willBeWet_0 rfl (lv_at hl 1 rfl) ?_
  refine lv_iconst (v := 1) hx hb dX3_willBeWet_1 (by decide) ?_
  refine lv_bipush (v := 99) hx hb dX3_willBeWet_2 (by decide) ?_
  refine gn_i hP hS hA (rn_S (As := [.int a1, .int 1, .int 99]) (rest := []) ⟨hx, hb, hml, hown, hts⟩ (ctX3_within l G cI cC cZ cR a1 1 99) (va_cwS 3 hts gX3_willBeWet_X3_within rfl rfl rfl (by decide +kernel) ⟨Nat.le_of_ble_eq_true rfl, Nat.le_of_ble_eq_true rfl⟩) hK nilP (nilD (A := A)) hN rfl hl.1 rfl (Nat.le_of_ble_eq_true rfl) dX3_willBeWet_4) (fun H locs hP hS => ?_)
  refine lv_if_ne (tgt := 13) hx hb dX3_willBeWet_7 (by decide) (fun c_1 => ?_) (fun c_1 => ?_)
  · refine lv_aload_n hx hb dX3_willBeWet_13 rfl (lv_at hl 0 rfl) ?_
    refine md_get (ci := 3) (C := RX3) (T := TX3) (N := 13) (v := .ref (h 1)) hx hb hts hin hown hK hP rfl 0 (by decide) k_7 rfl rfl rfl dX3_willBeWet_14 ?_
    refine lv_iconst (v := 0) hx hb dX3_willBeWet_17 (by decide) ?_
    refine lv_aload_n hx hb dX3_willBeWet_18 rfl (lv_at hl 0 rfl) ?_
    refine md_get (ci := 3) (C := RX3) (T := TX3) (N := 13) (v := .ref (h 2)) hx hb hts hin hown hK hP rfl 1 (by decide) k_13 rfl rfl rfl dX3_willBeWet_19 ?_
    refine lv_iconst (v := 0) hx hb dX3_willBeWet_22 (by decide) ?_
    refine go_v hD hS hA (rn_S (As := [.ref (h 1), .int 0, .ref (h 2), .int 0]) (rest := []) ⟨hx, hb, hml, hown, hts⟩ (ctX3_moves l G cI cC cZ cR h x 0 0 1 0 109 109 (by rfl) (by rfl) (by decide) (by decide) (by decide) (by decide) (by decide) (by decide)) (va_cwS 4 hts gX3_willBeWet_X3_moves rfl rfl rfl (by decide +kernel) ⟨Nat.le_of_ble_eq_true rfl, Nat.le_of_ble_eq_true rfl⟩) hK hP hD hN rfl hl.1 rfl (Nat.le_of_ble_eq_true rfl) dX3_willBeWet_23) (fun H locs hP hD hS => ?_)
    refine lv_aload_n hx hb dX3_willBeWet_26 rfl (lv_at hl 0 rfl) ?_
    refine lv_iload_n hx hb dX3_willBeWet_27 rfl (lv_at hl 1 rfl) ?_
    refine go_i hD hS hA (rn_V (As := [.int a1]) (rest := []) ⟨hx, hb, hml, hown, hts⟩ (ctX3_passes l G cI cC cZ cR h (pX3_moves 0 0 1 0 x) a1 (by exact (wet_in (by with_reducible assumption)).1) (by exact (wet_in (by with_reducible assumption)).2) (by exact MI_mv q_0)) (cwV 1 hts gX3_willBeWet_X3_passes rfl rfl rfl (by decide +kernel) ⟨Nat.le_of_ble_eq_true rfl, Nat.le_of_ble_eq_true rfl⟩) (md_recv hK hP rfl) hK hP hD hN rfl hl.1 rfl (Nat.le_of_ble_eq_true rfl) dX3_willBeWet_28) (fun H locs hP hD hS => ?_)
    refine lv_pop hx hb dX3_willBeWet_31 rfl ?_
    refine lv_iconst (v := 0) hx hb dX3_willBeWet_32 (by decide) ?_
    refine lv_istore_n (lv' := [(2, .int 0), (0, .ref (h 0)), (1, .int a1)]) hx hb dX3_willBeWet_33 rfl hl (by decide) rfl (fun ls hl => ?_)
    refine lv_iconst (v := 0) hx hb dX3_willBeWet_34 (by decide) ?_
    refine lv_istore_n (lv' := [(3, .int 0), (2, .int 0), (0, .ref (h 0)), (1, .int a1)]) hx hb dX3_willBeWet_35 rfl hl (by decide) rfl (fun ls hl => ?_)
    exact lp_36 13 0 0 (pX3_passes a1 (pX3_moves 0 0 1 0 x)).2 (by first | decide | omega | assumption) (by first | decide | omega | assumption) (by decide) ((show pX3_willBeWet a1 x = pX3_willBeWet_L36 a1 13 0 0 (pX3_passes a1 (pX3_moves 0 0 1 0 x)).2 by rw [pX3_willBeWet, if_neg c_1]).symm.trans hres) _ _ _ hP hD hS (lv_sub hl [2, 3, 1, 0] rfl)
  · refine lv_bipush (v := (-2)) hx hb dX3_willBeWet_10 (by decide) ?_
    exact rt_b hx hb hr hlocks hP hD hS rfl ((show pX3_willBeWet a1 x = (((-2) : Int32), x) by rw [pX3_willBeWet, if_pos c_1]).symm.trans hres |>.symm) dX3_willBeWet_12
