def pX3_isValue (a1 : Int32) (a2 : Int32) : Int32 := if a1 = 0 then (pX3_within a2 0 12)
  else if a1 = 1 then (pX3_within a2 1 50)
    else if a1 = 2 then (pX3_within a2 1 20)
      else if a1 = 3 then (pX3_within a2 0 20)
        else if a1 = 4 then (pX3_within a2 0 50)
          else if a1 = 5 then (pX3_within a2 0 100)
            else if a1 = 6 then (pX3_within a2 1 20)
              else 0
set_option maxHeartbeats 4000000 in
set_option maxRecDepth 100000 in
theorem ctX3_isValue (l : Launch) (G : va_G) (cI cC cZ cR : ClassId) (a1 : Int32) (a2 : Int32) : Ct l yX3_isValue wsX3_isValue (rmz 1 22) G (TY cI cC cZ cR) [.int a1, .int a2] [] (Qi G [] (pX3_isValue a1 a2) []) := by
  refine Ct.ofI (cc := cX3_isValue) (maxL := 2) (ret := (some .boolean)) (by decide) rfl rfl ?_
  intro p e s m below meth c A ls E0 hP hD hS hl
  obtain ⟨hx, hb, hr, hml, hlocks, hts, hown, hK, hN, hA⟩ := E0
  have hl : lv_has ls 2 [(0, .int a1), (1, .int a2)] := hl
  generalize hres : pX3_isValue a1 a2 = res
  refine lv_iload_n hx hb dX3_isValue_0 rfl (lv_at hl 0 rfl) ?_
  by_cases c_1 : a1 = 0
  · refine lv_tableIn (tgt := 44) hx hb dX3_isValue_1 (by rw [c_1]; decide) (by rw [c_1]; decide) (by rw [c_1]; first | done | rfl) (by decide) ?_
    refine lv_iload_n hx hb dX3_isValue_44 rfl (lv_at hl 1 rfl) ?_
    refine lv_iconst (v := 0) hx hb dX3_isValue_45 (by decide) ?_
    refine lv_bipush (v := 12) hx hb dX3_isValue_46 (by decide) ?_
    refine gn_i hP hS hA (rn_S (As := [.int a2, .int 0, .int 12]) (rest := []) ⟨hx, hb, hml, hown, hts⟩ (ctX3_within l G cI cC cZ cR a2 0 12) (va_cwS 3 hts gX3_isValue_X3_within rfl rfl rfl (by decide +kernel) ⟨Nat.le_of_ble_eq_true rfl, Nat.le_of_ble_eq_true rfl⟩) hK nilP (nilD (A := A)) hN rfl hl.1 rfl (Nat.le_of_ble_eq_true rfl) dX3_isValue_48) (fun H locs hP hS => ?_)
    exact rt_r hx hb hr hlocks hP hD hS (nz_of (within_b _ _ _)) ((show pX3_isValue a1 a2 = (pX3_within a2 0 12) by rw [pX3_isValue, if_pos c_1]).symm.trans hres |>.symm) dX3_isValue_51
  · skip
    by_cases c_2 : a1 = 1
    · refine lv_tableIn (tgt := 52) hx hb dX3_isValue_1 (by rw [c_2]; decide) (by rw [c_2]; decide) (by rw [c_2]; first | done | rfl) (by decide) ?_
      refine lv_iload_n hx hb dX3_isValue_52 rfl (lv_at hl 1 rfl) ?_
      refine lv_iconst (v := 1) hx hb dX3_isValue_53 (by decide) ?_
      refine lv_bipush (v := 50) hx hb dX3_isValue_54 (by decide) ?_
      refine gn_i hP hS hA (rn_S (As := [.int a2, .int 1, .int 50]) (rest := []) ⟨hx, hb, hml, hown, hts⟩ (ctX3_within l G cI cC cZ cR a2 1 50) (va_cwS 3 hts gX3_isValue_X3_within rfl rfl rfl (by decide +kernel) ⟨Nat.le_of_ble_eq_true rfl, Nat.le_of_ble_eq_true rfl⟩) hK nilP (nilD (A := A)) hN rfl hl.1 rfl (Nat.le_of_ble_eq_true rfl) dX3_isValue_56) (fun H locs hP hS => ?_)
      exact rt_r hx hb hr hlocks hP hD hS (nz_of (within_b _ _ _)) ((show pX3_isValue a1 a2 = (pX3_within a2 1 50) by rw [pX3_isValue, if_neg c_1, if_pos c_2]).symm.trans hres |>.symm) dX3_isValue_59
    · skip
      by_cases c_3 : a1 = 2
      · refine lv_tableIn (tgt := 60) hx hb dX3_isValue_1 (by rw [c_3]; decide) (by rw [c_3]; decide) (by rw [c_3]; first | done | rfl) (by decide) ?_
        refine lv_iload_n hx hb dX3_isValue_60 rfl (lv_at hl 1 rfl) ?_
        refine lv_iconst (v := 1) hx hb dX3_isValue_61 (by decide) ?_
        refine lv_bipush (v := 20) hx hb dX3_isValue_62 (by decide) ?_
        refine gn_i hP hS hA (rn_S (As := [.int a2, .int 1, .int 20]) (rest := []) ⟨hx, hb, hml, hown, hts⟩ (ctX3_within l G cI cC cZ cR a2 1 20) (va_cwS 3 hts gX3_isValue_X3_within rfl rfl rfl (by decide +kernel) ⟨Nat.le_of_ble_eq_true rfl, Nat.le_of_ble_eq_true rfl⟩) hK nilP (nilD (A := A)) hN rfl hl.1 rfl (Nat.le_of_ble_eq_true rfl) dX3_isValue_64) (fun H locs hP hS => ?_)
        exact rt_r hx hb hr hlocks hP hD hS (nz_of (within_b _ _ _)) ((show pX3_isValue a1 a2 = (pX3_within a2 1 20) by rw [pX3_isValue, if_neg c_1, if_neg c_2, if_pos c_3]).symm.trans hres |>.symm) dX3_isValue_67
      · skip
        by_cases c_4 : a1 = 3
        · refine lv_tableIn (tgt := 68) hx hb dX3_isValue_1 (by rw [c_4]; decide) (by rw [c_4]; decide) (by rw [c_4]; first | done | rfl) (by decide) ?_
          refine lv_iload_n hx hb dX3_isValue_68 rfl (lv_at hl 1 rfl) ?_
          refine lv_iconst (v := 0) hx hb dX3_isValue_69 (by decide) ?_
          refine lv_bipush (v := 20) hx hb dX3_isValue_70 (by decide) ?_
          refine gn_i hP hS hA (rn_S (As := [.int a2, .int 0, .int 20]) (rest := []) ⟨hx, hb, hml, hown, hts⟩ (ctX3_within l G cI cC cZ cR a2 0 20) (va_cwS 3 hts gX3_isValue_X3_within rfl rfl rfl (by decide +kernel) ⟨Nat.le_of_ble_eq_true rfl, Nat.le_of_ble_eq_true rfl⟩) hK nilP (nilD (A := A)) hN rfl hl.1 rfl (Nat.le_of_ble_eq_true rfl) dX3_isValue_72) (fun H locs hP hS => ?_)
          exact rt_r hx hb hr hlocks hP hD hS (nz_of (within_b _ _ _)) ((show pX3_isValue a1 a2 = (pX3_within a2 0 20) by rw [pX3_isValue, if_neg c_1, if_neg c_2, if_neg c_3, if_pos c_4]).symm.trans hres |>.symm) dX3_isValue_75
        · skip
          by_cases c_5 : a1 = 4
          · refine lv_tableIn (tgt := 76) hx hb dX3_isValue_1 (by rw [c_5]; decide) (by rw [c_5]; decide) (by rw [c_5]; first | done | rfl) (by decide) ?_
            refine lv_iload_n hx hb dX3_isValue_76 rfl (lv_at hl 1 rfl) ?_
            refine lv_iconst (v := 0) hx hb dX3_isValue_77 (by decide) ?_
            refine lv_bipush (v := 50) hx hb dX3_isValue_78 (by decide) ?_
            refine gn_i hP hS hA (rn_S (As := [.int a2, .int 0, .int 50]) (rest := []) ⟨hx, hb, hml, hown, hts⟩ (ctX3_within l G cI cC cZ cR a2 0 50) (va_cwS 3 hts gX3_isValue_X3_within rfl rfl rfl (by decide +kernel) ⟨Nat.le_of_ble_eq_true rfl, Nat.le_of_ble_eq_true rfl⟩) hK nilP (nilD (A := A)) hN rfl hl.1 rfl (Nat.le_of_ble_eq_true rfl) dX3_isValue_80) (fun H locs hP hS => ?_)
            exact rt_r hx hb hr hlocks hP hD hS (nz_of (within_b _ _ _)) ((show pX3_isValue a1 a2 = (pX3_within a2 0 50) by rw [pX3_isValue, if_neg c_1, if_neg c_2, if_neg c_3, if_neg c_4, if_pos c_5]).symm.trans hres |>.symm) dX3_isValue_83
          · skip
            by_cases c_6 : a1 = 5
            · refine lv_tableIn (tgt := 84) hx hb dX3_isValue_1 (by rw [c_6]; decide) (by rw [c_6]; decide) (by rw [c_6]; first | done | rfl) (by decide) ?_
              refine lv_iload_n hx hb dX3_isValue_84 rfl (lv_at hl 1 rfl) ?_
              refine lv_iconst (v := 0) hx hb dX3_isValue_85 (by decide) ?_
              refine lv_bipush (v := 100) hx hb dX3_isValue_86 (by decide) ?_
              refine gn_i hP hS hA (rn_S (As := [.int a2, .int 0, .int 100]) (rest := []) ⟨hx, hb, hml, hown, hts⟩ (ctX3_within l G cI cC cZ cR a2 0 100) (va_cwS 3 hts gX3_isValue_X3_within rfl rfl rfl (by decide +kernel) ⟨Nat.le_of_ble_eq_true rfl, Nat.le_of_ble_eq_true rfl⟩) hK nilP (nilD (A := A)) hN rfl hl.1 rfl (Nat.le_of_ble_eq_true rfl) dX3_isValue_88) (fun H locs hP hS => ?_)
              exact rt_r hx hb hr hlocks hP hD hS (nz_of (within_b _ _ _)) ((show pX3_isValue a1 a2 = (pX3_within a2 0 100) by rw [pX3_isValue, if_neg c_1, if_neg c_2, if_neg c_3, if_neg c_4, if_neg c_5, if_pos c_6]).symm.trans hres |>.symm) dX3_isValue_91
            · skip
              by_cases c_7 : a1 = 6
              · refine lv_tableIn (tgt := 60) hx hb dX3_isValue_1 (by rw [c_7]; decide) (by rw [c_7]; decide) (by rw [c_7]; first | done | rfl) (by decide) ?_
                refine lv_iload_n hx hb dX3_isValue_60 rfl (lv_at hl 1 rfl) ?_
                refine lv_iconst (v := 1) hx hb dX3_isValue_61 (by decide) ?_
                refine lv_bipush (v := 20) hx hb dX3_isValue_62 (by decide) ?_
                refine gn_i hP hS hA (rn_S (As := [.int a2, .int 1, .int 20]) (rest := []) ⟨hx, hb, hml, hown, hts⟩ (ctX3_within l G cI cC cZ cR a2 1 20) (va_cwS 3 hts gX3_isValue_X3_within rfl rfl rfl (by decide +kernel) ⟨Nat.le_of_ble_eq_true rfl, Nat.le_of_ble_eq_true rfl⟩) hK nilP (nilD (A := A)) hN rfl hl.1 rfl (Nat.le_of_ble_eq_true rfl) dX3_isValue_64) (fun H locs hP hS => ?_)
                exact rt_r hx hb hr hlocks hP hD hS (nz_of (within_b _ _ _)) ((show pX3_isValue a1 a2 = (pX3_within a2 1 20) by rw [pX3_isValue, if_neg c_1, if_neg c_2, if_neg c_3, if_neg c_4, if_neg c_5, if_neg c_6, if_pos c_7]).symm.trans hres |>.symm) dX3_isValue_67
              · skip
                refine lv_tableOut (tgt := 92) hx hb dX3_isValue_1 (by have u_0 := lv_neT (a := 0) c_1 (by decide); have u_1 := lv_neT (a := 1) c_2 (by decide); have u_2 := lv_neT (a := 2) c_3 (by decide); have u_3 := lv_neT (a := 3) c_4 (by decide); have u_4 := lv_neT (a := 4) c_5 (by decide); have u_5 := lv_neT (a := 5) c_6 (by decide); have u_6 := lv_neT (a := 6) c_7 (by decide); omega) (by decide) ?_
                refine lv_iconst (v := 0) hx hb dX3_isValue_92 (by decide) ?_
                exact rt_r hx hb hr hlocks hP hD hS rfl ((show pX3_isValue a1 a2 = 0 by rw [pX3_isValue, if_neg c_1, if_neg c_2, if_neg c_3, if_neg c_4, if_neg c_5, if_neg c_6, if_neg c_7]).symm.trans hres |>.symm) dX3_isValue_93
theorem isValue_in {a1 a2 : Int32} (h : ¬ pX3_isValue a1 a2 = 0) : vp_in a1 109 := by
  rw [pX3_isValue] at h
  by_cases d_1 : a1 = 0
  · rw [d_1]
    exact li_in (by decide)
  · rw [if_neg d_1] at h
    by_cases d_2 : a1 = 1
    · rw [d_2]
      exact li_in (by decide)
    · rw [if_neg d_2] at h
      by_cases d_3 : a1 = 2
      · rw [d_3]
        exact li_in (by decide)
      · rw [if_neg d_3] at h
        by_cases d_4 : a1 = 3
        · rw [d_4]
          exact li_in (by decide)
        · rw [if_neg d_4] at h
          by_cases d_5 : a1 = 4
          · rw [d_5]
            exact li_in (by decide)
          · rw [if_neg d_5] at h
            by_cases d_6 : a1 = 5
            · rw [d_6]
              exact li_in (by decide)
            · rw [if_neg d_6] at h
              by_cases d_7 : a1 = 6
              · rw [d_7]
                exact li_in (by decide)
              · rw [if_neg d_7] at h
                exact absurd rfl h
def pX3_set (a1 : Int32) (a2 : Int32) (x : SR) : Int32 × SR := if (pX3_isValue a1 a2) = 0 then (((-2) : Int32), x)
  else ((pX3_record x).2 0 (ix a1), (pR (pX3_record x) 0 a1 a2))
set_option maxHeartbeats 4000000 in
set_option maxRecDepth 100000 in
theorem ctX3_set (l : Launch) (G : va_G) (cI cC cZ cR : ClassId) (h : Ad) (x : SR) (a1 : Int32) (a2 : Int32) (q_0 : 0 ≤ Int32.toInt (x.1 0)) (q_1 : Int32.toInt (x.1 0) ≤ 6) : Ct l yX3_set wsX3_set (rmz 2 45) G (TY cI cC cZ cR) [.ref (h 0), .int a1, .int a2] (wMo cI h x) (Qi G (wMo cI h x) (pX3_set a1 a2 x).1 (wMo cI h (pX3_set a1 a2 x).2)) := by
  refine Ct.ofI (cc := cX3_set) (maxL := 4) (ret := (some .int)) (by decide) rfl rfl ?_
  intro p e s m below meth c A ls E0 hP hD hS hl
  obtain ⟨hx, hb, hr, hml, hlocks, hts, hown, hK, hN, hA⟩ := E0
  have hl : lv_has ls 4 [(0, .ref (h 0)), (1, .int a1), (2, .int a2)] := hl
  have hin : ∀ w ∈ wsX30, w ∈ wsX3_set := fun w hw => List.mem_cons_of_mem _ (List.mem_append_right _ (hw))
  have k_7 : (Cond.fieldLink RX3 7 RX3 (TX3 0).2.1 (TX3 0).2.2.1).before ([.ref (h 0), .int a1, .int a2] : List Value).toArray s = true := hts _ (List.mem_of_getElem? (i := 1) rfl)
  generalize hres : pX3_set a1 a2 x = res
  refine lv_iload_n hx hb dX3_set_0 rfl (lv_at hl 1 rfl) ?_
  refine lv_iload_n hx hb dX3_set_1 rfl (lv_at hl 2 rfl) ?_
  refine gn_i hP hS hA (rn_S (As := [.int a1, .int a2]) (rest := []) ⟨hx, hb, hml, hown, hts⟩ (ctX3_isValue l G cI cC cZ cR a1 a2) (va_cwS 2 hts gX3_set_X3_isValue rfl rfl rfl (by decide +kernel) ⟨Nat.le_of_ble_eq_true rfl, Nat.le_of_ble_eq_true rfl⟩) hK nilP (nilD (A := A)) hN rfl hl.1 rfl (Nat.le_of_ble_eq_true rfl) dX3_set_2) (fun H locs hP hS => ?_)
  refine lv_if_ne (tgt := 11) hx hb dX3_set_5 (by decide) (fun c_1 => ?_) (fun c_1 => ?_)
  · refine lv_aload_n hx hb dX3_set_11 rfl (lv_at hl 0 rfl) ?_
    refine go_v hD hS hA (rn_V (As := []) (rest := []) ⟨hx, hb, hml, hown, hts⟩ (ctX3_record l G cI cC cZ cR h x (by first | with_reducible assumption | exact vp_in_iff.mpr ⟨by decide, by decide⟩ | exact vp_in_iff.mpr ⟨by omega, by omega⟩ | exact isPlace_in (by with_reducible assumption) | exact has_in (by with_reducible assumption) | exact isPlace3_in (by with_reducible assumption) | exact isPiano_in (by with_reducible assumption) | exact isOpen_in (by with_reducible assumption) | exact nearest3_in (by with_reducible assumption)) (by first | with_reducible assumption | exact vp_in_iff.mpr ⟨by decide, by decide⟩ | exact vp_in_iff.mpr ⟨by omega, by omega⟩ | exact isPlace_in (by with_reducible assumption) | exact has_in (by with_reducible assumption) | exact isPlace3_in (by with_reducible assumption) | exact isPiano_in (by with_reducible assumption) | exact isOpen_in (by with_reducible assumption) | exact nearest3_in (by with_reducible assumption))) (cwV 0 hts gX3_set_X3_record rfl rfl rfl (by decide +kernel) ⟨Nat.le_of_ble_eq_true rfl, Nat.le_of_ble_eq_true rfl⟩) (md_recv hK hP rfl) hK hP hD hN rfl hl.1 rfl (Nat.le_of_ble_eq_true rfl) dX3_set_12) (fun H locs hP hD hS => ?_)
    refine lv_aload_n hx hb dX3_set_15 rfl (lv_at hl 0 rfl) ?_
    refine md_get (ci := 3) (C := RX3) (T := TX3) (N := 13) (v := .ref (h 1)) hx hb hts hin hown hK hP rfl 0 (by decide) k_7 rfl rfl rfl dX3_set_16 ?_
    refine lv_iload_n hx hb dX3_set_19 rfl (lv_at hl 1 rfl) ?_
    refine md_ia (v := (pX3_record x).2 0 (ix a1)) hx hb hK hP 0 0 rfl rfl (by exact isValue_in (by with_reducible assumption)) rfl dX3_set_20 ?_
    refine lv_istore_n (lv' := [(3, .int ((pX3_record x).2 0 (ix a1))), (0, .ref (h 0)), (1, .int a1), (2, .int a2)]) hx hb dX3_set_21 rfl hl (by decide) rfl (fun ls hl => ?_)
    refine lv_aload_n hx hb dX3_set_22 rfl (lv_at hl 1 rfl) ?_
    refine md_get (ci := 3) (C := RX3) (T := TX3) (N := 13) (v := .ref (h 1)) hx hb hts hin hown hK hP rfl 0 (by decide) k_7 rfl rfl rfl dX3_set_23 ?_
    refine lv_iload_n hx hb dX3_set_26 rfl (lv_at hl 2 rfl) ?_
    refine lv_iload_n hx hb dX3_set_27 rfl (lv_at hl 3 rfl) ?_
    refine md_is hx hb hK hP hD hS 0 0 rfl rfl (by exact isValue_in (by with_reducible assumption)) dX3_set_28 (fun H locs hP hD hS => ?_)
    refine lv_iload_n hx hb dX3_set_29 rfl (lv_at hl 0 rfl) ?_
    exact rt_b hx hb hr hlocks hP hD hS rfl ((show pX3_set a1 a2 x = ((pX3_record x).2 0 (ix a1), (pR (pX3_record x) 0 a1 a2)) by rw [pX3_set, if_neg c_1]).symm.trans hres |>.symm) dX3_set_30
  · refine lv_bipush (v := (-2)) hx hb dX3_set_8 (by decide) ?_
    exact rt_b hx hb hr hlocks hP hD hS rfl ((show pX3_set a1 a2 x = (((-2) : Int32), x) by rw [pX3_set, if_pos c_1]).symm.trans hres |>.symm) dX3_set_10
def pX3_rain (a1 : Int32) (x : SR) : Int32 × SR := if (pX3_within a1 0 16777215) = 0 then (((-2) : Int32), x)
  else ((pX3_record x).2 0 (ix 8), (pR (pX3_record x) 0 8 a1))
set_option maxHeartbeats 4000000 in
set_option maxRecDepth 100000 in
theorem ctX3_rain (l : Launch) (G : va_G) (cI cC cZ cR : ClassId) (h : Ad) (x : SR) (a1 : Int32) (q_0 : 0 ≤ Int32.toInt (x.1 0)) (q_1 : Int32.toInt (x.1 0) ≤ 6) : Ct l yX3_rain wsX3_rain (rmz 2 45) G (TY cI cC cZ cR) [.ref (h 0), .int a1] (wMo cI h x) (Qi G (wMo cI h x) (pX3_rain a1 x).1 (wMo cI h (pX3_rain a1 x).2)) := by
  refine Ct.ofI (cc := cX3_rain) (maxL := 3) (ret := (some .int)) (by decide) rfl rfl ?_
  intro p e s m below meth c A ls E0 hP hD hS hl
  obtain ⟨hx, hb, hr, hml, hlocks, hts, hown, hK, hN, hA⟩ := E0
  have hl : lv_has ls 3 [(0, .ref (h 0)), (1, .int a1)] := hl
  have hin : ∀ w ∈ wsX30, w ∈ wsX3_rain := fun w hw => List.mem_cons_of_mem _ (List.mem_append_right _ (hw))
  have k_121 : (Cond.constant RX3 121 16777215).before ([.ref (h 0), .int a1] : List Value).toArray s = true := hts _ (List.mem_of_getElem? (i := 1) rfl)
  have k_7 : (Cond.fieldLink RX3 7 RX3 (TX3 0).2.1 (TX3 0).2.2.1).before ([.ref (h 0), .int a1] : List Value).toArray s = true := hts _ (List.mem_of_getElem? (i := 2) rfl)
  generalize hres : pX3_rain a1 x = res
  refine lv_iload_n hx hb dX3_rain_0 rfl (lv_at hl 1 rfl) ?_
  refine lv_iconst (v := 0) hx hb dX3_rain_1 (by decide) ?_
  refine lv_ldc hx hb hown k_121 dX3_rain_2 ?_
  refine gn_i hP hS hA (rn_S (As := [.int a1, .int 0, .int 16777215]) (rest := []) ⟨hx, hb, hml, hown, hts⟩ (ctX3_within l G cI cC cZ cR a1 0 16777215) (va_cwS 3 hts gX3_rain_X3_within rfl rfl rfl (by decide +kernel) ⟨Nat.le_of_ble_eq_true rfl, Nat.le_of_ble_eq_true rfl⟩) hK nilP (nilD (A := A)) hN rfl hl.1 rfl (Nat.le_of_ble_eq_true rfl) dX3_rain_4) (fun H locs hP hS => ?_)
  refine lv_if_ne (tgt := 13) hx hb dX3_rain_7 (by decide) (fun c_1 => ?_) (fun c_1 => ?_)
  · refine lv_aload_n hx hb dX3_rain_13 rfl (lv_at hl 0 rfl) ?_
    refine go_v hD hS hA (rn_V (As := []) (rest := []) ⟨hx, hb, hml, hown, hts⟩ (ctX3_record l G cI cC cZ cR h x (by first | with_reducible assumption | exact vp_in_iff.mpr ⟨by decide, by decide⟩ | exact vp_in_iff.mpr ⟨by omega, by omega⟩ | exact isPlace_in (by with_reducible assumption) | exact has_in (by with_reducible assumption) | exact isPlace3_in (by with_reducible assumption) | exact isPiano_in (by with_reducible assumption) | exact isOpen_in (by with_reducible assumption) | exact nearest3_in (by with_reducible assumption)) (by first | with_reducible assumption | exact vp_in_iff.mpr ⟨by decide, by decide⟩ | exact vp_in_iff.mpr ⟨by omega, by omega⟩ | exact isPlace_in (by with_reducible assumption) | exact has_in (by with_reducible assumption) | exact isPlace3_in (by with_reducible assumption) | exact isPiano_in (by with_reducible assumption) | exact isOpen_in (by with_reducible assumption) | exact nearest3_in (by with_reducible assumption))) (cwV 0 hts gX3_rain_X3_record rfl rfl rfl (by decide +kernel) ⟨Nat.le_of_ble_eq_true rfl, Nat.le_of_ble_eq_true rfl⟩) (md_recv hK hP rfl) hK hP hD hN rfl hl.1 rfl (Nat.le_of_ble_eq_true rfl) dX3_rain_14) (fun H locs hP hD hS => ?_)
    refine lv_aload_n hx hb dX3_rain_17 rfl (lv_at hl 0 rfl) ?_
    refine md_get (ci := 3) (C := RX3) (T := TX3) (N := 13) (v := .ref (h 1)) hx hb hts hin hown hK hP rfl 0 (by decide) k_7 rfl rfl rfl dX3_rain_18 ?_
    refine lv_bipush (v := 8) hx hb dX3_rain_21 (by decide) ?_
    refine md_ia (v := (pX3_record x).2 0 (ix 8)) hx hb hK hP 0 0 rfl rfl (vp_in_iff.mpr ⟨by decide, by decide⟩) rfl dX3_rain_23 ?_
    refine lv_istore_n (lv' := [(2, .int ((pX3_record x).2 0 (ix 8))), (0, .ref (h 0)), (1, .int a1)]) hx hb dX3_rain_24 rfl hl (by decide) rfl (fun ls hl => ?_)
    refine lv_aload_n hx hb dX3_rain_25 rfl (lv_at hl 1 rfl) ?_
    refine md_get (ci := 3) (C := RX3) (T := TX3) (N := 13) (v := .ref (h 1)) hx hb hts hin hown hK hP rfl 0 (by decide) k_7 rfl rfl rfl dX3_rain_26 ?_
    refine lv_bipush (v := 8) hx hb dX3_rain_29 (by decide) ?_
    refine lv_iload_n hx hb dX3_rain_31 rfl (lv_at hl 2 rfl) ?_
    refine md_is hx hb hK hP hD hS 0 0 rfl rfl (vp_in_iff.mpr ⟨by decide, by decide⟩) dX3_rain_32 (fun H locs hP hD hS => ?_)
    refine lv_iload_n hx hb dX3_rain_33 rfl (lv_at hl 0 rfl) ?_
    exact rt_b hx hb hr hlocks hP hD hS rfl ((show pX3_rain a1 x = ((pX3_record x).2 0 (ix 8), (pR (pX3_record x) 0 8 a1)) by rw [pX3_rain, if_neg c_1]).symm.trans hres |>.symm) dX3_rain_34
  · refine lv_bipush (v := (-2)) hx hb dX3_rain_10 (by decide) ?_
    exact rt_b hx hb hr hlocks hP hD hS rfl ((show pX3_rain a1 x = (((-2) : Int32), x) by rw [pX3_rain, if_pos c_1]).symm.trans hres |>.symm) dX3_rain_12
def pX3_whyNoPiano (a1 : Int32) (a2 : Int32) (x : SR) : Int32 := if (pX3_isPlace a1) = 0 then (-1)
  else if (pX3_within a2 0 1) = 0 then (-2)
    else if (pX3_isPiano a1 x) = 0 then 0
      else (-5)
set_option maxHeartbeats 4000000 in
set_option maxRecDepth 100000 in
theorem ctX3_whyNoPiano (l : Launch) (G : va_G) (cI cC cZ cR : ClassId) (h : Ad) (x : SR) (a1 : Int32) (a2 : Int32) : Ct l yX3_whyNoPiano wsX3_whyNoPiano (rmz 3 63) G (TY cI cC cZ cR) [.ref (h 0), .int a1, .int a2] (wMo cI h x) (Qi G (wMo cI h x) (pX3_whyNoPiano a1 a2 x) (wMo cI h x)) := by
  refine Ct.ofI (cc := cX3_whyNoPiano) (maxL := 3) (ret := (some .int)) (by decide) rfl rfl ?_
  intro p e s m below meth c A ls E0 hP hD hS hl
  obtain ⟨hx, hb, hr, hml, hlocks, hts, hown, hK, hN, hA⟩ := E0
  have hl : lv_has ls 3 [(0, .ref (h 0)), (1, .int a1), (2, .int a2)] := hl
  have hin : ∀ w ∈ wsX30, w ∈ wsX3_whyNoPiano := fun w hw => List.mem_cons_of_mem _ (List.mem_append_right _ (hw))
  generalize hres : pX3_whyNoPiano a1 a2 x = res
  refine lv_iload_n hx hb dX3_whyNoPiano_0 rfl (lv_at hl 1 rfl) ?_
  refine gn_i hP hS hA (rn_S (As := [.int a1]) (rest := []) ⟨hx, hb, hml, hown, hts⟩ (ctX3_isPlace l G cI cC cZ cR a1) (va_cwS 1 hts gX3_whyNoPiano_X3_isPlace rfl rfl rfl (by decide +kernel) ⟨Nat.le_of_ble_eq_true rfl, Nat.le_of_ble_eq_true rfl⟩) hK nilP (nilD (A := A)) hN rfl hl.1 rfl (Nat.le_of_ble_eq_true rfl) dX3_whyNoPiano_1) (fun H locs hP hS => ?_)
  refine lv_if_ne (tgt := 9) hx hb dX3_whyNoPiano_4 (by decide) (fun c_1 => ?_) (fun c_1 => ?_)
  · refine lv_iload_n hx hb dX3_whyNoPiano_9 rfl (lv_at hl 2 rfl) ?_
    refine lv_iconst (v := 0) hx hb dX3_whyNoPiano_10 (by decide) ?_
    refine lv_iconst (v := 1) hx hb dX3_whyNoPiano_11 (by decide) ?_
    refine gn_i hP hS hA (rn_S (As := [.int a2, .int 0, .int 1]) (rest := []) ⟨hx, hb, hml, hown, hts⟩ (ctX3_within l G cI cC cZ cR a2 0 1) (va_cwS 3 hts gX3_whyNoPiano_X3_within rfl rfl rfl (by decide +kernel) ⟨Nat.le_of_ble_eq_true rfl, Nat.le_of_ble_eq_true rfl⟩) hK nilP (nilD (A := A)) hN rfl hl.1 rfl (Nat.le_of_ble_eq_true rfl) dX3_whyNoPiano_12) (fun H locs hP hS => ?_)
    refine lv_if_ne (tgt := 23) hx hb dX3_whyNoPiano_15 (by decide) (fun c_2 => ?_) (fun c_2 => ?_)
    · refine lv_aload_n hx hb dX3_whyNoPiano_23 rfl (lv_at hl 0 rfl) ?_
      refine lv_iload_n hx hb dX3_whyNoPiano_24 rfl (lv_at hl 1 rfl) ?_
      refine go_i hD hS hA (rn_V (As := [.int a1]) (rest := []) ⟨hx, hb, hml, hown, hts⟩ (ctX3_isPiano l G cI cC cZ cR h x a1) (cwV 1 hts gX3_whyNoPiano_X3_isPiano rfl rfl rfl (by decide +kernel) ⟨Nat.le_of_ble_eq_true rfl, Nat.le_of_ble_eq_true rfl⟩) (md_recv hK hP rfl) hK hP hD hN rfl hl.1 rfl (Nat.le_of_ble_eq_true rfl) dX3_whyNoPiano_25) (fun H locs hP hD hS => ?_)
      refine lv_if_eq (tgt := 36) hx hb dX3_whyNoPiano_28 (by decide) (fun c_3 => ?_) (fun c_3 => ?_)
      · refine lv_iconst (v := 0) hx hb dX3_whyNoPiano_36 (by decide) ?_
        exact rt_r hx hb hr hlocks hP hD hS rfl ((show pX3_whyNoPiano a1 a2 x = 0 by rw [pX3_whyNoPiano, if_neg c_1, if_neg c_2, if_pos c_3]).symm.trans hres |>.symm) dX3_whyNoPiano_37
      · refine lv_bipush (v := (-5)) hx hb dX3_whyNoPiano_31 (by decide) ?_
        refine lv_goto (tgt := 37) hx hb dX3_whyNoPiano_33 (by decide) ?_
        exact rt_r hx hb hr hlocks hP hD hS rfl ((show pX3_whyNoPiano a1 a2 x = (-5) by rw [pX3_whyNoPiano, if_neg c_1, if_neg c_2, if_neg c_3]).symm.trans hres |>.symm) dX3_whyNoPiano_37
    · refine lv_bipush (v := (-2)) hx hb dX3_whyNoPiano_18 (by decide) ?_
      refine lv_goto (tgt := 37) hx hb dX3_whyNoPiano_20 (by decide) ?_
      exact rt_r hx hb hr hlocks hP hD hS rfl ((show pX3_whyNoPiano a1 a2 x = (-2) by rw [pX3_whyNoPiano, if_neg c_1, if_pos c_2]).symm.trans hres |>.symm) dX3_whyNoPiano_37
  · refine lv_iconst (v := (-1)) hx hb dX3_whyNoPiano_7 (by decide) ?_
    exact rt_r hx hb hr hlocks hP hD hS rfl ((show pX3_whyNoPiano a1 a2 x = (-1) by rw [pX3_whyNoPiano, if_pos c_1]).symm.trans hres |>.symm) dX3_whyNoPiano_8
theorem whyNoPiano_in {a1 a2 : Int32} {x : SR} (h : 0 ≤ pX3_whyNoPiano a1 a2 x) : vp_in a1 12 := by
  rw [pX3_whyNoPiano] at h
  by_cases h1 : pX3_isPlace a1 = 0
  · rw [if_pos h1] at h
    exact absurd h (by decide)
  · exact isPlace3_in h1
def pX3_pianoComes (a1 : Int32) (a2 : Int32) (x : SR) : SR := (pX3_setPiano a1 5 0 (pX3_setPiano a1 4 0 (pX3_setPiano a1 3 a2 (pX3_setPiano a1 2 0 (pX3_setPiano a1 1 100 (pX3_setPiano a1 0 1 x))))))
set_option maxHeartbeats 4000000 in
set_option maxRecDepth 100000 in
theorem ctX3_pianoComes (l : Launch) (G : va_G) (cI cC cZ cR : ClassId) (h : Ad) (x : SR) (a1 : Int32) (a2 : Int32) (q_0 : vp_in a1 12) : Ct l yX3_pianoComes wsX3_pianoComes (rmz 1 23) G (TY cI cC cZ cR) [.ref (h 0), .int a1, .int a2] (wMo cI h x) (Qv G (wMo cI h x) (wMo cI h (pX3_pianoComes a1 a2 x))) := by
  refine Ct.ofV (cc := cX3_pianoComes) (maxL := 3) (ret := none) (by decide) rfl rfl ?_
  intro p e s m below meth c A ls E0 hP hD hS hl
  obtain ⟨hx, hb, hr, hml, hlocks, hts, hown, hK, hN, hA⟩ := E0
  have hl : lv_has ls 3 [(0, .ref (h 0)), (1, .int a1), (2, .int a2)] := hl
  have hin : ∀ w ∈ wsX30, w ∈ wsX3_pianoComes := fun w hw => List.mem_cons_of_mem _ (List.mem_append_right _ (hw))
  generalize hres : pX3_pianoComes a1 a2 x = res
  refine lv_aload_n hx hb dX3_pianoComes_0 rfl (lv_at hl 0 rfl) ?_
  refine lv_iload_n hx hb dX3_pianoComes_1 rfl (lv_at hl 1 rfl) ?_
  refine lv_iconst (v := 0) hx hb dX3_pianoComes_2 (by decide) ?_
  refine lv_iconst (v := 1) hx hb dX3_pianoComes_3 (by decide) ?_
  refine go_v hD hS hA (rn_V (As := [.int a1, .int 0, .int 1]) (rest := []) ⟨hx, hb, hml, hown, hts⟩ (ctX3_setPiano l G cI cC cZ cR h x a1 0 1 (by first | with_reducible assumption | exact vp_in_iff.mpr ⟨by decide, by decide⟩ | exact vp_in_iff.mpr ⟨by omega, by omega⟩ | exact isPlace_in (by with_reducible assumption) | exact has_in (by with_reducible assumption) | exact isPlace3_in (by with_reducible assumption) | exact isPiano_in (by with_reducible assumption) | exact isOpen_in (by with_reducible assumption) | exact nearest3_in (by with_reducible assumption)) (by first | with_reducible assumption | exact vp_in_iff.mpr ⟨by decide, by decide⟩ | exact vp_in_iff.mpr ⟨by omega, by omega⟩ | exact isPlace_in (by with_reducible assumption) | exact has_in (by with_reducible assumption) | exact isPlace3_in (by with_reducible assumption) | exact isPiano_in (by with_reducible assumption) | exact isOpen_in (by with_reducible assumption) | exact nearest3_in (by with_reducible assumption))) (cwV 3 hts gX3_pianoComes_X3_setPiano rfl rfl rfl (by decide +kernel) ⟨Nat.le_of_ble_eq_true rfl, Nat.le_of_ble_eq_true rfl⟩) (md_recv hK hP rfl) hK hP hD hN rfl hl.1 rfl (Nat.le_of_ble_eq_true rfl) dX3_pianoComes_4) (fun H locs hP hD hS => ?_)
  refine lv_aload_n hx hb dX3_pianoComes_7 rfl (lv_at hl 0 rfl) ?_
  refine lv_iload_n hx hb dX3_pianoComes_8 rfl (lv_at hl 1 rfl) ?_
  refine lv_iconst (v := 1) hx hb dX3_pianoComes_9 (by decide) ?_
  refine lv_bipush (v := 100) hx hb dX3_pianoComes_10 (by decide) ?_
  refine go_v hD hS hA (rn_V (As := [.int a1, .int 1, .int 100]) (rest := []) ⟨hx, hb, hml, hown, hts⟩ (ctX3_setPiano l G cI cC cZ cR h (pX3_setPiano a1 0 1 x) a1 1 100 (by first | with_reducible assumption | exact vp_in_iff.mpr ⟨by decide, by decide⟩ | exact vp_in_iff.mpr ⟨by omega, by omega⟩ | exact isPlace_in (by with_reducible assumption) | exact has_in (by with_reducible assumption) | exact isPlace3_in (by with_reducible assumption) | exact isPiano_in (by with_reducible assumption) | exact isOpen_in (by with_reducible assumption) | exact nearest3_in (by with_reducible assumption)) (by first | with_reducible assumption | exact vp_in_iff.mpr ⟨by decide, by decide⟩ | exact vp_in_iff.mpr ⟨by omega, by omega⟩ | exact isPlace_in (by with_reducible assumption) | exact has_in (by with_reducible assumption) | exact isPlace3_in (by with_reducible assumption) | exact isPiano_in (by with_reducible assumption) | exact isOpen_in (by with_reducible assumption) | exact nearest3_in (by with_reducible assumption))) (cwV 3 hts gX3_pianoComes_X3_setPiano rfl rfl rfl (by decide +kernel) ⟨Nat.le_of_ble_eq_true rfl, Nat.le_of_ble_eq_true rfl⟩) (md_recv hK hP rfl) hK hP hD hN rfl hl.1 rfl (Nat.le_of_ble_eq_true rfl) dX3_pianoComes_12) (fun H locs hP hD hS => ?_)
  refine lv_aload_n hx hb dX3_pianoComes_15 rfl (lv_at hl 0 rfl) ?_
  refine lv_iload_n hx hb dX3_pianoComes_16 rfl (lv_at hl 1 rfl) ?_
  refine lv_iconst (v := 2) hx hb dX3_pianoComes_17 (by decide) ?_
  refine lv_iconst (v := 0) hx hb dX3_pianoComes_18 (by decide) ?_
  refine go_v hD hS hA (rn_V (As := [.int a1, .int 2, .int 0]) (rest := []) ⟨hx, hb, hml, hown, hts⟩ (ctX3_setPiano l G cI cC cZ cR h (pX3_setPiano a1 1 100 (pX3_setPiano a1 0 1 x)) a1 2 0 (by first | with_reducible assumption | exact vp_in_iff.mpr ⟨by decide, by decide⟩ | exact vp_in_iff.mpr ⟨by omega, by omega⟩ | exact isPlace_in (by with_reducible assumption) | exact has_in (by with_reducible assumption) | exact isPlace3_in (by with_reducible assumption) | exact isPiano_in (by with_reducible assumption) | exact isOpen_in (by with_reducible assumption) | exact nearest3_in (by with_reducible assumption)) (by first | with_reducible assumption | exact vp_in_iff.mpr ⟨by decide, by decide⟩ | exact vp_in_iff.mpr ⟨by omega, by omega⟩ | exact isPlace_in (by with_reducible assumption) | exact has_in (by with_reducible assumption) | exact isPlace3_in (by with_reducible assumption) | exact isPiano_in (by with_reducible assumption) | exact isOpen_in (by with_reducible assumption) | exact nearest3_in (by with_reducible assumption))) (cwV 3 hts gX3_pianoComes_X3_setPiano rfl rfl rfl (by decide +kernel) ⟨Nat.le_of_ble_eq_true rfl, Nat.le_of_ble_eq_true rfl⟩) (md_recv hK hP rfl) hK hP hD hN rfl hl.1 rfl (Nat.le_of_ble_eq_true rfl) dX3_pianoComes_19) (fun H locs hP hD hS => ?_)
  refine lv_aload_n hx hb dX3_pianoComes_22 rfl (lv_at hl 0 rfl) ?_
  refine lv_iload_n hx hb dX3_pianoComes_23 rfl (lv_at hl 1 rfl) ?_
  refine lv_iconst (v := 3) hx hb dX3_pianoComes_24 (by decide) ?_
  refine lv_iload_n hx hb dX3_pianoComes_25 rfl (lv_at hl 2 rfl) ?_
  refine go_v hD hS hA (rn_V (As := [.int a1, .int 3, .int a2]) (rest := []) ⟨hx, hb, hml, hown, hts⟩ (ctX3_setPiano l G cI cC cZ cR h (pX3_setPiano a1 2 0 (pX3_setPiano a1 1 100 (pX3_setPiano a1 0 1 x))) a1 3 a2 (by first | with_reducible assumption | exact vp_in_iff.mpr ⟨by decide, by decide⟩ | exact vp_in_iff.mpr ⟨by omega, by omega⟩ | exact isPlace_in (by with_reducible assumption) | exact has_in (by with_reducible assumption) | exact isPlace3_in (by with_reducible assumption) | exact isPiano_in (by with_reducible assumption) | exact isOpen_in (by with_reducible assumption) | exact nearest3_in (by with_reducible assumption)) (by first | with_reducible assumption | exact vp_in_iff.mpr ⟨by decide, by decide⟩ | exact vp_in_iff.mpr ⟨by omega, by omega⟩ | exact isPlace_in (by with_reducible assumption) | exact has_in (by with_reducible assumption) | exact isPlace3_in (by with_reducible assumption) | exact isPiano_in (by with_reducible assumption) | exact isOpen_in (by with_reducible assumption) | exact nearest3_in (by with_reducible assumption))) (cwV 3 hts gX3_pianoComes_X3_setPiano rfl rfl rfl (by decide +kernel) ⟨Nat.le_of_ble_eq_true rfl, Nat.le_of_ble_eq_true rfl⟩) (md_recv hK hP rfl) hK hP hD hN rfl hl.1 rfl (Nat.le_of_ble_eq_true rfl) dX3_pianoComes_26) (fun H locs hP hD hS => ?_)
  refine lv_aload_n hx hb dX3_pianoComes_29 rfl (lv_at hl 0 rfl) ?_
  refine lv_iload_n hx hb dX3_pianoComes_30 rfl (lv_at hl 1 rfl) ?_
  refine lv_iconst (v := 4) hx hb dX3_pianoComes_31 (by decide) ?_
  refine lv_iconst (v := 0) hx hb dX3_pianoComes_32 (by decide) ?_
  refine go_v hD hS hA (rn_V (As := [.int a1, .int 4, .int 0]) (rest := []) ⟨hx, hb, hml, hown, hts⟩ (ctX3_setPiano l G cI cC cZ cR h (pX3_setPiano a1 3 a2 (pX3_setPiano a1 2 0 (pX3_setPiano a1 1 100 (pX3_setPiano a1 0 1 x)))) a1 4 0 (by first | with_reducible assumption | exact vp_in_iff.mpr ⟨by decide, by decide⟩ | exact vp_in_iff.mpr ⟨by omega, by omega⟩ | exact isPlace_in (by with_reducible assumption) | exact has_in (by with_reducible assumption) | exact isPlace3_in (by with_reducible assumption) | exact isPiano_in (by with_reducible assumption) | exact isOpen_in (by with_reducible assumption) | exact nearest3_in (by with_reducible assumption)) (by first | with_reducible assumption | exact vp_in_iff.mpr ⟨by decide, by decide⟩ | exact vp_in_iff.mpr ⟨by omega, by omega⟩ | exact isPlace_in (by with_reducible assumption) | exact has_in (by with_reducible assumption) | exact isPlace3_in (by with_reducible assumption) | exact isPiano_in (by with_reducible assumption) | exact isOpen_in (by with_reducible assumption) | exact nearest3_in (by with_reducible assumption))) (cwV 3 hts gX3_pianoComes_X3_setPiano rfl rfl rfl (by decide +kernel) ⟨Nat.le_of_ble_eq_true rfl, Nat.le_of_ble_eq_true rfl⟩) (md_recv hK hP rfl) hK hP hD hN rfl hl.1 rfl (Nat.le_of_ble_eq_true rfl) dX3_pianoComes_33) (fun H locs hP hD hS => ?_)
  refine lv_aload_n hx hb dX3_pianoComes_36 rfl (lv_at hl 0 rfl) ?_
  refine lv_iload_n hx hb dX3_pianoComes_37 rfl (lv_at hl 1 rfl) ?_
  refine lv_iconst (v := 5) hx hb dX3_pianoComes_38 (by decide) ?_
  refine lv_iconst (v := 0) hx hb dX3_pianoComes_39 (by decide) ?_
  refine go_v hD hS hA (rn_V (As := [.int a1, .int 5, .int 0]) (rest := []) ⟨hx, hb, hml, hown, hts⟩ (ctX3_setPiano l G cI cC cZ cR h (pX3_setPiano a1 4 0 (pX3_setPiano a1 3 a2 (pX3_setPiano a1 2 0 (pX3_setPiano a1 1 100 (pX3_setPiano a1 0 1 x))))) a1 5 0 (by first | with_reducible assumption | exact vp_in_iff.mpr ⟨by decide, by decide⟩ | exact vp_in_iff.mpr ⟨by omega, by omega⟩ | exact isPlace_in (by with_reducible assumption) | exact has_in (by with_reducible assumption) | exact isPlace3_in (by with_reducible assumption) | exact isPiano_in (by with_reducible assumption) | exact isOpen_in (by with_reducible assumption) | exact nearest3_in (by with_reducible assumption)) (by first | with_reducible assumption | exact vp_in_iff.mpr ⟨by decide, by decide⟩ | exact vp_in_iff.mpr ⟨by omega, by omega⟩ | exact isPlace_in (by with_reducible assumption) | exact has_in (by with_reducible assumption) | exact isPlace3_in (by with_reducible assumption) | exact isPiano_in (by with_reducible assumption) | exact isOpen_in (by with_reducible assumption) | exact nearest3_in (by with_reducible assumption))) (cwV 3 hts gX3_pianoComes_X3_setPiano rfl rfl rfl (by decide +kernel) ⟨Nat.le_of_ble_eq_true rfl, Nat.le_of_ble_eq_true rfl⟩) (md_recv hK hP rfl) hK hP hD hN rfl hl.1 rfl (Nat.le_of_ble_eq_true rfl) dX3_pianoComes_40) (fun H locs hP hD hS => ?_)
  exact rt_s hx hb hr hlocks hP hD hS ((show pX3_pianoComes a1 a2 x = (pX3_setPiano a1 5 0 (pX3_setPiano a1 4 0 (pX3_setPiano a1 3 a2 (pX3_setPiano a1 2 0 (pX3_setPiano a1 1 100 (pX3_setPiano a1 0 1 x)))))) by rw [pX3_pianoComes]).symm.trans hres |>.symm) dX3_pianoComes_43
def pX3_piano (a1 : Int32) (a2 : Int32) (x : SR) : Int32 × SR := if 0 ≤ (pX3_whyNoPiano a1 a2 x) then ((pX3_pianosThere (pX3_pianoComes a1 a2 (pX3_record x))), (pX3_pianoComes a1 a2 (pX3_record x)))
  else ((pX3_whyNoPiano a1 a2 x), x)
set_option maxHeartbeats 4000000 in
set_option maxRecDepth 100000 in
theorem ctX3_piano (l : Launch) (G : va_G) (cI cC cZ cR : ClassId) (h : Ad) (x : SR) (a1 : Int32) (a2 : Int32) (q_0 : 0 ≤ Int32.toInt (x.1 0)) (q_1 : Int32.toInt (x.1 0) ≤ 6) : Ct l yX3_piano wsX3_piano (rmz 4 85) G (TY cI cC cZ cR) [.ref (h 0), .int a1, .int a2] (wMo cI h x) (Qi G (wMo cI h x) (pX3_piano a1 a2 x).1 (wMo cI h (pX3_piano a1 a2 x).2)) := by
  refine Ct.ofI (cc := cX3_piano) (maxL := 4) (ret := (some .int)) (by decide) rfl rfl ?_
  intro p e s m below meth c A ls E0 hP hD hS hl
  obtain ⟨hx, hb, hr, hml, hlocks, hts, hown, hK, hN, hA⟩ := E0
  have hl : lv_has ls 4 [(0, .ref (h 0)), (1, .int a1), (2, .int a2)] := hl
  have hin : ∀ w ∈ wsX30, w ∈ wsX3_piano := fun w hw => List.mem_cons_of_mem _ (List.mem_append_right _ (hw))
  generalize hres : pX3_piano a1 a2 x = res
  refine lv_aload_n hx hb dX3_piano_0 rfl (lv_at hl 0 rfl) ?_
  refine lv_iload_n hx hb dX3_piano_1 rfl (lv_at hl 1 rfl) ?_
  refine lv_iload_n hx hb dX3_piano_2 rfl (lv_at hl 2 rfl) ?_
  refine go_i hD hS hA (rn_V (As := [.int a1, .int a2]) (rest := []) ⟨hx, hb, hml, hown, hts⟩ (ctX3_whyNoPiano l G cI cC cZ cR h x a1 a2) (cwV 2 hts gX3_piano_X3_whyNoPiano rfl rfl rfl (by decide +kernel) ⟨Nat.le_of_ble_eq_true rfl, Nat.le_of_ble_eq_true rfl⟩) (md_recv hK hP rfl) hK hP hD hN rfl hl.1 rfl (Nat.le_of_ble_eq_true rfl) dX3_piano_3) (fun H locs hP hD hS => ?_)
  refine lv_istore_n (lv' := [(3, .int (pX3_whyNoPiano a1 a2 x)), (0, .ref (h 0)), (1, .int a1), (2, .int a2)]) hx hb dX3_piano_6 rfl hl (by decide) rfl (fun ls hl => ?_)
  refine lv_iload_n hx hb dX3_piano_7 rfl (lv_at hl 0 rfl) ?_
  refine lv_if_ge (tgt := 13) hx hb dX3_piano_8 (by decide) (fun c_1 => ?_) (fun c_1 => ?_)
  · have t_1 := i_le (z := (0)) (w := (Int32.toInt (pX3_whyNoPiano a1 a2 x))) c_1 (by decide) rfl
    refine lv_aload_n hx hb dX3_piano_13 rfl (lv_at hl 1 rfl) ?_
    refine go_v hD hS hA (rn_V (As := []) (rest := []) ⟨hx, hb, hml, hown, hts⟩ (ctX3_record l G cI cC cZ cR h x (by first | with_reducible assumption | exact vp_in_iff.mpr ⟨by decide, by decide⟩ | exact vp_in_iff.mpr ⟨by omega, by omega⟩ | exact isPlace_in (by with_reducible assumption) | exact has_in (by with_reducible assumption) | exact isPlace3_in (by with_reducible assumption) | exact isPiano_in (by with_reducible assumption) | exact isOpen_in (by with_reducible assumption) | exact nearest3_in (by with_reducible assumption)) (by first | with_reducible assumption | exact vp_in_iff.mpr ⟨by decide, by decide⟩ | exact vp_in_iff.mpr ⟨by omega, by omega⟩ | exact isPlace_in (by with_reducible assumption) | exact has_in (by with_reducible assumption) | exact isPlace3_in (by with_reducible assumption) | exact isPiano_in (by with_reducible assumption) | exact isOpen_in (by with_reducible assumption) | exact nearest3_in (by with_reducible assumption))) (cwV 0 hts gX3_piano_X3_record rfl rfl rfl (by decide +kernel) ⟨Nat.le_of_ble_eq_true rfl, Nat.le_of_ble_eq_true rfl⟩) (md_recv hK hP rfl) hK hP hD hN rfl hl.1 rfl (Nat.le_of_ble_eq_true rfl) dX3_piano_14) (fun H locs hP hD hS => ?_)
    refine lv_aload_n hx hb dX3_piano_17 rfl (lv_at hl 1 rfl) ?_
    refine lv_iload_n hx hb dX3_piano_18 rfl (lv_at hl 2 rfl) ?_
    refine lv_iload_n hx hb dX3_piano_19 rfl (lv_at hl 3 rfl) ?_
    refine go_v hD hS hA (rn_V (As := [.int a1, .int a2]) (rest := []) ⟨hx, hb, hml, hown, hts⟩ (ctX3_pianoComes l G cI cC cZ cR h (pX3_record x) a1 a2 (by exact whyNoPiano_in (by with_reducible assumption))) (cwV 2 hts gX3_piano_X3_pianoComes rfl rfl rfl (by decide +kernel) ⟨Nat.le_of_ble_eq_true rfl, Nat.le_of_ble_eq_true rfl⟩) (md_recv hK hP rfl) hK hP hD hN rfl hl.1 rfl (Nat.le_of_ble_eq_true rfl) dX3_piano_20) (fun H locs hP hD hS => ?_)
    refine lv_aload_n hx hb dX3_piano_23 rfl (lv_at hl 1 rfl) ?_
    refine go_i hD hS hA (rn_V (As := []) (rest := []) ⟨hx, hb, hml, hown, hts⟩ (ctX3_pianosThere l G cI cC cZ cR h (pX3_pianoComes a1 a2 (pX3_record x))) (cwV 0 hts gX3_piano_X3_pianosThere rfl rfl rfl (by decide +kernel) ⟨Nat.le_of_ble_eq_true rfl, Nat.le_of_ble_eq_true rfl⟩) (md_recv hK hP rfl) hK hP hD hN rfl hl.1 rfl (Nat.le_of_ble_eq_true rfl) dX3_piano_24) (fun H locs hP hD hS => ?_)
    exact rt_b hx hb hr hlocks hP hD hS rfl ((show pX3_piano a1 a2 x = ((pX3_pianosThere (pX3_pianoComes a1 a2 (pX3_record x))), (pX3_pianoComes a1 a2 (pX3_record x))) by rw [pX3_piano, if_pos c_1]).symm.trans hres |>.symm) dX3_piano_27
  · have t_1 := i_nle (z := (0)) (w := (Int32.toInt (pX3_whyNoPiano a1 a2 x))) c_1 (by decide) rfl
    refine lv_iload_n hx hb dX3_piano_11 rfl (lv_at hl 0 rfl) ?_
    exact rt_b hx hb hr hlocks hP hD hS rfl ((show pX3_piano a1 a2 x = ((pX3_whyNoPiano a1 a2 x), x) by rw [pX3_piano, if_neg c_1]).symm.trans hres |>.symm) dX3_piano_12
def pX3_take_L16 (a1 : Int32) : Nat → Int32 → SR → Int32 × SR
  | 0, v2, x => (0, x)
  | n + 1, v2, x => if 6 ≤ v2 then ((pX3_pianosThere x), x)
    else pX3_take_L16 a1 n (v2 + 1) (pX3_setPiano a1 v2 0 x)
def pX3_take (a1 : Int32) (x : SR) : Int32 × SR := if (pX3_isPiano a1 x) = 0 then (((-1) : Int32), x)
  else pX3_take_L16 a1 7 0 (pX3_record x)
set_option maxHeartbeats 4000000 in
set_option maxRecDepth 100000 in
theorem ctX3_take (l : Launch) (G : va_G) (cI cC cZ cR : ClassId) (h : Ad) (x : SR) (a1 : Int32) (q_0 : 0 ≤ Int32.toInt (x.1 0)) (q_1 : Int32.toInt (x.1 0) ≤ 6) : Ct l yX3_take wsX3_take (rmz 3 63) G (TY cI cC cZ cR) [.ref (h 0), .int a1] (wMo cI h x) (Qi G (wMo cI h x) (pX3_take a1 x).1 (wMo cI h (pX3_take a1 x).2)) := by
  refine Ct.ofI (cc := cX3_take) (maxL := 3) (ret := (some .int)) (by decide) rfl rfl ?_
  intro p e s m below meth c A ls E0 hP hD hS hl
  obtain ⟨hx, hb, hr, hml, hlocks, hts, hown, hK, hN, hA⟩ := E0
  have hl : lv_has ls 3 [(0, .ref (h 0)), (1, .int a1)] := hl
  have hin : ∀ w ∈ wsX30, w ∈ wsX3_take := fun w hw => List.mem_cons_of_mem _ (List.mem_append_right _ (hw))
  generalize hres : pX3_take a1 x = res
  have lp_16 : ∀ (n : Nat) (v2 : Int32) (x : SR), 0 ≤ Int32.toInt v2 → Int32.toInt v2 ≤ 6 → vp_in a1 12 → 6 - Int32.toInt v2 < (n : Int) → pX3_take_L16 a1 n v2 x = res → ∀ (H : Heap) (locs : List Loc) (ls : Array Slot), va_P G vwCl (wMo cI h x) H → va_D A (wMo cI h x) → va_S A s.heap H locs → lv_has ls 3 [(0, .ref (h 0)), (1, .int a1), (2, .int v2)] → W p l e (rmz 3 63) s m ([.ref (h 0), .int a1] : List Value).toArray below meth c H locs 0 0 (MQ below (QiA G A res.1 (wMo cI h res.2)) ([.ref (h 0), .int a1] : List Value).toArray s 0 0 A) (F0 m 16 ls []) := by
    intro n
    induction n with
    | zero =>
      intro v2 x g_0 g_1 g_2 hm
      exfalso; omega
    | succ n ih =>
      intro v2 x g_0 g_1 g_2 hm hq H locs ls hP hD hS hl
      refine lv_iload_n hx hb dX3_take_16 rfl (lv_at hl 2 rfl) ?_
      refine lv_bipush (v := 6) hx hb dX3_take_17 (by decide) ?_
      refine lv_icmp_ge (tgt := 35) hx hb dX3_take_19 (by decide) (fun c_2 => ?_) (fun c_2 => ?_)
      · have t_2 := i_le (z := (6)) (w := (Int32.toInt v2)) c_2 (by decide) rfl
        refine lv_aload_n hx hb dX3_take_35 rfl (lv_at hl 0 rfl) ?_
        refine go_i hD hS hA (rn_V (As := []) (rest := []) ⟨hx, hb, hml, hown, hts⟩ (ctX3_pianosThere l G cI cC cZ cR h x) (cwV 0 hts gX3_take_X3_pianosThere rfl rfl rfl (by decide +kernel) ⟨Nat.le_of_ble_eq_true rfl, Nat.le_of_ble_eq_true rfl⟩) (md_recv hK hP rfl) hK hP hD hN rfl hl.1 rfl (Nat.le_of_ble_eq_true rfl) dX3_take_36) (fun H locs hP hD hS => ?_)
        exact rt_b hx hb hr hlocks hP hD hS rfl ((show pX3_take_L16 a1 (n + 1) v2 x = ((pX3_pianosThere x), x) by rw [pX3_take_L16, if_pos c_2]).symm.trans hq |>.symm) dX3_take_39
      · have t_2 := i_nle (z := (6)) (w := (Int32.toInt v2)) c_2 (by decide) rfl
        refine lv_aload_n hx hb dX3_take_22 rfl (lv_at hl 0 rfl) ?_
        refine lv_iload_n hx hb dX3_take_23 rfl (lv_at hl 1 rfl) ?_
        refine lv_iload_n hx hb dX3_take_24 rfl (lv_at hl 2 rfl) ?_
        refine lv_iconst (v := 0) hx hb dX3_take_25 (by decide) ?_
        refine go_v hD hS hA (rn_V (As := [.int a1, .int v2, .int 0]) (rest := []) ⟨hx, hb, hml, hown, hts⟩ (ctX3_setPiano l G cI cC cZ cR h x a1 v2 0 (by exact g_2) (by exact vp_in_iff.mpr ⟨by omega, by omega⟩)) (cwV 3 hts gX3_take_X3_setPiano rfl rfl rfl (by decide +kernel) ⟨Nat.le_of_ble_eq_true rfl, Nat.le_of_ble_eq_true rfl⟩) (md_recv hK hP rfl) hK hP hD hN rfl hl.1 rfl (Nat.le_of_ble_eq_true rfl) dX3_take_26) (fun H locs hP hD hS => ?_)
        refine lv_iinc (v := (v2 + 1)) (lv' := [(2, .int (v2 + 1)), (0, .ref (h 0)), (1, .int a1)]) hx hb dX3_take_29 hl (k := 2) rfl rfl (by decide) rfl (fun ls hl => ?_)
        have a_29 := i_add1 (a := v2) (by omega) (by omega)
        refine lv_goto (tgt := 16) hx hb dX3_take_32 (by decide) ?_
        exact ih (v2 + 1) (pX3_setPiano a1 v2 0 x) (by omega) (by omega) (by exact g_2) (by omega) ((show pX3_take_L16 a1 (n + 1) v2 x = pX3_take_L16 a1 n (v2 + 1) (pX3_setPiano a1 v2 0 x) by rw [pX3_take_L16, if_neg c_2]).symm.trans hq) _ _ _ hP hD hS (lv_sub hl [1, 2, 0] rfl)
  refine lv_aload_n hx hb dX3_take_0 rfl (lv_at hl 0 rfl) ?_
  refine lv_iload_n hx hb dX3_take_1 rfl (lv_at hl 1 rfl) ?_
  refine go_i hD hS hA (rn_V (As := [.int a1]) (rest := []) ⟨hx, hb, hml, hown, hts⟩ (ctX3_isPiano l G cI cC cZ cR h x a1) (cwV 1 hts gX3_take_X3_isPiano rfl rfl rfl (by decide +kernel) ⟨Nat.le_of_ble_eq_true rfl, Nat.le_of_ble_eq_true rfl⟩) (md_recv hK hP rfl) hK hP hD hN rfl hl.1 rfl (Nat.le_of_ble_eq_true rfl) dX3_take_2) (fun H locs hP hD hS => ?_)
  refine lv_if_ne (tgt := 10) hx hb dX3_take_5 (by decide) (fun c_1 => ?_) (fun c_1 => ?_)
  · refine lv_aload_n hx hb dX3_take_10 rfl (lv_at hl 0 rfl) ?_
    refine go_v hD hS hA (rn_V (As := []) (rest := []) ⟨hx, hb, hml, hown, hts⟩ (ctX3_record l G cI cC cZ cR h x (by first | with_reducible assumption | exact vp_in_iff.mpr ⟨by decide, by decide⟩ | exact vp_in_iff.mpr ⟨by omega, by omega⟩ | exact isPlace_in (by with_reducible assumption) | exact has_in (by with_reducible assumption) | exact isPlace3_in (by with_reducible assumption) | exact isPiano_in (by with_reducible assumption) | exact isOpen_in (by with_reducible assumption) | exact nearest3_in (by with_reducible assumption)) (by first | with_reducible assumption | exact vp_in_iff.mpr ⟨by decide, by decide⟩ | exact vp_in_iff.mpr ⟨by omega, by omega⟩ | exact isPlace_in (by with_reducible assumption) | exact has_in (by with_reducible assumption) | exact isPlace3_in (by with_reducible assumption) | exact isPiano_in (by with_reducible assumption) | exact isOpen_in (by with_reducible assumption) | exact nearest3_in (by with_reducible assumption))) (cwV 0 hts gX3_take_X3_record rfl rfl rfl (by decide +kernel) ⟨Nat.le_of_ble_eq_true rfl, Nat.le_of_ble_eq_true rfl⟩) (md_recv hK hP rfl) hK hP hD hN rfl hl.1 rfl (Nat.le_of_ble_eq_true rfl) dX3_take_11) (fun H locs hP hD hS => ?_)
    refine lv_iconst (v := 0) hx hb dX3_take_14 (by decide) ?_
    refine lv_istore_n (lv' := [(2, .int 0), (0, .ref (h 0)), (1, .int a1)]) hx hb dX3_take_15 rfl hl (by decide) rfl (fun ls hl => ?_)
    exact lp_16 7 0 (pX3_record x) (by decide) (by decide) (by exact isPiano_in (by with_reducible assumption)) (by decide) ((show pX3_take a1 x = pX3_take_L16 a1 7 0 (pX3_record x) by rw [pX3_take, if_neg c_1]).symm.trans hres) _ _ _ hP hD hS (lv_sub hl [1, 2, 0] rfl)
  · refine lv_iconst (v := (-1)) hx hb dX3_take_8 (by decide) ?_
    exact rt_b hx hb hr hlocks hP hD hS rfl ((show pX3_take a1 x = (((-1) : Int32), x) by rw [pX3_take, if_pos c_1]).symm.trans hres |>.symm) dX3_take_9
def pX3_whyNoKeeper (a1 : Int32) (x : SR) : Int32 := if (pX3_isPlace a1) = 0 then (-1)
  else if (x.2 0 (ix 11)) = 4 then (-4)
    else 0
set_option maxHeartbeats 4000000 in
set_option maxRecDepth 100000 in
theorem ctX3_whyNoKeeper (l : Launch) (G : va_G) (cI cC cZ cR : ClassId) (h : Ad) (x : SR) (a1 : Int32) : Ct l yX3_whyNoKeeper wsX3_whyNoKeeper (rmz 2 42) G (TY cI cC cZ cR) [.ref (h 0), .int a1] (wMo cI h x) (Qi G (wMo cI h x) (pX3_whyNoKeeper a1 x) (wMo cI h x)) := by
  refine Ct.ofI (cc := cX3_whyNoKeeper) (maxL := 2) (ret := (some .int)) (by decide) rfl rfl ?_
  intro p e s m below meth c A ls E0 hP hD hS hl
  obtain ⟨hx, hb, hr, hml, hlocks, hts, hown, hK, hN, hA⟩ := E0
  have hl : lv_has ls 2 [(0, .ref (h 0)), (1, .int a1)] := hl
  have hin : ∀ w ∈ wsX30, w ∈ wsX3_whyNoKeeper := fun w hw => List.mem_cons_of_mem _ (List.mem_append_right _ (hw))
  have k_7 : (Cond.fieldLink RX3 7 RX3 (TX3 0).2.1 (TX3 0).2.2.1).before ([.ref (h 0), .int a1] : List Value).toArray s = true := hts _ (List.mem_of_getElem? (i := 1) rfl)
  generalize hres : pX3_whyNoKeeper a1 x = res
  refine lv_iload_n hx hb dX3_whyNoKeeper_0 rfl (lv_at hl 1 rfl) ?_
  refine gn_i hP hS hA (rn_S (As := [.int a1]) (rest := []) ⟨hx, hb, hml, hown, hts⟩ (ctX3_isPlace l G cI cC cZ cR a1) (va_cwS 1 hts gX3_whyNoKeeper_X3_isPlace rfl rfl rfl (by decide +kernel) ⟨Nat.le_of_ble_eq_true rfl, Nat.le_of_ble_eq_true rfl⟩) hK nilP (nilD (A := A)) hN rfl hl.1 rfl (Nat.le_of_ble_eq_true rfl) dX3_whyNoKeeper_1) (fun H locs hP hS => ?_)
  refine lv_if_ne (tgt := 11) hx hb dX3_whyNoKeeper_4 (by decide) (fun c_1 => ?_) (fun c_1 => ?_)
  · refine lv_aload_n hx hb dX3_whyNoKeeper_11 rfl (lv_at hl 0 rfl) ?_
    refine md_get (ci := 3) (C := RX3) (T := TX3) (N := 13) (v := .ref (h 1)) hx hb hts hin hown hK hP rfl 0 (by decide) k_7 rfl rfl rfl dX3_whyNoKeeper_12 ?_
    refine lv_bipush (v := 11) hx hb dX3_whyNoKeeper_15 (by decide) ?_
    refine md_ia (v := x.2 0 (ix 11)) hx hb hK hP 0 0 rfl rfl (vp_in_iff.mpr ⟨by decide, by decide⟩) rfl dX3_whyNoKeeper_17 ?_
    refine lv_iconst (v := 4) hx hb dX3_whyNoKeeper_18 (by decide) ?_
    refine lv_icmp_ne (tgt := 27) hx hb dX3_whyNoKeeper_19 (by decide) (fun c_2 => ?_) (fun c_2 => ?_)
    · refine lv_iconst (v := 0) hx hb dX3_whyNoKeeper_27 (by decide) ?_
      exact rt_r hx hb hr hlocks hP hD hS rfl ((show pX3_whyNoKeeper a1 x = 0 by rw [pX3_whyNoKeeper, if_neg c_1, if_neg c_2]).symm.trans hres |>.symm) dX3_whyNoKeeper_28
    · refine lv_bipush (v := (-4)) hx hb dX3_whyNoKeeper_22 (by decide) ?_
      refine lv_goto (tgt := 28) hx hb dX3_whyNoKeeper_24 (by decide) ?_
      exact rt_r hx hb hr hlocks hP hD hS rfl ((show pX3_whyNoKeeper a1 x = (-4) by rw [pX3_whyNoKeeper, if_neg c_1, if_pos c_2]).symm.trans hres |>.symm) dX3_whyNoKeeper_28
  · refine lv_iconst (v := (-1)) hx hb dX3_whyNoKeeper_7 (by decide) ?_
    refine lv_goto (tgt := 28) hx hb dX3_whyNoKeeper_8 (by decide) ?_
    exact rt_r hx hb hr hlocks hP hD hS rfl ((show pX3_whyNoKeeper a1 x = (-1) by rw [pX3_whyNoKeeper, if_pos c_1]).symm.trans hres |>.symm) dX3_whyNoKeeper_28
def pX3_keeperComes_L10 (a1 : Int32) : Nat → Int32 → Int32 → SR → Int32 × SR
  | 0, v2, v3, x => (0, x)
  | n + 1, v2, v3, x => if 5 ≤ v3 then (v2, (pR x 0 11 ((x.2 0 (ix 11)) + 1)))
    else if v3 = 0 then pX3_keeperComes_L10 a1 n v2 (v3 + 1) (pR x 0 ((84 + (5 * v2)) + v3) a1)
      else pX3_keeperComes_L10 a1 n v2 (v3 + 1) (pR x 0 ((84 + (5 * v2)) + v3) 0)
def pX3_keeperComes (a1 : Int32) (x : SR) : Int32 × SR := pX3_keeperComes_L10 a1 6 (x.2 0 (ix 11)) 0 x
set_option maxHeartbeats 4000000 in
set_option maxRecDepth 100000 in
theorem ctX3_keeperComes (l : Launch) (G : va_G) (cI cC cZ cR : ClassId) (h : Ad) (x : SR) (a1 : Int32) (q_0 : 0 ≤ Int32.toInt (x.2 0 (ix 11))) (q_1 : Int32.toInt (x.2 0 (ix 11)) ≤ 4) : Ct l yX3_keeperComes wsX3_keeperComes (rmz 0 0) G (TY cI cC cZ cR) [.ref (h 0), .int a1] (wMo cI h x) (Qi G (wMo cI h x) (pX3_keeperComes a1 x).1 (wMo cI h (pX3_keeperComes a1 x).2)) := by
  refine Ct.ofI (cc := cX3_keeperComes) (maxL := 4) (ret := (some .int)) (by decide) rfl rfl ?_
  intro p e s m below meth c A ls E0 hP hD hS hl
  obtain ⟨hx, hb, hr, hml, hlocks, hts, hown, hK, hN, hA⟩ := E0
  have hl : lv_has ls 4 [(0, .ref (h 0)), (1, .int a1)] := hl
  have hin : ∀ w ∈ wsX30, w ∈ wsX3_keeperComes := fun w hw => List.mem_cons_of_mem _ (List.mem_append_right _ (hw))
  have k_7 : (Cond.fieldLink RX3 7 RX3 (TX3 0).2.1 (TX3 0).2.2.1).before ([.ref (h 0), .int a1] : List Value).toArray s = true := hts _ (List.mem_of_getElem? (i := 1) rfl)
  generalize hres : pX3_keeperComes a1 x = res
  have lp_10 : ∀ (n : Nat) (v2 : Int32) (v3 : Int32) (x : SR), 0 ≤ Int32.toInt v3 → Int32.toInt v3 ≤ 5 → vp_in v2 5 → 5 - Int32.toInt v3 < (n : Int) → pX3_keeperComes_L10 a1 n v2 v3 x = res → ∀ (H : Heap) (locs : List Loc) (ls : Array Slot), va_P G vwCl (wMo cI h x) H → va_D A (wMo cI h x) → va_S A s.heap H locs → lv_has ls 4 [(0, .ref (h 0)), (1, .int a1), (2, .int v2), (3, .int v3)] → W p l e (rmz 0 0) s m ([.ref (h 0), .int a1] : List Value).toArray below meth c H locs 0 0 (MQ below (QiA G A res.1 (wMo cI h res.2)) ([.ref (h 0), .int a1] : List Value).toArray s 0 0 A) (F0 m 10 ls []) := by
    intro n
    induction n with
    | zero =>
      intro v2 v3 x g_0 g_1 g_2 hm
      exfalso; omega
    | succ n ih =>
      intro v2 v3 x g_0 g_1 g_2 hm hq H locs ls hP hD hS hl
      refine lv_iload_n hx hb dX3_keeperComes_10 rfl (lv_at hl 3 rfl) ?_
      refine lv_iconst (v := 5) hx hb dX3_keeperComes_11 (by decide) ?_
      refine lv_icmp_ge (tgt := 43) hx hb dX3_keeperComes_12 (by decide) (fun c_1 => ?_) (fun c_1 => ?_)
      · have t_1 := i_le (z := (5)) (w := (Int32.toInt v3)) c_1 (by decide) rfl
        refine lv_aload_n hx hb dX3_keeperComes_43 rfl (lv_at hl 0 rfl) ?_
        refine md_get (ci := 3) (C := RX3) (T := TX3) (N := 13) (v := .ref (h 1)) hx hb hts hin hown hK hP rfl 0 (by decide) k_7 rfl rfl rfl dX3_keeperComes_44 ?_
        refine lv_bipush (v := 11) hx hb dX3_keeperComes_47 (by decide) ?_
        refine lv_dup2_11 hx hb dX3_keeperComes_49 rfl rfl ?_
        refine md_ia (v := x.2 0 (ix 11)) hx hb hK hP 0 0 rfl rfl (vp_in_iff.mpr ⟨by decide, by decide⟩) rfl dX3_keeperComes_50 ?_
        refine lv_iconst (v := 1) hx hb dX3_keeperComes_51 (by decide) ?_
        refine lv_iadd hx hb dX3_keeperComes_52 ?_
        refine md_is hx hb hK hP hD hS 0 0 rfl rfl (vp_in_iff.mpr ⟨by decide, by decide⟩) dX3_keeperComes_53 (fun H locs hP hD hS => ?_)
        refine lv_iload_n hx hb dX3_keeperComes_54 rfl (lv_at hl 2 rfl) ?_
        exact rt_b hx hb hr hlocks hP hD hS rfl ((show pX3_keeperComes_L10 a1 (n + 1) v2 v3 x = (v2, (pR x 0 11 ((x.2 0 (ix 11)) + 1))) by rw [pX3_keeperComes_L10, if_pos c_1]).symm.trans hq |>.symm) dX3_keeperComes_55
      · have t_1 := i_nle (z := (5)) (w := (Int32.toInt v3)) c_1 (by decide) rfl
        refine lv_aload_n hx hb dX3_keeperComes_15 rfl (lv_at hl 0 rfl) ?_
        refine md_get (ci := 3) (C := RX3) (T := TX3) (N := 13) (v := .ref (h 1)) hx hb hts hin hown hK hP rfl 0 (by decide) k_7 rfl rfl rfl dX3_keeperComes_16 ?_
        refine lv_bipush (v := 84) hx hb dX3_keeperComes_19 (by decide) ?_
        refine lv_iconst (v := 5) hx hb dX3_keeperComes_21 (by decide) ?_
        refine lv_iload_n hx hb dX3_keeperComes_22 rfl (lv_at hl 2 rfl) ?_
        refine lv_imul hx hb dX3_keeperComes_23 ?_
        refine lv_iadd hx hb dX3_keeperComes_24 ?_
        refine lv_iload_n hx hb dX3_keeperComes_25 rfl (lv_at hl 3 rfl) ?_
        refine lv_iadd hx hb dX3_keeperComes_26 ?_
        refine lv_iload_n hx hb dX3_keeperComes_27 rfl (lv_at hl 3 rfl) ?_
        refine lv_if_ne (tgt := 35) hx hb dX3_keeperComes_28 (by decide) (fun c_2 => ?_) (fun c_2 => ?_)
        · refine lv_iconst (v := 0) hx hb dX3_keeperComes_35 (by decide) ?_
          refine md_is hx hb hK hP hD hS 0 0 rfl rfl (by exact kp_in g_2 (vp_in_iff.mpr ⟨by omega, by omega⟩)) dX3_keeperComes_36 (fun H locs hP hD hS => ?_)
          refine lv_iinc (v := (v3 + 1)) (lv' := [(3, .int (v3 + 1)), (0, .ref (h 0)), (1, .int a1), (2, .int v2)]) hx hb dX3_keeperComes_37 hl (k := 3) rfl rfl (by decide) rfl (fun ls hl => ?_)
          have a_37 := i_add1 (a := v3) (by omega) (by omega)
          refine lv_goto (tgt := 10) hx hb dX3_keeperComes_40 (by decide) ?_
          exact ih v2 (v3 + 1) (pR x 0 ((84 + (5 * v2)) + v3) 0) (by omega) (by omega) (by exact g_2) (by omega) ((show pX3_keeperComes_L10 a1 (n + 1) v2 v3 x = pX3_keeperComes_L10 a1 n v2 (v3 + 1) (pR x 0 ((84 + (5 * v2)) + v3) 0) by rw [pX3_keeperComes_L10, if_neg c_1, if_neg c_2]).symm.trans hq) _ _ _ hP hD hS (lv_sub hl [1, 2, 3, 0] rfl)
        · refine lv_iload_n hx hb dX3_keeperComes_31 rfl (lv_at hl 1 rfl) ?_
          refine lv_goto (tgt := 36) hx hb dX3_keeperComes_32 (by decide) ?_
          refine md_is hx hb hK hP hD hS 0 0 rfl rfl (by exact kp_in g_2 (vp_in_iff.mpr ⟨by omega, by omega⟩)) dX3_keeperComes_36 (fun H locs hP hD hS => ?_)
          refine lv_iinc (v := (v3 + 1)) (lv' := [(3, .int (v3 + 1)), (0, .ref (h 0)), (1, .int a1), (2, .int v2)]) hx hb dX3_keeperComes_37 hl (k := 3) rfl rfl (by decide) rfl (fun ls hl => ?_)
          have a_37 := i_add1 (a := v3) (by omega) (by omega)
          refine lv_goto (tgt := 10) hx hb dX3_keeperComes_40 (by decide) ?_
          exact ih v2 (v3 + 1) (pR x 0 ((84 + (5 * v2)) + v3) a1) (by omega) (by omega) (by exact g_2) (by omega) ((show pX3_keeperComes_L10 a1 (n + 1) v2 v3 x = pX3_keeperComes_L10 a1 n v2 (v3 + 1) (pR x 0 ((84 + (5 * v2)) + v3) a1) by rw [pX3_keeperComes_L10, if_neg c_1, if_pos c_2]).symm.trans hq) _ _ _ hP hD hS (lv_sub hl [1, 2, 3, 0] rfl)
  refine lv_aload_n hx hb dX3_keeperComes_0 rfl (lv_at hl 0 rfl) ?_
  refine md_get (ci := 3) (C := RX3) (T := TX3) (N := 13) (v := .ref (h 1)) hx hb hts hin hown hK hP rfl 0 (by decide) k_7 rfl rfl rfl dX3_keeperComes_1 ?_
  refine lv_bipush (v := 11) hx hb dX3_keeperComes_4 (by decide) ?_
  refine md_ia (v := x.2 0 (ix 11)) hx hb hK hP 0 0 rfl rfl (vp_in_iff.mpr ⟨by decide, by decide⟩) rfl dX3_keeperComes_6 ?_
  refine lv_istore_n (lv' := [(2, .int (x.2 0 (ix 11))), (0, .ref (h 0)), (1, .int a1)]) hx hb dX3_keeperComes_7 rfl hl (by decide) rfl (fun ls hl => ?_)
  refine lv_iconst (v := 0) hx hb dX3_keeperComes_8 (by decide) ?_
  refine lv_istore_n (lv' := [(3, .int 0), (2, .int (x.2 0 (ix 11))), (0, .ref (h 0)), (1, .int a1)]) hx hb dX3_keeperComes_9 rfl hl (by decide) rfl (fun ls hl => ?_)
  exact lp_10 6 (x.2 0 (ix 11)) 0 x (by decide) (by decide) (by exact vp_in_iff.mpr ⟨by omega, by omega⟩) (by decide) ((show pX3_keeperComes a1 x = pX3_keeperComes_L10 a1 6 (x.2 0 (ix 11)) 0 x by rw [pX3_keeperComes]).symm.trans hres) _ _ _ hP hD hS (lv_sub hl [2, 3, 1, 0] rfl)
def pX3_keeper (a1 : Int32) (x : SR) : Int32 × SR := if 0 ≤ (pX3_whyNoKeeper a1 x) then ((pX3_keeperComes a1 (pX3_record x)).1, (pX3_keeperComes a1 (pX3_record x)).2)
  else ((pX3_whyNoKeeper a1 x), x)
set_option maxHeartbeats 4000000 in
set_option maxRecDepth 100000 in
theorem ctX3_keeper (l : Launch) (G : va_G) (cI cC cZ cR : ClassId) (h : Ad) (x : SR) (a1 : Int32) (q_0 : 0 ≤ Int32.toInt (x.1 0)) (q_1 : Int32.toInt (x.1 0) ≤ 6) (q_2 : Mf (x.2 0)) : Ct l yX3_keeper wsX3_keeper (rmz 3 63) G (TY cI cC cZ cR) [.ref (h 0), .int a1] (wMo cI h x) (Qi G (wMo cI h x) (pX3_keeper a1 x).1 (wMo cI h (pX3_keeper a1 x).2)) := by
  refine Ct.ofI (cc := cX3_keeper) (maxL := 3) (ret := (some .int)) (by decide) rfl rfl ?_
  intro p e s m below meth c A ls E0 hP hD hS hl
  obtain ⟨hx, hb, hr, hml, hlocks, hts, hown, hK, hN, hA⟩ := E0
  have hl : lv_has ls 3 [(0, .ref (h 0)), (1, .int a1)] := hl
  have hin : ∀ w ∈ wsX30, w ∈ wsX3_keeper := fun w hw => List.mem_cons_of_mem _ (List.mem_append_right _ (hw))
  generalize hres : pX3_keeper a1 x = res
  refine lv_aload_n hx hb dX3_keeper_0 rfl (lv_at hl 0 rfl) ?_
  refine lv_iload_n hx hb dX3_keeper_1 rfl (lv_at hl 1 rfl) ?_
  refine go_i hD hS hA (rn_V (As := [.int a1]) (rest := []) ⟨hx, hb, hml, hown, hts⟩ (ctX3_whyNoKeeper l G cI cC cZ cR h x a1) (cwV 1 hts gX3_keeper_X3_whyNoKeeper rfl rfl rfl (by decide +kernel) ⟨Nat.le_of_ble_eq_true rfl, Nat.le_of_ble_eq_true rfl⟩) (md_recv hK hP rfl) hK hP hD hN rfl hl.1 rfl (Nat.le_of_ble_eq_true rfl) dX3_keeper_2) (fun H locs hP hD hS => ?_)
  refine lv_istore_n (lv' := [(2, .int (pX3_whyNoKeeper a1 x)), (0, .ref (h 0)), (1, .int a1)]) hx hb dX3_keeper_5 rfl hl (by decide) rfl (fun ls hl => ?_)
  refine lv_iload_n hx hb dX3_keeper_6 rfl (lv_at hl 0 rfl) ?_
  refine lv_if_ge (tgt := 12) hx hb dX3_keeper_7 (by decide) (fun c_1 => ?_) (fun c_1 => ?_)
  · have t_1 := i_le (z := (0)) (w := (Int32.toInt (pX3_whyNoKeeper a1 x))) c_1 (by decide) rfl
    refine lv_aload_n hx hb dX3_keeper_12 rfl (lv_at hl 1 rfl) ?_
    refine go_v hD hS hA (rn_V (As := []) (rest := []) ⟨hx, hb, hml, hown, hts⟩ (ctX3_record l G cI cC cZ cR h x (by first | with_reducible assumption | exact vp_in_iff.mpr ⟨by decide, by decide⟩ | exact vp_in_iff.mpr ⟨by omega, by omega⟩ | exact isPlace_in (by with_reducible assumption) | exact has_in (by with_reducible assumption) | exact isPlace3_in (by with_reducible assumption) | exact isPiano_in (by with_reducible assumption) | exact isOpen_in (by with_reducible assumption) | exact nearest3_in (by with_reducible assumption)) (by first | with_reducible assumption | exact vp_in_iff.mpr ⟨by decide, by decide⟩ | exact vp_in_iff.mpr ⟨by omega, by omega⟩ | exact isPlace_in (by with_reducible assumption) | exact has_in (by with_reducible assumption) | exact isPlace3_in (by with_reducible assumption) | exact isPiano_in (by with_reducible assumption) | exact isOpen_in (by with_reducible assumption) | exact nearest3_in (by with_reducible assumption))) (cwV 0 hts gX3_keeper_X3_record rfl rfl rfl (by decide +kernel) ⟨Nat.le_of_ble_eq_true rfl, Nat.le_of_ble_eq_true rfl⟩) (md_recv hK hP rfl) hK hP hD hN rfl hl.1 rfl (Nat.le_of_ble_eq_true rfl) dX3_keeper_13) (fun H locs hP hD hS => ?_)
    refine lv_aload_n hx hb dX3_keeper_16 rfl (lv_at hl 1 rfl) ?_
    refine lv_iload_n hx hb dX3_keeper_17 rfl (lv_at hl 2 rfl) ?_
    refine go_i hD hS hA (rn_V (As := [.int a1]) (rest := []) ⟨hx, hb, hml, hown, hts⟩ (ctX3_keeperComes l G cI cC cZ cR h (pX3_record x) a1 (by rw [record_o _ (by decide)]; exact q_2.1.2.2.1) (by rw [record_o _ (by decide)]; exact q_2.2)) (cwV 1 hts gX3_keeper_X3_keeperComes rfl rfl rfl (by decide +kernel) ⟨Nat.le_of_ble_eq_true rfl, Nat.le_of_ble_eq_true rfl⟩) (md_recv hK hP rfl) hK hP hD hN rfl hl.1 rfl (Nat.le_of_ble_eq_true rfl) dX3_keeper_18) (fun H locs hP hD hS => ?_)
    exact rt_b hx hb hr hlocks hP hD hS rfl ((show pX3_keeper a1 x = ((pX3_keeperComes a1 (pX3_record x)).1, (pX3_keeperComes a1 (pX3_record x)).2) by rw [pX3_keeper, if_pos c_1]).symm.trans hres |>.symm) dX3_keeper_21
  · have t_1 := i_nle (z := (0)) (w := (Int32.toInt (pX3_whyNoKeeper a1 x))) c_1 (by decide) rfl
    refine lv_iload_n hx hb dX3_keeper_10 rfl (lv_at hl 0 rfl) ?_
    exact rt_b hx hb hr hlocks hP hD hS rfl ((show pX3_keeper a1 x = ((pX3_whyNoKeeper a1 x), x) by rw [pX3_keeper, if_neg c_1]).symm.trans hres |>.symm) dX3_keeper_11
def pX3_whyNoCover (a1 : Int32) (x : SR) : Int32 := if (pX3_isPiano a1 x) = 0 then (-1)
  else if (pX3_pianoPart a1 3 x) = 0 then 0
    else (-5)
set_option maxHeartbeats 4000000 in
set_option maxRecDepth 100000 in
theorem ctX3_whyNoCover (l : Launch) (G : va_G) (cI cC cZ cR : ClassId) (h : Ad) (x : SR) (a1 : Int32) : Ct l yX3_whyNoCover wsX3_whyNoCover (rmz 3 63) G (TY cI cC cZ cR) [.ref (h 0), .int a1] (wMo cI h x) (Qi G (wMo cI h x) (pX3_whyNoCover a1 x) (wMo cI h x)) := by
  refine Ct.ofI (cc := cX3_whyNoCover) (maxL := 2) (ret := (some .int)) (by decide) rfl rfl ?_
  intro p e s m below meth c A ls E0 hP hD hS hl
  obtain ⟨hx, hb, hr, hml, hlocks, hts, hown, hK, hN, hA⟩ := E0
  have hl : lv_has ls 2 [(0, .ref (h 0)), (1, .int a1)] := hl
  have hin : ∀ w ∈ wsX30, w ∈ wsX3_whyNoCover := fun w hw => List.mem_cons_of_mem _ (List.mem_append_right _ (hw))
  generalize hres : pX3_whyNoCover a1 x = res
  refine lv_aload_n hx hb dX3_whyNoCover_0 rfl (lv_at hl 0 rfl) ?_
  refine lv_iload_n hx hb dX3_whyNoCover_1 rfl (lv_at hl 1 rfl) ?_
  refine go_i hD hS hA (rn_V (As := [.int a1]) (rest := []) ⟨hx, hb, hml, hown, hts⟩ (ctX3_isPiano l G cI cC cZ cR h x a1) (cwV 1 hts gX3_whyNoCover_X3_isPiano rfl rfl rfl (by decide +kernel) ⟨Nat.le_of_ble_eq_true rfl, Nat.le_of_ble_eq_true rfl⟩) (md_recv hK hP rfl) hK hP hD hN rfl hl.1 rfl (Nat.le_of_ble_eq_true rfl) dX3_whyNoCover_2) (fun H locs hP hD hS => ?_)
  refine lv_if_ne (tgt := 12) hx hb dX3_whyNoCover_5 (by decide) (fun c_1 => ?_) (fun c_1 => ?_)
  · refine lv_aload_n hx hb dX3_whyNoCover_12 rfl (lv_at hl 0 rfl) ?_
    refine lv_iload_n hx hb dX3_whyNoCover_13 rfl (lv_at hl 1 rfl) ?_
    refine lv_iconst (v := 3) hx hb dX3_whyNoCover_14 (by decide) ?_
    refine go_i hD hS hA (rn_V (As := [.int a1, .int 3]) (rest := []) ⟨hx, hb, hml, hown, hts⟩ (ctX3_pianoPart l G cI cC cZ cR h x a1 3 (by first | with_reducible assumption | exact vp_in_iff.mpr ⟨by decide, by decide⟩ | exact vp_in_iff.mpr ⟨by omega, by omega⟩ | exact isPlace_in (by with_reducible assumption) | exact has_in (by with_reducible assumption) | exact isPlace3_in (by with_reducible assumption) | exact isPiano_in (by with_reducible assumption) | exact isOpen_in (by with_reducible assumption) | exact nearest3_in (by with_reducible assumption)) (by first | with_reducible assumption | exact vp_in_iff.mpr ⟨by decide, by decide⟩ | exact vp_in_iff.mpr ⟨by omega, by omega⟩ | exact isPlace_in (by with_reducible assumption) | exact has_in (by with_reducible assumption) | exact isPlace3_in (by with_reducible assumption) | exact isPiano_in (by with_reducible assumption) | exact isOpen_in (by with_reducible assumption) | exact nearest3_in (by with_reducible assumption))) (cwV 2 hts gX3_whyNoCover_X3_pianoPart rfl rfl rfl (by decide +kernel) ⟨Nat.le_of_ble_eq_true rfl, Nat.le_of_ble_eq_true rfl⟩) (md_recv hK hP rfl) hK hP hD hN rfl hl.1 rfl (Nat.le_of_ble_eq_true rfl) dX3_whyNoCover_15) (fun H locs hP hD hS => ?_)
    refine lv_if_eq (tgt := 26) hx hb dX3_whyNoCover_18 (by decide) (fun c_2 => ?_) (fun c_2 => ?_)
    · refine lv_iconst (v := 0) hx hb dX3_whyNoCover_26 (by decide) ?_
      exact rt_r hx hb hr hlocks hP hD hS rfl ((show pX3_whyNoCover a1 x = 0 by rw [pX3_whyNoCover, if_neg c_1, if_pos c_2]).symm.trans hres |>.symm) dX3_whyNoCover_27
    · refine lv_bipush (v := (-5)) hx hb dX3_whyNoCover_21 (by decide) ?_
      refine lv_goto (tgt := 27) hx hb dX3_whyNoCover_23 (by decide) ?_
      exact rt_r hx hb hr hlocks hP hD hS rfl ((show pX3_whyNoCover a1 x = (-5) by rw [pX3_whyNoCover, if_neg c_1, if_neg c_2]).symm.trans hres |>.symm) dX3_whyNoCover_27
  · refine lv_iconst (v := (-1)) hx hb dX3_whyNoCover_8 (by decide) ?_
    refine lv_goto (tgt := 27) hx hb dX3_whyNoCover_9 (by decide) ?_
    exact rt_r hx hb hr hlocks hP hD hS rfl ((show pX3_whyNoCover a1 x = (-1) by rw [pX3_whyNoCover, if_pos c_1]).symm.trans hres |>.symm) dX3_whyNoCover_27
theorem whyNoCover_in {a1 : Int32} {x : SR} (h : 0 ≤ pX3_whyNoCover a1 x) : vp_in a1 12 := by
  rw [pX3_whyNoCover] at h
  by_cases h1 : pX3_isPiano a1 x = 0
  · rw [if_pos h1] at h
    exact absurd h (by decide)
  · exact isPiano_in h1
def pX3_withCovers_L4 : Nat → Int32 → Int32 → SR → Int32
  | 0, v1, v2, x => 0
  | n + 1, v1, v2, x => if 12 ≤ v2 then v1
    else if (pX3_isPiano v2 x) = 0 then pX3_withCovers_L4 n (v1 + 0) (v2 + 1) x
      else if (pX3_pianoPart v2 3 x) = 0 then pX3_withCovers_L4 n (v1 + 0) (v2 + 1) x
        else pX3_withCovers_L4 n (v1 + 1) (v2 + 1) x
def pX3_withCovers (x : SR) : Int32 := pX3_withCovers_L4 13 0 0 x
set_option maxHeartbeats 4000000 in
set_option maxRecDepth 100000 in
theorem ctX3_withCovers (l : Launch) (G : va_G) (cI cC cZ cR : ClassId) (h : Ad) (x : SR) : Ct l yX3_withCovers wsX3_withCovers (rmz 3 63) G (TY cI cC cZ cR) [.ref (h 0)] (wMo cI h x) (Qi G (wMo cI h x) (pX3_withCovers x) (wMo cI h x)) := by
  refine Ct.ofI (cc := cX3_withCovers) (maxL := 3) (ret := (some .int)) (by decide) rfl rfl ?_
  intro p e s m below meth c A ls E0 hP hD hS hl
  obtain ⟨hx, hb, hr, hml, hlocks, hts, hown, hK, hN, hA⟩ := E0
  have hl : lv_has ls 3 [(0, .ref (h 0))] := hl
  have hin : ∀ w ∈ wsX30, w ∈ wsX3_withCovers := fun w hw => List.mem_cons_of_mem _ (List.mem_append_right _ (hw))
  generalize hres : pX3_withCovers x = res
  have lp_4 : ∀ (n : Nat) (v1 : Int32) (v2 : Int32), 0 ≤ Int32.toInt v2 → Int32.toInt v2 ≤ 12 → 12 - Int32.toInt v2 < (n : Int) → pX3_withCovers_L4 n v1 v2 x = res → ∀ (H : Heap) (locs : List Loc) (ls : Array Slot), va_P G vwCl (wMo cI h x) H → va_D A (wMo cI h x) → va_S A s.heap H locs → lv_has ls 3 [(0, .ref (h 0)), (1, .int v1), (2, .int v2)] → W p l e (rmz 3 63) s m ([.ref (h 0)] : List Value).toArray below meth c H locs 0 0 (MQ below (QiA G A res (wMo cI h x)) ([.ref (h 0)] : List Value).toArray s 0 0 A) (F0 m 4 ls []) := by
    intro n
    induction n with
    | zero =>
      intro v1 v2 g_0 g_1 hm
      exfalso; omega
    | succ n ih =>
      intro v1 v2 g_0 g_1 hm hq H locs ls hP hD hS hl
      refine lv_iload_n hx hb dX3_withCovers_4 rfl (lv_at hl 2 rfl) ?_
      refine lv_bipush (v := 12) hx hb dX3_withCovers_5 (by decide) ?_
      refine lv_icmp_ge (tgt := 41) hx hb dX3_withCovers_7 (by decide) (fun c_1 => ?_) (fun c_1 => ?_)
      · have t_1 := i_le (z := (12)) (w := (Int32.toInt v2)) c_1 (by decide) rfl
        refine lv_iload_n hx hb dX3_withCovers_41 rfl (lv_at hl 1 rfl) ?_
        exact rt_r hx hb hr hlocks hP hD hS rfl ((show pX3_withCovers_L4 (n + 1) v1 v2 x = v1 by rw [pX3_withCovers_L4, if_pos c_1]).symm.trans hq |>.symm) dX3_withCovers_42
      · have t_1 := i_nle (z := (12)) (w := (Int32.toInt v2)) c_1 (by decide) rfl
        refine lv_iload_n hx hb dX3_withCovers_10 rfl (lv_at hl 1 rfl) ?_
        refine lv_aload_n hx hb dX3_withCovers_11 rfl (lv_at hl 0 rfl) ?_
        refine lv_iload_n hx hb dX3_withCovers_12 rfl (lv_at hl 2 rfl) ?_
        refine go_i hD hS hA (rn_V (As := [.int v2]) (rest := [.int v1]) ⟨hx, hb, hml, hown, hts⟩ (ctX3_isPiano l G cI cC cZ cR h x v2) (cwV 1 hts gX3_withCovers_X3_isPiano rfl rfl rfl (by decide +kernel) ⟨Nat.le_of_ble_eq_true rfl, Nat.le_of_ble_eq_true rfl⟩) (md_recv hK hP rfl) hK hP hD hN rfl hl.1 rfl (Nat.le_of_ble_eq_true rfl) dX3_withCovers_13) (fun H locs hP hD hS => ?_)
        refine lv_if_eq (tgt := 32) hx hb dX3_withCovers_16 (by decide) (fun c_2 => ?_) (fun c_2 => ?_)
        · refine lv_iconst (v := 0) hx hb dX3_withCovers_32 (by decide) ?_
          refine lv_iadd hx hb dX3_withCovers_33 ?_
          refine lv_istore_n (lv' := [(1, .int (v1 + 0)), (0, .ref (h 0)), (2, .int v2)]) hx hb dX3_withCovers_34 rfl hl (by decide) rfl (fun ls hl => ?_)
          refine lv_iinc (v := (v2 + 1)) (lv' := [(2, .int (v2 + 1)), (1, .int (v1 + 0)), (0, .ref (h 0))]) hx hb dX3_withCovers_35 hl (k := 2) rfl rfl (by decide) rfl (fun ls hl => ?_)
          have a_35 := i_add1 (a := v2) (by omega) (by omega)
          refine lv_goto (tgt := 4) hx hb dX3_withCovers_38 (by decide) ?_
          exact ih (v1 + 0) (v2 + 1) (by omega) (by omega) (by omega) ((show pX3_withCovers_L4 (n + 1) v1 v2 x = pX3_withCovers_L4 n (v1 + 0) (v2 + 1) x by rw [pX3_withCovers_L4, if_neg c_1, if_pos c_2]).symm.trans hq) _ _ _ hP hD hS (lv_sub hl [2, 1, 0] rfl)
        · refine lv_aload_n hx hb dX3_withCovers_19 rfl (lv_at hl 0 rfl) ?_
          refine lv_iload_n hx hb dX3_withCovers_20 rfl (lv_at hl 2 rfl) ?_
          refine lv_iconst (v := 3) hx hb dX3_withCovers_21 (by decide) ?_
          refine go_i hD hS hA (rn_V (As := [.int v2, .int 3]) (rest := [.int v1]) ⟨hx, hb, hml, hown, hts⟩ (ctX3_pianoPart l G cI cC cZ cR h x v2 3 (by first | with_reducible assumption | exact vp_in_iff.mpr ⟨by decide, by decide⟩ | exact vp_in_iff.mpr ⟨by omega, by omega⟩ | exact isPlace_in (by with_reducible assumption) | exact has_in (by with_reducible assumption) | exact isPlace3_in (by with_reducible assumption) | exact isPiano_in (by with_reducible assumption) | exact isOpen_in (by with_reducible assumption) | exact nearest3_in (by with_reducible assumption)) (by first | with_reducible assumption | exact vp_in_iff.mpr ⟨by decide, by decide⟩ | exact vp_in_iff.mpr ⟨by omega, by omega⟩ | exact isPlace_in (by with_reducible assumption) | exact has_in (by with_reducible assumption) | exact isPlace3_in (by with_reducible assumption) | exact isPiano_in (by with_reducible assumption) | exact isOpen_in (by with_reducible assumption) | exact nearest3_in (by with_reducible assumption))) (cwV 2 hts gX3_withCovers_X3_pianoPart rfl rfl rfl (by decide +kernel) ⟨Nat.le_of_ble_eq_true rfl, Nat.le_of_ble_eq_true rfl⟩) (md_recv hK hP rfl) hK hP hD hN rfl hl.1 rfl (Nat.le_of_ble_eq_true rfl) dX3_withCovers_22) (fun H locs hP hD hS => ?_)
          refine lv_if_eq (tgt := 32) hx hb dX3_withCovers_25 (by decide) (fun c_3 => ?_) (fun c_3 => ?_)
          · refine lv_iconst (v := 0) hx hb dX3_withCovers_32 (by decide) ?_
            refine lv_iadd hx hb dX3_withCovers_33 ?_
            refine lv_istore_n (lv' := [(1, .int (v1 + 0)), (0, .ref (h 0)), (2, .int v2)]) hx hb dX3_withCovers_34 rfl hl (by decide) rfl (fun ls hl => ?_)
            refine lv_iinc (v := (v2 + 1)) (lv' := [(2, .int (v2 + 1)), (1, .int (v1 + 0)), (0, .ref (h 0))]) hx hb dX3_withCovers_35 hl (k := 2) rfl rfl (by decide) rfl (fun ls hl => ?_)
            have a_35 := i_add1 (a := v2) (by omega) (by omega)
            refine lv_goto (tgt := 4) hx hb dX3_withCovers_38 (by decide) ?_
            exact ih (v1 + 0) (v2 + 1) (by omega) (by omega) (by omega) ((show pX3_withCovers_L4 (n + 1) v1 v2 x = pX3_withCovers_L4 n (v1 + 0) (v2 + 1) x by rw [pX3_withCovers_L4, if_neg c_1, if_neg c_2, if_pos c_3]).symm.trans hq) _ _ _ hP hD hS (lv_sub hl [2, 1, 0] rfl)
          · refine lv_iconst (v := 1) hx hb dX3_withCovers_28 (by decide) ?_
            refine lv_goto (tgt := 33) hx hb dX3_withCovers_29 (by decide) ?_
            refine lv_iadd hx hb dX3_withCovers_33 ?_
            refine lv_istore_n (lv' := [(1, .int (v1 + 1)), (0, .ref (h 0)), (2, .int v2)]) hx hb dX3_withCovers_34 rfl hl (by decide) rfl (fun ls hl => ?_)
            refine lv_iinc (v := (v2 + 1)) (lv' := [(2, .int (v2 + 1)), (1, .int (v1 + 1)), (0, .ref (h 0))]) hx hb dX3_withCovers_35 hl (k := 2) rfl rfl (by decide) rfl (fun ls hl => ?_)
            have a_35 := i_add1 (a := v2) (by omega) (by omega)
            refine lv_goto (tgt := 4) hx hb dX3_withCovers_38 (by decide) ?_
            exact ih (v1 + 1) (v2 + 1) (by omega) (by omega) (by omega) ((show pX3_withCovers_L4 (n + 1) v1 v2 x = pX3_withCovers_L4 n (v1 + 1) (v2 + 1) x by rw [pX3_withCovers_L4, if_neg c_1, if_neg c_2, if_neg c_3]).symm.trans hq) _ _ _ hP hD hS (lv_sub hl [2, 1, 0] rfl)
  refine lv_iconst (v := 0) hx hb dX3_withCovers_0 (by decide) ?_
  refine lv_istore_n (lv' := [(1, .int 0), (0, .ref (h 0))]) hx hb dX3_withCovers_1 rfl hl (by decide) rfl (fun ls hl => ?_)
  refine lv_iconst (v := 0) hx hb dX3_withCovers_2 (by decide) ?_
  refine lv_istore_n (lv' := [(2, .int 0), (1, .int 0), (0, .ref (h 0))]) hx hb dX3_withCovers_3 rfl hl (by decide) rfl (fun ls hl => ?_)
  exact lp_4 13 0 0 (by first | decide | omega | assumption) (by first | decide | omega | assumption) (by decide) ((show pX3_withCovers x = pX3_withCovers_L4 13 0 0 x by rw [pX3_withCovers]).symm.trans hres) _ _ _ hP hD hS (lv_sub hl [2, 1, 0] rfl)
def pX3_cover (a1 : Int32) (x : SR) : Int32 × SR := if 0 ≤ (pX3_whyNoCover a1 x) then ((pX3_withCovers (pX3_setPiano a1 3 1 (pX3_record x))), (pX3_setPiano a1 3 1 (pX3_record x)))
  else ((pX3_whyNoCover a1 x), x)
set_option maxHeartbeats 4000000 in
set_option maxRecDepth 100000 in
theorem ctX3_cover (l : Launch) (G : va_G) (cI cC cZ cR : ClassId) (h : Ad) (x : SR) (a1 : Int32) (q_0 : 0 ≤ Int32.toInt (x.1 0)) (q_1 : Int32.toInt (x.1 0) ≤ 6) : Ct l yX3_cover wsX3_cover (rmz 4 85) G (TY cI cC cZ cR) [.ref (h 0), .int a1] (wMo cI h x) (Qi G (wMo cI h x) (pX3_cover a1 x).1 (wMo cI h (pX3_cover a1 x).2)) := by
  refine Ct.ofI (cc := cX3_cover) (maxL := 3) (ret := (some .int)) (by decide) rfl rfl ?_
  intro p e s m below meth c A ls E0 hP hD hS hl
  obtain ⟨hx, hb, hr, hml, hlocks, hts, hown, hK, hN, hA⟩ := E0
  have hl : lv_has ls 3 [(0, .ref (h 0)), (1, .int a1)] := hl
  have hin : ∀ w ∈ wsX30, w ∈ wsX3_cover := fun w hw => List.mem_cons_of_mem _ (List.mem_append_right _ (hw))
  generalize hres : pX3_cover a1 x = res
  refine lv_aload_n hx hb dX3_cover_0 rfl (lv_at hl 0 rfl) ?_
  refine lv_iload_n hx hb dX3_cover_1 rfl (lv_at hl 1 rfl) ?_
  refine go_i hD hS hA (rn_V (As := [.int a1]) (rest := []) ⟨hx, hb, hml, hown, hts⟩ (ctX3_whyNoCover l G cI cC cZ cR h x a1) (cwV 1 hts gX3_cover_X3_whyNoCover rfl rfl rfl (by decide +kernel) ⟨Nat.le_of_ble_eq_true rfl, Nat.le_of_ble_eq_true rfl⟩) (md_recv hK hP rfl) hK hP hD hN rfl hl.1 rfl (Nat.le_of_ble_eq_true rfl) dX3_cover_2) (fun H locs hP hD hS => ?_)
  refine lv_istore_n (lv' := [(2, .int (pX3_whyNoCover a1 x)), (0, .ref (h 0)), (1, .int a1)]) hx hb dX3_cover_5 rfl hl (by decide) rfl (fun ls hl => ?_)
  refine lv_iload_n hx hb dX3_cover_6 rfl (lv_at hl 0 rfl) ?_
  refine lv_if_ge (tgt := 12) hx hb dX3_cover_7 (by decide) (fun c_1 => ?_) (fun c_1 => ?_)
  · have t_1 := i_le (z := (0)) (w := (Int32.toInt (pX3_whyNoCover a1 x))) c_1 (by decide) rfl
    refine lv_aload_n hx hb dX3_cover_12 rfl (lv_at hl 1 rfl) ?_
    refine go_v hD hS hA (rn_V (As := []) (rest := []) ⟨hx, hb, hml, hown, hts⟩ (ctX3_record l G cI cC cZ cR h x (by first | with_reducible assumption | exact vp_in_iff.mpr ⟨by decide, by decide⟩ | exact vp_in_iff.mpr ⟨by omega, by omega⟩ | exact isPlace_in (by with_reducible assumption) | exact has_in (by with_reducible assumption) | exact isPlace3_in (by with_reducible assumption) | exact isPiano_in (by with_reducible assumption) | exact isOpen_in (by with_reducible assumption) | exact nearest3_in (by with_reducible assumption)) (by first | with_reducible assumption | exact vp_in_iff.mpr ⟨by decide, by decide⟩ | exact vp_in_iff.mpr ⟨by omega, by omega⟩ | exact isPlace_in (by with_reducible assumption) | exact has_in (by with_reducible assumption) | exact isPlace3_in (by with_reducible assumption) | exact isPiano_in (by with_reducible assumption) | exact isOpen_in (by with_reducible assumption) | exact nearest3_in (by with_reducible assumption))) (cwV 0 hts gX3_cover_X3_record rfl rfl rfl (by decide +kernel) ⟨Nat.le_of_ble_eq_true rfl, Nat.le_of_ble_eq_true rfl⟩) (md_recv hK hP rfl) hK hP hD hN rfl hl.1 rfl (Nat.le_of_ble_eq_true rfl) dX3_cover_13) (fun H locs hP hD hS => ?_)
    refine lv_aload_n hx hb dX3_cover_16 rfl (lv_at hl 1 rfl) ?_
    refine lv_iload_n hx hb dX3_cover_17 rfl (lv_at hl 2 rfl) ?_
    refine lv_iconst (v := 3) hx hb dX3_cover_18 (by decide) ?_
    refine lv_iconst (v := 1) hx hb dX3_cover_19 (by decide) ?_
    refine go_v hD hS hA (rn_V (As := [.int a1, .int 3, .int 1]) (rest := []) ⟨hx, hb, hml, hown, hts⟩ (ctX3_setPiano l G cI cC cZ cR h (pX3_record x) a1 3 1 (by exact whyNoCover_in (by with_reducible assumption)) (by exact li_in (by decide))) (cwV 3 hts gX3_cover_X3_setPiano rfl rfl rfl (by decide +kernel) ⟨Nat.le_of_ble_eq_true rfl, Nat.le_of_ble_eq_true rfl⟩) (md_recv hK hP rfl) hK hP hD hN rfl hl.1 rfl (Nat.le_of_ble_eq_true rfl) dX3_cover_20) (fun H locs hP hD hS => ?_)
    refine lv_aload_n hx hb dX3_cover_23 rfl (lv_at hl 1 rfl) ?_
    refine go_i hD hS hA (rn_V (As := []) (rest := []) ⟨hx, hb, hml, hown, hts⟩ (ctX3_withCovers l G cI cC cZ cR h (pX3_setPiano a1 3 1 (pX3_record x))) (cwV 0 hts gX3_cover_X3_withCovers rfl rfl rfl (by decide +kernel) ⟨Nat.le_of_ble_eq_true rfl, Nat.le_of_ble_eq_true rfl⟩) (md_recv hK hP rfl) hK hP hD hN rfl hl.1 rfl (Nat.le_of_ble_eq_true rfl) dX3_cover_24) (fun H locs hP hD hS => ?_)
    exact rt_b hx hb hr hlocks hP hD hS rfl ((show pX3_cover a1 x = ((pX3_withCovers (pX3_setPiano a1 3 1 (pX3_record x))), (pX3_setPiano a1 3 1 (pX3_record x))) by rw [pX3_cover, if_pos c_1]).symm.trans hres |>.symm) dX3_cover_27
  · have t_1 := i_nle (z := (0)) (w := (Int32.toInt (pX3_whyNoCover a1 x))) c_1 (by decide) rfl
    refine lv_iload_n hx hb dX3_cover_10 rfl (lv_at hl 0 rfl) ?_
    exact rt_b hx hb hr hlocks hP hD hS rfl ((show pX3_cover a1 x = ((pX3_whyNoCover a1 x), x) by rw [pX3_cover, if_neg c_1]).symm.trans hres |>.symm) dX3_cover_11
def pX3_whyNotPassed (a1 : Int32) (x : SR) : Int32 := if (pX3_within a1 1 99) = 0 then (-2)
  else if ((x.2 0 (ix 7)) + a1) ≤ 9999 then 0
    else (-5)
set_option maxHeartbeats 4000000 in
set_option maxRecDepth 100000 in
theorem ctX3_whyNotPassed (l : Launch) (G : va_G) (cI cC cZ cR : ClassId) (h : Ad) (x : SR) (a1 : Int32) : Ct l yX3_whyNotPassed wsX3_whyNotPassed (rmz 1 22) G (TY cI cC cZ cR) [.ref (h 0), .int a1] (wMo cI h x) (Qi G (wMo cI h x) (pX3_whyNotPassed a1 x) (wMo cI h x)) := by
  refine Ct.ofI (cc := cX3_whyNotPassed) (maxL := 2) (ret := (some .int)) (by decide) rfl rfl ?_
  intro p e s m below meth c A ls E0 hP hD hS hl
  obtain ⟨hx, hb, hr, hml, hlocks, hts, hown, hK, hN, hA⟩ := E0
  have hl : lv_has ls 2 [(0, .ref (h 0)), (1, .int a1)] := hl
  have hin : ∀ w ∈ wsX30, w ∈ wsX3_whyNotPassed := fun w hw => List.mem_cons_of_mem _ (List.mem_append_right _ (hw))
  have k_7 : (Cond.fieldLink RX3 7 RX3 (TX3 0).2.1 (TX3 0).2.2.1).before ([.ref (h 0), .int a1] : List Value).toArray s = true := hts _ (List.mem_of_getElem? (i := 1) rfl)
  generalize hres : pX3_whyNotPassed a1 x = res
  refine lv_iload_n hx hb dX3_whyNotPassed_0 rfl (lv_at hl 1 rfl) ?_
  refine lv_iconst (v := 1) hx hb dX3_whyNotPassed_1 (by decide) ?_
  refine lv_bipush (v := 99) hx hb dX3_whyNotPassed_2 (by decide) ?_
  refine gn_i hP hS hA (rn_S (As := [.int a1, .int 1, .int 99]) (rest := []) ⟨hx, hb, hml, hown, hts⟩ (ctX3_within l G cI cC cZ cR a1 1 99) (va_cwS 3 hts gX3_whyNotPassed_X3_within rfl rfl rfl (by decide +kernel) ⟨Nat.le_of_ble_eq_true rfl, Nat.le_of_ble_eq_true rfl⟩) hK nilP (nilD (A := A)) hN rfl hl.1 rfl (Nat.le_of_ble_eq_true rfl) dX3_whyNotPassed_4) (fun H locs hP hS => ?_)
  refine lv_if_ne (tgt := 15) hx hb dX3_whyNotPassed_7 (by decide) (fun c_1 => ?_) (fun c_1 => ?_)
  · refine lv_aload_n hx hb dX3_whyNotPassed_15 rfl (lv_at hl 0 rfl) ?_
    refine md_get (ci := 3) (C := RX3) (T := TX3) (N := 13) (v := .ref (h 1)) hx hb hts hin hown hK hP rfl 0 (by decide) k_7 rfl rfl rfl dX3_whyNotPassed_16 ?_
    refine lv_bipush (v := 7) hx hb dX3_whyNotPassed_19 (by decide) ?_
    refine md_ia (v := x.2 0 (ix 7)) hx hb hK hP 0 0 rfl rfl (vp_in_iff.mpr ⟨by decide, by decide⟩) rfl dX3_whyNotPassed_21 ?_
    refine lv_iload_n hx hb dX3_whyNotPassed_22 rfl (lv_at hl 1 rfl) ?_
    refine lv_iadd hx hb dX3_whyNotPassed_23 ?_
    refine lv_sipush (v := 9999) hx hb dX3_whyNotPassed_24 (by decide) ?_
    refine lv_icmp_le (tgt := 35) hx hb dX3_whyNotPassed_27 (by decide) (fun c_2 => ?_) (fun c_2 => ?_)
    · have t_2 := i_le (z := (Int32.toInt ((x.2 0 (ix 7)) + a1))) (w := (9999)) c_2 rfl (by decide)
      refine lv_iconst (v := 0) hx hb dX3_whyNotPassed_35 (by decide) ?_
      exact rt_r hx hb hr hlocks hP hD hS rfl ((show pX3_whyNotPassed a1 x = 0 by rw [pX3_whyNotPassed, if_neg c_1, if_pos c_2]).symm.trans hres |>.symm) dX3_whyNotPassed_36
    · have t_2 := i_nle (z := (Int32.toInt ((x.2 0 (ix 7)) + a1))) (w := (9999)) c_2 rfl (by decide)
      refine lv_bipush (v := (-5)) hx hb dX3_whyNotPassed_30 (by decide) ?_
      refine lv_goto (tgt := 36) hx hb dX3_whyNotPassed_32 (by decide) ?_
      exact rt_r hx hb hr hlocks hP hD hS rfl ((show pX3_whyNotPassed a1 x = (-5) by rw [pX3_whyNotPassed, if_neg c_1, if_neg c_2]).symm.trans hres |>.symm) dX3_whyNotPassed_36
  · refine lv_bipush (v := (-2)) hx hb dX3_whyNotPassed_10 (by decide) ?_
    refine lv_goto (tgt := 36) hx hb dX3_whyNotPassed_12 (by decide) ?_
    exact rt_r hx hb hr hlocks hP hD hS rfl ((show pX3_whyNotPassed a1 x = (-2) by rw [pX3_whyNotPassed, if_pos c_1]).symm.trans hres |>.symm) dX3_whyNotPassed_36
theorem whyNotPassed_in {a1 : Int32} {x : SR} (h : 0 ≤ pX3_whyNotPassed a1 x) : 0 ≤ Int32.toInt a1 ∧ Int32.toInt a1 ≤ 99 := by
  rw [pX3_whyNotPassed] at h
  by_cases h1 : pX3_within a1 1 99 = 0
  · rw [if_pos h1] at h
    exact absurd h (by decide)
  · have h2 := within_in h1
    rw [show Int32.toInt 1 = 1 from rfl, show Int32.toInt 99 = 99 from rfl] at h2
    omega
theorem MI_rec {x : SR} (h : Mf (x.2 0)) : MI (pX3_record x) := by
  unfold MI
  rw [record_o _ (by decide)]
  exact h.1
def pX3_pass (a1 : Int32) (x : SR) : Int32 × SR := if 0 ≤ (pX3_whyNotPassed a1 x) then ((pX3_passes a1 (pX3_record x)).1, (pX3_passes a1 (pX3_record x)).2)
  else ((pX3_whyNotPassed a1 x), x)
set_option maxHeartbeats 4000000 in
set_option maxRecDepth 100000 in
theorem ctX3_pass (l : Launch) (G : va_G) (cI cC cZ cR : ClassId) (h : Ad) (x : SR) (a1 : Int32) (q_0 : 0 ≤ Int32.toInt (x.1 0)) (q_1 : Int32.toInt (x.1 0) ≤ 6) (q_2 : Mf (x.2 0)) : Ct l yX3_pass wsX3_pass (rmz 10 223) G (TY cI cC cZ cR) [.ref (h 0), .int a1] (wMo cI h x) (Qi G (wMo cI h x) (pX3_pass a1 x).1 (wMo cI h (pX3_pass a1 x).2)) := by
  refine Ct.ofI (cc := cX3_pass) (maxL := 3) (ret := (some .int)) (by decide) rfl rfl ?_
  intro p e s m below meth c A ls E0 hP hD hS hl
  obtain ⟨hx, hb, hr, hml, hlocks, hts, hown, hK, hN, hA⟩ := E0
  have hl : lv_has ls 3 [(0, .ref (h 0)), (1, .int a1)] := hl
  have hin : ∀ w ∈ wsX30, w ∈ wsX3_pass := fun w hw => List.mem_cons_of_mem _ (List.mem_append_right _ (hw))
  generalize hres : pX3_pass a1 x = res
  refine lv_aload_n hx hb dX3_pass_0 rfl (lv_at hl 0 rfl) ?_
  refine lv_iload_n hx hb dX3_pass_1 rfl (lv_at hl 1 rfl) ?_
  refine go_i hD hS hA (rn_V (As := [.int a1]) (rest := []) ⟨hx, hb, hml, hown, hts⟩ (ctX3_whyNotPassed l G cI cC cZ cR h x a1) (cwV 1 hts gX3_pass_X3_whyNotPassed rfl rfl rfl (by decide +kernel) ⟨Nat.le_of_ble_eq_true rfl, Nat.le_of_ble_eq_true rfl⟩) (md_recv hK hP rfl) hK hP hD hN rfl hl.1 rfl (Nat.le_of_ble_eq_true rfl) dX3_pass_2) (fun H locs hP hD hS => ?_)
  refine lv_istore_n (lv' := [(2, .int (pX3_whyNotPassed a1 x)), (0, .ref (h 0)), (1, .int a1)]) hx hb dX3_pass_5 rfl hl (by decide) rfl (fun ls hl => ?_)
  refine lv_iload_n hx hb dX3_pass_6 rfl (lv_at hl 0 rfl) ?_
  refine lv_if_ge (tgt := 12) hx hb dX3_pass_7 (by decide) (fun c_1 => ?_) (fun c_1 => ?_)
  · have t_1 := i_le (z := (0)) (w := (Int32.toInt (pX3_whyNotPassed a1 x))) c_1 (by decide) rfl
    refine lv_aload_n hx hb dX3_pass_12 rfl (lv_at hl 1 rfl) ?_
    refine go_v hD hS hA (rn_V (As := []) (rest := []) ⟨hx, hb, hml, hown, hts⟩ (ctX3_record l G cI cC cZ cR h x (by first | with_reducible assumption | exact vp_in_iff.mpr ⟨by decide, by decide⟩ | exact vp_in_iff.mpr ⟨by omega, by omega⟩ | exact isPlace_in (by with_reducible assumption) | exact has_in (by with_reducible assumption) | exact isPlace3_in (by with_reducible assumption) | exact isPiano_in (by with_reducible assumption) | exact isOpen_in (by with_reducible assumption) | exact nearest3_in (by with_reducible assumption)) (by first | with_reducible assumption | exact vp_in_iff.mpr ⟨by decide, by decide⟩ | exact vp_in_iff.mpr ⟨by omega, by omega⟩ | exact isPlace_in (by with_reducible assumption) | exact has_in (by with_reducible assumption) | exact isPlace3_in (by with_reducible assumption) | exact isPiano_in (by with_reducible assumption) | exact isOpen_in (by with_reducible assumption) | exact nearest3_in (by with_reducible assumption))) (cwV 0 hts gX3_pass_X3_record rfl rfl rfl (by decide +kernel) ⟨Nat.le_of_ble_eq_true rfl, Nat.le_of_ble_eq_true rfl⟩) (md_recv hK hP rfl) hK hP hD hN rfl hl.1 rfl (Nat.le_of_ble_eq_true rfl) dX3_pass_13) (fun H locs hP hD hS => ?_)
    refine lv_aload_n hx hb dX3_pass_16 rfl (lv_at hl 1 rfl) ?_
    refine lv_iload_n hx hb dX3_pass_17 rfl (lv_at hl 2 rfl) ?_
    refine go_i hD hS hA (rn_V (As := [.int a1]) (rest := []) ⟨hx, hb, hml, hown, hts⟩ (ctX3_passes l G cI cC cZ cR h (pX3_record x) a1 (by exact (whyNotPassed_in (by with_reducible assumption)).1) (by exact (whyNotPassed_in (by with_reducible assumption)).2) (by exact MI_rec q_2)) (cwV 1 hts gX3_pass_X3_passes rfl rfl rfl (by decide +kernel) ⟨Nat.le_of_ble_eq_true rfl, Nat.le_of_ble_eq_true rfl⟩) (md_recv hK hP rfl) hK hP hD hN rfl hl.1 rfl (Nat.le_of_ble_eq_true rfl) dX3_pass_18) (fun H locs hP hD hS => ?_)
    exact rt_b hx hb hr hlocks hP hD hS rfl ((show pX3_pass a1 x = ((pX3_passes a1 (pX3_record x)).1, (pX3_passes a1 (pX3_record x)).2) by rw [pX3_pass, if_pos c_1]).symm.trans hres |>.symm) dX3_pass_21
  · have t_1 := i_nle (z := (0)) (w := (Int32.toInt (pX3_whyNotPassed a1 x))) c_1 (by decide) rfl
    refine lv_iload_n hx hb dX3_pass_10 rfl (lv_at hl 0 rfl) ?_
    exact rt_b hx hb hr hlocks hP hD hS rfl ((show pX3_pass a1 x = ((pX3_whyNotPassed a1 x), x) by rw [pX3_pass, if_neg c_1]).symm.trans hres |>.symm) dX3_pass_11
