def pX2_isPlace (a1 : Int32) : Int32 := if a1 < 0 then 0
  else if 12 ≤ a1 then 0
    else 1
set_option maxHeartbeats 4000000 in
set_option maxRecDepth 100000 in
theorem ctX2_isPlace (l : Launch) (G : va_G) (cI cC cZ cR : ClassId) (a1 : Int32) : Ct l yX2_isPlace wsX2_isPlace (rmz 0 0) G (TY cI cC cZ cR) [.int a1] [] (Qi G [] (pX2_isPlace a1) []) := by
  refine Ct.ofI (cc := cX2_isPlace) (maxL := 1) (ret := (some .boolean)) (by decide) rfl rfl ?_
  intro p e s m below meth c A ls E0 hP hD hS hl
  obtain ⟨hx, hb, hr, hml, hlocks, hts, hown, hK, hN, hA⟩ := E0
  have hl : lv_has ls 1 [(0, .int a1)] := hl
  generalize hres : pX2_isPlace a1 = res
  refine lv_iload_n hx hb dX2_isPlace_0 rfl (lv_at hl 0 rfl) ?_
  refine lv_if_lt (tgt := 14) hx hb dX2_isPlace_1 (by decide) (fun c_1 => ?_) (fun c_1 => ?_)
  · have t_1 := i_lt (z := (Int32.toInt a1)) (w := (0)) c_1 rfl (by decide)
    refine lv_iconst (v := 0) hx hb dX2_isPlace_14 (by decide) ?_
    exact rt_r hx hb hr hlocks hP hD hS rfl ((show pX2_isPlace a1 = 0 by rw [pX2_isPlace, if_pos c_1]).symm.trans hres |>.symm) dX2_isPlace_15
  · have t_1 := i_nlt (z := (Int32.toInt a1)) (w := (0)) c_1 rfl (by decide)
    refine lv_iload_n hx hb dX2_isPlace_4 rfl (lv_at hl 0 rfl) ?_
    refine lv_bipush (v := 12) hx hb dX2_isPlace_5 (by decide) ?_
    refine lv_icmp_ge (tgt := 14) hx hb dX2_isPlace_7 (by decide) (fun c_2 => ?_) (fun c_2 => ?_)
    · have t_2 := i_le (z := (12)) (w := (Int32.toInt a1)) c_2 (by decide) rfl
      refine lv_iconst (v := 0) hx hb dX2_isPlace_14 (by decide) ?_
      exact rt_r hx hb hr hlocks hP hD hS rfl ((show pX2_isPlace a1 = 0 by rw [pX2_isPlace, if_neg c_1, if_pos c_2]).symm.trans hres |>.symm) dX2_isPlace_15
    · have t_2 := i_nle (z := (12)) (w := (Int32.toInt a1)) c_2 (by decide) rfl
      refine lv_iconst (v := 1) hx hb dX2_isPlace_10 (by decide) ?_
      refine lv_goto (tgt := 15) hx hb dX2_isPlace_11 (by decide) ?_
      exact rt_r hx hb hr hlocks hP hD hS rfl ((show pX2_isPlace a1 = 1 by rw [pX2_isPlace, if_neg c_1, if_neg c_2]).symm.trans hres |>.symm) dX2_isPlace_15
def pX2_has (a1 : Int32) (a2 : Int32) : Int32 := if a2 < 0 then 0
  else if 12 ≤ a2 then 0
    else if ((ush a1 a2) &&& 1) = 1 then 1
      else 0
set_option maxHeartbeats 4000000 in
set_option maxRecDepth 100000 in
theorem ctX2_has (l : Launch) (G : va_G) (cI cC cZ cR : ClassId) (a1 : Int32) (a2 : Int32) : Ct l yX2_has wsX2_has (rmz 0 0) G (TY cI cC cZ cR) [.int a1, .int a2] [] (Qi G [] (pX2_has a1 a2) []) := by
  refine Ct.ofI (cc := cX2_has) (maxL := 2) (ret := (some .boolean)) (by decide) rfl rfl ?_
  intro p e s m below meth c A ls E0 hP hD hS hl
  obtain ⟨hx, hb, hr, hml, hlocks, hts, hown, hK, hN, hA⟩ := E0
  have hl : lv_has ls 2 [(0, .int a1), (1, .int a2)] := hl
  generalize hres : pX2_has a1 a2 = res
  refine lv_iload_n hx hb dX2_has_0 rfl (lv_at hl 1 rfl) ?_
  refine lv_if_lt (tgt := 23) hx hb dX2_has_1 (by decide) (fun c_1 => ?_) (fun c_1 => ?_)
  · have t_1 := i_lt (z := (Int32.toInt a2)) (w := (0)) c_1 rfl (by decide)
    refine lv_iconst (v := 0) hx hb dX2_has_23 (by decide) ?_
    exact rt_r hx hb hr hlocks hP hD hS rfl ((show pX2_has a1 a2 = 0 by rw [pX2_has, if_pos c_1]).symm.trans hres |>.symm) dX2_has_24
  · have t_1 := i_nlt (z := (Int32.toInt a2)) (w := (0)) c_1 rfl (by decide)
    refine lv_iload_n hx hb dX2_has_4 rfl (lv_at hl 1 rfl) ?_
    refine lv_bipush (v := 12) hx hb dX2_has_5 (by decide) ?_
    refine lv_icmp_ge (tgt := 23) hx hb dX2_has_7 (by decide) (fun c_2 => ?_) (fun c_2 => ?_)
    · have t_2 := i_le (z := (12)) (w := (Int32.toInt a2)) c_2 (by decide) rfl
      refine lv_iconst (v := 0) hx hb dX2_has_23 (by decide) ?_
      exact rt_r hx hb hr hlocks hP hD hS rfl ((show pX2_has a1 a2 = 0 by rw [pX2_has, if_neg c_1, if_pos c_2]).symm.trans hres |>.symm) dX2_has_24
    · have t_2 := i_nle (z := (12)) (w := (Int32.toInt a2)) c_2 (by decide) rfl
      refine lv_iload_n hx hb dX2_has_10 rfl (lv_at hl 0 rfl) ?_
      refine lv_iload_n hx hb dX2_has_11 rfl (lv_at hl 1 rfl) ?_
      refine lv_iushr (v := (ush a1 a2)) hx hb dX2_has_12 rfl ?_
      refine lv_iconst (v := 1) hx hb dX2_has_13 (by decide) ?_
      refine lv_iand hx hb dX2_has_14 ?_
      refine lv_iconst (v := 1) hx hb dX2_has_15 (by decide) ?_
      refine lv_icmp_ne (tgt := 23) hx hb dX2_has_16 (by decide) (fun c_3 => ?_) (fun c_3 => ?_)
      · refine lv_iconst (v := 0) hx hb dX2_has_23 (by decide) ?_
        exact rt_r hx hb hr hlocks hP hD hS rfl ((show pX2_has a1 a2 = 0 by rw [pX2_has, if_neg c_1, if_neg c_2, if_neg c_3]).symm.trans hres |>.symm) dX2_has_24
      · refine lv_iconst (v := 1) hx hb dX2_has_19 (by decide) ?_
        refine lv_goto (tgt := 24) hx hb dX2_has_20 (by decide) ?_
        exact rt_r hx hb hr hlocks hP hD hS rfl ((show pX2_has a1 a2 = 1 by rw [pX2_has, if_neg c_1, if_neg c_2, if_pos c_3]).symm.trans hres |>.symm) dX2_has_24
def pJ6_bitCount_0f7a4 (a1 : Int32) : Int32 := ((((((((a1 - ((ush a1 1) &&& 1431655765)) &&& 858993459) + ((ush (a1 - ((ush a1 1) &&& 1431655765)) 2) &&& 858993459)) + (ush (((a1 - ((ush a1 1) &&& 1431655765)) &&& 858993459) + ((ush (a1 - ((ush a1 1) &&& 1431655765)) 2) &&& 858993459)) 4)) &&& 252645135) + (ush (((((a1 - ((ush a1 1) &&& 1431655765)) &&& 858993459) + ((ush (a1 - ((ush a1 1) &&& 1431655765)) 2) &&& 858993459)) + (ush (((a1 - ((ush a1 1) &&& 1431655765)) &&& 858993459) + ((ush (a1 - ((ush a1 1) &&& 1431655765)) 2) &&& 858993459)) 4)) &&& 252645135) 8)) + (ush ((((((a1 - ((ush a1 1) &&& 1431655765)) &&& 858993459) + ((ush (a1 - ((ush a1 1) &&& 1431655765)) 2) &&& 858993459)) + (ush (((a1 - ((ush a1 1) &&& 1431655765)) &&& 858993459) + ((ush (a1 - ((ush a1 1) &&& 1431655765)) 2) &&& 858993459)) 4)) &&& 252645135) + (ush (((((a1 - ((ush a1 1) &&& 1431655765)) &&& 858993459) + ((ush (a1 - ((ush a1 1) &&& 1431655765)) 2) &&& 858993459)) + (ush (((a1 - ((ush a1 1) &&& 1431655765)) &&& 858993459) + ((ush (a1 - ((ush a1 1) &&& 1431655765)) 2) &&& 858993459)) 4)) &&& 252645135) 8)) 16)) &&& 63)
set_option maxHeartbeats 4000000 in
set_option maxRecDepth 100000 in
theorem ctJ6_bitCount_0f7a4 (l : Launch) (G : va_G) (cI cC cZ cR : ClassId) (a1 : Int32) : Ct l yJ6_bitCount_0f7a4 wsJ6_bitCount_0f7a4 (rmz 0 0) G (TY cI cC cZ cR) [.int a1] [] (Qi G [] (pJ6_bitCount_0f7a4 a1) []) := by
  refine Ct.ofI (cc := cJ6_bitCount_0f7a4) (maxL := 1) (ret := (some .int)) (by decide) rfl rfl ?_
  intro p e s m below meth c A ls E0 hP hD hS hl
  obtain ⟨hx, hb, hr, hml, hlocks, hts, hown, hK, hN, hA⟩ := E0
  have hl : lv_has ls 1 [(0, .int a1)] := hl
  have k_265 : (Cond.constant RJ6 265 1431655765).before ([.int a1] : List Value).toArray s = true := hts _ (List.mem_of_getElem? (i := 1) rfl)
  have k_266 : (Cond.constant RJ6 266 858993459).before ([.int a1] : List Value).toArray s = true := hts _ (List.mem_of_getElem? (i := 2) rfl)
  have k_267 : (Cond.constant RJ6 267 252645135).before ([.int a1] : List Value).toArray s = true := hts _ (List.mem_of_getElem? (i := 3) rfl)
  generalize hres : pJ6_bitCount_0f7a4 a1 = res
  refine lv_iload_n hx hb dJ6_bitCount_0f7a4_0 rfl (lv_at hl 0 rfl) ?_
  refine lv_iload_n hx hb dJ6_bitCount_0f7a4_1 rfl (lv_at hl 0 rfl) ?_
  refine lv_iconst (v := 1) hx hb dJ6_bitCount_0f7a4_2 (by decide) ?_
  refine lv_iushr (v := (ush a1 1)) hx hb dJ6_bitCount_0f7a4_3 rfl ?_
  refine lv_ldcw hx hb hown k_265 dJ6_bitCount_0f7a4_4 ?_
  refine lv_iand hx hb dJ6_bitCount_0f7a4_7 ?_
  refine lv_isub hx hb dJ6_bitCount_0f7a4_8 ?_
  refine lv_istore_n (lv' := [(0, .int (a1 - ((ush a1 1) &&& 1431655765)))]) hx hb dJ6_bitCount_0f7a4_9 rfl hl (by decide) rfl (fun ls hl => ?_)
  refine lv_iload_n hx hb dJ6_bitCount_0f7a4_10 rfl (lv_at hl 0 rfl) ?_
  refine lv_ldcw hx hb hown k_266 dJ6_bitCount_0f7a4_11 ?_
  refine lv_iand hx hb dJ6_bitCount_0f7a4_14 ?_
  refine lv_iload_n hx hb dJ6_bitCount_0f7a4_15 rfl (lv_at hl 0 rfl) ?_
  refine lv_iconst (v := 2) hx hb dJ6_bitCount_0f7a4_16 (by decide) ?_
  refine lv_iushr (v := (ush (a1 - ((ush a1 1) &&& 1431655765)) 2)) hx hb dJ6_bitCount_0f7a4_17 rfl ?_
  refine lv_ldcw hx hb hown k_266 dJ6_bitCount_0f7a4_18 ?_
  refine lv_iand hx hb dJ6_bitCount_0f7a4_21 ?_
  refine lv_iadd hx hb dJ6_bitCount_0f7a4_22 ?_
  refine lv_istore_n (lv' := [(0, .int (((a1 - ((ush a1 1) &&& 1431655765)) &&& 858993459) + ((ush (a1 - ((ush a1 1) &&& 1431655765)) 2) &&& 858993459)))]) hx hb dJ6_bitCount_0f7a4_23 rfl hl (by decide) rfl (fun ls hl => ?_)
  refine lv_iload_n hx hb dJ6_bitCount_0f7a4_24 rfl (lv_at hl 0 rfl) ?_
  refine lv_iload_n hx hb dJ6_bitCount_0f7a4_25 rfl (lv_at hl 0 rfl) ?_
  refine lv_iconst (v := 4) hx hb dJ6_bitCount_0f7a4_26 (by decide) ?_
  refine lv_iushr (v := (ush (((a1 - ((ush a1 1) &&& 1431655765)) &&& 858993459) + ((ush (a1 - ((ush a1 1) &&& 1431655765)) 2) &&& 858993459)) 4)) hx hb dJ6_bitCount_0f7a4_27 rfl ?_
  refine lv_iadd hx hb dJ6_bitCount_0f7a4_28 ?_
  refine lv_ldcw hx hb hown k_267 dJ6_bitCount_0f7a4_29 ?_
  refine lv_iand hx hb dJ6_bitCount_0f7a4_32 ?_
  refine lv_istore_n (lv' := [(0, .int (((((a1 - ((ush a1 1) &&& 1431655765)) &&& 858993459) + ((ush (a1 - ((ush a1 1) &&& 1431655765)) 2) &&& 858993459)) + (ush (((a1 - ((ush a1 1) &&& 1431655765)) &&& 858993459) + ((ush (a1 - ((ush a1 1) &&& 1431655765)) 2) &&& 858993459)) 4)) &&& 252645135))]) hx hb dJ6_bitCount_0f7a4_33 rfl hl (by decide) rfl (fun ls hl => ?_)
  refine lv_iload_n hx hb dJ6_bitCount_0f7a4_34 rfl (lv_at hl 0 rfl) ?_
  refine lv_iload_n hx hb dJ6_bitCount_0f7a4_35 rfl (lv_at hl 0 rfl) ?_
  refine lv_bipush (v := 8) hx hb dJ6_bitCount_0f7a4_36 (by decide) ?_
  refine lv_iushr (v := (ush (((((a1 - ((ush a1 1) &&& 1431655765)) &&& 858993459) + ((ush (a1 - ((ush a1 1) &&& 1431655765)) 2) &&& 858993459)) + (ush (((a1 - ((ush a1 1) &&& 1431655765)) &&& 858993459) + ((ush (a1 - ((ush a1 1) &&& 1431655765)) 2) &&& 858993459)) 4)) &&& 252645135) 8)) hx hb dJ6_bitCount_0f7a4_38 rfl ?_
  refine lv_iadd hx hb dJ6_bitCount_0f7a4_39 ?_
  refine lv_istore_n (lv' := [(0, .int ((((((a1 - ((ush a1 1) &&& 1431655765)) &&& 858993459) + ((ush (a1 - ((ush a1 1) &&& 1431655765)) 2) &&& 858993459)) + (ush (((a1 - ((ush a1 1) &&& 1431655765)) &&& 858993459) + ((ush (a1 - ((ush a1 1) &&& 1431655765)) 2) &&& 858993459)) 4)) &&& 252645135) + (ush (((((a1 - ((ush a1 1) &&& 1431655765)) &&& 858993459) + ((ush (a1 - ((ush a1 1) &&& 1431655765)) 2) &&& 858993459)) + (ush (((a1 - ((ush a1 1) &&& 1431655765)) &&& 858993459) + ((ush (a1 - ((ush a1 1) &&& 1431655765)) 2) &&& 858993459)) 4)) &&& 252645135) 8)))]) hx hb dJ6_bitCount_0f7a4_40 rfl hl (by decide) rfl (fun ls hl => ?_)
  refine lv_iload_n hx hb dJ6_bitCount_0f7a4_41 rfl (lv_at hl 0 rfl) ?_
  refine lv_iload_n hx hb dJ6_bitCount_0f7a4_42 rfl (lv_at hl 0 rfl) ?_
  refine lv_bipush (v := 16) hx hb dJ6_bitCount_0f7a4_43 (by decide) ?_
  refine lv_iushr (v := (ush ((((((a1 - ((ush a1 1) &&& 1431655765)) &&& 858993459) + ((ush (a1 - ((ush a1 1) &&& 1431655765)) 2) &&& 858993459)) + (ush (((a1 - ((ush a1 1) &&& 1431655765)) &&& 858993459) + ((ush (a1 - ((ush a1 1) &&& 1431655765)) 2) &&& 858993459)) 4)) &&& 252645135) + (ush (((((a1 - ((ush a1 1) &&& 1431655765)) &&& 858993459) + ((ush (a1 - ((ush a1 1) &&& 1431655765)) 2) &&& 858993459)) + (ush (((a1 - ((ush a1 1) &&& 1431655765)) &&& 858993459) + ((ush (a1 - ((ush a1 1) &&& 1431655765)) 2) &&& 858993459)) 4)) &&& 252645135) 8)) 16)) hx hb dJ6_bitCount_0f7a4_45 rfl ?_
  refine lv_iadd hx hb dJ6_bitCount_0f7a4_46 ?_
  refine lv_istore_n (lv' := [(0, .int (((((((a1 - ((ush a1 1) &&& 1431655765)) &&& 858993459) + ((ush (a1 - ((ush a1 1) &&& 1431655765)) 2) &&& 858993459)) + (ush (((a1 - ((ush a1 1) &&& 1431655765)) &&& 858993459) + ((ush (a1 - ((ush a1 1) &&& 1431655765)) 2) &&& 858993459)) 4)) &&& 252645135) + (ush (((((a1 - ((ush a1 1) &&& 1431655765)) &&& 858993459) + ((ush (a1 - ((ush a1 1) &&& 1431655765)) 2) &&& 858993459)) + (ush (((a1 - ((ush a1 1) &&& 1431655765)) &&& 858993459) + ((ush (a1 - ((ush a1 1) &&& 1431655765)) 2) &&& 858993459)) 4)) &&& 252645135) 8)) + (ush ((((((a1 - ((ush a1 1) &&& 1431655765)) &&& 858993459) + ((ush (a1 - ((ush a1 1) &&& 1431655765)) 2) &&& 858993459)) + (ush (((a1 - ((ush a1 1) &&& 1431655765)) &&& 858993459) + ((ush (a1 - ((ush a1 1) &&& 1431655765)) 2) &&& 858993459)) 4)) &&& 252645135) + (ush (((((a1 - ((ush a1 1) &&& 1431655765)) &&& 858993459) + ((ush (a1 - ((ush a1 1) &&& 1431655765)) 2) &&& 858993459)) + (ush (((a1 - ((ush a1 1) &&& 1431655765)) &&& 858993459) + ((ush (a1 - ((ush a1 1) &&& 1431655765)) 2) &&& 858993459)) 4)) &&& 252645135) 8)) 16)))]) hx hb dJ6_bitCount_0f7a4_47 rfl hl (by decide) rfl (fun ls hl => ?_)
  refine lv_iload_n hx hb dJ6_bitCount_0f7a4_48 rfl (lv_at hl 0 rfl) ?_
  refine lv_bipush (v := 63) hx hb dJ6_bitCount_0f7a4_49 (by decide) ?_
  refine lv_iand hx hb dJ6_bitCount_0f7a4_51 ?_
  exact rt_r hx hb hr hlocks hP hD hS rfl ((show pJ6_bitCount_0f7a4 a1 = ((((((((a1 - ((ush a1 1) &&& 1431655765)) &&& 858993459) + ((ush (a1 - ((ush a1 1) &&& 1431655765)) 2) &&& 858993459)) + (ush (((a1 - ((ush a1 1) &&& 1431655765)) &&& 858993459) + ((ush (a1 - ((ush a1 1) &&& 1431655765)) 2) &&& 858993459)) 4)) &&& 252645135) + (ush (((((a1 - ((ush a1 1) &&& 1431655765)) &&& 858993459) + ((ush (a1 - ((ush a1 1) &&& 1431655765)) 2) &&& 858993459)) + (ush (((a1 - ((ush a1 1) &&& 1431655765)) &&& 858993459) + ((ush (a1 - ((ush a1 1) &&& 1431655765)) 2) &&& 858993459)) 4)) &&& 252645135) 8)) + (ush ((((((a1 - ((ush a1 1) &&& 1431655765)) &&& 858993459) + ((ush (a1 - ((ush a1 1) &&& 1431655765)) 2) &&& 858993459)) + (ush (((a1 - ((ush a1 1) &&& 1431655765)) &&& 858993459) + ((ush (a1 - ((ush a1 1) &&& 1431655765)) 2) &&& 858993459)) 4)) &&& 252645135) + (ush (((((a1 - ((ush a1 1) &&& 1431655765)) &&& 858993459) + ((ush (a1 - ((ush a1 1) &&& 1431655765)) 2) &&& 858993459)) + (ush (((a1 - ((ush a1 1) &&& 1431655765)) &&& 858993459) + ((ush (a1 - ((ush a1 1) &&& 1431655765)) 2) &&& 858993459)) 4)) &&& 252645135) 8)) 16)) &&& 63) by rw [pJ6_bitCount_0f7a4]).symm.trans hres |>.symm) dJ6_bitCount_0f7a4_52
theorem isPlace_in {p : Int32} (h : ¬ pX2_isPlace p = 0) : vp_in p 12 := by
  unfold pX2_isPlace at h
  split at h
  · exact absurd rfl h
  · rename_i h1
    split at h
    · exact absurd rfl h
    · rename_i h2
      have := i_nlt (z := Int32.toInt p) (w := 0) h1 rfl (by decide)
      have := i_nle (z := 12) (w := Int32.toInt p) h2 (by decide) rfl
      exact vp_in_iff.mpr ⟨by omega, by omega⟩
theorem has_in {x p : Int32} (h : ¬ pX2_has x p = 0) : vp_in p 12 := by
  unfold pX2_has at h
  split at h
  · exact absurd rfl h
  · rename_i h1
    split at h
    · exact absurd rfl h
    · rename_i h2
      have := i_nlt (z := Int32.toInt p) (w := 0) h1 rfl (by decide)
      have := i_nle (z := 12) (w := Int32.toInt p) h2 (by decide) rfl
      exact vp_in_iff.mpr ⟨by omega, by omega⟩
theorem has_b (x p : Int32) : pX2_has x p = 0 ∨ pX2_has x p = 1 := by
  unfold pX2_has
  repeat' split
  all_goals first | exact Or.inl rfl | exact Or.inr rfl
