theorem ah_sum {a b : Int32} (h0 : 0 ≤ Int32.toInt a) (h1 : Int32.toInt a ≤ 200000) (h2 : 0 ≤ Int32.toInt b) (h3 : Int32.toInt b ≤ 12) : Int32.toInt (a + b) = Int32.toInt a + Int32.toInt b := by
  rw [Int32.toInt_add, Int.bmod_eq_of_le] <;> omega
def pL_low (a1 : Int32) (a2 : Int32) : Int32 := ((a1 &&& 2147483647) - (a1 &&& 2147483647) / a2 * a2)
set_option maxHeartbeats 2000000 in
set_option maxRecDepth 100000 in
theorem ctL_low (l : Launch) (G : va_G) (cI cC cZ cR : ClassId) (a1 : Int32) (a2 : Int32) (q_0 : ¬ a2 = 0) : Ct l yL_low wsL_low (rmz 0 0) G (TY cI cC cZ cR) [.int a1, .int a2] [] (Qi G [] (pL_low a1 a2) []) := by
  refine Ct.ofI (cc := cL_low) (maxL := 2) (ret := (some .int)) (by decide) rfl rfl ?_
  intro p e s m below meth c A ls E0 hP hD hS hl
  obtain ⟨hx, hb, hr, hml, hlocks, hts, hown, hK, hN, hA⟩ := E0
  have hl : lv_has ls 2 [(0, .int a1), (1, .int a2)] := hl
  have k_9 : (Cond.constant RL 9 2147483647).before ([.int a1, .int a2] : List Value).toArray s = true := hts _ (List.mem_of_getElem? (i := 1) rfl)
  refine lv_iload_n hx hb dL_low_0 rfl (lv_at hl 0 rfl) ?_
  refine lv_ldc hx hb hown k_9 dL_low_1 ?_
  refine lv_iand hx hb dL_low_3 ?_
  refine lv_iload_n hx hb dL_low_4 rfl (lv_at hl 1 rfl) ?_
  refine lv_irem hx hb dL_low_5 (by exact q_0) ?_
  exact rt_i hx hb hr hlocks hP hD hS rfl (show pL_low a1 a2 = ((a1 &&& 2147483647) - (a1 &&& 2147483647) / a2 * a2) by rw [pL_low]).symm dL_low_6
def pL_near_L2 (w0 : Int32) (w1 : Int32) : Nat → Int32 → (Int32)
  | 0, v2 => 0
  | n + 1, v2 => if 12 ≤ v2 then (-1)
    else if (w1 - v2) < 0 then if 12 ≤ (w1 + v2) then pL_near_L2 w0 w1 n (v2 + 1)
        else if ((w0 >>> ((w1 + v2) &&& 31)) &&& 1) = 1 then (w1 + v2)
          else pL_near_L2 w0 w1 n (v2 + 1)
      else if ((w0 >>> ((w1 - v2) &&& 31)) &&& 1) = 1 then (w1 - v2)
        else if 12 ≤ (w1 + v2) then pL_near_L2 w0 w1 n (v2 + 1)
          else if ((w0 >>> ((w1 + v2) &&& 31)) &&& 1) = 1 then (w1 + v2)
            else pL_near_L2 w0 w1 n (v2 + 1)
def pL_near (a1 : Int32) (a2 : Int32) : Int32 := pL_near_L2 a1 a2 13 0
set_option maxHeartbeats 2000000 in
set_option maxRecDepth 100000 in
theorem ctL_near (l : Launch) (G : va_G) (cI cC cZ cR : ClassId) (a1 : Int32) (a2 : Int32) : Ct l yL_near wsL_near (rmz 0 0) G (TY cI cC cZ cR) [.int a1, .int a2] [] (Qi G [] (pL_near a1 a2) []) := by
  refine Ct.ofI (cc := cL_near) (maxL := 3) (ret := (some .int)) (by decide) rfl rfl ?_
  intro p e s m below meth c A ls E0 hP hD hS hl
  obtain ⟨hx, hb, hr, hml, hlocks, hts, hown, hK, hN, hA⟩ := E0
  have hl : lv_has ls 3 [(0, .int a1), (1, .int a2)] := hl
  have lp_2 : ∀ (w0 : Int32) (w1 : Int32) (n : Nat) (v2 : Int32), 0 ≤ Int32.toInt v2 → Int32.toInt v2 ≤ 12 → 12 - Int32.toInt v2 < (n : Int) → pL_near_L2 w0 w1 n v2 = pL_near a1 a2 → ∀ (H : Heap) (locs : List Loc) (ls : Array Slot), va_P G vwCl [] H → va_D A [] → va_S A s.heap H locs → lv_has ls 3 [(0, .int w0), (1, .int w1), (2, .int v2)] → W p l e (rmz 0 0) s m ([.int a1, .int a2] : List Value).toArray below meth c H locs 0 0 (MQ below (QiA G A (pL_near a1 a2) []) ([.int a1, .int a2] : List Value).toArray s 0 0 A) (F0 m 2 ls []) := by
    intro w0 w1 n
    induction n with
    | zero =>
      intro v2 g_0 g_1 hm
      exfalso; omega
    | succ n ih =>
      intro v2 g_0 g_1 hm hq H locs ls hP hD hS hl
      refine lv_iload_n hx hb dL_near_2 rfl (lv_at hl 2 rfl) ?_
      refine lv_bipush (v := 12) hx hb dL_near_3 (by decide) ?_
      refine lv_icmp_ge (tgt := 58) hx hb dL_near_5 (by decide) (fun c_1 => ?_) (fun c_1 => ?_)
      · have t_1 := i_le (z := (12)) (w := (Int32.toInt v2)) c_1 (by decide) rfl
        refine lv_iconst (v := (-1)) hx hb dL_near_58 (by decide) ?_
        exact rt_i hx hb hr hlocks hP hD hS rfl ((show pL_near_L2 w0 w1 (n + 1) v2 = (-1) by rw [pL_near_L2, if_pos c_1]).symm.trans hq) dL_near_59
      · have t_1 := i_nle (z := (12)) (w := (Int32.toInt v2)) c_1 (by decide) rfl
        refine lv_iload_n hx hb dL_near_8 rfl (lv_at hl 1 rfl) ?_
        refine lv_iload_n hx hb dL_near_9 rfl (lv_at hl 2 rfl) ?_
        refine lv_isub hx hb dL_near_10 ?_
        refine lv_if_lt (tgt := 29) hx hb dL_near_11 (by decide) (fun c_2 => ?_) (fun c_2 => ?_)
        · have t_2 := i_lt (z := (Int32.toInt (w1 - v2))) (w := (0)) c_2 rfl (by decide)
          refine lv_iload_n hx hb dL_near_29 rfl (lv_at hl 1 rfl) ?_
          refine lv_iload_n hx hb dL_near_30 rfl (lv_at hl 2 rfl) ?_
          refine lv_iadd hx hb dL_near_31 ?_
          refine lv_bipush (v := 12) hx hb dL_near_32 (by decide) ?_
          refine lv_icmp_ge (tgt := 52) hx hb dL_near_34 (by decide) (fun c_3 => ?_) (fun c_3 => ?_)
          · have t_3 := i_le (z := (12)) (w := (Int32.toInt (w1 + v2))) c_3 (by decide) rfl
            refine lv_iinc (v := (v2 + 1)) (lv' := [(2, .int (v2 + 1)), (0, .int w0), (1, .int w1)]) hx hb dL_near_52 hl (k := 2) rfl rfl (by decide) rfl (fun ls hl => ?_)
            have a_52 := i_add1 (a := v2) (by omega) (by omega)
            refine lv_goto (tgt := 2) hx hb dL_near_55 (by decide) ?_
            exact ih (v2 + 1) (by omega) (by omega) (by omega) ((show pL_near_L2 w0 w1 (n + 1) v2 = pL_near_L2 w0 w1 n (v2 + 1) by rw [pL_near_L2, if_neg c_1, if_pos c_2, if_pos c_3]).symm.trans hq) _ _ _ hP hD hS (lv_sub hl [1, 2, 0] rfl)
          · have t_3 := i_nle (z := (12)) (w := (Int32.toInt (w1 + v2))) c_3 (by decide) rfl
            refine lv_iload_n hx hb dL_near_37 rfl (lv_at hl 0 rfl) ?_
            refine lv_iload_n hx hb dL_near_38 rfl (lv_at hl 1 rfl) ?_
            refine lv_iload_n hx hb dL_near_39 rfl (lv_at hl 2 rfl) ?_
            refine lv_iadd hx hb dL_near_40 ?_
            refine lv_ishr hx hb dL_near_41 ?_
            refine lv_iconst (v := 1) hx hb dL_near_42 (by decide) ?_
            refine lv_iand hx hb dL_near_43 ?_
            refine lv_iconst (v := 1) hx hb dL_near_44 (by decide) ?_
            refine lv_icmp_ne (tgt := 52) hx hb dL_near_45 (by decide) (fun c_4 => ?_) (fun c_4 => ?_)
            · refine lv_iinc (v := (v2 + 1)) (lv' := [(2, .int (v2 + 1)), (0, .int w0), (1, .int w1)]) hx hb dL_near_52 hl (k := 2) rfl rfl (by decide) rfl (fun ls hl => ?_)
              have a_52 := i_add1 (a := v2) (by omega) (by omega)
              refine lv_goto (tgt := 2) hx hb dL_near_55 (by decide) ?_
              exact ih (v2 + 1) (by omega) (by omega) (by omega) ((show pL_near_L2 w0 w1 (n + 1) v2 = pL_near_L2 w0 w1 n (v2 + 1) by rw [pL_near_L2, if_neg c_1, if_pos c_2, if_neg c_3, if_neg c_4]).symm.trans hq) _ _ _ hP hD hS (lv_sub hl [1, 2, 0] rfl)
            · refine lv_iload_n hx hb dL_near_48 rfl (lv_at hl 1 rfl) ?_
              refine lv_iload_n hx hb dL_near_49 rfl (lv_at hl 2 rfl) ?_
              refine lv_iadd hx hb dL_near_50 ?_
              exact rt_i hx hb hr hlocks hP hD hS rfl ((show pL_near_L2 w0 w1 (n + 1) v2 = (w1 + v2) by rw [pL_near_L2, if_neg c_1, if_pos c_2, if_neg c_3, if_pos c_4]).symm.trans hq) dL_near_51
        · have t_2 := i_nlt (z := (Int32.toInt (w1 - v2))) (w := (0)) c_2 rfl (by decide)
          refine lv_iload_n hx hb dL_near_14 rfl (lv_at hl 0 rfl) ?_
          refine lv_iload_n hx hb dL_near_15 rfl (lv_at hl 1 rfl) ?_
          refine lv_iload_n hx hb dL_near_16 rfl (lv_at hl 2 rfl) ?_
          refine lv_isub hx hb dL_near_17 ?_
          refine lv_ishr hx hb dL_near_18 ?_
          refine lv_iconst (v := 1) hx hb dL_near_19 (by decide) ?_
          refine lv_iand hx hb dL_near_20 ?_
          refine lv_iconst (v := 1) hx hb dL_near_21 (by decide) ?_
          refine lv_icmp_ne (tgt := 29) hx hb dL_near_22 (by decide) (fun c_5 => ?_) (fun c_5 => ?_)
          · refine lv_iload_n hx hb dL_near_29 rfl (lv_at hl 1 rfl) ?_
            refine lv_iload_n hx hb dL_near_30 rfl (lv_at hl 2 rfl) ?_
            refine lv_iadd hx hb dL_near_31 ?_
            refine lv_bipush (v := 12) hx hb dL_near_32 (by decide) ?_
            refine lv_icmp_ge (tgt := 52) hx hb dL_near_34 (by decide) (fun c_6 => ?_) (fun c_6 => ?_)
            · have t_6 := i_le (z := (12)) (w := (Int32.toInt (w1 + v2))) c_6 (by decide) rfl
              refine lv_iinc (v := (v2 + 1)) (lv' := [(2, .int (v2 + 1)), (0, .int w0), (1, .int w1)]) hx hb dL_near_52 hl (k := 2) rfl rfl (by decide) rfl (fun ls hl => ?_)
              have a_52 := i_add1 (a := v2) (by omega) (by omega)
              refine lv_goto (tgt := 2) hx hb dL_near_55 (by decide) ?_
              exact ih (v2 + 1) (by omega) (by omega) (by omega) ((show pL_near_L2 w0 w1 (n + 1) v2 = pL_near_L2 w0 w1 n (v2 + 1) by rw [pL_near_L2, if_neg c_1, if_neg c_2, if_neg c_5, if_pos c_6]).symm.trans hq) _ _ _ hP hD hS (lv_sub hl [1, 2, 0] rfl)
            · have t_6 := i_nle (z := (12)) (w := (Int32.toInt (w1 + v2))) c_6 (by decide) rfl
              refine lv_iload_n hx hb dL_near_37 rfl (lv_at hl 0 rfl) ?_
              refine lv_iload_n hx hb dL_near_38 rfl (lv_at hl 1 rfl) ?_
              refine lv_iload_n hx hb dL_near_39 rfl (lv_at hl 2 rfl) ?_
              refine lv_iadd hx hb dL_near_40 ?_
              refine lv_ishr hx hb dL_near_41 ?_
              refine lv_iconst (v := 1) hx hb dL_near_42 (by decide) ?_
              refine lv_iand hx hb dL_near_43 ?_
              refine lv_iconst (v := 1) hx hb dL_near_44 (by decide) ?_
              refine lv_icmp_ne (tgt := 52) hx hb dL_near_45 (by decide) (fun c_7 => ?_) (fun c_7 => ?_)
              · refine lv_iinc (v := (v2 + 1)) (lv' := [(2, .int (v2 + 1)), (0, .int w0), (1, .int w1)]) hx hb dL_near_52 hl (k := 2) rfl rfl (by decide) rfl (fun ls hl => ?_)
                have a_52 := i_add1 (a := v2) (by omega) (by omega)
                refine lv_goto (tgt := 2) hx hb dL_near_55 (by decide) ?_
                exact ih (v2 + 1) (by omega) (by omega) (by omega) ((show pL_near_L2 w0 w1 (n + 1) v2 = pL_near_L2 w0 w1 n (v2 + 1) by rw [pL_near_L2, if_neg c_1, if_neg c_2, if_neg c_5, if_neg c_6, if_neg c_7]).symm.trans hq) _ _ _ hP hD hS (lv_sub hl [1, 2, 0] rfl)
              · refine lv_iload_n hx hb dL_near_48 rfl (lv_at hl 1 rfl) ?_
                refine lv_iload_n hx hb dL_near_49 rfl (lv_at hl 2 rfl) ?_
                refine lv_iadd hx hb dL_near_50 ?_
                exact rt_i hx hb hr hlocks hP hD hS rfl ((show pL_near_L2 w0 w1 (n + 1) v2 = (w1 + v2) by rw [pL_near_L2, if_neg c_1, if_neg c_2, if_neg c_5, if_neg c_6, if_pos c_7]).symm.trans hq) dL_near_51
          · refine lv_iload_n hx hb dL_near_25 rfl (lv_at hl 1 rfl) ?_
            refine lv_iload_n hx hb dL_near_26 rfl (lv_at hl 2 rfl) ?_
            refine lv_isub hx hb dL_near_27 ?_
            exact rt_i hx hb hr hlocks hP hD hS rfl ((show pL_near_L2 w0 w1 (n + 1) v2 = (w1 - v2) by rw [pL_near_L2, if_neg c_1, if_neg c_2, if_pos c_5]).symm.trans hq) dL_near_28
  refine lv_iconst (v := 0) hx hb dL_near_0 (by decide) ?_
  refine lv_istore_n (lv' := [(2, .int 0), (0, .int a1), (1, .int a2)]) hx hb dL_near_1 rfl hl (by decide) rfl (fun ls hl => ?_)
  exact lp_2 a1 a2 13 0 (by first | decide | omega | assumption) (by first | decide | omega | assumption) (by decide) (show pL_near a1 a2 = pL_near_L2 a1 a2 13 0 by rw [pL_near]).symm _ _ _ hP hD hS (lv_sub hl [1, 2, 0] rfl)
def pL_rains (a1 : Int32) (xq : SR) : Int32 := if (((xq.2 0 (ix 8)) >>> ((a1 - a1 / 24 * 24) &&& 31)) &&& 1) = 1 then 1
  else 0
set_option maxHeartbeats 2000000 in
set_option maxRecDepth 100000 in
theorem ctL_rains (l : Launch) (G : va_G) (cI cC cZ cR : ClassId) (h : Ad) (xq : SR) (a1 : Int32) : Ct l yL_rains wsL_rains (rmz 0 0) G (TY cI cC cZ cR) [.int a1, .ref (h 1)] (wQ cI h xq) (Qi G (wQ cI h xq) (pL_rains a1 xq) (wQ cI h xq)) := by
  refine Ct.ofI (cc := cL_rains) (maxL := 2) (ret := (some .boolean)) (by decide) rfl rfl ?_
  intro p e s m below meth c A ls E0 hP hD hS hl
  obtain ⟨hx, hb, hr, hml, hlocks, hts, hown, hK, hN, hA⟩ := E0
  have hl : lv_has ls 2 [(0, .int a1), (1, .ref (h 1))] := hl
  refine lv_aload_n hx hb dL_rains_0 rfl (lv_at hl 1 rfl) ?_
  refine lv_bipush (v := 8) hx hb dL_rains_1 (by decide) ?_
  refine qa_ld (v := xq.2 0 (ix 8)) hx hb hK hP 0 rfl (vp_in_iff.mpr ⟨by decide, by decide⟩) rfl dL_rains_3 ?_
  refine lv_iload_n hx hb dL_rains_4 rfl (lv_at hl 0 rfl) ?_
  refine lv_bipush (v := 24) hx hb dL_rains_5 (by decide) ?_
  refine lv_irem hx hb dL_rains_7 (by decide) ?_
  refine lv_ishr hx hb dL_rains_8 ?_
  refine lv_iconst (v := 1) hx hb dL_rains_9 (by decide) ?_
  refine lv_iand hx hb dL_rains_10 ?_
  refine lv_iconst (v := 1) hx hb dL_rains_11 (by decide) ?_
  refine lv_icmp_ne (tgt := 19) hx hb dL_rains_12 (by decide) (fun c_1 => ?_) (fun c_1 => ?_)
  · refine lv_iconst (v := 0) hx hb dL_rains_19 (by decide) ?_
    exact rt_i hx hb hr hlocks hP hD hS rfl (show pL_rains a1 xq = 0 by rw [pL_rains, if_neg c_1]).symm dL_rains_20
  · refine lv_iconst (v := 1) hx hb dL_rains_15 (by decide) ?_
    refine lv_goto (tgt := 20) hx hb dL_rains_16 (by decide) ?_
    exact rt_i hx hb hr hlocks hP hD hS rfl (show pL_rains a1 xq = 1 by rw [pL_rains, if_pos c_1]).symm dL_rains_20
def pL_ahead_L5 : Nat → Int32 → SR → (Int32)
  | 0, v1, xq => 0
  | n + 1, v1, xq => if ((xq.2 0 (ix 7)) + (xq.2 0 (ix 0))) < v1 then 0
    else if (pL_rains v1 xq) = 0 then pL_ahead_L5 n (v1 + 1) xq
      else 1
def pL_ahead (xq : SR) : Int32 := pL_ahead_L5 14 (xq.2 0 (ix 7)) xq
set_option maxHeartbeats 2000000 in
set_option maxRecDepth 100000 in
theorem ctL_ahead (l : Launch) (G : va_G) (cI cC cZ cR : ClassId) (h : Ad) (xq : SR) (q_0 : 0 ≤ Int32.toInt (xq.2 0 (ix 7))) (q_1 : Int32.toInt (xq.2 0 (ix 7)) ≤ 200000) (q_2 : 0 ≤ Int32.toInt (xq.2 0 (ix 0))) (q_3 : Int32.toInt (xq.2 0 (ix 0)) ≤ 12) : Ct l yL_ahead wsL_ahead (rmz 1 21) G (TY cI cC cZ cR) [.ref (h 1)] (wQ cI h xq) (Qi G (wQ cI h xq) (pL_ahead xq) (wQ cI h xq)) := by
  refine Ct.ofI (cc := cL_ahead) (maxL := 2) (ret := (some .boolean)) (by decide) rfl rfl ?_
  intro p e s m below meth c A ls E0 hP hD hS hl
  obtain ⟨hx, hb, hr, hml, hlocks, hts, hown, hK, hN, hA⟩ := E0
  have hl : lv_has ls 2 [(0, .ref (h 1))] := hl
  have lp_5 : ∀ (n : Nat) (v1 : Int32), Int32.toInt (xq.2 0 (ix 7)) ≤ Int32.toInt v1 → Int32.toInt v1 ≤ Int32.toInt (xq.2 0 (ix 7)) + 13 → Int32.toInt (xq.2 0 (ix 7)) + 13 - Int32.toInt v1 < (n : Int) → pL_ahead_L5 n v1 xq = pL_ahead xq → ∀ (H : Heap) (locs : List Loc) (ls : Array Slot), va_P G vwCl (wQ cI h xq) H → va_D A (wQ cI h xq) → va_S A s.heap H locs → lv_has ls 2 [(0, .ref (h 1)), (1, .int v1)] → W p l e (rmz 1 21) s m ([.ref (h 1)] : List Value).toArray below meth c H locs 0 0 (MQ below (QiA G A (pL_ahead xq) (wQ cI h xq)) ([.ref (h 1)] : List Value).toArray s 0 0 A) (F0 m 5 ls []) := by
    intro n
    induction n with
    | zero =>
      intro v1 g_0 g_1 hm
      exfalso; omega
    | succ n ih =>
      intro v1 g_0 g_1 hm hq H locs ls hP hD hS hl
      have hs := ah_sum q_0 q_1 q_2 q_3
      refine lv_iload_n hx hb dL_ahead_5 rfl (lv_at hl 1 rfl) ?_
      refine lv_aload_n hx hb dL_ahead_6 rfl (lv_at hl 0 rfl) ?_
      refine lv_bipush (v := 7) hx hb dL_ahead_7 (by decide) ?_
      refine qa_ld (v := xq.2 0 (ix 7)) hx hb hK hP 0 rfl (vp_in_iff.mpr ⟨by decide, by decide⟩) rfl dL_ahead_9 ?_
      refine lv_aload_n hx hb dL_ahead_10 rfl (lv_at hl 0 rfl) ?_
      refine lv_iconst (v := 0) hx hb dL_ahead_11 (by decide) ?_
      refine qa_ld (v := xq.2 0 (ix 0)) hx hb hK hP 0 rfl (vp_in_iff.mpr ⟨by decide, by decide⟩) rfl dL_ahead_12 ?_
      refine lv_iadd hx hb dL_ahead_13 ?_
      refine lv_icmp_gt (tgt := 33) hx hb dL_ahead_14 (by decide) (fun c_1 => ?_) (fun c_1 => ?_)
      · have t_1 := i_lt (z := (Int32.toInt ((xq.2 0 (ix 7)) + (xq.2 0 (ix 0))))) (w := (Int32.toInt v1)) c_1 rfl rfl
        refine lv_iconst (v := 0) hx hb dL_ahead_33 (by decide) ?_
        exact rt_i hx hb hr hlocks hP hD hS rfl ((show pL_ahead_L5 (n + 1) v1 xq = 0 by rw [pL_ahead_L5, if_pos c_1]).symm.trans hq) dL_ahead_34
      · have t_1 := i_nlt (z := (Int32.toInt ((xq.2 0 (ix 7)) + (xq.2 0 (ix 0))))) (w := (Int32.toInt v1)) c_1 rfl rfl
        refine lv_iload_n hx hb dL_ahead_17 rfl (lv_at hl 1 rfl) ?_
        refine lv_aload_n hx hb dL_ahead_18 rfl (lv_at hl 0 rfl) ?_
        refine gs_i hD hS hA (lr_S (As := [.int v1, .ref (h 1)]) (rest := []) ⟨hx, hb, hml, hown, hts⟩ (ctL_rains l G cI cC cZ cR h xq v1) (va_cwS 2 hts gL_ahead_L_rains rfl rfl rfl (by decide +kernel) ⟨Nat.le_of_ble_eq_true rfl, Nat.le_of_ble_eq_true rfl⟩) hK hP hD hN rfl hl.1 rfl (Nat.le_of_ble_eq_true rfl) dL_ahead_19 (Nat.zero_le _) (Nat.zero_le _)) (fun H locs hP hD hS => ?_)
        refine lv_if_eq (tgt := 27) hx hb dL_ahead_22 (by decide) (fun c_2 => ?_) (fun c_2 => ?_)
        · refine lv_iinc (v := (v1 + 1)) (lv' := [(1, .int (v1 + 1)), (0, .ref (h 1))]) hx hb dL_ahead_27 hl (k := 1) rfl rfl (by decide) rfl (fun ls hl => ?_)
          have a_27 := i_add1 (a := v1) (by omega) (by omega)
          refine lv_goto (tgt := 5) hx hb dL_ahead_30 (by decide) ?_
          exact ih (v1 + 1) (by omega) (by omega) (by omega) ((show pL_ahead_L5 (n + 1) v1 xq = pL_ahead_L5 n (v1 + 1) xq by rw [pL_ahead_L5, if_neg c_1, if_pos c_2]).symm.trans hq) _ _ _ hP hD hS (lv_sub hl [1, 0] rfl)
        · refine lv_iconst (v := 1) hx hb dL_ahead_25 (by decide) ?_
          exact rt_i hx hb hr hlocks hP hD hS rfl ((show pL_ahead_L5 (n + 1) v1 xq = 1 by rw [pL_ahead_L5, if_neg c_1, if_neg c_2]).symm.trans hq) dL_ahead_26
  refine lv_aload_n hx hb dL_ahead_0 rfl (lv_at hl 0 rfl) ?_
  refine lv_bipush (v := 7) hx hb dL_ahead_1 (by decide) ?_
  refine qa_ld (v := xq.2 0 (ix 7)) hx hb hK hP 0 rfl (vp_in_iff.mpr ⟨by decide, by decide⟩) rfl dL_ahead_3 ?_
  refine lv_istore_n (lv' := [(1, .int (xq.2 0 (ix 7))), (0, .ref (h 1))]) hx hb dL_ahead_4 rfl hl (by decide) rfl (fun ls hl => ?_)
  exact lp_5 14 (xq.2 0 (ix 7)) (by omega) (by omega) (by show _ < ((14 : Nat) : Int); omega) (show pL_ahead xq = pL_ahead_L5 14 (xq.2 0 (ix 7)) xq by rw [pL_ahead]).symm _ _ _ hP hD hS (lv_sub hl [1, 0] rfl)
def pL_cell (L : Nat) (xs : (Nat → Int32)) (a2 : Int32) : Int32 := if (nI L) ≤ a2 then ((1067285329 * (a2 + 1)) + 684254883)
  else (xs (ix a2))
set_option maxHeartbeats 2000000 in
set_option maxRecDepth 100000 in
theorem ctL_cell (l : Launch) (G : va_G) (cI cC cZ cR : ClassId) (b L : Nat) (xs : Nat → Int32) (a2 : Int32) (q_0 : 0 ≤ Int32.toInt a2) (q_1 : L ≤ 260) : CtP l yL_cell wsL_cell (rmz 0 0) G (TY cI cC cZ cR) [.ref b, .int a2] b L xs (Qi G [] (pL_cell L xs a2) []) := by
  refine CtP.ofI (cc := cL_cell) (maxL := 2) (ret := (some .int)) (by decide) rfl rfl ?_
  intro p e s m below meth c A ls E0 hT hP hD hS hl
  obtain ⟨hx, hb, hr, hml, hlocks, hts, hown, hK, hN, hA⟩ := E0
  have hl : lv_has ls 2 [(0, .ref b), (1, .int a2)] := hl
  have k_7 : (Cond.constant RL 7 1067285329).before ([.ref b, .int a2] : List Value).toArray s = true := hts _ (List.mem_of_getElem? (i := 1) rfl)
  have k_8 : (Cond.constant RL 8 684254883).before ([.ref b, .int a2] : List Value).toArray s = true := hts _ (List.mem_of_getElem? (i := 2) rfl)
  refine lv_iload_n hx hb dL_cell_0 rfl (lv_at hl 1 rfl) ?_
  refine lv_aload_n hx hb dL_cell_1 rfl (lv_at hl 0 rfl) ?_
  refine va_tlen hx hb hT hS (v := nI L) rfl dL_cell_2 ?_
  refine lv_icmp_ge (tgt := 12) hx hb dL_cell_3 (by decide) (fun c_1 => ?_) (fun c_1 => ?_)
  · have t_1 := i_le (z := (Int32.toInt (nI L))) (w := (Int32.toInt a2)) c_1 rfl rfl
    refine lv_ldc hx hb hown k_7 dL_cell_12 ?_
    refine lv_iload_n hx hb dL_cell_14 rfl (lv_at hl 1 rfl) ?_
    refine lv_iconst (v := 1) hx hb dL_cell_15 (by decide) ?_
    refine lv_iadd hx hb dL_cell_16 ?_
    refine lv_imul hx hb dL_cell_17 ?_
    refine lv_ldc hx hb hown k_8 dL_cell_18 ?_
    refine lv_iadd hx hb dL_cell_20 ?_
    exact rt_i hx hb hr hlocks hP hD hS rfl (show pL_cell L xs a2 = ((1067285329 * (a2 + 1)) + 684254883) by rw [pL_cell, if_pos c_1]).symm dL_cell_21
  · have t_1 := i_nle (z := (Int32.toInt (nI L))) (w := (Int32.toInt a2)) c_1 rfl rfl
    refine lv_aload_n hx hb dL_cell_6 rfl (lv_at hl 0 rfl) ?_
    refine lv_iload_n hx hb dL_cell_7 rfl (lv_at hl 1 rfl) ?_
    refine va_ti hx hb hT hS (by exact vp_in_iff.mpr ⟨q_0, by rw [nI_toInt (by omega)] at t_1; exact t_1⟩) (v := .int (xs (ix a2))) rfl dL_cell_8 ?_
    refine lv_goto (tgt := 21) hx hb dL_cell_9 (by decide) ?_
    exact rt_i hx hb hr hlocks hP hD hS rfl (show pL_cell L xs a2 = (xs (ix a2)) by rw [pL_cell, if_neg c_1]).symm dL_cell_21
