theorem ix_lt {i : Int32} {n : Nat} (h : vp_in i n) : ix i < n := Nat.not_le.mp fun q => h (Or.inr q)
theorem sub10_in {a : Int32} (h1 : 10 ≤ Int32.toInt a) (h2 : Int32.toInt a < 17) : vp_in (a - 10) 7 := by
  have e : (a - 10).toInt = a.toInt - 10 := by
    rw [Int32.toInt_sub, show (10 : Int32).toInt = 10 from rfl, Int.bmod_eq_of_le] <;> omega
  exact vp_in_iff.mpr ⟨by omega, by omega⟩
theorem usub_in {u : Int32} (h1 : 1 ≤ Int32.toInt u) (h6 : Int32.toInt u ≤ 6) : vp_in (u - 1) 6 := by
  have e : (u - 1).toInt = u.toInt - 1 := by
    rw [Int32.toInt_sub, show (1 : Int32).toInt = 1 from rfl, Int.bmod_eq_of_le] <;> omega
  exact vp_in_iff.mpr ⟨by omega, by omega⟩
def pX2_charactersIn_L5 (a1 : Int64) : Nat → Int64 → Int32 → Int32
  | 0, v2, v4 => 0
  | n + 1, v2, v4 => if 8 ≤ v4 then if (lg_cmp v2 0) = 0 then v4
      else 0
    else if (lg_cmp (v2 &&& 255) 0) = 0 then if (lg_cmp v2 0) = 0 then v4
        else 0
      else if (lg_cmp (v2 &&& 255) 33) < 0 then 0
        else if (lg_cmp (v2 &&& 255) 126) ≤ 0 then pX2_charactersIn_L5 a1 n (lush v2 8) (v4 + 1)
          else 0
def pX2_charactersIn (a1 : Int64) : Int32 := pX2_charactersIn_L5 a1 9 a1 0
set_option maxHeartbeats 1000000 in
set_option maxRecDepth 100000 in
theorem ctX2_charactersIn (l : Launch) (G : va_G) (cI cC cZ cR : ClassId) (a1 : Int64) : Ct l yX2_charactersIn wsX2_charactersIn (rmz 0 0) G (TY cI cC cZ cR) [.long a1] [] (Qi G [] (pX2_charactersIn a1) []) := by
  refine Ct.ofI (cc := cX2_charactersIn) (maxL := 7) (ret := (some .int)) (by decide) rfl rfl ?_
  intro p e s m below meth c A ls E0 hP hD hS hl
  obtain ⟨hx, hb, hr, hml, hlocks, hts, hown, hK, hN, hA⟩ := E0
  have hl : lv_has ls 7 [(0, .long a1)] := hl
  have k_168 : (Cond.constantLong RX2 168 255).before ([.long a1] : List Value).toArray s = true := hts _ (List.mem_of_getElem? (i := 1) rfl)
  have k_174 : (Cond.constantLong RX2 174 33).before ([.long a1] : List Value).toArray s = true := hts _ (List.mem_of_getElem? (i := 2) rfl)
  have k_176 : (Cond.constantLong RX2 176 126).before ([.long a1] : List Value).toArray s = true := hts _ (List.mem_of_getElem? (i := 3) rfl)
  generalize hres : pX2_charactersIn a1 = res
  have lp_5 : ∀ (n : Nat) (v2 : Int64) (v4 : Int32), 0 ≤ Int32.toInt v4 → Int32.toInt v4 ≤ 8 → 8 - Int32.toInt v4 < (n : Int) → pX2_charactersIn_L5 a1 n v2 v4 = res → ∀ (H : Heap) (locs : List Loc) (ls : Array Slot), va_P G vwCl [] H → va_S A s.heap H locs → lv_has ls 7 [(0, .long a1), (2, .long v2), (4, .int v4)] → W p l e (rmz 0 0) s m ([.long a1] : List Value).toArray below meth c H locs 0 0 (MQ below (QiA G A res []) ([.long a1] : List Value).toArray s 0 0 A) (F0 m 5 ls []) := by
    intro n
    induction n with
    | zero =>
      intro v2 v4 g_0 g_1 hm
      exfalso; omega
    | succ n ih =>
      intro v2 v4 g_0 g_1 hm hq H locs ls hP hS hl
      refine lv_iload hx hb dX2_charactersIn_5 (lv_at hl 2 rfl) ?_
      refine lv_bipush (v := 8) hx hb dX2_charactersIn_7 (by decide) ?_
      refine lv_icmp_ge (tgt := 60) hx hb dX2_charactersIn_9 (by decide) (fun c_1 => ?_) (fun c_1 => ?_)
      · have t_1 := i_le (z := (8)) (w := (Int32.toInt v4)) c_1 (by decide) rfl
        refine lv_lload_n hx hb dX2_charactersIn_60 rfl (lv_at hl 1 rfl) ?_
        refine lv_lconst (v := 0) hx hb dX2_charactersIn_61 (by decide) ?_
        refine W.lcmp hx hb dX2_charactersIn_62 ?_
        refine lv_if_ne (tgt := 71) hx hb dX2_charactersIn_63 (by decide) (fun c_2 => ?_) (fun c_2 => ?_)
        · refine lv_iconst (v := 0) hx hb dX2_charactersIn_71 (by decide) ?_
          exact rt_r hx hb hr hlocks hP hD hS rfl ((show pX2_charactersIn_L5 a1 (n + 1) v2 v4 = 0 by rw [pX2_charactersIn_L5, if_pos c_1, if_neg c_2]).symm.trans hq |>.symm) dX2_charactersIn_72
        · refine lv_iload hx hb dX2_charactersIn_66 (lv_at hl 2 rfl) ?_
          refine lv_goto (tgt := 72) hx hb dX2_charactersIn_68 (by decide) ?_
          exact rt_r hx hb hr hlocks hP hD hS rfl ((show pX2_charactersIn_L5 a1 (n + 1) v2 v4 = v4 by rw [pX2_charactersIn_L5, if_pos c_1, if_pos c_2]).symm.trans hq |>.symm) dX2_charactersIn_72
      · have t_1 := i_nle (z := (8)) (w := (Int32.toInt v4)) c_1 (by decide) rfl
        refine lv_lload_n hx hb dX2_charactersIn_12 rfl (lv_at hl 1 rfl) ?_
        refine lv_ldc2 hx hb hown k_168 dX2_charactersIn_13 ?_
        refine lv_land hx hb dX2_charactersIn_16 ?_
        refine lv_lconst (v := 0) hx hb dX2_charactersIn_17 (by decide) ?_
        refine W.lcmp hx hb dX2_charactersIn_18 ?_
        refine lv_if_eq (tgt := 60) hx hb dX2_charactersIn_19 (by decide) (fun c_3 => ?_) (fun c_3 => ?_)
        · refine lv_lload_n hx hb dX2_charactersIn_60 rfl (lv_at hl 1 rfl) ?_
          refine lv_lconst (v := 0) hx hb dX2_charactersIn_61 (by decide) ?_
          refine W.lcmp hx hb dX2_charactersIn_62 ?_
          refine lv_if_ne (tgt := 71) hx hb dX2_charactersIn_63 (by decide) (fun c_4 => ?_) (fun c_4 => ?_)
          · refine lv_iconst (v := 0) hx hb dX2_charactersIn_71 (by decide) ?_
            exact rt_r hx hb hr hlocks hP hD hS rfl ((show pX2_charactersIn_L5 a1 (n + 1) v2 v4 = 0 by rw [pX2_charactersIn_L5, if_neg c_1, if_pos c_3, if_neg c_4]).symm.trans hq |>.symm) dX2_charactersIn_72
          · refine lv_iload hx hb dX2_charactersIn_66 (lv_at hl 2 rfl) ?_
            refine lv_goto (tgt := 72) hx hb dX2_charactersIn_68 (by decide) ?_
            exact rt_r hx hb hr hlocks hP hD hS rfl ((show pX2_charactersIn_L5 a1 (n + 1) v2 v4 = v4 by rw [pX2_charactersIn_L5, if_neg c_1, if_pos c_3, if_pos c_4]).symm.trans hq |>.symm) dX2_charactersIn_72
        · refine lv_lload_n hx hb dX2_charactersIn_22 rfl (lv_at hl 1 rfl) ?_
          refine lv_ldc2 hx hb hown k_168 dX2_charactersIn_23 ?_
          refine lv_land hx hb dX2_charactersIn_26 ?_
          refine lv_lstore (lv' := [(5, .long (v2 &&& 255)), (0, .long a1), (2, .long v2), (4, .int v4)]) hx hb dX2_charactersIn_27 hl (by decide) rfl (fun ls hl => ?_)
          refine lv_lload hx hb dX2_charactersIn_29 (lv_at hl 0 rfl) ?_
          refine lv_ldc2 hx hb hown k_174 dX2_charactersIn_31 ?_
          refine W.lcmp hx hb dX2_charactersIn_34 ?_
          refine lv_if_lt (tgt := 47) hx hb dX2_charactersIn_35 (by decide) (fun c_5 => ?_) (fun c_5 => ?_)
          · have t_5 := i_lt (z := (Int32.toInt (lg_cmp (v2 &&& 255) 33))) (w := (0)) c_5 rfl (by decide)
            refine lv_iconst (v := 0) hx hb dX2_charactersIn_47 (by decide) ?_
            exact rt_r hx hb hr hlocks hP hD hS rfl ((show pX2_charactersIn_L5 a1 (n + 1) v2 v4 = 0 by rw [pX2_charactersIn_L5, if_neg c_1, if_neg c_3, if_pos c_5]).symm.trans hq |>.symm) dX2_charactersIn_48
          · have t_5 := i_nlt (z := (Int32.toInt (lg_cmp (v2 &&& 255) 33))) (w := (0)) c_5 rfl (by decide)
            refine lv_lload hx hb dX2_charactersIn_38 (lv_at hl 0 rfl) ?_
            refine lv_ldc2 hx hb hown k_176 dX2_charactersIn_40 ?_
            refine W.lcmp hx hb dX2_charactersIn_43 ?_
            refine lv_if_le (tgt := 49) hx hb dX2_charactersIn_44 (by decide) (fun c_6 => ?_) (fun c_6 => ?_)
            · have t_6 := i_le (z := (Int32.toInt (lg_cmp (v2 &&& 255) 126))) (w := (0)) c_6 rfl (by decide)
              refine lv_lload_n hx hb dX2_charactersIn_49 rfl (lv_at hl 2 rfl) ?_
              refine lv_bipush (v := 8) hx hb dX2_charactersIn_50 (by decide) ?_
              refine lv_lushr (v := (lush v2 8)) hx hb dX2_charactersIn_52 rfl ?_
              refine lv_lstore_n (lv' := [(2, .long (lush v2 8)), (5, .long (v2 &&& 255)), (0, .long a1), (4, .int v4)]) hx hb dX2_charactersIn_53 rfl hl (by decide) rfl (fun ls hl => ?_)
              refine lv_iinc (v := (v4 + 1)) (lv' := [(4, .int (v4 + 1)), (2, .long (lush v2 8)), (5, .long (v2 &&& 255)), (0, .long a1)]) hx hb dX2_charactersIn_54 hl (k := 3) rfl rfl (by decide) rfl (fun ls hl => ?_)
              have a_54 := i_add1 (a := v4) (by omega) (by omega)
              refine lv_goto (tgt := 5) hx hb dX2_charactersIn_57 (by decide) ?_
              exact ih (lush v2 8) (v4 + 1) (by omega) (by omega) (by omega) ((show pX2_charactersIn_L5 a1 (n + 1) v2 v4 = pX2_charactersIn_L5 a1 n (lush v2 8) (v4 + 1) by rw [pX2_charactersIn_L5, if_neg c_1, if_neg c_3, if_neg c_5, if_pos c_6]).symm.trans hq) _ _ _ hP hS (lv_sub hl [3, 1, 0] rfl)
            · have t_6 := i_nle (z := (Int32.toInt (lg_cmp (v2 &&& 255) 126))) (w := (0)) c_6 rfl (by decide)
              refine lv_iconst (v := 0) hx hb dX2_charactersIn_47 (by decide) ?_
              exact rt_r hx hb hr hlocks hP hD hS rfl ((show pX2_charactersIn_L5 a1 (n + 1) v2 v4 = 0 by rw [pX2_charactersIn_L5, if_neg c_1, if_neg c_3, if_neg c_5, if_neg c_6]).symm.trans hq |>.symm) dX2_charactersIn_48
  refine lv_lload_n hx hb dX2_charactersIn_0 rfl (lv_at hl 0 rfl) ?_
  refine lv_lstore_n (lv' := [(2, .long a1), (0, .long a1)]) hx hb dX2_charactersIn_1 rfl hl (by decide) rfl (fun ls hl => ?_)
  refine lv_iconst (v := 0) hx hb dX2_charactersIn_2 (by decide) ?_
  refine lv_istore (lv' := [(4, .int 0), (2, .long a1), (0, .long a1)]) hx hb dX2_charactersIn_3 hl (by decide) rfl (fun ls hl => ?_)
  exact lp_5 9 a1 0 (by first | decide | omega | assumption) (by first | decide | omega | assumption) (by decide) ((show pX2_charactersIn a1 = pX2_charactersIn_L5 a1 9 a1 0 by rw [pX2_charactersIn]).symm.trans hres) _ _ _ hP hS (lv_sub hl [2, 1, 0] rfl)
theorem charIn_L (a1 : Int64) : ∀ (n : Nat) (v2 : Int64) (v4 : Int32), 0 ≤ Int32.toInt v4 → Int32.toInt v4 ≤ 8 → 0 ≤ Int32.toInt (pX2_charactersIn_L5 a1 n v2 v4) ∧ Int32.toInt (pX2_charactersIn_L5 a1 n v2 v4) ≤ 8 := by
  intro n
  induction n with
  | zero => intro v2 v4 h0 h8; rw [pX2_charactersIn_L5]; decide
  | succ n ih =>
    intro v2 v4 h0 h8
    rw [pX2_charactersIn_L5]
    by_cases d_78 : 8 ≤ v4
    · rw [if_pos d_78]
      by_cases d_79 : (lg_cmp v2 0) = 0
      · rw [if_pos d_79]
        exact ⟨h0, h8⟩
      · rw [if_neg d_79]
        decide
    · rw [if_neg d_78]
      by_cases d_80 : (lg_cmp (v2 &&& 255) 0) = 0
      · rw [if_pos d_80]
        by_cases d_81 : (lg_cmp v2 0) = 0
        · rw [if_pos d_81]
          exact ⟨h0, h8⟩
        · rw [if_neg d_81]
          decide
      · rw [if_neg d_80]
        by_cases d_82 : (lg_cmp (v2 &&& 255) 33) < 0
        · rw [if_pos d_82]
          decide
        · rw [if_neg d_82]
          by_cases d_83 : (lg_cmp (v2 &&& 255) 126) ≤ 0
          · rw [if_pos d_83]
            have t9 := i_nle (z := 8) (w := Int32.toInt v4) (show ¬ (8 : Int32) ≤ v4 by with_reducible assumption) (by decide) rfl; have a9 := i_add1 (a := v4) (by omega) (by omega); exact ih _ _ (by omega) (by omega)
          · rw [if_neg d_83]
            decide
theorem charIn_le (a : Int64) : 0 ≤ Int32.toInt (pX2_charactersIn a) ∧ Int32.toInt (pX2_charactersIn a) ≤ 8 := by
  rw [pX2_charactersIn]
  exact charIn_L a 9 a 0 (by decide) (by decide)
theorem cput_k {v : Int32} (h0 : 0 ≤ Int32.toInt v) (h8 : Int32.toInt v ≤ 8) : -1 ≤ Int32.toInt (v - 1) ∧ Int32.toInt (v - 1) ≤ 7 ∧ Int32.toInt (v - 1) + 1 < ((9 : Nat) : Int) := by
  have e : (v - 1).toInt = v.toInt - 1 := by
    rw [Int32.toInt_sub, show (1 : Int32).toInt = 1 from rfl, Int.bmod_eq_of_le] <;> omega
  omega
