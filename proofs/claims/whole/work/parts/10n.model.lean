theorem put_k {v p : Int32} (h0 : 0 ≤ Int32.toInt v) (h8 : Int32.toInt v ≤ 8) (p0 : 0 ≤ Int32.toInt p) (p8 : Int32.toInt p ≤ 80) (t : Int32.toInt (p + v) ≤ 80) : -1 ≤ Int32.toInt (v - 1) ∧ Int32.toInt (v - 1) ≤ 7 ∧ Int32.toInt p + Int32.toInt (v - 1) + 1 ≤ 80 ∧ Int32.toInt (v - 1) + 1 < ((9 : Nat) : Int) := by
  have e : (v - 1).toInt = v.toInt - 1 := by
    rw [Int32.toInt_sub, show (1 : Int32).toInt = 1 from rfl, Int.bmod_eq_of_le] <;> omega
  have e2 : (p + v).toInt = p.toInt + v.toInt := by
    rw [Int32.toInt_add, Int.bmod_eq_of_le] <;> omega
  omega
theorem put_l {x : SR} {i w : Int32} (h0 : 0 ≤ Int32.toInt (x.1 1)) (h8 : Int32.toInt (x.1 1) ≤ 80) : 0 ≤ Int32.toInt ((pS (pR x 5 i w) 1 (x.1 1 + 1)).1 1) ∧ ∀ z : Int, Int32.toInt (x.1 1) + 1 + z ≤ 80 → Int32.toInt ((pS (pR x 5 i w) 1 (x.1 1 + 1)).1 1) + z ≤ 80 := by
  rw [pS_at, i_add1 (by omega) (by omega)]
  exact ⟨by omega, fun z hz => hz⟩
def pX3_put_L105 (a1 : Int64) : Nat → Int32 → Int64 → Int32 → Int32 → SR → Int32 × SR
  | 0, v3, v4, v6, v7, x => (0, x)
  | n + 1, v3, v4, v6, v7, x => if v7 < 0 then (x.1 1, x)
    else pX3_put_L105 a1 n v3 v4 v6 (v7 + (-1)) (pS (pR x 5 (x.1 1) ((((lush a1 (8 * v7)) &&& 255)).toInt32)) 1 ((x.1 1) + 1))
def pX3_put_L8 (a1 : Int64) : Nat → Int32 → Int64 → Int32 → SR → Int32 × SR
  | 0, v3, v4, v6, x => (0, x)
  | n + 1, v3, v4, v6, x => if 8 ≤ v3 then if v3 = 0 then (((-2) : Int32), x)
      else if v6 = 0 then (((-2) : Int32), x)
        else if (lg_cmp v4 0) = 0 then if ((x.1 1) + v3) ≤ 80 then pX3_put_L105 a1 9 v3 v4 v6 (v3 - 1) x
            else (((-4) : Int32), x)
          else (((-2) : Int32), x)
    else if (lg_cmp (v4 &&& 255) 0) = 0 then if v3 = 0 then (((-2) : Int32), x)
        else if v6 = 0 then (((-2) : Int32), x)
          else if (lg_cmp v4 0) = 0 then if ((x.1 1) + v3) ≤ 80 then pX3_put_L105 a1 9 v3 v4 v6 (v3 - 1) x
              else (((-4) : Int32), x)
            else (((-2) : Int32), x)
      else if v6 = 0 then pX3_put_L8 a1 n (v3 + 1) (lush v4 8) 0 x
        else if (pX3_within (((v4 &&& 255)).toInt32) 33 126) = 0 then pX3_put_L8 a1 n (v3 + 1) (lush v4 8) 0 x
          else pX3_put_L8 a1 n (v3 + 1) (lush v4 8) 1 x
def pX3_put (a1 : Int64) (x : SR) : Int32 × SR := pX3_put_L8 a1 9 0 a1 1 x
set_option maxHeartbeats 600000 in
set_option maxRecDepth 100000 in
theorem ctX3_put (l : Launch) (G : va_G) (cI cC cZ cR : ClassId) (h : Ad) (x : SR) (a1 : Int64) (q_0 : 0 ≤ Int32.toInt (x.1 1)) (q_1 : Int32.toInt (x.1 1) ≤ 80) : Ct l yX3_put wsX3_put (rmz 1 22) G (TY cI cC cZ cR) [.ref (h 0), .long a1] (wMo cI h x) (Qi G (wMo cI h x) (pX3_put a1 x).1 (wMo cI h (pX3_put a1 x).2)) := by
  refine Ct.ofI (cc := cX3_put) (maxL := 8) (ret := (some .int)) (by decide) rfl rfl ?_
  intro p e s m below meth c A ls E0 hP hD hS hl
  obtain ⟨hx, hb, hr, hml, hlocks, hts, hown, hK, hN, hA⟩ := E0
  have hl : lv_has ls 8 [(0, .ref (h 0)), (1, .long a1)] := hl
  have hin : ∀ w ∈ wsX30, w ∈ wsX3_put := fun w hw => List.mem_cons_of_mem _ (List.mem_append_right _ (hw))
  have k_153 : (Cond.fieldLink RX3 153 RX3 (TX3 7).2.1 (TX3 7).2.2.1).before ([.ref (h 0), .long a1] : List Value).toArray s = true := hts _ (List.mem_of_getElem? (i := 2) rfl)
  have k_159 : (Cond.constantLong RX3 159 255).before ([.ref (h 0), .long a1] : List Value).toArray s = true := hts _ (List.mem_of_getElem? (i := 1) rfl)
  have k_25 : (Cond.fieldLink RX3 25 RX3 (TX3 6).2.1 (TX3 6).2.2.1).before ([.ref (h 0), .long a1] : List Value).toArray s = true := hts _ (List.mem_of_getElem? (i := 3) rfl)
  generalize hres : pX3_put a1 x = res
  have lp_105 : ∀ (n : Nat) (v3 : Int32) (v4 : Int64) (v6 : Int32) (v7 : Int32) (x : SR), -1 ≤ Int32.toInt v7 → Int32.toInt v7 ≤ 7 → 0 ≤ Int32.toInt (x.1 1) → Int32.toInt (x.1 1) + Int32.toInt v7 + 1 ≤ 80 → Int32.toInt v7 + 1 < (n : Int) → pX3_put_L105 a1 n v3 v4 v6 v7 x = res → ∀ (H : Heap) (locs : List Loc) (ls : Array Slot), va_P G vwCl (wMo cI h x) H → va_D A (wMo cI h x) → va_S A s.heap H locs → lv_has ls 8 [(0, .ref (h 0)), (1, .long a1), (3, .int v3), (4, .long v4), (6, .int v6), (7, .int v7)] → W p l e (rmz 1 22) s m ([.ref (h 0), .long a1] : List Value).toArray below meth c H locs 0 0 (MQ below (QiA G A res.1 (wMo cI h res.2)) ([.ref (h 0), .long a1] : List Value).toArray s 0 0 A) (F0 m 105 ls []) := by
    intro n
    induction n with
    | zero =>
      intro v3 v4 v6 v7 x g_0 g_1 g_2 g_3 hm
      exfalso; omega
    | succ n ih =>
      intro v3 v4 v6 v7 x g_0 g_1 g_2 g_3 hm hq H locs ls hP hD hS hl
      refine lv_iload hx hb dX3_put_105 (lv_at hl 5 rfl) ?_
      refine lv_if_lt (tgt := 147) hx hb dX3_put_107 (by decide) (fun c_13 => ?_) (fun c_13 => ?_)
      · have t_13 := i_lt (z := (Int32.toInt v7)) (w := (0)) c_13 rfl (by decide)
        refine lv_aload_n hx hb dX3_put_147 rfl (lv_at hl 0 rfl) ?_
        refine md_get (ci := 3) (C := RX3) (T := TX3) (N := 13) (v := .int (x.1 1)) hx hb hts hin hown hK hP rfl 7 (by decide) k_153 rfl rfl rfl dX3_put_148 ?_
        exact rt_b hx hb hr hlocks hP hD hS rfl ((show pX3_put_L105 a1 (n + 1) v3 v4 v6 v7 x = (x.1 1, x) by rw [pX3_put_L105, if_pos c_13]).symm.trans hq |>.symm) dX3_put_151
      · have t_13 := i_nlt (z := (Int32.toInt v7)) (w := (0)) c_13 rfl (by decide)
        refine lv_aload_n hx hb dX3_put_110 rfl (lv_at hl 0 rfl) ?_
        refine md_get (ci := 3) (C := RX3) (T := TX3) (N := 13) (v := .ref (h 6)) hx hb hts hin hown hK hP rfl 6 (by decide) k_25 rfl rfl rfl dX3_put_111 ?_
        refine lv_aload_n hx hb dX3_put_114 rfl (lv_at hl 0 rfl) ?_
        refine md_get (ci := 3) (C := RX3) (T := TX3) (N := 13) (v := .int (x.1 1)) hx hb hts hin hown hK hP rfl 7 (by decide) k_153 rfl rfl rfl dX3_put_115 ?_
        refine lv_lload_n hx hb dX3_put_118 rfl (lv_at hl 1 rfl) ?_
        refine lv_bipush (v := 8) hx hb dX3_put_119 (by decide) ?_
        refine lv_iload hx hb dX3_put_121 (lv_at hl 5 rfl) ?_
        refine lv_imul hx hb dX3_put_123 ?_
        refine lv_lushr (v := (lush a1 (8 * v7))) hx hb dX3_put_124 rfl ?_
        refine lv_ldc2 hx hb hown k_159 dX3_put_125 ?_
        refine lv_land hx hb dX3_put_128 ?_
        refine lv_l2i (v := (((lush a1 (8 * v7)) &&& 255)).toInt32) hx hb dX3_put_129 rfl ?_
        refine md_is hx hb hK hP hD hS 5 0 rfl rfl (by exact vp_in_iff.mpr ⟨by omega, by omega⟩) dX3_put_130 (fun H locs hP hD hS => ?_)
        refine lv_aload_n hx hb dX3_put_131 rfl (lv_at hl 0 rfl) ?_
        refine lv_dup hx hb dX3_put_132 rfl ?_
        refine md_get (ci := 3) (C := RX3) (T := TX3) (N := 13) (v := .int (x.1 1)) hx hb hts hin hown hK hP rfl 7 (by decide) k_153 rfl rfl rfl dX3_put_133 ?_
        refine lv_iconst (v := 1) hx hb dX3_put_136 (by decide) ?_
        refine lv_iadd hx hb dX3_put_137 ?_
        refine md_put (ci := 3) (C := RX3) (T := TX3) (N := 13) hx hb hts hin tyX3 tyX3_ok nmX3 hown hK hP hD hS rfl 7 (by decide) k_153 rfl rfl (q := 1) rfl (fu (by decide)) rfl rfl dX3_put_138 (fun H locs hP hD hS => ?_)
        refine lv_iinc (v := (v7 + (-1))) (lv' := [(7, .int (v7 + (-1))), (0, .ref (h 0)), (1, .long a1), (3, .int v3), (4, .long v4), (6, .int v6)]) hx hb dX3_put_141 hl (k := 5) rfl rfl (by decide) rfl (fun ls hl => ?_)
        have a_141 := i_sub1 (a := v7) (by omega) (by omega)
        refine lv_goto (tgt := 105) hx hb dX3_put_144 (by decide) ?_
        exact ih v3 v4 v6 (v7 + (-1)) (pS (pR x 5 (x.1 1) ((((lush a1 (8 * v7)) &&& 255)).toInt32)) 1 ((x.1 1) + 1)) (by omega) (by omega) (by exact (put_l g_2 (by omega)).1) (by have w9 := (put_l (x := x) (i := x.1 1) (w := (((lush a1 (8 * v7)) &&& 255)).toInt32) g_2 (by omega)).2 (Int32.toInt (v7 + (-1)) + 1) (by omega); omega) (by omega) ((show pX3_put_L105 a1 (n + 1) v3 v4 v6 v7 x = pX3_put_L105 a1 n v3 v4 v6 (v7 + (-1)) (pS (pR x 5 (x.1 1) ((((lush a1 (8 * v7)) &&& 255)).toInt32)) 1 ((x.1 1) + 1)) by rw [pX3_put_L105, if_neg c_13]).symm.trans hq) _ _ _ hP hD hS (lv_sub hl [1, 2, 3, 4, 5, 0] rfl)
  have lp_8 : ∀ (n : Nat) (v3 : Int32) (v4 : Int64) (v6 : Int32) (x : SR), 0 ≤ Int32.toInt v3 → Int32.toInt v3 ≤ 8 → 0 ≤ Int32.toInt (x.1 1) → Int32.toInt (x.1 1) ≤ 80 → 8 - Int32.toInt v3 < (n : Int) → pX3_put_L8 a1 n v3 v4 v6 x = res → ∀ (H : Heap) (locs : List Loc) (ls : Array Slot), va_P G vwCl (wMo cI h x) H → va_D A (wMo cI h x) → va_S A s.heap H locs → lv_has ls 8 [(0, .ref (h 0)), (1, .long a1), (3, .int v3), (4, .long v4), (6, .int v6)] → W p l e (rmz 1 22) s m ([.ref (h 0), .long a1] : List Value).toArray below meth c H locs 0 0 (MQ below (QiA G A res.1 (wMo cI h res.2)) ([.ref (h 0), .long a1] : List Value).toArray s 0 0 A) (F0 m 8 ls []) := by
    intro n
    induction n with
    | zero =>
      intro v3 v4 v6 x g_0 g_1 g_2 g_3 hm
      exfalso; omega
    | succ n ih =>
      intro v3 v4 v6 x g_0 g_1 g_2 g_3 hm hq H locs ls hP hD hS hl
      refine lv_iload_n hx hb dX3_put_8 rfl (lv_at hl 2 rfl) ?_
      refine lv_bipush (v := 8) hx hb dX3_put_9 (by decide) ?_
      refine lv_icmp_ge (tgt := 67) hx hb dX3_put_11 (by decide) (fun c_1 => ?_) (fun c_1 => ?_)
      · have t_1 := i_le (z := (8)) (w := (Int32.toInt v3)) c_1 (by decide) rfl
        refine lv_iload_n hx hb dX3_put_67 rfl (lv_at hl 2 rfl) ?_
        refine lv_if_eq (tgt := 83) hx hb dX3_put_68 (by decide) (fun c_2 => ?_) (fun c_2 => ?_)
        · refine lv_bipush (v := (-2)) hx hb dX3_put_83 (by decide) ?_
          exact rt_b hx hb hr hlocks hP hD hS rfl ((show pX3_put_L8 a1 (n + 1) v3 v4 v6 x = (((-2) : Int32), x) by rw [pX3_put_L8, if_pos c_1, if_pos c_2]).symm.trans hq |>.symm) dX3_put_85
        · refine lv_iload hx hb dX3_put_71 (lv_at hl 4 rfl) ?_
          refine lv_if_eq (tgt := 83) hx hb dX3_put_73 (by decide) (fun c_3 => ?_) (fun c_3 => ?_)
          · refine lv_bipush (v := (-2)) hx hb dX3_put_83 (by decide) ?_
            exact rt_b hx hb hr hlocks hP hD hS rfl ((show pX3_put_L8 a1 (n + 1) v3 v4 v6 x = (((-2) : Int32), x) by rw [pX3_put_L8, if_pos c_1, if_neg c_2, if_pos c_3]).symm.trans hq |>.symm) dX3_put_85
          · refine lv_lload hx hb dX3_put_76 (lv_at hl 3 rfl) ?_
            refine lv_lconst (v := 0) hx hb dX3_put_78 (by decide) ?_
            refine W.lcmp hx hb dX3_put_79 ?_
            refine lv_if_eq (tgt := 86) hx hb dX3_put_80 (by decide) (fun c_4 => ?_) (fun c_4 => ?_)
            · refine lv_aload_n hx hb dX3_put_86 rfl (lv_at hl 0 rfl) ?_
              refine md_get (ci := 3) (C := RX3) (T := TX3) (N := 13) (v := .int (x.1 1)) hx hb hts hin hown hK hP rfl 7 (by decide) k_153 rfl rfl rfl dX3_put_87 ?_
              refine lv_iload_n hx hb dX3_put_90 rfl (lv_at hl 2 rfl) ?_
              refine lv_iadd hx hb dX3_put_91 ?_
              refine lv_bipush (v := 80) hx hb dX3_put_92 (by decide) ?_
              refine lv_icmp_le (tgt := 100) hx hb dX3_put_94 (by decide) (fun c_5 => ?_) (fun c_5 => ?_)
              · have t_5 := i_le (z := (Int32.toInt ((x.1 1) + v3))) (w := (80)) c_5 rfl (by decide)
                refine lv_iload_n hx hb dX3_put_100 rfl (lv_at hl 2 rfl) ?_
                refine lv_iconst (v := 1) hx hb dX3_put_101 (by decide) ?_
                refine lv_isub hx hb dX3_put_102 ?_
                refine lv_istore (lv' := [(7, .int (v3 - 1)), (0, .ref (h 0)), (1, .long a1), (3, .int v3), (4, .long v4), (6, .int v6)]) hx hb dX3_put_103 hl (by decide) rfl (fun ls hl => ?_)
                exact lp_105 9 v3 v4 v6 (v3 - 1) x (by exact (put_k g_0 g_1 g_2 g_3 (i_le (z := Int32.toInt (x.1 1 + v3)) (w := 80) (by with_reducible assumption) rfl (by decide))).1) (by exact (put_k g_0 g_1 g_2 g_3 (i_le (z := Int32.toInt (x.1 1 + v3)) (w := 80) (by with_reducible assumption) rfl (by decide))).2.1) (by exact g_2) (by exact (put_k g_0 g_1 g_2 g_3 (i_le (z := Int32.toInt (x.1 1 + v3)) (w := 80) (by with_reducible assumption) rfl (by decide))).2.2.1) (by exact (put_k g_0 g_1 g_2 g_3 (i_le (z := Int32.toInt (x.1 1 + v3)) (w := 80) (by with_reducible assumption) rfl (by decide))).2.2.2) ((show pX3_put_L8 a1 (n + 1) v3 v4 v6 x = pX3_put_L105 a1 9 v3 v4 v6 (v3 - 1) x by rw [pX3_put_L8, if_pos c_1, if_neg c_2, if_neg c_3, if_pos c_4, if_pos c_5]).symm.trans hq) _ _ _ hP hD hS (lv_sub hl [1, 2, 3, 4, 5, 0] rfl)
              · have t_5 := i_nle (z := (Int32.toInt ((x.1 1) + v3))) (w := (80)) c_5 rfl (by decide)
                refine lv_bipush (v := (-4)) hx hb dX3_put_97 (by decide) ?_
                exact rt_b hx hb hr hlocks hP hD hS rfl ((show pX3_put_L8 a1 (n + 1) v3 v4 v6 x = (((-4) : Int32), x) by rw [pX3_put_L8, if_pos c_1, if_neg c_2, if_neg c_3, if_pos c_4, if_neg c_5]).symm.trans hq |>.symm) dX3_put_99
            · refine lv_bipush (v := (-2)) hx hb dX3_put_83 (by decide) ?_
              exact rt_b hx hb hr hlocks hP hD hS rfl ((show pX3_put_L8 a1 (n + 1) v3 v4 v6 x = (((-2) : Int32), x) by rw [pX3_put_L8, if_pos c_1, if_neg c_2, if_neg c_3, if_neg c_4]).symm.trans hq |>.symm) dX3_put_85
      · have t_1 := i_nle (z := (8)) (w := (Int32.toInt v3)) c_1 (by decide) rfl
        refine lv_lload hx hb dX3_put_14 (lv_at hl 3 rfl) ?_
        refine lv_ldc2 hx hb hown k_159 dX3_put_16 ?_
        refine lv_land hx hb dX3_put_19 ?_
        refine lv_lconst (v := 0) hx hb dX3_put_20 (by decide) ?_
        refine W.lcmp hx hb dX3_put_21 ?_
        refine lv_if_eq (tgt := 67) hx hb dX3_put_22 (by decide) (fun c_6 => ?_) (fun c_6 => ?_)
        · refine lv_iload_n hx hb dX3_put_67 rfl (lv_at hl 2 rfl) ?_
          refine lv_if_eq (tgt := 83) hx hb dX3_put_68 (by decide) (fun c_7 => ?_) (fun c_7 => ?_)
          · refine lv_bipush (v := (-2)) hx hb dX3_put_83 (by decide) ?_
            exact rt_b hx hb hr hlocks hP hD hS rfl ((show pX3_put_L8 a1 (n + 1) v3 v4 v6 x = (((-2) : Int32), x) by rw [pX3_put_L8, if_neg c_1, if_pos c_6, if_pos c_7]).symm.trans hq |>.symm) dX3_put_85
          · refine lv_iload hx hb dX3_put_71 (lv_at hl 4 rfl) ?_
            refine lv_if_eq (tgt := 83) hx hb dX3_put_73 (by decide) (fun c_8 => ?_) (fun c_8 => ?_)
            · refine lv_bipush (v := (-2)) hx hb dX3_put_83 (by decide) ?_
              exact rt_b hx hb hr hlocks hP hD hS rfl ((show pX3_put_L8 a1 (n + 1) v3 v4 v6 x = (((-2) : Int32), x) by rw [pX3_put_L8, if_neg c_1, if_pos c_6, if_neg c_7, if_pos c_8]).symm.trans hq |>.symm) dX3_put_85
            · refine lv_lload hx hb dX3_put_76 (lv_at hl 3 rfl) ?_
              refine lv_lconst (v := 0) hx hb dX3_put_78 (by decide) ?_
              refine W.lcmp hx hb dX3_put_79 ?_
              refine lv_if_eq (tgt := 86) hx hb dX3_put_80 (by decide) (fun c_9 => ?_) (fun c_9 => ?_)
              · refine lv_aload_n hx hb dX3_put_86 rfl (lv_at hl 0 rfl) ?_
                refine md_get (ci := 3) (C := RX3) (T := TX3) (N := 13) (v := .int (x.1 1)) hx hb hts hin hown hK hP rfl 7 (by decide) k_153 rfl rfl rfl dX3_put_87 ?_
                refine lv_iload_n hx hb dX3_put_90 rfl (lv_at hl 2 rfl) ?_
                refine lv_iadd hx hb dX3_put_91 ?_
                refine lv_bipush (v := 80) hx hb dX3_put_92 (by decide) ?_
                refine lv_icmp_le (tgt := 100) hx hb dX3_put_94 (by decide) (fun c_10 => ?_) (fun c_10 => ?_)
                · have t_10 := i_le (z := (Int32.toInt ((x.1 1) + v3))) (w := (80)) c_10 rfl (by decide)
                  refine lv_iload_n hx hb dX3_put_100 rfl (lv_at hl 2 rfl) ?_
                  refine lv_iconst (v := 1) hx hb dX3_put_101 (by decide) ?_
                  refine lv_isub hx hb dX3_put_102 ?_
                  refine lv_istore (lv' := [(7, .int (v3 - 1)), (0, .ref (h 0)), (1, .long a1), (3, .int v3), (4, .long v4), (6, .int v6)]) hx hb dX3_put_103 hl (by decide) rfl (fun ls hl => ?_)
                  exact lp_105 9 v3 v4 v6 (v3 - 1) x (by exact (put_k g_0 g_1 g_2 g_3 (i_le (z := Int32.toInt (x.1 1 + v3)) (w := 80) (by with_reducible assumption) rfl (by decide))).1) (by exact (put_k g_0 g_1 g_2 g_3 (i_le (z := Int32.toInt (x.1 1 + v3)) (w := 80) (by with_reducible assumption) rfl (by decide))).2.1) (by exact g_2) (by exact (put_k g_0 g_1 g_2 g_3 (i_le (z := Int32.toInt (x.1 1 + v3)) (w := 80) (by with_reducible assumption) rfl (by decide))).2.2.1) (by exact (put_k g_0 g_1 g_2 g_3 (i_le (z := Int32.toInt (x.1 1 + v3)) (w := 80) (by with_reducible assumption) rfl (by decide))).2.2.2) ((show pX3_put_L8 a1 (n + 1) v3 v4 v6 x = pX3_put_L105 a1 9 v3 v4 v6 (v3 - 1) x by rw [pX3_put_L8, if_neg c_1, if_pos c_6, if_neg c_7, if_neg c_8, if_pos c_9, if_pos c_10]).symm.trans hq) _ _ _ hP hD hS (lv_sub hl [1, 2, 3, 4, 5, 0] rfl)
                · have t_10 := i_nle (z := (Int32.toInt ((x.1 1) + v3))) (w := (80)) c_10 rfl (by decide)
                  refine lv_bipush (v := (-4)) hx hb dX3_put_97 (by decide) ?_
                  exact rt_b hx hb hr hlocks hP hD hS rfl ((show pX3_put_L8 a1 (n + 1) v3 v4 v6 x = (((-4) : Int32), x) by rw [pX3_put_L8, if_neg c_1, if_pos c_6, if_neg c_7, if_neg c_8, if_pos c_9, if_neg c_10]).symm.trans hq |>.symm) dX3_put_99
              · refine lv_bipush (v := (-2)) hx hb dX3_put_83 (by decide) ?_
                exact rt_b hx hb hr hlocks hP hD hS rfl ((show pX3_put_L8 a1 (n + 1) v3 v4 v6 x = (((-2) : Int32), x) by rw [pX3_put_L8, if_neg c_1, if_pos c_6, if_neg c_7, if_neg c_8, if_neg c_9]).symm.trans hq |>.symm) dX3_put_85
        · refine lv_iload hx hb dX3_put_25 (lv_at hl 4 rfl) ?_
          refine lv_if_eq (tgt := 51) hx hb dX3_put_27 (by decide) (fun c_11 => ?_) (fun c_11 => ?_)
          · refine lv_iconst (v := 0) hx hb dX3_put_51 (by decide) ?_
            refine lv_istore (lv' := [(6, .int 0), (0, .ref (h 0)), (1, .long a1), (3, .int v3), (4, .long v4)]) hx hb dX3_put_52 hl (by decide) rfl (fun ls hl => ?_)
            refine lv_lload hx hb dX3_put_54 (lv_at hl 4 rfl) ?_
            refine lv_bipush (v := 8) hx hb dX3_put_56 (by decide) ?_
            refine lv_lushr (v := (lush v4 8)) hx hb dX3_put_58 rfl ?_
            refine lv_lstore (lv' := [(4, .long (lush v4 8)), (6, .int 0), (0, .ref (h 0)), (1, .long a1), (3, .int v3)]) hx hb dX3_put_59 hl (by decide) rfl (fun ls hl => ?_)
            refine lv_iinc (v := (v3 + 1)) (lv' := [(3, .int (v3 + 1)), (4, .long (lush v4 8)), (6, .int 0), (0, .ref (h 0)), (1, .long a1)]) hx hb dX3_put_61 hl (k := 4) rfl rfl (by decide) rfl (fun ls hl => ?_)
            have a_61 := i_add1 (a := v3) (by omega) (by omega)
            refine lv_goto (tgt := 8) hx hb dX3_put_64 (by decide) ?_
            exact ih (v3 + 1) (lush v4 8) 0 x (by omega) (by omega) (by omega) (by omega) (by omega) ((show pX3_put_L8 a1 (n + 1) v3 v4 v6 x = pX3_put_L8 a1 n (v3 + 1) (lush v4 8) 0 x by rw [pX3_put_L8, if_neg c_1, if_neg c_6, if_pos c_11]).symm.trans hq) _ _ _ hP hD hS (lv_sub hl [3, 4, 0, 1, 2] rfl)
          · refine lv_lload hx hb dX3_put_30 (lv_at hl 3 rfl) ?_
            refine lv_ldc2 hx hb hown k_159 dX3_put_32 ?_
            refine lv_land hx hb dX3_put_35 ?_
            refine lv_l2i (v := ((v4 &&& 255)).toInt32) hx hb dX3_put_36 rfl ?_
            refine lv_bipush (v := 33) hx hb dX3_put_37 (by decide) ?_
            refine lv_bipush (v := 126) hx hb dX3_put_39 (by decide) ?_
            refine gn_i hP hS hA (rn_S (As := [.int (((v4 &&& 255)).toInt32), .int 33, .int 126]) (rest := []) ⟨hx, hb, hml, hown, hts⟩ (ctX3_within l G cI cC cZ cR (((v4 &&& 255)).toInt32) 33 126) (va_cwS 3 hts gX3_put_X3_within rfl rfl rfl (by decide +kernel) ⟨Nat.le_of_ble_eq_true rfl, Nat.le_of_ble_eq_true rfl⟩) hK nilP (nilD (A := A)) hN rfl hl.1 rfl (Nat.le_of_ble_eq_true rfl) dX3_put_41) (fun H locs hP hS => ?_)
            refine lv_if_eq (tgt := 51) hx hb dX3_put_44 (by decide) (fun c_12 => ?_) (fun c_12 => ?_)
            · refine lv_iconst (v := 0) hx hb dX3_put_51 (by decide) ?_
              refine lv_istore (lv' := [(6, .int 0), (0, .ref (h 0)), (1, .long a1), (3, .int v3), (4, .long v4)]) hx hb dX3_put_52 hl (by decide) rfl (fun ls hl => ?_)
              refine lv_lload hx hb dX3_put_54 (lv_at hl 4 rfl) ?_
              refine lv_bipush (v := 8) hx hb dX3_put_56 (by decide) ?_
              refine lv_lushr (v := (lush v4 8)) hx hb dX3_put_58 rfl ?_
              refine lv_lstore (lv' := [(4, .long (lush v4 8)), (6, .int 0), (0, .ref (h 0)), (1, .long a1), (3, .int v3)]) hx hb dX3_put_59 hl (by decide) rfl (fun ls hl => ?_)
              refine lv_iinc (v := (v3 + 1)) (lv' := [(3, .int (v3 + 1)), (4, .long (lush v4 8)), (6, .int 0), (0, .ref (h 0)), (1, .long a1)]) hx hb dX3_put_61 hl (k := 4) rfl rfl (by decide) rfl (fun ls hl => ?_)
              have a_61 := i_add1 (a := v3) (by omega) (by omega)
              refine lv_goto (tgt := 8) hx hb dX3_put_64 (by decide) ?_
              exact ih (v3 + 1) (lush v4 8) 0 x (by omega) (by omega) (by omega) (by omega) (by omega) ((show pX3_put_L8 a1 (n + 1) v3 v4 v6 x = pX3_put_L8 a1 n (v3 + 1) (lush v4 8) 0 x by rw [pX3_put_L8, if_neg c_1, if_neg c_6, if_neg c_11, if_pos c_12]).symm.trans hq) _ _ _ hP hD hS (lv_sub hl [3, 4, 0, 1, 2] rfl)
            · refine lv_iconst (v := 1) hx hb dX3_put_47 (by decide) ?_
              refine lv_goto (tgt := 52) hx hb dX3_put_48 (by decide) ?_
              refine lv_istore (lv' := [(6, .int 1), (0, .ref (h 0)), (1, .long a1), (3, .int v3), (4, .long v4)]) hx hb dX3_put_52 hl (by decide) rfl (fun ls hl => ?_)
              refine lv_lload hx hb dX3_put_54 (lv_at hl 4 rfl) ?_
              refine lv_bipush (v := 8) hx hb dX3_put_56 (by decide) ?_
              refine lv_lushr (v := (lush v4 8)) hx hb dX3_put_58 rfl ?_
              refine lv_lstore (lv' := [(4, .long (lush v4 8)), (6, .int 1), (0, .ref (h 0)), (1, .long a1), (3, .int v3)]) hx hb dX3_put_59 hl (by decide) rfl (fun ls hl => ?_)
              refine lv_iinc (v := (v3 + 1)) (lv' := [(3, .int (v3 + 1)), (4, .long (lush v4 8)), (6, .int 1), (0, .ref (h 0)), (1, .long a1)]) hx hb dX3_put_61 hl (k := 4) rfl rfl (by decide) rfl (fun ls hl => ?_)
              have a_61 := i_add1 (a := v3) (by omega) (by omega)
              refine lv_goto (tgt := 8) hx hb dX3_put_64 (by decide) ?_
              exact ih (v3 + 1) (lush v4 8) 1 x (by omega) (by omega) (by omega) (by omega) (by omega) ((show pX3_put_L8 a1 (n + 1) v3 v4 v6 x = pX3_put_L8 a1 n (v3 + 1) (lush v4 8) 1 x by rw [pX3_put_L8, if_neg c_1, if_neg c_6, if_neg c_11, if_neg c_12]).symm.trans hq) _ _ _ hP hD hS (lv_sub hl [3, 4, 0, 1, 2] rfl)
  refine lv_iconst (v := 0) hx hb dX3_put_0 (by decide) ?_
  refine lv_istore_n (lv' := [(3, .int 0), (0, .ref (h 0)), (1, .long a1)]) hx hb dX3_put_1 rfl hl (by decide) rfl (fun ls hl => ?_)
  refine lv_lload_n hx hb dX3_put_2 rfl (lv_at hl 2 rfl) ?_
  refine lv_lstore (lv' := [(4, .long a1), (3, .int 0), (0, .ref (h 0)), (1, .long a1)]) hx hb dX3_put_3 hl (by decide) rfl (fun ls hl => ?_)
  refine lv_iconst (v := 1) hx hb dX3_put_5 (by decide) ?_
  refine lv_istore (lv' := [(6, .int 1), (4, .long a1), (3, .int 0), (0, .ref (h 0)), (1, .long a1)]) hx hb dX3_put_6 hl (by decide) rfl (fun ls hl => ?_)
  exact lp_8 9 0 a1 1 x (by first | decide | omega | assumption) (by first | decide | omega | assumption) (by first | decide | omega | assumption) (by first | decide | omega | assumption) (by decide) ((show pX3_put a1 x = pX3_put_L8 a1 9 0 a1 1 x by rw [pX3_put]).symm.trans hres) _ _ _ hP hD hS (lv_sub hl [3, 4, 2, 1, 0] rfl)
