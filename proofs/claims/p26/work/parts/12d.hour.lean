set_option maxHeartbeats 2000000 in
set_option maxRecDepth 100000 in
theorem ctL_hour (l : Launch) (G : va_G) (cI cC cZ cR : ClassId) (h : Ad) (xq : SR) {B : Int} (q_0 : HQ B xq) (q_1 : B ≤ 100000) : Ct l yL_hour wsL_hour (rmz 2 42) G (TY cI cC cZ cR) [.ref (h 1), .ref (h 2), .ref (h 3)] (wQ cI h xq) (Qi G (wQ cI h xq) (pL_hour xq).1 (wQ cI h ((pL_hour xq).2))) := by
  refine Ct.ofI (cc := cL_hour) (maxL := 14) (ret := (some .int)) (by decide) rfl rfl ?_
  intro p e s m below meth c A ls E0 hP hD hS hl
  obtain ⟨hx, hb, hr, hml, hlocks, hts, hown, hK, hN, hA⟩ := E0
  have hl : lv_has ls 14 [(0, .ref (h 1)), (1, .ref (h 2)), (2, .ref (h 3))] := hl
  have lp_62 : ∀ (w3 : Int32) (w4 : Int32) (w5 : Int32) (w6 : Int32) (w7 : Int32) (w8 : Int32) (w9 : Int32) (w10 : Int32) (n : Nat) (v11 : Int32) (v12 : Int32) (v13 : Int32) (zq : SR), 0 ≤ Int32.toInt v13 → Int32.toInt v13 ≤ 12 → 12 - Int32.toInt v13 < (n : Int) → (∀ t : Int32 × Int32, t = pL_hour_L62 w3 w6 n v11 v12 v13 zq → ∀ (H : Heap) (locs : List Loc) (ls : Array Slot), va_P G vwCl (wQ cI h zq) H → va_D A (wQ cI h zq) → va_S A s.heap H locs → lv_has ls 14 [(0, .ref (h 1)), (1, .ref (h 2)), (2, .ref (h 3)), (3, .int w3), (4, .int w4), (5, .int w5), (6, .int w6), (7, .int w7), (8, .int w8), (9, .int w9), (10, .int w10), (11, .int (t.1)), (12, .int (t.2))] → W p l e (rmz 2 42) s m ([.ref (h 1), .ref (h 2), .ref (h 3)] : List Value).toArray below meth c H locs 0 0 (MQ below (QiA G A (pL_hour xq).1 (wQ cI h ((pL_hour xq).2))) ([.ref (h 1), .ref (h 2), .ref (h 3)] : List Value).toArray s 0 0 A) (F0 m 167 ls [])) → ∀ (H : Heap) (locs : List Loc) (ls : Array Slot), va_P G vwCl (wQ cI h zq) H → va_D A (wQ cI h zq) → va_S A s.heap H locs → lv_has ls 14 [(0, .ref (h 1)), (1, .ref (h 2)), (2, .ref (h 3)), (3, .int w3), (4, .int w4), (5, .int w5), (6, .int w6), (7, .int w7), (8, .int w8), (9, .int w9), (10, .int w10), (11, .int v11), (12, .int v12), (13, .int v13)] → W p l e (rmz 2 42) s m ([.ref (h 1), .ref (h 2), .ref (h 3)] : List Value).toArray below meth c H locs 0 0 (MQ below (QiA G A (pL_hour xq).1 (wQ cI h ((pL_hour xq).2))) ([.ref (h 1), .ref (h 2), .ref (h 3)] : List Value).toArray s 0 0 A) (F0 m 62 ls []) := by
    intro w3 w4 w5 w6 w7 w8 w9 w10 n
    induction n with
    | zero =>
      intro v11 v12 v13 zq g_0 g_1 hm
      exfalso; omega
    | succ n ih =>
      intro v11 v12 v13 zq g_0 g_1 hm hKK H locs ls hP hD hS hl
      refine lv_iload hx hb dL_hour_62 (lv_at hl 13 rfl) ?_
      refine lv_bipush (v := 12) hx hb dL_hour_64 (by decide) ?_
      refine lv_icmp_ge (tgt := 167) hx hb dL_hour_66 (by decide) (fun c_2 => ?_) (fun c_2 => ?_)
      · have t_2 := i_le (z := (12)) (w := (Int32.toInt v13)) c_2 (by decide) rfl
        exact hKK (v11, v12) (show pL_hour_L62 w3 w6 (n + 1) v11 v12 v13 zq = (v11, v12) by rw [pL_hour_L62, if_pos c_2]).symm _ _ _ hP hD hS (lv_sub hl [0, 1, 2, 3, 4, 5, 6, 7, 8, 9, 10, 11, 12] rfl)
      · have t_2 := i_nle (z := (12)) (w := (Int32.toInt v13)) c_2 (by decide) rfl
        refine lv_aload_n hx hb dL_hour_69 rfl (lv_at hl 1 rfl) ?_
        refine lv_iconst (v := 5) hx hb dL_hour_70 (by decide) ?_
        refine lv_iload hx hb dL_hour_71 (lv_at hl 13 rfl) ?_
        refine lv_imul hx hb dL_hour_73 ?_
        refine qa_ld (v := zq.2 1 (ix (5 * v13))) hx hb hK hP 1 rfl (e5_in (n := 12) (by first | with_reducible assumption | exact vp_in_iff.mpr ⟨by decide, by decide⟩ | exact vp_in_iff.mpr ⟨by omega, by omega⟩)) rfl dL_hour_74 ?_
        refine lv_if_lt (tgt := 161) hx hb dL_hour_75 (by decide) (fun c_3 => ?_) (fun c_3 => ?_)
        · have t_3 := i_lt (z := (Int32.toInt (zq.2 1 (ix (5 * v13))))) (w := (0)) c_3 rfl (by decide)
          refine lv_iinc (v := (v13 + 1)) (lv' := [(13, .int (v13 + 1)), (0, .ref (h 1)), (1, .ref (h 2)), (2, .ref (h 3)), (3, .int w3), (4, .int w4), (5, .int w5), (6, .int w6), (7, .int w7), (8, .int w8), (9, .int w9), (10, .int w10), (11, .int v11), (12, .int v12)]) hx hb dL_hour_161 hl (k := 13) rfl rfl (by decide) rfl (fun ls hl => ?_)
          have a_161 := i_add1 (a := v13) (by omega) (by omega)
          refine lv_goto (tgt := 62) hx hb dL_hour_164 (by decide) ?_
          exact ih v11 v12 (v13 + 1) zq (by omega) (by omega) (by omega) (fun t et => hKK t (et.trans (show pL_hour_L62 w3 w6 (n + 1) v11 v12 v13 zq = pL_hour_L62 w3 w6 n v11 v12 (v13 + 1) zq by rw [pL_hour_L62, if_neg c_2, if_pos c_3]).symm)) _ _ _ hP hD hS (lv_sub hl [1, 2, 3, 4, 5, 6, 7, 8, 9, 10, 11, 12, 13, 0] rfl)
        · have t_3 := i_nlt (z := (Int32.toInt (zq.2 1 (ix (5 * v13))))) (w := (0)) c_3 rfl (by decide)
          refine lv_iload hx hb dL_hour_78 (lv_at hl 6 rfl) ?_
          refine lv_iload hx hb dL_hour_80 (lv_at hl 13 rfl) ?_
          refine lv_ishr hx hb dL_hour_82 ?_
          refine lv_iconst (v := 1) hx hb dL_hour_83 (by decide) ?_
          refine lv_iand hx hb dL_hour_84 ?_
          refine lv_if_ne (tgt := 91) hx hb dL_hour_85 (by decide) (fun c_4 => ?_) (fun c_4 => ?_)
          · refine lv_iload hx hb dL_hour_91 (lv_at hl 11 rfl) ?_
            refine lv_aload_n hx hb dL_hour_93 rfl (lv_at hl 1 rfl) ?_
            refine lv_iconst (v := 5) hx hb dL_hour_94 (by decide) ?_
            refine lv_iload hx hb dL_hour_95 (lv_at hl 13 rfl) ?_
            refine lv_imul hx hb dL_hour_97 ?_
            refine lv_iconst (v := 2) hx hb dL_hour_98 (by decide) ?_
            refine lv_iadd hx hb dL_hour_99 ?_
            refine qa_ld (v := zq.2 1 (ix ((5 * v13) + 2))) hx hb hK hP 1 rfl (e5_add (n := 12) (by first | with_reducible assumption | exact vp_in_iff.mpr ⟨by decide, by decide⟩ | exact vp_in_iff.mpr ⟨by omega, by omega⟩) (by first | with_reducible assumption | exact vp_in_iff.mpr ⟨by decide, by decide⟩ | exact vp_in_iff.mpr ⟨by omega, by omega⟩)) rfl dL_hour_100 ?_
            refine lv_iload_n hx hb dL_hour_101 rfl (lv_at hl 3 rfl) ?_
            have j_15 : ∀ (u15_0 : Int32), u15_0 = (pL_hour_J110s0 w3) → ∀ (H : Heap) (locs : List Loc) (ls : Array Slot), va_P G vwCl (wQ cI h zq) H → va_D A (wQ cI h zq) → va_S A s.heap H locs → lv_has ls 14 [(0, .ref (h 1)), (1, .ref (h 2)), (2, .ref (h 3)), (3, .int w3), (4, .int w4), (5, .int w5), (6, .int w6), (7, .int w7), (8, .int w8), (9, .int w9), (10, .int w10), (11, .int v11), (12, .int v12), (13, .int v13)] → W p l e (rmz 2 42) s m ([.ref (h 1), .ref (h 2), .ref (h 3)] : List Value).toArray below meth c H locs 0 0 (MQ below (QiA G A (pL_hour xq).1 (wQ cI h ((pL_hour xq).2))) ([.ref (h 1), .ref (h 2), .ref (h 3)] : List Value).toArray s 0 0 A) (F0 m 110 ls [.int u15_0, .int (zq.2 1 (ix ((5 * v13) + 2))), .int v11]) := by
              intro u15_0 e0 H locs ls hP hD hS hl
              subst e0
              have j_16 : ∀ (u16_0 : Int32), u16_0 = (pL_hour_J121s0 w3 v13 zq) → ∀ (H : Heap) (locs : List Loc) (ls : Array Slot), va_P G vwCl (wQ cI h zq) H → va_D A (wQ cI h zq) → va_S A s.heap H locs → lv_has ls 14 [(0, .ref (h 1)), (1, .ref (h 2)), (2, .ref (h 3)), (3, .int w3), (4, .int w4), (5, .int w5), (6, .int w6), (7, .int w7), (8, .int w8), (9, .int w9), (10, .int w10), (11, .int v11), (12, .int v12), (13, .int v13)] → W p l e (rmz 2 42) s m ([.ref (h 1), .ref (h 2), .ref (h 3)] : List Value).toArray below meth c H locs 0 0 (MQ below (QiA G A (pL_hour xq).1 (wQ cI h ((pL_hour xq).2))) ([.ref (h 1), .ref (h 2), .ref (h 3)] : List Value).toArray s 0 0 A) (F0 m 121 ls [.int u16_0, .int v11]) := by
                intro u16_0 e0 H locs ls hP hD hS hl
                subst e0
                refine lv_ior hx hb dL_hour_121 ?_
                refine lv_istore (lv' := [(11, .int (v11 ||| (pL_hour_J121s0 w3 v13 zq))), (0, .ref (h 1)), (1, .ref (h 2)), (2, .ref (h 3)), (3, .int w3), (4, .int w4), (5, .int w5), (6, .int w6), (7, .int w7), (8, .int w8), (9, .int w9), (10, .int w10), (12, .int v12), (13, .int v13)]) hx hb dL_hour_122 hl (by decide) rfl (fun ls hl => ?_)
                refine lv_iload hx hb dL_hour_124 (lv_at hl 12 rfl) ?_
                refine lv_aload_n hx hb dL_hour_126 rfl (lv_at hl 2 rfl) ?_
                refine lv_iconst (v := 5) hx hb dL_hour_127 (by decide) ?_
                refine lv_iload hx hb dL_hour_128 (lv_at hl 13 rfl) ?_
                refine lv_imul hx hb dL_hour_130 ?_
                refine lv_iconst (v := 2) hx hb dL_hour_131 (by decide) ?_
                refine lv_iadd hx hb dL_hour_132 ?_
                refine qa_ld (v := zq.2 1 (ix ((5 * v13) + 2))) hx hb hK hP 1 rfl (e5_add (n := 12) (by first | with_reducible assumption | exact vp_in_iff.mpr ⟨by decide, by decide⟩ | exact vp_in_iff.mpr ⟨by omega, by omega⟩) (by first | with_reducible assumption | exact vp_in_iff.mpr ⟨by decide, by decide⟩ | exact vp_in_iff.mpr ⟨by omega, by omega⟩)) rfl dL_hour_133 ?_
                refine lv_iconst (v := 2) hx hb dL_hour_134 (by decide) ?_
                have j_17 : ∀ (u17_0 : Int32), u17_0 = (pL_hour_J158s0 v13 zq) → ∀ (H : Heap) (locs : List Loc) (ls : Array Slot), va_P G vwCl (wQ cI h zq) H → va_D A (wQ cI h zq) → va_S A s.heap H locs → lv_has ls 14 [(11, .int (v11 ||| (pL_hour_J121s0 w3 v13 zq))), (0, .ref (h 1)), (1, .ref (h 2)), (2, .ref (h 3)), (3, .int w3), (4, .int w4), (5, .int w5), (6, .int w6), (7, .int w7), (8, .int w8), (9, .int w9), (10, .int w10), (12, .int v12), (13, .int v13)] → W p l e (rmz 2 42) s m ([.ref (h 1), .ref (h 2), .ref (h 3)] : List Value).toArray below meth c H locs 0 0 (MQ below (QiA G A (pL_hour xq).1 (wQ cI h ((pL_hour xq).2))) ([.ref (h 1), .ref (h 2), .ref (h 3)] : List Value).toArray s 0 0 A) (F0 m 158 ls [.int u17_0, .int v12]) := by
                  intro u17_0 e0 H locs ls hP hD hS hl
                  subst e0
                  refine lv_ior hx hb dL_hour_158 ?_
                  refine lv_istore (lv' := [(12, .int (v12 ||| (pL_hour_J158s0 v13 zq))), (11, .int (v11 ||| (pL_hour_J121s0 w3 v13 zq))), (0, .ref (h 1)), (1, .ref (h 2)), (2, .ref (h 3)), (3, .int w3), (4, .int w4), (5, .int w5), (6, .int w6), (7, .int w7), (8, .int w8), (9, .int w9), (10, .int w10), (13, .int v13)]) hx hb dL_hour_159 hl (by decide) rfl (fun ls hl => ?_)
                  refine lv_iinc (v := (v13 + 1)) (lv' := [(13, .int (v13 + 1)), (12, .int (v12 ||| (pL_hour_J158s0 v13 zq))), (11, .int (v11 ||| (pL_hour_J121s0 w3 v13 zq))), (0, .ref (h 1)), (1, .ref (h 2)), (2, .ref (h 3)), (3, .int w3), (4, .int w4), (5, .int w5), (6, .int w6), (7, .int w7), (8, .int w8), (9, .int w9), (10, .int w10)]) hx hb dL_hour_161 hl (k := 13) rfl rfl (by decide) rfl (fun ls hl => ?_)
                  have a_161 := i_add1 (a := v13) (by omega) (by omega)
                  refine lv_goto (tgt := 62) hx hb dL_hour_164 (by decide) ?_
                  exact ih (v11 ||| (pL_hour_J121s0 w3 v13 zq)) (v12 ||| (pL_hour_J158s0 v13 zq)) (v13 + 1) zq (by omega) (by omega) (by omega) (fun t et => hKK t (et.trans (show pL_hour_L62 w3 w6 (n + 1) v11 v12 v13 zq = pL_hour_L62 w3 w6 n (v11 ||| (pL_hour_J121s0 w3 v13 zq)) (v12 ||| (pL_hour_J158s0 v13 zq)) (v13 + 1) zq by rw [pL_hour_L62, if_neg c_2, if_neg c_3, if_neg c_4]).symm)) _ _ _ hP hD hS (lv_sub hl [3, 4, 5, 6, 7, 8, 9, 10, 11, 12, 13, 2, 1, 0] rfl)
                refine lv_icmp_ge (tgt := 157) hx hb dL_hour_135 (by decide) (fun c_7 => ?_) (fun c_7 => ?_)
                · have t_7 := i_le (z := (2)) (w := (Int32.toInt (zq.2 1 (ix ((5 * v13) + 2))))) c_7 (by decide) rfl
                  refine lv_iconst (v := 0) hx hb dL_hour_157 (by decide) ?_
                  exact j_17 0 (by rw [pL_hour_J158s0, if_pos c_7]) _ _ _ hP hD hS (lv_sub hl [0, 1, 2, 3, 4, 5, 6, 7, 8, 9, 10, 11, 12, 13] rfl)
                · have t_7 := i_nle (z := (2)) (w := (Int32.toInt (zq.2 1 (ix ((5 * v13) + 2))))) c_7 (by decide) rfl
                  refine lv_aload_n hx hb dL_hour_138 rfl (lv_at hl 2 rfl) ?_
                  refine lv_iconst (v := 5) hx hb dL_hour_139 (by decide) ?_
                  refine lv_iload hx hb dL_hour_140 (lv_at hl 13 rfl) ?_
                  refine lv_imul hx hb dL_hour_142 ?_
                  refine qa_ld (v := zq.2 1 (ix (5 * v13))) hx hb hK hP 1 rfl (e5_in (n := 12) (by first | with_reducible assumption | exact vp_in_iff.mpr ⟨by decide, by decide⟩ | exact vp_in_iff.mpr ⟨by omega, by omega⟩)) rfl dL_hour_143 ?_
                  refine lv_aload_n hx hb dL_hour_144 rfl (lv_at hl 1 rfl) ?_
                  refine lv_iconst (v := 5) hx hb dL_hour_145 (by decide) ?_
                  refine qa_ld (v := zq.2 0 (ix 5)) hx hb hK hP 0 rfl (vp_in_iff.mpr ⟨by decide, by decide⟩) rfl dL_hour_146 ?_
                  refine lv_icmp_ge (tgt := 157) hx hb dL_hour_147 (by decide) (fun c_8 => ?_) (fun c_8 => ?_)
                  · have t_8 := i_le (z := (Int32.toInt (zq.2 0 (ix 5)))) (w := (Int32.toInt (zq.2 1 (ix (5 * v13))))) c_8 rfl rfl
                    refine lv_iconst (v := 0) hx hb dL_hour_157 (by decide) ?_
                    exact j_17 0 (by rw [pL_hour_J158s0, if_neg c_7, if_pos c_8]) _ _ _ hP hD hS (lv_sub hl [0, 1, 2, 3, 4, 5, 6, 7, 8, 9, 10, 11, 12, 13] rfl)
                  · have t_8 := i_nle (z := (Int32.toInt (zq.2 0 (ix 5)))) (w := (Int32.toInt (zq.2 1 (ix (5 * v13))))) c_8 rfl rfl
                    refine lv_iconst (v := 1) hx hb dL_hour_150 (by decide) ?_
                    refine lv_iload hx hb dL_hour_151 (lv_at hl 13 rfl) ?_
                    refine lv_ishl hx hb dL_hour_153 ?_
                    refine lv_goto (tgt := 158) hx hb dL_hour_154 (by decide) ?_
                    exact j_17 (1 <<< (v13 &&& 31)) (by rw [pL_hour_J158s0, if_neg c_7, if_neg c_8]) _ _ _ hP hD hS (lv_sub hl [0, 1, 2, 3, 4, 5, 6, 7, 8, 9, 10, 11, 12, 13] rfl)
              refine lv_icmp_ne (tgt := 120) hx hb dL_hour_110 (by decide) (fun c_6 => ?_) (fun c_6 => ?_)
              · refine lv_iconst (v := 0) hx hb dL_hour_120 (by decide) ?_
                exact j_16 0 (by rw [pL_hour_J121s0, if_neg c_6]) _ _ _ hP hD hS (lv_sub hl [0, 1, 2, 3, 4, 5, 6, 7, 8, 9, 10, 11, 12, 13] rfl)
              · refine lv_iconst (v := 1) hx hb dL_hour_113 (by decide) ?_
                refine lv_iload hx hb dL_hour_114 (lv_at hl 13 rfl) ?_
                refine lv_ishl hx hb dL_hour_116 ?_
                refine lv_goto (tgt := 121) hx hb dL_hour_117 (by decide) ?_
                exact j_16 (1 <<< (v13 &&& 31)) (by rw [pL_hour_J121s0, if_pos c_6]) _ _ _ hP hD hS (lv_sub hl [0, 1, 2, 3, 4, 5, 6, 7, 8, 9, 10, 11, 12, 13] rfl)
            refine lv_if_eq (tgt := 109) hx hb dL_hour_102 (by decide) (fun c_5 => ?_) (fun c_5 => ?_)
            · refine lv_iconst (v := 2) hx hb dL_hour_109 (by decide) ?_
              exact j_15 2 (by rw [pL_hour_J110s0, if_pos c_5]) _ _ _ hP hD hS (lv_sub hl [0, 1, 2, 3, 4, 5, 6, 7, 8, 9, 10, 11, 12, 13] rfl)
            · refine lv_iconst (v := 1) hx hb dL_hour_105 (by decide) ?_
              refine lv_goto (tgt := 110) hx hb dL_hour_106 (by decide) ?_
              exact j_15 1 (by rw [pL_hour_J110s0, if_neg c_5]) _ _ _ hP hD hS (lv_sub hl [0, 1, 2, 3, 4, 5, 6, 7, 8, 9, 10, 11, 12, 13] rfl)
          · refine lv_goto (tgt := 161) hx hb dL_hour_88 (by decide) ?_
            refine lv_iinc (v := (v13 + 1)) (lv' := [(13, .int (v13 + 1)), (0, .ref (h 1)), (1, .ref (h 2)), (2, .ref (h 3)), (3, .int w3), (4, .int w4), (5, .int w5), (6, .int w6), (7, .int w7), (8, .int w8), (9, .int w9), (10, .int w10), (11, .int v11), (12, .int v12)]) hx hb dL_hour_161 hl (k := 13) rfl rfl (by decide) rfl (fun ls hl => ?_)
            have a_161 := i_add1 (a := v13) (by omega) (by omega)
            refine lv_goto (tgt := 62) hx hb dL_hour_164 (by decide) ?_
            exact ih v11 v12 (v13 + 1) zq (by omega) (by omega) (by omega) (fun t et => hKK t (et.trans (show pL_hour_L62 w3 w6 (n + 1) v11 v12 v13 zq = pL_hour_L62 w3 w6 n v11 v12 (v13 + 1) zq by rw [pL_hour_L62, if_neg c_2, if_neg c_3, if_pos c_4]).symm)) _ _ _ hP hD hS (lv_sub hl [1, 2, 3, 4, 5, 6, 7, 8, 9, 10, 11, 12, 13, 0] rfl)
  have lp_38 : ∀ (w3 : Int32) (w4 : Int32) (w5 : Int32) (w7 : Int32) (w8 : Int32) (n : Nat) (v6 : Int32) (v9 : Int32) (zq : SR), HQ B zq → 0 ≤ Int32.toInt v9 → Int32.toInt v9 ≤ 5 → 5 - Int32.toInt v9 < (n : Int) → (∀ t : SR, t = pL_hour_L38 w3 n v6 v9 zq → ∀ (H : Heap) (locs : List Loc) (ls : Array Slot), va_P G vwCl (wQ cI h t) H → va_D A (wQ cI h t) → va_S A s.heap H locs → lv_has ls 14 [(0, .ref (h 1)), (1, .ref (h 2)), (2, .ref (h 3)), (3, .int w3), (4, .int w4), (5, .int w5), (7, .int w7), (8, .int w8)] → W p l e (rmz 2 42) s m ([.ref (h 1), .ref (h 2), .ref (h 3)] : List Value).toArray below meth c H locs 0 0 (MQ below (QiA G A (pL_hour xq).1 (wQ cI h ((pL_hour xq).2))) ([.ref (h 1), .ref (h 2), .ref (h 3)] : List Value).toArray s 0 0 A) (F0 m 337 ls [])) → ∀ (H : Heap) (locs : List Loc) (ls : Array Slot), va_P G vwCl (wQ cI h zq) H → va_D A (wQ cI h zq) → va_S A s.heap H locs → lv_has ls 14 [(0, .ref (h 1)), (1, .ref (h 2)), (2, .ref (h 3)), (3, .int w3), (4, .int w4), (5, .int w5), (6, .int v6), (7, .int w7), (8, .int w8), (9, .int v9)] → W p l e (rmz 2 42) s m ([.ref (h 1), .ref (h 2), .ref (h 3)] : List Value).toArray below meth c H locs 0 0 (MQ below (QiA G A (pL_hour xq).1 (wQ cI h ((pL_hour xq).2))) ([.ref (h 1), .ref (h 2), .ref (h 3)] : List Value).toArray s 0 0 A) (F0 m 38 ls []) := by
    intro w3 w4 w5 w7 w8 n
    induction n with
    | zero =>
      intro v6 v9 zq g_0 g_1 g_2 hm
      exfalso; omega
    | succ n ih =>
      intro v6 v9 zq g_0 g_1 g_2 hm hKK H locs ls hP hD hS hl
      obtain ⟨⟨hq1, hq2⟩, ⟨hq3, hq4⟩, ⟨hq5, hq6⟩, ⟨hq7, hq8⟩, hq9⟩ := id g_0
      refine lv_iload hx hb dL_hour_38 (lv_at hl 9 rfl) ?_
      refine lv_aload_n hx hb dL_hour_40 rfl (lv_at hl 0 rfl) ?_
      refine lv_bipush (v := 11) hx hb dL_hour_41 (by decide) ?_
      refine qa_ld (v := zq.2 0 (ix 11)) hx hb hK hP 0 rfl (vp_in_iff.mpr ⟨by decide, by decide⟩) rfl dL_hour_43 ?_
      refine lv_icmp_ge (tgt := 337) hx hb dL_hour_44 (by decide) (fun c_1 => ?_) (fun c_1 => ?_)
      · have t_1 := i_le (z := (Int32.toInt (zq.2 0 (ix 11)))) (w := (Int32.toInt v9)) c_1 rfl rfl
        exact hKK zq (show pL_hour_L38 w3 (n + 1) v6 v9 zq = zq by rw [pL_hour_L38, if_pos c_1]).symm _ _ _ hP hD hS (lv_sub hl [0, 1, 2, 3, 4, 5, 7, 8] rfl)
      · have t_1 := i_nle (z := (Int32.toInt (zq.2 0 (ix 11)))) (w := (Int32.toInt v9)) c_1 rfl rfl
        refine lv_iconst (v := 5) hx hb dL_hour_47 (by decide) ?_
        refine lv_iload hx hb dL_hour_48 (lv_at hl 9 rfl) ?_
        refine lv_imul hx hb dL_hour_50 ?_
        refine lv_istore (lv' := [(10, .int (5 * v9)), (0, .ref (h 1)), (1, .ref (h 2)), (2, .ref (h 3)), (3, .int w3), (4, .int w4), (5, .int w5), (6, .int v6), (7, .int w7), (8, .int w8), (9, .int v9)]) hx hb dL_hour_51 hl (by decide) rfl (fun ls hl => ?_)
        refine lv_iconst (v := 0) hx hb dL_hour_53 (by decide) ?_
        refine lv_istore (lv' := [(11, .int 0), (10, .int (5 * v9)), (0, .ref (h 1)), (1, .ref (h 2)), (2, .ref (h 3)), (3, .int w3), (4, .int w4), (5, .int w5), (6, .int v6), (7, .int w7), (8, .int w8), (9, .int v9)]) hx hb dL_hour_54 hl (by decide) rfl (fun ls hl => ?_)
        refine lv_iconst (v := 0) hx hb dL_hour_56 (by decide) ?_
        refine lv_istore (lv' := [(12, .int 0), (11, .int 0), (10, .int (5 * v9)), (0, .ref (h 1)), (1, .ref (h 2)), (2, .ref (h 3)), (3, .int w3), (4, .int w4), (5, .int w5), (6, .int v6), (7, .int w7), (8, .int w8), (9, .int v9)]) hx hb dL_hour_57 hl (by decide) rfl (fun ls hl => ?_)
        refine lv_iconst (v := 0) hx hb dL_hour_59 (by decide) ?_
        refine lv_istore (lv' := [(13, .int 0), (12, .int 0), (11, .int 0), (10, .int (5 * v9)), (0, .ref (h 1)), (1, .ref (h 2)), (2, .ref (h 3)), (3, .int w3), (4, .int w4), (5, .int w5), (6, .int v6), (7, .int w7), (8, .int w8), (9, .int v9)]) hx hb dL_hour_60 hl (by decide) rfl (fun ls hl => ?_)
        refine lp_62 w3 w4 w5 v6 w7 w8 v9 (5 * v9) 13 0 0 0 zq (by first | decide | omega | assumption) (by first | decide | omega | assumption) (by decide) (fun t et H locs ls hP hD hS hl => ?_) _ _ _ hP hD hS (lv_sub hl [4, 5, 6, 7, 8, 9, 10, 11, 12, 13, 3, 2, 1, 0] rfl)
        have et : t = (pL_hour_E62 w3 v6 zq) := et
        subst et
        refine lv_iload hx hb dL_hour_167 (lv_at hl 11 rfl) ?_
        have j_18 : ∀ (u18_0 : Int32), u18_0 = (pL_hour_J179s0 w3 v6 zq) → ∀ (H : Heap) (locs : List Loc) (ls : Array Slot), va_P G vwCl (wQ cI h zq) H → va_D A (wQ cI h zq) → va_S A s.heap H locs → lv_has ls 14 [(0, .ref (h 1)), (1, .ref (h 2)), (2, .ref (h 3)), (3, .int w3), (4, .int w4), (5, .int w5), (6, .int v6), (7, .int w7), (8, .int w8), (9, .int v9), (10, .int (5 * v9)), (11, .int ((pL_hour_E62 w3 v6 zq).1)), (12, .int ((pL_hour_E62 w3 v6 zq).2))] → W p l e (rmz 2 42) s m ([.ref (h 1), .ref (h 2), .ref (h 3)] : List Value).toArray below meth c H locs 0 0 (MQ below (QiA G A (pL_hour xq).1 (wQ cI h ((pL_hour xq).2))) ([.ref (h 1), .ref (h 2), .ref (h 3)] : List Value).toArray s 0 0 A) (F0 m 179 ls [.int u18_0]) := by
          intro u18_0 e0 H locs ls hP hD hS hl
          subst e0
          refine lv_aload_n hx hb dL_hour_179 rfl (lv_at hl 2 rfl) ?_
          refine lv_iload hx hb dL_hour_180 (lv_at hl 10 rfl) ?_
          refine qa_ld (v := zq.2 2 (ix (5 * v9))) hx hb hK hP 2 rfl (e5_in (n := 5) (by first | with_reducible assumption | exact vp_in_iff.mpr ⟨by decide, by decide⟩ | exact vp_in_iff.mpr ⟨by omega, by omega⟩)) rfl dL_hour_182 ?_
          refine gL_n hP hD hS hA (lr_S (As := [.int (pL_hour_J179s0 w3 v6 zq), .int (zq.2 2 (ix (5 * v9)))]) (rest := []) ⟨hx, hb, hml, hown, hts⟩ (ctL_near l G cI cC cZ cR (pL_hour_J179s0 w3 v6 zq) (zq.2 2 (ix (5 * v9)))) (va_cwS 2 hts gL_hour_L_near rfl rfl rfl (by decide +kernel) ⟨Nat.le_of_ble_eq_true rfl, Nat.le_of_ble_eq_true rfl⟩) hK nilP (nilD (A := A)) hN rfl hl.1 rfl (Nat.le_of_ble_eq_true rfl) dL_hour_183 (Nat.zero_le _) (Nat.zero_le _)) (fun H locs hP hD hS => ?_)
          refine lv_istore (lv' := [(13, .int (pL_near (pL_hour_J179s0 w3 v6 zq) (zq.2 2 (ix (5 * v9))))), (0, .ref (h 1)), (1, .ref (h 2)), (2, .ref (h 3)), (3, .int w3), (4, .int w4), (5, .int w5), (6, .int v6), (7, .int w7), (8, .int w8), (9, .int v9), (10, .int (5 * v9)), (11, .int ((pL_hour_E62 w3 v6 zq).1)), (12, .int ((pL_hour_E62 w3 v6 zq).2))]) hx hb dL_hour_186 hl (by decide) rfl (fun ls hl => ?_)
          refine lv_iload hx hb dL_hour_188 (lv_at hl 0 rfl) ?_
          refine lv_if_lt (tgt := 331) hx hb dL_hour_190 (by decide) (fun c_10 => ?_) (fun c_10 => ?_)
          · have t_10 := i_lt (z := (Int32.toInt (pL_near (pL_hour_J179s0 w3 v6 zq) (zq.2 2 (ix (5 * v9)))))) (w := (0)) c_10 rfl (by decide)
            refine lv_iinc (v := (v9 + 1)) (lv' := [(9, .int (v9 + 1)), (13, .int (pL_near (pL_hour_J179s0 w3 v6 zq) (zq.2 2 (ix (5 * v9))))), (0, .ref (h 1)), (1, .ref (h 2)), (2, .ref (h 3)), (3, .int w3), (4, .int w4), (5, .int w5), (6, .int v6), (7, .int w7), (8, .int w8), (10, .int (5 * v9)), (11, .int ((pL_hour_E62 w3 v6 zq).1)), (12, .int ((pL_hour_E62 w3 v6 zq).2))]) hx hb dL_hour_331 hl (k := 10) rfl rfl (by decide) rfl (fun ls hl => ?_)
            have a_331 := i_add1 (a := v9) (by omega) (by omega)
            refine lv_goto (tgt := 38) hx hb dL_hour_334 (by decide) ?_
            exact ih v6 (v9 + 1) zq (by first | exact g_0 | exact hk1) (by omega) (by omega) (by omega) (fun t et => hKK t (et.trans (show pL_hour_L38 w3 (n + 1) v6 v9 zq = pL_hour_L38 w3 n v6 (v9 + 1) zq by rw [pL_hour_L38, if_neg c_1, if_pos c_10]).symm)) _ _ _ hP hD hS (lv_sub hl [2, 3, 4, 5, 6, 7, 8, 9, 10, 0] rfl)
          · have t_10 := i_nlt (z := (Int32.toInt (pL_near (pL_hour_J179s0 w3 v6 zq) (zq.2 2 (ix (5 * v9)))))) (w := (0)) c_10 rfl (by decide)
            have hto := near_hi (M := (pL_hour_J179s0 w3 v6 zq)) (hk9 hq9 (v := v9) (by omega) (by omega))
            refine lv_iload hx hb dL_hour_193 (lv_at hl 7 rfl) ?_
            refine lv_iconst (v := 1) hx hb dL_hour_195 (by decide) ?_
            refine lv_iload hx hb dL_hour_196 (lv_at hl 0 rfl) ?_
            refine lv_ishl hx hb dL_hour_198 ?_
            refine lv_iconst (v := (-1)) hx hb dL_hour_199 (by decide) ?_
            refine lv_ixor hx hb dL_hour_200 ?_
            refine lv_iand hx hb dL_hour_201 ?_
            refine lv_istore (lv' := [(6, .int (v6 &&& ((1 <<< ((pL_near (pL_hour_J179s0 w3 v6 zq) (zq.2 2 (ix (5 * v9)))) &&& 31)) ^^^ (-1)))), (13, .int (pL_near (pL_hour_J179s0 w3 v6 zq) (zq.2 2 (ix (5 * v9))))), (0, .ref (h 1)), (1, .ref (h 2)), (2, .ref (h 3)), (3, .int w3), (4, .int w4), (5, .int w5), (7, .int w7), (8, .int w8), (9, .int v9), (10, .int (5 * v9)), (11, .int ((pL_hour_E62 w3 v6 zq).1)), (12, .int ((pL_hour_E62 w3 v6 zq).2))]) hx hb dL_hour_202 hl (by decide) rfl (fun ls hl => ?_)
            refine lv_iload hx hb dL_hour_204 (lv_at hl 1 rfl) ?_
            refine lv_aload_n hx hb dL_hour_206 rfl (lv_at hl 4 rfl) ?_
            refine lv_iload hx hb dL_hour_207 (lv_at hl 11 rfl) ?_
            refine qa_ld (v := zq.2 2 (ix (5 * v9))) hx hb hK hP 2 rfl (e5_in (n := 5) (by first | with_reducible assumption | exact vp_in_iff.mpr ⟨by decide, by decide⟩ | exact vp_in_iff.mpr ⟨by omega, by omega⟩)) rfl dL_hour_209 ?_
            refine lv_icmp_eq (tgt := 247) hx hb dL_hour_210 (by decide) (fun c_11 => ?_) (fun c_11 => ?_)
            · refine lv_iload hx hb dL_hour_247 (lv_at hl 12 rfl) ?_
              refine lv_if_eq (tgt := 290) hx hb dL_hour_249 (by decide) (fun c_12 => ?_) (fun c_12 => ?_)
              · refine lv_aload_n hx hb dL_hour_290 rfl (lv_at hl 3 rfl) ?_
                refine lv_iconst (v := 5) hx hb dL_hour_291 (by decide) ?_
                refine lv_iload hx hb dL_hour_292 (lv_at hl 1 rfl) ?_
                refine lv_imul hx hb dL_hour_294 ?_
                refine lv_aload_n hx hb dL_hour_295 rfl (lv_at hl 3 rfl) ?_
                refine lv_iconst (v := 5) hx hb dL_hour_296 (by decide) ?_
                refine lv_iload hx hb dL_hour_297 (lv_at hl 1 rfl) ?_
                refine lv_imul hx hb dL_hour_299 ?_
                refine qa_ld (v := zq.2 1 (ix (5 * (pL_near (pL_hour_J179s0 w3 v6 zq) (zq.2 2 (ix (5 * v9))))))) hx hb hK hP 1 rfl (e5_in (n := 12) (by first | with_reducible assumption | exact vp_in_iff.mpr ⟨by decide, by decide⟩ | exact vp_in_iff.mpr ⟨by omega, by omega⟩)) rfl dL_hour_300 ?_
                refine lv_bipush (v := 90) hx hb dL_hour_301 (by decide) ?_
                have j_19 : ∀ (u19_0 : Int32), u19_0 = (pL_hour_J320s0 w3 v6 v9 zq) → ∀ (H : Heap) (locs : List Loc) (ls : Array Slot), va_P G vwCl (wQ cI h zq) H → va_D A (wQ cI h zq) → va_S A s.heap H locs → lv_has ls 14 [(6, .int (v6 &&& ((1 <<< ((pL_near (pL_hour_J179s0 w3 v6 zq) (zq.2 2 (ix (5 * v9)))) &&& 31)) ^^^ (-1)))), (13, .int (pL_near (pL_hour_J179s0 w3 v6 zq) (zq.2 2 (ix (5 * v9))))), (0, .ref (h 1)), (1, .ref (h 2)), (2, .ref (h 3)), (3, .int w3), (4, .int w4), (5, .int w5), (7, .int w7), (8, .int w8), (9, .int v9), (10, .int (5 * v9)), (11, .int ((pL_hour_E62 w3 v6 zq).1)), (12, .int ((pL_hour_E62 w3 v6 zq).2))] → W p l e (rmz 2 42) s m ([.ref (h 1), .ref (h 2), .ref (h 3)] : List Value).toArray below meth c H locs 0 0 (MQ below (QiA G A (pL_hour xq).1 (wQ cI h ((pL_hour xq).2))) ([.ref (h 1), .ref (h 2), .ref (h 3)] : List Value).toArray s 0 0 A) (F0 m 320 ls [.int u19_0, .int (5 * (pL_near (pL_hour_J179s0 w3 v6 zq) (zq.2 2 (ix (5 * v9))))), .ref (h 2)]) := by
                  intro u19_0 e0 H locs ls hP hD hS hl
                  subst e0
                  refine qa_st hx hb hK hP hD hS 1 rfl (e5_in (n := 12) (by first | with_reducible assumption | exact vp_in_iff.mpr ⟨by decide, by decide⟩ | exact vp_in_iff.mpr ⟨by omega, by omega⟩)) dL_hour_320 (fun H locs hP hD hS => ?_)
                  refine lv_aload_n hx hb dL_hour_321 rfl (lv_at hl 4 rfl) ?_
                  refine lv_iload hx hb dL_hour_322 (lv_at hl 11 rfl) ?_
                  refine lv_iconst (v := 3) hx hb dL_hour_324 (by decide) ?_
                  refine lv_iadd hx hb dL_hour_325 ?_
                  refine lv_dup2_11 hx hb dL_hour_326 rfl rfl ?_
                  refine qa_ld (v := zq.2 2 (ix ((5 * v9) + 3))) hx hb hK hP 2 rfl (e5_add (n := 5) (by first | with_reducible assumption | exact vp_in_iff.mpr ⟨by decide, by decide⟩ | exact vp_in_iff.mpr ⟨by omega, by omega⟩) (by first | with_reducible assumption | exact vp_in_iff.mpr ⟨by decide, by decide⟩ | exact vp_in_iff.mpr ⟨by omega, by omega⟩)) rfl dL_hour_327 ?_
                  refine lv_iconst (v := 1) hx hb dL_hour_328 (by decide) ?_
                  refine lv_iadd hx hb dL_hour_329 ?_
                  refine qa_st hx hb hK hP hD hS 2 rfl (e5_add (n := 5) (by first | with_reducible assumption | exact vp_in_iff.mpr ⟨by decide, by decide⟩ | exact vp_in_iff.mpr ⟨by omega, by omega⟩) (by first | with_reducible assumption | exact vp_in_iff.mpr ⟨by decide, by decide⟩ | exact vp_in_iff.mpr ⟨by omega, by omega⟩)) dL_hour_330 (fun H locs hP hD hS => ?_)
                  have hk1 : HQ B (pR (pR zq 1 (5 * (pL_near (pL_hour_J179s0 w3 v6 zq) (zq.2 2 (ix (5 * v9))))) (pL_hour_J320s0 w3 v6 v9 zq)) 2 ((5 * v9) + 3) ((zq.2 2 (ix ((5 * v9) + 3))) + 1)) := by
                    first
                    | exact HQ.kj (HQ.k1 g_0 (by omega) (by omega) (by rw [pL_hour_J232s0]; exact go_in (hk9 hq9 (v := v9) (by omega) (by omega)) (by omega) (by omega) (by assumption))) (by omega) (by omega) (by decide) (by decide)
                    | exact HQ.kj (HQ.pp g_0) (by omega) (by omega) (by decide) (by decide)
                    | exact HQ.kJ (HQ.pp g_0) (by omega) (by omega) (by rw [pL_hour_J281s0]; split <;> exact ⟨by decide, by decide⟩)
                  refine lv_iinc (v := (v9 + 1)) (lv' := [(9, .int (v9 + 1)), (6, .int (v6 &&& ((1 <<< ((pL_near (pL_hour_J179s0 w3 v6 zq) (zq.2 2 (ix (5 * v9)))) &&& 31)) ^^^ (-1)))), (13, .int (pL_near (pL_hour_J179s0 w3 v6 zq) (zq.2 2 (ix (5 * v9))))), (0, .ref (h 1)), (1, .ref (h 2)), (2, .ref (h 3)), (3, .int w3), (4, .int w4), (5, .int w5), (7, .int w7), (8, .int w8), (10, .int (5 * v9)), (11, .int ((pL_hour_E62 w3 v6 zq).1)), (12, .int ((pL_hour_E62 w3 v6 zq).2))]) hx hb dL_hour_331 hl (k := 10) rfl rfl (by decide) rfl (fun ls hl => ?_)
                  have a_331 := i_add1 (a := v9) (by omega) (by omega)
                  refine lv_goto (tgt := 38) hx hb dL_hour_334 (by decide) ?_
                  exact ih (v6 &&& ((1 <<< ((pL_near (pL_hour_J179s0 w3 v6 zq) (zq.2 2 (ix (5 * v9)))) &&& 31)) ^^^ (-1))) (v9 + 1) (pR (pR zq 1 (5 * (pL_near (pL_hour_J179s0 w3 v6 zq) (zq.2 2 (ix (5 * v9))))) (pL_hour_J320s0 w3 v6 v9 zq)) 2 ((5 * v9) + 3) ((zq.2 2 (ix ((5 * v9) + 3))) + 1)) (by first | exact g_0 | exact hk1) (by omega) (by omega) (by omega) (fun t et => hKK t (et.trans (show pL_hour_L38 w3 (n + 1) v6 v9 zq = pL_hour_L38 w3 n (v6 &&& ((1 <<< ((pL_near (pL_hour_J179s0 w3 v6 zq) (zq.2 2 (ix (5 * v9)))) &&& 31)) ^^^ (-1))) (v9 + 1) (pR (pR zq 1 (5 * (pL_near (pL_hour_J179s0 w3 v6 zq) (zq.2 2 (ix (5 * v9))))) (pL_hour_J320s0 w3 v6 v9 zq)) 2 ((5 * v9) + 3) ((zq.2 2 (ix ((5 * v9) + 3))) + 1)) by rw [pL_hour_L38, if_neg c_1, if_neg c_10, if_pos c_11, if_pos c_12]).symm)) _ _ _ hP hD hS (lv_sub hl [3, 4, 5, 6, 7, 8, 1, 9, 10, 0] rfl)
                refine lv_icmp_le (tgt := 311) hx hb dL_hour_303 (by decide) (fun c_13 => ?_) (fun c_13 => ?_)
                · have t_13 := i_le (z := (Int32.toInt (zq.2 1 (ix (5 * (pL_near (pL_hour_J179s0 w3 v6 zq) (zq.2 2 (ix (5 * v9))))))))) (w := (90)) c_13 rfl (by decide)
                  refine lv_aload_n hx hb dL_hour_311 rfl (lv_at hl 3 rfl) ?_
                  refine lv_iconst (v := 5) hx hb dL_hour_312 (by decide) ?_
                  refine lv_iload hx hb dL_hour_313 (lv_at hl 1 rfl) ?_
                  refine lv_imul hx hb dL_hour_315 ?_
                  refine qa_ld (v := zq.2 1 (ix (5 * (pL_near (pL_hour_J179s0 w3 v6 zq) (zq.2 2 (ix (5 * v9))))))) hx hb hK hP 1 rfl (e5_in (n := 12) (by first | with_reducible assumption | exact vp_in_iff.mpr ⟨by decide, by decide⟩ | exact vp_in_iff.mpr ⟨by omega, by omega⟩)) rfl dL_hour_316 ?_
                  refine lv_bipush (v := 10) hx hb dL_hour_317 (by decide) ?_
                  refine lv_iadd hx hb dL_hour_319 ?_
                  exact j_19 ((zq.2 1 (ix (5 * (pL_near (pL_hour_J179s0 w3 v6 zq) (zq.2 2 (ix (5 * v9))))))) + 10) (by rw [pL_hour_J320s0, if_pos c_13]) _ _ _ hP hD hS (lv_sub hl [0, 1, 2, 3, 4, 5, 6, 7, 8, 9, 10, 11, 12, 13] rfl)
                · have t_13 := i_nle (z := (Int32.toInt (zq.2 1 (ix (5 * (pL_near (pL_hour_J179s0 w3 v6 zq) (zq.2 2 (ix (5 * v9))))))))) (w := (90)) c_13 rfl (by decide)
                  refine lv_bipush (v := 100) hx hb dL_hour_306 (by decide) ?_
                  refine lv_goto (tgt := 320) hx hb dL_hour_308 (by decide) ?_
                  exact j_19 100 (by rw [pL_hour_J320s0, if_neg c_13]) _ _ _ hP hD hS (lv_sub hl [0, 1, 2, 3, 4, 5, 6, 7, 8, 9, 10, 11, 12, 13] rfl)
              · refine lv_aload_n hx hb dL_hour_252 rfl (lv_at hl 3 rfl) ?_
                refine lv_iconst (v := 5) hx hb dL_hour_253 (by decide) ?_
                refine lv_iload hx hb dL_hour_254 (lv_at hl 1 rfl) ?_
                refine lv_imul hx hb dL_hour_256 ?_
                refine lv_iconst (v := 2) hx hb dL_hour_257 (by decide) ?_
                refine lv_iadd hx hb dL_hour_258 ?_
                refine lv_iload_n hx hb dL_hour_259 rfl (lv_at hl 5 rfl) ?_
                have j_20 : ∀ (u20_0 : Int32), u20_0 = (pL_hour_J268s0 w3) → ∀ (H : Heap) (locs : List Loc) (ls : Array Slot), va_P G vwCl (wQ cI h zq) H → va_D A (wQ cI h zq) → va_S A s.heap H locs → lv_has ls 14 [(6, .int (v6 &&& ((1 <<< ((pL_near (pL_hour_J179s0 w3 v6 zq) (zq.2 2 (ix (5 * v9)))) &&& 31)) ^^^ (-1)))), (13, .int (pL_near (pL_hour_J179s0 w3 v6 zq) (zq.2 2 (ix (5 * v9))))), (0, .ref (h 1)), (1, .ref (h 2)), (2, .ref (h 3)), (3, .int w3), (4, .int w4), (5, .int w5), (7, .int w7), (8, .int w8), (9, .int v9), (10, .int (5 * v9)), (11, .int ((pL_hour_E62 w3 v6 zq).1)), (12, .int ((pL_hour_E62 w3 v6 zq).2))] → W p l e (rmz 2 42) s m ([.ref (h 1), .ref (h 2), .ref (h 3)] : List Value).toArray below meth c H locs 0 0 (MQ below (QiA G A (pL_hour xq).1 (wQ cI h ((pL_hour xq).2))) ([.ref (h 1), .ref (h 2), .ref (h 3)] : List Value).toArray s 0 0 A) (F0 m 268 ls [.int u20_0, .int ((5 * (pL_near (pL_hour_J179s0 w3 v6 zq) (zq.2 2 (ix (5 * v9))))) + 2), .ref (h 2)]) := by
                  intro u20_0 e0 H locs ls hP hD hS hl
                  subst e0
                  refine qa_st hx hb hK hP hD hS 1 rfl (e5_add (n := 12) (by first | with_reducible assumption | exact vp_in_iff.mpr ⟨by decide, by decide⟩ | exact vp_in_iff.mpr ⟨by omega, by omega⟩) (by first | with_reducible assumption | exact vp_in_iff.mpr ⟨by decide, by decide⟩ | exact vp_in_iff.mpr ⟨by omega, by omega⟩)) dL_hour_268 (fun H locs hP hD hS => ?_)
                  refine lv_aload_n hx hb dL_hour_269 rfl (lv_at hl 4 rfl) ?_
                  refine lv_iload hx hb dL_hour_270 (lv_at hl 11 rfl) ?_
                  refine lv_iload_n hx hb dL_hour_272 rfl (lv_at hl 5 rfl) ?_
                  have j_21 : ∀ (u21_0 : Int32), u21_0 = (pL_hour_J281s0 w3) → ∀ (H : Heap) (locs : List Loc) (ls : Array Slot), va_P G vwCl (wQ cI h (pR zq 1 ((5 * (pL_near (pL_hour_J179s0 w3 v6 zq) (zq.2 2 (ix (5 * v9))))) + 2) (pL_hour_J268s0 w3))) H → va_D A (wQ cI h (pR zq 1 ((5 * (pL_near (pL_hour_J179s0 w3 v6 zq) (zq.2 2 (ix (5 * v9))))) + 2) (pL_hour_J268s0 w3))) → va_S A s.heap H locs → lv_has ls 14 [(6, .int (v6 &&& ((1 <<< ((pL_near (pL_hour_J179s0 w3 v6 zq) (zq.2 2 (ix (5 * v9)))) &&& 31)) ^^^ (-1)))), (13, .int (pL_near (pL_hour_J179s0 w3 v6 zq) (zq.2 2 (ix (5 * v9))))), (0, .ref (h 1)), (1, .ref (h 2)), (2, .ref (h 3)), (3, .int w3), (4, .int w4), (5, .int w5), (7, .int w7), (8, .int w8), (9, .int v9), (10, .int (5 * v9)), (11, .int ((pL_hour_E62 w3 v6 zq).1)), (12, .int ((pL_hour_E62 w3 v6 zq).2))] → W p l e (rmz 2 42) s m ([.ref (h 1), .ref (h 2), .ref (h 3)] : List Value).toArray below meth c H locs 0 0 (MQ below (QiA G A (pL_hour xq).1 (wQ cI h ((pL_hour xq).2))) ([.ref (h 1), .ref (h 2), .ref (h 3)] : List Value).toArray s 0 0 A) (F0 m 281 ls [.int u21_0, .int (5 * v9), .ref (h 3)]) := by
                    intro u21_0 e0 H locs ls hP hD hS hl
                    subst e0
                    refine lv_iadd hx hb dL_hour_281 ?_
                    refine lv_dup2_11 hx hb dL_hour_282 rfl rfl ?_
                    refine qa_ld (v := zq.2 2 (ix ((5 * v9) + (pL_hour_J281s0 w3)))) hx hb hK hP 2 rfl (by rw [pL_hour_J281s0]; split <;> exact e5_add (n := 5) (vp_in_iff.mpr ⟨by omega, by omega⟩) (vp_in_iff.mpr ⟨by decide, by decide⟩)) rfl dL_hour_283 ?_
                    refine lv_iconst (v := 1) hx hb dL_hour_284 (by decide) ?_
                    refine lv_iadd hx hb dL_hour_285 ?_
                    refine qa_st hx hb hK hP hD hS 2 rfl (by rw [pL_hour_J281s0]; split <;> exact e5_add (n := 5) (vp_in_iff.mpr ⟨by omega, by omega⟩) (vp_in_iff.mpr ⟨by decide, by decide⟩)) dL_hour_286 (fun H locs hP hD hS => ?_)
                    refine lv_goto (tgt := 331) hx hb dL_hour_287 (by decide) ?_
                    have hk1 : HQ B (pR (pR zq 1 ((5 * (pL_near (pL_hour_J179s0 w3 v6 zq) (zq.2 2 (ix (5 * v9))))) + 2) (pL_hour_J268s0 w3)) 2 ((5 * v9) + (pL_hour_J281s0 w3)) ((zq.2 2 (ix ((5 * v9) + (pL_hour_J281s0 w3)))) + 1)) := by
                      first
                      | exact HQ.kj (HQ.k1 g_0 (by omega) (by omega) (by rw [pL_hour_J232s0]; exact go_in (hk9 hq9 (v := v9) (by omega) (by omega)) (by omega) (by omega) (by assumption))) (by omega) (by omega) (by decide) (by decide)
                      | exact HQ.kj (HQ.pp g_0) (by omega) (by omega) (by decide) (by decide)
                      | exact HQ.kJ (HQ.pp g_0) (by omega) (by omega) (by rw [pL_hour_J281s0]; split <;> exact ⟨by decide, by decide⟩)
                    refine lv_iinc (v := (v9 + 1)) (lv' := [(9, .int (v9 + 1)), (6, .int (v6 &&& ((1 <<< ((pL_near (pL_hour_J179s0 w3 v6 zq) (zq.2 2 (ix (5 * v9)))) &&& 31)) ^^^ (-1)))), (13, .int (pL_near (pL_hour_J179s0 w3 v6 zq) (zq.2 2 (ix (5 * v9))))), (0, .ref (h 1)), (1, .ref (h 2)), (2, .ref (h 3)), (3, .int w3), (4, .int w4), (5, .int w5), (7, .int w7), (8, .int w8), (10, .int (5 * v9)), (11, .int ((pL_hour_E62 w3 v6 zq).1)), (12, .int ((pL_hour_E62 w3 v6 zq).2))]) hx hb dL_hour_331 hl (k := 10) rfl rfl (by decide) rfl (fun ls hl => ?_)
                    have a_331 := i_add1 (a := v9) (by omega) (by omega)
                    refine lv_goto (tgt := 38) hx hb dL_hour_334 (by decide) ?_
                    exact ih (v6 &&& ((1 <<< ((pL_near (pL_hour_J179s0 w3 v6 zq) (zq.2 2 (ix (5 * v9)))) &&& 31)) ^^^ (-1))) (v9 + 1) (pR (pR zq 1 ((5 * (pL_near (pL_hour_J179s0 w3 v6 zq) (zq.2 2 (ix (5 * v9))))) + 2) (pL_hour_J268s0 w3)) 2 ((5 * v9) + (pL_hour_J281s0 w3)) ((zq.2 2 (ix ((5 * v9) + (pL_hour_J281s0 w3)))) + 1)) (by first | exact g_0 | exact hk1) (by omega) (by omega) (by omega) (fun t et => hKK t (et.trans (show pL_hour_L38 w3 (n + 1) v6 v9 zq = pL_hour_L38 w3 n (v6 &&& ((1 <<< ((pL_near (pL_hour_J179s0 w3 v6 zq) (zq.2 2 (ix (5 * v9)))) &&& 31)) ^^^ (-1))) (v9 + 1) (pR (pR zq 1 ((5 * (pL_near (pL_hour_J179s0 w3 v6 zq) (zq.2 2 (ix (5 * v9))))) + 2) (pL_hour_J268s0 w3)) 2 ((5 * v9) + (pL_hour_J281s0 w3)) ((zq.2 2 (ix ((5 * v9) + (pL_hour_J281s0 w3)))) + 1)) by rw [pL_hour_L38, if_neg c_1, if_neg c_10, if_pos c_11, if_neg c_12]).symm)) _ _ _ hP hD hS (lv_sub hl [3, 4, 5, 6, 7, 8, 1, 9, 10, 0] rfl)
                  refine lv_if_eq (tgt := 280) hx hb dL_hour_273 (by decide) (fun c_15 => ?_) (fun c_15 => ?_)
                  · refine lv_iconst (v := 2) hx hb dL_hour_280 (by decide) ?_
                    exact j_21 2 (by rw [pL_hour_J281s0, if_pos c_15]) _ _ _ hP hD hS (lv_sub hl [0, 1, 2, 3, 4, 5, 6, 7, 8, 9, 10, 11, 12, 13] rfl)
                  · refine lv_iconst (v := 1) hx hb dL_hour_276 (by decide) ?_
                    refine lv_goto (tgt := 281) hx hb dL_hour_277 (by decide) ?_
                    exact j_21 1 (by rw [pL_hour_J281s0, if_neg c_15]) _ _ _ hP hD hS (lv_sub hl [0, 1, 2, 3, 4, 5, 6, 7, 8, 9, 10, 11, 12, 13] rfl)
                refine lv_if_eq (tgt := 267) hx hb dL_hour_260 (by decide) (fun c_14 => ?_) (fun c_14 => ?_)
                · refine lv_iconst (v := 1) hx hb dL_hour_267 (by decide) ?_
                  exact j_20 1 (by rw [pL_hour_J268s0, if_pos c_14]) _ _ _ hP hD hS (lv_sub hl [0, 1, 2, 3, 4, 5, 6, 7, 8, 9, 10, 11, 12, 13] rfl)
                · refine lv_iconst (v := 2) hx hb dL_hour_263 (by decide) ?_
                  refine lv_goto (tgt := 268) hx hb dL_hour_264 (by decide) ?_
                  exact j_20 2 (by rw [pL_hour_J268s0, if_neg c_14]) _ _ _ hP hD hS (lv_sub hl [0, 1, 2, 3, 4, 5, 6, 7, 8, 9, 10, 11, 12, 13] rfl)
            · refine lv_aload_n hx hb dL_hour_213 rfl (lv_at hl 4 rfl) ?_
              refine lv_iload hx hb dL_hour_214 (lv_at hl 11 rfl) ?_
              refine lv_dup2_11 hx hb dL_hour_216 rfl rfl ?_
              refine qa_ld (v := zq.2 2 (ix (5 * v9))) hx hb hK hP 2 rfl (e5_in (n := 5) (by first | with_reducible assumption | exact vp_in_iff.mpr ⟨by decide, by decide⟩ | exact vp_in_iff.mpr ⟨by omega, by omega⟩)) rfl dL_hour_217 ?_
              refine lv_iload hx hb dL_hour_218 (lv_at hl 1 rfl) ?_
              refine lv_aload_n hx hb dL_hour_220 rfl (lv_at hl 4 rfl) ?_
              refine lv_iload hx hb dL_hour_221 (lv_at hl 11 rfl) ?_
              refine qa_ld (v := zq.2 2 (ix (5 * v9))) hx hb hK hP 2 rfl (e5_in (n := 5) (by first | with_reducible assumption | exact vp_in_iff.mpr ⟨by decide, by decide⟩ | exact vp_in_iff.mpr ⟨by omega, by omega⟩)) rfl dL_hour_223 ?_
              have j_22 : ∀ (u22_0 : Int32), u22_0 = (pL_hour_J232s0 w3 v6 v9 zq) → ∀ (H : Heap) (locs : List Loc) (ls : Array Slot), va_P G vwCl (wQ cI h zq) H → va_D A (wQ cI h zq) → va_S A s.heap H locs → lv_has ls 14 [(6, .int (v6 &&& ((1 <<< ((pL_near (pL_hour_J179s0 w3 v6 zq) (zq.2 2 (ix (5 * v9)))) &&& 31)) ^^^ (-1)))), (13, .int (pL_near (pL_hour_J179s0 w3 v6 zq) (zq.2 2 (ix (5 * v9))))), (0, .ref (h 1)), (1, .ref (h 2)), (2, .ref (h 3)), (3, .int w3), (4, .int w4), (5, .int w5), (7, .int w7), (8, .int w8), (9, .int v9), (10, .int (5 * v9)), (11, .int ((pL_hour_E62 w3 v6 zq).1)), (12, .int ((pL_hour_E62 w3 v6 zq).2))] → W p l e (rmz 2 42) s m ([.ref (h 1), .ref (h 2), .ref (h 3)] : List Value).toArray below meth c H locs 0 0 (MQ below (QiA G A (pL_hour xq).1 (wQ cI h ((pL_hour xq).2))) ([.ref (h 1), .ref (h 2), .ref (h 3)] : List Value).toArray s 0 0 A) (F0 m 232 ls [.int u22_0, .int (zq.2 2 (ix (5 * v9))), .int (5 * v9), .ref (h 3)]) := by
                intro u22_0 e0 H locs ls hP hD hS hl
                subst e0
                refine lv_iadd hx hb dL_hour_232 ?_
                refine qa_st hx hb hK hP hD hS 2 rfl (e5_in (n := 5) (by first | with_reducible assumption | exact vp_in_iff.mpr ⟨by decide, by decide⟩ | exact vp_in_iff.mpr ⟨by omega, by omega⟩)) dL_hour_233 (fun H locs hP hD hS => ?_)
                refine lv_aload_n hx hb dL_hour_234 rfl (lv_at hl 4 rfl) ?_
                refine lv_iload hx hb dL_hour_235 (lv_at hl 11 rfl) ?_
                refine lv_iconst (v := 4) hx hb dL_hour_237 (by decide) ?_
                refine lv_iadd hx hb dL_hour_238 ?_
                refine lv_dup2_11 hx hb dL_hour_239 rfl rfl ?_
                refine qa_ld (v := (pR zq 2 (5 * v9) ((zq.2 2 (ix (5 * v9))) + (pL_hour_J232s0 w3 v6 v9 zq))).2 2 (ix ((5 * v9) + 4))) hx hb hK hP 2 rfl (e5_add (n := 5) (by first | with_reducible assumption | exact vp_in_iff.mpr ⟨by decide, by decide⟩ | exact vp_in_iff.mpr ⟨by omega, by omega⟩) (by first | with_reducible assumption | exact vp_in_iff.mpr ⟨by decide, by decide⟩ | exact vp_in_iff.mpr ⟨by omega, by omega⟩)) rfl dL_hour_240 ?_
                refine lv_iconst (v := 1) hx hb dL_hour_241 (by decide) ?_
                refine lv_iadd hx hb dL_hour_242 ?_
                refine qa_st hx hb hK hP hD hS 2 rfl (e5_add (n := 5) (by first | with_reducible assumption | exact vp_in_iff.mpr ⟨by decide, by decide⟩ | exact vp_in_iff.mpr ⟨by omega, by omega⟩) (by first | with_reducible assumption | exact vp_in_iff.mpr ⟨by decide, by decide⟩ | exact vp_in_iff.mpr ⟨by omega, by omega⟩)) dL_hour_243 (fun H locs hP hD hS => ?_)
                refine lv_goto (tgt := 331) hx hb dL_hour_244 (by decide) ?_
                have hk1 : HQ B (pR (pR zq 2 (5 * v9) ((zq.2 2 (ix (5 * v9))) + (pL_hour_J232s0 w3 v6 v9 zq))) 2 ((5 * v9) + 4) (((pR zq 2 (5 * v9) ((zq.2 2 (ix (5 * v9))) + (pL_hour_J232s0 w3 v6 v9 zq))).2 2 (ix ((5 * v9) + 4))) + 1)) := by
                  first
                  | exact HQ.kj (HQ.k1 g_0 (by omega) (by omega) (by rw [pL_hour_J232s0]; exact go_in (hk9 hq9 (v := v9) (by omega) (by omega)) (by omega) (by omega) (by assumption))) (by omega) (by omega) (by decide) (by decide)
                  | exact HQ.kj (HQ.pp g_0) (by omega) (by omega) (by decide) (by decide)
                  | exact HQ.kJ (HQ.pp g_0) (by omega) (by omega) (by rw [pL_hour_J281s0]; split <;> exact ⟨by decide, by decide⟩)
                refine lv_iinc (v := (v9 + 1)) (lv' := [(9, .int (v9 + 1)), (6, .int (v6 &&& ((1 <<< ((pL_near (pL_hour_J179s0 w3 v6 zq) (zq.2 2 (ix (5 * v9)))) &&& 31)) ^^^ (-1)))), (13, .int (pL_near (pL_hour_J179s0 w3 v6 zq) (zq.2 2 (ix (5 * v9))))), (0, .ref (h 1)), (1, .ref (h 2)), (2, .ref (h 3)), (3, .int w3), (4, .int w4), (5, .int w5), (7, .int w7), (8, .int w8), (10, .int (5 * v9)), (11, .int ((pL_hour_E62 w3 v6 zq).1)), (12, .int ((pL_hour_E62 w3 v6 zq).2))]) hx hb dL_hour_331 hl (k := 10) rfl rfl (by decide) rfl (fun ls hl => ?_)
                have a_331 := i_add1 (a := v9) (by omega) (by omega)
                refine lv_goto (tgt := 38) hx hb dL_hour_334 (by decide) ?_
                exact ih (v6 &&& ((1 <<< ((pL_near (pL_hour_J179s0 w3 v6 zq) (zq.2 2 (ix (5 * v9)))) &&& 31)) ^^^ (-1))) (v9 + 1) (pR (pR zq 2 (5 * v9) ((zq.2 2 (ix (5 * v9))) + (pL_hour_J232s0 w3 v6 v9 zq))) 2 ((5 * v9) + 4) (((pR zq 2 (5 * v9) ((zq.2 2 (ix (5 * v9))) + (pL_hour_J232s0 w3 v6 v9 zq))).2 2 (ix ((5 * v9) + 4))) + 1)) (by first | exact g_0 | exact hk1) (by omega) (by omega) (by omega) (fun t et => hKK t (et.trans (show pL_hour_L38 w3 (n + 1) v6 v9 zq = pL_hour_L38 w3 n (v6 &&& ((1 <<< ((pL_near (pL_hour_J179s0 w3 v6 zq) (zq.2 2 (ix (5 * v9)))) &&& 31)) ^^^ (-1))) (v9 + 1) (pR (pR zq 2 (5 * v9) ((zq.2 2 (ix (5 * v9))) + (pL_hour_J232s0 w3 v6 v9 zq))) 2 ((5 * v9) + 4) (((pR zq 2 (5 * v9) ((zq.2 2 (ix (5 * v9))) + (pL_hour_J232s0 w3 v6 v9 zq))).2 2 (ix ((5 * v9) + 4))) + 1)) by rw [pL_hour_L38, if_neg c_1, if_neg c_10, if_neg c_11]).symm)) _ _ _ hP hD hS (lv_sub hl [3, 4, 5, 6, 7, 8, 1, 9, 10, 0] rfl)
              refine lv_icmp_le (tgt := 231) hx hb dL_hour_224 (by decide) (fun c_16 => ?_) (fun c_16 => ?_)
              · have t_16 := i_le (z := (Int32.toInt (pL_near (pL_hour_J179s0 w3 v6 zq) (zq.2 2 (ix (5 * v9)))))) (w := (Int32.toInt (zq.2 2 (ix (5 * v9))))) c_16 rfl rfl
                refine lv_iconst (v := (-1)) hx hb dL_hour_231 (by decide) ?_
                exact j_22 (-1) (by rw [pL_hour_J232s0, if_pos c_16]) _ _ _ hP hD hS (lv_sub hl [0, 1, 2, 3, 4, 5, 6, 7, 8, 9, 10, 11, 12, 13] rfl)
              · have t_16 := i_nle (z := (Int32.toInt (pL_near (pL_hour_J179s0 w3 v6 zq) (zq.2 2 (ix (5 * v9)))))) (w := (Int32.toInt (zq.2 2 (ix (5 * v9))))) c_16 rfl rfl
                refine lv_iconst (v := 1) hx hb dL_hour_227 (by decide) ?_
                refine lv_goto (tgt := 232) hx hb dL_hour_228 (by decide) ?_
                exact j_22 1 (by rw [pL_hour_J232s0, if_neg c_16]) _ _ _ hP hD hS (lv_sub hl [0, 1, 2, 3, 4, 5, 6, 7, 8, 9, 10, 11, 12, 13] rfl)
        refine lv_if_eq (tgt := 177) hx hb dL_hour_169 (by decide) (fun c_9 => ?_) (fun c_9 => ?_)
        · refine lv_iload hx hb dL_hour_177 (lv_at hl 12 rfl) ?_
          exact j_18 ((pL_hour_E62 w3 v6 zq).2) (by rw [pL_hour_J179s0, if_pos c_9]) _ _ _ hP hD hS (lv_sub hl [0, 1, 2, 3, 4, 5, 6, 7, 8, 9, 10, 11, 12] rfl)
        · refine lv_iload hx hb dL_hour_172 (lv_at hl 11 rfl) ?_
          refine lv_goto (tgt := 179) hx hb dL_hour_174 (by decide) ?_
          exact j_18 ((pL_hour_E62 w3 v6 zq).1) (by rw [pL_hour_J179s0, if_neg c_9]) _ _ _ hP hD hS (lv_sub hl [0, 1, 2, 3, 4, 5, 6, 7, 8, 9, 10, 11, 12] rfl)
  have lp_340 : ∀ (w3 : Int32) (w4 : Int32) (w5 : Int32) (w7 : Int32) (n : Nat) (v8 : Int32) (v9 : Int32) (zq : SR), HQ B zq → 0 ≤ Int32.toInt v9 → Int32.toInt v9 ≤ 5 → 5 - Int32.toInt v9 < (n : Int) → (∀ t : Int32, t = pL_hour_L340 n v8 v9 zq → ∀ (H : Heap) (locs : List Loc) (ls : Array Slot), va_P G vwCl (wQ cI h zq) H → va_D A (wQ cI h zq) → va_S A s.heap H locs → lv_has ls 14 [(0, .ref (h 1)), (1, .ref (h 2)), (2, .ref (h 3)), (3, .int w3), (4, .int w4), (5, .int w5), (7, .int w7), (8, .int t)] → W p l e (rmz 2 42) s m ([.ref (h 1), .ref (h 2), .ref (h 3)] : List Value).toArray below meth c H locs 0 0 (MQ below (QiA G A (pL_hour xq).1 (wQ cI h ((pL_hour xq).2))) ([.ref (h 1), .ref (h 2), .ref (h 3)] : List Value).toArray s 0 0 A) (F0 m 368 ls [])) → ∀ (H : Heap) (locs : List Loc) (ls : Array Slot), va_P G vwCl (wQ cI h zq) H → va_D A (wQ cI h zq) → va_S A s.heap H locs → lv_has ls 14 [(0, .ref (h 1)), (1, .ref (h 2)), (2, .ref (h 3)), (3, .int w3), (4, .int w4), (5, .int w5), (7, .int w7), (8, .int v8), (9, .int v9)] → W p l e (rmz 2 42) s m ([.ref (h 1), .ref (h 2), .ref (h 3)] : List Value).toArray below meth c H locs 0 0 (MQ below (QiA G A (pL_hour xq).1 (wQ cI h ((pL_hour xq).2))) ([.ref (h 1), .ref (h 2), .ref (h 3)] : List Value).toArray s 0 0 A) (F0 m 340 ls []) := by
    intro w3 w4 w5 w7 n
    induction n with
    | zero =>
      intro v8 v9 zq g_0 g_1 g_2 hm
      exfalso; omega
    | succ n ih =>
      intro v8 v9 zq g_0 g_1 g_2 hm hKK H locs ls hP hD hS hl
      obtain ⟨⟨hq1, hq2⟩, ⟨hq3, hq4⟩, ⟨hq5, hq6⟩, ⟨hq7, hq8⟩, hq9⟩ := id g_0
      refine lv_iload hx hb dL_hour_340 (lv_at hl 8 rfl) ?_
      refine lv_aload_n hx hb dL_hour_342 rfl (lv_at hl 0 rfl) ?_
      refine lv_bipush (v := 11) hx hb dL_hour_343 (by decide) ?_
      refine qa_ld (v := zq.2 0 (ix 11)) hx hb hK hP 0 rfl (vp_in_iff.mpr ⟨by decide, by decide⟩) rfl dL_hour_345 ?_
      refine lv_icmp_ge (tgt := 368) hx hb dL_hour_346 (by decide) (fun c_17 => ?_) (fun c_17 => ?_)
      · have t_17 := i_le (z := (Int32.toInt (zq.2 0 (ix 11)))) (w := (Int32.toInt v9)) c_17 rfl rfl
        exact hKK v8 (show pL_hour_L340 (n + 1) v8 v9 zq = v8 by rw [pL_hour_L340, if_pos c_17]).symm _ _ _ hP hD hS (lv_sub hl [0, 1, 2, 3, 4, 5, 6, 7] rfl)
      · have t_17 := i_nle (z := (Int32.toInt (zq.2 0 (ix 11)))) (w := (Int32.toInt v9)) c_17 rfl rfl
        refine lv_iload hx hb dL_hour_349 (lv_at hl 7 rfl) ?_
        refine lv_iconst (v := 1) hx hb dL_hour_351 (by decide) ?_
        refine lv_aload_n hx hb dL_hour_352 rfl (lv_at hl 2 rfl) ?_
        refine lv_iconst (v := 5) hx hb dL_hour_353 (by decide) ?_
        refine lv_iload hx hb dL_hour_354 (lv_at hl 8 rfl) ?_
        refine lv_imul hx hb dL_hour_356 ?_
        refine qa_ld (v := zq.2 2 (ix (5 * v9))) hx hb hK hP 2 rfl (e5_in (n := 5) (by first | with_reducible assumption | exact vp_in_iff.mpr ⟨by decide, by decide⟩ | exact vp_in_iff.mpr ⟨by omega, by omega⟩)) rfl dL_hour_357 ?_
        refine lv_ishl hx hb dL_hour_358 ?_
        refine lv_ior hx hb dL_hour_359 ?_
        refine lv_istore (lv' := [(8, .int (v8 ||| (1 <<< ((zq.2 2 (ix (5 * v9))) &&& 31)))), (0, .ref (h 1)), (1, .ref (h 2)), (2, .ref (h 3)), (3, .int w3), (4, .int w4), (5, .int w5), (7, .int w7), (9, .int v9)]) hx hb dL_hour_360 hl (by decide) rfl (fun ls hl => ?_)
        refine lv_iinc (v := (v9 + 1)) (lv' := [(9, .int (v9 + 1)), (8, .int (v8 ||| (1 <<< ((zq.2 2 (ix (5 * v9))) &&& 31)))), (0, .ref (h 1)), (1, .ref (h 2)), (2, .ref (h 3)), (3, .int w3), (4, .int w4), (5, .int w5), (7, .int w7)]) hx hb dL_hour_362 hl (k := 8) rfl rfl (by decide) rfl (fun ls hl => ?_)
        have a_362 := i_add1 (a := v9) (by omega) (by omega)
        refine lv_goto (tgt := 340) hx hb dL_hour_365 (by decide) ?_
        exact ih (v8 ||| (1 <<< ((zq.2 2 (ix (5 * v9))) &&& 31))) (v9 + 1) zq (by exact g_0) (by omega) (by omega) (by omega) (fun t et => hKK t (et.trans (show pL_hour_L340 (n + 1) v8 v9 zq = pL_hour_L340 n (v8 ||| (1 <<< ((zq.2 2 (ix (5 * v9))) &&& 31))) (v9 + 1) zq by rw [pL_hour_L340, if_neg c_17]).symm)) _ _ _ hP hD hS (lv_sub hl [2, 3, 4, 5, 6, 7, 8, 1, 0] rfl)
  have lp_371 : ∀ (w3 : Int32) (w4 : Int32) (w5 : Int32) (w8 : Int32) (n : Nat) (v7 : Int32) (v9 : Int32) (zq : SR), HQ B zq → 0 ≤ Int32.toInt v9 → Int32.toInt v9 ≤ 12 → 12 - Int32.toInt v9 < (n : Int) → (∀ t : Int32 × SR, t = pL_hour_L371 w4 w5 w8 n v7 v9 zq → ∀ (H : Heap) (locs : List Loc) (ls : Array Slot), va_P G vwCl (wQ cI h (t.2)) H → va_D A (wQ cI h (t.2)) → va_S A s.heap H locs → lv_has ls 14 [(0, .ref (h 1)), (1, .ref (h 2)), (2, .ref (h 3)), (3, .int w3), (4, .int w4), (5, .int w5), (8, .int w8), (7, .int (t.1))] → W p l e (rmz 2 42) s m ([.ref (h 1), .ref (h 2), .ref (h 3)] : List Value).toArray below meth c H locs 0 0 (MQ below (QiA G A (pL_hour xq).1 (wQ cI h ((pL_hour xq).2))) ([.ref (h 1), .ref (h 2), .ref (h 3)] : List Value).toArray s 0 0 A) (F0 m 666 ls [])) → ∀ (H : Heap) (locs : List Loc) (ls : Array Slot), va_P G vwCl (wQ cI h zq) H → va_D A (wQ cI h zq) → va_S A s.heap H locs → lv_has ls 14 [(0, .ref (h 1)), (1, .ref (h 2)), (2, .ref (h 3)), (3, .int w3), (4, .int w4), (5, .int w5), (7, .int v7), (8, .int w8), (9, .int v9)] → W p l e (rmz 2 42) s m ([.ref (h 1), .ref (h 2), .ref (h 3)] : List Value).toArray below meth c H locs 0 0 (MQ below (QiA G A (pL_hour xq).1 (wQ cI h ((pL_hour xq).2))) ([.ref (h 1), .ref (h 2), .ref (h 3)] : List Value).toArray s 0 0 A) (F0 m 371 ls []) := by
    intro w3 w4 w5 w8 n
    induction n with
    | zero =>
      intro v7 v9 zq g_0 g_1 g_2 hm
      exfalso; omega
    | succ n ih =>
      intro v7 v9 zq g_0 g_1 g_2 hm hKK H locs ls hP hD hS hl
      obtain ⟨⟨hq1, hq2⟩, ⟨hq3, hq4⟩, ⟨hq5, hq6⟩, ⟨hq7, hq8⟩, hq9⟩ := id g_0
      refine lv_iload hx hb dL_hour_371 (lv_at hl 8 rfl) ?_
      refine lv_bipush (v := 12) hx hb dL_hour_373 (by decide) ?_
      refine lv_icmp_ge (tgt := 666) hx hb dL_hour_375 (by decide) (fun c_18 => ?_) (fun c_18 => ?_)
      · have t_18 := i_le (z := (12)) (w := (Int32.toInt v9)) c_18 (by decide) rfl
        exact hKK (v7, zq) (show pL_hour_L371 w4 w5 w8 (n + 1) v7 v9 zq = (v7, zq) by rw [pL_hour_L371, if_pos c_18]).symm _ _ _ hP hD hS (lv_sub hl [0, 1, 2, 3, 4, 5, 7, 6] rfl)
      · have t_18 := i_nle (z := (12)) (w := (Int32.toInt v9)) c_18 (by decide) rfl
        refine lv_iconst (v := 5) hx hb dL_hour_378 (by decide) ?_
        refine lv_iload hx hb dL_hour_379 (lv_at hl 8 rfl) ?_
        refine lv_imul hx hb dL_hour_381 ?_
        refine lv_istore (lv' := [(10, .int (5 * v9)), (0, .ref (h 1)), (1, .ref (h 2)), (2, .ref (h 3)), (3, .int w3), (4, .int w4), (5, .int w5), (7, .int v7), (8, .int w8), (9, .int v9)]) hx hb dL_hour_382 hl (by decide) rfl (fun ls hl => ?_)
        refine lv_aload_n hx hb dL_hour_384 rfl (lv_at hl 2 rfl) ?_
        refine lv_iload hx hb dL_hour_385 (lv_at hl 0 rfl) ?_
        refine qa_ld (v := zq.2 1 (ix (5 * v9))) hx hb hK hP 1 rfl (e5_in (n := 12) (by first | with_reducible assumption | exact vp_in_iff.mpr ⟨by decide, by decide⟩ | exact vp_in_iff.mpr ⟨by omega, by omega⟩)) rfl dL_hour_387 ?_
        refine lv_if_lt (tgt := 660) hx hb dL_hour_388 (by decide) (fun c_19 => ?_) (fun c_19 => ?_)
        · have t_19 := i_lt (z := (Int32.toInt (zq.2 1 (ix (5 * v9))))) (w := (0)) c_19 rfl (by decide)
          refine lv_iinc (v := (v9 + 1)) (lv' := [(9, .int (v9 + 1)), (10, .int (5 * v9)), (0, .ref (h 1)), (1, .ref (h 2)), (2, .ref (h 3)), (3, .int w3), (4, .int w4), (5, .int w5), (7, .int v7), (8, .int w8)]) hx hb dL_hour_660 hl (k := 9) rfl rfl (by decide) rfl (fun ls hl => ?_)
          have a_660 := i_add1 (a := v9) (by omega) (by omega)
          refine lv_goto (tgt := 371) hx hb dL_hour_663 (by decide) ?_
          exact ih v7 (v9 + 1) zq (by first | exact g_0 | exact HQ_J660 (HQ_J591 g_0)) (by omega) (by omega) (by omega) (fun t et => hKK t (et.trans (show pL_hour_L371 w4 w5 w8 (n + 1) v7 v9 zq = pL_hour_L371 w4 w5 w8 n v7 (v9 + 1) zq by rw [pL_hour_L371, if_neg c_18, if_pos c_19]).symm)) _ _ _ hP hD hS (lv_sub hl [2, 3, 4, 5, 6, 7, 8, 9, 0] rfl)
        · have t_19 := i_nlt (z := (Int32.toInt (zq.2 1 (ix (5 * v9))))) (w := (0)) c_19 rfl (by decide)
          refine lv_aload_n hx hb dL_hour_391 rfl (lv_at hl 2 rfl) ?_
          refine lv_iload hx hb dL_hour_392 (lv_at hl 0 rfl) ?_
          refine lv_iconst (v := 2) hx hb dL_hour_394 (by decide) ?_
          refine lv_iadd hx hb dL_hour_395 ?_
          refine qa_ld (v := zq.2 1 (ix ((5 * v9) + 2))) hx hb hK hP 1 rfl (e5_add (n := 12) (by first | with_reducible assumption | exact vp_in_iff.mpr ⟨by decide, by decide⟩ | exact vp_in_iff.mpr ⟨by omega, by omega⟩) (by first | with_reducible assumption | exact vp_in_iff.mpr ⟨by decide, by decide⟩ | exact vp_in_iff.mpr ⟨by omega, by omega⟩)) rfl dL_hour_396 ?_
          refine lv_iconst (v := 2) hx hb dL_hour_397 (by decide) ?_
          refine lv_icmp_ne (tgt := 404) hx hb dL_hour_398 (by decide) (fun c_20 => ?_) (fun c_20 => ?_)
          · refine lv_iload hx hb dL_hour_404 (lv_at hl 5 rfl) ?_
            have j_29 : ∀ (u29_0 : Int32) (u29_1 : SR), u29_0 = (pL_hour_J591v7 w4 w5 v7 v9 zq) → u29_1 = (pL_hour_J591xq w4 w5 v9 zq) → ∀ (H : Heap) (locs : List Loc) (ls : Array Slot), va_P G vwCl (wQ cI h u29_1) H → va_D A (wQ cI h u29_1) → va_S A s.heap H locs → lv_has ls 14 [(10, .int (5 * v9)), (0, .ref (h 1)), (1, .ref (h 2)), (2, .ref (h 3)), (3, .int w3), (4, .int w4), (5, .int w5), (7, .int u29_0), (8, .int w8), (9, .int v9)] → W p l e (rmz 2 42) s m ([.ref (h 1), .ref (h 2), .ref (h 3)] : List Value).toArray below meth c H locs 0 0 (MQ below (QiA G A (pL_hour xq).1 (wQ cI h ((pL_hour xq).2))) ([.ref (h 1), .ref (h 2), .ref (h 3)] : List Value).toArray s 0 0 A) (F0 m 591 ls []) := by
              intro u29_0 u29_1 e0 e1 H locs ls hP hD hS hl
              subst e0 e1
              refine lv_iload hx hb dL_hour_591 (lv_at hl 6 rfl) ?_
              refine lv_bipush (v := 6) hx hb dL_hour_593 (by decide) ?_
              have j_34 : ∀ (u34_0 : SR), u34_0 = (pL_hour_J660xq w4 w5 w8 v9 zq) → ∀ (H : Heap) (locs : List Loc) (ls : Array Slot), va_P G vwCl (wQ cI h u34_0) H → va_D A (wQ cI h u34_0) → va_S A s.heap H locs → lv_has ls 14 [(10, .int (5 * v9)), (0, .ref (h 1)), (1, .ref (h 2)), (2, .ref (h 3)), (3, .int w3), (4, .int w4), (5, .int w5), (7, .int (pL_hour_J591v7 w4 w5 v7 v9 zq)), (8, .int w8), (9, .int v9)] → W p l e (rmz 2 42) s m ([.ref (h 1), .ref (h 2), .ref (h 3)] : List Value).toArray below meth c H locs 0 0 (MQ below (QiA G A (pL_hour xq).1 (wQ cI h ((pL_hour xq).2))) ([.ref (h 1), .ref (h 2), .ref (h 3)] : List Value).toArray s 0 0 A) (F0 m 660 ls []) := by
                intro u34_0 e0 H locs ls hP hD hS hl
                subst e0
                refine lv_iinc (v := (v9 + 1)) (lv' := [(9, .int (v9 + 1)), (10, .int (5 * v9)), (0, .ref (h 1)), (1, .ref (h 2)), (2, .ref (h 3)), (3, .int w3), (4, .int w4), (5, .int w5), (7, .int (pL_hour_J591v7 w4 w5 v7 v9 zq)), (8, .int w8)]) hx hb dL_hour_660 hl (k := 9) rfl rfl (by decide) rfl (fun ls hl => ?_)
                have a_660 := i_add1 (a := v9) (by omega) (by omega)
                refine lv_goto (tgt := 371) hx hb dL_hour_663 (by decide) ?_
                exact ih (pL_hour_J591v7 w4 w5 v7 v9 zq) (v9 + 1) (pL_hour_J660xq w4 w5 w8 v9 zq) (by first | exact g_0 | exact HQ_J660 (HQ_J591 g_0)) (by omega) (by omega) (by omega) (fun t et => hKK t (et.trans (show pL_hour_L371 w4 w5 w8 (n + 1) v7 v9 zq = pL_hour_L371 w4 w5 w8 n (pL_hour_J591v7 w4 w5 v7 v9 zq) (v9 + 1) (pL_hour_J660xq w4 w5 w8 v9 zq) by rw [pL_hour_L371, if_neg c_18, if_neg c_19, if_neg c_20]).symm)) _ _ _ hP hD hS (lv_sub hl [2, 3, 4, 5, 6, 7, 8, 9, 0] rfl)
              refine lv_icmp_lt (tgt := 605) hx hb dL_hour_595 (by decide) (fun c_29 => ?_) (fun c_29 => ?_)
              · have t_29 := i_lt (z := (Int32.toInt w5)) (w := (6)) c_29 rfl (by decide)
                refine lv_aload_n hx hb dL_hour_605 rfl (lv_at hl 2 rfl) ?_
                refine lv_iload hx hb dL_hour_606 (lv_at hl 0 rfl) ?_
                refine lv_iconst (v := 2) hx hb dL_hour_608 (by decide) ?_
                refine lv_iadd hx hb dL_hour_609 ?_
                refine qa_ld (v := (pL_hour_J591xq w4 w5 v9 zq).2 1 (ix ((5 * v9) + 2))) hx hb hK hP 1 rfl (e5_add (n := 12) (by first | with_reducible assumption | exact vp_in_iff.mpr ⟨by decide, by decide⟩ | exact vp_in_iff.mpr ⟨by omega, by omega⟩) (by first | with_reducible assumption | exact vp_in_iff.mpr ⟨by decide, by decide⟩ | exact vp_in_iff.mpr ⟨by omega, by omega⟩)) rfl dL_hour_610 ?_
                refine lv_iconst (v := 1) hx hb dL_hour_611 (by decide) ?_
                refine lv_icmp_ne (tgt := 660) hx hb dL_hour_612 (by decide) (fun c_30 => ?_) (fun c_30 => ?_)
                · skip
                  exact j_34 (pL_hour_J591xq w4 w5 v9 zq) (by rw [pL_hour_J660xq, if_pos c_29, if_neg c_30]) _ _ _ hP hD hS (lv_sub hl [0, 1, 2, 3, 4, 5, 6, 7, 8, 9] rfl)
                · refine lv_iload hx hb dL_hour_615 (lv_at hl 8 rfl) ?_
                  refine lv_iload hx hb dL_hour_617 (lv_at hl 9 rfl) ?_
                  refine lv_ishr hx hb dL_hour_619 ?_
                  refine lv_iconst (v := 1) hx hb dL_hour_620 (by decide) ?_
                  refine lv_iand hx hb dL_hour_621 ?_
                  refine lv_if_ne (tgt := 660) hx hb dL_hour_622 (by decide) (fun c_31 => ?_) (fun c_31 => ?_)
                  · skip
                    exact j_34 (pL_hour_J591xq w4 w5 v9 zq) (by rw [pL_hour_J660xq, if_pos c_29, if_pos c_30, if_neg c_31]) _ _ _ hP hD hS (lv_sub hl [0, 1, 2, 3, 4, 5, 6, 7, 8, 9] rfl)
                  · refine lv_bipush (v := 7) hx hb dL_hour_625 (by decide) ?_
                    refine lv_aload_n hx hb dL_hour_627 rfl (lv_at hl 1 rfl) ?_
                    refine lv_bipush (v := 7) hx hb dL_hour_628 (by decide) ?_
                    refine qa_ld (v := (pL_hour_J591xq w4 w5 v9 zq).2 0 (ix 7)) hx hb hK hP 0 rfl (vp_in_iff.mpr ⟨by decide, by decide⟩) rfl dL_hour_630 ?_
                    refine lv_imul hx hb dL_hour_631 ?_
                    refine lv_iconst (v := 3) hx hb dL_hour_632 (by decide) ?_
                    refine lv_iload hx hb dL_hour_633 (lv_at hl 9 rfl) ?_
                    refine lv_imul hx hb dL_hour_635 ?_
                    refine lv_iadd hx hb dL_hour_636 ?_
                    refine lv_aload_n hx hb dL_hour_637 rfl (lv_at hl 1 rfl) ?_
                    refine lv_bipush (v := 6) hx hb dL_hour_638 (by decide) ?_
                    refine qa_ld (v := (pL_hour_J591xq w4 w5 v9 zq).2 0 (ix 6)) hx hb hK hP 0 rfl (vp_in_iff.mpr ⟨by decide, by decide⟩) rfl dL_hour_640 ?_
                    refine lv_irem hx hb dL_hour_641 (by exact HQ.ne6 (HQ_J591 g_0)) ?_
                    refine lv_if_ne (tgt := 660) hx hb dL_hour_642 (by decide) (fun c_32 => ?_) (fun c_32 => ?_)
                    · skip
                      exact j_34 (pL_hour_J591xq w4 w5 v9 zq) (by rw [pL_hour_J660xq, if_pos c_29, if_pos c_30, if_pos c_31, if_neg c_32]) _ _ _ hP hD hS (lv_sub hl [0, 1, 2, 3, 4, 5, 6, 7, 8, 9] rfl)
                    · refine lv_aload_n hx hb dL_hour_645 rfl (lv_at hl 2 rfl) ?_
                      refine lv_iload hx hb dL_hour_646 (lv_at hl 0 rfl) ?_
                      refine lv_iconst (v := 2) hx hb dL_hour_648 (by decide) ?_
                      refine lv_iadd hx hb dL_hour_649 ?_
                      refine lv_iconst (v := 0) hx hb dL_hour_650 (by decide) ?_
                      refine qa_st hx hb hK hP hD hS 1 rfl (e5_add (n := 12) (by first | with_reducible assumption | exact vp_in_iff.mpr ⟨by decide, by decide⟩ | exact vp_in_iff.mpr ⟨by omega, by omega⟩) (by first | with_reducible assumption | exact vp_in_iff.mpr ⟨by decide, by decide⟩ | exact vp_in_iff.mpr ⟨by omega, by omega⟩)) dL_hour_651 (fun H locs hP hD hS => ?_)
                      refine lv_aload_n hx hb dL_hour_652 rfl (lv_at hl 1 rfl) ?_
                      refine lv_bipush (v := 10) hx hb dL_hour_653 (by decide) ?_
                      refine lv_dup2_11 hx hb dL_hour_655 rfl rfl ?_
                      refine qa_ld (v := (pL_hour_J591xq w4 w5 v9 zq).2 0 (ix 10)) hx hb hK hP 0 rfl (vp_in_iff.mpr ⟨by decide, by decide⟩) rfl dL_hour_656 ?_
                      refine lv_iconst (v := 1) hx hb dL_hour_657 (by decide) ?_
                      refine lv_iadd hx hb dL_hour_658 ?_
                      refine qa_st hx hb hK hP hD hS 0 rfl (vp_in_iff.mpr ⟨by decide, by decide⟩) dL_hour_659 (fun H locs hP hD hS => ?_)
                      exact j_34 (pR (pR (pL_hour_J591xq w4 w5 v9 zq) 1 ((5 * v9) + 2) 0) 0 10 (((pL_hour_J591xq w4 w5 v9 zq).2 0 (ix 10)) + 1)) (by rw [pL_hour_J660xq, if_pos c_29, if_pos c_30, if_pos c_31, if_pos c_32]) _ _ _ hP hD hS (lv_sub hl [0, 1, 2, 3, 4, 5, 6, 7, 8, 9] rfl)
              · have t_29 := i_nlt (z := (Int32.toInt w5)) (w := (6)) c_29 rfl (by decide)
                refine lv_iload hx hb dL_hour_598 (lv_at hl 6 rfl) ?_
                refine lv_bipush (v := 21) hx hb dL_hour_600 (by decide) ?_
                refine lv_icmp_le (tgt := 660) hx hb dL_hour_602 (by decide) (fun c_33 => ?_) (fun c_33 => ?_)
                · have t_33 := i_le (z := (Int32.toInt w5)) (w := (21)) c_33 rfl (by decide)
                  exact j_34 (pL_hour_J591xq w4 w5 v9 zq) (by rw [pL_hour_J660xq, if_neg c_29, if_pos c_33]) _ _ _ hP hD hS (lv_sub hl [0, 1, 2, 3, 4, 5, 6, 7, 8, 9] rfl)
                · have t_33 := i_nle (z := (Int32.toInt w5)) (w := (21)) c_33 rfl (by decide)
                  refine lv_aload_n hx hb dL_hour_605 rfl (lv_at hl 2 rfl) ?_
                  refine lv_iload hx hb dL_hour_606 (lv_at hl 0 rfl) ?_
                  refine lv_iconst (v := 2) hx hb dL_hour_608 (by decide) ?_
                  refine lv_iadd hx hb dL_hour_609 ?_
                  refine qa_ld (v := (pL_hour_J591xq w4 w5 v9 zq).2 1 (ix ((5 * v9) + 2))) hx hb hK hP 1 rfl (e5_add (n := 12) (by first | with_reducible assumption | exact vp_in_iff.mpr ⟨by decide, by decide⟩ | exact vp_in_iff.mpr ⟨by omega, by omega⟩) (by first | with_reducible assumption | exact vp_in_iff.mpr ⟨by decide, by decide⟩ | exact vp_in_iff.mpr ⟨by omega, by omega⟩)) rfl dL_hour_610 ?_
                  refine lv_iconst (v := 1) hx hb dL_hour_611 (by decide) ?_
                  refine lv_icmp_ne (tgt := 660) hx hb dL_hour_612 (by decide) (fun c_34 => ?_) (fun c_34 => ?_)
                  · skip
                    exact j_34 (pL_hour_J591xq w4 w5 v9 zq) (by rw [pL_hour_J660xq, if_neg c_29, if_neg c_33, if_neg c_34]) _ _ _ hP hD hS (lv_sub hl [0, 1, 2, 3, 4, 5, 6, 7, 8, 9] rfl)
                  · refine lv_iload hx hb dL_hour_615 (lv_at hl 8 rfl) ?_
                    refine lv_iload hx hb dL_hour_617 (lv_at hl 9 rfl) ?_
                    refine lv_ishr hx hb dL_hour_619 ?_
                    refine lv_iconst (v := 1) hx hb dL_hour_620 (by decide) ?_
                    refine lv_iand hx hb dL_hour_621 ?_
                    refine lv_if_ne (tgt := 660) hx hb dL_hour_622 (by decide) (fun c_35 => ?_) (fun c_35 => ?_)
                    · skip
                      exact j_34 (pL_hour_J591xq w4 w5 v9 zq) (by rw [pL_hour_J660xq, if_neg c_29, if_neg c_33, if_pos c_34, if_neg c_35]) _ _ _ hP hD hS (lv_sub hl [0, 1, 2, 3, 4, 5, 6, 7, 8, 9] rfl)
                    · refine lv_bipush (v := 7) hx hb dL_hour_625 (by decide) ?_
                      refine lv_aload_n hx hb dL_hour_627 rfl (lv_at hl 1 rfl) ?_
                      refine lv_bipush (v := 7) hx hb dL_hour_628 (by decide) ?_
                      refine qa_ld (v := (pL_hour_J591xq w4 w5 v9 zq).2 0 (ix 7)) hx hb hK hP 0 rfl (vp_in_iff.mpr ⟨by decide, by decide⟩) rfl dL_hour_630 ?_
                      refine lv_imul hx hb dL_hour_631 ?_
                      refine lv_iconst (v := 3) hx hb dL_hour_632 (by decide) ?_
                      refine lv_iload hx hb dL_hour_633 (lv_at hl 9 rfl) ?_
                      refine lv_imul hx hb dL_hour_635 ?_
                      refine lv_iadd hx hb dL_hour_636 ?_
                      refine lv_aload_n hx hb dL_hour_637 rfl (lv_at hl 1 rfl) ?_
                      refine lv_bipush (v := 6) hx hb dL_hour_638 (by decide) ?_
                      refine qa_ld (v := (pL_hour_J591xq w4 w5 v9 zq).2 0 (ix 6)) hx hb hK hP 0 rfl (vp_in_iff.mpr ⟨by decide, by decide⟩) rfl dL_hour_640 ?_
                      refine lv_irem hx hb dL_hour_641 (by exact HQ.ne6 (HQ_J591 g_0)) ?_
                      refine lv_if_ne (tgt := 660) hx hb dL_hour_642 (by decide) (fun c_36 => ?_) (fun c_36 => ?_)
                      · skip
                        exact j_34 (pL_hour_J591xq w4 w5 v9 zq) (by rw [pL_hour_J660xq, if_neg c_29, if_neg c_33, if_pos c_34, if_pos c_35, if_neg c_36]) _ _ _ hP hD hS (lv_sub hl [0, 1, 2, 3, 4, 5, 6, 7, 8, 9] rfl)
                      · refine lv_aload_n hx hb dL_hour_645 rfl (lv_at hl 2 rfl) ?_
                        refine lv_iload hx hb dL_hour_646 (lv_at hl 0 rfl) ?_
                        refine lv_iconst (v := 2) hx hb dL_hour_648 (by decide) ?_
                        refine lv_iadd hx hb dL_hour_649 ?_
                        refine lv_iconst (v := 0) hx hb dL_hour_650 (by decide) ?_
                        refine qa_st hx hb hK hP hD hS 1 rfl (e5_add (n := 12) (by first | with_reducible assumption | exact vp_in_iff.mpr ⟨by decide, by decide⟩ | exact vp_in_iff.mpr ⟨by omega, by omega⟩) (by first | with_reducible assumption | exact vp_in_iff.mpr ⟨by decide, by decide⟩ | exact vp_in_iff.mpr ⟨by omega, by omega⟩)) dL_hour_651 (fun H locs hP hD hS => ?_)
                        refine lv_aload_n hx hb dL_hour_652 rfl (lv_at hl 1 rfl) ?_
                        refine lv_bipush (v := 10) hx hb dL_hour_653 (by decide) ?_
                        refine lv_dup2_11 hx hb dL_hour_655 rfl rfl ?_
                        refine qa_ld (v := (pL_hour_J591xq w4 w5 v9 zq).2 0 (ix 10)) hx hb hK hP 0 rfl (vp_in_iff.mpr ⟨by decide, by decide⟩) rfl dL_hour_656 ?_
                        refine lv_iconst (v := 1) hx hb dL_hour_657 (by decide) ?_
                        refine lv_iadd hx hb dL_hour_658 ?_
                        refine qa_st hx hb hK hP hD hS 0 rfl (vp_in_iff.mpr ⟨by decide, by decide⟩) dL_hour_659 (fun H locs hP hD hS => ?_)
                        exact j_34 (pR (pR (pL_hour_J591xq w4 w5 v9 zq) 1 ((5 * v9) + 2) 0) 0 10 (((pL_hour_J591xq w4 w5 v9 zq).2 0 (ix 10)) + 1)) (by rw [pL_hour_J660xq, if_neg c_29, if_neg c_33, if_pos c_34, if_pos c_35, if_pos c_36]) _ _ _ hP hD hS (lv_sub hl [0, 1, 2, 3, 4, 5, 6, 7, 8, 9] rfl)
            refine lv_if_eq (tgt := 484) hx hb dL_hour_406 (by decide) (fun c_21 => ?_) (fun c_21 => ?_)
            · refine lv_aload_n hx hb dL_hour_484 rfl (lv_at hl 2 rfl) ?_
              refine lv_iload hx hb dL_hour_485 (lv_at hl 0 rfl) ?_
              refine lv_iconst (v := 1) hx hb dL_hour_487 (by decide) ?_
              refine lv_iadd hx hb dL_hour_488 ?_
              refine lv_aload_n hx hb dL_hour_489 rfl (lv_at hl 2 rfl) ?_
              refine lv_iload hx hb dL_hour_490 (lv_at hl 0 rfl) ?_
              refine lv_iconst (v := 1) hx hb dL_hour_492 (by decide) ?_
              refine lv_iadd hx hb dL_hour_493 ?_
              refine qa_ld (v := zq.2 1 (ix ((5 * v9) + 1))) hx hb hK hP 1 rfl (e5_add (n := 12) (by first | with_reducible assumption | exact vp_in_iff.mpr ⟨by decide, by decide⟩ | exact vp_in_iff.mpr ⟨by omega, by omega⟩) (by first | with_reducible assumption | exact vp_in_iff.mpr ⟨by decide, by decide⟩ | exact vp_in_iff.mpr ⟨by omega, by omega⟩)) rfl dL_hour_494 ?_
              refine lv_aload_n hx hb dL_hour_495 rfl (lv_at hl 1 rfl) ?_
              refine lv_iconst (v := 2) hx hb dL_hour_496 (by decide) ?_
              refine qa_ld (v := zq.2 0 (ix 2)) hx hb hK hP 0 rfl (vp_in_iff.mpr ⟨by decide, by decide⟩) rfl dL_hour_497 ?_
              have j_30 : ∀ (u30_0 : Int32), u30_0 = (pL_hour_J515s0 v9 zq) → ∀ (H : Heap) (locs : List Loc) (ls : Array Slot), va_P G vwCl (wQ cI h zq) H → va_D A (wQ cI h zq) → va_S A s.heap H locs → lv_has ls 14 [(10, .int (5 * v9)), (0, .ref (h 1)), (1, .ref (h 2)), (2, .ref (h 3)), (3, .int w3), (4, .int w4), (5, .int w5), (7, .int v7), (8, .int w8), (9, .int v9)] → W p l e (rmz 2 42) s m ([.ref (h 1), .ref (h 2), .ref (h 3)] : List Value).toArray below meth c H locs 0 0 (MQ below (QiA G A (pL_hour xq).1 (wQ cI h ((pL_hour xq).2))) ([.ref (h 1), .ref (h 2), .ref (h 3)] : List Value).toArray s 0 0 A) (F0 m 515 ls [.int u30_0, .int ((5 * v9) + 1), .ref (h 2)]) := by
                intro u30_0 e0 H locs ls hP hD hS hl
                subst e0
                refine qa_st hx hb hK hP hD hS 1 rfl (e5_add (n := 12) (by first | with_reducible assumption | exact vp_in_iff.mpr ⟨by decide, by decide⟩ | exact vp_in_iff.mpr ⟨by omega, by omega⟩) (by first | with_reducible assumption | exact vp_in_iff.mpr ⟨by decide, by decide⟩ | exact vp_in_iff.mpr ⟨by omega, by omega⟩)) dL_hour_515 (fun H locs hP hD hS => ?_)
                refine lv_iload hx hb dL_hour_516 (lv_at hl 6 rfl) ?_
                refine lv_bipush (v := 8) hx hb dL_hour_518 (by decide) ?_
                refine lv_icmp_lt (tgt := 591) hx hb dL_hour_520 (by decide) (fun c_23 => ?_) (fun c_23 => ?_)
                · have t_23 := i_lt (z := (Int32.toInt w5)) (w := (8)) c_23 rfl (by decide)
                  exact j_29 v7 (pR zq 1 ((5 * v9) + 1) (pL_hour_J515s0 v9 zq)) (by rw [pL_hour_J591v7, if_pos c_21, if_pos c_23]) (by rw [pL_hour_J591xq, if_pos c_21, if_pos c_23]) _ _ _ hP hD hS (lv_sub hl [0, 1, 2, 3, 4, 5, 6, 7, 8, 9] rfl)
                · have t_23 := i_nlt (z := (Int32.toInt w5)) (w := (8)) c_23 rfl (by decide)
                  refine lv_iload hx hb dL_hour_523 (lv_at hl 6 rfl) ?_
                  refine lv_bipush (v := 22) hx hb dL_hour_525 (by decide) ?_
                  refine lv_icmp_ge (tgt := 591) hx hb dL_hour_527 (by decide) (fun c_24 => ?_) (fun c_24 => ?_)
                  · have t_24 := i_le (z := (22)) (w := (Int32.toInt w5)) c_24 (by decide) rfl
                    exact j_29 v7 (pR zq 1 ((5 * v9) + 1) (pL_hour_J515s0 v9 zq)) (by rw [pL_hour_J591v7, if_pos c_21, if_neg c_23, if_pos c_24]) (by rw [pL_hour_J591xq, if_pos c_21, if_neg c_23, if_pos c_24]) _ _ _ hP hD hS (lv_sub hl [0, 1, 2, 3, 4, 5, 6, 7, 8, 9] rfl)
                  · have t_24 := i_nle (z := (22)) (w := (Int32.toInt w5)) c_24 (by decide) rfl
                    refine lv_aload_n hx hb dL_hour_530 rfl (lv_at hl 2 rfl) ?_
                    refine lv_iload hx hb dL_hour_531 (lv_at hl 0 rfl) ?_
                    refine lv_iconst (v := 1) hx hb dL_hour_533 (by decide) ?_
                    refine lv_iadd hx hb dL_hour_534 ?_
                    refine qa_ld (v := (pR zq 1 ((5 * v9) + 1) (pL_hour_J515s0 v9 zq)).2 1 (ix ((5 * v9) + 1))) hx hb hK hP 1 rfl (e5_add (n := 12) (by first | with_reducible assumption | exact vp_in_iff.mpr ⟨by decide, by decide⟩ | exact vp_in_iff.mpr ⟨by omega, by omega⟩) (by first | with_reducible assumption | exact vp_in_iff.mpr ⟨by decide, by decide⟩ | exact vp_in_iff.mpr ⟨by omega, by omega⟩)) rfl dL_hour_535 ?_
                    refine lv_bipush (v := 50) hx hb dL_hour_536 (by decide) ?_
                    refine lv_icmp_ge (tgt := 591) hx hb dL_hour_538 (by decide) (fun c_25 => ?_) (fun c_25 => ?_)
                    · have t_25 := i_le (z := (50)) (w := (Int32.toInt ((pR zq 1 ((5 * v9) + 1) (pL_hour_J515s0 v9 zq)).2 1 (ix ((5 * v9) + 1))))) c_25 (by decide) rfl
                      exact j_29 v7 (pR zq 1 ((5 * v9) + 1) (pL_hour_J515s0 v9 zq)) (by rw [pL_hour_J591v7, if_pos c_21, if_neg c_23, if_neg c_24, if_pos c_25]) (by rw [pL_hour_J591xq, if_pos c_21, if_neg c_23, if_neg c_24, if_pos c_25]) _ _ _ hP hD hS (lv_sub hl [0, 1, 2, 3, 4, 5, 6, 7, 8, 9] rfl)
                    · have t_25 := i_nle (z := (50)) (w := (Int32.toInt ((pR zq 1 ((5 * v9) + 1) (pL_hour_J515s0 v9 zq)).2 1 (ix ((5 * v9) + 1))))) c_25 (by decide) rfl
                      refine lv_aload_n hx hb dL_hour_541 rfl (lv_at hl 1 rfl) ?_
                      refine lv_iconst (v := 4) hx hb dL_hour_542 (by decide) ?_
                      refine qa_ld (v := zq.2 0 (ix 4)) hx hb hK hP 0 rfl (vp_in_iff.mpr ⟨by decide, by decide⟩) rfl dL_hour_543 ?_
                      refine lv_aload_n hx hb dL_hour_544 rfl (lv_at hl 2 rfl) ?_
                      refine lv_iload hx hb dL_hour_545 (lv_at hl 0 rfl) ?_
                      refine qa_ld (v := (pR zq 1 ((5 * v9) + 1) (pL_hour_J515s0 v9 zq)).2 1 (ix (5 * v9))) hx hb hK hP 1 rfl (e5_in (n := 12) (by first | with_reducible assumption | exact vp_in_iff.mpr ⟨by decide, by decide⟩ | exact vp_in_iff.mpr ⟨by omega, by omega⟩)) rfl dL_hour_547 ?_
                      refine lv_imul hx hb dL_hour_548 ?_
                      refine lv_bipush (v := 100) hx hb dL_hour_549 (by decide) ?_
                      refine lv_idiv hx hb dL_hour_551 (by decide) ?_
                      refine lv_istore (lv' := [(11, .int (((zq.2 0 (ix 4)) * ((pR zq 1 ((5 * v9) + 1) (pL_hour_J515s0 v9 zq)).2 1 (ix (5 * v9)))) / 100)), (10, .int (5 * v9)), (0, .ref (h 1)), (1, .ref (h 2)), (2, .ref (h 3)), (3, .int w3), (4, .int w4), (5, .int w5), (7, .int v7), (8, .int w8), (9, .int v9)]) hx hb dL_hour_552 hl (by decide) rfl (fun ls hl => ?_)
                      refine lv_iload hx hb dL_hour_554 (lv_at hl 8 rfl) ?_
                      refine lv_iload hx hb dL_hour_556 (lv_at hl 0 rfl) ?_
                      refine lv_iadd hx hb dL_hour_558 ?_
                      refine lv_istore (lv' := [(7, .int (v7 + (((zq.2 0 (ix 4)) * ((pR zq 1 ((5 * v9) + 1) (pL_hour_J515s0 v9 zq)).2 1 (ix (5 * v9)))) / 100))), (11, .int (((zq.2 0 (ix 4)) * ((pR zq 1 ((5 * v9) + 1) (pL_hour_J515s0 v9 zq)).2 1 (ix (5 * v9)))) / 100)), (10, .int (5 * v9)), (0, .ref (h 1)), (1, .ref (h 2)), (2, .ref (h 3)), (3, .int w3), (4, .int w4), (5, .int w5), (8, .int w8), (9, .int v9)]) hx hb dL_hour_559 hl (by decide) rfl (fun ls hl => ?_)
                      refine lv_aload_n hx hb dL_hour_561 rfl (lv_at hl 4 rfl) ?_
                      refine lv_iload hx hb dL_hour_562 (lv_at hl 2 rfl) ?_
                      refine lv_iconst (v := 3) hx hb dL_hour_564 (by decide) ?_
                      refine lv_iadd hx hb dL_hour_565 ?_
                      refine lv_dup2_11 hx hb dL_hour_566 rfl rfl ?_
                      refine qa_ld (v := (pR zq 1 ((5 * v9) + 1) (pL_hour_J515s0 v9 zq)).2 1 (ix ((5 * v9) + 3))) hx hb hK hP 1 rfl (e5_add (n := 12) (by first | with_reducible assumption | exact vp_in_iff.mpr ⟨by decide, by decide⟩ | exact vp_in_iff.mpr ⟨by omega, by omega⟩) (by first | with_reducible assumption | exact vp_in_iff.mpr ⟨by decide, by decide⟩ | exact vp_in_iff.mpr ⟨by omega, by omega⟩)) rfl dL_hour_567 ?_
                      refine lv_iload hx hb dL_hour_568 (lv_at hl 1 rfl) ?_
                      refine lv_iadd hx hb dL_hour_570 ?_
                      refine qa_st hx hb hK hP hD hS 1 rfl (e5_add (n := 12) (by first | with_reducible assumption | exact vp_in_iff.mpr ⟨by decide, by decide⟩ | exact vp_in_iff.mpr ⟨by omega, by omega⟩) (by first | with_reducible assumption | exact vp_in_iff.mpr ⟨by decide, by decide⟩ | exact vp_in_iff.mpr ⟨by omega, by omega⟩)) dL_hour_571 (fun H locs hP hD hS => ?_)
                      refine lv_aload_n hx hb dL_hour_572 rfl (lv_at hl 4 rfl) ?_
                      refine lv_iload hx hb dL_hour_573 (lv_at hl 2 rfl) ?_
                      refine lv_dup2_11 hx hb dL_hour_575 rfl rfl ?_
                      refine qa_ld (v := (pR (pR zq 1 ((5 * v9) + 1) (pL_hour_J515s0 v9 zq)) 1 ((5 * v9) + 3) (((pR zq 1 ((5 * v9) + 1) (pL_hour_J515s0 v9 zq)).2 1 (ix ((5 * v9) + 3))) + (((zq.2 0 (ix 4)) * ((pR zq 1 ((5 * v9) + 1) (pL_hour_J515s0 v9 zq)).2 1 (ix (5 * v9)))) / 100))).2 1 (ix (5 * v9))) hx hb hK hP 1 rfl (e5_in (n := 12) (by first | with_reducible assumption | exact vp_in_iff.mpr ⟨by decide, by decide⟩ | exact vp_in_iff.mpr ⟨by omega, by omega⟩)) rfl dL_hour_576 ?_
                      refine lv_aload_n hx hb dL_hour_577 rfl (lv_at hl 4 rfl) ?_
                      refine lv_iload hx hb dL_hour_578 (lv_at hl 2 rfl) ?_
                      refine qa_ld (v := (pR (pR zq 1 ((5 * v9) + 1) (pL_hour_J515s0 v9 zq)) 1 ((5 * v9) + 3) (((pR zq 1 ((5 * v9) + 1) (pL_hour_J515s0 v9 zq)).2 1 (ix ((5 * v9) + 3))) + (((zq.2 0 (ix 4)) * ((pR zq 1 ((5 * v9) + 1) (pL_hour_J515s0 v9 zq)).2 1 (ix (5 * v9)))) / 100))).2 1 (ix (5 * v9))) hx hb hK hP 1 rfl (e5_in (n := 12) (by first | with_reducible assumption | exact vp_in_iff.mpr ⟨by decide, by decide⟩ | exact vp_in_iff.mpr ⟨by omega, by omega⟩)) rfl dL_hour_580 ?_
                      have j_31 : ∀ (u31_0 : Int32), u31_0 = (pL_hour_J589s0 v9 zq) → ∀ (H : Heap) (locs : List Loc) (ls : Array Slot), va_P G vwCl (wQ cI h (pR (pR zq 1 ((5 * v9) + 1) (pL_hour_J515s0 v9 zq)) 1 ((5 * v9) + 3) (((pR zq 1 ((5 * v9) + 1) (pL_hour_J515s0 v9 zq)).2 1 (ix ((5 * v9) + 3))) + (((zq.2 0 (ix 4)) * ((pR zq 1 ((5 * v9) + 1) (pL_hour_J515s0 v9 zq)).2 1 (ix (5 * v9)))) / 100)))) H → va_D A (wQ cI h (pR (pR zq 1 ((5 * v9) + 1) (pL_hour_J515s0 v9 zq)) 1 ((5 * v9) + 3) (((pR zq 1 ((5 * v9) + 1) (pL_hour_J515s0 v9 zq)).2 1 (ix ((5 * v9) + 3))) + (((zq.2 0 (ix 4)) * ((pR zq 1 ((5 * v9) + 1) (pL_hour_J515s0 v9 zq)).2 1 (ix (5 * v9)))) / 100)))) → va_S A s.heap H locs → lv_has ls 14 [(7, .int (v7 + (((zq.2 0 (ix 4)) * ((pR zq 1 ((5 * v9) + 1) (pL_hour_J515s0 v9 zq)).2 1 (ix (5 * v9)))) / 100))), (11, .int (((zq.2 0 (ix 4)) * ((pR zq 1 ((5 * v9) + 1) (pL_hour_J515s0 v9 zq)).2 1 (ix (5 * v9)))) / 100)), (10, .int (5 * v9)), (0, .ref (h 1)), (1, .ref (h 2)), (2, .ref (h 3)), (3, .int w3), (4, .int w4), (5, .int w5), (8, .int w8), (9, .int v9)] → W p l e (rmz 2 42) s m ([.ref (h 1), .ref (h 2), .ref (h 3)] : List Value).toArray below meth c H locs 0 0 (MQ below (QiA G A (pL_hour xq).1 (wQ cI h ((pL_hour xq).2))) ([.ref (h 1), .ref (h 2), .ref (h 3)] : List Value).toArray s 0 0 A) (F0 m 589 ls [.int u31_0, .int ((pR (pR zq 1 ((5 * v9) + 1) (pL_hour_J515s0 v9 zq)) 1 ((5 * v9) + 3) (((pR zq 1 ((5 * v9) + 1) (pL_hour_J515s0 v9 zq)).2 1 (ix ((5 * v9) + 3))) + (((zq.2 0 (ix 4)) * ((pR zq 1 ((5 * v9) + 1) (pL_hour_J515s0 v9 zq)).2 1 (ix (5 * v9)))) / 100))).2 1 (ix (5 * v9))), .int (5 * v9), .ref (h 2)]) := by
                        intro u31_0 e0 H locs ls hP hD hS hl
                        subst e0
                        refine lv_isub hx hb dL_hour_589 ?_
                        refine qa_st hx hb hK hP hD hS 1 rfl (e5_in (n := 12) (by first | with_reducible assumption | exact vp_in_iff.mpr ⟨by decide, by decide⟩ | exact vp_in_iff.mpr ⟨by omega, by omega⟩)) dL_hour_590 (fun H locs hP hD hS => ?_)
                        exact j_29 (v7 + (((zq.2 0 (ix 4)) * ((pR zq 1 ((5 * v9) + 1) (pL_hour_J515s0 v9 zq)).2 1 (ix (5 * v9)))) / 100)) (pR (pR (pR zq 1 ((5 * v9) + 1) (pL_hour_J515s0 v9 zq)) 1 ((5 * v9) + 3) (((pR zq 1 ((5 * v9) + 1) (pL_hour_J515s0 v9 zq)).2 1 (ix ((5 * v9) + 3))) + (((zq.2 0 (ix 4)) * ((pR zq 1 ((5 * v9) + 1) (pL_hour_J515s0 v9 zq)).2 1 (ix (5 * v9)))) / 100))) 1 (5 * v9) (((pR (pR zq 1 ((5 * v9) + 1) (pL_hour_J515s0 v9 zq)) 1 ((5 * v9) + 3) (((pR zq 1 ((5 * v9) + 1) (pL_hour_J515s0 v9 zq)).2 1 (ix ((5 * v9) + 3))) + (((zq.2 0 (ix 4)) * ((pR zq 1 ((5 * v9) + 1) (pL_hour_J515s0 v9 zq)).2 1 (ix (5 * v9)))) / 100))).2 1 (ix (5 * v9))) - (pL_hour_J589s0 v9 zq))) (by rw [pL_hour_J591v7, if_pos c_21, if_neg c_23, if_neg c_24, if_neg c_25]) (by rw [pL_hour_J591xq, if_pos c_21, if_neg c_23, if_neg c_24, if_neg c_25]) _ _ _ hP hD hS (lv_sub hl [2, 3, 4, 5, 6, 7, 8, 0, 9, 10] rfl)
                      refine lv_if_le (tgt := 588) hx hb dL_hour_581 (by decide) (fun c_26 => ?_) (fun c_26 => ?_)
                      · have t_26 := i_le (z := (Int32.toInt ((pR (pR zq 1 ((5 * v9) + 1) (pL_hour_J515s0 v9 zq)) 1 ((5 * v9) + 3) (((pR zq 1 ((5 * v9) + 1) (pL_hour_J515s0 v9 zq)).2 1 (ix ((5 * v9) + 3))) + (((zq.2 0 (ix 4)) * ((pR zq 1 ((5 * v9) + 1) (pL_hour_J515s0 v9 zq)).2 1 (ix (5 * v9)))) / 100))).2 1 (ix (5 * v9))))) (w := (0)) c_26 rfl (by decide)
                        refine lv_iconst (v := 0) hx hb dL_hour_588 (by decide) ?_
                        exact j_31 0 (by rw [pL_hour_J589s0, if_pos c_26]) _ _ _ hP hD hS (lv_sub hl [0, 1, 2, 3, 4, 5, 6, 7, 8, 9, 10] rfl)
                      · have t_26 := i_nle (z := (Int32.toInt ((pR (pR zq 1 ((5 * v9) + 1) (pL_hour_J515s0 v9 zq)) 1 ((5 * v9) + 3) (((pR zq 1 ((5 * v9) + 1) (pL_hour_J515s0 v9 zq)).2 1 (ix ((5 * v9) + 3))) + (((zq.2 0 (ix 4)) * ((pR zq 1 ((5 * v9) + 1) (pL_hour_J515s0 v9 zq)).2 1 (ix (5 * v9)))) / 100))).2 1 (ix (5 * v9))))) (w := (0)) c_26 rfl (by decide)
                        refine lv_iconst (v := 1) hx hb dL_hour_584 (by decide) ?_
                        refine lv_goto (tgt := 589) hx hb dL_hour_585 (by decide) ?_
                        exact j_31 1 (by rw [pL_hour_J589s0, if_neg c_26]) _ _ _ hP hD hS (lv_sub hl [0, 1, 2, 3, 4, 5, 6, 7, 8, 9, 10] rfl)
              refine lv_icmp_ge (tgt := 505) hx hb dL_hour_498 (by decide) (fun c_22 => ?_) (fun c_22 => ?_)
              · have t_22 := i_le (z := (Int32.toInt (zq.2 0 (ix 2)))) (w := (Int32.toInt (zq.2 1 (ix ((5 * v9) + 1))))) c_22 rfl rfl
                refine lv_aload_n hx hb dL_hour_505 rfl (lv_at hl 2 rfl) ?_
                refine lv_iload hx hb dL_hour_506 (lv_at hl 0 rfl) ?_
                refine lv_iconst (v := 1) hx hb dL_hour_508 (by decide) ?_
                refine lv_iadd hx hb dL_hour_509 ?_
                refine qa_ld (v := zq.2 1 (ix ((5 * v9) + 1))) hx hb hK hP 1 rfl (e5_add (n := 12) (by first | with_reducible assumption | exact vp_in_iff.mpr ⟨by decide, by decide⟩ | exact vp_in_iff.mpr ⟨by omega, by omega⟩) (by first | with_reducible assumption | exact vp_in_iff.mpr ⟨by decide, by decide⟩ | exact vp_in_iff.mpr ⟨by omega, by omega⟩)) rfl dL_hour_510 ?_
                refine lv_aload_n hx hb dL_hour_511 rfl (lv_at hl 1 rfl) ?_
                refine lv_iconst (v := 2) hx hb dL_hour_512 (by decide) ?_
                refine qa_ld (v := zq.2 0 (ix 2)) hx hb hK hP 0 rfl (vp_in_iff.mpr ⟨by decide, by decide⟩) rfl dL_hour_513 ?_
                refine lv_isub hx hb dL_hour_514 ?_
                exact j_30 ((zq.2 1 (ix ((5 * v9) + 1))) - (zq.2 0 (ix 2))) (by rw [pL_hour_J515s0, if_pos c_22]) _ _ _ hP hD hS (lv_sub hl [0, 1, 2, 3, 4, 5, 6, 7, 8, 9] rfl)
              · have t_22 := i_nle (z := (Int32.toInt (zq.2 0 (ix 2)))) (w := (Int32.toInt (zq.2 1 (ix ((5 * v9) + 1))))) c_22 rfl rfl
                refine lv_iconst (v := 0) hx hb dL_hour_501 (by decide) ?_
                refine lv_goto (tgt := 515) hx hb dL_hour_502 (by decide) ?_
                exact j_30 0 (by rw [pL_hour_J515s0, if_neg c_22]) _ _ _ hP hD hS (lv_sub hl [0, 1, 2, 3, 4, 5, 6, 7, 8, 9] rfl)
            · refine lv_aload_n hx hb dL_hour_409 rfl (lv_at hl 2 rfl) ?_
              refine lv_iload hx hb dL_hour_410 (lv_at hl 0 rfl) ?_
              refine lv_iconst (v := 1) hx hb dL_hour_412 (by decide) ?_
              refine lv_iadd hx hb dL_hour_413 ?_
              refine lv_aload_n hx hb dL_hour_414 rfl (lv_at hl 2 rfl) ?_
              refine lv_iload hx hb dL_hour_415 (lv_at hl 0 rfl) ?_
              refine lv_iconst (v := 1) hx hb dL_hour_417 (by decide) ?_
              refine lv_iadd hx hb dL_hour_418 ?_
              refine qa_ld (v := zq.2 1 (ix ((5 * v9) + 1))) hx hb hK hP 1 rfl (e5_add (n := 12) (by first | with_reducible assumption | exact vp_in_iff.mpr ⟨by decide, by decide⟩ | exact vp_in_iff.mpr ⟨by omega, by omega⟩) (by first | with_reducible assumption | exact vp_in_iff.mpr ⟨by decide, by decide⟩ | exact vp_in_iff.mpr ⟨by omega, by omega⟩)) rfl dL_hour_419 ?_
              refine lv_aload_n hx hb dL_hour_420 rfl (lv_at hl 1 rfl) ?_
              refine lv_iconst (v := 1) hx hb dL_hour_421 (by decide) ?_
              refine qa_ld (v := zq.2 0 (ix 1)) hx hb hK hP 0 rfl (vp_in_iff.mpr ⟨by decide, by decide⟩) rfl dL_hour_422 ?_
              refine lv_iadd hx hb dL_hour_423 ?_
              refine lv_bipush (v := 100) hx hb dL_hour_424 (by decide) ?_
              have j_32 : ∀ (u32_0 : Int32), u32_0 = (pL_hour_J444s0 v9 zq) → ∀ (H : Heap) (locs : List Loc) (ls : Array Slot), va_P G vwCl (wQ cI h zq) H → va_D A (wQ cI h zq) → va_S A s.heap H locs → lv_has ls 14 [(10, .int (5 * v9)), (0, .ref (h 1)), (1, .ref (h 2)), (2, .ref (h 3)), (3, .int w3), (4, .int w4), (5, .int w5), (7, .int v7), (8, .int w8), (9, .int v9)] → W p l e (rmz 2 42) s m ([.ref (h 1), .ref (h 2), .ref (h 3)] : List Value).toArray below meth c H locs 0 0 (MQ below (QiA G A (pL_hour xq).1 (wQ cI h ((pL_hour xq).2))) ([.ref (h 1), .ref (h 2), .ref (h 3)] : List Value).toArray s 0 0 A) (F0 m 444 ls [.int u32_0, .int ((5 * v9) + 1), .ref (h 2)]) := by
                intro u32_0 e0 H locs ls hP hD hS hl
                subst e0
                refine qa_st hx hb hK hP hD hS 1 rfl (e5_add (n := 12) (by first | with_reducible assumption | exact vp_in_iff.mpr ⟨by decide, by decide⟩ | exact vp_in_iff.mpr ⟨by omega, by omega⟩) (by first | with_reducible assumption | exact vp_in_iff.mpr ⟨by decide, by decide⟩ | exact vp_in_iff.mpr ⟨by omega, by omega⟩)) dL_hour_444 (fun H locs hP hD hS => ?_)
                refine lv_aload_n hx hb dL_hour_445 rfl (lv_at hl 2 rfl) ?_
                refine lv_iload hx hb dL_hour_446 (lv_at hl 0 rfl) ?_
                refine lv_aload_n hx hb dL_hour_448 rfl (lv_at hl 2 rfl) ?_
                refine lv_iload hx hb dL_hour_449 (lv_at hl 0 rfl) ?_
                refine qa_ld (v := (pR zq 1 ((5 * v9) + 1) (pL_hour_J444s0 v9 zq)).2 1 (ix (5 * v9))) hx hb hK hP 1 rfl (e5_in (n := 12) (by first | with_reducible assumption | exact vp_in_iff.mpr ⟨by decide, by decide⟩ | exact vp_in_iff.mpr ⟨by omega, by omega⟩)) rfl dL_hour_451 ?_
                refine lv_aload_n hx hb dL_hour_452 rfl (lv_at hl 1 rfl) ?_
                refine lv_iconst (v := 3) hx hb dL_hour_453 (by decide) ?_
                refine qa_ld (v := zq.2 0 (ix 3)) hx hb hK hP 0 rfl (vp_in_iff.mpr ⟨by decide, by decide⟩) rfl dL_hour_454 ?_
                have j_33 : ∀ (u33_0 : Int32), u33_0 = (pL_hour_J470s0 v9 zq) → ∀ (H : Heap) (locs : List Loc) (ls : Array Slot), va_P G vwCl (wQ cI h (pR zq 1 ((5 * v9) + 1) (pL_hour_J444s0 v9 zq))) H → va_D A (wQ cI h (pR zq 1 ((5 * v9) + 1) (pL_hour_J444s0 v9 zq))) → va_S A s.heap H locs → lv_has ls 14 [(10, .int (5 * v9)), (0, .ref (h 1)), (1, .ref (h 2)), (2, .ref (h 3)), (3, .int w3), (4, .int w4), (5, .int w5), (7, .int v7), (8, .int w8), (9, .int v9)] → W p l e (rmz 2 42) s m ([.ref (h 1), .ref (h 2), .ref (h 3)] : List Value).toArray below meth c H locs 0 0 (MQ below (QiA G A (pL_hour xq).1 (wQ cI h ((pL_hour xq).2))) ([.ref (h 1), .ref (h 2), .ref (h 3)] : List Value).toArray s 0 0 A) (F0 m 470 ls [.int u33_0, .int (5 * v9), .ref (h 2)]) := by
                  intro u33_0 e0 H locs ls hP hD hS hl
                  subst e0
                  refine qa_st hx hb hK hP hD hS 1 rfl (e5_in (n := 12) (by first | with_reducible assumption | exact vp_in_iff.mpr ⟨by decide, by decide⟩ | exact vp_in_iff.mpr ⟨by omega, by omega⟩)) dL_hour_470 (fun H locs hP hD hS => ?_)
                  refine lv_aload_n hx hb dL_hour_471 rfl (lv_at hl 2 rfl) ?_
                  refine lv_iload hx hb dL_hour_472 (lv_at hl 0 rfl) ?_
                  refine lv_iconst (v := 4) hx hb dL_hour_474 (by decide) ?_
                  refine lv_iadd hx hb dL_hour_475 ?_
                  refine lv_dup2_11 hx hb dL_hour_476 rfl rfl ?_
                  refine qa_ld (v := (pR (pR zq 1 ((5 * v9) + 1) (pL_hour_J444s0 v9 zq)) 1 (5 * v9) (pL_hour_J470s0 v9 zq)).2 1 (ix ((5 * v9) + 4))) hx hb hK hP 1 rfl (e5_add (n := 12) (by first | with_reducible assumption | exact vp_in_iff.mpr ⟨by decide, by decide⟩ | exact vp_in_iff.mpr ⟨by omega, by omega⟩) (by first | with_reducible assumption | exact vp_in_iff.mpr ⟨by decide, by decide⟩ | exact vp_in_iff.mpr ⟨by omega, by omega⟩)) rfl dL_hour_477 ?_
                  refine lv_iconst (v := 1) hx hb dL_hour_478 (by decide) ?_
                  refine lv_iadd hx hb dL_hour_479 ?_
                  refine qa_st hx hb hK hP hD hS 1 rfl (e5_add (n := 12) (by first | with_reducible assumption | exact vp_in_iff.mpr ⟨by decide, by decide⟩ | exact vp_in_iff.mpr ⟨by omega, by omega⟩) (by first | with_reducible assumption | exact vp_in_iff.mpr ⟨by decide, by decide⟩ | exact vp_in_iff.mpr ⟨by omega, by omega⟩)) dL_hour_480 (fun H locs hP hD hS => ?_)
                  refine lv_goto (tgt := 591) hx hb dL_hour_481 (by decide) ?_
                  exact j_29 v7 (pR (pR (pR zq 1 ((5 * v9) + 1) (pL_hour_J444s0 v9 zq)) 1 (5 * v9) (pL_hour_J470s0 v9 zq)) 1 ((5 * v9) + 4) (((pR (pR zq 1 ((5 * v9) + 1) (pL_hour_J444s0 v9 zq)) 1 (5 * v9) (pL_hour_J470s0 v9 zq)).2 1 (ix ((5 * v9) + 4))) + 1)) (by rw [pL_hour_J591v7, if_neg c_21]) (by rw [pL_hour_J591xq, if_neg c_21]) _ _ _ hP hD hS (lv_sub hl [0, 1, 2, 3, 4, 5, 6, 7, 8, 9] rfl)
                refine lv_icmp_ge (tgt := 462) hx hb dL_hour_455 (by decide) (fun c_28 => ?_) (fun c_28 => ?_)
                · have t_28 := i_le (z := (Int32.toInt (zq.2 0 (ix 3)))) (w := (Int32.toInt ((pR zq 1 ((5 * v9) + 1) (pL_hour_J444s0 v9 zq)).2 1 (ix (5 * v9))))) c_28 rfl rfl
                  refine lv_aload_n hx hb dL_hour_462 rfl (lv_at hl 2 rfl) ?_
                  refine lv_iload hx hb dL_hour_463 (lv_at hl 0 rfl) ?_
                  refine qa_ld (v := (pR zq 1 ((5 * v9) + 1) (pL_hour_J444s0 v9 zq)).2 1 (ix (5 * v9))) hx hb hK hP 1 rfl (e5_in (n := 12) (by first | with_reducible assumption | exact vp_in_iff.mpr ⟨by decide, by decide⟩ | exact vp_in_iff.mpr ⟨by omega, by omega⟩)) rfl dL_hour_465 ?_
                  refine lv_aload_n hx hb dL_hour_466 rfl (lv_at hl 1 rfl) ?_
                  refine lv_iconst (v := 3) hx hb dL_hour_467 (by decide) ?_
                  refine qa_ld (v := zq.2 0 (ix 3)) hx hb hK hP 0 rfl (vp_in_iff.mpr ⟨by decide, by decide⟩) rfl dL_hour_468 ?_
                  refine lv_isub hx hb dL_hour_469 ?_
                  exact j_33 (((pR zq 1 ((5 * v9) + 1) (pL_hour_J444s0 v9 zq)).2 1 (ix (5 * v9))) - (zq.2 0 (ix 3))) (by rw [pL_hour_J470s0, if_pos c_28]) _ _ _ hP hD hS (lv_sub hl [0, 1, 2, 3, 4, 5, 6, 7, 8, 9] rfl)
                · have t_28 := i_nle (z := (Int32.toInt (zq.2 0 (ix 3)))) (w := (Int32.toInt ((pR zq 1 ((5 * v9) + 1) (pL_hour_J444s0 v9 zq)).2 1 (ix (5 * v9))))) c_28 rfl rfl
                  refine lv_iconst (v := 0) hx hb dL_hour_458 (by decide) ?_
                  refine lv_goto (tgt := 470) hx hb dL_hour_459 (by decide) ?_
                  exact j_33 0 (by rw [pL_hour_J470s0, if_neg c_28]) _ _ _ hP hD hS (lv_sub hl [0, 1, 2, 3, 4, 5, 6, 7, 8, 9] rfl)
              refine lv_icmp_le (tgt := 434) hx hb dL_hour_426 (by decide) (fun c_27 => ?_) (fun c_27 => ?_)
              · have t_27 := i_le (z := (Int32.toInt ((zq.2 1 (ix ((5 * v9) + 1))) + (zq.2 0 (ix 1))))) (w := (100)) c_27 rfl (by decide)
                refine lv_aload_n hx hb dL_hour_434 rfl (lv_at hl 2 rfl) ?_
                refine lv_iload hx hb dL_hour_435 (lv_at hl 0 rfl) ?_
                refine lv_iconst (v := 1) hx hb dL_hour_437 (by decide) ?_
                refine lv_iadd hx hb dL_hour_438 ?_
                refine qa_ld (v := zq.2 1 (ix ((5 * v9) + 1))) hx hb hK hP 1 rfl (e5_add (n := 12) (by first | with_reducible assumption | exact vp_in_iff.mpr ⟨by decide, by decide⟩ | exact vp_in_iff.mpr ⟨by omega, by omega⟩) (by first | with_reducible assumption | exact vp_in_iff.mpr ⟨by decide, by decide⟩ | exact vp_in_iff.mpr ⟨by omega, by omega⟩)) rfl dL_hour_439 ?_
                refine lv_aload_n hx hb dL_hour_440 rfl (lv_at hl 1 rfl) ?_
                refine lv_iconst (v := 1) hx hb dL_hour_441 (by decide) ?_
                refine qa_ld (v := zq.2 0 (ix 1)) hx hb hK hP 0 rfl (vp_in_iff.mpr ⟨by decide, by decide⟩) rfl dL_hour_442 ?_
                refine lv_iadd hx hb dL_hour_443 ?_
                exact j_32 ((zq.2 1 (ix ((5 * v9) + 1))) + (zq.2 0 (ix 1))) (by rw [pL_hour_J444s0, if_pos c_27]) _ _ _ hP hD hS (lv_sub hl [0, 1, 2, 3, 4, 5, 6, 7, 8, 9] rfl)
              · have t_27 := i_nle (z := (Int32.toInt ((zq.2 1 (ix ((5 * v9) + 1))) + (zq.2 0 (ix 1))))) (w := (100)) c_27 rfl (by decide)
                refine lv_bipush (v := 100) hx hb dL_hour_429 (by decide) ?_
                refine lv_goto (tgt := 444) hx hb dL_hour_431 (by decide) ?_
                exact j_32 100 (by rw [pL_hour_J444s0, if_neg c_27]) _ _ _ hP hD hS (lv_sub hl [0, 1, 2, 3, 4, 5, 6, 7, 8, 9] rfl)
          · refine lv_goto (tgt := 660) hx hb dL_hour_401 (by decide) ?_
            refine lv_iinc (v := (v9 + 1)) (lv' := [(9, .int (v9 + 1)), (10, .int (5 * v9)), (0, .ref (h 1)), (1, .ref (h 2)), (2, .ref (h 3)), (3, .int w3), (4, .int w4), (5, .int w5), (7, .int v7), (8, .int w8)]) hx hb dL_hour_660 hl (k := 9) rfl rfl (by decide) rfl (fun ls hl => ?_)
            have a_660 := i_add1 (a := v9) (by omega) (by omega)
            refine lv_goto (tgt := 371) hx hb dL_hour_663 (by decide) ?_
            exact ih v7 (v9 + 1) zq (by first | exact g_0 | exact HQ_J660 (HQ_J591 g_0)) (by omega) (by omega) (by omega) (fun t et => hKK t (et.trans (show pL_hour_L371 w4 w5 w8 (n + 1) v7 v9 zq = pL_hour_L371 w4 w5 w8 n v7 (v9 + 1) zq by rw [pL_hour_L371, if_neg c_18, if_neg c_19, if_pos c_20]).symm)) _ _ _ hP hD hS (lv_sub hl [2, 3, 4, 5, 6, 7, 8, 9, 0] rfl)
  refine lv_aload_n hx hb dL_hour_0 rfl (lv_at hl 0 rfl) ?_
  refine gs_i hD hS hA (lr_S (As := [.ref (h 1)]) (rest := []) ⟨hx, hb, hml, hown, hts⟩ (ctL_ahead l G cI cC cZ cR h xq (by exact q_0.2.2.2.1.1) (by have := q_0.2.2.2.1.2; omega) (by exact q_0.2.2.1.1) (by exact q_0.2.2.1.2)) (va_cwS 1 hts gL_hour_L_ahead rfl rfl rfl (by decide +kernel) ⟨Nat.le_of_ble_eq_true rfl, Nat.le_of_ble_eq_true rfl⟩) hK hP hD hN rfl hl.1 rfl (Nat.le_of_ble_eq_true rfl) dL_hour_1 (Nat.zero_le _) (Nat.zero_le _)) (fun H locs hP hD hS => ?_)
  refine lv_istore_n (lv' := [(3, .int (pL_ahead xq)), (0, .ref (h 1)), (1, .ref (h 2)), (2, .ref (h 3))]) hx hb dL_hour_4 rfl hl (by decide) rfl (fun ls hl => ?_)
  refine lv_aload_n hx hb dL_hour_5 rfl (lv_at hl 1 rfl) ?_
  refine lv_bipush (v := 7) hx hb dL_hour_6 (by decide) ?_
  refine qa_ld (v := xq.2 0 (ix 7)) hx hb hK hP 0 rfl (vp_in_iff.mpr ⟨by decide, by decide⟩) rfl dL_hour_8 ?_
  refine lv_aload_n hx hb dL_hour_9 rfl (lv_at hl 1 rfl) ?_
  refine gs_i hD hS hA (lr_S (As := [.int (xq.2 0 (ix 7)), .ref (h 1)]) (rest := []) ⟨hx, hb, hml, hown, hts⟩ (ctL_rains l G cI cC cZ cR h xq (xq.2 0 (ix 7))) (va_cwS 2 hts gL_hour_L_rains rfl rfl rfl (by decide +kernel) ⟨Nat.le_of_ble_eq_true rfl, Nat.le_of_ble_eq_true rfl⟩) hK hP hD hN rfl hl.1 rfl (Nat.le_of_ble_eq_true rfl) dL_hour_10 (Nat.zero_le _) (Nat.zero_le _)) (fun H locs hP hD hS => ?_)
  refine lv_istore (lv' := [(4, .int (pL_rains (xq.2 0 (ix 7)) xq)), (3, .int (pL_ahead xq)), (0, .ref (h 1)), (1, .ref (h 2)), (2, .ref (h 3))]) hx hb dL_hour_13 hl (by decide) rfl (fun ls hl => ?_)
  refine lv_aload_n hx hb dL_hour_15 rfl (lv_at hl 2 rfl) ?_
  refine lv_bipush (v := 7) hx hb dL_hour_16 (by decide) ?_
  refine qa_ld (v := xq.2 0 (ix 7)) hx hb hK hP 0 rfl (vp_in_iff.mpr ⟨by decide, by decide⟩) rfl dL_hour_18 ?_
  refine lv_bipush (v := 24) hx hb dL_hour_19 (by decide) ?_
  refine lv_irem hx hb dL_hour_21 (by decide) ?_
  refine lv_istore (lv' := [(5, .int ((xq.2 0 (ix 7)) - (xq.2 0 (ix 7)) / 24 * 24)), (4, .int (pL_rains (xq.2 0 (ix 7)) xq)), (3, .int (pL_ahead xq)), (0, .ref (h 1)), (1, .ref (h 2)), (2, .ref (h 3))]) hx hb dL_hour_22 hl (by decide) rfl (fun ls hl => ?_)
  refine lv_sipush (v := 4095) hx hb dL_hour_24 (by decide) ?_
  refine lv_istore (lv' := [(6, .int 4095), (5, .int ((xq.2 0 (ix 7)) - (xq.2 0 (ix 7)) / 24 * 24)), (4, .int (pL_rains (xq.2 0 (ix 7)) xq)), (3, .int (pL_ahead xq)), (0, .ref (h 1)), (1, .ref (h 2)), (2, .ref (h 3))]) hx hb dL_hour_27 hl (by decide) rfl (fun ls hl => ?_)
  refine lv_iconst (v := 0) hx hb dL_hour_29 (by decide) ?_
  refine lv_istore (lv' := [(7, .int 0), (6, .int 4095), (5, .int ((xq.2 0 (ix 7)) - (xq.2 0 (ix 7)) / 24 * 24)), (4, .int (pL_rains (xq.2 0 (ix 7)) xq)), (3, .int (pL_ahead xq)), (0, .ref (h 1)), (1, .ref (h 2)), (2, .ref (h 3))]) hx hb dL_hour_30 hl (by decide) rfl (fun ls hl => ?_)
  refine lv_iconst (v := 0) hx hb dL_hour_32 (by decide) ?_
  refine lv_istore (lv' := [(8, .int 0), (7, .int 0), (6, .int 4095), (5, .int ((xq.2 0 (ix 7)) - (xq.2 0 (ix 7)) / 24 * 24)), (4, .int (pL_rains (xq.2 0 (ix 7)) xq)), (3, .int (pL_ahead xq)), (0, .ref (h 1)), (1, .ref (h 2)), (2, .ref (h 3))]) hx hb dL_hour_33 hl (by decide) rfl (fun ls hl => ?_)
  refine lv_iconst (v := 0) hx hb dL_hour_35 (by decide) ?_
  refine lv_istore (lv' := [(9, .int 0), (8, .int 0), (7, .int 0), (6, .int 4095), (5, .int ((xq.2 0 (ix 7)) - (xq.2 0 (ix 7)) / 24 * 24)), (4, .int (pL_rains (xq.2 0 (ix 7)) xq)), (3, .int (pL_ahead xq)), (0, .ref (h 1)), (1, .ref (h 2)), (2, .ref (h 3))]) hx hb dL_hour_36 hl (by decide) rfl (fun ls hl => ?_)
  refine lp_38 (pL_ahead xq) (pL_rains (xq.2 0 (ix 7)) xq) ((xq.2 0 (ix 7)) - (xq.2 0 (ix 7)) / 24 * 24) 0 0 6 4095 0 xq (by first | decide | omega | assumption) (by first | decide | omega | assumption) (by first | decide | omega | assumption) (by decide) (fun t et H locs ls hP hD hS hl => ?_) _ _ _ hP hD hS (lv_sub hl [7, 8, 9, 6, 5, 4, 3, 2, 1, 0] rfl)
  have et : t = (pL_hour_E38 xq) := et
  subst et
  refine lv_iconst (v := 0) hx hb dL_hour_337 (by decide) ?_
  refine lv_istore (lv' := [(9, .int 0), (0, .ref (h 1)), (1, .ref (h 2)), (2, .ref (h 3)), (3, .int (pL_ahead xq)), (4, .int (pL_rains (xq.2 0 (ix 7)) xq)), (5, .int ((xq.2 0 (ix 7)) - (xq.2 0 (ix 7)) / 24 * 24)), (7, .int 0), (8, .int 0)]) hx hb dL_hour_338 hl (by decide) rfl (fun ls hl => ?_)
  refine lp_340 (pL_ahead xq) (pL_rains (xq.2 0 (ix 7)) xq) ((xq.2 0 (ix 7)) - (xq.2 0 (ix 7)) / 24 * 24) 0 6 0 0 (pL_hour_E38 xq) (by exact HQ_E38 q_0) (by decide) (by decide) (by decide) (fun t et H locs ls hP hD hS hl => ?_) _ _ _ hP hD hS (lv_sub hl [1, 2, 3, 4, 5, 6, 7, 8, 0] rfl)
  have et : t = (pL_hour_E340 xq) := et
  subst et
  refine lv_iconst (v := 0) hx hb dL_hour_368 (by decide) ?_
  refine lv_istore (lv' := [(9, .int 0), (0, .ref (h 1)), (1, .ref (h 2)), (2, .ref (h 3)), (3, .int (pL_ahead xq)), (4, .int (pL_rains (xq.2 0 (ix 7)) xq)), (5, .int ((xq.2 0 (ix 7)) - (xq.2 0 (ix 7)) / 24 * 24)), (7, .int 0), (8, .int (pL_hour_E340 xq))]) hx hb dL_hour_369 hl (by decide) rfl (fun ls hl => ?_)
  refine lp_371 (pL_ahead xq) (pL_rains (xq.2 0 (ix 7)) xq) ((xq.2 0 (ix 7)) - (xq.2 0 (ix 7)) / 24 * 24) (pL_hour_E340 xq) 13 0 0 (pL_hour_E38 xq) (by exact HQ_E38 q_0) (by decide) (by decide) (by decide) (fun t et H locs ls hP hD hS hl => ?_) _ _ _ hP hD hS (lv_sub hl [1, 2, 3, 4, 5, 6, 7, 8, 0] rfl)
  have et : t = (pL_hour_E371 xq) := et
  subst et
  refine lv_aload_n hx hb dL_hour_666 rfl (lv_at hl 0 rfl) ?_
  refine lv_bipush (v := 9) hx hb dL_hour_667 (by decide) ?_
  refine lv_dup2_11 hx hb dL_hour_669 rfl rfl ?_
  refine qa_ld (v := ((pL_hour_E371 xq).2).2 0 (ix 9)) hx hb hK hP 0 rfl (vp_in_iff.mpr ⟨by decide, by decide⟩) rfl dL_hour_670 ?_
  refine lv_iload hx hb dL_hour_671 (lv_at hl 7 rfl) ?_
  refine lv_iadd hx hb dL_hour_673 ?_
  refine qa_st hx hb hK hP hD hS 0 rfl (vp_in_iff.mpr ⟨by decide, by decide⟩) dL_hour_674 (fun H locs hP hD hS => ?_)
  refine lv_aload_n hx hb dL_hour_675 rfl (lv_at hl 0 rfl) ?_
  refine lv_bipush (v := 7) hx hb dL_hour_676 (by decide) ?_
  refine lv_dup2_11 hx hb dL_hour_678 rfl rfl ?_
  refine qa_ld (v := (pR ((pL_hour_E371 xq).2) 0 9 ((((pL_hour_E371 xq).2).2 0 (ix 9)) + ((pL_hour_E371 xq).1))).2 0 (ix 7)) hx hb hK hP 0 rfl (vp_in_iff.mpr ⟨by decide, by decide⟩) rfl dL_hour_679 ?_
  refine lv_iconst (v := 1) hx hb dL_hour_680 (by decide) ?_
  refine lv_iadd hx hb dL_hour_681 ?_
  refine qa_st hx hb hK hP hD hS 0 rfl (vp_in_iff.mpr ⟨by decide, by decide⟩) dL_hour_682 (fun H locs hP hD hS => ?_)
  refine lv_iload hx hb dL_hour_683 (lv_at hl 7 rfl) ?_
  exact rt_e (fun r => r.1) (fun r => (wQ cI h (r.2))) hx hb hr hlocks hP hD hS rfl (show pL_hour xq = (((pL_hour_E371 xq).1), (pR (pR ((pL_hour_E371 xq).2) 0 9 ((((pL_hour_E371 xq).2).2 0 (ix 9)) + ((pL_hour_E371 xq).1))) 0 7 (((pR ((pL_hour_E371 xq).2) 0 9 ((((pL_hour_E371 xq).2).2 0 (ix 9)) + ((pL_hour_E371 xq).1))).2 0 (ix 7)) + 1))) by rw [pL_hour]) rfl dL_hour_685
