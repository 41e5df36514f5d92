def pL_same_J92s0 (w8 : Int32) (v11 : Int32) (xq : SR) : Int32 := if (xq.2 2 (ix (5 * v11))) = w8 then 1
  else 0
def pL_same_L65 (w8 : Int32) : Nat → Int32 → Int32 → SR → (Int32)
  | 0, v10, v11, xq => v10
  | n + 1, v10, v11, xq => if (xq.2 0 (ix 11)) ≤ v11 then v10
    else pL_same_L65 w8 n (v10 + (pL_same_J92s0 w8 v11 xq)) (v11 + 1) xq
def pL_same_E65 (v8 : Int32) (xq : SR) : Int32 := pL_same_L65 v8 6 0 0 xq
def pL_same_J160s0 (v8 : Int32) (xq : SR) : Int32 := if (xq.2 1 (ix ((5 * v8) + 2))) = 2 then 0
  else if (xq.2 1 (ix ((5 * v8) + 2))) = 0 then 1
    else if (pL_ahead xq) = 0 then 2
      else if (xq.2 0 (ix 11)) = 0 then 3
        else if (pL_same_E65 v8 xq) = 0 then 4
          else 5
def pL_same_L165 (w8 : Int32) (w9 : Int32) : Nat → Int32 → TV → SR → (Int32)
  | 0, v12, xt, xq => 0
  | n + 1, v12, xt, xq => if 5 ≤ v12 then (1 : Int32)
    else if (pX2_of w8 v12 xt) = (xq.2 1 (ix (w9 + v12))) then pL_same_L165 w8 w9 n (v12 + 1) xt xq
      else (0 : Int32)
def pL_same_E165 (v8 : Int32) (xt : TV) (xq : SR) : Int32 := pL_same_L165 v8 (5 * v8) 6 0 xt xq
def pL_same_J251s0 (v8 : Int32) (xq : SR) : Int32 := if (xq.2 1 (ix ((5 * v8) + 2))) = 2 then (1 <<< (v8 &&& 31))
  else 0
def pL_same_J274s0 (v8 : Int32) (xq : SR) : Int32 := if (xq.2 1 (ix ((5 * v8) + 2))) = 1 then (1 <<< (v8 &&& 31))
  else 0
def pL_same_J318s0 (v7 : Int32) (v8 : Int32) (xq : SR) : Int32 := if v7 < 0 then v8
  else if ((xq.2 1 (ix (5 * v7))) - (xq.2 1 (ix ((5 * v7) + 1)))) ≤ ((xq.2 1 (ix (5 * v8))) - (xq.2 1 (ix ((5 * v8) + 1)))) then v7
    else v8
def pL_same_L16 : Nat → Int32 → Int32 → Int32 → Int32 → Int32 → TV → SR → (Int32 × Int32 × Int32 × Int32 × Int32)
  | 0, v4, v5, v6, v7, v8, xt, xq => (0, v4, v5, v6, v7)
  | n + 1, v4, v5, v6, v7, v8, xt, xq => if 12 ≤ v8 then (1, v4, v5, v6, v7)
    else if 0 ≤ (xq.2 1 (ix (5 * v8))) then if (pL_same_E165 v8 xt xq) = 0 then (0, v4, v5, v6, v7)
        else if (pX2_of v8 5 xt) = (pL_same_E65 v8 xq) then if (pX2_why v8 xt) = (pL_same_J160s0 v8 xq) then pL_same_L16 n (v4 ||| (1 <<< (v8 &&& 31))) (v5 ||| (pL_same_J251s0 v8 xq)) (v6 ||| (pL_same_J274s0 v8 xq)) (pL_same_J318s0 v7 v8 xq) (v8 + 1) xt xq
            else (0, v4, v5, v6, v7)
          else (0, v4, v5, v6, v7)
      else if (pX2_of v8 0 xt) = (-1) then if (pX2_why v8 xt) = (-1) then pL_same_L16 n v4 v5 v6 v7 (v8 + 1) xt xq
          else (0, v4, v5, v6, v7)
        else (0, v4, v5, v6, v7)
def pL_same_E16 (xt : TV) (xq : SR) : Int32 × Int32 × Int32 × Int32 × Int32 := pL_same_L16 13 0 0 0 (-6) 0 xt xq
def pL_same_L341 (w8 : Int32) : Nat → Int32 → TV → SR → (Int32)
  | 0, v9, xt, xq => 0
  | n + 1, v9, xt, xq => if 5 ≤ v9 then (1 : Int32)
    else if (pX2_ofKeeper w8 v9 xt) = (xq.2 2 (ix ((5 * w8) + v9))) then pL_same_L341 w8 n (v9 + 1) xt xq
      else (0 : Int32)
def pL_same_E341 (v8 : Int32) (xt : TV) (xq : SR) : Int32 := pL_same_L341 v8 6 0 xt xq
def pL_same_L329 : Nat → Int32 → TV → SR → (Int32)
  | 0, v8, xt, xq => 0
  | n + 1, v8, xt, xq => if (xq.2 0 (ix 11)) ≤ v8 then (1 : Int32)
    else if (pL_same_E341 v8 xt xq) = 0 then (0 : Int32)
      else pL_same_L329 n (v8 + 1) xt xq
def pL_same_E329 (xt : TV) (xq : SR) : Int32 := pL_same_L329 6 0 xt xq
def pL_same_L384 : Nat → Int32 → TV → SR → (Int32)
  | 0, v8, xt, xq => 0
  | n + 1, v8, xt, xq => if 7 ≤ v8 then (1 : Int32)
    else if (pX2_count (10 + v8) xt) = (xq.2 0 (ix v8)) then pL_same_L384 n (v8 + 1) xt xq
      else (0 : Int32)
def pL_same_E384 (xt : TV) (xq : SR) : Int32 := pL_same_L384 8 0 xt xq
def pL_same_J449s0 (v8 : Int32) (v9 : Int32) (xq : SR) : Int32 := if (pL_rains ((xq.2 0 (ix 7)) + v9) xq) = 0 then v8
  else v9
def pL_same_L423 : Nat → Int32 → Int32 → SR → (Int32)
  | 0, v8, v9, xq => v8
  | n + 1, v8, v9, xq => if v9 < 0 then v8
    else pL_same_L423 n (pL_same_J449s0 v8 v9 xq) (v9 + (-1)) xq
def pL_same_E423 (xq : SR) : Int32 := pL_same_L423 25 (-6) 23 xq
def pL_same_J567s0 (xq : SR) : Int32 := if (pL_ahead xq) = 0 then 0
  else 1
def pL_same_J592s0 (xq : SR) : Int32 := if (pL_rains (xq.2 0 (ix 7)) xq) = 0 then 0
  else 1
def pL_same (xt : TV) (xq : SR) : Int32 := if ((pL_same_E16 xt xq).1) = 0 then 0
  else if (pL_same_E329 xt xq) = 0 then 0
    else if (pL_same_E384 xt xq) = 0 then 0
      else if (pX2_count 0 xt) = (xq.2 0 (ix 7)) then if (pX2_count 1 xt) = ((pL_same_E16 xt xq).2.1) then if (pX2_count 2 xt) = ((pL_same_E16 xt xq).2.2.1) then if (pX2_count 3 xt) = ((pL_same_E16 xt xq).2.2.2.1) then if (pX2_count 4 xt) = (xq.2 0 (ix 11)) then if (pX2_count 5 xt) = (xq.2 0 (ix 9)) then if (pX2_count 6 xt) = (xq.2 0 (ix 10)) then if (pX2_count 7 xt) = (xq.2 0 (ix 8)) then if (pX2_count 8 xt) = (pL_same_J567s0 xq) then if (pX2_count 9 xt) = (pL_same_J592s0 xq) then if (pX2_worst xt) = ((pL_same_E16 xt xq).2.2.2.2) then if (pX2_rainIn xt) = (pL_same_E423 xq) then if (pX2_ofKeeper (xq.2 0 (ix 11)) 0 xt) = (-1) then 1
                                else 0
                              else 0
                            else 0
                          else 0
                        else 0
                      else 0
                    else 0
                  else 0
                else 0
              else 0
            else 0
          else 0
        else 0
set_option maxHeartbeats 2000000 in
set_option maxRecDepth 100000 in
theorem ctL_same (l : Launch) (G : va_G) (cI cC cZ cR : ClassId) (ho : Nat → Nat) (hh : Nat → Ad) (hp h h2 : Ad) (xt : TV) (xq xk : SR) {B : Int} (q_0 : HQ B xq) (q_1 : B ≤ 100000) : Ct l yL_same wsL_same (rmz 3 64) G (TY cI cC cZ cR) [.ref (ho 0), .ref (h 1), .ref (h 2), .ref (h 3)] (wL cI cC cZ cR ho hh hp h h2 xt xq xk) (Qi G (wL cI cC cZ cR ho hh hp h h2 xt xq xk) (pL_same xt xq) (wL cI cC cZ cR ho hh hp h h2 xt xq xk)) := by
  refine Ct.ofI (cc := cL_same) (maxL := 13) (ret := (some .boolean)) (by decide) rfl rfl ?_
  intro p e s m below meth c A ls E0 hP hD hS hl
  obtain ⟨hx, hb, hr, hml, hlocks, hts, hown, hK, hN, hA⟩ := E0
  have hl : lv_has ls 13 [(0, .ref (ho 0)), (1, .ref (h 1)), (2, .ref (h 2)), (3, .ref (h 3))] := hl
  obtain ⟨⟨hq1, hq2⟩, ⟨hq3, hq4⟩, ⟨hq5, hq6⟩, ⟨hq7, hq8⟩, hq9⟩ := id q_0
  have lp_65 : ∀ (w4 : Int32) (w5 : Int32) (w6 : Int32) (w7 : Int32) (w8 : Int32) (w9 : Int32) (n : Nat) (v10 : Int32) (v11 : Int32), 0 ≤ Int32.toInt v11 → Int32.toInt v11 ≤ 5 → 5 - Int32.toInt v11 < (n : Int) → (∀ t : Int32, t = pL_same_L65 w8 n v10 v11 xq → ∀ (H : Heap) (locs : List Loc) (ls : Array Slot), va_P G vwCl (wL cI cC cZ cR ho hh hp h h2 xt xq xk) H → va_D A (wL cI cC cZ cR ho hh hp h h2 xt xq xk) → va_S A s.heap H locs → lv_has ls 13 [(0, .ref (ho 0)), (1, .ref (h 1)), (2, .ref (h 2)), (3, .ref (h 3)), (4, .int w4), (5, .int w5), (6, .int w6), (7, .int w7), (8, .int w8), (9, .int w9), (10, .int t)] → W p l e (rmz 3 64) s m ([.ref (ho 0), .ref (h 1), .ref (h 2), .ref (h 3)] : List Value).toArray below meth c H locs 0 0 (MQ below (QiA G A (pL_same xt xq) (wL cI cC cZ cR ho hh hp h h2 xt xq xk)) ([.ref (ho 0), .ref (h 1), .ref (h 2), .ref (h 3)] : List Value).toArray s 0 0 A) (F0 m 101 ls [])) → ∀ (H : Heap) (locs : List Loc) (ls : Array Slot), va_P G vwCl (wL cI cC cZ cR ho hh hp h h2 xt xq xk) H → va_D A (wL cI cC cZ cR ho hh hp h h2 xt xq xk) → va_S A s.heap H locs → lv_has ls 13 [(0, .ref (ho 0)), (1, .ref (h 1)), (2, .ref (h 2)), (3, .ref (h 3)), (4, .int w4), (5, .int w5), (6, .int w6), (7, .int w7), (8, .int w8), (9, .int w9), (10, .int v10), (11, .int v11)] → W p l e (rmz 3 64) s m ([.ref (ho 0), .ref (h 1), .ref (h 2), .ref (h 3)] : List Value).toArray below meth c H locs 0 0 (MQ below (QiA G A (pL_same xt xq) (wL cI cC cZ cR ho hh hp h h2 xt xq xk)) ([.ref (ho 0), .ref (h 1), .ref (h 2), .ref (h 3)] : List Value).toArray s 0 0 A) (F0 m 65 ls []) := by
    intro w4 w5 w6 w7 w8 w9 n
    induction n with
    | zero =>
      intro v10 v11 g_0 g_1 hm
      exfalso; omega
    | succ n ih =>
      intro v10 v11 g_0 g_1 hm hKK H locs ls hP hD hS hl
      refine lv_iload hx hb dL_same_65 (lv_at hl 11 rfl) ?_
      refine lv_aload_n hx hb dL_same_67 rfl (lv_at hl 1 rfl) ?_
      refine lv_bipush (v := 11) hx hb dL_same_68 (by decide) ?_
      refine la_ld1 (v := xq.2 0 (ix 11)) hx hb hK hP 0 rfl (vp_in_iff.mpr ⟨by decide, by decide⟩) rfl dL_same_70 ?_
      refine lv_icmp_ge (tgt := 101) hx hb dL_same_71 (by decide) (fun c_3 => ?_) (fun c_3 => ?_)
      · have t_3 := i_le (z := (Int32.toInt (xq.2 0 (ix 11)))) (w := (Int32.toInt v11)) c_3 rfl rfl
        exact hKK v10 (show pL_same_L65 w8 (n + 1) v10 v11 xq = v10 by rw [pL_same_L65, if_pos c_3]).symm _ _ _ hP hD hS (lv_sub hl [0, 1, 2, 3, 4, 5, 6, 7, 8, 9, 10] rfl)
      · have t_3 := i_nle (z := (Int32.toInt (xq.2 0 (ix 11)))) (w := (Int32.toInt v11)) c_3 rfl rfl
        refine lv_iload hx hb dL_same_74 (lv_at hl 10 rfl) ?_
        refine lv_aload_n hx hb dL_same_76 rfl (lv_at hl 3 rfl) ?_
        refine lv_iconst (v := 5) hx hb dL_same_77 (by decide) ?_
        refine lv_iload hx hb dL_same_78 (lv_at hl 11 rfl) ?_
        refine lv_imul hx hb dL_same_80 ?_
        refine la_ld1 (v := xq.2 2 (ix (5 * v11))) hx hb hK hP 2 rfl (e5_in (n := 5) (by first | with_reducible assumption | exact vp_in_iff.mpr ⟨by decide, by decide⟩ | exact vp_in_iff.mpr ⟨by omega, by omega⟩)) rfl dL_same_81 ?_
        refine lv_iload hx hb dL_same_82 (lv_at hl 8 rfl) ?_
        have j_8 : ∀ (u8_0 : Int32), u8_0 = (pL_same_J92s0 w8 v11 xq) → ∀ (H : Heap) (locs : List Loc) (ls : Array Slot), va_P G vwCl (wL cI cC cZ cR ho hh hp h h2 xt xq xk) H → va_D A (wL cI cC cZ cR ho hh hp h h2 xt xq xk) → va_S A s.heap H locs → lv_has ls 13 [(0, .ref (ho 0)), (1, .ref (h 1)), (2, .ref (h 2)), (3, .ref (h 3)), (4, .int w4), (5, .int w5), (6, .int w6), (7, .int w7), (8, .int w8), (9, .int w9), (10, .int v10), (11, .int v11)] → W p l e (rmz 3 64) s m ([.ref (ho 0), .ref (h 1), .ref (h 2), .ref (h 3)] : List Value).toArray below meth c H locs 0 0 (MQ below (QiA G A (pL_same xt xq) (wL cI cC cZ cR ho hh hp h h2 xt xq xk)) ([.ref (ho 0), .ref (h 1), .ref (h 2), .ref (h 3)] : List Value).toArray s 0 0 A) (F0 m 92 ls [.int u8_0, .int v10]) := by
          intro u8_0 e0 H locs ls hP hD hS hl
          subst e0
          refine lv_iadd hx hb dL_same_92 ?_
          refine lv_istore (lv' := [(10, .int (v10 + (pL_same_J92s0 w8 v11 xq))), (0, .ref (ho 0)), (1, .ref (h 1)), (2, .ref (h 2)), (3, .ref (h 3)), (4, .int w4), (5, .int w5), (6, .int w6), (7, .int w7), (8, .int w8), (9, .int w9), (11, .int v11)]) hx hb dL_same_93 hl (by decide) rfl (fun ls hl => ?_)
          refine lv_iinc (v := (v11 + 1)) (lv' := [(11, .int (v11 + 1)), (10, .int (v10 + (pL_same_J92s0 w8 v11 xq))), (0, .ref (ho 0)), (1, .ref (h 1)), (2, .ref (h 2)), (3, .ref (h 3)), (4, .int w4), (5, .int w5), (6, .int w6), (7, .int w7), (8, .int w8), (9, .int w9)]) hx hb dL_same_95 hl (k := 11) rfl rfl (by decide) rfl (fun ls hl => ?_)
          have a_95 := i_add1 (a := v11) (by omega) (by omega)
          refine lv_goto (tgt := 65) hx hb dL_same_98 (by decide) ?_
          exact ih (v10 + (pL_same_J92s0 w8 v11 xq)) (v11 + 1) (by omega) (by omega) (by omega) (fun t et => hKK t (et.trans (show pL_same_L65 w8 (n + 1) v10 v11 xq = pL_same_L65 w8 n (v10 + (pL_same_J92s0 w8 v11 xq)) (v11 + 1) xq by rw [pL_same_L65, if_neg c_3]).symm)) _ _ _ hP hD hS (lv_sub hl [2, 3, 4, 5, 6, 7, 8, 9, 10, 11, 1, 0] rfl)
        refine lv_icmp_ne (tgt := 91) hx hb dL_same_84 (by decide) (fun c_4 => ?_) (fun c_4 => ?_)
        · refine lv_iconst (v := 0) hx hb dL_same_91 (by decide) ?_
          exact j_8 0 (by rw [pL_same_J92s0, if_neg c_4]) _ _ _ hP hD hS (lv_sub hl [0, 1, 2, 3, 4, 5, 6, 7, 8, 9, 10, 11] rfl)
        · refine lv_iconst (v := 1) hx hb dL_same_87 (by decide) ?_
          refine lv_goto (tgt := 92) hx hb dL_same_88 (by decide) ?_
          exact j_8 1 (by rw [pL_same_J92s0, if_pos c_4]) _ _ _ hP hD hS (lv_sub hl [0, 1, 2, 3, 4, 5, 6, 7, 8, 9, 10, 11] rfl)
  have lp_165 : ∀ (w4 : Int32) (w5 : Int32) (w6 : Int32) (w7 : Int32) (w8 : Int32) (w9 : Int32) (w10 : Int32) (w11 : Int32) (n : Nat) (v12 : Int32), w9 = 5 * w8 → 0 ≤ Int32.toInt w8 → Int32.toInt w8 < 12 → 0 ≤ Int32.toInt v12 → Int32.toInt v12 ≤ 5 → 5 - Int32.toInt v12 < (n : Int) → ((pL_same_L165 w8 w9 n v12 xt xq) = 0 → pL_same xt xq = 0) → (∀ t : Int32, t = pL_same_L165 w8 w9 n v12 xt xq → t = 1 → ∀ (H : Heap) (locs : List Loc) (ls : Array Slot), va_P G vwCl (wL cI cC cZ cR ho hh hp h h2 xt xq xk) H → va_D A (wL cI cC cZ cR ho hh hp h h2 xt xq xk) → va_S A s.heap H locs → lv_has ls 13 [(0, .ref (ho 0)), (1, .ref (h 1)), (2, .ref (h 2)), (3, .ref (h 3)), (4, .int w4), (5, .int w5), (6, .int w6), (7, .int w7), (8, .int w8), (9, .int w9), (10, .int w10), (11, .int w11)] → W p l e (rmz 3 64) s m ([.ref (ho 0), .ref (h 1), .ref (h 2), .ref (h 3)] : List Value).toArray below meth c H locs 0 0 (MQ below (QiA G A (pL_same xt xq) (wL cI cC cZ cR ho hh hp h h2 xt xq xk)) ([.ref (ho 0), .ref (h 1), .ref (h 2), .ref (h 3)] : List Value).toArray s 0 0 A) (F0 m 197 ls [])) → ∀ (H : Heap) (locs : List Loc) (ls : Array Slot), va_P G vwCl (wL cI cC cZ cR ho hh hp h h2 xt xq xk) H → va_D A (wL cI cC cZ cR ho hh hp h h2 xt xq xk) → va_S A s.heap H locs → lv_has ls 13 [(0, .ref (ho 0)), (1, .ref (h 1)), (2, .ref (h 2)), (3, .ref (h 3)), (4, .int w4), (5, .int w5), (6, .int w6), (7, .int w7), (8, .int w8), (9, .int w9), (10, .int w10), (11, .int w11), (12, .int v12)] → W p l e (rmz 3 64) s m ([.ref (ho 0), .ref (h 1), .ref (h 2), .ref (h 3)] : List Value).toArray below meth c H locs 0 0 (MQ below (QiA G A (pL_same xt xq) (wL cI cC cZ cR ho hh hp h h2 xt xq xk)) ([.ref (ho 0), .ref (h 1), .ref (h 2), .ref (h 3)] : List Value).toArray s 0 0 A) (F0 m 165 ls []) := by
    intro w4 w5 w6 w7 w8 w9 w10 w11 n
    induction n with
    | zero =>
      intro v12 g_0 g_1 g_2 g_3 g_4 hm
      exfalso; omega
    | succ n ih =>
      intro v12 g_0 g_1 g_2 g_3 g_4 hm hKR hKK H locs ls hP hD hS hl
      refine lv_iload hx hb dL_same_165 (lv_at hl 12 rfl) ?_
      refine lv_iconst (v := 5) hx hb dL_same_167 (by decide) ?_
      refine lv_icmp_ge (tgt := 197) hx hb dL_same_168 (by decide) (fun c_10 => ?_) (fun c_10 => ?_)
      · have t_10 := i_le (z := (5)) (w := (Int32.toInt v12)) c_10 (by decide) rfl
        exact hKK 1 (show pL_same_L165 w8 w9 (n + 1) v12 xt xq = 1 by rw [pL_same_L165, if_pos c_10]).symm rfl _ _ _ hP hD hS (lv_sub hl [0, 1, 2, 3, 4, 5, 6, 7, 8, 9, 10, 11] rfl)
      · have t_10 := i_nle (z := (5)) (w := (Int32.toInt v12)) c_10 (by decide) rfl
        refine lv_aload_n hx hb dL_same_171 rfl (lv_at hl 0 rfl) ?_
        refine lv_iload hx hb dL_same_172 (lv_at hl 8 rfl) ?_
        refine lv_iload hx hb dL_same_174 (lv_at hl 12 rfl) ?_
        refine gL_p wL_X wL_X hP hD hS hA (lr_V (As := [.int w8, .int v12]) (rest := []) ⟨hx, hb, hml, hown, hts⟩ (ctX2_of l G cI cC cZ cR ho hh hp xt w8 v12) (cwV 2 hts gL_same_X2_of rfl rfl rfl (by decide +kernel) ⟨Nat.le_of_ble_eq_true rfl, Nat.le_of_ble_eq_true rfl⟩) (tx_recv hK (xL hP)) hK (xL hP) (xLD hD) hN rfl hl.1 rfl (Nat.le_of_ble_eq_true rfl) dL_same_176 (Nat.zero_le _) (Nat.zero_le _)) (fun H locs hP hD hS => ?_)
        refine lv_aload_n hx hb dL_same_179 rfl (lv_at hl 2 rfl) ?_
        refine lv_iload hx hb dL_same_180 (lv_at hl 9 rfl) ?_
        refine lv_iload hx hb dL_same_182 (lv_at hl 12 rfl) ?_
        refine lv_iadd hx hb dL_same_184 ?_
        refine la_ld1 (v := xq.2 1 (ix (w9 + v12))) hx hb hK hP 1 rfl (by rw [g_0]; exact e5_add (n := 12) (vp_in_iff.mpr ⟨by omega, by omega⟩) (vp_in_iff.mpr ⟨by omega, by omega⟩)) rfl dL_same_185 ?_
        refine lv_icmp_eq (tgt := 191) hx hb dL_same_186 (by decide) (fun c_11 => ?_) (fun c_11 => ?_)
        · refine lv_iinc (v := (v12 + 1)) (lv' := [(12, .int (v12 + 1)), (0, .ref (ho 0)), (1, .ref (h 1)), (2, .ref (h 2)), (3, .ref (h 3)), (4, .int w4), (5, .int w5), (6, .int w6), (7, .int w7), (8, .int w8), (9, .int w9), (10, .int w10), (11, .int w11)]) hx hb dL_same_191 hl (k := 12) rfl rfl (by decide) rfl (fun ls hl => ?_)
          have a_191 := i_add1 (a := v12) (by omega) (by omega)
          refine lv_goto (tgt := 165) hx hb dL_same_194 (by decide) ?_
          exact ih (v12 + 1) (by exact g_0) (by exact g_1) (by exact g_2) (by omega) (by omega) (by omega) (fun q => hKR ((show pL_same_L165 w8 w9 (n + 1) v12 xt xq = pL_same_L165 w8 w9 n (v12 + 1) xt xq by rw [pL_same_L165, if_neg c_10, if_pos c_11]).trans q)) (fun t et => hKK t (et.trans (show pL_same_L165 w8 w9 (n + 1) v12 xt xq = pL_same_L165 w8 w9 n (v12 + 1) xt xq by rw [pL_same_L165, if_neg c_10, if_pos c_11]).symm)) _ _ _ hP hD hS (lv_sub hl [1, 2, 3, 4, 5, 6, 7, 8, 9, 10, 11, 12, 0] rfl)
        · refine lv_iconst (v := 0) hx hb dL_same_189 (by decide) ?_
          exact rt_i hx hb hr hlocks hP hD hS rfl (hKR (show pL_same_L165 w8 w9 (n + 1) v12 xt xq = 0 by rw [pL_same_L165, if_neg c_10, if_neg c_11])).symm dL_same_190
  have lp_16 : ∀ (n : Nat) (v4 : Int32) (v5 : Int32) (v6 : Int32) (v7 : Int32) (v8 : Int32), 0 ≤ Int32.toInt v8 → Int32.toInt v8 ≤ 12 → Int32.toInt v7 < 12 → 12 - Int32.toInt v8 < (n : Int) → ((pL_same_L16 n v4 v5 v6 v7 v8 xt xq).1 = 0 → pL_same xt xq = 0) → (∀ t : Int32 × Int32 × Int32 × Int32 × Int32, t = pL_same_L16 n v4 v5 v6 v7 v8 xt xq → t.1 = 1 → ∀ (H : Heap) (locs : List Loc) (ls : Array Slot), va_P G vwCl (wL cI cC cZ cR ho hh hp h h2 xt xq xk) H → va_D A (wL cI cC cZ cR ho hh hp h h2 xt xq xk) → va_S A s.heap H locs → lv_has ls 13 [(0, .ref (ho 0)), (1, .ref (h 1)), (2, .ref (h 2)), (3, .ref (h 3)), (4, .int (t.2.1)), (5, .int (t.2.2.1)), (6, .int (t.2.2.2.1)), (7, .int (t.2.2.2.2))] → W p l e (rmz 3 64) s m ([.ref (ho 0), .ref (h 1), .ref (h 2), .ref (h 3)] : List Value).toArray below meth c H locs 0 0 (MQ below (QiA G A (pL_same xt xq) (wL cI cC cZ cR ho hh hp h h2 xt xq xk)) ([.ref (ho 0), .ref (h 1), .ref (h 2), .ref (h 3)] : List Value).toArray s 0 0 A) (F0 m 326 ls [])) → ∀ (H : Heap) (locs : List Loc) (ls : Array Slot), va_P G vwCl (wL cI cC cZ cR ho hh hp h h2 xt xq xk) H → va_D A (wL cI cC cZ cR ho hh hp h h2 xt xq xk) → va_S A s.heap H locs → lv_has ls 13 [(0, .ref (ho 0)), (1, .ref (h 1)), (2, .ref (h 2)), (3, .ref (h 3)), (4, .int v4), (5, .int v5), (6, .int v6), (7, .int v7), (8, .int v8)] → W p l e (rmz 3 64) s m ([.ref (ho 0), .ref (h 1), .ref (h 2), .ref (h 3)] : List Value).toArray below meth c H locs 0 0 (MQ below (QiA G A (pL_same xt xq) (wL cI cC cZ cR ho hh hp h h2 xt xq xk)) ([.ref (ho 0), .ref (h 1), .ref (h 2), .ref (h 3)] : List Value).toArray s 0 0 A) (F0 m 16 ls []) := by
    intro n
    induction n with
    | zero =>
      intro v4 v5 v6 v7 v8 g_0 g_1 g_2 hm
      exfalso; omega
    | succ n ih =>
      intro v4 v5 v6 v7 v8 g_0 g_1 g_2 hm hKR hKK H locs ls hP hD hS hl
      refine lv_iload hx hb dL_same_16 (lv_at hl 8 rfl) ?_
      refine lv_bipush (v := 12) hx hb dL_same_18 (by decide) ?_
      refine lv_icmp_ge (tgt := 326) hx hb dL_same_20 (by decide) (fun c_1 => ?_) (fun c_1 => ?_)
      · have t_1 := i_le (z := (12)) (w := (Int32.toInt v8)) c_1 (by decide) rfl
        exact hKK (1, v4, v5, v6, v7) (show pL_same_L16 (n + 1) v4 v5 v6 v7 v8 xt xq = (1, v4, v5, v6, v7) by rw [pL_same_L16, if_pos c_1]).symm rfl _ _ _ hP hD hS (lv_sub hl [0, 1, 2, 3, 4, 5, 6, 7] rfl)
      · have t_1 := i_nle (z := (12)) (w := (Int32.toInt v8)) c_1 (by decide) rfl
        refine lv_iconst (v := 5) hx hb dL_same_23 (by decide) ?_
        refine lv_iload hx hb dL_same_24 (lv_at hl 8 rfl) ?_
        refine lv_imul hx hb dL_same_26 ?_
        refine lv_istore (lv' := [(9, .int (5 * v8)), (0, .ref (ho 0)), (1, .ref (h 1)), (2, .ref (h 2)), (3, .ref (h 3)), (4, .int v4), (5, .int v5), (6, .int v6), (7, .int v7), (8, .int v8)]) hx hb dL_same_27 hl (by decide) rfl (fun ls hl => ?_)
        refine lv_aload_n hx hb dL_same_29 rfl (lv_at hl 3 rfl) ?_
        refine lv_iload hx hb dL_same_30 (lv_at hl 0 rfl) ?_
        refine la_ld1 (v := xq.2 1 (ix (5 * v8))) hx hb hK hP 1 rfl (e5_in (n := 12) (by first | with_reducible assumption | exact vp_in_iff.mpr ⟨by decide, by decide⟩ | exact vp_in_iff.mpr ⟨by omega, by omega⟩)) rfl dL_same_32 ?_
        refine lv_if_ge (tgt := 59) hx hb dL_same_33 (by decide) (fun c_2 => ?_) (fun c_2 => ?_)
        · have t_2 := i_le (z := (0)) (w := (Int32.toInt (xq.2 1 (ix (5 * v8))))) c_2 (by decide) rfl
          refine lv_iconst (v := 0) hx hb dL_same_59 (by decide) ?_
          refine lv_istore (lv' := [(10, .int 0), (9, .int (5 * v8)), (0, .ref (ho 0)), (1, .ref (h 1)), (2, .ref (h 2)), (3, .ref (h 3)), (4, .int v4), (5, .int v5), (6, .int v6), (7, .int v7), (8, .int v8)]) hx hb dL_same_60 hl (by decide) rfl (fun ls hl => ?_)
          refine lv_iconst (v := 0) hx hb dL_same_62 (by decide) ?_
          refine lv_istore (lv' := [(11, .int 0), (10, .int 0), (9, .int (5 * v8)), (0, .ref (ho 0)), (1, .ref (h 1)), (2, .ref (h 2)), (3, .ref (h 3)), (4, .int v4), (5, .int v5), (6, .int v6), (7, .int v7), (8, .int v8)]) hx hb dL_same_63 hl (by decide) rfl (fun ls hl => ?_)
          refine lp_65 v4 v5 v6 v7 v8 (5 * v8) 6 0 0 (by first | decide | omega | assumption) (by first | decide | omega | assumption) (by decide) (fun t et H locs ls hP hD hS hl => ?_) _ _ _ hP hD hS (lv_sub hl [3, 4, 5, 6, 7, 8, 9, 10, 11, 2, 1, 0] rfl)
          have et : t = (pL_same_E65 v8 xq) := et
          subst et
          refine lv_aload_n hx hb dL_same_101 rfl (lv_at hl 2 rfl) ?_
          refine lv_iload hx hb dL_same_102 (lv_at hl 9 rfl) ?_
          refine lv_iconst (v := 2) hx hb dL_same_104 (by decide) ?_
          refine lv_iadd hx hb dL_same_105 ?_
          refine la_ld1 (v := xq.2 1 (ix ((5 * v8) + 2))) hx hb hK hP 1 rfl (e5_add (n := 12) (by first | with_reducible assumption | exact vp_in_iff.mpr ⟨by decide, by decide⟩ | exact vp_in_iff.mpr ⟨by omega, by omega⟩) (by first | with_reducible assumption | exact vp_in_iff.mpr ⟨by decide, by decide⟩ | exact vp_in_iff.mpr ⟨by omega, by omega⟩)) rfl dL_same_106 ?_
          refine lv_iconst (v := 2) hx hb dL_same_107 (by decide) ?_
          have j_9 : ∀ (u9_0 : Int32), u9_0 = (pL_same_J160s0 v8 xq) → ∀ (H : Heap) (locs : List Loc) (ls : Array Slot), va_P G vwCl (wL cI cC cZ cR ho hh hp h h2 xt xq xk) H → va_D A (wL cI cC cZ cR ho hh hp h h2 xt xq xk) → va_S A s.heap H locs → lv_has ls 13 [(0, .ref (ho 0)), (1, .ref (h 1)), (2, .ref (h 2)), (3, .ref (h 3)), (4, .int v4), (5, .int v5), (6, .int v6), (7, .int v7), (8, .int v8), (9, .int (5 * v8)), (10, .int (pL_same_E65 v8 xq))] → W p l e (rmz 3 64) s m ([.ref (ho 0), .ref (h 1), .ref (h 2), .ref (h 3)] : List Value).toArray below meth c H locs 0 0 (MQ below (QiA G A (pL_same xt xq) (wL cI cC cZ cR ho hh hp h h2 xt xq xk)) ([.ref (ho 0), .ref (h 1), .ref (h 2), .ref (h 3)] : List Value).toArray s 0 0 A) (F0 m 160 ls [.int u9_0]) := by
            intro u9_0 e0 H locs ls hP hD hS hl
            subst e0
            refine lv_istore (lv' := [(11, .int (pL_same_J160s0 v8 xq)), (0, .ref (ho 0)), (1, .ref (h 1)), (2, .ref (h 2)), (3, .ref (h 3)), (4, .int v4), (5, .int v5), (6, .int v6), (7, .int v7), (8, .int v8), (9, .int (5 * v8)), (10, .int (pL_same_E65 v8 xq))]) hx hb dL_same_160 hl (by decide) rfl (fun ls hl => ?_)
            refine lv_iconst (v := 0) hx hb dL_same_162 (by decide) ?_
            refine lv_istore (lv' := [(12, .int 0), (11, .int (pL_same_J160s0 v8 xq)), (0, .ref (ho 0)), (1, .ref (h 1)), (2, .ref (h 2)), (3, .ref (h 3)), (4, .int v4), (5, .int v5), (6, .int v6), (7, .int v7), (8, .int v8), (9, .int (5 * v8)), (10, .int (pL_same_E65 v8 xq))]) hx hb dL_same_163 hl (by decide) rfl (fun ls hl => ?_)
            refine lp_165 v4 v5 v6 v7 v8 (5 * v8) (pL_same_E65 v8 xq) (pL_same_J160s0 v8 xq) 6 0 (by rfl) (by omega) (by omega) (by decide) (by decide) (by decide) (fun (q : (pL_same_E165 v8 xt xq) = 0) => hKR (congrArg Prod.fst (show pL_same_L16 (n + 1) v4 v5 v6 v7 v8 xt xq = (0, v4, v5, v6, v7) by rw [pL_same_L16, if_neg c_1, if_pos c_2, if_pos q]))) (fun t et f H locs ls hP hD hS hl => ?_) _ _ _ hP hD hS (lv_sub hl [2, 3, 4, 5, 6, 7, 8, 9, 10, 11, 12, 1, 0] rfl)
            have et : t = (pL_same_E165 v8 xt xq) := et
            subst et
            have c_12 : ¬ (pL_same_E165 v8 xt xq) = 0 := fun q => absurd (q.symm.trans f) (by decide)
            refine lv_aload_n hx hb dL_same_197 rfl (lv_at hl 0 rfl) ?_
            refine lv_iload hx hb dL_same_198 (lv_at hl 8 rfl) ?_
            refine lv_iconst (v := 5) hx hb dL_same_200 (by decide) ?_
            refine gL_p wL_X wL_X hP hD hS hA (lr_V (As := [.int v8, .int 5]) (rest := []) ⟨hx, hb, hml, hown, hts⟩ (ctX2_of l G cI cC cZ cR ho hh hp xt v8 5) (cwV 2 hts gL_same_X2_of rfl rfl rfl (by decide +kernel) ⟨Nat.le_of_ble_eq_true rfl, Nat.le_of_ble_eq_true rfl⟩) (tx_recv hK (xL hP)) hK (xL hP) (xLD hD) hN rfl hl.1 rfl (Nat.le_of_ble_eq_true rfl) dL_same_201 (Nat.zero_le _) (Nat.zero_le _)) (fun H locs hP hD hS => ?_)
            refine lv_iload hx hb dL_same_204 (lv_at hl 10 rfl) ?_
            refine lv_icmp_ne (tgt := 220) hx hb dL_same_206 (by decide) (fun c_13 => ?_) (fun c_13 => ?_)
            · refine lv_iconst (v := 0) hx hb dL_same_220 (by decide) ?_
              exact rt_i hx hb hr hlocks hP hD hS rfl (hKR (congrArg Prod.fst (show pL_same_L16 (n + 1) v4 v5 v6 v7 v8 xt xq = (0, v4, v5, v6, v7) by rw [pL_same_L16, if_neg c_1, if_pos c_2, if_neg c_12, if_neg c_13]))).symm dL_same_221
            · refine lv_aload_n hx hb dL_same_209 rfl (lv_at hl 0 rfl) ?_
              refine lv_iload hx hb dL_same_210 (lv_at hl 8 rfl) ?_
              refine gL_p wL_X wL_X hP hD hS hA (lr_V (As := [.int v8]) (rest := []) ⟨hx, hb, hml, hown, hts⟩ (ctX2_why l G cI cC cZ cR ho hh hp xt v8) (cwV 1 hts gL_same_X2_why rfl rfl rfl (by decide +kernel) ⟨Nat.le_of_ble_eq_true rfl, Nat.le_of_ble_eq_true rfl⟩) (tx_recv hK (xL hP)) hK (xL hP) (xLD hD) hN rfl hl.1 rfl (Nat.le_of_ble_eq_true rfl) dL_same_212 (Nat.zero_le _) (Nat.zero_le _)) (fun H locs hP hD hS => ?_)
              refine lv_iload hx hb dL_same_215 (lv_at hl 11 rfl) ?_
              refine lv_icmp_eq (tgt := 222) hx hb dL_same_217 (by decide) (fun c_14 => ?_) (fun c_14 => ?_)
              · refine lv_iload hx hb dL_same_222 (lv_at hl 4 rfl) ?_
                refine lv_iconst (v := 1) hx hb dL_same_224 (by decide) ?_
                refine lv_iload hx hb dL_same_225 (lv_at hl 8 rfl) ?_
                refine lv_ishl hx hb dL_same_227 ?_
                refine lv_ior hx hb dL_same_228 ?_
                refine lv_istore (lv' := [(4, .int (v4 ||| (1 <<< (v8 &&& 31)))), (0, .ref (ho 0)), (1, .ref (h 1)), (2, .ref (h 2)), (3, .ref (h 3)), (5, .int v5), (6, .int v6), (7, .int v7), (8, .int v8), (9, .int (5 * v8)), (10, .int (pL_same_E65 v8 xq)), (11, .int (pL_same_J160s0 v8 xq))]) hx hb dL_same_229 hl (by decide) rfl (fun ls hl => ?_)
                refine lv_iload hx hb dL_same_231 (lv_at hl 5 rfl) ?_
                refine lv_aload_n hx hb dL_same_233 rfl (lv_at hl 3 rfl) ?_
                refine lv_iload hx hb dL_same_234 (lv_at hl 9 rfl) ?_
                refine lv_iconst (v := 2) hx hb dL_same_236 (by decide) ?_
                refine lv_iadd hx hb dL_same_237 ?_
                refine la_ld1 (v := xq.2 1 (ix ((5 * v8) + 2))) hx hb hK hP 1 rfl (e5_add (n := 12) (by first | with_reducible assumption | exact vp_in_iff.mpr ⟨by decide, by decide⟩ | exact vp_in_iff.mpr ⟨by omega, by omega⟩) (by first | with_reducible assumption | exact vp_in_iff.mpr ⟨by decide, by decide⟩ | exact vp_in_iff.mpr ⟨by omega, by omega⟩)) rfl dL_same_238 ?_
                refine lv_iconst (v := 2) hx hb dL_same_239 (by decide) ?_
                have j_10 : ∀ (u10_0 : Int32), u10_0 = (pL_same_J251s0 v8 xq) → ∀ (H : Heap) (locs : List Loc) (ls : Array Slot), va_P G vwCl (wL cI cC cZ cR ho hh hp h h2 xt xq xk) H → va_D A (wL cI cC cZ cR ho hh hp h h2 xt xq xk) → va_S A s.heap H locs → lv_has ls 13 [(4, .int (v4 ||| (1 <<< (v8 &&& 31)))), (0, .ref (ho 0)), (1, .ref (h 1)), (2, .ref (h 2)), (3, .ref (h 3)), (5, .int v5), (6, .int v6), (7, .int v7), (8, .int v8), (9, .int (5 * v8)), (10, .int (pL_same_E65 v8 xq)), (11, .int (pL_same_J160s0 v8 xq))] → W p l e (rmz 3 64) s m ([.ref (ho 0), .ref (h 1), .ref (h 2), .ref (h 3)] : List Value).toArray below meth c H locs 0 0 (MQ below (QiA G A (pL_same xt xq) (wL cI cC cZ cR ho hh hp h h2 xt xq xk)) ([.ref (ho 0), .ref (h 1), .ref (h 2), .ref (h 3)] : List Value).toArray s 0 0 A) (F0 m 251 ls [.int u10_0, .int v5]) := by
                  intro u10_0 e0 H locs ls hP hD hS hl
                  subst e0
                  refine lv_ior hx hb dL_same_251 ?_
                  refine lv_istore (lv' := [(5, .int (v5 ||| (pL_same_J251s0 v8 xq))), (4, .int (v4 ||| (1 <<< (v8 &&& 31)))), (0, .ref (ho 0)), (1, .ref (h 1)), (2, .ref (h 2)), (3, .ref (h 3)), (6, .int v6), (7, .int v7), (8, .int v8), (9, .int (5 * v8)), (10, .int (pL_same_E65 v8 xq)), (11, .int (pL_same_J160s0 v8 xq))]) hx hb dL_same_252 hl (by decide) rfl (fun ls hl => ?_)
                  refine lv_iload hx hb dL_same_254 (lv_at hl 6 rfl) ?_
                  refine lv_aload_n hx hb dL_same_256 rfl (lv_at hl 4 rfl) ?_
                  refine lv_iload hx hb dL_same_257 (lv_at hl 9 rfl) ?_
                  refine lv_iconst (v := 2) hx hb dL_same_259 (by decide) ?_
                  refine lv_iadd hx hb dL_same_260 ?_
                  refine la_ld1 (v := xq.2 1 (ix ((5 * v8) + 2))) hx hb hK hP 1 rfl (e5_add (n := 12) (by first | with_reducible assumption | exact vp_in_iff.mpr ⟨by decide, by decide⟩ | exact vp_in_iff.mpr ⟨by omega, by omega⟩) (by first | with_reducible assumption | exact vp_in_iff.mpr ⟨by decide, by decide⟩ | exact vp_in_iff.mpr ⟨by omega, by omega⟩)) rfl dL_same_261 ?_
                  refine lv_iconst (v := 1) hx hb dL_same_262 (by decide) ?_
                  have j_11 : ∀ (u11_0 : Int32), u11_0 = (pL_same_J274s0 v8 xq) → ∀ (H : Heap) (locs : List Loc) (ls : Array Slot), va_P G vwCl (wL cI cC cZ cR ho hh hp h h2 xt xq xk) H → va_D A (wL cI cC cZ cR ho hh hp h h2 xt xq xk) → va_S A s.heap H locs → lv_has ls 13 [(5, .int (v5 ||| (pL_same_J251s0 v8 xq))), (4, .int (v4 ||| (1 <<< (v8 &&& 31)))), (0, .ref (ho 0)), (1, .ref (h 1)), (2, .ref (h 2)), (3, .ref (h 3)), (6, .int v6), (7, .int v7), (8, .int v8), (9, .int (5 * v8)), (10, .int (pL_same_E65 v8 xq)), (11, .int (pL_same_J160s0 v8 xq))] → W p l e (rmz 3 64) s m ([.ref (ho 0), .ref (h 1), .ref (h 2), .ref (h 3)] : List Value).toArray below meth c H locs 0 0 (MQ below (QiA G A (pL_same xt xq) (wL cI cC cZ cR ho hh hp h h2 xt xq xk)) ([.ref (ho 0), .ref (h 1), .ref (h 2), .ref (h 3)] : List Value).toArray s 0 0 A) (F0 m 274 ls [.int u11_0, .int v6]) := by
                    intro u11_0 e0 H locs ls hP hD hS hl
                    subst e0
                    refine lv_ior hx hb dL_same_274 ?_
                    refine lv_istore (lv' := [(6, .int (v6 ||| (pL_same_J274s0 v8 xq))), (5, .int (v5 ||| (pL_same_J251s0 v8 xq))), (4, .int (v4 ||| (1 <<< (v8 &&& 31)))), (0, .ref (ho 0)), (1, .ref (h 1)), (2, .ref (h 2)), (3, .ref (h 3)), (7, .int v7), (8, .int v8), (9, .int (5 * v8)), (10, .int (pL_same_E65 v8 xq)), (11, .int (pL_same_J160s0 v8 xq))]) hx hb dL_same_275 hl (by decide) rfl (fun ls hl => ?_)
                    refine lv_iload hx hb dL_same_277 (lv_at hl 7 rfl) ?_
                    have j_12 : ∀ (u12_0 : Int32), u12_0 = (pL_same_J318s0 v7 v8 xq) → ∀ (H : Heap) (locs : List Loc) (ls : Array Slot), va_P G vwCl (wL cI cC cZ cR ho hh hp h h2 xt xq xk) H → va_D A (wL cI cC cZ cR ho hh hp h h2 xt xq xk) → va_S A s.heap H locs → lv_has ls 13 [(6, .int (v6 ||| (pL_same_J274s0 v8 xq))), (5, .int (v5 ||| (pL_same_J251s0 v8 xq))), (4, .int (v4 ||| (1 <<< (v8 &&& 31)))), (0, .ref (ho 0)), (1, .ref (h 1)), (2, .ref (h 2)), (3, .ref (h 3)), (7, .int v7), (8, .int v8), (9, .int (5 * v8)), (10, .int (pL_same_E65 v8 xq)), (11, .int (pL_same_J160s0 v8 xq))] → W p l e (rmz 3 64) s m ([.ref (ho 0), .ref (h 1), .ref (h 2), .ref (h 3)] : List Value).toArray below meth c H locs 0 0 (MQ below (QiA G A (pL_same xt xq) (wL cI cC cZ cR ho hh hp h h2 xt xq xk)) ([.ref (ho 0), .ref (h 1), .ref (h 2), .ref (h 3)] : List Value).toArray s 0 0 A) (F0 m 318 ls [.int u12_0]) := by
                      intro u12_0 e0 H locs ls hP hD hS hl
                      subst e0
                      refine lv_istore (lv' := [(7, .int (pL_same_J318s0 v7 v8 xq)), (6, .int (v6 ||| (pL_same_J274s0 v8 xq))), (5, .int (v5 ||| (pL_same_J251s0 v8 xq))), (4, .int (v4 ||| (1 <<< (v8 &&& 31)))), (0, .ref (ho 0)), (1, .ref (h 1)), (2, .ref (h 2)), (3, .ref (h 3)), (8, .int v8), (9, .int (5 * v8)), (10, .int (pL_same_E65 v8 xq)), (11, .int (pL_same_J160s0 v8 xq))]) hx hb dL_same_318 hl (by decide) rfl (fun ls hl => ?_)
                      refine lv_iinc (v := (v8 + 1)) (lv' := [(8, .int (v8 + 1)), (7, .int (pL_same_J318s0 v7 v8 xq)), (6, .int (v6 ||| (pL_same_J274s0 v8 xq))), (5, .int (v5 ||| (pL_same_J251s0 v8 xq))), (4, .int (v4 ||| (1 <<< (v8 &&& 31)))), (0, .ref (ho 0)), (1, .ref (h 1)), (2, .ref (h 2)), (3, .ref (h 3)), (9, .int (5 * v8)), (10, .int (pL_same_E65 v8 xq)), (11, .int (pL_same_J160s0 v8 xq))]) hx hb dL_same_320 hl (k := 8) rfl rfl (by decide) rfl (fun ls hl => ?_)
                      have a_320 := i_add1 (a := v8) (by omega) (by omega)
                      refine lv_goto (tgt := 16) hx hb dL_same_323 (by decide) ?_
                      exact ih (v4 ||| (1 <<< (v8 &&& 31))) (v5 ||| (pL_same_J251s0 v8 xq)) (v6 ||| (pL_same_J274s0 v8 xq)) (pL_same_J318s0 v7 v8 xq) (v8 + 1) (by omega) (by omega) (by first | with_reducible assumption | (rw [pL_same_J318s0]; (repeat' split) <;> omega)) (by omega) (fun q => hKR ((congrArg Prod.fst (show pL_same_L16 (n + 1) v4 v5 v6 v7 v8 xt xq = pL_same_L16 n (v4 ||| (1 <<< (v8 &&& 31))) (v5 ||| (pL_same_J251s0 v8 xq)) (v6 ||| (pL_same_J274s0 v8 xq)) (pL_same_J318s0 v7 v8 xq) (v8 + 1) xt xq by rw [pL_same_L16, if_neg c_1, if_pos c_2, if_neg c_12, if_pos c_13, if_pos c_14])).trans q)) (fun t et => hKK t (et.trans (show pL_same_L16 (n + 1) v4 v5 v6 v7 v8 xt xq = pL_same_L16 n (v4 ||| (1 <<< (v8 &&& 31))) (v5 ||| (pL_same_J251s0 v8 xq)) (v6 ||| (pL_same_J274s0 v8 xq)) (pL_same_J318s0 v7 v8 xq) (v8 + 1) xt xq by rw [pL_same_L16, if_neg c_1, if_pos c_2, if_neg c_12, if_pos c_13, if_pos c_14]).symm)) _ _ _ hP hD hS (lv_sub hl [5, 6, 7, 8, 4, 3, 2, 1, 0] rfl)
                    refine lv_if_lt (tgt := 311) hx hb dL_same_279 (by decide) (fun c_17 => ?_) (fun c_17 => ?_)
                    · have t_17 := i_lt (z := (Int32.toInt v7)) (w := (0)) c_17 rfl (by decide)
                      refine lv_iload hx hb dL_same_311 (lv_at hl 8 rfl) ?_
                      refine lv_goto (tgt := 318) hx hb dL_same_313 (by decide) ?_
                      exact j_12 v8 (by rw [pL_same_J318s0, if_pos c_17]) _ _ _ hP hD hS (lv_sub hl [0, 1, 2, 3, 4, 5, 6, 7, 8, 9, 10, 11] rfl)
                    · have t_17 := i_nlt (z := (Int32.toInt v7)) (w := (0)) c_17 rfl (by decide)
                      refine lv_aload_n hx hb dL_same_282 rfl (lv_at hl 5 rfl) ?_
                      refine lv_iload hx hb dL_same_283 (lv_at hl 9 rfl) ?_
                      refine la_ld1 (v := xq.2 1 (ix (5 * v8))) hx hb hK hP 1 rfl (e5_in (n := 12) (by first | with_reducible assumption | exact vp_in_iff.mpr ⟨by decide, by decide⟩ | exact vp_in_iff.mpr ⟨by omega, by omega⟩)) rfl dL_same_285 ?_
                      refine lv_aload_n hx hb dL_same_286 rfl (lv_at hl 5 rfl) ?_
                      refine lv_iload hx hb dL_same_287 (lv_at hl 9 rfl) ?_
                      refine lv_iconst (v := 1) hx hb dL_same_289 (by decide) ?_
                      refine lv_iadd hx hb dL_same_290 ?_
                      refine la_ld1 (v := xq.2 1 (ix ((5 * v8) + 1))) hx hb hK hP 1 rfl (e5_add (n := 12) (by first | with_reducible assumption | exact vp_in_iff.mpr ⟨by decide, by decide⟩ | exact vp_in_iff.mpr ⟨by omega, by omega⟩) (by first | with_reducible assumption | exact vp_in_iff.mpr ⟨by decide, by decide⟩ | exact vp_in_iff.mpr ⟨by omega, by omega⟩)) rfl dL_same_291 ?_
                      refine lv_isub hx hb dL_same_292 ?_
                      refine lv_aload_n hx hb dL_same_293 rfl (lv_at hl 5 rfl) ?_
                      refine lv_iconst (v := 5) hx hb dL_same_294 (by decide) ?_
                      refine lv_iload hx hb dL_same_295 (lv_at hl 7 rfl) ?_
                      refine lv_imul hx hb dL_same_297 ?_
                      refine la_ld1 (v := xq.2 1 (ix (5 * v7))) hx hb hK hP 1 rfl (e5_in (n := 12) (by first | with_reducible assumption | exact vp_in_iff.mpr ⟨by decide, by decide⟩ | exact vp_in_iff.mpr ⟨by omega, by omega⟩)) rfl dL_same_298 ?_
                      refine lv_aload_n hx hb dL_same_299 rfl (lv_at hl 5 rfl) ?_
                      refine lv_iconst (v := 5) hx hb dL_same_300 (by decide) ?_
                      refine lv_iload hx hb dL_same_301 (lv_at hl 7 rfl) ?_
                      refine lv_imul hx hb dL_same_303 ?_
                      refine lv_iconst (v := 1) hx hb dL_same_304 (by decide) ?_
                      refine lv_iadd hx hb dL_same_305 ?_
                      refine la_ld1 (v := xq.2 1 (ix ((5 * v7) + 1))) hx hb hK hP 1 rfl (e5_add (n := 12) (by first | with_reducible assumption | exact vp_in_iff.mpr ⟨by decide, by decide⟩ | exact vp_in_iff.mpr ⟨by omega, by omega⟩) (by first | with_reducible assumption | exact vp_in_iff.mpr ⟨by decide, by decide⟩ | exact vp_in_iff.mpr ⟨by omega, by omega⟩)) rfl dL_same_306 ?_
                      refine lv_isub hx hb dL_same_307 ?_
                      refine lv_icmp_ge (tgt := 316) hx hb dL_same_308 (by decide) (fun c_18 => ?_) (fun c_18 => ?_)
                      · have t_18 := i_le (z := (Int32.toInt ((xq.2 1 (ix (5 * v7))) - (xq.2 1 (ix ((5 * v7) + 1)))))) (w := (Int32.toInt ((xq.2 1 (ix (5 * v8))) - (xq.2 1 (ix ((5 * v8) + 1)))))) c_18 rfl rfl
                        refine lv_iload hx hb dL_same_316 (lv_at hl 7 rfl) ?_
                        exact j_12 v7 (by rw [pL_same_J318s0, if_neg c_17, if_pos c_18]) _ _ _ hP hD hS (lv_sub hl [0, 1, 2, 3, 4, 5, 6, 7, 8, 9, 10, 11] rfl)
                      · have t_18 := i_nle (z := (Int32.toInt ((xq.2 1 (ix (5 * v7))) - (xq.2 1 (ix ((5 * v7) + 1)))))) (w := (Int32.toInt ((xq.2 1 (ix (5 * v8))) - (xq.2 1 (ix ((5 * v8) + 1)))))) c_18 rfl rfl
                        refine lv_iload hx hb dL_same_311 (lv_at hl 8 rfl) ?_
                        refine lv_goto (tgt := 318) hx hb dL_same_313 (by decide) ?_
                        exact j_12 v8 (by rw [pL_same_J318s0, if_neg c_17, if_neg c_18]) _ _ _ hP hD hS (lv_sub hl [0, 1, 2, 3, 4, 5, 6, 7, 8, 9, 10, 11] rfl)
                  refine lv_icmp_ne (tgt := 273) hx hb dL_same_263 (by decide) (fun c_16 => ?_) (fun c_16 => ?_)
                  · refine lv_iconst (v := 0) hx hb dL_same_273 (by decide) ?_
                    exact j_11 0 (by rw [pL_same_J274s0, if_neg c_16]) _ _ _ hP hD hS (lv_sub hl [0, 1, 2, 3, 4, 5, 6, 7, 8, 9, 10, 11] rfl)
                  · refine lv_iconst (v := 1) hx hb dL_same_266 (by decide) ?_
                    refine lv_iload hx hb dL_same_267 (lv_at hl 8 rfl) ?_
                    refine lv_ishl hx hb dL_same_269 ?_
                    refine lv_goto (tgt := 274) hx hb dL_same_270 (by decide) ?_
                    exact j_11 (1 <<< (v8 &&& 31)) (by rw [pL_same_J274s0, if_pos c_16]) _ _ _ hP hD hS (lv_sub hl [0, 1, 2, 3, 4, 5, 6, 7, 8, 9, 10, 11] rfl)
                refine lv_icmp_ne (tgt := 250) hx hb dL_same_240 (by decide) (fun c_15 => ?_) (fun c_15 => ?_)
                · refine lv_iconst (v := 0) hx hb dL_same_250 (by decide) ?_
                  exact j_10 0 (by rw [pL_same_J251s0, if_neg c_15]) _ _ _ hP hD hS (lv_sub hl [0, 1, 2, 3, 4, 5, 6, 7, 8, 9, 10, 11] rfl)
                · refine lv_iconst (v := 1) hx hb dL_same_243 (by decide) ?_
                  refine lv_iload hx hb dL_same_244 (lv_at hl 8 rfl) ?_
                  refine lv_ishl hx hb dL_same_246 ?_
                  refine lv_goto (tgt := 251) hx hb dL_same_247 (by decide) ?_
                  exact j_10 (1 <<< (v8 &&& 31)) (by rw [pL_same_J251s0, if_pos c_15]) _ _ _ hP hD hS (lv_sub hl [0, 1, 2, 3, 4, 5, 6, 7, 8, 9, 10, 11] rfl)
              · refine lv_iconst (v := 0) hx hb dL_same_220 (by decide) ?_
                exact rt_i hx hb hr hlocks hP hD hS rfl (hKR (congrArg Prod.fst (show pL_same_L16 (n + 1) v4 v5 v6 v7 v8 xt xq = (0, v4, v5, v6, v7) by rw [pL_same_L16, if_neg c_1, if_pos c_2, if_neg c_12, if_pos c_13, if_neg c_14]))).symm dL_same_221
          refine lv_icmp_ne (tgt := 115) hx hb dL_same_108 (by decide) (fun c_5 => ?_) (fun c_5 => ?_)
          · refine lv_aload_n hx hb dL_same_115 rfl (lv_at hl 2 rfl) ?_
            refine lv_iload hx hb dL_same_116 (lv_at hl 9 rfl) ?_
            refine lv_iconst (v := 2) hx hb dL_same_118 (by decide) ?_
            refine lv_iadd hx hb dL_same_119 ?_
            refine la_ld1 (v := xq.2 1 (ix ((5 * v8) + 2))) hx hb hK hP 1 rfl (e5_add (n := 12) (by first | with_reducible assumption | exact vp_in_iff.mpr ⟨by decide, by decide⟩ | exact vp_in_iff.mpr ⟨by omega, by omega⟩) (by first | with_reducible assumption | exact vp_in_iff.mpr ⟨by decide, by decide⟩ | exact vp_in_iff.mpr ⟨by omega, by omega⟩)) rfl dL_same_120 ?_
            refine lv_if_ne (tgt := 128) hx hb dL_same_121 (by decide) (fun c_6 => ?_) (fun c_6 => ?_)
            · refine lv_aload_n hx hb dL_same_128 rfl (lv_at hl 1 rfl) ?_
              refine gL_p wL_1 wL_1 hP hD hS hA (lr_S (As := [.ref (h 1)]) (rest := []) ⟨hx, hb, hml, hown, hts⟩ (ctL_ahead l G cI cC cZ cR h xq (by exact q_0.2.2.2.1.1) (by have := q_0.2.2.2.1.2; omega) (by exact q_0.2.2.1.1) (by exact q_0.2.2.1.2)) (va_cwS 1 hts gL_same_L_ahead rfl rfl rfl (by decide +kernel) ⟨Nat.le_of_ble_eq_true rfl, Nat.le_of_ble_eq_true rfl⟩) hK (hP.perm wL_1).left (va_D.leftD (hD.perm wL_1)) hN rfl hl.1 rfl (Nat.le_of_ble_eq_true rfl) dL_same_129 (Nat.zero_le _) (Nat.zero_le _)) (fun H locs hP hD hS => ?_)
              refine lv_if_ne (tgt := 139) hx hb dL_same_132 (by decide) (fun c_7 => ?_) (fun c_7 => ?_)
              · refine lv_aload_n hx hb dL_same_139 rfl (lv_at hl 1 rfl) ?_
                refine lv_bipush (v := 11) hx hb dL_same_140 (by decide) ?_
                refine la_ld1 (v := xq.2 0 (ix 11)) hx hb hK hP 0 rfl (vp_in_iff.mpr ⟨by decide, by decide⟩) rfl dL_same_142 ?_
                refine lv_if_ne (tgt := 150) hx hb dL_same_143 (by decide) (fun c_8 => ?_) (fun c_8 => ?_)
                · refine lv_iload hx hb dL_same_150 (lv_at hl 10 rfl) ?_
                  refine lv_if_ne (tgt := 159) hx hb dL_same_152 (by decide) (fun c_9 => ?_) (fun c_9 => ?_)
                  · refine lv_iconst (v := 5) hx hb dL_same_159 (by decide) ?_
                    exact j_9 5 (by rw [pL_same_J160s0, if_neg c_5, if_neg c_6, if_neg c_7, if_neg c_8, if_neg c_9]) _ _ _ hP hD hS (lv_sub hl [0, 1, 2, 3, 4, 5, 6, 7, 8, 9, 10] rfl)
                  · refine lv_iconst (v := 4) hx hb dL_same_155 (by decide) ?_
                    refine lv_goto (tgt := 160) hx hb dL_same_156 (by decide) ?_
                    exact j_9 4 (by rw [pL_same_J160s0, if_neg c_5, if_neg c_6, if_neg c_7, if_neg c_8, if_pos c_9]) _ _ _ hP hD hS (lv_sub hl [0, 1, 2, 3, 4, 5, 6, 7, 8, 9, 10] rfl)
                · refine lv_iconst (v := 3) hx hb dL_same_146 (by decide) ?_
                  refine lv_goto (tgt := 160) hx hb dL_same_147 (by decide) ?_
                  exact j_9 3 (by rw [pL_same_J160s0, if_neg c_5, if_neg c_6, if_neg c_7, if_pos c_8]) _ _ _ hP hD hS (lv_sub hl [0, 1, 2, 3, 4, 5, 6, 7, 8, 9, 10] rfl)
              · refine lv_iconst (v := 2) hx hb dL_same_135 (by decide) ?_
                refine lv_goto (tgt := 160) hx hb dL_same_136 (by decide) ?_
                exact j_9 2 (by rw [pL_same_J160s0, if_neg c_5, if_neg c_6, if_pos c_7]) _ _ _ hP hD hS (lv_sub hl [0, 1, 2, 3, 4, 5, 6, 7, 8, 9, 10] rfl)
            · refine lv_iconst (v := 1) hx hb dL_same_124 (by decide) ?_
              refine lv_goto (tgt := 160) hx hb dL_same_125 (by decide) ?_
              exact j_9 1 (by rw [pL_same_J160s0, if_neg c_5, if_pos c_6]) _ _ _ hP hD hS (lv_sub hl [0, 1, 2, 3, 4, 5, 6, 7, 8, 9, 10] rfl)
          · refine lv_iconst (v := 0) hx hb dL_same_111 (by decide) ?_
            refine lv_goto (tgt := 160) hx hb dL_same_112 (by decide) ?_
            exact j_9 0 (by rw [pL_same_J160s0, if_pos c_5]) _ _ _ hP hD hS (lv_sub hl [0, 1, 2, 3, 4, 5, 6, 7, 8, 9, 10] rfl)
        · have t_2 := i_nle (z := (0)) (w := (Int32.toInt (xq.2 1 (ix (5 * v8))))) c_2 (by decide) rfl
          refine lv_aload_n hx hb dL_same_36 rfl (lv_at hl 1 rfl) ?_
          refine lv_iload hx hb dL_same_37 (lv_at hl 9 rfl) ?_
          refine lv_iconst (v := 0) hx hb dL_same_39 (by decide) ?_
          refine gL_p wL_X wL_X hP hD hS hA (lr_V (As := [.int v8, .int 0]) (rest := []) ⟨hx, hb, hml, hown, hts⟩ (ctX2_of l G cI cC cZ cR ho hh hp xt v8 0) (cwV 2 hts gL_same_X2_of rfl rfl rfl (by decide +kernel) ⟨Nat.le_of_ble_eq_true rfl, Nat.le_of_ble_eq_true rfl⟩) (tx_recv hK (xL hP)) hK (xL hP) (xLD hD) hN rfl hl.1 rfl (Nat.le_of_ble_eq_true rfl) dL_same_40 (Nat.zero_le _) (Nat.zero_le _)) (fun H locs hP hD hS => ?_)
          refine lv_iconst (v := (-1)) hx hb dL_same_43 (by decide) ?_
          refine lv_icmp_ne (tgt := 57) hx hb dL_same_44 (by decide) (fun c_19 => ?_) (fun c_19 => ?_)
          · refine lv_iconst (v := 0) hx hb dL_same_57 (by decide) ?_
            exact rt_i hx hb hr hlocks hP hD hS rfl (hKR (congrArg Prod.fst (show pL_same_L16 (n + 1) v4 v5 v6 v7 v8 xt xq = (0, v4, v5, v6, v7) by rw [pL_same_L16, if_neg c_1, if_neg c_2, if_neg c_19]))).symm dL_same_58
          · refine lv_aload_n hx hb dL_same_47 rfl (lv_at hl 1 rfl) ?_
            refine lv_iload hx hb dL_same_48 (lv_at hl 9 rfl) ?_
            refine gL_p wL_X wL_X hP hD hS hA (lr_V (As := [.int v8]) (rest := []) ⟨hx, hb, hml, hown, hts⟩ (ctX2_why l G cI cC cZ cR ho hh hp xt v8) (cwV 1 hts gL_same_X2_why rfl rfl rfl (by decide +kernel) ⟨Nat.le_of_ble_eq_true rfl, Nat.le_of_ble_eq_true rfl⟩) (tx_recv hK (xL hP)) hK (xL hP) (xLD hD) hN rfl hl.1 rfl (Nat.le_of_ble_eq_true rfl) dL_same_50 (Nat.zero_le _) (Nat.zero_le _)) (fun H locs hP hD hS => ?_)
            refine lv_iconst (v := (-1)) hx hb dL_same_53 (by decide) ?_
            refine lv_icmp_eq (tgt := 320) hx hb dL_same_54 (by decide) (fun c_20 => ?_) (fun c_20 => ?_)
            · refine lv_iinc (v := (v8 + 1)) (lv' := [(8, .int (v8 + 1)), (9, .int (5 * v8)), (0, .ref (ho 0)), (1, .ref (h 1)), (2, .ref (h 2)), (3, .ref (h 3)), (4, .int v4), (5, .int v5), (6, .int v6), (7, .int v7)]) hx hb dL_same_320 hl (k := 9) rfl rfl (by decide) rfl (fun ls hl => ?_)
              have a_320 := i_add1 (a := v8) (by omega) (by omega)
              refine lv_goto (tgt := 16) hx hb dL_same_323 (by decide) ?_
              exact ih v4 v5 v6 v7 (v8 + 1) (by omega) (by omega) (by first | with_reducible assumption | (rw [pL_same_J318s0]; (repeat' split) <;> omega)) (by omega) (fun q => hKR ((congrArg Prod.fst (show pL_same_L16 (n + 1) v4 v5 v6 v7 v8 xt xq = pL_same_L16 n v4 v5 v6 v7 (v8 + 1) xt xq by rw [pL_same_L16, if_neg c_1, if_neg c_2, if_pos c_19, if_pos c_20])).trans q)) (fun t et => hKK t (et.trans (show pL_same_L16 (n + 1) v4 v5 v6 v7 v8 xt xq = pL_same_L16 n v4 v5 v6 v7 (v8 + 1) xt xq by rw [pL_same_L16, if_neg c_1, if_neg c_2, if_pos c_19, if_pos c_20]).symm)) _ _ _ hP hD hS (lv_sub hl [2, 3, 4, 5, 6, 7, 8, 9, 0] rfl)
            · refine lv_iconst (v := 0) hx hb dL_same_57 (by decide) ?_
              exact rt_i hx hb hr hlocks hP hD hS rfl (hKR (congrArg Prod.fst (show pL_same_L16 (n + 1) v4 v5 v6 v7 v8 xt xq = (0, v4, v5, v6, v7) by rw [pL_same_L16, if_neg c_1, if_neg c_2, if_pos c_19, if_neg c_20]))).symm dL_same_58
  have lp_341 : ∀ (w4 : Int32) (w5 : Int32) (w6 : Int32) (w7 : Int32) (w8 : Int32) (n : Nat) (v9 : Int32), 0 ≤ Int32.toInt w8 → Int32.toInt w8 < 5 → 0 ≤ Int32.toInt v9 → Int32.toInt v9 ≤ 5 → 5 - Int32.toInt v9 < (n : Int) → ((pL_same_L341 w8 n v9 xt xq) = 0 → pL_same xt xq = 0) → (∀ t : Int32, t = pL_same_L341 w8 n v9 xt xq → t = 1 → ∀ (H : Heap) (locs : List Loc) (ls : Array Slot), va_P G vwCl (wL cI cC cZ cR ho hh hp h h2 xt xq xk) H → va_D A (wL cI cC cZ cR ho hh hp h h2 xt xq xk) → va_S A s.heap H locs → lv_has ls 13 [(0, .ref (ho 0)), (1, .ref (h 1)), (2, .ref (h 2)), (3, .ref (h 3)), (4, .int w4), (5, .int w5), (6, .int w6), (7, .int w7), (8, .int w8)] → W p l e (rmz 3 64) s m ([.ref (ho 0), .ref (h 1), .ref (h 2), .ref (h 3)] : List Value).toArray below meth c H locs 0 0 (MQ below (QiA G A (pL_same xt xq) (wL cI cC cZ cR ho hh hp h h2 xt xq xk)) ([.ref (ho 0), .ref (h 1), .ref (h 2), .ref (h 3)] : List Value).toArray s 0 0 A) (F0 m 375 ls [])) → ∀ (H : Heap) (locs : List Loc) (ls : Array Slot), va_P G vwCl (wL cI cC cZ cR ho hh hp h h2 xt xq xk) H → va_D A (wL cI cC cZ cR ho hh hp h h2 xt xq xk) → va_S A s.heap H locs → lv_has ls 13 [(0, .ref (ho 0)), (1, .ref (h 1)), (2, .ref (h 2)), (3, .ref (h 3)), (4, .int w4), (5, .int w5), (6, .int w6), (7, .int w7), (8, .int w8), (9, .int v9)] → W p l e (rmz 3 64) s m ([.ref (ho 0), .ref (h 1), .ref (h 2), .ref (h 3)] : List Value).toArray below meth c H locs 0 0 (MQ below (QiA G A (pL_same xt xq) (wL cI cC cZ cR ho hh hp h h2 xt xq xk)) ([.ref (ho 0), .ref (h 1), .ref (h 2), .ref (h 3)] : List Value).toArray s 0 0 A) (F0 m 341 ls []) := by
    intro w4 w5 w6 w7 w8 n
    induction n with
    | zero =>
      intro v9 g_0 g_1 g_2 g_3 hm
      exfalso; omega
    | succ n ih =>
      intro v9 g_0 g_1 g_2 g_3 hm hKR hKK H locs ls hP hD hS hl
      refine lv_iload hx hb dL_same_341 (lv_at hl 9 rfl) ?_
      refine lv_iconst (v := 5) hx hb dL_same_343 (by decide) ?_
      refine lv_icmp_ge (tgt := 375) hx hb dL_same_344 (by decide) (fun c_23 => ?_) (fun c_23 => ?_)
      · have t_23 := i_le (z := (5)) (w := (Int32.toInt v9)) c_23 (by decide) rfl
        exact hKK 1 (show pL_same_L341 w8 (n + 1) v9 xt xq = 1 by rw [pL_same_L341, if_pos c_23]).symm rfl _ _ _ hP hD hS (lv_sub hl [0, 1, 2, 3, 4, 5, 6, 7, 8] rfl)
      · have t_23 := i_nle (z := (5)) (w := (Int32.toInt v9)) c_23 (by decide) rfl
        refine lv_aload_n hx hb dL_same_347 rfl (lv_at hl 0 rfl) ?_
        refine lv_iload hx hb dL_same_348 (lv_at hl 8 rfl) ?_
        refine lv_iload hx hb dL_same_350 (lv_at hl 9 rfl) ?_
        refine gL_p wL_X wL_X hP hD hS hA (lr_V (As := [.int w8, .int v9]) (rest := []) ⟨hx, hb, hml, hown, hts⟩ (ctX2_ofKeeper l G cI cC cZ cR ho hh hp xt w8 v9) (cwV 2 hts gL_same_X2_ofKeeper rfl rfl rfl (by decide +kernel) ⟨Nat.le_of_ble_eq_true rfl, Nat.le_of_ble_eq_true rfl⟩) (tx_recv hK (xL hP)) hK (xL hP) (xLD hD) hN rfl hl.1 rfl (Nat.le_of_ble_eq_true rfl) dL_same_352 (Nat.zero_le _) (Nat.zero_le _)) (fun H locs hP hD hS => ?_)
        refine lv_aload_n hx hb dL_same_355 rfl (lv_at hl 3 rfl) ?_
        refine lv_iconst (v := 5) hx hb dL_same_356 (by decide) ?_
        refine lv_iload hx hb dL_same_357 (lv_at hl 8 rfl) ?_
        refine lv_imul hx hb dL_same_359 ?_
        refine lv_iload hx hb dL_same_360 (lv_at hl 9 rfl) ?_
        refine lv_iadd hx hb dL_same_362 ?_
        refine la_ld1 (v := xq.2 2 (ix ((5 * w8) + v9))) hx hb hK hP 2 rfl (e5_add (n := 5) (by first | with_reducible assumption | exact vp_in_iff.mpr ⟨by decide, by decide⟩ | exact vp_in_iff.mpr ⟨by omega, by omega⟩) (by first | with_reducible assumption | exact vp_in_iff.mpr ⟨by decide, by decide⟩ | exact vp_in_iff.mpr ⟨by omega, by omega⟩)) rfl dL_same_363 ?_
        refine lv_icmp_eq (tgt := 369) hx hb dL_same_364 (by decide) (fun c_24 => ?_) (fun c_24 => ?_)
        · refine lv_iinc (v := (v9 + 1)) (lv' := [(9, .int (v9 + 1)), (0, .ref (ho 0)), (1, .ref (h 1)), (2, .ref (h 2)), (3, .ref (h 3)), (4, .int w4), (5, .int w5), (6, .int w6), (7, .int w7), (8, .int w8)]) hx hb dL_same_369 hl (k := 9) rfl rfl (by decide) rfl (fun ls hl => ?_)
          have a_369 := i_add1 (a := v9) (by omega) (by omega)
          refine lv_goto (tgt := 341) hx hb dL_same_372 (by decide) ?_
          exact ih (v9 + 1) (by exact g_0) (by exact g_1) (by omega) (by omega) (by omega) (fun q => hKR ((show pL_same_L341 w8 (n + 1) v9 xt xq = pL_same_L341 w8 n (v9 + 1) xt xq by rw [pL_same_L341, if_neg c_23, if_pos c_24]).trans q)) (fun t et => hKK t (et.trans (show pL_same_L341 w8 (n + 1) v9 xt xq = pL_same_L341 w8 n (v9 + 1) xt xq by rw [pL_same_L341, if_neg c_23, if_pos c_24]).symm)) _ _ _ hP hD hS (lv_sub hl [1, 2, 3, 4, 5, 6, 7, 8, 9, 0] rfl)
        · refine lv_iconst (v := 0) hx hb dL_same_367 (by decide) ?_
          exact rt_i hx hb hr hlocks hP hD hS rfl (hKR (show pL_same_L341 w8 (n + 1) v9 xt xq = 0 by rw [pL_same_L341, if_neg c_23, if_neg c_24])).symm dL_same_368
  have lp_329 : ∀ (w4 : Int32) (w5 : Int32) (w6 : Int32) (w7 : Int32) (n : Nat) (v8 : Int32), 0 ≤ Int32.toInt v8 → Int32.toInt v8 ≤ 5 → 5 - Int32.toInt v8 < (n : Int) → ((pL_same_L329 n v8 xt xq) = 0 → pL_same xt xq = 0) → (∀ t : Int32, t = pL_same_L329 n v8 xt xq → t = 1 → ∀ (H : Heap) (locs : List Loc) (ls : Array Slot), va_P G vwCl (wL cI cC cZ cR ho hh hp h h2 xt xq xk) H → va_D A (wL cI cC cZ cR ho hh hp h h2 xt xq xk) → va_S A s.heap H locs → lv_has ls 13 [(0, .ref (ho 0)), (1, .ref (h 1)), (2, .ref (h 2)), (3, .ref (h 3)), (4, .int w4), (5, .int w5), (6, .int w6), (7, .int w7)] → W p l e (rmz 3 64) s m ([.ref (ho 0), .ref (h 1), .ref (h 2), .ref (h 3)] : List Value).toArray below meth c H locs 0 0 (MQ below (QiA G A (pL_same xt xq) (wL cI cC cZ cR ho hh hp h h2 xt xq xk)) ([.ref (ho 0), .ref (h 1), .ref (h 2), .ref (h 3)] : List Value).toArray s 0 0 A) (F0 m 381 ls [])) → ∀ (H : Heap) (locs : List Loc) (ls : Array Slot), va_P G vwCl (wL cI cC cZ cR ho hh hp h h2 xt xq xk) H → va_D A (wL cI cC cZ cR ho hh hp h h2 xt xq xk) → va_S A s.heap H locs → lv_has ls 13 [(0, .ref (ho 0)), (1, .ref (h 1)), (2, .ref (h 2)), (3, .ref (h 3)), (4, .int w4), (5, .int w5), (6, .int w6), (7, .int w7), (8, .int v8)] → W p l e (rmz 3 64) s m ([.ref (ho 0), .ref (h 1), .ref (h 2), .ref (h 3)] : List Value).toArray below meth c H locs 0 0 (MQ below (QiA G A (pL_same xt xq) (wL cI cC cZ cR ho hh hp h h2 xt xq xk)) ([.ref (ho 0), .ref (h 1), .ref (h 2), .ref (h 3)] : List Value).toArray s 0 0 A) (F0 m 329 ls []) := by
    intro w4 w5 w6 w7 n
    induction n with
    | zero =>
      intro v8 g_0 g_1 hm
      exfalso; omega
    | succ n ih =>
      intro v8 g_0 g_1 hm hKR hKK H locs ls hP hD hS hl
      refine lv_iload hx hb dL_same_329 (lv_at hl 8 rfl) ?_
      refine lv_aload_n hx hb dL_same_331 rfl (lv_at hl 1 rfl) ?_
      refine lv_bipush (v := 11) hx hb dL_same_332 (by decide) ?_
      refine la_ld1 (v := xq.2 0 (ix 11)) hx hb hK hP 0 rfl (vp_in_iff.mpr ⟨by decide, by decide⟩) rfl dL_same_334 ?_
      refine lv_icmp_ge (tgt := 381) hx hb dL_same_335 (by decide) (fun c_22 => ?_) (fun c_22 => ?_)
      · have t_22 := i_le (z := (Int32.toInt (xq.2 0 (ix 11)))) (w := (Int32.toInt v8)) c_22 rfl rfl
        exact hKK 1 (show pL_same_L329 (n + 1) v8 xt xq = 1 by rw [pL_same_L329, if_pos c_22]).symm rfl _ _ _ hP hD hS (lv_sub hl [0, 1, 2, 3, 4, 5, 6, 7] rfl)
      · have t_22 := i_nle (z := (Int32.toInt (xq.2 0 (ix 11)))) (w := (Int32.toInt v8)) c_22 rfl rfl
        refine lv_iconst (v := 0) hx hb dL_same_338 (by decide) ?_
        refine lv_istore (lv' := [(9, .int 0), (0, .ref (ho 0)), (1, .ref (h 1)), (2, .ref (h 2)), (3, .ref (h 3)), (4, .int w4), (5, .int w5), (6, .int w6), (7, .int w7), (8, .int v8)]) hx hb dL_same_339 hl (by decide) rfl (fun ls hl => ?_)
        refine lp_341 w4 w5 w6 w7 v8 6 0 (by omega) (by omega) (by decide) (by decide) (by decide) (fun (q : (pL_same_E341 v8 xt xq) = 0) => hKR (show pL_same_L329 (n + 1) v8 xt xq = 0 by rw [pL_same_L329, if_neg c_22, if_pos q])) (fun t et f H locs ls hP hD hS hl => ?_) _ _ _ hP hD hS (lv_sub hl [1, 2, 3, 4, 5, 6, 7, 8, 9, 0] rfl)
        have et : t = (pL_same_E341 v8 xt xq) := et
        subst et
        have c_25 : ¬ (pL_same_E341 v8 xt xq) = 0 := fun q => absurd (q.symm.trans f) (by decide)
        refine lv_iinc (v := (v8 + 1)) (lv' := [(8, .int (v8 + 1)), (0, .ref (ho 0)), (1, .ref (h 1)), (2, .ref (h 2)), (3, .ref (h 3)), (4, .int w4), (5, .int w5), (6, .int w6), (7, .int w7)]) hx hb dL_same_375 hl (k := 8) rfl rfl (by decide) rfl (fun ls hl => ?_)
        have a_375 := i_add1 (a := v8) (by omega) (by omega)
        refine lv_goto (tgt := 329) hx hb dL_same_378 (by decide) ?_
        exact ih (v8 + 1) (by omega) (by omega) (by omega) (fun q => hKR ((show pL_same_L329 (n + 1) v8 xt xq = pL_same_L329 n (v8 + 1) xt xq by rw [pL_same_L329, if_neg c_22, if_neg c_25]).trans q)) (fun t et => hKK t (et.trans (show pL_same_L329 (n + 1) v8 xt xq = pL_same_L329 n (v8 + 1) xt xq by rw [pL_same_L329, if_neg c_22, if_neg c_25]).symm)) _ _ _ hP hD hS (lv_sub hl [1, 2, 3, 4, 5, 6, 7, 8, 0] rfl)
  have lp_384 : ∀ (w4 : Int32) (w5 : Int32) (w6 : Int32) (w7 : Int32) (n : Nat) (v8 : Int32), 0 ≤ Int32.toInt v8 → Int32.toInt v8 ≤ 7 → 7 - Int32.toInt v8 < (n : Int) → ((pL_same_L384 n v8 xt xq) = 0 → pL_same xt xq = 0) → (∀ t : Int32, t = pL_same_L384 n v8 xt xq → t = 1 → ∀ (H : Heap) (locs : List Loc) (ls : Array Slot), va_P G vwCl (wL cI cC cZ cR ho hh hp h h2 xt xq xk) H → va_D A (wL cI cC cZ cR ho hh hp h h2 xt xq xk) → va_S A s.heap H locs → lv_has ls 13 [(0, .ref (ho 0)), (1, .ref (h 1)), (2, .ref (h 2)), (3, .ref (h 3)), (4, .int w4), (5, .int w5), (6, .int w6), (7, .int w7)] → W p l e (rmz 3 64) s m ([.ref (ho 0), .ref (h 1), .ref (h 2), .ref (h 3)] : List Value).toArray below meth c H locs 0 0 (MQ below (QiA G A (pL_same xt xq) (wL cI cC cZ cR ho hh hp h h2 xt xq xk)) ([.ref (ho 0), .ref (h 1), .ref (h 2), .ref (h 3)] : List Value).toArray s 0 0 A) (F0 m 415 ls [])) → ∀ (H : Heap) (locs : List Loc) (ls : Array Slot), va_P G vwCl (wL cI cC cZ cR ho hh hp h h2 xt xq xk) H → va_D A (wL cI cC cZ cR ho hh hp h h2 xt xq xk) → va_S A s.heap H locs → lv_has ls 13 [(0, .ref (ho 0)), (1, .ref (h 1)), (2, .ref (h 2)), (3, .ref (h 3)), (4, .int w4), (5, .int w5), (6, .int w6), (7, .int w7), (8, .int v8)] → W p l e (rmz 3 64) s m ([.ref (ho 0), .ref (h 1), .ref (h 2), .ref (h 3)] : List Value).toArray below meth c H locs 0 0 (MQ below (QiA G A (pL_same xt xq) (wL cI cC cZ cR ho hh hp h h2 xt xq xk)) ([.ref (ho 0), .ref (h 1), .ref (h 2), .ref (h 3)] : List Value).toArray s 0 0 A) (F0 m 384 ls []) := by
    intro w4 w5 w6 w7 n
    induction n with
    | zero =>
      intro v8 g_0 g_1 hm
      exfalso; omega
    | succ n ih =>
      intro v8 g_0 g_1 hm hKR hKK H locs ls hP hD hS hl
      refine lv_iload hx hb dL_same_384 (lv_at hl 8 rfl) ?_
      refine lv_bipush (v := 7) hx hb dL_same_386 (by decide) ?_
      refine lv_icmp_ge (tgt := 415) hx hb dL_same_388 (by decide) (fun c_27 => ?_) (fun c_27 => ?_)
      · have t_27 := i_le (z := (7)) (w := (Int32.toInt v8)) c_27 (by decide) rfl
        exact hKK 1 (show pL_same_L384 (n + 1) v8 xt xq = 1 by rw [pL_same_L384, if_pos c_27]).symm rfl _ _ _ hP hD hS (lv_sub hl [0, 1, 2, 3, 4, 5, 6, 7] rfl)
      · have t_27 := i_nle (z := (7)) (w := (Int32.toInt v8)) c_27 (by decide) rfl
        refine lv_aload_n hx hb dL_same_391 rfl (lv_at hl 0 rfl) ?_
        refine lv_bipush (v := 10) hx hb dL_same_392 (by decide) ?_
        refine lv_iload hx hb dL_same_394 (lv_at hl 8 rfl) ?_
        refine lv_iadd hx hb dL_same_396 ?_
        refine gL_p wL_X wL_X hP hD hS hA (lr_V (As := [.int (10 + v8)]) (rest := []) ⟨hx, hb, hml, hown, hts⟩ (ctX2_count l G cI cC cZ cR ho hh hp xt (10 + v8)) (cwV 1 hts gL_same_X2_count rfl rfl rfl (by decide +kernel) ⟨Nat.le_of_ble_eq_true rfl, Nat.le_of_ble_eq_true rfl⟩) (tx_recv hK (xL hP)) hK (xL hP) (xLD hD) hN rfl hl.1 rfl (Nat.le_of_ble_eq_true rfl) dL_same_397 (Nat.zero_le _) (Nat.zero_le _)) (fun H locs hP hD hS => ?_)
        refine lv_aload_n hx hb dL_same_400 rfl (lv_at hl 1 rfl) ?_
        refine lv_iload hx hb dL_same_401 (lv_at hl 8 rfl) ?_
        refine la_ld1 (v := xq.2 0 (ix v8)) hx hb hK hP 0 rfl (by first | with_reducible assumption | exact vp_in_iff.mpr ⟨by decide, by decide⟩ | exact vp_in_iff.mpr ⟨by omega, by omega⟩) rfl dL_same_403 ?_
        refine lv_icmp_eq (tgt := 409) hx hb dL_same_404 (by decide) (fun c_28 => ?_) (fun c_28 => ?_)
        · refine lv_iinc (v := (v8 + 1)) (lv' := [(8, .int (v8 + 1)), (0, .ref (ho 0)), (1, .ref (h 1)), (2, .ref (h 2)), (3, .ref (h 3)), (4, .int w4), (5, .int w5), (6, .int w6), (7, .int w7)]) hx hb dL_same_409 hl (k := 8) rfl rfl (by decide) rfl (fun ls hl => ?_)
          have a_409 := i_add1 (a := v8) (by omega) (by omega)
          refine lv_goto (tgt := 384) hx hb dL_same_412 (by decide) ?_
          exact ih (v8 + 1) (by omega) (by omega) (by omega) (fun q => hKR ((show pL_same_L384 (n + 1) v8 xt xq = pL_same_L384 n (v8 + 1) xt xq by rw [pL_same_L384, if_neg c_27, if_pos c_28]).trans q)) (fun t et => hKK t (et.trans (show pL_same_L384 (n + 1) v8 xt xq = pL_same_L384 n (v8 + 1) xt xq by rw [pL_same_L384, if_neg c_27, if_pos c_28]).symm)) _ _ _ hP hD hS (lv_sub hl [1, 2, 3, 4, 5, 6, 7, 8, 0] rfl)
        · refine lv_iconst (v := 0) hx hb dL_same_407 (by decide) ?_
          exact rt_i hx hb hr hlocks hP hD hS rfl (hKR (show pL_same_L384 (n + 1) v8 xt xq = 0 by rw [pL_same_L384, if_neg c_27, if_neg c_28])).symm dL_same_408
  have lp_423 : ∀ (w4 : Int32) (w5 : Int32) (w6 : Int32) (w7 : Int32) (n : Nat) (v8 : Int32) (v9 : Int32), -1 ≤ Int32.toInt v9 → Int32.toInt v9 ≤ 23 → Int32.toInt v9 + 1 < (n : Int) → (∀ t : Int32, t = pL_same_L423 n v8 v9 xq → ∀ (H : Heap) (locs : List Loc) (ls : Array Slot), va_P G vwCl (wL cI cC cZ cR ho hh hp h h2 xt xq xk) H → va_D A (wL cI cC cZ cR ho hh hp h h2 xt xq xk) → va_S A s.heap H locs → lv_has ls 13 [(0, .ref (ho 0)), (1, .ref (h 1)), (2, .ref (h 2)), (3, .ref (h 3)), (4, .int w4), (5, .int w5), (6, .int w6), (7, .int w7), (8, .int t)] → W p l e (rmz 3 64) s m ([.ref (ho 0), .ref (h 1), .ref (h 2), .ref (h 3)] : List Value).toArray below meth c H locs 0 0 (MQ below (QiA G A (pL_same xt xq) (wL cI cC cZ cR ho hh hp h h2 xt xq xk)) ([.ref (ho 0), .ref (h 1), .ref (h 2), .ref (h 3)] : List Value).toArray s 0 0 A) (F0 m 457 ls [])) → ∀ (H : Heap) (locs : List Loc) (ls : Array Slot), va_P G vwCl (wL cI cC cZ cR ho hh hp h h2 xt xq xk) H → va_D A (wL cI cC cZ cR ho hh hp h h2 xt xq xk) → va_S A s.heap H locs → lv_has ls 13 [(0, .ref (ho 0)), (1, .ref (h 1)), (2, .ref (h 2)), (3, .ref (h 3)), (4, .int w4), (5, .int w5), (6, .int w6), (7, .int w7), (8, .int v8), (9, .int v9)] → W p l e (rmz 3 64) s m ([.ref (ho 0), .ref (h 1), .ref (h 2), .ref (h 3)] : List Value).toArray below meth c H locs 0 0 (MQ below (QiA G A (pL_same xt xq) (wL cI cC cZ cR ho hh hp h h2 xt xq xk)) ([.ref (ho 0), .ref (h 1), .ref (h 2), .ref (h 3)] : List Value).toArray s 0 0 A) (F0 m 423 ls []) := by
    intro w4 w5 w6 w7 n
    induction n with
    | zero =>
      intro v8 v9 g_0 g_1 hm
      exfalso; omega
    | succ n ih =>
      intro v8 v9 g_0 g_1 hm hKK H locs ls hP hD hS hl
      refine lv_iload hx hb dL_same_423 (lv_at hl 9 rfl) ?_
      refine lv_if_lt (tgt := 457) hx hb dL_same_425 (by decide) (fun c_30 => ?_) (fun c_30 => ?_)
      · have t_30 := i_lt (z := (Int32.toInt v9)) (w := (0)) c_30 rfl (by decide)
        exact hKK v8 (show pL_same_L423 (n + 1) v8 v9 xq = v8 by rw [pL_same_L423, if_pos c_30]).symm _ _ _ hP hD hS (lv_sub hl [0, 1, 2, 3, 4, 5, 6, 7, 8] rfl)
      · have t_30 := i_nlt (z := (Int32.toInt v9)) (w := (0)) c_30 rfl (by decide)
        refine lv_aload_n hx hb dL_same_428 rfl (lv_at hl 1 rfl) ?_
        refine lv_bipush (v := 7) hx hb dL_same_429 (by decide) ?_
        refine la_ld1 (v := xq.2 0 (ix 7)) hx hb hK hP 0 rfl (vp_in_iff.mpr ⟨by decide, by decide⟩) rfl dL_same_431 ?_
        refine lv_iload hx hb dL_same_432 (lv_at hl 9 rfl) ?_
        refine lv_iadd hx hb dL_same_434 ?_
        refine lv_aload_n hx hb dL_same_435 rfl (lv_at hl 1 rfl) ?_
        refine gL_p wL_1 wL_1 hP hD hS hA (lr_S (As := [.int ((xq.2 0 (ix 7)) + v9), .ref (h 1)]) (rest := []) ⟨hx, hb, hml, hown, hts⟩ (ctL_rains l G cI cC cZ cR h xq ((xq.2 0 (ix 7)) + v9)) (va_cwS 2 hts gL_same_L_rains rfl rfl rfl (by decide +kernel) ⟨Nat.le_of_ble_eq_true rfl, Nat.le_of_ble_eq_true rfl⟩) hK (hP.perm wL_1).left (va_D.leftD (hD.perm wL_1)) hN rfl hl.1 rfl (Nat.le_of_ble_eq_true rfl) dL_same_436 (Nat.zero_le _) (Nat.zero_le _)) (fun H locs hP hD hS => ?_)
        have j_14 : ∀ (u14_0 : Int32), u14_0 = (pL_same_J449s0 v8 v9 xq) → ∀ (H : Heap) (locs : List Loc) (ls : Array Slot), va_P G vwCl (wL cI cC cZ cR ho hh hp h h2 xt xq xk) H → va_D A (wL cI cC cZ cR ho hh hp h h2 xt xq xk) → va_S A s.heap H locs → lv_has ls 13 [(0, .ref (ho 0)), (1, .ref (h 1)), (2, .ref (h 2)), (3, .ref (h 3)), (4, .int w4), (5, .int w5), (6, .int w6), (7, .int w7), (8, .int v8), (9, .int v9)] → W p l e (rmz 3 64) s m ([.ref (ho 0), .ref (h 1), .ref (h 2), .ref (h 3)] : List Value).toArray below meth c H locs 0 0 (MQ below (QiA G A (pL_same xt xq) (wL cI cC cZ cR ho hh hp h h2 xt xq xk)) ([.ref (ho 0), .ref (h 1), .ref (h 2), .ref (h 3)] : List Value).toArray s 0 0 A) (F0 m 449 ls [.int u14_0]) := by
          intro u14_0 e0 H locs ls hP hD hS hl
          subst e0
          refine lv_istore (lv' := [(8, .int (pL_same_J449s0 v8 v9 xq)), (0, .ref (ho 0)), (1, .ref (h 1)), (2, .ref (h 2)), (3, .ref (h 3)), (4, .int w4), (5, .int w5), (6, .int w6), (7, .int w7), (9, .int v9)]) hx hb dL_same_449 hl (by decide) rfl (fun ls hl => ?_)
          refine lv_iinc (v := (v9 + (-1))) (lv' := [(9, .int (v9 + (-1))), (8, .int (pL_same_J449s0 v8 v9 xq)), (0, .ref (ho 0)), (1, .ref (h 1)), (2, .ref (h 2)), (3, .ref (h 3)), (4, .int w4), (5, .int w5), (6, .int w6), (7, .int w7)]) hx hb dL_same_451 hl (k := 9) rfl rfl (by decide) rfl (fun ls hl => ?_)
          have a_451 := i_sub1 (a := v9) (by omega) (by omega)
          refine lv_goto (tgt := 423) hx hb dL_same_454 (by decide) ?_
          exact ih (pL_same_J449s0 v8 v9 xq) (v9 + (-1)) (by omega) (by omega) (by omega) (fun t et => hKK t (et.trans (show pL_same_L423 (n + 1) v8 v9 xq = pL_same_L423 n (pL_same_J449s0 v8 v9 xq) (v9 + (-1)) xq by rw [pL_same_L423, if_neg c_30]).symm)) _ _ _ hP hD hS (lv_sub hl [2, 3, 4, 5, 6, 7, 8, 9, 1, 0] rfl)
        refine lv_if_eq (tgt := 447) hx hb dL_same_439 (by decide) (fun c_31 => ?_) (fun c_31 => ?_)
        · refine lv_iload hx hb dL_same_447 (lv_at hl 8 rfl) ?_
          exact j_14 v8 (by rw [pL_same_J449s0, if_pos c_31]) _ _ _ hP hD hS (lv_sub hl [0, 1, 2, 3, 4, 5, 6, 7, 8, 9] rfl)
        · refine lv_iload hx hb dL_same_442 (lv_at hl 9 rfl) ?_
          refine lv_goto (tgt := 449) hx hb dL_same_444 (by decide) ?_
          exact j_14 v9 (by rw [pL_same_J449s0, if_neg c_31]) _ _ _ hP hD hS (lv_sub hl [0, 1, 2, 3, 4, 5, 6, 7, 8, 9] rfl)
  refine lv_iconst (v := 0) hx hb dL_same_0 (by decide) ?_
  refine lv_istore (lv' := [(4, .int 0), (0, .ref (ho 0)), (1, .ref (h 1)), (2, .ref (h 2)), (3, .ref (h 3))]) hx hb dL_same_1 hl (by decide) rfl (fun ls hl => ?_)
  refine lv_iconst (v := 0) hx hb dL_same_3 (by decide) ?_
  refine lv_istore (lv' := [(5, .int 0), (4, .int 0), (0, .ref (ho 0)), (1, .ref (h 1)), (2, .ref (h 2)), (3, .ref (h 3))]) hx hb dL_same_4 hl (by decide) rfl (fun ls hl => ?_)
  refine lv_iconst (v := 0) hx hb dL_same_6 (by decide) ?_
  refine lv_istore (lv' := [(6, .int 0), (5, .int 0), (4, .int 0), (0, .ref (ho 0)), (1, .ref (h 1)), (2, .ref (h 2)), (3, .ref (h 3))]) hx hb dL_same_7 hl (by decide) rfl (fun ls hl => ?_)
  refine lv_bipush (v := (-6)) hx hb dL_same_9 (by decide) ?_
  refine lv_istore (lv' := [(7, .int (-6)), (6, .int 0), (5, .int 0), (4, .int 0), (0, .ref (ho 0)), (1, .ref (h 1)), (2, .ref (h 2)), (3, .ref (h 3))]) hx hb dL_same_11 hl (by decide) rfl (fun ls hl => ?_)
  refine lv_iconst (v := 0) hx hb dL_same_13 (by decide) ?_
  refine lv_istore (lv' := [(8, .int 0), (7, .int (-6)), (6, .int 0), (5, .int 0), (4, .int 0), (0, .ref (ho 0)), (1, .ref (h 1)), (2, .ref (h 2)), (3, .ref (h 3))]) hx hb dL_same_14 hl (by decide) rfl (fun ls hl => ?_)
  refine lp_16 13 0 0 0 (-6) 0 (by decide) (by decide) (by decide) (by decide) (fun (q : ((pL_same_E16 xt xq).1) = 0) => (show pL_same xt xq = 0 by rw [pL_same, if_pos q])) (fun t et f H locs ls hP hD hS hl => ?_) _ _ _ hP hD hS (lv_sub hl [5, 6, 7, 8, 4, 3, 2, 1, 0] rfl)
  have et : t = (pL_same_E16 xt xq) := et
  subst et
  have c_21 : ¬ ((pL_same_E16 xt xq).1) = 0 := fun q => absurd (q.symm.trans f) (by decide)
  refine lv_iconst (v := 0) hx hb dL_same_326 (by decide) ?_
  refine lv_istore (lv' := [(8, .int 0), (0, .ref (ho 0)), (1, .ref (h 1)), (2, .ref (h 2)), (3, .ref (h 3)), (4, .int ((pL_same_E16 xt xq).2.1)), (5, .int ((pL_same_E16 xt xq).2.2.1)), (6, .int ((pL_same_E16 xt xq).2.2.2.1)), (7, .int ((pL_same_E16 xt xq).2.2.2.2))]) hx hb dL_same_327 hl (by decide) rfl (fun ls hl => ?_)
  refine lp_329 ((pL_same_E16 xt xq).2.1) ((pL_same_E16 xt xq).2.2.1) ((pL_same_E16 xt xq).2.2.2.1) ((pL_same_E16 xt xq).2.2.2.2) 6 0 (by first | decide | omega | assumption) (by first | decide | omega | assumption) (by decide) (fun (q : (pL_same_E329 xt xq) = 0) => (show pL_same xt xq = 0 by rw [pL_same, if_neg c_21, if_pos q])) (fun t et f H locs ls hP hD hS hl => ?_) _ _ _ hP hD hS (lv_sub hl [1, 2, 3, 4, 5, 6, 7, 8, 0] rfl)
  have et : t = (pL_same_E329 xt xq) := et
  subst et
  have c_26 : ¬ (pL_same_E329 xt xq) = 0 := fun q => absurd (q.symm.trans f) (by decide)
  refine lv_iconst (v := 0) hx hb dL_same_381 (by decide) ?_
  refine lv_istore (lv' := [(8, .int 0), (0, .ref (ho 0)), (1, .ref (h 1)), (2, .ref (h 2)), (3, .ref (h 3)), (4, .int ((pL_same_E16 xt xq).2.1)), (5, .int ((pL_same_E16 xt xq).2.2.1)), (6, .int ((pL_same_E16 xt xq).2.2.2.1)), (7, .int ((pL_same_E16 xt xq).2.2.2.2))]) hx hb dL_same_382 hl (by decide) rfl (fun ls hl => ?_)
  refine lp_384 ((pL_same_E16 xt xq).2.1) ((pL_same_E16 xt xq).2.2.1) ((pL_same_E16 xt xq).2.2.2.1) ((pL_same_E16 xt xq).2.2.2.2) 8 0 (by first | decide | omega | assumption) (by first | decide | omega | assumption) (by decide) (fun (q : (pL_same_E384 xt xq) = 0) => (show pL_same xt xq = 0 by rw [pL_same, if_neg c_21, if_neg c_26, if_pos q])) (fun t et f H locs ls hP hD hS hl => ?_) _ _ _ hP hD hS (lv_sub hl [1, 2, 3, 4, 5, 6, 7, 8, 0] rfl)
  have et : t = (pL_same_E384 xt xq) := et
  subst et
  have c_29 : ¬ (pL_same_E384 xt xq) = 0 := fun q => absurd (q.symm.trans f) (by decide)
  refine lv_bipush (v := (-6)) hx hb dL_same_415 (by decide) ?_
  refine lv_istore (lv' := [(8, .int (-6)), (0, .ref (ho 0)), (1, .ref (h 1)), (2, .ref (h 2)), (3, .ref (h 3)), (4, .int ((pL_same_E16 xt xq).2.1)), (5, .int ((pL_same_E16 xt xq).2.2.1)), (6, .int ((pL_same_E16 xt xq).2.2.2.1)), (7, .int ((pL_same_E16 xt xq).2.2.2.2))]) hx hb dL_same_417 hl (by decide) rfl (fun ls hl => ?_)
  refine lv_bipush (v := 23) hx hb dL_same_419 (by decide) ?_
  refine lv_istore (lv' := [(9, .int 23), (8, .int (-6)), (0, .ref (ho 0)), (1, .ref (h 1)), (2, .ref (h 2)), (3, .ref (h 3)), (4, .int ((pL_same_E16 xt xq).2.1)), (5, .int ((pL_same_E16 xt xq).2.2.1)), (6, .int ((pL_same_E16 xt xq).2.2.2.1)), (7, .int ((pL_same_E16 xt xq).2.2.2.2))]) hx hb dL_same_421 hl (by decide) rfl (fun ls hl => ?_)
  refine lp_423 ((pL_same_E16 xt xq).2.1) ((pL_same_E16 xt xq).2.2.1) ((pL_same_E16 xt xq).2.2.2.1) ((pL_same_E16 xt xq).2.2.2.2) 25 (-6) 23 (by first | decide | omega | assumption) (by first | decide | omega | assumption) (by decide) (fun t et H locs ls hP hD hS hl => ?_) _ _ _ hP hD hS (lv_sub hl [2, 3, 4, 5, 6, 7, 8, 9, 1, 0] rfl)
  have et : t = (pL_same_E423 xq) := et
  subst et
  refine lv_aload_n hx hb dL_same_457 rfl (lv_at hl 0 rfl) ?_
  refine lv_iconst (v := 0) hx hb dL_same_458 (by decide) ?_
  refine gL_p wL_X wL_X hP hD hS hA (lr_V (As := [.int 0]) (rest := []) ⟨hx, hb, hml, hown, hts⟩ (ctX2_count l G cI cC cZ cR ho hh hp xt 0) (cwV 1 hts gL_same_X2_count rfl rfl rfl (by decide +kernel) ⟨Nat.le_of_ble_eq_true rfl, Nat.le_of_ble_eq_true rfl⟩) (tx_recv hK (xL hP)) hK (xL hP) (xLD hD) hN rfl hl.1 rfl (Nat.le_of_ble_eq_true rfl) dL_same_459 (Nat.zero_le _) (Nat.zero_le _)) (fun H locs hP hD hS => ?_)
  refine lv_aload_n hx hb dL_same_462 rfl (lv_at hl 1 rfl) ?_
  refine lv_bipush (v := 7) hx hb dL_same_463 (by decide) ?_
  refine la_ld1 (v := xq.2 0 (ix 7)) hx hb hK hP 0 rfl (vp_in_iff.mpr ⟨by decide, by decide⟩) rfl dL_same_465 ?_
  refine lv_icmp_ne (tgt := 630) hx hb dL_same_466 (by decide) (fun c_32 => ?_) (fun c_32 => ?_)
  · refine lv_iconst (v := 0) hx hb dL_same_630 (by decide) ?_
    exact rt_i hx hb hr hlocks hP hD hS rfl (show pL_same xt xq = 0 by rw [pL_same, if_neg c_21, if_neg c_26, if_neg c_29, if_neg c_32]).symm dL_same_631
  · refine lv_aload_n hx hb dL_same_469 rfl (lv_at hl 0 rfl) ?_
    refine lv_iconst (v := 1) hx hb dL_same_470 (by decide) ?_
    refine gL_p wL_X wL_X hP hD hS hA (lr_V (As := [.int 1]) (rest := []) ⟨hx, hb, hml, hown, hts⟩ (ctX2_count l G cI cC cZ cR ho hh hp xt 1) (cwV 1 hts gL_same_X2_count rfl rfl rfl (by decide +kernel) ⟨Nat.le_of_ble_eq_true rfl, Nat.le_of_ble_eq_true rfl⟩) (tx_recv hK (xL hP)) hK (xL hP) (xLD hD) hN rfl hl.1 rfl (Nat.le_of_ble_eq_true rfl) dL_same_471 (Nat.zero_le _) (Nat.zero_le _)) (fun H locs hP hD hS => ?_)
    refine lv_iload hx hb dL_same_474 (lv_at hl 4 rfl) ?_
    refine lv_icmp_ne (tgt := 630) hx hb dL_same_476 (by decide) (fun c_33 => ?_) (fun c_33 => ?_)
    · refine lv_iconst (v := 0) hx hb dL_same_630 (by decide) ?_
      exact rt_i hx hb hr hlocks hP hD hS rfl (show pL_same xt xq = 0 by rw [pL_same, if_neg c_21, if_neg c_26, if_neg c_29, if_pos c_32, if_neg c_33]).symm dL_same_631
    · refine lv_aload_n hx hb dL_same_479 rfl (lv_at hl 0 rfl) ?_
      refine lv_iconst (v := 2) hx hb dL_same_480 (by decide) ?_
      refine gL_p wL_X wL_X hP hD hS hA (lr_V (As := [.int 2]) (rest := []) ⟨hx, hb, hml, hown, hts⟩ (ctX2_count l G cI cC cZ cR ho hh hp xt 2) (cwV 1 hts gL_same_X2_count rfl rfl rfl (by decide +kernel) ⟨Nat.le_of_ble_eq_true rfl, Nat.le_of_ble_eq_true rfl⟩) (tx_recv hK (xL hP)) hK (xL hP) (xLD hD) hN rfl hl.1 rfl (Nat.le_of_ble_eq_true rfl) dL_same_481 (Nat.zero_le _) (Nat.zero_le _)) (fun H locs hP hD hS => ?_)
      refine lv_iload hx hb dL_same_484 (lv_at hl 5 rfl) ?_
      refine lv_icmp_ne (tgt := 630) hx hb dL_same_486 (by decide) (fun c_34 => ?_) (fun c_34 => ?_)
      · refine lv_iconst (v := 0) hx hb dL_same_630 (by decide) ?_
        exact rt_i hx hb hr hlocks hP hD hS rfl (show pL_same xt xq = 0 by rw [pL_same, if_neg c_21, if_neg c_26, if_neg c_29, if_pos c_32, if_pos c_33, if_neg c_34]).symm dL_same_631
      · refine lv_aload_n hx hb dL_same_489 rfl (lv_at hl 0 rfl) ?_
        refine lv_iconst (v := 3) hx hb dL_same_490 (by decide) ?_
        refine gL_p wL_X wL_X hP hD hS hA (lr_V (As := [.int 3]) (rest := []) ⟨hx, hb, hml, hown, hts⟩ (ctX2_count l G cI cC cZ cR ho hh hp xt 3) (cwV 1 hts gL_same_X2_count rfl rfl rfl (by decide +kernel) ⟨Nat.le_of_ble_eq_true rfl, Nat.le_of_ble_eq_true rfl⟩) (tx_recv hK (xL hP)) hK (xL hP) (xLD hD) hN rfl hl.1 rfl (Nat.le_of_ble_eq_true rfl) dL_same_491 (Nat.zero_le _) (Nat.zero_le _)) (fun H locs hP hD hS => ?_)
        refine lv_iload hx hb dL_same_494 (lv_at hl 6 rfl) ?_
        refine lv_icmp_ne (tgt := 630) hx hb dL_same_496 (by decide) (fun c_35 => ?_) (fun c_35 => ?_)
        · refine lv_iconst (v := 0) hx hb dL_same_630 (by decide) ?_
          exact rt_i hx hb hr hlocks hP hD hS rfl (show pL_same xt xq = 0 by rw [pL_same, if_neg c_21, if_neg c_26, if_neg c_29, if_pos c_32, if_pos c_33, if_pos c_34, if_neg c_35]).symm dL_same_631
        · refine lv_aload_n hx hb dL_same_499 rfl (lv_at hl 0 rfl) ?_
          refine lv_iconst (v := 4) hx hb dL_same_500 (by decide) ?_
          refine gL_p wL_X wL_X hP hD hS hA (lr_V (As := [.int 4]) (rest := []) ⟨hx, hb, hml, hown, hts⟩ (ctX2_count l G cI cC cZ cR ho hh hp xt 4) (cwV 1 hts gL_same_X2_count rfl rfl rfl (by decide +kernel) ⟨Nat.le_of_ble_eq_true rfl, Nat.le_of_ble_eq_true rfl⟩) (tx_recv hK (xL hP)) hK (xL hP) (xLD hD) hN rfl hl.1 rfl (Nat.le_of_ble_eq_true rfl) dL_same_501 (Nat.zero_le _) (Nat.zero_le _)) (fun H locs hP hD hS => ?_)
          refine lv_aload_n hx hb dL_same_504 rfl (lv_at hl 1 rfl) ?_
          refine lv_bipush (v := 11) hx hb dL_same_505 (by decide) ?_
          refine la_ld1 (v := xq.2 0 (ix 11)) hx hb hK hP 0 rfl (vp_in_iff.mpr ⟨by decide, by decide⟩) rfl dL_same_507 ?_
          refine lv_icmp_ne (tgt := 630) hx hb dL_same_508 (by decide) (fun c_36 => ?_) (fun c_36 => ?_)
          · refine lv_iconst (v := 0) hx hb dL_same_630 (by decide) ?_
            exact rt_i hx hb hr hlocks hP hD hS rfl (show pL_same xt xq = 0 by rw [pL_same, if_neg c_21, if_neg c_26, if_neg c_29, if_pos c_32, if_pos c_33, if_pos c_34, if_pos c_35, if_neg c_36]).symm dL_same_631
          · refine lv_aload_n hx hb dL_same_511 rfl (lv_at hl 0 rfl) ?_
            refine lv_iconst (v := 5) hx hb dL_same_512 (by decide) ?_
            refine gL_p wL_X wL_X hP hD hS hA (lr_V (As := [.int 5]) (rest := []) ⟨hx, hb, hml, hown, hts⟩ (ctX2_count l G cI cC cZ cR ho hh hp xt 5) (cwV 1 hts gL_same_X2_count rfl rfl rfl (by decide +kernel) ⟨Nat.le_of_ble_eq_true rfl, Nat.le_of_ble_eq_true rfl⟩) (tx_recv hK (xL hP)) hK (xL hP) (xLD hD) hN rfl hl.1 rfl (Nat.le_of_ble_eq_true rfl) dL_same_513 (Nat.zero_le _) (Nat.zero_le _)) (fun H locs hP hD hS => ?_)
            refine lv_aload_n hx hb dL_same_516 rfl (lv_at hl 1 rfl) ?_
            refine lv_bipush (v := 9) hx hb dL_same_517 (by decide) ?_
            refine la_ld1 (v := xq.2 0 (ix 9)) hx hb hK hP 0 rfl (vp_in_iff.mpr ⟨by decide, by decide⟩) rfl dL_same_519 ?_
            refine lv_icmp_ne (tgt := 630) hx hb dL_same_520 (by decide) (fun c_37 => ?_) (fun c_37 => ?_)
            · refine lv_iconst (v := 0) hx hb dL_same_630 (by decide) ?_
              exact rt_i hx hb hr hlocks hP hD hS rfl (show pL_same xt xq = 0 by rw [pL_same, if_neg c_21, if_neg c_26, if_neg c_29, if_pos c_32, if_pos c_33, if_pos c_34, if_pos c_35, if_pos c_36, if_neg c_37]).symm dL_same_631
            · refine lv_aload_n hx hb dL_same_523 rfl (lv_at hl 0 rfl) ?_
              refine lv_bipush (v := 6) hx hb dL_same_524 (by decide) ?_
              refine gL_p wL_X wL_X hP hD hS hA (lr_V (As := [.int 6]) (rest := []) ⟨hx, hb, hml, hown, hts⟩ (ctX2_count l G cI cC cZ cR ho hh hp xt 6) (cwV 1 hts gL_same_X2_count rfl rfl rfl (by decide +kernel) ⟨Nat.le_of_ble_eq_true rfl, Nat.le_of_ble_eq_true rfl⟩) (tx_recv hK (xL hP)) hK (xL hP) (xLD hD) hN rfl hl.1 rfl (Nat.le_of_ble_eq_true rfl) dL_same_526 (Nat.zero_le _) (Nat.zero_le _)) (fun H locs hP hD hS => ?_)
              refine lv_aload_n hx hb dL_same_529 rfl (lv_at hl 1 rfl) ?_
              refine lv_bipush (v := 10) hx hb dL_same_530 (by decide) ?_
              refine la_ld1 (v := xq.2 0 (ix 10)) hx hb hK hP 0 rfl (vp_in_iff.mpr ⟨by decide, by decide⟩) rfl dL_same_532 ?_
              refine lv_icmp_ne (tgt := 630) hx hb dL_same_533 (by decide) (fun c_38 => ?_) (fun c_38 => ?_)
              · refine lv_iconst (v := 0) hx hb dL_same_630 (by decide) ?_
                exact rt_i hx hb hr hlocks hP hD hS rfl (show pL_same xt xq = 0 by rw [pL_same, if_neg c_21, if_neg c_26, if_neg c_29, if_pos c_32, if_pos c_33, if_pos c_34, if_pos c_35, if_pos c_36, if_pos c_37, if_neg c_38]).symm dL_same_631
              · refine lv_aload_n hx hb dL_same_536 rfl (lv_at hl 0 rfl) ?_
                refine lv_bipush (v := 7) hx hb dL_same_537 (by decide) ?_
                refine gL_p wL_X wL_X hP hD hS hA (lr_V (As := [.int 7]) (rest := []) ⟨hx, hb, hml, hown, hts⟩ (ctX2_count l G cI cC cZ cR ho hh hp xt 7) (cwV 1 hts gL_same_X2_count rfl rfl rfl (by decide +kernel) ⟨Nat.le_of_ble_eq_true rfl, Nat.le_of_ble_eq_true rfl⟩) (tx_recv hK (xL hP)) hK (xL hP) (xLD hD) hN rfl hl.1 rfl (Nat.le_of_ble_eq_true rfl) dL_same_539 (Nat.zero_le _) (Nat.zero_le _)) (fun H locs hP hD hS => ?_)
                refine lv_aload_n hx hb dL_same_542 rfl (lv_at hl 1 rfl) ?_
                refine lv_bipush (v := 8) hx hb dL_same_543 (by decide) ?_
                refine la_ld1 (v := xq.2 0 (ix 8)) hx hb hK hP 0 rfl (vp_in_iff.mpr ⟨by decide, by decide⟩) rfl dL_same_545 ?_
                refine lv_icmp_ne (tgt := 630) hx hb dL_same_546 (by decide) (fun c_39 => ?_) (fun c_39 => ?_)
                · refine lv_iconst (v := 0) hx hb dL_same_630 (by decide) ?_
                  exact rt_i hx hb hr hlocks hP hD hS rfl (show pL_same xt xq = 0 by rw [pL_same, if_neg c_21, if_neg c_26, if_neg c_29, if_pos c_32, if_pos c_33, if_pos c_34, if_pos c_35, if_pos c_36, if_pos c_37, if_pos c_38, if_neg c_39]).symm dL_same_631
                · refine lv_aload_n hx hb dL_same_549 rfl (lv_at hl 0 rfl) ?_
                  refine lv_bipush (v := 8) hx hb dL_same_550 (by decide) ?_
                  refine gL_p wL_X wL_X hP hD hS hA (lr_V (As := [.int 8]) (rest := []) ⟨hx, hb, hml, hown, hts⟩ (ctX2_count l G cI cC cZ cR ho hh hp xt 8) (cwV 1 hts gL_same_X2_count rfl rfl rfl (by decide +kernel) ⟨Nat.le_of_ble_eq_true rfl, Nat.le_of_ble_eq_true rfl⟩) (tx_recv hK (xL hP)) hK (xL hP) (xLD hD) hN rfl hl.1 rfl (Nat.le_of_ble_eq_true rfl) dL_same_552 (Nat.zero_le _) (Nat.zero_le _)) (fun H locs hP hD hS => ?_)
                  refine lv_aload_n hx hb dL_same_555 rfl (lv_at hl 1 rfl) ?_
                  refine gL_p wL_1 wL_1 hP hD hS hA (lr_S (As := [.ref (h 1)]) (rest := [.int (pX2_count 8 xt)]) ⟨hx, hb, hml, hown, hts⟩ (ctL_ahead l G cI cC cZ cR h xq (by exact q_0.2.2.2.1.1) (by have := q_0.2.2.2.1.2; omega) (by exact q_0.2.2.1.1) (by exact q_0.2.2.1.2)) (va_cwS 1 hts gL_same_L_ahead rfl rfl rfl (by decide +kernel) ⟨Nat.le_of_ble_eq_true rfl, Nat.le_of_ble_eq_true rfl⟩) hK (hP.perm wL_1).left (va_D.leftD (hD.perm wL_1)) hN rfl hl.1 rfl (Nat.le_of_ble_eq_true rfl) dL_same_556 (Nat.zero_le _) (Nat.zero_le _)) (fun H locs hP hD hS => ?_)
                  have j_15 : ∀ (u15_0 : Int32), u15_0 = (pL_same_J567s0 xq) → ∀ (H : Heap) (locs : List Loc) (ls : Array Slot), va_P G vwCl (wL cI cC cZ cR ho hh hp h h2 xt xq xk) H → va_D A (wL cI cC cZ cR ho hh hp h h2 xt xq xk) → va_S A s.heap H locs → lv_has ls 13 [(0, .ref (ho 0)), (1, .ref (h 1)), (2, .ref (h 2)), (3, .ref (h 3)), (4, .int ((pL_same_E16 xt xq).2.1)), (5, .int ((pL_same_E16 xt xq).2.2.1)), (6, .int ((pL_same_E16 xt xq).2.2.2.1)), (7, .int ((pL_same_E16 xt xq).2.2.2.2)), (8, .int (pL_same_E423 xq))] → W p l e (rmz 3 64) s m ([.ref (ho 0), .ref (h 1), .ref (h 2), .ref (h 3)] : List Value).toArray below meth c H locs 0 0 (MQ below (QiA G A (pL_same xt xq) (wL cI cC cZ cR ho hh hp h h2 xt xq xk)) ([.ref (ho 0), .ref (h 1), .ref (h 2), .ref (h 3)] : List Value).toArray s 0 0 A) (F0 m 567 ls [.int u15_0, .int (pX2_count 8 xt)]) := by
                    intro u15_0 e0 H locs ls hP hD hS hl
                    subst e0
                    refine lv_icmp_ne (tgt := 630) hx hb dL_same_567 (by decide) (fun c_41 => ?_) (fun c_41 => ?_)
                    · refine lv_iconst (v := 0) hx hb dL_same_630 (by decide) ?_
                      exact rt_i hx hb hr hlocks hP hD hS rfl (show pL_same xt xq = 0 by rw [pL_same, if_neg c_21, if_neg c_26, if_neg c_29, if_pos c_32, if_pos c_33, if_pos c_34, if_pos c_35, if_pos c_36, if_pos c_37, if_pos c_38, if_pos c_39, if_neg c_41]).symm dL_same_631
                    · refine lv_aload_n hx hb dL_same_570 rfl (lv_at hl 0 rfl) ?_
                      refine lv_bipush (v := 9) hx hb dL_same_571 (by decide) ?_
                      refine gL_p wL_X wL_X hP hD hS hA (lr_V (As := [.int 9]) (rest := []) ⟨hx, hb, hml, hown, hts⟩ (ctX2_count l G cI cC cZ cR ho hh hp xt 9) (cwV 1 hts gL_same_X2_count rfl rfl rfl (by decide +kernel) ⟨Nat.le_of_ble_eq_true rfl, Nat.le_of_ble_eq_true rfl⟩) (tx_recv hK (xL hP)) hK (xL hP) (xLD hD) hN rfl hl.1 rfl (Nat.le_of_ble_eq_true rfl) dL_same_573 (Nat.zero_le _) (Nat.zero_le _)) (fun H locs hP hD hS => ?_)
                      refine lv_aload_n hx hb dL_same_576 rfl (lv_at hl 1 rfl) ?_
                      refine lv_bipush (v := 7) hx hb dL_same_577 (by decide) ?_
                      refine la_ld1 (v := xq.2 0 (ix 7)) hx hb hK hP 0 rfl (vp_in_iff.mpr ⟨by decide, by decide⟩) rfl dL_same_579 ?_
                      refine lv_aload_n hx hb dL_same_580 rfl (lv_at hl 1 rfl) ?_
                      refine gL_p wL_1 wL_1 hP hD hS hA (lr_S (As := [.int (xq.2 0 (ix 7)), .ref (h 1)]) (rest := [.int (pX2_count 9 xt)]) ⟨hx, hb, hml, hown, hts⟩ (ctL_rains l G cI cC cZ cR h xq (xq.2 0 (ix 7))) (va_cwS 2 hts gL_same_L_rains rfl rfl rfl (by decide +kernel) ⟨Nat.le_of_ble_eq_true rfl, Nat.le_of_ble_eq_true rfl⟩) hK (hP.perm wL_1).left (va_D.leftD (hD.perm wL_1)) hN rfl hl.1 rfl (Nat.le_of_ble_eq_true rfl) dL_same_581 (Nat.zero_le _) (Nat.zero_le _)) (fun H locs hP hD hS => ?_)
                      have j_16 : ∀ (u16_0 : Int32), u16_0 = (pL_same_J592s0 xq) → ∀ (H : Heap) (locs : List Loc) (ls : Array Slot), va_P G vwCl (wL cI cC cZ cR ho hh hp h h2 xt xq xk) H → va_D A (wL cI cC cZ cR ho hh hp h h2 xt xq xk) → va_S A s.heap H locs → lv_has ls 13 [(0, .ref (ho 0)), (1, .ref (h 1)), (2, .ref (h 2)), (3, .ref (h 3)), (4, .int ((pL_same_E16 xt xq).2.1)), (5, .int ((pL_same_E16 xt xq).2.2.1)), (6, .int ((pL_same_E16 xt xq).2.2.2.1)), (7, .int ((pL_same_E16 xt xq).2.2.2.2)), (8, .int (pL_same_E423 xq))] → W p l e (rmz 3 64) s m ([.ref (ho 0), .ref (h 1), .ref (h 2), .ref (h 3)] : List Value).toArray below meth c H locs 0 0 (MQ below (QiA G A (pL_same xt xq) (wL cI cC cZ cR ho hh hp h h2 xt xq xk)) ([.ref (ho 0), .ref (h 1), .ref (h 2), .ref (h 3)] : List Value).toArray s 0 0 A) (F0 m 592 ls [.int u16_0, .int (pX2_count 9 xt)]) := by
                        intro u16_0 e0 H locs ls hP hD hS hl
                        subst e0
                        refine lv_icmp_ne (tgt := 630) hx hb dL_same_592 (by decide) (fun c_43 => ?_) (fun c_43 => ?_)
                        · refine lv_iconst (v := 0) hx hb dL_same_630 (by decide) ?_
                          exact rt_i hx hb hr hlocks hP hD hS rfl (show pL_same xt xq = 0 by rw [pL_same, if_neg c_21, if_neg c_26, if_neg c_29, if_pos c_32, if_pos c_33, if_pos c_34, if_pos c_35, if_pos c_36, if_pos c_37, if_pos c_38, if_pos c_39, if_pos c_41, if_neg c_43]).symm dL_same_631
                        · refine lv_aload_n hx hb dL_same_595 rfl (lv_at hl 0 rfl) ?_
                          refine gL_p wL_X wL_X hP hD hS hA (lr_V (As := []) (rest := []) ⟨hx, hb, hml, hown, hts⟩ (ctX2_worst l G cI cC cZ cR ho hh hp xt) (cwV 0 hts gL_same_X2_worst rfl rfl rfl (by decide +kernel) ⟨Nat.le_of_ble_eq_true rfl, Nat.le_of_ble_eq_true rfl⟩) (tx_recv hK (xL hP)) hK (xL hP) (xLD hD) hN rfl hl.1 rfl (Nat.le_of_ble_eq_true rfl) dL_same_596 (Nat.zero_le _) (Nat.zero_le _)) (fun H locs hP hD hS => ?_)
                          refine lv_iload hx hb dL_same_599 (lv_at hl 7 rfl) ?_
                          refine lv_icmp_ne (tgt := 630) hx hb dL_same_601 (by decide) (fun c_44 => ?_) (fun c_44 => ?_)
                          · refine lv_iconst (v := 0) hx hb dL_same_630 (by decide) ?_
                            exact rt_i hx hb hr hlocks hP hD hS rfl (show pL_same xt xq = 0 by rw [pL_same, if_neg c_21, if_neg c_26, if_neg c_29, if_pos c_32, if_pos c_33, if_pos c_34, if_pos c_35, if_pos c_36, if_pos c_37, if_pos c_38, if_pos c_39, if_pos c_41, if_pos c_43, if_neg c_44]).symm dL_same_631
                          · refine lv_aload_n hx hb dL_same_604 rfl (lv_at hl 0 rfl) ?_
                            refine gL_p wL_X wL_X hP hD hS hA (lr_V (As := []) (rest := []) ⟨hx, hb, hml, hown, hts⟩ (ctX2_rainIn l G cI cC cZ cR ho hh hp xt) (cwV 0 hts gL_same_X2_rainIn rfl rfl rfl (by decide +kernel) ⟨Nat.le_of_ble_eq_true rfl, Nat.le_of_ble_eq_true rfl⟩) (tx_recv hK (xL hP)) hK (xL hP) (xLD hD) hN rfl hl.1 rfl (Nat.le_of_ble_eq_true rfl) dL_same_605 (Nat.zero_le _) (Nat.zero_le _)) (fun H locs hP hD hS => ?_)
                            refine lv_iload hx hb dL_same_608 (lv_at hl 8 rfl) ?_
                            refine lv_icmp_ne (tgt := 630) hx hb dL_same_610 (by decide) (fun c_45 => ?_) (fun c_45 => ?_)
                            · refine lv_iconst (v := 0) hx hb dL_same_630 (by decide) ?_
                              exact rt_i hx hb hr hlocks hP hD hS rfl (show pL_same xt xq = 0 by rw [pL_same, if_neg c_21, if_neg c_26, if_neg c_29, if_pos c_32, if_pos c_33, if_pos c_34, if_pos c_35, if_pos c_36, if_pos c_37, if_pos c_38, if_pos c_39, if_pos c_41, if_pos c_43, if_pos c_44, if_neg c_45]).symm dL_same_631
                            · refine lv_aload_n hx hb dL_same_613 rfl (lv_at hl 0 rfl) ?_
                              refine lv_aload_n hx hb dL_same_614 rfl (lv_at hl 1 rfl) ?_
                              refine lv_bipush (v := 11) hx hb dL_same_615 (by decide) ?_
                              refine la_ld1 (v := xq.2 0 (ix 11)) hx hb hK hP 0 rfl (vp_in_iff.mpr ⟨by decide, by decide⟩) rfl dL_same_617 ?_
                              refine lv_iconst (v := 0) hx hb dL_same_618 (by decide) ?_
                              refine gL_p wL_X wL_X hP hD hS hA (lr_V (As := [.int (xq.2 0 (ix 11)), .int 0]) (rest := []) ⟨hx, hb, hml, hown, hts⟩ (ctX2_ofKeeper l G cI cC cZ cR ho hh hp xt (xq.2 0 (ix 11)) 0) (cwV 2 hts gL_same_X2_ofKeeper rfl rfl rfl (by decide +kernel) ⟨Nat.le_of_ble_eq_true rfl, Nat.le_of_ble_eq_true rfl⟩) (tx_recv hK (xL hP)) hK (xL hP) (xLD hD) hN rfl hl.1 rfl (Nat.le_of_ble_eq_true rfl) dL_same_619 (Nat.zero_le _) (Nat.zero_le _)) (fun H locs hP hD hS => ?_)
                              refine lv_iconst (v := (-1)) hx hb dL_same_622 (by decide) ?_
                              refine lv_icmp_ne (tgt := 630) hx hb dL_same_623 (by decide) (fun c_46 => ?_) (fun c_46 => ?_)
                              · refine lv_iconst (v := 0) hx hb dL_same_630 (by decide) ?_
                                exact rt_i hx hb hr hlocks hP hD hS rfl (show pL_same xt xq = 0 by rw [pL_same, if_neg c_21, if_neg c_26, if_neg c_29, if_pos c_32, if_pos c_33, if_pos c_34, if_pos c_35, if_pos c_36, if_pos c_37, if_pos c_38, if_pos c_39, if_pos c_41, if_pos c_43, if_pos c_44, if_pos c_45, if_neg c_46]).symm dL_same_631
                              · refine lv_iconst (v := 1) hx hb dL_same_626 (by decide) ?_
                                refine lv_goto (tgt := 631) hx hb dL_same_627 (by decide) ?_
                                exact rt_i hx hb hr hlocks hP hD hS rfl (show pL_same xt xq = 1 by rw [pL_same, if_neg c_21, if_neg c_26, if_neg c_29, if_pos c_32, if_pos c_33, if_pos c_34, if_pos c_35, if_pos c_36, if_pos c_37, if_pos c_38, if_pos c_39, if_pos c_41, if_pos c_43, if_pos c_44, if_pos c_45, if_pos c_46]).symm dL_same_631
                      refine lv_if_eq (tgt := 591) hx hb dL_same_584 (by decide) (fun c_42 => ?_) (fun c_42 => ?_)
                      · refine lv_iconst (v := 0) hx hb dL_same_591 (by decide) ?_
                        exact j_16 0 (by rw [pL_same_J592s0, if_pos c_42]) _ _ _ hP hD hS (lv_sub hl [0, 1, 2, 3, 4, 5, 6, 7, 8] rfl)
                      · refine lv_iconst (v := 1) hx hb dL_same_587 (by decide) ?_
                        refine lv_goto (tgt := 592) hx hb dL_same_588 (by decide) ?_
                        exact j_16 1 (by rw [pL_same_J592s0, if_neg c_42]) _ _ _ hP hD hS (lv_sub hl [0, 1, 2, 3, 4, 5, 6, 7, 8] rfl)
                  refine lv_if_eq (tgt := 566) hx hb dL_same_559 (by decide) (fun c_40 => ?_) (fun c_40 => ?_)
                  · refine lv_iconst (v := 0) hx hb dL_same_566 (by decide) ?_
                    exact j_15 0 (by rw [pL_same_J567s0, if_pos c_40]) _ _ _ hP hD hS (lv_sub hl [0, 1, 2, 3, 4, 5, 6, 7, 8] rfl)
                  · refine lv_iconst (v := 1) hx hb dL_same_562 (by decide) ?_
                    refine lv_goto (tgt := 567) hx hb dL_same_563 (by decide) ?_
                    exact j_15 1 (by rw [pL_same_J567s0, if_neg c_40]) _ _ _ hP hD hS (lv_sub hl [0, 1, 2, 3, 4, 5, 6, 7, 8] rfl)
