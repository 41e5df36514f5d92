theorem nearest_L (a1 a2 : Int32) : ∀ (n : Nat) (v2 : Int32), pX1_nearest_L9 a1 a2 n v2 = -6 ∨ vp_in (pX1_nearest_L9 a1 a2 n v2) 12 := by
  intro n
  induction n with
  | zero => intro v2; exact Or.inr (show vp_in 0 12 from vp_in_iff.mpr ⟨by decide, by decide⟩)
  | succ n ih =>
    intro v2
    rw [pX1_nearest_L9]
    split
    · exact Or.inl rfl
    · split
      · split
        · exact ih _
        · rename_i h
          exact Or.inr (has_in h)
      · rename_i h
        exact Or.inr (has_in h)
theorem nearest_in {a1 a2 : Int32} (h : ¬ pX1_nearest a1 a2 = -6) : vp_in (pX1_nearest a1 a2) 12 := by
  unfold pX1_nearest at h ⊢
  split
  · rename_i h1
    rw [if_pos h1] at h
    exact absurd rfl h
  · rename_i h1
    rw [if_neg h1] at h
    exact (nearest_L a1 a2 13 0).resolve_left h
def pX1_letKeepersAct_L9 : Nat → Int32 → Int32 → Int32 → SR → SR
  | 0, v1, v2, v3, x => x
  | n + 1, v1, v2, v3, x => if (x.1 3) ≤ v3 then x
    else if 4 < v3 then x
      else if v1 = 0 then if (pX1_nearest ((x.1 2) &&& (v2 ^^^ (-1))) (x.2 5 (ix v3))) = (-6) then if (pX1_nearest ((pX1_outOfTune x) &&& (v2 ^^^ (-1))) (x.2 5 (ix v3))) = (-6) then pX1_letKeepersAct_L9 n v1 v2 (v3 + 1) x
            else if (x.2 5 (ix v3)) = (pX1_nearest ((pX1_outOfTune x) &&& (v2 ^^^ (-1))) (x.2 5 (ix v3))) then pX1_letKeepersAct_L9 n v1 (v2 ||| (1 <<< ((pX1_nearest ((pX1_outOfTune x) &&& (v2 ^^^ (-1))) (x.2 5 (ix v3))) &&& 31))) (v3 + 1) (pX1_tune v3 (pX1_nearest ((pX1_outOfTune x) &&& (v2 ^^^ (-1))) (x.2 5 (ix v3))) x)
              else pX1_letKeepersAct_L9 n v1 (v2 ||| (1 <<< ((pX1_nearest ((pX1_outOfTune x) &&& (v2 ^^^ (-1))) (x.2 5 (ix v3))) &&& 31))) (v3 + 1) (pX1_goTowards v3 (pX1_nearest ((pX1_outOfTune x) &&& (v2 ^^^ (-1))) (x.2 5 (ix v3))) x)
          else if (x.2 5 (ix v3)) = (pX1_nearest ((x.1 2) &&& (v2 ^^^ (-1))) (x.2 5 (ix v3))) then pX1_letKeepersAct_L9 n v1 (v2 ||| (1 <<< ((pX1_nearest ((x.1 2) &&& (v2 ^^^ (-1))) (x.2 5 (ix v3))) &&& 31))) (v3 + 1) (pX1_takeCoverOff v3 (pX1_nearest ((x.1 2) &&& (v2 ^^^ (-1))) (x.2 5 (ix v3))) x)
            else pX1_letKeepersAct_L9 n v1 (v2 ||| (1 <<< ((pX1_nearest ((x.1 2) &&& (v2 ^^^ (-1))) (x.2 5 (ix v3))) &&& 31))) (v3 + 1) (pX1_goTowards v3 (pX1_nearest ((x.1 2) &&& (v2 ^^^ (-1))) (x.2 5 (ix v3))) x)
        else if (pX1_nearest ((x.1 1) &&& (v2 ^^^ (-1))) (x.2 5 (ix v3))) = (-6) then if (pX1_nearest ((pX1_outOfTune x) &&& (v2 ^^^ (-1))) (x.2 5 (ix v3))) = (-6) then pX1_letKeepersAct_L9 n v1 v2 (v3 + 1) x
            else if (x.2 5 (ix v3)) = (pX1_nearest ((pX1_outOfTune x) &&& (v2 ^^^ (-1))) (x.2 5 (ix v3))) then pX1_letKeepersAct_L9 n v1 (v2 ||| (1 <<< ((pX1_nearest ((pX1_outOfTune x) &&& (v2 ^^^ (-1))) (x.2 5 (ix v3))) &&& 31))) (v3 + 1) (pX1_tune v3 (pX1_nearest ((pX1_outOfTune x) &&& (v2 ^^^ (-1))) (x.2 5 (ix v3))) x)
              else pX1_letKeepersAct_L9 n v1 (v2 ||| (1 <<< ((pX1_nearest ((pX1_outOfTune x) &&& (v2 ^^^ (-1))) (x.2 5 (ix v3))) &&& 31))) (v3 + 1) (pX1_goTowards v3 (pX1_nearest ((pX1_outOfTune x) &&& (v2 ^^^ (-1))) (x.2 5 (ix v3))) x)
          else if (x.2 5 (ix v3)) = (pX1_nearest ((x.1 1) &&& (v2 ^^^ (-1))) (x.2 5 (ix v3))) then pX1_letKeepersAct_L9 n v1 (v2 ||| (1 <<< ((pX1_nearest ((x.1 1) &&& (v2 ^^^ (-1))) (x.2 5 (ix v3))) &&& 31))) (v3 + 1) (pX1_putCoverOn v3 (pX1_nearest ((x.1 1) &&& (v2 ^^^ (-1))) (x.2 5 (ix v3))) x)
            else pX1_letKeepersAct_L9 n v1 (v2 ||| (1 <<< ((pX1_nearest ((x.1 1) &&& (v2 ^^^ (-1))) (x.2 5 (ix v3))) &&& 31))) (v3 + 1) (pX1_goTowards v3 (pX1_nearest ((x.1 1) &&& (v2 ^^^ (-1))) (x.2 5 (ix v3))) x)
def pX1_letKeepersAct (x : SR) : SR := pX1_letKeepersAct_L9 6 (pX1_rainIsAhead x) 0 0 x
set_option maxHeartbeats 4000000 in
set_option maxRecDepth 100000 in
theorem ctX1_letKeepersAct (l : Launch) (G : va_G) (cI cC cZ cR : ClassId) (h : Ad) (x : SR) : Ct l yX1_letKeepersAct wsX1_letKeepersAct (rmz 2 43) G (TY cI cC cZ cR) [.ref (h 0)] (wSt cI h x) (Qv G (wSt cI h x) (wSt cI h (pX1_letKeepersAct x))) := by
  refine Ct.ofV (cc := cX1_letKeepersAct) (maxL := 6) (ret := none) (by decide) rfl rfl ?_
  intro p e s m below meth c A ls E0 hP hD hS hl
  obtain ⟨hx, hb, hr, hml, hlocks, hts, hown, hK, hN, hA⟩ := E0
  have hl : lv_has ls 6 [(0, .ref (h 0))] := hl
  have hin : ∀ w ∈ wsX10, w ∈ wsX1_letKeepersAct := fun w hw => List.mem_cons_of_mem _ (List.mem_append_right _ (hw))
  have k_37 : (Cond.fieldLink RX1 37 RX1 (TX1 8).2.1 (TX1 8).2.2.1).before ([.ref (h 0)] : List Value).toArray s = true := hts _ (List.mem_of_getElem? (i := 1) rfl)
  have k_22 : (Cond.fieldLink RX1 22 RX1 (TX1 3).2.1 (TX1 3).2.2.1).before ([.ref (h 0)] : List Value).toArray s = true := hts _ (List.mem_of_getElem? (i := 3) rfl)
  have k_40 : (Cond.fieldLink RX1 40 RX1 (TX1 9).2.1 (TX1 9).2.2.1).before ([.ref (h 0)] : List Value).toArray s = true := hts _ (List.mem_of_getElem? (i := 4) rfl)
  have k_19 : (Cond.fieldLink RX1 19 RX1 (TX1 2).2.1 (TX1 2).2.2.1).before ([.ref (h 0)] : List Value).toArray s = true := hts _ (List.mem_of_getElem? (i := 2) rfl)
  generalize hres : pX1_letKeepersAct x = res
  have lp_9 : ∀ (n : Nat) (v1 : Int32) (v2 : Int32) (v3 : Int32) (x : SR), 0 ≤ Int32.toInt v3 → Int32.toInt v3 ≤ 5 → 5 - Int32.toInt v3 < (n : Int) → pX1_letKeepersAct_L9 n v1 v2 v3 x = res → ∀ (H : Heap) (locs : List Loc) (ls : Array Slot), va_P G vwCl (wSt cI h x) H → va_D A (wSt cI h x) → va_S A s.heap H locs → lv_has ls 6 [(0, .ref (h 0)), (1, .int v1), (2, .int v2), (3, .int v3)] → W p l e (rmz 2 43) s m ([.ref (h 0)] : List Value).toArray below meth c H locs 0 0 (MQ below (QvA G A (wSt cI h res)) ([.ref (h 0)] : List Value).toArray s 0 0 A) (F0 m 9 ls []) := by
    intro n
    induction n with
    | zero =>
      intro v1 v2 v3 x g_0 g_1 hm
      exfalso; omega
    | succ n ih =>
      intro v1 v2 v3 x g_0 g_1 hm hq H locs ls hP hD hS hl
      refine lv_iload_n hx hb dX1_letKeepersAct_9 rfl (lv_at hl 3 rfl) ?_
      refine lv_aload_n hx hb dX1_letKeepersAct_10 rfl (lv_at hl 0 rfl) ?_
      refine md_get (ci := 1) (C := RX1) (T := TX1) (N := 18) (v := .int (x.1 3)) hx hb hts hin hown hK hP rfl 8 (by decide) k_37 rfl rfl rfl dX1_letKeepersAct_11 ?_
      refine lv_icmp_ge (tgt := 170) hx hb dX1_letKeepersAct_14 (by decide) (fun c_1 => ?_) (fun c_1 => ?_)
      · have t_1 := i_le (z := (Int32.toInt (x.1 3))) (w := (Int32.toInt v3)) c_1 rfl rfl
        exact rt_s hx hb hr hlocks hP hD hS ((show pX1_letKeepersAct_L9 (n + 1) v1 v2 v3 x = x by rw [pX1_letKeepersAct_L9, if_pos c_1]).symm.trans hq |>.symm) dX1_letKeepersAct_170
      · have t_1 := i_nle (z := (Int32.toInt (x.1 3))) (w := (Int32.toInt v3)) c_1 rfl rfl
        refine lv_iload_n hx hb dX1_letKeepersAct_17 rfl (lv_at hl 3 rfl) ?_
        refine lv_iconst (v := 4) hx hb dX1_letKeepersAct_18 (by decide) ?_
        refine lv_icmp_gt (tgt := 170) hx hb dX1_letKeepersAct_19 (by decide) (fun c_2 => ?_) (fun c_2 => ?_)
        · have t_2 := i_lt (z := (4)) (w := (Int32.toInt v3)) c_2 (by decide) rfl
          exact rt_s hx hb hr hlocks hP hD hS ((show pX1_letKeepersAct_L9 (n + 1) v1 v2 v3 x = x by rw [pX1_letKeepersAct_L9, if_neg c_1, if_pos c_2]).symm.trans hq |>.symm) dX1_letKeepersAct_170
        · have t_2 := i_nlt (z := (4)) (w := (Int32.toInt v3)) c_2 (by decide) rfl
          refine lv_iload_n hx hb dX1_letKeepersAct_22 rfl (lv_at hl 1 rfl) ?_
          refine lv_if_eq (tgt := 33) hx hb dX1_letKeepersAct_23 (by decide) (fun c_3 => ?_) (fun c_3 => ?_)
          · refine lv_aload_n hx hb dX1_letKeepersAct_33 rfl (lv_at hl 0 rfl) ?_
            refine md_get (ci := 1) (C := RX1) (T := TX1) (N := 18) (v := .int (x.1 2)) hx hb hts hin hown hK hP rfl 3 (by decide) k_22 rfl rfl rfl dX1_letKeepersAct_34 ?_
            refine lv_iload_n hx hb dX1_letKeepersAct_37 rfl (lv_at hl 2 rfl) ?_
            refine lv_iconst (v := (-1)) hx hb dX1_letKeepersAct_38 (by decide) ?_
            refine lv_ixor hx hb dX1_letKeepersAct_39 ?_
            refine lv_iand hx hb dX1_letKeepersAct_40 ?_
            refine lv_aload_n hx hb dX1_letKeepersAct_41 rfl (lv_at hl 0 rfl) ?_
            refine md_get (ci := 1) (C := RX1) (T := TX1) (N := 18) (v := .ref (h 6)) hx hb hts hin hown hK hP rfl 9 (by decide) k_40 rfl rfl rfl dX1_letKeepersAct_42 ?_
            refine lv_iload_n hx hb dX1_letKeepersAct_45 rfl (lv_at hl 3 rfl) ?_
            refine md_ia (v := x.2 5 (ix v3)) hx hb hK hP 5 0 rfl rfl (by first | assumption | decide | exact vp_in_iff.mpr ⟨by omega, by omega⟩ | exact isPlace_in (by assumption) | exact has_in (by assumption)) rfl dX1_letKeepersAct_46 ?_
            refine gn_i hP hS hA (rn_S (As := [.int ((x.1 2) &&& (v2 ^^^ (-1))), .int (x.2 5 (ix v3))]) (rest := []) ⟨hx, hb, hml, hown, hts⟩ (ctX1_nearest l G cI cC cZ cR ((x.1 2) &&& (v2 ^^^ (-1))) (x.2 5 (ix v3))) (va_cwS 2 hts gX1_letKeepersAct_X1_nearest rfl rfl rfl (by decide +kernel) ⟨Nat.le_of_ble_eq_true rfl, Nat.le_of_ble_eq_true rfl⟩) hK nilP (nilD (A := A)) hN rfl hl.1 rfl (Nat.le_of_ble_eq_true rfl) dX1_letKeepersAct_47) (fun H locs hP hS => ?_)
            refine lv_istore (lv' := [(4, .int (pX1_nearest ((x.1 2) &&& (v2 ^^^ (-1))) (x.2 5 (ix v3)))), (0, .ref (h 0)), (1, .int v1), (2, .int v2), (3, .int v3)]) hx hb dX1_letKeepersAct_50 hl (by decide) rfl (fun ls hl => ?_)
            refine lv_iload hx hb dX1_letKeepersAct_52 (lv_at hl 0 rfl) ?_
            refine lv_bipush (v := (-6)) hx hb dX1_letKeepersAct_54 (by decide) ?_
            refine lv_icmp_ne (tgt := 63) hx hb dX1_letKeepersAct_56 (by decide) (fun c_4 => ?_) (fun c_4 => ?_)
            · refine lv_iconst (v := 0) hx hb dX1_letKeepersAct_63 (by decide) ?_
              refine lv_istore (lv' := [(5, .int 0), (4, .int (pX1_nearest ((x.1 2) &&& (v2 ^^^ (-1))) (x.2 5 (ix v3)))), (0, .ref (h 0)), (1, .int v1), (2, .int v2), (3, .int v3)]) hx hb dX1_letKeepersAct_64 hl (by decide) rfl (fun ls hl => ?_)
              refine lv_iload hx hb dX1_letKeepersAct_66 (lv_at hl 0 rfl) ?_
              refine lv_if_eq (tgt := 90) hx hb dX1_letKeepersAct_68 (by decide) (fun cz => ?_) (fun cz => absurd cz (by decide))
              refine lv_iload hx hb dX1_letKeepersAct_90 (lv_at hl 1 rfl) ?_
              refine lv_bipush (v := (-6)) hx hb dX1_letKeepersAct_92 (by decide) ?_
              refine lv_icmp_ne (tgt := 100) hx hb dX1_letKeepersAct_94 (by decide) (fun cz => ?_) (fun cz => absurd cz c_4)
              refine lv_iload_n hx hb dX1_letKeepersAct_100 rfl (lv_at hl 4 rfl) ?_
              refine lv_iconst (v := 1) hx hb dX1_letKeepersAct_101 (by decide) ?_
              refine lv_iload hx hb dX1_letKeepersAct_102 (lv_at hl 1 rfl) ?_
              refine lv_ishl hx hb dX1_letKeepersAct_104 ?_
              refine lv_ior hx hb dX1_letKeepersAct_105 ?_
              refine lv_istore_n (lv' := [(2, .int (v2 ||| (1 <<< ((pX1_nearest ((x.1 2) &&& (v2 ^^^ (-1))) (x.2 5 (ix v3))) &&& 31)))), (5, .int 0), (4, .int (pX1_nearest ((x.1 2) &&& (v2 ^^^ (-1))) (x.2 5 (ix v3)))), (0, .ref (h 0)), (1, .int v1), (3, .int v3)]) hx hb dX1_letKeepersAct_106 rfl hl (by decide) rfl (fun ls hl => ?_)
              refine lv_aload_n hx hb dX1_letKeepersAct_107 rfl (lv_at hl 3 rfl) ?_
              refine md_get (ci := 1) (C := RX1) (T := TX1) (N := 18) (v := .ref (h 6)) hx hb hts hin hown hK hP rfl 9 (by decide) k_40 rfl rfl rfl dX1_letKeepersAct_108 ?_
              refine lv_iload_n hx hb dX1_letKeepersAct_111 rfl (lv_at hl 5 rfl) ?_
              refine md_ia (v := x.2 5 (ix v3)) hx hb hK hP 5 0 rfl rfl (by first | assumption | decide | exact vp_in_iff.mpr ⟨by omega, by omega⟩ | exact isPlace_in (by assumption) | exact has_in (by assumption)) rfl dX1_letKeepersAct_112 ?_
              refine lv_iload hx hb dX1_letKeepersAct_113 (lv_at hl 2 rfl) ?_
              refine lv_icmp_eq (tgt := 128) hx hb dX1_letKeepersAct_115 (by decide) (fun c_5 => ?_) (fun c_5 => ?_)
              · refine lv_iload hx hb dX1_letKeepersAct_128 (lv_at hl 1 rfl) ?_
                refine lv_if_eq (tgt := 143) hx hb dX1_letKeepersAct_130 (by decide) (fun cz => ?_) (fun cz => absurd cz (by decide))
                refine lv_iload_n hx hb dX1_letKeepersAct_143 rfl (lv_at hl 4 rfl) ?_
                refine lv_if_eq (tgt := 157) hx hb dX1_letKeepersAct_144 (by decide) (fun cz => ?_) (fun cz => absurd c_3 cz)
                refine lv_aload_n hx hb dX1_letKeepersAct_157 rfl (lv_at hl 3 rfl) ?_
                refine lv_iload_n hx hb dX1_letKeepersAct_158 rfl (lv_at hl 5 rfl) ?_
                refine lv_iload hx hb dX1_letKeepersAct_159 (lv_at hl 2 rfl) ?_
                refine go_v hD hS hA (rn_V (As := [.int v3, .int (pX1_nearest ((x.1 2) &&& (v2 ^^^ (-1))) (x.2 5 (ix v3)))]) (rest := []) ⟨hx, hb, hml, hown, hts⟩ (ctX1_takeCoverOff l G cI cC cZ cR h x v3 (pX1_nearest ((x.1 2) &&& (v2 ^^^ (-1))) (x.2 5 (ix v3))) (by first | assumption | decide | exact vp_in_iff.mpr ⟨by omega, by omega⟩ | exact isPlace_in (by assumption) | exact has_in (by assumption))) (cwV 2 hts gX1_letKeepersAct_X1_takeCoverOff rfl rfl rfl (by decide +kernel) ⟨Nat.le_of_ble_eq_true rfl, Nat.le_of_ble_eq_true rfl⟩) (md_recv hK hP rfl) hK hP hD hN rfl hl.1 rfl (Nat.le_of_ble_eq_true rfl) dX1_letKeepersAct_161) (fun H locs hP hD hS => ?_)
                refine lv_iinc (v := (v3 + 1)) (lv' := [(3, .int (v3 + 1)), (2, .int (v2 ||| (1 <<< ((pX1_nearest ((x.1 2) &&& (v2 ^^^ (-1))) (x.2 5 (ix v3))) &&& 31)))), (5, .int 0), (4, .int (pX1_nearest ((x.1 2) &&& (v2 ^^^ (-1))) (x.2 5 (ix v3)))), (0, .ref (h 0)), (1, .int v1)]) hx hb dX1_letKeepersAct_164 hl (k := 5) rfl rfl (by decide) rfl (fun ls hl => ?_)
                have a_164 := i_add1 (a := v3) (by omega) (by omega)
                refine lv_goto (tgt := 9) hx hb dX1_letKeepersAct_167 (by decide) ?_
                exact ih v1 (v2 ||| (1 <<< ((pX1_nearest ((x.1 2) &&& (v2 ^^^ (-1))) (x.2 5 (ix v3))) &&& 31))) (v3 + 1) (pX1_takeCoverOff v3 (pX1_nearest ((x.1 2) &&& (v2 ^^^ (-1))) (x.2 5 (ix v3))) x) (by omega) (by omega) (by omega) ((show pX1_letKeepersAct_L9 (n + 1) v1 v2 v3 x = pX1_letKeepersAct_L9 n v1 (v2 ||| (1 <<< ((pX1_nearest ((x.1 2) &&& (v2 ^^^ (-1))) (x.2 5 (ix v3))) &&& 31))) (v3 + 1) (pX1_takeCoverOff v3 (pX1_nearest ((x.1 2) &&& (v2 ^^^ (-1))) (x.2 5 (ix v3))) x) by rw [pX1_letKeepersAct_L9, if_neg c_1, if_neg c_2, if_pos c_3, if_neg c_4, if_pos c_5]).symm.trans hq) _ _ _ hP hD hS (lv_sub hl [4, 5, 1, 0] rfl)
              · refine lv_aload_n hx hb dX1_letKeepersAct_118 rfl (lv_at hl 3 rfl) ?_
                refine lv_iload_n hx hb dX1_letKeepersAct_119 rfl (lv_at hl 5 rfl) ?_
                refine lv_iload hx hb dX1_letKeepersAct_120 (lv_at hl 2 rfl) ?_
                refine go_v hD hS hA (rn_V (As := [.int v3, .int (pX1_nearest ((x.1 2) &&& (v2 ^^^ (-1))) (x.2 5 (ix v3)))]) (rest := []) ⟨hx, hb, hml, hown, hts⟩ (ctX1_goTowards l G cI cC cZ cR h x v3 (pX1_nearest ((x.1 2) &&& (v2 ^^^ (-1))) (x.2 5 (ix v3))) (by first | assumption | decide | exact vp_in_iff.mpr ⟨by omega, by omega⟩ | exact isPlace_in (by assumption) | exact has_in (by assumption))) (cwV 2 hts gX1_letKeepersAct_X1_goTowards rfl rfl rfl (by decide +kernel) ⟨Nat.le_of_ble_eq_true rfl, Nat.le_of_ble_eq_true rfl⟩) (md_recv hK hP rfl) hK hP hD hN rfl hl.1 rfl (Nat.le_of_ble_eq_true rfl) dX1_letKeepersAct_122) (fun H locs hP hD hS => ?_)
                refine lv_goto (tgt := 164) hx hb dX1_letKeepersAct_125 (by decide) ?_
                refine lv_iinc (v := (v3 + 1)) (lv' := [(3, .int (v3 + 1)), (2, .int (v2 ||| (1 <<< ((pX1_nearest ((x.1 2) &&& (v2 ^^^ (-1))) (x.2 5 (ix v3))) &&& 31)))), (5, .int 0), (4, .int (pX1_nearest ((x.1 2) &&& (v2 ^^^ (-1))) (x.2 5 (ix v3)))), (0, .ref (h 0)), (1, .int v1)]) hx hb dX1_letKeepersAct_164 hl (k := 5) rfl rfl (by decide) rfl (fun ls hl => ?_)
                have a_164 := i_add1 (a := v3) (by omega) (by omega)
                refine lv_goto (tgt := 9) hx hb dX1_letKeepersAct_167 (by decide) ?_
                exact ih v1 (v2 ||| (1 <<< ((pX1_nearest ((x.1 2) &&& (v2 ^^^ (-1))) (x.2 5 (ix v3))) &&& 31))) (v3 + 1) (pX1_goTowards v3 (pX1_nearest ((x.1 2) &&& (v2 ^^^ (-1))) (x.2 5 (ix v3))) x) (by omega) (by omega) (by omega) ((show pX1_letKeepersAct_L9 (n + 1) v1 v2 v3 x = pX1_letKeepersAct_L9 n v1 (v2 ||| (1 <<< ((pX1_nearest ((x.1 2) &&& (v2 ^^^ (-1))) (x.2 5 (ix v3))) &&& 31))) (v3 + 1) (pX1_goTowards v3 (pX1_nearest ((x.1 2) &&& (v2 ^^^ (-1))) (x.2 5 (ix v3))) x) by rw [pX1_letKeepersAct_L9, if_neg c_1, if_neg c_2, if_pos c_3, if_neg c_4, if_neg c_5]).symm.trans hq) _ _ _ hP hD hS (lv_sub hl [4, 5, 1, 0] rfl)
            · refine lv_iconst (v := 1) hx hb dX1_letKeepersAct_59 (by decide) ?_
              refine lv_goto (tgt := 64) hx hb dX1_letKeepersAct_60 (by decide) ?_
              refine lv_istore (lv' := [(5, .int 1), (4, .int (pX1_nearest ((x.1 2) &&& (v2 ^^^ (-1))) (x.2 5 (ix v3)))), (0, .ref (h 0)), (1, .int v1), (2, .int v2), (3, .int v3)]) hx hb dX1_letKeepersAct_64 hl (by decide) rfl (fun ls hl => ?_)
              refine lv_iload hx hb dX1_letKeepersAct_66 (lv_at hl 0 rfl) ?_
              refine lv_if_eq (tgt := 90) hx hb dX1_letKeepersAct_68 (by decide) (fun cz => absurd cz (by decide)) (fun cz => ?_)
              refine lv_aload_n hx hb dX1_letKeepersAct_71 rfl (lv_at hl 2 rfl) ?_
              refine go_i hD hS hA (rn_V (As := []) (rest := []) ⟨hx, hb, hml, hown, hts⟩ (ctX1_outOfTune l G cI cC cZ cR h x) (cwV 0 hts gX1_letKeepersAct_X1_outOfTune rfl rfl rfl (by decide +kernel) ⟨Nat.le_of_ble_eq_true rfl, Nat.le_of_ble_eq_true rfl⟩) (md_recv hK hP rfl) hK hP hD hN rfl hl.1 rfl (Nat.le_of_ble_eq_true rfl) dX1_letKeepersAct_72) (fun H locs hP hD hS => ?_)
              refine lv_iload_n hx hb dX1_letKeepersAct_75 rfl (lv_at hl 4 rfl) ?_
              refine lv_iconst (v := (-1)) hx hb dX1_letKeepersAct_76 (by decide) ?_
              refine lv_ixor hx hb dX1_letKeepersAct_77 ?_
              refine lv_iand hx hb dX1_letKeepersAct_78 ?_
              refine lv_aload_n hx hb dX1_letKeepersAct_79 rfl (lv_at hl 2 rfl) ?_
              refine md_get (ci := 1) (C := RX1) (T := TX1) (N := 18) (v := .ref (h 6)) hx hb hts hin hown hK hP rfl 9 (by decide) k_40 rfl rfl rfl dX1_letKeepersAct_80 ?_
              refine lv_iload_n hx hb dX1_letKeepersAct_83 rfl (lv_at hl 5 rfl) ?_
              refine md_ia (v := x.2 5 (ix v3)) hx hb hK hP 5 0 rfl rfl (by first | assumption | decide | exact vp_in_iff.mpr ⟨by omega, by omega⟩ | exact isPlace_in (by assumption) | exact has_in (by assumption)) rfl dX1_letKeepersAct_84 ?_
              refine gn_i hP hS hA (rn_S (As := [.int ((pX1_outOfTune x) &&& (v2 ^^^ (-1))), .int (x.2 5 (ix v3))]) (rest := []) ⟨hx, hb, hml, hown, hts⟩ (ctX1_nearest l G cI cC cZ cR ((pX1_outOfTune x) &&& (v2 ^^^ (-1))) (x.2 5 (ix v3))) (va_cwS 2 hts gX1_letKeepersAct_X1_nearest rfl rfl rfl (by decide +kernel) ⟨Nat.le_of_ble_eq_true rfl, Nat.le_of_ble_eq_true rfl⟩) hK nilP (nilD (A := A)) hN rfl hl.1 rfl (Nat.le_of_ble_eq_true rfl) dX1_letKeepersAct_85) (fun H locs hP hS => ?_)
              refine lv_istore (lv' := [(4, .int (pX1_nearest ((pX1_outOfTune x) &&& (v2 ^^^ (-1))) (x.2 5 (ix v3)))), (5, .int 1), (0, .ref (h 0)), (1, .int v1), (2, .int v2), (3, .int v3)]) hx hb dX1_letKeepersAct_88 hl (by decide) rfl (fun ls hl => ?_)
              refine lv_iload hx hb dX1_letKeepersAct_90 (lv_at hl 0 rfl) ?_
              refine lv_bipush (v := (-6)) hx hb dX1_letKeepersAct_92 (by decide) ?_
              refine lv_icmp_ne (tgt := 100) hx hb dX1_letKeepersAct_94 (by decide) (fun c_6 => ?_) (fun c_6 => ?_)
              · refine lv_iload_n hx hb dX1_letKeepersAct_100 rfl (lv_at hl 4 rfl) ?_
                refine lv_iconst (v := 1) hx hb dX1_letKeepersAct_101 (by decide) ?_
                refine lv_iload hx hb dX1_letKeepersAct_102 (lv_at hl 0 rfl) ?_
                refine lv_ishl hx hb dX1_letKeepersAct_104 ?_
                refine lv_ior hx hb dX1_letKeepersAct_105 ?_
                refine lv_istore_n (lv' := [(2, .int (v2 ||| (1 <<< ((pX1_nearest ((pX1_outOfTune x) &&& (v2 ^^^ (-1))) (x.2 5 (ix v3))) &&& 31)))), (4, .int (pX1_nearest ((pX1_outOfTune x) &&& (v2 ^^^ (-1))) (x.2 5 (ix v3)))), (5, .int 1), (0, .ref (h 0)), (1, .int v1), (3, .int v3)]) hx hb dX1_letKeepersAct_106 rfl hl (by decide) rfl (fun ls hl => ?_)
                refine lv_aload_n hx hb dX1_letKeepersAct_107 rfl (lv_at hl 3 rfl) ?_
                refine md_get (ci := 1) (C := RX1) (T := TX1) (N := 18) (v := .ref (h 6)) hx hb hts hin hown hK hP rfl 9 (by decide) k_40 rfl rfl rfl dX1_letKeepersAct_108 ?_
                refine lv_iload_n hx hb dX1_letKeepersAct_111 rfl (lv_at hl 5 rfl) ?_
                refine md_ia (v := x.2 5 (ix v3)) hx hb hK hP 5 0 rfl rfl (by first | assumption | decide | exact vp_in_iff.mpr ⟨by omega, by omega⟩ | exact isPlace_in (by assumption) | exact has_in (by assumption)) rfl dX1_letKeepersAct_112 ?_
                refine lv_iload hx hb dX1_letKeepersAct_113 (lv_at hl 1 rfl) ?_
                refine lv_icmp_eq (tgt := 128) hx hb dX1_letKeepersAct_115 (by decide) (fun c_7 => ?_) (fun c_7 => ?_)
                · refine lv_iload hx hb dX1_letKeepersAct_128 (lv_at hl 2 rfl) ?_
                  refine lv_if_eq (tgt := 143) hx hb dX1_letKeepersAct_130 (by decide) (fun cz => absurd cz (by decide)) (fun cz => ?_)
                  refine lv_aload_n hx hb dX1_letKeepersAct_133 rfl (lv_at hl 3 rfl) ?_
                  refine lv_iload_n hx hb dX1_letKeepersAct_134 rfl (lv_at hl 5 rfl) ?_
                  refine lv_iload hx hb dX1_letKeepersAct_135 (lv_at hl 1 rfl) ?_
                  refine go_v hD hS hA (rn_V (As := [.int v3, .int (pX1_nearest ((pX1_outOfTune x) &&& (v2 ^^^ (-1))) (x.2 5 (ix v3)))]) (rest := []) ⟨hx, hb, hml, hown, hts⟩ (ctX1_tune l G cI cC cZ cR h x v3 (pX1_nearest ((pX1_outOfTune x) &&& (v2 ^^^ (-1))) (x.2 5 (ix v3))) (by exact vp_in_iff.mpr ⟨by omega, by omega⟩) (by exact nearest_in (by assumption))) (cwV 2 hts gX1_letKeepersAct_X1_tune rfl rfl rfl (by decide +kernel) ⟨Nat.le_of_ble_eq_true rfl, Nat.le_of_ble_eq_true rfl⟩) (md_recv hK hP rfl) hK hP hD hN rfl hl.1 rfl (Nat.le_of_ble_eq_true rfl) dX1_letKeepersAct_137) (fun H locs hP hD hS => ?_)
                  refine lv_goto (tgt := 164) hx hb dX1_letKeepersAct_140 (by decide) ?_
                  refine lv_iinc (v := (v3 + 1)) (lv' := [(3, .int (v3 + 1)), (2, .int (v2 ||| (1 <<< ((pX1_nearest ((pX1_outOfTune x) &&& (v2 ^^^ (-1))) (x.2 5 (ix v3))) &&& 31)))), (4, .int (pX1_nearest ((pX1_outOfTune x) &&& (v2 ^^^ (-1))) (x.2 5 (ix v3)))), (5, .int 1), (0, .ref (h 0)), (1, .int v1)]) hx hb dX1_letKeepersAct_164 hl (k := 5) rfl rfl (by decide) rfl (fun ls hl => ?_)
                  have a_164 := i_add1 (a := v3) (by omega) (by omega)
                  refine lv_goto (tgt := 9) hx hb dX1_letKeepersAct_167 (by decide) ?_
                  exact ih v1 (v2 ||| (1 <<< ((pX1_nearest ((pX1_outOfTune x) &&& (v2 ^^^ (-1))) (x.2 5 (ix v3))) &&& 31))) (v3 + 1) (pX1_tune v3 (pX1_nearest ((pX1_outOfTune x) &&& (v2 ^^^ (-1))) (x.2 5 (ix v3))) x) (by omega) (by omega) (by omega) ((show pX1_letKeepersAct_L9 (n + 1) v1 v2 v3 x = pX1_letKeepersAct_L9 n v1 (v2 ||| (1 <<< ((pX1_nearest ((pX1_outOfTune x) &&& (v2 ^^^ (-1))) (x.2 5 (ix v3))) &&& 31))) (v3 + 1) (pX1_tune v3 (pX1_nearest ((pX1_outOfTune x) &&& (v2 ^^^ (-1))) (x.2 5 (ix v3))) x) by rw [pX1_letKeepersAct_L9, if_neg c_1, if_neg c_2, if_pos c_3, if_pos c_4, if_neg c_6, if_pos c_7]).symm.trans hq) _ _ _ hP hD hS (lv_sub hl [4, 5, 1, 0] rfl)
                · refine lv_aload_n hx hb dX1_letKeepersAct_118 rfl (lv_at hl 3 rfl) ?_
                  refine lv_iload_n hx hb dX1_letKeepersAct_119 rfl (lv_at hl 5 rfl) ?_
                  refine lv_iload hx hb dX1_letKeepersAct_120 (lv_at hl 1 rfl) ?_
                  refine go_v hD hS hA (rn_V (As := [.int v3, .int (pX1_nearest ((pX1_outOfTune x) &&& (v2 ^^^ (-1))) (x.2 5 (ix v3)))]) (rest := []) ⟨hx, hb, hml, hown, hts⟩ (ctX1_goTowards l G cI cC cZ cR h x v3 (pX1_nearest ((pX1_outOfTune x) &&& (v2 ^^^ (-1))) (x.2 5 (ix v3))) (by first | assumption | decide | exact vp_in_iff.mpr ⟨by omega, by omega⟩ | exact isPlace_in (by assumption) | exact has_in (by assumption))) (cwV 2 hts gX1_letKeepersAct_X1_goTowards rfl rfl rfl (by decide +kernel) ⟨Nat.le_of_ble_eq_true rfl, Nat.le_of_ble_eq_true rfl⟩) (md_recv hK hP rfl) hK hP hD hN rfl hl.1 rfl (Nat.le_of_ble_eq_true rfl) dX1_letKeepersAct_122) (fun H locs hP hD hS => ?_)
                  refine lv_goto (tgt := 164) hx hb dX1_letKeepersAct_125 (by decide) ?_
                  refine lv_iinc (v := (v3 + 1)) (lv' := [(3, .int (v3 + 1)), (2, .int (v2 ||| (1 <<< ((pX1_nearest ((pX1_outOfTune x) &&& (v2 ^^^ (-1))) (x.2 5 (ix v3))) &&& 31)))), (4, .int (pX1_nearest ((pX1_outOfTune x) &&& (v2 ^^^ (-1))) (x.2 5 (ix v3)))), (5, .int 1), (0, .ref (h 0)), (1, .int v1)]) hx hb dX1_letKeepersAct_164 hl (k := 5) rfl rfl (by decide) rfl (fun ls hl => ?_)
                  have a_164 := i_add1 (a := v3) (by omega) (by omega)
                  refine lv_goto (tgt := 9) hx hb dX1_letKeepersAct_167 (by decide) ?_
                  exact ih v1 (v2 ||| (1 <<< ((pX1_nearest ((pX1_outOfTune x) &&& (v2 ^^^ (-1))) (x.2 5 (ix v3))) &&& 31))) (v3 + 1) (pX1_goTowards v3 (pX1_nearest ((pX1_outOfTune x) &&& (v2 ^^^ (-1))) (x.2 5 (ix v3))) x) (by omega) (by omega) (by omega) ((show pX1_letKeepersAct_L9 (n + 1) v1 v2 v3 x = pX1_letKeepersAct_L9 n v1 (v2 ||| (1 <<< ((pX1_nearest ((pX1_outOfTune x) &&& (v2 ^^^ (-1))) (x.2 5 (ix v3))) &&& 31))) (v3 + 1) (pX1_goTowards v3 (pX1_nearest ((pX1_outOfTune x) &&& (v2 ^^^ (-1))) (x.2 5 (ix v3))) x) by rw [pX1_letKeepersAct_L9, if_neg c_1, if_neg c_2, if_pos c_3, if_pos c_4, if_neg c_6, if_neg c_7]).symm.trans hq) _ _ _ hP hD hS (lv_sub hl [4, 5, 1, 0] rfl)
              · refine lv_goto (tgt := 164) hx hb dX1_letKeepersAct_97 (by decide) ?_
                refine lv_iinc (v := (v3 + 1)) (lv' := [(3, .int (v3 + 1)), (4, .int (pX1_nearest ((pX1_outOfTune x) &&& (v2 ^^^ (-1))) (x.2 5 (ix v3)))), (5, .int 1), (0, .ref (h 0)), (1, .int v1), (2, .int v2)]) hx hb dX1_letKeepersAct_164 hl (k := 5) rfl rfl (by decide) rfl (fun ls hl => ?_)
                have a_164 := i_add1 (a := v3) (by omega) (by omega)
                refine lv_goto (tgt := 9) hx hb dX1_letKeepersAct_167 (by decide) ?_
                exact ih v1 v2 (v3 + 1) x (by omega) (by omega) (by omega) ((show pX1_letKeepersAct_L9 (n + 1) v1 v2 v3 x = pX1_letKeepersAct_L9 n v1 v2 (v3 + 1) x by rw [pX1_letKeepersAct_L9, if_neg c_1, if_neg c_2, if_pos c_3, if_pos c_4, if_pos c_6]).symm.trans hq) _ _ _ hP hD hS (lv_sub hl [3, 4, 5, 0] rfl)
          · refine lv_aload_n hx hb dX1_letKeepersAct_26 rfl (lv_at hl 0 rfl) ?_
            refine md_get (ci := 1) (C := RX1) (T := TX1) (N := 18) (v := .int (x.1 1)) hx hb hts hin hown hK hP rfl 2 (by decide) k_19 rfl rfl rfl dX1_letKeepersAct_27 ?_
            refine lv_goto (tgt := 37) hx hb dX1_letKeepersAct_30 (by decide) ?_
            refine lv_iload_n hx hb dX1_letKeepersAct_37 rfl (lv_at hl 2 rfl) ?_
            refine lv_iconst (v := (-1)) hx hb dX1_letKeepersAct_38 (by decide) ?_
            refine lv_ixor hx hb dX1_letKeepersAct_39 ?_
            refine lv_iand hx hb dX1_letKeepersAct_40 ?_
            refine lv_aload_n hx hb dX1_letKeepersAct_41 rfl (lv_at hl 0 rfl) ?_
            refine md_get (ci := 1) (C := RX1) (T := TX1) (N := 18) (v := .ref (h 6)) hx hb hts hin hown hK hP rfl 9 (by decide) k_40 rfl rfl rfl dX1_letKeepersAct_42 ?_
            refine lv_iload_n hx hb dX1_letKeepersAct_45 rfl (lv_at hl 3 rfl) ?_
            refine md_ia (v := x.2 5 (ix v3)) hx hb hK hP 5 0 rfl rfl (by first | assumption | decide | exact vp_in_iff.mpr ⟨by omega, by omega⟩ | exact isPlace_in (by assumption) | exact has_in (by assumption)) rfl dX1_letKeepersAct_46 ?_
            refine gn_i hP hS hA (rn_S (As := [.int ((x.1 1) &&& (v2 ^^^ (-1))), .int (x.2 5 (ix v3))]) (rest := []) ⟨hx, hb, hml, hown, hts⟩ (ctX1_nearest l G cI cC cZ cR ((x.1 1) &&& (v2 ^^^ (-1))) (x.2 5 (ix v3))) (va_cwS 2 hts gX1_letKeepersAct_X1_nearest rfl rfl rfl (by decide +kernel) ⟨Nat.le_of_ble_eq_true rfl, Nat.le_of_ble_eq_true rfl⟩) hK nilP (nilD (A := A)) hN rfl hl.1 rfl (Nat.le_of_ble_eq_true rfl) dX1_letKeepersAct_47) (fun H locs hP hS => ?_)
            refine lv_istore (lv' := [(4, .int (pX1_nearest ((x.1 1) &&& (v2 ^^^ (-1))) (x.2 5 (ix v3)))), (0, .ref (h 0)), (1, .int v1), (2, .int v2), (3, .int v3)]) hx hb dX1_letKeepersAct_50 hl (by decide) rfl (fun ls hl => ?_)
            refine lv_iload hx hb dX1_letKeepersAct_52 (lv_at hl 0 rfl) ?_
            refine lv_bipush (v := (-6)) hx hb dX1_letKeepersAct_54 (by decide) ?_
            refine lv_icmp_ne (tgt := 63) hx hb dX1_letKeepersAct_56 (by decide) (fun c_8 => ?_) (fun c_8 => ?_)
            · refine lv_iconst (v := 0) hx hb dX1_letKeepersAct_63 (by decide) ?_
              refine lv_istore (lv' := [(5, .int 0), (4, .int (pX1_nearest ((x.1 1) &&& (v2 ^^^ (-1))) (x.2 5 (ix v3)))), (0, .ref (h 0)), (1, .int v1), (2, .int v2), (3, .int v3)]) hx hb dX1_letKeepersAct_64 hl (by decide) rfl (fun ls hl => ?_)
              refine lv_iload hx hb dX1_letKeepersAct_66 (lv_at hl 0 rfl) ?_
              refine lv_if_eq (tgt := 90) hx hb dX1_letKeepersAct_68 (by decide) (fun cz => ?_) (fun cz => absurd cz (by decide))
              refine lv_iload hx hb dX1_letKeepersAct_90 (lv_at hl 1 rfl) ?_
              refine lv_bipush (v := (-6)) hx hb dX1_letKeepersAct_92 (by decide) ?_
              refine lv_icmp_ne (tgt := 100) hx hb dX1_letKeepersAct_94 (by decide) (fun cz => ?_) (fun cz => absurd cz c_8)
              refine lv_iload_n hx hb dX1_letKeepersAct_100 rfl (lv_at hl 4 rfl) ?_
              refine lv_iconst (v := 1) hx hb dX1_letKeepersAct_101 (by decide) ?_
              refine lv_iload hx hb dX1_letKeepersAct_102 (lv_at hl 1 rfl) ?_
              refine lv_ishl hx hb dX1_letKeepersAct_104 ?_
              refine lv_ior hx hb dX1_letKeepersAct_105 ?_
              refine lv_istore_n (lv' := [(2, .int (v2 ||| (1 <<< ((pX1_nearest ((x.1 1) &&& (v2 ^^^ (-1))) (x.2 5 (ix v3))) &&& 31)))), (5, .int 0), (4, .int (pX1_nearest ((x.1 1) &&& (v2 ^^^ (-1))) (x.2 5 (ix v3)))), (0, .ref (h 0)), (1, .int v1), (3, .int v3)]) hx hb dX1_letKeepersAct_106 rfl hl (by decide) rfl (fun ls hl => ?_)
              refine lv_aload_n hx hb dX1_letKeepersAct_107 rfl (lv_at hl 3 rfl) ?_
              refine md_get (ci := 1) (C := RX1) (T := TX1) (N := 18) (v := .ref (h 6)) hx hb hts hin hown hK hP rfl 9 (by decide) k_40 rfl rfl rfl dX1_letKeepersAct_108 ?_
              refine lv_iload_n hx hb dX1_letKeepersAct_111 rfl (lv_at hl 5 rfl) ?_
              refine md_ia (v := x.2 5 (ix v3)) hx hb hK hP 5 0 rfl rfl (by first | assumption | decide | exact vp_in_iff.mpr ⟨by omega, by omega⟩ | exact isPlace_in (by assumption) | exact has_in (by assumption)) rfl dX1_letKeepersAct_112 ?_
              refine lv_iload hx hb dX1_letKeepersAct_113 (lv_at hl 2 rfl) ?_
              refine lv_icmp_eq (tgt := 128) hx hb dX1_letKeepersAct_115 (by decide) (fun c_9 => ?_) (fun c_9 => ?_)
              · refine lv_iload hx hb dX1_letKeepersAct_128 (lv_at hl 1 rfl) ?_
                refine lv_if_eq (tgt := 143) hx hb dX1_letKeepersAct_130 (by decide) (fun cz => ?_) (fun cz => absurd cz (by decide))
                refine lv_iload_n hx hb dX1_letKeepersAct_143 rfl (lv_at hl 4 rfl) ?_
                refine lv_if_eq (tgt := 157) hx hb dX1_letKeepersAct_144 (by decide) (fun cz => absurd cz c_3) (fun cz => ?_)
                refine lv_aload_n hx hb dX1_letKeepersAct_147 rfl (lv_at hl 3 rfl) ?_
                refine lv_iload_n hx hb dX1_letKeepersAct_148 rfl (lv_at hl 5 rfl) ?_
                refine lv_iload hx hb dX1_letKeepersAct_149 (lv_at hl 2 rfl) ?_
                refine go_v hD hS hA (rn_V (As := [.int v3, .int (pX1_nearest ((x.1 1) &&& (v2 ^^^ (-1))) (x.2 5 (ix v3)))]) (rest := []) ⟨hx, hb, hml, hown, hts⟩ (ctX1_putCoverOn l G cI cC cZ cR h x v3 (pX1_nearest ((x.1 1) &&& (v2 ^^^ (-1))) (x.2 5 (ix v3))) (by first | assumption | decide | exact vp_in_iff.mpr ⟨by omega, by omega⟩ | exact isPlace_in (by assumption) | exact has_in (by assumption))) (cwV 2 hts gX1_letKeepersAct_X1_putCoverOn rfl rfl rfl (by decide +kernel) ⟨Nat.le_of_ble_eq_true rfl, Nat.le_of_ble_eq_true rfl⟩) (md_recv hK hP rfl) hK hP hD hN rfl hl.1 rfl (Nat.le_of_ble_eq_true rfl) dX1_letKeepersAct_151) (fun H locs hP hD hS => ?_)
                refine lv_goto (tgt := 164) hx hb dX1_letKeepersAct_154 (by decide) ?_
                refine lv_iinc (v := (v3 + 1)) (lv' := [(3, .int (v3 + 1)), (2, .int (v2 ||| (1 <<< ((pX1_nearest ((x.1 1) &&& (v2 ^^^ (-1))) (x.2 5 (ix v3))) &&& 31)))), (5, .int 0), (4, .int (pX1_nearest ((x.1 1) &&& (v2 ^^^ (-1))) (x.2 5 (ix v3)))), (0, .ref (h 0)), (1, .int v1)]) hx hb dX1_letKeepersAct_164 hl (k := 5) rfl rfl (by decide) rfl (fun ls hl => ?_)
                have a_164 := i_add1 (a := v3) (by omega) (by omega)
                refine lv_goto (tgt := 9) hx hb dX1_letKeepersAct_167 (by decide) ?_
                exact ih v1 (v2 ||| (1 <<< ((pX1_nearest ((x.1 1) &&& (v2 ^^^ (-1))) (x.2 5 (ix v3))) &&& 31))) (v3 + 1) (pX1_putCoverOn v3 (pX1_nearest ((x.1 1) &&& (v2 ^^^ (-1))) (x.2 5 (ix v3))) x) (by omega) (by omega) (by omega) ((show pX1_letKeepersAct_L9 (n + 1) v1 v2 v3 x = pX1_letKeepersAct_L9 n v1 (v2 ||| (1 <<< ((pX1_nearest ((x.1 1) &&& (v2 ^^^ (-1))) (x.2 5 (ix v3))) &&& 31))) (v3 + 1) (pX1_putCoverOn v3 (pX1_nearest ((x.1 1) &&& (v2 ^^^ (-1))) (x.2 5 (ix v3))) x) by rw [pX1_letKeepersAct_L9, if_neg c_1, if_neg c_2, if_neg c_3, if_neg c_8, if_pos c_9]).symm.trans hq) _ _ _ hP hD hS (lv_sub hl [4, 5, 1, 0] rfl)
              · refine lv_aload_n hx hb dX1_letKeepersAct_118 rfl (lv_at hl 3 rfl) ?_
                refine lv_iload_n hx hb dX1_letKeepersAct_119 rfl (lv_at hl 5 rfl) ?_
                refine lv_iload hx hb dX1_letKeepersAct_120 (lv_at hl 2 rfl) ?_
                refine go_v hD hS hA (rn_V (As := [.int v3, .int (pX1_nearest ((x.1 1) &&& (v2 ^^^ (-1))) (x.2 5 (ix v3)))]) (rest := []) ⟨hx, hb, hml, hown, hts⟩ (ctX1_goTowards l G cI cC cZ cR h x v3 (pX1_nearest ((x.1 1) &&& (v2 ^^^ (-1))) (x.2 5 (ix v3))) (by first | assumption | decide | exact vp_in_iff.mpr ⟨by omega, by omega⟩ | exact isPlace_in (by assumption) | exact has_in (by assumption))) (cwV 2 hts gX1_letKeepersAct_X1_goTowards rfl rfl rfl (by decide +kernel) ⟨Nat.le_of_ble_eq_true rfl, Nat.le_of_ble_eq_true rfl⟩) (md_recv hK hP rfl) hK hP hD hN rfl hl.1 rfl (Nat.le_of_ble_eq_true rfl) dX1_letKeepersAct_122) (fun H locs hP hD hS => ?_)
                refine lv_goto (tgt := 164) hx hb dX1_letKeepersAct_125 (by decide) ?_
                refine lv_iinc (v := (v3 + 1)) (lv' := [(3, .int (v3 + 1)), (2, .int (v2 ||| (1 <<< ((pX1_nearest ((x.1 1) &&& (v2 ^^^ (-1))) (x.2 5 (ix v3))) &&& 31)))), (5, .int 0), (4, .int (pX1_nearest ((x.1 1) &&& (v2 ^^^ (-1))) (x.2 5 (ix v3)))), (0, .ref (h 0)), (1, .int v1)]) hx hb dX1_letKeepersAct_164 hl (k := 5) rfl rfl (by decide) rfl (fun ls hl => ?_)
                have a_164 := i_add1 (a := v3) (by omega) (by omega)
                refine lv_goto (tgt := 9) hx hb dX1_letKeepersAct_167 (by decide) ?_
                exact ih v1 (v2 ||| (1 <<< ((pX1_nearest ((x.1 1) &&& (v2 ^^^ (-1))) (x.2 5 (ix v3))) &&& 31))) (v3 + 1) (pX1_goTowards v3 (pX1_nearest ((x.1 1) &&& (v2 ^^^ (-1))) (x.2 5 (ix v3))) x) (by omega) (by omega) (by omega) ((show pX1_letKeepersAct_L9 (n + 1) v1 v2 v3 x = pX1_letKeepersAct_L9 n v1 (v2 ||| (1 <<< ((pX1_nearest ((x.1 1) &&& (v2 ^^^ (-1))) (x.2 5 (ix v3))) &&& 31))) (v3 + 1) (pX1_goTowards v3 (pX1_nearest ((x.1 1) &&& (v2 ^^^ (-1))) (x.2 5 (ix v3))) x) by rw [pX1_letKeepersAct_L9, if_neg c_1, if_neg c_2, if_neg c_3, if_neg c_8, if_neg c_9]).symm.trans hq) _ _ _ hP hD hS (lv_sub hl [4, 5, 1, 0] rfl)
            · refine lv_iconst (v := 1) hx hb dX1_letKeepersAct_59 (by decide) ?_
              refine lv_goto (tgt := 64) hx hb dX1_letKeepersAct_60 (by decide) ?_
              refine lv_istore (lv' := [(5, .int 1), (4, .int (pX1_nearest ((x.1 1) &&& (v2 ^^^ (-1))) (x.2 5 (ix v3)))), (0, .ref (h 0)), (1, .int v1), (2, .int v2), (3, .int v3)]) hx hb dX1_letKeepersAct_64 hl (by decide) rfl (fun ls hl => ?_)
              refine lv_iload hx hb dX1_letKeepersAct_66 (lv_at hl 0 rfl) ?_
              refine lv_if_eq (tgt := 90) hx hb dX1_letKeepersAct_68 (by decide) (fun cz => absurd cz (by decide)) (fun cz => ?_)
              refine lv_aload_n hx hb dX1_letKeepersAct_71 rfl (lv_at hl 2 rfl) ?_
              refine go_i hD hS hA (rn_V (As := []) (rest := []) ⟨hx, hb, hml, hown, hts⟩ (ctX1_outOfTune l G cI cC cZ cR h x) (cwV 0 hts gX1_letKeepersAct_X1_outOfTune rfl rfl rfl (by decide +kernel) ⟨Nat.le_of_ble_eq_true rfl, Nat.le_of_ble_eq_true rfl⟩) (md_recv hK hP rfl) hK hP hD hN rfl hl.1 rfl (Nat.le_of_ble_eq_true rfl) dX1_letKeepersAct_72) (fun H locs hP hD hS => ?_)
              refine lv_iload_n hx hb dX1_letKeepersAct_75 rfl (lv_at hl 4 rfl) ?_
              refine lv_iconst (v := (-1)) hx hb dX1_letKeepersAct_76 (by decide) ?_
              refine lv_ixor hx hb dX1_letKeepersAct_77 ?_
              refine lv_iand hx hb dX1_letKeepersAct_78 ?_
              refine lv_aload_n hx hb dX1_letKeepersAct_79 rfl (lv_at hl 2 rfl) ?_
              refine md_get (ci := 1) (C := RX1) (T := TX1) (N := 18) (v := .ref (h 6)) hx hb hts hin hown hK hP rfl 9 (by decide) k_40 rfl rfl rfl dX1_letKeepersAct_80 ?_
              refine lv_iload_n hx hb dX1_letKeepersAct_83 rfl (lv_at hl 5 rfl) ?_
              refine md_ia (v := x.2 5 (ix v3)) hx hb hK hP 5 0 rfl rfl (by first | assumption | decide | exact vp_in_iff.mpr ⟨by omega, by omega⟩ | exact isPlace_in (by assumption) | exact has_in (by assumption)) rfl dX1_letKeepersAct_84 ?_
              refine gn_i hP hS hA (rn_S (As := [.int ((pX1_outOfTune x) &&& (v2 ^^^ (-1))), .int (x.2 5 (ix v3))]) (rest := []) ⟨hx, hb, hml, hown, hts⟩ (ctX1_nearest l G cI cC cZ cR ((pX1_outOfTune x) &&& (v2 ^^^ (-1))) (x.2 5 (ix v3))) (va_cwS 2 hts gX1_letKeepersAct_X1_nearest rfl rfl rfl (by decide +kernel) ⟨Nat.le_of_ble_eq_true rfl, Nat.le_of_ble_eq_true rfl⟩) hK nilP (nilD (A := A)) hN rfl hl.1 rfl (Nat.le_of_ble_eq_true rfl) dX1_letKeepersAct_85) (fun H locs hP hS => ?_)
              refine lv_istore (lv' := [(4, .int (pX1_nearest ((pX1_outOfTune x) &&& (v2 ^^^ (-1))) (x.2 5 (ix v3)))), (5, .int 1), (0, .ref (h 0)), (1, .int v1), (2, .int v2), (3, .int v3)]) hx hb dX1_letKeepersAct_88 hl (by decide) rfl (fun ls hl => ?_)
              refine lv_iload hx hb dX1_letKeepersAct_90 (lv_at hl 0 rfl) ?_
              refine lv_bipush (v := (-6)) hx hb dX1_letKeepersAct_92 (by decide) ?_
              refine lv_icmp_ne (tgt := 100) hx hb dX1_letKeepersAct_94 (by decide) (fun c_10 => ?_) (fun c_10 => ?_)
              · refine lv_iload_n hx hb dX1_letKeepersAct_100 rfl (lv_at hl 4 rfl) ?_
                refine lv_iconst (v := 1) hx hb dX1_letKeepersAct_101 (by decide) ?_
                refine lv_iload hx hb dX1_letKeepersAct_102 (lv_at hl 0 rfl) ?_
                refine lv_ishl hx hb dX1_letKeepersAct_104 ?_
                refine lv_ior hx hb dX1_letKeepersAct_105 ?_
                refine lv_istore_n (lv' := [(2, .int (v2 ||| (1 <<< ((pX1_nearest ((pX1_outOfTune x) &&& (v2 ^^^ (-1))) (x.2 5 (ix v3))) &&& 31)))), (4, .int (pX1_nearest ((pX1_outOfTune x) &&& (v2 ^^^ (-1))) (x.2 5 (ix v3)))), (5, .int 1), (0, .ref (h 0)), (1, .int v1), (3, .int v3)]) hx hb dX1_letKeepersAct_106 rfl hl (by decide) rfl (fun ls hl => ?_)
                refine lv_aload_n hx hb dX1_letKeepersAct_107 rfl (lv_at hl 3 rfl) ?_
                refine md_get (ci := 1) (C := RX1) (T := TX1) (N := 18) (v := .ref (h 6)) hx hb hts hin hown hK hP rfl 9 (by decide) k_40 rfl rfl rfl dX1_letKeepersAct_108 ?_
                refine lv_iload_n hx hb dX1_letKeepersAct_111 rfl (lv_at hl 5 rfl) ?_
                refine md_ia (v := x.2 5 (ix v3)) hx hb hK hP 5 0 rfl rfl (by first | assumption | decide | exact vp_in_iff.mpr ⟨by omega, by omega⟩ | exact isPlace_in (by assumption) | exact has_in (by assumption)) rfl dX1_letKeepersAct_112 ?_
                refine lv_iload hx hb dX1_letKeepersAct_113 (lv_at hl 1 rfl) ?_
                refine lv_icmp_eq (tgt := 128) hx hb dX1_letKeepersAct_115 (by decide) (fun c_11 => ?_) (fun c_11 => ?_)
                · refine lv_iload hx hb dX1_letKeepersAct_128 (lv_at hl 2 rfl) ?_
                  refine lv_if_eq (tgt := 143) hx hb dX1_letKeepersAct_130 (by decide) (fun cz => absurd cz (by decide)) (fun cz => ?_)
                  refine lv_aload_n hx hb dX1_letKeepersAct_133 rfl (lv_at hl 3 rfl) ?_
                  refine lv_iload_n hx hb dX1_letKeepersAct_134 rfl (lv_at hl 5 rfl) ?_
                  refine lv_iload hx hb dX1_letKeepersAct_135 (lv_at hl 1 rfl) ?_
                  refine go_v hD hS hA (rn_V (As := [.int v3, .int (pX1_nearest ((pX1_outOfTune x) &&& (v2 ^^^ (-1))) (x.2 5 (ix v3)))]) (rest := []) ⟨hx, hb, hml, hown, hts⟩ (ctX1_tune l G cI cC cZ cR h x v3 (pX1_nearest ((pX1_outOfTune x) &&& (v2 ^^^ (-1))) (x.2 5 (ix v3))) (by exact vp_in_iff.mpr ⟨by omega, by omega⟩) (by exact nearest_in (by assumption))) (cwV 2 hts gX1_letKeepersAct_X1_tune rfl rfl rfl (by decide +kernel) ⟨Nat.le_of_ble_eq_true rfl, Nat.le_of_ble_eq_true rfl⟩) (md_recv hK hP rfl) hK hP hD hN rfl hl.1 rfl (Nat.le_of_ble_eq_true rfl) dX1_letKeepersAct_137) (fun H locs hP hD hS => ?_)
                  refine lv_goto (tgt := 164) hx hb dX1_letKeepersAct_140 (by decide) ?_
                  refine lv_iinc (v := (v3 + 1)) (lv' := [(3, .int (v3 + 1)), (2, .int (v2 ||| (1 <<< ((pX1_nearest ((pX1_outOfTune x) &&& (v2 ^^^ (-1))) (x.2 5 (ix v3))) &&& 31)))), (4, .int (pX1_nearest ((pX1_outOfTune x) &&& (v2 ^^^ (-1))) (x.2 5 (ix v3)))), (5, .int 1), (0, .ref (h 0)), (1, .int v1)]) hx hb dX1_letKeepersAct_164 hl (k := 5) rfl rfl (by decide) rfl (fun ls hl => ?_)
                  have a_164 := i_add1 (a := v3) (by omega) (by omega)
                  refine lv_goto (tgt := 9) hx hb dX1_letKeepersAct_167 (by decide) ?_
                  exact ih v1 (v2 ||| (1 <<< ((pX1_nearest ((pX1_outOfTune x) &&& (v2 ^^^ (-1))) (x.2 5 (ix v3))) &&& 31))) (v3 + 1) (pX1_tune v3 (pX1_nearest ((pX1_outOfTune x) &&& (v2 ^^^ (-1))) (x.2 5 (ix v3))) x) (by omega) (by omega) (by omega) ((show pX1_letKeepersAct_L9 (n + 1) v1 v2 v3 x = pX1_letKeepersAct_L9 n v1 (v2 ||| (1 <<< ((pX1_nearest ((pX1_outOfTune x) &&& (v2 ^^^ (-1))) (x.2 5 (ix v3))) &&& 31))) (v3 + 1) (pX1_tune v3 (pX1_nearest ((pX1_outOfTune x) &&& (v2 ^^^ (-1))) (x.2 5 (ix v3))) x) by rw [pX1_letKeepersAct_L9, if_neg c_1, if_neg c_2, if_neg c_3, if_pos c_8, if_neg c_10, if_pos c_11]).symm.trans hq) _ _ _ hP hD hS (lv_sub hl [4, 5, 1, 0] rfl)
                · refine lv_aload_n hx hb dX1_letKeepersAct_118 rfl (lv_at hl 3 rfl) ?_
                  refine lv_iload_n hx hb dX1_letKeepersAct_119 rfl (lv_at hl 5 rfl) ?_
                  refine lv_iload hx hb dX1_letKeepersAct_120 (lv_at hl 1 rfl) ?_
                  refine go_v hD hS hA (rn_V (As := [.int v3, .int (pX1_nearest ((pX1_outOfTune x) &&& (v2 ^^^ (-1))) (x.2 5 (ix v3)))]) (rest := []) ⟨hx, hb, hml, hown, hts⟩ (ctX1_goTowards l G cI cC cZ cR h x v3 (pX1_nearest ((pX1_outOfTune x) &&& (v2 ^^^ (-1))) (x.2 5 (ix v3))) (by first | assumption | decide | exact vp_in_iff.mpr ⟨by omega, by omega⟩ | exact isPlace_in (by assumption) | exact has_in (by assumption))) (cwV 2 hts gX1_letKeepersAct_X1_goTowards rfl rfl rfl (by decide +kernel) ⟨Nat.le_of_ble_eq_true rfl, Nat.le_of_ble_eq_true rfl⟩) (md_recv hK hP rfl) hK hP hD hN rfl hl.1 rfl (Nat.le_of_ble_eq_true rfl) dX1_letKeepersAct_122) (fun H locs hP hD hS => ?_)
                  refine lv_goto (tgt := 164) hx hb dX1_letKeepersAct_125 (by decide) ?_
                  refine lv_iinc (v := (v3 + 1)) (lv' := [(3, .int (v3 + 1)), (2, .int (v2 ||| (1 <<< ((pX1_nearest ((pX1_outOfTune x) &&& (v2 ^^^ (-1))) (x.2 5 (ix v3))) &&& 31)))), (4, .int (pX1_nearest ((pX1_outOfTune x) &&& (v2 ^^^ (-1))) (x.2 5 (ix v3)))), (5, .int 1), (0, .ref (h 0)), (1, .int v1)]) hx hb dX1_letKeepersAct_164 hl (k := 5) rfl rfl (by decide) rfl (fun ls hl => ?_)
                  have a_164 := i_add1 (a := v3) (by omega) (by omega)
                  refine lv_goto (tgt := 9) hx hb dX1_letKeepersAct_167 (by decide) ?_
                  exact ih v1 (v2 ||| (1 <<< ((pX1_nearest ((pX1_outOfTune x) &&& (v2 ^^^ (-1))) (x.2 5 (ix v3))) &&& 31))) (v3 + 1) (pX1_goTowards v3 (pX1_nearest ((pX1_outOfTune x) &&& (v2 ^^^ (-1))) (x.2 5 (ix v3))) x) (by omega) (by omega) (by omega) ((show pX1_letKeepersAct_L9 (n + 1) v1 v2 v3 x = pX1_letKeepersAct_L9 n v1 (v2 ||| (1 <<< ((pX1_nearest ((pX1_outOfTune x) &&& (v2 ^^^ (-1))) (x.2 5 (ix v3))) &&& 31))) (v3 + 1) (pX1_goTowards v3 (pX1_nearest ((pX1_outOfTune x) &&& (v2 ^^^ (-1))) (x.2 5 (ix v3))) x) by rw [pX1_letKeepersAct_L9, if_neg c_1, if_neg c_2, if_neg c_3, if_pos c_8, if_neg c_10, if_neg c_11]).symm.trans hq) _ _ _ hP hD hS (lv_sub hl [4, 5, 1, 0] rfl)
              · refine lv_goto (tgt := 164) hx hb dX1_letKeepersAct_97 (by decide) ?_
                refine lv_iinc (v := (v3 + 1)) (lv' := [(3, .int (v3 + 1)), (4, .int (pX1_nearest ((pX1_outOfTune x) &&& (v2 ^^^ (-1))) (x.2 5 (ix v3)))), (5, .int 1), (0, .ref (h 0)), (1, .int v1), (2, .int v2)]) hx hb dX1_letKeepersAct_164 hl (k := 5) rfl rfl (by decide) rfl (fun ls hl => ?_)
                have a_164 := i_add1 (a := v3) (by omega) (by omega)
                refine lv_goto (tgt := 9) hx hb dX1_letKeepersAct_167 (by decide) ?_
                exact ih v1 v2 (v3 + 1) x (by omega) (by omega) (by omega) ((show pX1_letKeepersAct_L9 (n + 1) v1 v2 v3 x = pX1_letKeepersAct_L9 n v1 v2 (v3 + 1) x by rw [pX1_letKeepersAct_L9, if_neg c_1, if_neg c_2, if_neg c_3, if_pos c_8, if_pos c_10]).symm.trans hq) _ _ _ hP hD hS (lv_sub hl [3, 4, 5, 0] rfl)
  refine lv_aload_n hx hb dX1_letKeepersAct_0 rfl (lv_at hl 0 rfl) ?_
  refine go_i hD hS hA (rn_V (As := []) (rest := []) ⟨hx, hb, hml, hown, hts⟩ (ctX1_rainIsAhead l G cI cC cZ cR h x) (cwV 0 hts gX1_letKeepersAct_X1_rainIsAhead rfl rfl rfl (by decide +kernel) ⟨Nat.le_of_ble_eq_true rfl, Nat.le_of_ble_eq_true rfl⟩) (md_recv hK hP rfl) hK hP hD hN rfl hl.1 rfl (Nat.le_of_ble_eq_true rfl) dX1_letKeepersAct_1) (fun H locs hP hD hS => ?_)
  refine lv_istore_n (lv' := [(1, .int (pX1_rainIsAhead x)), (0, .ref (h 0))]) hx hb dX1_letKeepersAct_4 rfl hl (by decide) rfl (fun ls hl => ?_)
  refine lv_iconst (v := 0) hx hb dX1_letKeepersAct_5 (by decide) ?_
  refine lv_istore_n (lv' := [(2, .int 0), (1, .int (pX1_rainIsAhead x)), (0, .ref (h 0))]) hx hb dX1_letKeepersAct_6 rfl hl (by decide) rfl (fun ls hl => ?_)
  refine lv_iconst (v := 0) hx hb dX1_letKeepersAct_7 (by decide) ?_
  refine lv_istore_n (lv' := [(3, .int 0), (2, .int 0), (1, .int (pX1_rainIsAhead x)), (0, .ref (h 0))]) hx hb dX1_letKeepersAct_8 rfl hl (by decide) rfl (fun ls hl => ?_)
  exact lp_9 6 (pX1_rainIsAhead x) 0 0 x (by first | decide | omega | assumption) (by first | decide | omega | assumption) (by decide) ((show pX1_letKeepersAct x = pX1_letKeepersAct_L9 6 (pX1_rainIsAhead x) 0 0 x by rw [pX1_letKeepersAct]).symm.trans hres) _ _ _ hP hD hS (lv_sub hl [3, 2, 1, 0] rfl)
def pX1_passHours_L7 (a1 : Int32) : Nat → Int32 → Int32 → SR → Int32 × SR
  | 0, v2, v3, x => (0, x)
  | n + 1, v2, v3, x => if a1 ≤ v3 then (((x.1 6) - v2), x)
    else if (pX1_rainsAfter 0 (pX1_letKeepersAct x)) = 0 then pX1_passHours_L7 a1 n v2 (v3 + 1) (pS (pX1_letThievesCome (pX1_letPianosBePlayed (pX1_letPianosDry (pX1_letKeepersAct x)))) 5 (((pX1_letThievesCome (pX1_letPianosBePlayed (pX1_letPianosDry (pX1_letKeepersAct x)))).1 5) + 1))
      else pX1_passHours_L7 a1 n v2 (v3 + 1) (pS (pX1_letThievesCome (pX1_letRainFall (pX1_letKeepersAct x))) 5 (((pX1_letThievesCome (pX1_letRainFall (pX1_letKeepersAct x))).1 5) + 1))
def pX1_passHours (a1 : Int32) (x : SR) : Int32 × SR := pX1_passHours_L7 a1 100 (x.1 6) 0 x
set_option maxHeartbeats 4000000 in
set_option maxRecDepth 100000 in
theorem ctX1_passHours (l : Launch) (G : va_G) (cI cC cZ cR : ClassId) (h : Ad) (x : SR) (a1 : Int32) (q_0 : 0 ≤ Int32.toInt a1) (q_1 : Int32.toInt a1 ≤ 99) : Ct l yX1_passHours wsX1_passHours (rmz 3 68) G (TY cI cC cZ cR) [.ref (h 0), .int a1] (wSt cI h x) (Qi G (wSt cI h x) (pX1_passHours a1 x).1 (wSt cI h (pX1_passHours a1 x).2)) := by
  refine Ct.ofI (cc := cX1_passHours) (maxL := 4) (ret := (some .int)) (by decide) rfl rfl ?_
  intro p e s m below meth c A ls E0 hP hD hS hl
  obtain ⟨hx, hb, hr, hml, hlocks, hts, hown, hK, hN, hA⟩ := E0
  have hl : lv_has ls 4 [(0, .ref (h 0)), (1, .int a1)] := hl
  have hin : ∀ w ∈ wsX10, w ∈ wsX1_passHours := fun w hw => List.mem_cons_of_mem _ (List.mem_append_right _ (hw))
  have k_61 : (Cond.fieldLink RX1 61 RX1 (TX1 16).2.1 (TX1 16).2.2.1).before ([.ref (h 0), .int a1] : List Value).toArray s = true := hts _ (List.mem_of_getElem? (i := 1) rfl)
  have k_58 : (Cond.fieldLink RX1 58 RX1 (TX1 15).2.1 (TX1 15).2.2.1).before ([.ref (h 0), .int a1] : List Value).toArray s = true := hts _ (List.mem_of_getElem? (i := 2) rfl)
  generalize hres : pX1_passHours a1 x = res
  have lp_7 : ∀ (n : Nat) (v2 : Int32) (v3 : Int32) (x : SR), 0 ≤ Int32.toInt v3 → Int32.toInt v3 ≤ Int32.toInt a1 → Int32.toInt a1 - Int32.toInt v3 < (n : Int) → pX1_passHours_L7 a1 n v2 v3 x = res → ∀ (H : Heap) (locs : List Loc) (ls : Array Slot), va_P G vwCl (wSt cI h x) H → va_D A (wSt cI h x) → va_S A s.heap H locs → lv_has ls 4 [(0, .ref (h 0)), (1, .int a1), (2, .int v2), (3, .int v3)] → W p l e (rmz 3 68) s m ([.ref (h 0), .int a1] : List Value).toArray below meth c H locs 0 0 (MQ below (QiA G A res.1 (wSt cI h res.2)) ([.ref (h 0), .int a1] : List Value).toArray s 0 0 A) (F0 m 7 ls []) := by
    intro n
    induction n with
    | zero =>
      intro v2 v3 x g_0 g_1 hm
      exfalso; omega
    | succ n ih =>
      intro v2 v3 x g_0 g_1 hm hq H locs ls hP hD hS hl
      refine lv_iload_n hx hb dX1_passHours_7 rfl (lv_at hl 3 rfl) ?_
      refine lv_iload_n hx hb dX1_passHours_8 rfl (lv_at hl 1 rfl) ?_
      refine lv_icmp_ge (tgt := 59) hx hb dX1_passHours_9 (by decide) (fun c_1 => ?_) (fun c_1 => ?_)
      · have t_1 := i_le (z := (Int32.toInt a1)) (w := (Int32.toInt v3)) c_1 rfl rfl
        refine lv_aload_n hx hb dX1_passHours_59 rfl (lv_at hl 0 rfl) ?_
        refine md_get (ci := 1) (C := RX1) (T := TX1) (N := 18) (v := .int (x.1 6)) hx hb hts hin hown hK hP rfl 16 (by decide) k_61 rfl rfl rfl dX1_passHours_60 ?_
        refine lv_iload_n hx hb dX1_passHours_63 rfl (lv_at hl 2 rfl) ?_
        refine lv_isub hx hb dX1_passHours_64 ?_
        exact rt_b hx hb hr hlocks hP hD hS rfl ((show pX1_passHours_L7 a1 (n + 1) v2 v3 x = (((x.1 6) - v2), x) by rw [pX1_passHours_L7, if_pos c_1]).symm.trans hq |>.symm) dX1_passHours_65
      · have t_1 := i_nle (z := (Int32.toInt a1)) (w := (Int32.toInt v3)) c_1 rfl rfl
        refine lv_aload_n hx hb dX1_passHours_12 rfl (lv_at hl 0 rfl) ?_
        refine go_v hD hS hA (rn_V (As := []) (rest := []) ⟨hx, hb, hml, hown, hts⟩ (ctX1_letKeepersAct l G cI cC cZ cR h x) (cwV 0 hts gX1_passHours_X1_letKeepersAct rfl rfl rfl (by decide +kernel) ⟨Nat.le_of_ble_eq_true rfl, Nat.le_of_ble_eq_true rfl⟩) (md_recv hK hP rfl) hK hP hD hN rfl hl.1 rfl (Nat.le_of_ble_eq_true rfl) dX1_passHours_13) (fun H locs hP hD hS => ?_)
        refine lv_aload_n hx hb dX1_passHours_16 rfl (lv_at hl 0 rfl) ?_
        refine lv_iconst (v := 0) hx hb dX1_passHours_17 (by decide) ?_
        refine go_i hD hS hA (rn_V (As := [.int 0]) (rest := []) ⟨hx, hb, hml, hown, hts⟩ (ctX1_rainsAfter l G cI cC cZ cR h (pX1_letKeepersAct x) 0) (cwV 1 hts gX1_passHours_X1_rainsAfter rfl rfl rfl (by decide +kernel) ⟨Nat.le_of_ble_eq_true rfl, Nat.le_of_ble_eq_true rfl⟩) (md_recv hK hP rfl) hK hP hD hN rfl hl.1 rfl (Nat.le_of_ble_eq_true rfl) dX1_passHours_18) (fun H locs hP hD hS => ?_)
        refine lv_if_eq (tgt := 31) hx hb dX1_passHours_21 (by decide) (fun c_2 => ?_) (fun c_2 => ?_)
        · refine lv_aload_n hx hb dX1_passHours_31 rfl (lv_at hl 0 rfl) ?_
          refine go_v hD hS hA (rn_V (As := []) (rest := []) ⟨hx, hb, hml, hown, hts⟩ (ctX1_letPianosDry l G cI cC cZ cR h (pX1_letKeepersAct x)) (cwV 0 hts gX1_passHours_X1_letPianosDry rfl rfl rfl (by decide +kernel) ⟨Nat.le_of_ble_eq_true rfl, Nat.le_of_ble_eq_true rfl⟩) (md_recv hK hP rfl) hK hP hD hN rfl hl.1 rfl (Nat.le_of_ble_eq_true rfl) dX1_passHours_32) (fun H locs hP hD hS => ?_)
          refine lv_aload_n hx hb dX1_passHours_35 rfl (lv_at hl 0 rfl) ?_
          refine go_v hD hS hA (rn_V (As := []) (rest := []) ⟨hx, hb, hml, hown, hts⟩ (ctX1_letPianosBePlayed l G cI cC cZ cR h (pX1_letPianosDry (pX1_letKeepersAct x))) (cwV 0 hts gX1_passHours_X1_letPianosBePlayed rfl rfl rfl (by decide +kernel) ⟨Nat.le_of_ble_eq_true rfl, Nat.le_of_ble_eq_true rfl⟩) (md_recv hK hP rfl) hK hP hD hN rfl hl.1 rfl (Nat.le_of_ble_eq_true rfl) dX1_passHours_36) (fun H locs hP hD hS => ?_)
          refine lv_aload_n hx hb dX1_passHours_39 rfl (lv_at hl 0 rfl) ?_
          refine go_v hD hS hA (rn_V (As := []) (rest := []) ⟨hx, hb, hml, hown, hts⟩ (ctX1_letThievesCome l G cI cC cZ cR h (pX1_letPianosBePlayed (pX1_letPianosDry (pX1_letKeepersAct x)))) (cwV 0 hts gX1_passHours_X1_letThievesCome rfl rfl rfl (by decide +kernel) ⟨Nat.le_of_ble_eq_true rfl, Nat.le_of_ble_eq_true rfl⟩) (md_recv hK hP rfl) hK hP hD hN rfl hl.1 rfl (Nat.le_of_ble_eq_true rfl) dX1_passHours_40) (fun H locs hP hD hS => ?_)
          refine lv_aload_n hx hb dX1_passHours_43 rfl (lv_at hl 0 rfl) ?_
          refine lv_dup hx hb dX1_passHours_44 rfl ?_
          refine md_get (ci := 1) (C := RX1) (T := TX1) (N := 18) (v := .int ((pX1_letThievesCome (pX1_letPianosBePlayed (pX1_letPianosDry (pX1_letKeepersAct x)))).1 5)) hx hb hts hin hown hK hP rfl 15 (by decide) k_58 rfl rfl rfl dX1_passHours_45 ?_
          refine lv_iconst (v := 1) hx hb dX1_passHours_48 (by decide) ?_
          refine lv_iadd hx hb dX1_passHours_49 ?_
          refine md_put (ci := 1) (C := RX1) (T := TX1) (N := 18) hx hb hts hin tyX1 tyX1_ok nmX1 hown hK hP hD hS rfl 15 (by decide) k_58 rfl rfl (q := 5) rfl (fu (by decide)) rfl rfl dX1_passHours_50 (fun H locs hP hD hS => ?_)
          refine lv_iinc (v := (v3 + 1)) (lv' := [(3, .int (v3 + 1)), (0, .ref (h 0)), (1, .int a1), (2, .int v2)]) hx hb dX1_passHours_53 hl (k := 3) rfl rfl (by decide) rfl (fun ls hl => ?_)
          have a_53 := i_add1 (a := v3) (by omega) (by omega)
          refine lv_goto (tgt := 7) hx hb dX1_passHours_56 (by decide) ?_
          exact ih v2 (v3 + 1) (pS (pX1_letThievesCome (pX1_letPianosBePlayed (pX1_letPianosDry (pX1_letKeepersAct x)))) 5 (((pX1_letThievesCome (pX1_letPianosBePlayed (pX1_letPianosDry (pX1_letKeepersAct x)))).1 5) + 1)) (by omega) (by omega) (by omega) ((show pX1_passHours_L7 a1 (n + 1) v2 v3 x = pX1_passHours_L7 a1 n v2 (v3 + 1) (pS (pX1_letThievesCome (pX1_letPianosBePlayed (pX1_letPianosDry (pX1_letKeepersAct x)))) 5 (((pX1_letThievesCome (pX1_letPianosBePlayed (pX1_letPianosDry (pX1_letKeepersAct x)))).1 5) + 1)) by rw [pX1_passHours_L7, if_neg c_1, if_pos c_2]).symm.trans hq) _ _ _ hP hD hS (lv_sub hl [1, 2, 3, 0] rfl)
        · refine lv_aload_n hx hb dX1_passHours_24 rfl (lv_at hl 0 rfl) ?_
          refine go_v hD hS hA (rn_V (As := []) (rest := []) ⟨hx, hb, hml, hown, hts⟩ (ctX1_letRainFall l G cI cC cZ cR h (pX1_letKeepersAct x)) (cwV 0 hts gX1_passHours_X1_letRainFall rfl rfl rfl (by decide +kernel) ⟨Nat.le_of_ble_eq_true rfl, Nat.le_of_ble_eq_true rfl⟩) (md_recv hK hP rfl) hK hP hD hN rfl hl.1 rfl (Nat.le_of_ble_eq_true rfl) dX1_passHours_25) (fun H locs hP hD hS => ?_)
          refine lv_goto (tgt := 39) hx hb dX1_passHours_28 (by decide) ?_
          refine lv_aload_n hx hb dX1_passHours_39 rfl (lv_at hl 0 rfl) ?_
          refine go_v hD hS hA (rn_V (As := []) (rest := []) ⟨hx, hb, hml, hown, hts⟩ (ctX1_letThievesCome l G cI cC cZ cR h (pX1_letRainFall (pX1_letKeepersAct x))) (cwV 0 hts gX1_passHours_X1_letThievesCome rfl rfl rfl (by decide +kernel) ⟨Nat.le_of_ble_eq_true rfl, Nat.le_of_ble_eq_true rfl⟩) (md_recv hK hP rfl) hK hP hD hN rfl hl.1 rfl (Nat.le_of_ble_eq_true rfl) dX1_passHours_40) (fun H locs hP hD hS => ?_)
          refine lv_aload_n hx hb dX1_passHours_43 rfl (lv_at hl 0 rfl) ?_
          refine lv_dup hx hb dX1_passHours_44 rfl ?_
          refine md_get (ci := 1) (C := RX1) (T := TX1) (N := 18) (v := .int ((pX1_letThievesCome (pX1_letRainFall (pX1_letKeepersAct x))).1 5)) hx hb hts hin hown hK hP rfl 15 (by decide) k_58 rfl rfl rfl dX1_passHours_45 ?_
          refine lv_iconst (v := 1) hx hb dX1_passHours_48 (by decide) ?_
          refine lv_iadd hx hb dX1_passHours_49 ?_
          refine md_put (ci := 1) (C := RX1) (T := TX1) (N := 18) hx hb hts hin tyX1 tyX1_ok nmX1 hown hK hP hD hS rfl 15 (by decide) k_58 rfl rfl (q := 5) rfl (fu (by decide)) rfl rfl dX1_passHours_50 (fun H locs hP hD hS => ?_)
          refine lv_iinc (v := (v3 + 1)) (lv' := [(3, .int (v3 + 1)), (0, .ref (h 0)), (1, .int a1), (2, .int v2)]) hx hb dX1_passHours_53 hl (k := 3) rfl rfl (by decide) rfl (fun ls hl => ?_)
          have a_53 := i_add1 (a := v3) (by omega) (by omega)
          refine lv_goto (tgt := 7) hx hb dX1_passHours_56 (by decide) ?_
          exact ih v2 (v3 + 1) (pS (pX1_letThievesCome (pX1_letRainFall (pX1_letKeepersAct x))) 5 (((pX1_letThievesCome (pX1_letRainFall (pX1_letKeepersAct x))).1 5) + 1)) (by omega) (by omega) (by omega) ((show pX1_passHours_L7 a1 (n + 1) v2 v3 x = pX1_passHours_L7 a1 n v2 (v3 + 1) (pS (pX1_letThievesCome (pX1_letRainFall (pX1_letKeepersAct x))) 5 (((pX1_letThievesCome (pX1_letRainFall (pX1_letKeepersAct x))).1 5) + 1)) by rw [pX1_passHours_L7, if_neg c_1, if_neg c_2]).symm.trans hq) _ _ _ hP hD hS (lv_sub hl [1, 2, 3, 0] rfl)
  refine lv_aload_n hx hb dX1_passHours_0 rfl (lv_at hl 0 rfl) ?_
  refine md_get (ci := 1) (C := RX1) (T := TX1) (N := 18) (v := .int (x.1 6)) hx hb hts hin hown hK hP rfl 16 (by decide) k_61 rfl rfl rfl dX1_passHours_1 ?_
  refine lv_istore_n (lv' := [(2, .int (x.1 6)), (0, .ref (h 0)), (1, .int a1)]) hx hb dX1_passHours_4 rfl hl (by decide) rfl (fun ls hl => ?_)
  refine lv_iconst (v := 0) hx hb dX1_passHours_5 (by decide) ?_
  refine lv_istore_n (lv' := [(3, .int 0), (2, .int (x.1 6)), (0, .ref (h 0)), (1, .int a1)]) hx hb dX1_passHours_6 rfl hl (by decide) rfl (fun ls hl => ?_)
  exact lp_7 100 (x.1 6) 0 x (by decide) (by assumption) (by show Int32.toInt a1 - 0 < ((100 : Nat) : Int); omega) ((show pX1_passHours a1 x = pX1_passHours_L7 a1 100 (x.1 6) 0 x by rw [pX1_passHours]).symm.trans hres) _ _ _ hP hD hS (lv_sub hl [2, 3, 1, 0] rfl)
def pX1_passCounted (a1 : Int32) (x : SR) : Int32 × SR := if a1 < 1 then ((-2), x)
  else if a1 ≤ 99 then if ((x.1 5) + a1) ≤ 9999 then ((pX1_passHours a1 x).1, (pX1_passHours a1 x).2)
      else ((-5), x)
    else ((-2), x)
set_option maxHeartbeats 4000000 in
set_option maxRecDepth 100000 in
theorem ctX1_passCounted (l : Launch) (G : va_G) (cI cC cZ cR : ClassId) (h : Ad) (x : SR) (a1 : Int32) : Ct l yX1_passCounted wsX1_passCounted (rmz 4 91) G (TY cI cC cZ cR) [.ref (h 0), .int a1] (wSt cI h x) (Qi G (wSt cI h x) (pX1_passCounted a1 x).1 (wSt cI h (pX1_passCounted a1 x).2)) := by
  refine Ct.ofI (cc := cX1_passCounted) (maxL := 2) (ret := (some .int)) (by decide) rfl rfl ?_
  intro p e s m below meth c A ls E0 hP hD hS hl
  obtain ⟨hx, hb, hr, hml, hlocks, hts, hown, hK, hN, hA⟩ := E0
  have hl : lv_has ls 2 [(0, .ref (h 0)), (1, .int a1)] := hl
  have hin : ∀ w ∈ wsX10, w ∈ wsX1_passCounted := fun w hw => List.mem_cons_of_mem _ (List.mem_append_right _ (hw))
  have k_58 : (Cond.fieldLink RX1 58 RX1 (TX1 15).2.1 (TX1 15).2.2.1).before ([.ref (h 0), .int a1] : List Value).toArray s = true := hts _ (List.mem_of_getElem? (i := 1) rfl)
  generalize hres : pX1_passCounted a1 x = res
  refine lv_iload_n hx hb dX1_passCounted_0 rfl (lv_at hl 1 rfl) ?_
  refine lv_iconst (v := 1) hx hb dX1_passCounted_1 (by decide) ?_
  refine lv_icmp_lt (tgt := 11) hx hb dX1_passCounted_2 (by decide) (fun c_1 => ?_) (fun c_1 => ?_)
  · have t_1 := i_lt (z := (Int32.toInt a1)) (w := (1)) c_1 rfl (by decide)
    refine lv_bipush (v := (-2)) hx hb dX1_passCounted_11 (by decide) ?_
    exact rt_b hx hb hr hlocks hP hD hS rfl ((show pX1_passCounted a1 x = ((-2), x) by rw [pX1_passCounted, if_pos c_1]).symm.trans hres |>.symm) dX1_passCounted_13
  · have t_1 := i_nlt (z := (Int32.toInt a1)) (w := (1)) c_1 rfl (by decide)
    refine lv_iload_n hx hb dX1_passCounted_5 rfl (lv_at hl 1 rfl) ?_
    refine lv_bipush (v := 99) hx hb dX1_passCounted_6 (by decide) ?_
    refine lv_icmp_le (tgt := 14) hx hb dX1_passCounted_8 (by decide) (fun c_2 => ?_) (fun c_2 => ?_)
    · have t_2 := i_le (z := (Int32.toInt a1)) (w := (99)) c_2 rfl (by decide)
      refine lv_aload_n hx hb dX1_passCounted_14 rfl (lv_at hl 0 rfl) ?_
      refine md_get (ci := 1) (C := RX1) (T := TX1) (N := 18) (v := .int (x.1 5)) hx hb hts hin hown hK hP rfl 15 (by decide) k_58 rfl rfl rfl dX1_passCounted_15 ?_
      refine lv_iload_n hx hb dX1_passCounted_18 rfl (lv_at hl 1 rfl) ?_
      refine lv_iadd hx hb dX1_passCounted_19 ?_
      refine lv_sipush (v := 9999) hx hb dX1_passCounted_20 (by decide) ?_
      refine lv_icmp_le (tgt := 29) hx hb dX1_passCounted_23 (by decide) (fun c_3 => ?_) (fun c_3 => ?_)
      · have t_3 := i_le (z := (Int32.toInt ((x.1 5) + a1))) (w := (9999)) c_3 rfl (by decide)
        refine lv_aload_n hx hb dX1_passCounted_29 rfl (lv_at hl 0 rfl) ?_
        refine lv_iload_n hx hb dX1_passCounted_30 rfl (lv_at hl 1 rfl) ?_
        refine go_i hD hS hA (rn_V (As := [.int a1]) (rest := []) ⟨hx, hb, hml, hown, hts⟩ (ctX1_passHours l G cI cC cZ cR h x a1 (by omega) (by omega)) (cwV 1 hts gX1_passCounted_X1_passHours rfl rfl rfl (by decide +kernel) ⟨Nat.le_of_ble_eq_true rfl, Nat.le_of_ble_eq_true rfl⟩) (md_recv hK hP rfl) hK hP hD hN rfl hl.1 rfl (Nat.le_of_ble_eq_true rfl) dX1_passCounted_31) (fun H locs hP hD hS => ?_)
        exact rt_b hx hb hr hlocks hP hD hS rfl ((show pX1_passCounted a1 x = ((pX1_passHours a1 x).1, (pX1_passHours a1 x).2) by rw [pX1_passCounted, if_neg c_1, if_pos c_2, if_pos c_3]).symm.trans hres |>.symm) dX1_passCounted_34
      · have t_3 := i_nle (z := (Int32.toInt ((x.1 5) + a1))) (w := (9999)) c_3 rfl (by decide)
        refine lv_bipush (v := (-5)) hx hb dX1_passCounted_26 (by decide) ?_
        exact rt_b hx hb hr hlocks hP hD hS rfl ((show pX1_passCounted a1 x = ((-5), x) by rw [pX1_passCounted, if_neg c_1, if_pos c_2, if_neg c_3]).symm.trans hres |>.symm) dX1_passCounted_28
    · have t_2 := i_nle (z := (Int32.toInt a1)) (w := (99)) c_2 rfl (by decide)
      refine lv_bipush (v := (-2)) hx hb dX1_passCounted_11 (by decide) ?_
      exact rt_b hx hb hr hlocks hP hD hS rfl ((show pX1_passCounted a1 x = ((-2), x) by rw [pX1_passCounted, if_neg c_1, if_neg c_2]).symm.trans hres |>.symm) dX1_passCounted_13
