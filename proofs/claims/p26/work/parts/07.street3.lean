def pX1_letThievesCome_L46 : Nat → Int32 → Int32 → Int32 → Int32 → SR → SR
  | 0, v1, v2, v3, v4, x => x
  | n + 1, v1, v2, v3, v4, x => if 12 ≤ v4 then x
    else if (((7 * (x.1 5)) + (3 * v4)) - ((7 * (x.1 5)) + (3 * v4)) / v2 * v2) = 0 then if (pX2_has (x.1 1) v4) = 0 then pX1_letThievesCome_L46 n v1 v2 v3 (v4 + 1) x
        else if (pX1_keepersAt v4 x) = 0 then pX1_letThievesCome_L46 n v1 v2 v3 (v4 + 1) (pS (pS x 1 ((x.1 1) &&& ((1 <<< (v4 &&& 31)) ^^^ (-1)))) 7 ((x.1 7) + 1))
          else pX1_letThievesCome_L46 n v1 v2 v3 (v4 + 1) x
      else pX1_letThievesCome_L46 n v1 v2 v3 (v4 + 1) x
def pX1_letThievesCome (x : SR) : SR := if 22 ≤ ((x.1 5) - (x.1 5) / 24 * 24) then if 1 ≤ (x.2 0 (ix 6)) then pX1_letThievesCome_L46 13 ((x.1 5) - (x.1 5) / 24 * 24) (x.2 0 (ix 6)) 1 0 x
    else x
  else if 5 < ((x.1 5) - (x.1 5) / 24 * 24) then x
    else if 1 ≤ (x.2 0 (ix 6)) then pX1_letThievesCome_L46 13 ((x.1 5) - (x.1 5) / 24 * 24) (x.2 0 (ix 6)) 1 0 x
      else x
set_option maxHeartbeats 4000000 in
set_option maxRecDepth 100000 in
theorem ctX1_letThievesCome (l : Launch) (G : va_G) (cI cC cZ cR : ClassId) (h : Ad) (x : SR) : Ct l yX1_letThievesCome wsX1_letThievesCome (rmz 1 23) G (TY cI cC cZ cR) [.ref (h 0)] (wSt cI h x) (Qv G (wSt cI h x) (wSt cI h (pX1_letThievesCome x))) := by
  refine Ct.ofV (cc := cX1_letThievesCome) (maxL := 6) (ret := none) (by decide) rfl rfl ?_
  intro p e s m below meth c A ls E0 hP hD hS hl
  obtain ⟨hx, hb, hr, hml, hlocks, hts, hown, hK, hN, hA⟩ := E0
  have hl : lv_has ls 6 [(0, .ref (h 0))] := hl
  have hin : ∀ w ∈ wsX10, w ∈ wsX1_letThievesCome := fun w hw => List.mem_cons_of_mem _ (List.mem_append_right _ (hw))
  have k_58 : (Cond.fieldLink RX1 58 RX1 (TX1 15).2.1 (TX1 15).2.2.1).before ([.ref (h 0)] : List Value).toArray s = true := hts _ (List.mem_of_getElem? (i := 1) rfl)
  have k_9 : (Cond.fieldLink RX1 9 RX1 (TX1 0).2.1 (TX1 0).2.2.1).before ([.ref (h 0)] : List Value).toArray s = true := hts _ (List.mem_of_getElem? (i := 2) rfl)
  have k_19 : (Cond.fieldLink RX1 19 RX1 (TX1 2).2.1 (TX1 2).2.2.1).before ([.ref (h 0)] : List Value).toArray s = true := hts _ (List.mem_of_getElem? (i := 3) rfl)
  have k_64 : (Cond.fieldLink RX1 64 RX1 (TX1 17).2.1 (TX1 17).2.2.1).before ([.ref (h 0)] : List Value).toArray s = true := hts _ (List.mem_of_getElem? (i := 4) rfl)
  generalize hres : pX1_letThievesCome x = res
  have lp_46 : ∀ (n : Nat) (v1 : Int32) (v2 : Int32) (v3 : Int32) (v4 : Int32) (x : SR), 0 ≤ Int32.toInt v4 → Int32.toInt v4 ≤ 12 → 1 ≤ Int32.toInt v2 → 12 - Int32.toInt v4 < (n : Int) → pX1_letThievesCome_L46 n v1 v2 v3 v4 x = res → ∀ (H : Heap) (locs : List Loc) (ls : Array Slot), va_P G vwCl (wSt cI h x) H → va_D A (wSt cI h x) → va_S A s.heap H locs → lv_has ls 6 [(0, .ref (h 0)), (1, .int v1), (2, .int v2), (3, .int v3), (4, .int v4)] → W p l e (rmz 1 23) s m ([.ref (h 0)] : List Value).toArray below meth c H locs 0 0 (MQ below (QvA G A (wSt cI h res)) ([.ref (h 0)] : List Value).toArray s 0 0 A) (F0 m 46 ls []) := by
    intro n
    induction n with
    | zero =>
      intro v1 v2 v3 v4 x g_0 g_1 g_2 hm
      exfalso; omega
    | succ n ih =>
      intro v1 v2 v3 v4 x g_0 g_1 g_2 hm hq H locs ls hP hD hS hl
      refine lv_iload hx hb dX1_letThievesCome_46 (lv_at hl 4 rfl) ?_
      refine lv_bipush (v := 12) hx hb dX1_letThievesCome_48 (by decide) ?_
      refine lv_icmp_ge (tgt := 134) hx hb dX1_letThievesCome_50 (by decide) (fun c_5 => ?_) (fun c_5 => ?_)
      · have t_5 := i_le (z := (12)) (w := (Int32.toInt v4)) c_5 (by decide) rfl
        exact rt_s hx hb hr hlocks hP hD hS ((show pX1_letThievesCome_L46 (n + 1) v1 v2 v3 v4 x = x by rw [pX1_letThievesCome_L46, if_pos c_5]).symm.trans hq |>.symm) dX1_letThievesCome_134
      · have t_5 := i_nle (z := (12)) (w := (Int32.toInt v4)) c_5 (by decide) rfl
        refine lv_bipush (v := 7) hx hb dX1_letThievesCome_53 (by decide) ?_
        refine lv_aload_n hx hb dX1_letThievesCome_55 rfl (lv_at hl 0 rfl) ?_
        refine md_get (ci := 1) (C := RX1) (T := TX1) (N := 18) (v := .int (x.1 5)) hx hb hts hin hown hK hP rfl 15 (by decide) k_58 rfl rfl rfl dX1_letThievesCome_56 ?_
        refine lv_imul hx hb dX1_letThievesCome_59 ?_
        refine lv_iconst (v := 3) hx hb dX1_letThievesCome_60 (by decide) ?_
        refine lv_iload hx hb dX1_letThievesCome_61 (lv_at hl 4 rfl) ?_
        refine lv_imul hx hb dX1_letThievesCome_63 ?_
        refine lv_iadd hx hb dX1_letThievesCome_64 ?_
        refine lv_iload_n hx hb dX1_letThievesCome_65 rfl (lv_at hl 2 rfl) ?_
        refine lv_irem hx hb dX1_letThievesCome_66 (by intro q; rw [q] at g_2; exact absurd g_2 (by decide)) ?_
        refine lv_if_ne (tgt := 74) hx hb dX1_letThievesCome_67 (by decide) (fun c_6 => ?_) (fun c_6 => ?_)
        · refine lv_iconst (v := 0) hx hb dX1_letThievesCome_74 (by decide) ?_
          refine lv_istore (lv' := [(5, .int 0), (0, .ref (h 0)), (1, .int v1), (2, .int v2), (3, .int v3), (4, .int v4)]) hx hb dX1_letThievesCome_75 hl (by decide) rfl (fun ls hl => ?_)
          refine lv_iload hx hb dX1_letThievesCome_77 (lv_at hl 0 rfl) ?_
          refine lv_if_eq (tgt := 128) hx hb dX1_letThievesCome_79 (by decide) (fun cz => ?_) (fun cz => absurd cz (by decide))
          refine lv_iinc (v := (v4 + 1)) (lv' := [(4, .int (v4 + 1)), (5, .int 0), (0, .ref (h 0)), (1, .int v1), (2, .int v2), (3, .int v3)]) hx hb dX1_letThievesCome_128 hl (k := 5) rfl rfl (by decide) rfl (fun ls hl => ?_)
          have a_128 := i_add1 (a := v4) (by omega) (by omega)
          refine lv_goto (tgt := 46) hx hb dX1_letThievesCome_131 (by decide) ?_
          exact ih v1 v2 v3 (v4 + 1) x (by omega) (by omega) (by omega) (by omega) ((show pX1_letThievesCome_L46 (n + 1) v1 v2 v3 v4 x = pX1_letThievesCome_L46 n v1 v2 v3 (v4 + 1) x by rw [pX1_letThievesCome_L46, if_neg c_5, if_neg c_6]).symm.trans hq) _ _ _ hP hD hS (lv_sub hl [2, 3, 4, 5, 0] rfl)
        · refine lv_iconst (v := 1) hx hb dX1_letThievesCome_70 (by decide) ?_
          refine lv_goto (tgt := 75) hx hb dX1_letThievesCome_71 (by decide) ?_
          refine lv_istore (lv' := [(5, .int 1), (0, .ref (h 0)), (1, .int v1), (2, .int v2), (3, .int v3), (4, .int v4)]) hx hb dX1_letThievesCome_75 hl (by decide) rfl (fun ls hl => ?_)
          refine lv_iload hx hb dX1_letThievesCome_77 (lv_at hl 0 rfl) ?_
          refine lv_if_eq (tgt := 128) hx hb dX1_letThievesCome_79 (by decide) (fun cz => absurd cz (by decide)) (fun cz => ?_)
          refine lv_aload_n hx hb dX1_letThievesCome_82 rfl (lv_at hl 1 rfl) ?_
          refine md_get (ci := 1) (C := RX1) (T := TX1) (N := 18) (v := .int (x.1 1)) hx hb hts hin hown hK hP rfl 2 (by decide) k_19 rfl rfl rfl dX1_letThievesCome_83 ?_
          refine lv_iload hx hb dX1_letThievesCome_86 (lv_at hl 5 rfl) ?_
          refine gn_i hP hS hA (rn_SN (As := [.int (x.1 1), .int v4]) (rest := []) ⟨hx, hb, hml, hown, hts⟩ (ctX2_has l G cI cC cZ cR (x.1 1) v4) ⟨va_cnB 2 hts gX1_letThievesCome_X2_has_n87 rfl rfl rfl (NWs.nw hN 28 rfl) (hts _ (List.mem_of_getElem? (i := 6) rfl)) (by decide +kernel) ⟨Nat.le_of_ble_eq_true rfl, Nat.le_of_ble_eq_true rfl⟩, hts _ (List.mem_of_getElem? (i := 5) rfl), trivial⟩ hK nilP (nilD (A := A)) hN rfl hl.1 rfl (Nat.le_of_ble_eq_true rfl) dX1_letThievesCome_88) (fun H locs hP hS => ?_)
          refine lv_if_eq (tgt := 128) hx hb dX1_letThievesCome_91 (by decide) (fun c_7 => ?_) (fun c_7 => ?_)
          · refine lv_iinc (v := (v4 + 1)) (lv' := [(4, .int (v4 + 1)), (5, .int 1), (0, .ref (h 0)), (1, .int v1), (2, .int v2), (3, .int v3)]) hx hb dX1_letThievesCome_128 hl (k := 5) rfl rfl (by decide) rfl (fun ls hl => ?_)
            have a_128 := i_add1 (a := v4) (by omega) (by omega)
            refine lv_goto (tgt := 46) hx hb dX1_letThievesCome_131 (by decide) ?_
            exact ih v1 v2 v3 (v4 + 1) x (by omega) (by omega) (by omega) (by omega) ((show pX1_letThievesCome_L46 (n + 1) v1 v2 v3 v4 x = pX1_letThievesCome_L46 n v1 v2 v3 (v4 + 1) x by rw [pX1_letThievesCome_L46, if_neg c_5, if_pos c_6, if_pos c_7]).symm.trans hq) _ _ _ hP hD hS (lv_sub hl [2, 3, 4, 5, 0] rfl)
          · refine lv_aload_n hx hb dX1_letThievesCome_94 rfl (lv_at hl 1 rfl) ?_
            refine lv_iload hx hb dX1_letThievesCome_95 (lv_at hl 5 rfl) ?_
            refine go_i hD hS hA (rn_V (As := [.int v4]) (rest := []) ⟨hx, hb, hml, hown, hts⟩ (ctX1_keepersAt l G cI cC cZ cR h x v4) (cwV 1 hts gX1_letThievesCome_X1_keepersAt rfl rfl rfl (by decide +kernel) ⟨Nat.le_of_ble_eq_true rfl, Nat.le_of_ble_eq_true rfl⟩) (md_recv hK hP rfl) hK hP hD hN rfl hl.1 rfl (Nat.le_of_ble_eq_true rfl) dX1_letThievesCome_97) (fun H locs hP hD hS => ?_)
            refine lv_if_ne (tgt := 128) hx hb dX1_letThievesCome_100 (by decide) (fun c_8 => ?_) (fun c_8 => ?_)
            · refine lv_iinc (v := (v4 + 1)) (lv' := [(4, .int (v4 + 1)), (5, .int 1), (0, .ref (h 0)), (1, .int v1), (2, .int v2), (3, .int v3)]) hx hb dX1_letThievesCome_128 hl (k := 5) rfl rfl (by decide) rfl (fun ls hl => ?_)
              have a_128 := i_add1 (a := v4) (by omega) (by omega)
              refine lv_goto (tgt := 46) hx hb dX1_letThievesCome_131 (by decide) ?_
              exact ih v1 v2 v3 (v4 + 1) x (by omega) (by omega) (by omega) (by omega) ((show pX1_letThievesCome_L46 (n + 1) v1 v2 v3 v4 x = pX1_letThievesCome_L46 n v1 v2 v3 (v4 + 1) x by rw [pX1_letThievesCome_L46, if_neg c_5, if_pos c_6, if_neg c_7, if_neg c_8]).symm.trans hq) _ _ _ hP hD hS (lv_sub hl [2, 3, 4, 5, 0] rfl)
            · refine lv_aload_n hx hb dX1_letThievesCome_103 rfl (lv_at hl 1 rfl) ?_
              refine lv_dup hx hb dX1_letThievesCome_104 rfl ?_
              refine md_get (ci := 1) (C := RX1) (T := TX1) (N := 18) (v := .int (x.1 1)) hx hb hts hin hown hK hP rfl 2 (by decide) k_19 rfl rfl rfl dX1_letThievesCome_105 ?_
              refine lv_iconst (v := 1) hx hb dX1_letThievesCome_108 (by decide) ?_
              refine lv_iload hx hb dX1_letThievesCome_109 (lv_at hl 5 rfl) ?_
              refine lv_ishl hx hb dX1_letThievesCome_111 ?_
              refine lv_iconst (v := (-1)) hx hb dX1_letThievesCome_112 (by decide) ?_
              refine lv_ixor hx hb dX1_letThievesCome_113 ?_
              refine lv_iand hx hb dX1_letThievesCome_114 ?_
              refine md_put (ci := 1) (C := RX1) (T := TX1) (N := 18) hx hb hts hin tyX1 tyX1_ok nmX1 hown hK hP hD hS rfl 2 (by decide) k_19 rfl rfl (q := 1) rfl (fu (by decide)) rfl rfl dX1_letThievesCome_115 (fun H locs hP hD hS => ?_)
              refine lv_aload_n hx hb dX1_letThievesCome_118 rfl (lv_at hl 1 rfl) ?_
              refine lv_dup hx hb dX1_letThievesCome_119 rfl ?_
              refine md_get (ci := 1) (C := RX1) (T := TX1) (N := 18) (v := .int (x.1 7)) hx hb hts hin hown hK hP rfl 17 (by decide) k_64 rfl rfl rfl dX1_letThievesCome_120 ?_
              refine lv_iconst (v := 1) hx hb dX1_letThievesCome_123 (by decide) ?_
              refine lv_iadd hx hb dX1_letThievesCome_124 ?_
              refine md_put (ci := 1) (C := RX1) (T := TX1) (N := 18) hx hb hts hin tyX1 tyX1_ok nmX1 hown hK hP hD hS rfl 17 (by decide) k_64 rfl rfl (q := 7) rfl (fu (by decide)) rfl rfl dX1_letThievesCome_125 (fun H locs hP hD hS => ?_)
              refine lv_iinc (v := (v4 + 1)) (lv' := [(4, .int (v4 + 1)), (5, .int 1), (0, .ref (h 0)), (1, .int v1), (2, .int v2), (3, .int v3)]) hx hb dX1_letThievesCome_128 hl (k := 5) rfl rfl (by decide) rfl (fun ls hl => ?_)
              have a_128 := i_add1 (a := v4) (by omega) (by omega)
              refine lv_goto (tgt := 46) hx hb dX1_letThievesCome_131 (by decide) ?_
              exact ih v1 v2 v3 (v4 + 1) (pS (pS x 1 ((x.1 1) &&& ((1 <<< (v4 &&& 31)) ^^^ (-1)))) 7 ((x.1 7) + 1)) (by omega) (by omega) (by omega) (by omega) ((show pX1_letThievesCome_L46 (n + 1) v1 v2 v3 v4 x = pX1_letThievesCome_L46 n v1 v2 v3 (v4 + 1) (pS (pS x 1 ((x.1 1) &&& ((1 <<< (v4 &&& 31)) ^^^ (-1)))) 7 ((x.1 7) + 1)) by rw [pX1_letThievesCome_L46, if_neg c_5, if_pos c_6, if_neg c_7, if_pos c_8]).symm.trans hq) _ _ _ hP hD hS (lv_sub hl [2, 3, 4, 5, 0] rfl)
  refine lv_aload_n hx hb dX1_letThievesCome_0 rfl (lv_at hl 0 rfl) ?_
  refine md_get (ci := 1) (C := RX1) (T := TX1) (N := 18) (v := .int (x.1 5)) hx hb hts hin hown hK hP rfl 15 (by decide) k_58 rfl rfl rfl dX1_letThievesCome_1 ?_
  refine lv_bipush (v := 24) hx hb dX1_letThievesCome_4 (by decide) ?_
  refine lv_irem hx hb dX1_letThievesCome_6 (by decide) ?_
  refine lv_istore_n (lv' := [(1, .int ((x.1 5) - (x.1 5) / 24 * 24)), (0, .ref (h 0))]) hx hb dX1_letThievesCome_7 rfl hl (by decide) rfl (fun ls hl => ?_)
  refine lv_aload_n hx hb dX1_letThievesCome_8 rfl (lv_at hl 1 rfl) ?_
  refine md_get (ci := 1) (C := RX1) (T := TX1) (N := 18) (v := .ref (h 1)) hx hb hts hin hown hK hP rfl 0 (by decide) k_9 rfl rfl rfl dX1_letThievesCome_9 ?_
  refine lv_bipush (v := 6) hx hb dX1_letThievesCome_12 (by decide) ?_
  refine md_ia (v := x.2 0 (ix 6)) hx hb hK hP 0 0 rfl rfl (vp_in_iff.mpr ⟨by decide, by decide⟩) rfl dX1_letThievesCome_14 ?_
  refine lv_istore_n (lv' := [(2, .int (x.2 0 (ix 6))), (1, .int ((x.1 5) - (x.1 5) / 24 * 24)), (0, .ref (h 0))]) hx hb dX1_letThievesCome_15 rfl hl (by decide) rfl (fun ls hl => ?_)
  refine lv_iload_n hx hb dX1_letThievesCome_16 rfl (lv_at hl 1 rfl) ?_
  refine lv_bipush (v := 22) hx hb dX1_letThievesCome_17 (by decide) ?_
  refine lv_icmp_ge (tgt := 27) hx hb dX1_letThievesCome_19 (by decide) (fun c_1 => ?_) (fun c_1 => ?_)
  · have t_1 := i_le (z := (22)) (w := (Int32.toInt ((x.1 5) - (x.1 5) / 24 * 24))) c_1 (by decide) rfl
    refine lv_iconst (v := 1) hx hb dX1_letThievesCome_27 (by decide) ?_
    refine lv_goto (tgt := 32) hx hb dX1_letThievesCome_28 (by decide) ?_
    refine lv_istore_n (lv' := [(3, .int 1), (2, .int (x.2 0 (ix 6))), (1, .int ((x.1 5) - (x.1 5) / 24 * 24)), (0, .ref (h 0))]) hx hb dX1_letThievesCome_32 rfl hl (by decide) rfl (fun ls hl => ?_)
    refine lv_iload_n hx hb dX1_letThievesCome_33 rfl (lv_at hl 0 rfl) ?_
    refine lv_if_eq (tgt := 42) hx hb dX1_letThievesCome_34 (by decide) (fun cz => absurd cz (by decide)) (fun cz => ?_)
    refine lv_iload_n hx hb dX1_letThievesCome_37 rfl (lv_at hl 1 rfl) ?_
    refine lv_iconst (v := 1) hx hb dX1_letThievesCome_38 (by decide) ?_
    refine lv_icmp_ge (tgt := 43) hx hb dX1_letThievesCome_39 (by decide) (fun c_2 => ?_) (fun c_2 => ?_)
    · have t_2 := i_le (z := (1)) (w := (Int32.toInt (x.2 0 (ix 6)))) c_2 (by decide) rfl
      refine lv_iconst (v := 0) hx hb dX1_letThievesCome_43 (by decide) ?_
      refine lv_istore (lv' := [(4, .int 0), (3, .int 1), (2, .int (x.2 0 (ix 6))), (1, .int ((x.1 5) - (x.1 5) / 24 * 24)), (0, .ref (h 0))]) hx hb dX1_letThievesCome_44 hl (by decide) rfl (fun ls hl => ?_)
      exact lp_46 13 ((x.1 5) - (x.1 5) / 24 * 24) (x.2 0 (ix 6)) 1 0 x (by first | decide | omega | assumption) (by first | decide | omega | assumption) (by first | decide | omega | assumption) (by decide) ((show pX1_letThievesCome x = pX1_letThievesCome_L46 13 ((x.1 5) - (x.1 5) / 24 * 24) (x.2 0 (ix 6)) 1 0 x by rw [pX1_letThievesCome, if_pos c_1, if_pos c_2]).symm.trans hres) _ _ _ hP hD hS (lv_sub hl [4, 3, 2, 1, 0] rfl)
    · have t_2 := i_nle (z := (1)) (w := (Int32.toInt (x.2 0 (ix 6)))) c_2 (by decide) rfl
      exact rt_s hx hb hr hlocks hP hD hS ((show pX1_letThievesCome x = x by rw [pX1_letThievesCome, if_pos c_1, if_neg c_2]).symm.trans hres |>.symm) dX1_letThievesCome_42
  · have t_1 := i_nle (z := (22)) (w := (Int32.toInt ((x.1 5) - (x.1 5) / 24 * 24))) c_1 (by decide) rfl
    refine lv_iload_n hx hb dX1_letThievesCome_22 rfl (lv_at hl 1 rfl) ?_
    refine lv_iconst (v := 5) hx hb dX1_letThievesCome_23 (by decide) ?_
    refine lv_icmp_gt (tgt := 31) hx hb dX1_letThievesCome_24 (by decide) (fun c_3 => ?_) (fun c_3 => ?_)
    · have t_3 := i_lt (z := (5)) (w := (Int32.toInt ((x.1 5) - (x.1 5) / 24 * 24))) c_3 (by decide) rfl
      refine lv_iconst (v := 0) hx hb dX1_letThievesCome_31 (by decide) ?_
      refine lv_istore_n (lv' := [(3, .int 0), (2, .int (x.2 0 (ix 6))), (1, .int ((x.1 5) - (x.1 5) / 24 * 24)), (0, .ref (h 0))]) hx hb dX1_letThievesCome_32 rfl hl (by decide) rfl (fun ls hl => ?_)
      refine lv_iload_n hx hb dX1_letThievesCome_33 rfl (lv_at hl 0 rfl) ?_
      refine lv_if_eq (tgt := 42) hx hb dX1_letThievesCome_34 (by decide) (fun cz => ?_) (fun cz => absurd cz (by decide))
      exact rt_s hx hb hr hlocks hP hD hS ((show pX1_letThievesCome x = x by rw [pX1_letThievesCome, if_neg c_1, if_pos c_3]).symm.trans hres |>.symm) dX1_letThievesCome_42
    · have t_3 := i_nlt (z := (5)) (w := (Int32.toInt ((x.1 5) - (x.1 5) / 24 * 24))) c_3 (by decide) rfl
      refine lv_iconst (v := 1) hx hb dX1_letThievesCome_27 (by decide) ?_
      refine lv_goto (tgt := 32) hx hb dX1_letThievesCome_28 (by decide) ?_
      refine lv_istore_n (lv' := [(3, .int 1), (2, .int (x.2 0 (ix 6))), (1, .int ((x.1 5) - (x.1 5) / 24 * 24)), (0, .ref (h 0))]) hx hb dX1_letThievesCome_32 rfl hl (by decide) rfl (fun ls hl => ?_)
      refine lv_iload_n hx hb dX1_letThievesCome_33 rfl (lv_at hl 0 rfl) ?_
      refine lv_if_eq (tgt := 42) hx hb dX1_letThievesCome_34 (by decide) (fun cz => absurd cz (by decide)) (fun cz => ?_)
      refine lv_iload_n hx hb dX1_letThievesCome_37 rfl (lv_at hl 1 rfl) ?_
      refine lv_iconst (v := 1) hx hb dX1_letThievesCome_38 (by decide) ?_
      refine lv_icmp_ge (tgt := 43) hx hb dX1_letThievesCome_39 (by decide) (fun c_4 => ?_) (fun c_4 => ?_)
      · have t_4 := i_le (z := (1)) (w := (Int32.toInt (x.2 0 (ix 6)))) c_4 (by decide) rfl
        refine lv_iconst (v := 0) hx hb dX1_letThievesCome_43 (by decide) ?_
        refine lv_istore (lv' := [(4, .int 0), (3, .int 1), (2, .int (x.2 0 (ix 6))), (1, .int ((x.1 5) - (x.1 5) / 24 * 24)), (0, .ref (h 0))]) hx hb dX1_letThievesCome_44 hl (by decide) rfl (fun ls hl => ?_)
        exact lp_46 13 ((x.1 5) - (x.1 5) / 24 * 24) (x.2 0 (ix 6)) 1 0 x (by first | decide | omega | assumption) (by first | decide | omega | assumption) (by first | decide | omega | assumption) (by decide) ((show pX1_letThievesCome x = pX1_letThievesCome_L46 13 ((x.1 5) - (x.1 5) / 24 * 24) (x.2 0 (ix 6)) 1 0 x by rw [pX1_letThievesCome, if_neg c_1, if_neg c_3, if_pos c_4]).symm.trans hres) _ _ _ hP hD hS (lv_sub hl [4, 3, 2, 1, 0] rfl)
      · have t_4 := i_nle (z := (1)) (w := (Int32.toInt (x.2 0 (ix 6)))) c_4 (by decide) rfl
        exact rt_s hx hb hr hlocks hP hD hS ((show pX1_letThievesCome x = x by rw [pX1_letThievesCome, if_neg c_1, if_neg c_3, if_neg c_4]).symm.trans hres |>.symm) dX1_letThievesCome_42
def pX1_changeRain (a1 : Int32) (x : SR) : Int32 × SR := if a1 < 0 then ((-2), x)
  else if a1 ≤ 16777215 then (x.1 4, (pS x 4 a1))
    else ((-2), x)
set_option maxHeartbeats 4000000 in
set_option maxRecDepth 100000 in
theorem ctX1_changeRain (l : Launch) (G : va_G) (cI cC cZ cR : ClassId) (h : Ad) (x : SR) (a1 : Int32) : Ct l yX1_changeRain wsX1_changeRain (rmz 0 0) G (TY cI cC cZ cR) [.ref (h 0), .int a1] (wSt cI h x) (Qi G (wSt cI h x) (pX1_changeRain a1 x).1 (wSt cI h (pX1_changeRain a1 x).2)) := by
  refine Ct.ofI (cc := cX1_changeRain) (maxL := 3) (ret := (some .int)) (by decide) rfl rfl ?_
  intro p e s m below meth c A ls E0 hP hD hS hl
  obtain ⟨hx, hb, hr, hml, hlocks, hts, hown, hK, hN, hA⟩ := E0
  have hl : lv_has ls 3 [(0, .ref (h 0)), (1, .int a1)] := hl
  have hin : ∀ w ∈ wsX10, w ∈ wsX1_changeRain := fun w hw => List.mem_cons_of_mem _ (List.mem_append_right _ (hw))
  have k_82 : (Cond.constant RX1 82 16777215).before ([.ref (h 0), .int a1] : List Value).toArray s = true := hts _ (List.mem_of_getElem? (i := 1) rfl)
  have k_55 : (Cond.fieldLink RX1 55 RX1 (TX1 14).2.1 (TX1 14).2.2.1).before ([.ref (h 0), .int a1] : List Value).toArray s = true := hts _ (List.mem_of_getElem? (i := 2) rfl)
  generalize hres : pX1_changeRain a1 x = res
  refine lv_iload_n hx hb dX1_changeRain_0 rfl (lv_at hl 1 rfl) ?_
  refine lv_if_lt (tgt := 10) hx hb dX1_changeRain_1 (by decide) (fun c_1 => ?_) (fun c_1 => ?_)
  · have t_1 := i_lt (z := (Int32.toInt a1)) (w := (0)) c_1 rfl (by decide)
    refine lv_bipush (v := (-2)) hx hb dX1_changeRain_10 (by decide) ?_
    exact rt_b hx hb hr hlocks hP hD hS rfl ((show pX1_changeRain a1 x = ((-2), x) by rw [pX1_changeRain, if_pos c_1]).symm.trans hres |>.symm) dX1_changeRain_12
  · have t_1 := i_nlt (z := (Int32.toInt a1)) (w := (0)) c_1 rfl (by decide)
    refine lv_iload_n hx hb dX1_changeRain_4 rfl (lv_at hl 1 rfl) ?_
    refine lv_ldc hx hb hown k_82 dX1_changeRain_5 ?_
    refine lv_icmp_le (tgt := 13) hx hb dX1_changeRain_7 (by decide) (fun c_2 => ?_) (fun c_2 => ?_)
    · have t_2 := i_le (z := (Int32.toInt a1)) (w := (16777215)) c_2 rfl (by decide)
      refine lv_aload_n hx hb dX1_changeRain_13 rfl (lv_at hl 0 rfl) ?_
      refine md_get (ci := 1) (C := RX1) (T := TX1) (N := 18) (v := .int (x.1 4)) hx hb hts hin hown hK hP rfl 14 (by decide) k_55 rfl rfl rfl dX1_changeRain_14 ?_
      refine lv_istore_n (lv' := [(2, .int (x.1 4)), (0, .ref (h 0)), (1, .int a1)]) hx hb dX1_changeRain_17 rfl hl (by decide) rfl (fun ls hl => ?_)
      refine lv_aload_n hx hb dX1_changeRain_18 rfl (lv_at hl 1 rfl) ?_
      refine lv_iload_n hx hb dX1_changeRain_19 rfl (lv_at hl 2 rfl) ?_
      refine md_put (ci := 1) (C := RX1) (T := TX1) (N := 18) hx hb hts hin tyX1 tyX1_ok nmX1 hown hK hP hD hS rfl 14 (by decide) k_55 rfl rfl (q := 4) rfl (fu (by decide)) rfl rfl dX1_changeRain_20 (fun H locs hP hD hS => ?_)
      refine lv_iload_n hx hb dX1_changeRain_23 rfl (lv_at hl 0 rfl) ?_
      exact rt_b hx hb hr hlocks hP hD hS rfl ((show pX1_changeRain a1 x = (x.1 4, (pS x 4 a1)) by rw [pX1_changeRain, if_neg c_1, if_pos c_2]).symm.trans hres |>.symm) dX1_changeRain_24
    · have t_2 := i_nle (z := (Int32.toInt a1)) (w := (16777215)) c_2 rfl (by decide)
      refine lv_bipush (v := (-2)) hx hb dX1_changeRain_10 (by decide) ?_
      exact rt_b hx hb hr hlocks hP hD hS rfl ((show pX1_changeRain a1 x = ((-2), x) by rw [pX1_changeRain, if_neg c_1, if_neg c_2]).symm.trans hres |>.symm) dX1_changeRain_12
def pX1_addPiano (a1 : Int32) (a2 : Int32) (x : SR) : Int32 × SR := if (pX2_isPlace a1) = 0 then ((-1), x)
  else if a2 = 0 then if (pX2_has (x.1 0) a1) = 0 then ((pJ6_bitCount_0f7a4 ((x.1 0) ||| (1 <<< (a1 &&& 31)))), (pR (pR (pR (pR (pS (pS x 0 ((x.1 0) ||| (1 <<< (a1 &&& 31)))) 1 ((x.1 1) ||| (a2 <<< (a1 &&& 31)))) 1 a1 100) 2 a1 0) 3 a1 0) 4 a1 0))
      else ((-5), x)
    else if a2 = 1 then if (pX2_has (x.1 0) a1) = 0 then ((pJ6_bitCount_0f7a4 ((x.1 0) ||| (1 <<< (a1 &&& 31)))), (pR (pR (pR (pR (pS (pS x 0 ((x.1 0) ||| (1 <<< (a1 &&& 31)))) 1 ((x.1 1) ||| (a2 <<< (a1 &&& 31)))) 1 a1 100) 2 a1 0) 3 a1 0) 4 a1 0))
        else ((-5), x)
      else ((-2), x)
set_option maxHeartbeats 4000000 in
set_option maxRecDepth 100000 in
theorem ctX1_addPiano (l : Launch) (G : va_G) (cI cC cZ cR : ClassId) (h : Ad) (x : SR) (a1 : Int32) (a2 : Int32) : Ct l yX1_addPiano wsX1_addPiano (rmz 1 21) G (TY cI cC cZ cR) [.ref (h 0), .int a1, .int a2] (wSt cI h x) (Qi G (wSt cI h x) (pX1_addPiano a1 a2 x).1 (wSt cI h (pX1_addPiano a1 a2 x).2)) := by
  refine Ct.ofI (cc := cX1_addPiano) (maxL := 3) (ret := (some .int)) (by decide) rfl rfl ?_
  intro p e s m below meth c A ls E0 hP hD hS hl
  obtain ⟨hx, hb, hr, hml, hlocks, hts, hown, hK, hN, hA⟩ := E0
  have hl : lv_has ls 3 [(0, .ref (h 0)), (1, .int a1), (2, .int a2)] := hl
  have hin : ∀ w ∈ wsX10, w ∈ wsX1_addPiano := fun w hw => List.mem_cons_of_mem _ (List.mem_append_right _ (hw))
  have k_15 : (Cond.fieldLink RX1 15 RX1 (TX1 1).2.1 (TX1 1).2.2.1).before ([.ref (h 0), .int a1, .int a2] : List Value).toArray s = true := hts _ (List.mem_of_getElem? (i := 1) rfl)
  have k_19 : (Cond.fieldLink RX1 19 RX1 (TX1 2).2.1 (TX1 2).2.2.1).before ([.ref (h 0), .int a1, .int a2] : List Value).toArray s = true := hts _ (List.mem_of_getElem? (i := 2) rfl)
  have k_25 : (Cond.fieldLink RX1 25 RX1 (TX1 4).2.1 (TX1 4).2.2.1).before ([.ref (h 0), .int a1, .int a2] : List Value).toArray s = true := hts _ (List.mem_of_getElem? (i := 3) rfl)
  have k_28 : (Cond.fieldLink RX1 28 RX1 (TX1 5).2.1 (TX1 5).2.2.1).before ([.ref (h 0), .int a1, .int a2] : List Value).toArray s = true := hts _ (List.mem_of_getElem? (i := 4) rfl)
  have k_31 : (Cond.fieldLink RX1 31 RX1 (TX1 6).2.1 (TX1 6).2.2.1).before ([.ref (h 0), .int a1, .int a2] : List Value).toArray s = true := hts _ (List.mem_of_getElem? (i := 5) rfl)
  have k_34 : (Cond.fieldLink RX1 34 RX1 (TX1 7).2.1 (TX1 7).2.2.1).before ([.ref (h 0), .int a1, .int a2] : List Value).toArray s = true := hts _ (List.mem_of_getElem? (i := 6) rfl)
  generalize hres : pX1_addPiano a1 a2 x = res
  refine lv_iload_n hx hb dX1_addPiano_0 rfl (lv_at hl 1 rfl) ?_
  refine gn_i hP hS hA (rn_SN (As := [.int a1]) (rest := []) ⟨hx, hb, hml, hown, hts⟩ (ctX2_isPlace l G cI cC cZ cR a1) ⟨va_cnB 1 hts gX1_addPiano_X2_isPlace_n83 rfl rfl rfl (NWs.nw hN 27 rfl) (hts _ (List.mem_of_getElem? (i := 8) rfl)) (by decide +kernel) ⟨Nat.le_of_ble_eq_true rfl, Nat.le_of_ble_eq_true rfl⟩, hts _ (List.mem_of_getElem? (i := 7) rfl), trivial⟩ hK nilP (nilD (A := A)) hN rfl hl.1 rfl (Nat.le_of_ble_eq_true rfl) dX1_addPiano_1) (fun H locs hP hS => ?_)
  refine lv_if_ne (tgt := 9) hx hb dX1_addPiano_4 (by decide) (fun c_1 => ?_) (fun c_1 => ?_)
  · refine lv_iload_n hx hb dX1_addPiano_9 rfl (lv_at hl 2 rfl) ?_
    refine lv_if_eq (tgt := 21) hx hb dX1_addPiano_10 (by decide) (fun c_2 => ?_) (fun c_2 => ?_)
    · refine lv_aload_n hx hb dX1_addPiano_21 rfl (lv_at hl 0 rfl) ?_
      refine md_get (ci := 1) (C := RX1) (T := TX1) (N := 18) (v := .int (x.1 0)) hx hb hts hin hown hK hP rfl 1 (by decide) k_15 rfl rfl rfl dX1_addPiano_22 ?_
      refine lv_iload_n hx hb dX1_addPiano_25 rfl (lv_at hl 1 rfl) ?_
      refine gn_i hP hS hA (rn_SN (As := [.int (x.1 0), .int a1]) (rest := []) ⟨hx, hb, hml, hown, hts⟩ (ctX2_has l G cI cC cZ cR (x.1 0) a1) ⟨va_cnB 2 hts gX1_addPiano_X2_has_n87 rfl rfl rfl (NWs.nw hN 28 rfl) (hts _ (List.mem_of_getElem? (i := 8) rfl)) (by decide +kernel) ⟨Nat.le_of_ble_eq_true rfl, Nat.le_of_ble_eq_true rfl⟩, hts _ (List.mem_of_getElem? (i := 10) rfl), trivial⟩ hK nilP (nilD (A := A)) hN rfl hl.1 rfl (Nat.le_of_ble_eq_true rfl) dX1_addPiano_26) (fun H locs hP hS => ?_)
      refine lv_if_eq (tgt := 35) hx hb dX1_addPiano_29 (by decide) (fun c_3 => ?_) (fun c_3 => ?_)
      · refine lv_aload_n hx hb dX1_addPiano_35 rfl (lv_at hl 0 rfl) ?_
        refine lv_dup hx hb dX1_addPiano_36 rfl ?_
        refine md_get (ci := 1) (C := RX1) (T := TX1) (N := 18) (v := .int (x.1 0)) hx hb hts hin hown hK hP rfl 1 (by decide) k_15 rfl rfl rfl dX1_addPiano_37 ?_
        refine lv_iconst (v := 1) hx hb dX1_addPiano_40 (by decide) ?_
        refine lv_iload_n hx hb dX1_addPiano_41 rfl (lv_at hl 1 rfl) ?_
        refine lv_ishl hx hb dX1_addPiano_42 ?_
        refine lv_ior hx hb dX1_addPiano_43 ?_
        refine md_put (ci := 1) (C := RX1) (T := TX1) (N := 18) hx hb hts hin tyX1 tyX1_ok nmX1 hown hK hP hD hS rfl 1 (by decide) k_15 rfl rfl (q := 0) rfl (fu (by decide)) rfl rfl dX1_addPiano_44 (fun H locs hP hD hS => ?_)
        refine lv_aload_n hx hb dX1_addPiano_47 rfl (lv_at hl 0 rfl) ?_
        refine lv_dup hx hb dX1_addPiano_48 rfl ?_
        refine md_get (ci := 1) (C := RX1) (T := TX1) (N := 18) (v := .int (x.1 1)) hx hb hts hin hown hK hP rfl 2 (by decide) k_19 rfl rfl rfl dX1_addPiano_49 ?_
        refine lv_iload_n hx hb dX1_addPiano_52 rfl (lv_at hl 2 rfl) ?_
        refine lv_iload_n hx hb dX1_addPiano_53 rfl (lv_at hl 1 rfl) ?_
        refine lv_ishl hx hb dX1_addPiano_54 ?_
        refine lv_ior hx hb dX1_addPiano_55 ?_
        refine md_put (ci := 1) (C := RX1) (T := TX1) (N := 18) hx hb hts hin tyX1 tyX1_ok nmX1 hown hK hP hD hS rfl 2 (by decide) k_19 rfl rfl (q := 1) rfl (fu (by decide)) rfl rfl dX1_addPiano_56 (fun H locs hP hD hS => ?_)
        refine lv_aload_n hx hb dX1_addPiano_59 rfl (lv_at hl 0 rfl) ?_
        refine md_get (ci := 1) (C := RX1) (T := TX1) (N := 18) (v := .ref (h 2)) hx hb hts hin hown hK hP rfl 4 (by decide) k_25 rfl rfl rfl dX1_addPiano_60 ?_
        refine lv_iload_n hx hb dX1_addPiano_63 rfl (lv_at hl 1 rfl) ?_
        refine lv_bipush (v := 100) hx hb dX1_addPiano_64 (by decide) ?_
        refine md_is hx hb hK hP hD hS 1 0 rfl rfl (by first | assumption | decide | exact vp_in_iff.mpr ⟨by omega, by omega⟩ | exact isPlace_in (by assumption) | exact has_in (by assumption)) dX1_addPiano_66 (fun H locs hP hD hS => ?_)
        refine lv_aload_n hx hb dX1_addPiano_67 rfl (lv_at hl 0 rfl) ?_
        refine md_get (ci := 1) (C := RX1) (T := TX1) (N := 18) (v := .ref (h 3)) hx hb hts hin hown hK hP rfl 5 (by decide) k_28 rfl rfl rfl dX1_addPiano_68 ?_
        refine lv_iload_n hx hb dX1_addPiano_71 rfl (lv_at hl 1 rfl) ?_
        refine lv_iconst (v := 0) hx hb dX1_addPiano_72 (by decide) ?_
        refine md_is hx hb hK hP hD hS 2 0 rfl rfl (by first | assumption | decide | exact vp_in_iff.mpr ⟨by omega, by omega⟩ | exact isPlace_in (by assumption) | exact has_in (by assumption)) dX1_addPiano_73 (fun H locs hP hD hS => ?_)
        refine lv_aload_n hx hb dX1_addPiano_74 rfl (lv_at hl 0 rfl) ?_
        refine md_get (ci := 1) (C := RX1) (T := TX1) (N := 18) (v := .ref (h 4)) hx hb hts hin hown hK hP rfl 6 (by decide) k_31 rfl rfl rfl dX1_addPiano_75 ?_
        refine lv_iload_n hx hb dX1_addPiano_78 rfl (lv_at hl 1 rfl) ?_
        refine lv_iconst (v := 0) hx hb dX1_addPiano_79 (by decide) ?_
        refine md_is hx hb hK hP hD hS 3 0 rfl rfl (by first | assumption | decide | exact vp_in_iff.mpr ⟨by omega, by omega⟩ | exact isPlace_in (by assumption) | exact has_in (by assumption)) dX1_addPiano_80 (fun H locs hP hD hS => ?_)
        refine lv_aload_n hx hb dX1_addPiano_81 rfl (lv_at hl 0 rfl) ?_
        refine md_get (ci := 1) (C := RX1) (T := TX1) (N := 18) (v := .ref (h 5)) hx hb hts hin hown hK hP rfl 7 (by decide) k_34 rfl rfl rfl dX1_addPiano_82 ?_
        refine lv_iload_n hx hb dX1_addPiano_85 rfl (lv_at hl 1 rfl) ?_
        refine lv_iconst (v := 0) hx hb dX1_addPiano_86 (by decide) ?_
        refine md_is hx hb hK hP hD hS 4 0 rfl rfl (by first | assumption | decide | exact vp_in_iff.mpr ⟨by omega, by omega⟩ | exact isPlace_in (by assumption) | exact has_in (by assumption)) dX1_addPiano_87 (fun H locs hP hD hS => ?_)
        refine lv_aload_n hx hb dX1_addPiano_88 rfl (lv_at hl 0 rfl) ?_
        refine md_get (ci := 1) (C := RX1) (T := TX1) (N := 18) (v := .int ((x.1 0) ||| (1 <<< (a1 &&& 31)))) hx hb hts hin hown hK hP rfl 1 (by decide) k_15 rfl rfl rfl dX1_addPiano_89 ?_
        refine gn_i hP hS hA (rn_S (As := [.int ((x.1 0) ||| (1 <<< (a1 &&& 31)))]) (rest := []) ⟨hx, hb, hml, hown, hts⟩ (ctJ6_bitCount_0f7a4 l G cI cC cZ cR ((x.1 0) ||| (1 <<< (a1 &&& 31)))) (va_cwS 1 hts gX1_addPiano_J6_bitCount_0f7a4 rfl rfl rfl (by decide +kernel) ⟨Nat.le_of_ble_eq_true rfl, Nat.le_of_ble_eq_true rfl⟩) hK nilP (nilD (A := A)) hN rfl hl.1 rfl (Nat.le_of_ble_eq_true rfl) dX1_addPiano_92) (fun H locs hP hS => ?_)
        exact rt_b hx hb hr hlocks hP hD hS rfl ((show pX1_addPiano a1 a2 x = ((pJ6_bitCount_0f7a4 ((x.1 0) ||| (1 <<< (a1 &&& 31)))), (pR (pR (pR (pR (pS (pS x 0 ((x.1 0) ||| (1 <<< (a1 &&& 31)))) 1 ((x.1 1) ||| (a2 <<< (a1 &&& 31)))) 1 a1 100) 2 a1 0) 3 a1 0) 4 a1 0)) by rw [pX1_addPiano, if_neg c_1, if_pos c_2, if_pos c_3]).symm.trans hres |>.symm) dX1_addPiano_95
      · refine lv_bipush (v := (-5)) hx hb dX1_addPiano_32 (by decide) ?_
        exact rt_b hx hb hr hlocks hP hD hS rfl ((show pX1_addPiano a1 a2 x = ((-5), x) by rw [pX1_addPiano, if_neg c_1, if_pos c_2, if_neg c_3]).symm.trans hres |>.symm) dX1_addPiano_34
    · refine lv_iload_n hx hb dX1_addPiano_13 rfl (lv_at hl 2 rfl) ?_
      refine lv_iconst (v := 1) hx hb dX1_addPiano_14 (by decide) ?_
      refine lv_icmp_eq (tgt := 21) hx hb dX1_addPiano_15 (by decide) (fun c_4 => ?_) (fun c_4 => ?_)
      · refine lv_aload_n hx hb dX1_addPiano_21 rfl (lv_at hl 0 rfl) ?_
        refine md_get (ci := 1) (C := RX1) (T := TX1) (N := 18) (v := .int (x.1 0)) hx hb hts hin hown hK hP rfl 1 (by decide) k_15 rfl rfl rfl dX1_addPiano_22 ?_
        refine lv_iload_n hx hb dX1_addPiano_25 rfl (lv_at hl 1 rfl) ?_
        refine gn_i hP hS hA (rn_SN (As := [.int (x.1 0), .int a1]) (rest := []) ⟨hx, hb, hml, hown, hts⟩ (ctX2_has l G cI cC cZ cR (x.1 0) a1) ⟨va_cnB 2 hts gX1_addPiano_X2_has_n87 rfl rfl rfl (NWs.nw hN 28 rfl) (hts _ (List.mem_of_getElem? (i := 8) rfl)) (by decide +kernel) ⟨Nat.le_of_ble_eq_true rfl, Nat.le_of_ble_eq_true rfl⟩, hts _ (List.mem_of_getElem? (i := 10) rfl), trivial⟩ hK nilP (nilD (A := A)) hN rfl hl.1 rfl (Nat.le_of_ble_eq_true rfl) dX1_addPiano_26) (fun H locs hP hS => ?_)
        refine lv_if_eq (tgt := 35) hx hb dX1_addPiano_29 (by decide) (fun c_5 => ?_) (fun c_5 => ?_)
        · refine lv_aload_n hx hb dX1_addPiano_35 rfl (lv_at hl 0 rfl) ?_
          refine lv_dup hx hb dX1_addPiano_36 rfl ?_
          refine md_get (ci := 1) (C := RX1) (T := TX1) (N := 18) (v := .int (x.1 0)) hx hb hts hin hown hK hP rfl 1 (by decide) k_15 rfl rfl rfl dX1_addPiano_37 ?_
          refine lv_iconst (v := 1) hx hb dX1_addPiano_40 (by decide) ?_
          refine lv_iload_n hx hb dX1_addPiano_41 rfl (lv_at hl 1 rfl) ?_
          refine lv_ishl hx hb dX1_addPiano_42 ?_
          refine lv_ior hx hb dX1_addPiano_43 ?_
          refine md_put (ci := 1) (C := RX1) (T := TX1) (N := 18) hx hb hts hin tyX1 tyX1_ok nmX1 hown hK hP hD hS rfl 1 (by decide) k_15 rfl rfl (q := 0) rfl (fu (by decide)) rfl rfl dX1_addPiano_44 (fun H locs hP hD hS => ?_)
          refine lv_aload_n hx hb dX1_addPiano_47 rfl (lv_at hl 0 rfl) ?_
          refine lv_dup hx hb dX1_addPiano_48 rfl ?_
          refine md_get (ci := 1) (C := RX1) (T := TX1) (N := 18) (v := .int (x.1 1)) hx hb hts hin hown hK hP rfl 2 (by decide) k_19 rfl rfl rfl dX1_addPiano_49 ?_
          refine lv_iload_n hx hb dX1_addPiano_52 rfl (lv_at hl 2 rfl) ?_
          refine lv_iload_n hx hb dX1_addPiano_53 rfl (lv_at hl 1 rfl) ?_
          refine lv_ishl hx hb dX1_addPiano_54 ?_
          refine lv_ior hx hb dX1_addPiano_55 ?_
          refine md_put (ci := 1) (C := RX1) (T := TX1) (N := 18) hx hb hts hin tyX1 tyX1_ok nmX1 hown hK hP hD hS rfl 2 (by decide) k_19 rfl rfl (q := 1) rfl (fu (by decide)) rfl rfl dX1_addPiano_56 (fun H locs hP hD hS => ?_)
          refine lv_aload_n hx hb dX1_addPiano_59 rfl (lv_at hl 0 rfl) ?_
          refine md_get (ci := 1) (C := RX1) (T := TX1) (N := 18) (v := .ref (h 2)) hx hb hts hin hown hK hP rfl 4 (by decide) k_25 rfl rfl rfl dX1_addPiano_60 ?_
          refine lv_iload_n hx hb dX1_addPiano_63 rfl (lv_at hl 1 rfl) ?_
          refine lv_bipush (v := 100) hx hb dX1_addPiano_64 (by decide) ?_
          refine md_is hx hb hK hP hD hS 1 0 rfl rfl (by first | assumption | decide | exact vp_in_iff.mpr ⟨by omega, by omega⟩ | exact isPlace_in (by assumption) | exact has_in (by assumption)) dX1_addPiano_66 (fun H locs hP hD hS => ?_)
          refine lv_aload_n hx hb dX1_addPiano_67 rfl (lv_at hl 0 rfl) ?_
          refine md_get (ci := 1) (C := RX1) (T := TX1) (N := 18) (v := .ref (h 3)) hx hb hts hin hown hK hP rfl 5 (by decide) k_28 rfl rfl rfl dX1_addPiano_68 ?_
          refine lv_iload_n hx hb dX1_addPiano_71 rfl (lv_at hl 1 rfl) ?_
          refine lv_iconst (v := 0) hx hb dX1_addPiano_72 (by decide) ?_
          refine md_is hx hb hK hP hD hS 2 0 rfl rfl (by first | assumption | decide | exact vp_in_iff.mpr ⟨by omega, by omega⟩ | exact isPlace_in (by assumption) | exact has_in (by assumption)) dX1_addPiano_73 (fun H locs hP hD hS => ?_)
          refine lv_aload_n hx hb dX1_addPiano_74 rfl (lv_at hl 0 rfl) ?_
          refine md_get (ci := 1) (C := RX1) (T := TX1) (N := 18) (v := .ref (h 4)) hx hb hts hin hown hK hP rfl 6 (by decide) k_31 rfl rfl rfl dX1_addPiano_75 ?_
          refine lv_iload_n hx hb dX1_addPiano_78 rfl (lv_at hl 1 rfl) ?_
          refine lv_iconst (v := 0) hx hb dX1_addPiano_79 (by decide) ?_
          refine md_is hx hb hK hP hD hS 3 0 rfl rfl (by first | assumption | decide | exact vp_in_iff.mpr ⟨by omega, by omega⟩ | exact isPlace_in (by assumption) | exact has_in (by assumption)) dX1_addPiano_80 (fun H locs hP hD hS => ?_)
          refine lv_aload_n hx hb dX1_addPiano_81 rfl (lv_at hl 0 rfl) ?_
          refine md_get (ci := 1) (C := RX1) (T := TX1) (N := 18) (v := .ref (h 5)) hx hb hts hin hown hK hP rfl 7 (by decide) k_34 rfl rfl rfl dX1_addPiano_82 ?_
          refine lv_iload_n hx hb dX1_addPiano_85 rfl (lv_at hl 1 rfl) ?_
          refine lv_iconst (v := 0) hx hb dX1_addPiano_86 (by decide) ?_
          refine md_is hx hb hK hP hD hS 4 0 rfl rfl (by first | assumption | decide | exact vp_in_iff.mpr ⟨by omega, by omega⟩ | exact isPlace_in (by assumption) | exact has_in (by assumption)) dX1_addPiano_87 (fun H locs hP hD hS => ?_)
          refine lv_aload_n hx hb dX1_addPiano_88 rfl (lv_at hl 0 rfl) ?_
          refine md_get (ci := 1) (C := RX1) (T := TX1) (N := 18) (v := .int ((x.1 0) ||| (1 <<< (a1 &&& 31)))) hx hb hts hin hown hK hP rfl 1 (by decide) k_15 rfl rfl rfl dX1_addPiano_89 ?_
          refine gn_i hP hS hA (rn_S (As := [.int ((x.1 0) ||| (1 <<< (a1 &&& 31)))]) (rest := []) ⟨hx, hb, hml, hown, hts⟩ (ctJ6_bitCount_0f7a4 l G cI cC cZ cR ((x.1 0) ||| (1 <<< (a1 &&& 31)))) (va_cwS 1 hts gX1_addPiano_J6_bitCount_0f7a4 rfl rfl rfl (by decide +kernel) ⟨Nat.le_of_ble_eq_true rfl, Nat.le_of_ble_eq_true rfl⟩) hK nilP (nilD (A := A)) hN rfl hl.1 rfl (Nat.le_of_ble_eq_true rfl) dX1_addPiano_92) (fun H locs hP hS => ?_)
          exact rt_b hx hb hr hlocks hP hD hS rfl ((show pX1_addPiano a1 a2 x = ((pJ6_bitCount_0f7a4 ((x.1 0) ||| (1 <<< (a1 &&& 31)))), (pR (pR (pR (pR (pS (pS x 0 ((x.1 0) ||| (1 <<< (a1 &&& 31)))) 1 ((x.1 1) ||| (a2 <<< (a1 &&& 31)))) 1 a1 100) 2 a1 0) 3 a1 0) 4 a1 0)) by rw [pX1_addPiano, if_neg c_1, if_neg c_2, if_pos c_4, if_pos c_5]).symm.trans hres |>.symm) dX1_addPiano_95
        · refine lv_bipush (v := (-5)) hx hb dX1_addPiano_32 (by decide) ?_
          exact rt_b hx hb hr hlocks hP hD hS rfl ((show pX1_addPiano a1 a2 x = ((-5), x) by rw [pX1_addPiano, if_neg c_1, if_neg c_2, if_pos c_4, if_neg c_5]).symm.trans hres |>.symm) dX1_addPiano_34
      · refine lv_bipush (v := (-2)) hx hb dX1_addPiano_18 (by decide) ?_
        exact rt_b hx hb hr hlocks hP hD hS rfl ((show pX1_addPiano a1 a2 x = ((-2), x) by rw [pX1_addPiano, if_neg c_1, if_neg c_2, if_neg c_4]).symm.trans hres |>.symm) dX1_addPiano_20
  · refine lv_iconst (v := (-1)) hx hb dX1_addPiano_7 (by decide) ?_
    exact rt_b hx hb hr hlocks hP hD hS rfl ((show pX1_addPiano a1 a2 x = ((-1), x) by rw [pX1_addPiano, if_pos c_1]).symm.trans hres |>.symm) dX1_addPiano_8
def pX1_removePiano (a1 : Int32) (x : SR) : Int32 × SR := if (pX2_has (x.1 0) a1) = 0 then ((-1), x)
  else ((pJ6_bitCount_0f7a4 ((x.1 0) &&& ((1 <<< (a1 &&& 31)) ^^^ (-1)))), (pS (pS (pS x 0 ((x.1 0) &&& ((1 <<< (a1 &&& 31)) ^^^ (-1)))) 1 ((x.1 1) &&& ((1 <<< (a1 &&& 31)) ^^^ (-1)))) 2 ((x.1 2) &&& ((1 <<< (a1 &&& 31)) ^^^ (-1)))))
set_option maxHeartbeats 4000000 in
set_option maxRecDepth 100000 in
theorem ctX1_removePiano (l : Launch) (G : va_G) (cI cC cZ cR : ClassId) (h : Ad) (x : SR) (a1 : Int32) : Ct l yX1_removePiano wsX1_removePiano (rmz 1 21) G (TY cI cC cZ cR) [.ref (h 0), .int a1] (wSt cI h x) (Qi G (wSt cI h x) (pX1_removePiano a1 x).1 (wSt cI h (pX1_removePiano a1 x).2)) := by
  refine Ct.ofI (cc := cX1_removePiano) (maxL := 3) (ret := (some .int)) (by decide) rfl rfl ?_
  intro p e s m below meth c A ls E0 hP hD hS hl
  obtain ⟨hx, hb, hr, hml, hlocks, hts, hown, hK, hN, hA⟩ := E0
  have hl : lv_has ls 3 [(0, .ref (h 0)), (1, .int a1)] := hl
  have hin : ∀ w ∈ wsX10, w ∈ wsX1_removePiano := fun w hw => List.mem_cons_of_mem _ (List.mem_append_right _ (hw))
  have k_15 : (Cond.fieldLink RX1 15 RX1 (TX1 1).2.1 (TX1 1).2.2.1).before ([.ref (h 0), .int a1] : List Value).toArray s = true := hts _ (List.mem_of_getElem? (i := 1) rfl)
  have k_19 : (Cond.fieldLink RX1 19 RX1 (TX1 2).2.1 (TX1 2).2.2.1).before ([.ref (h 0), .int a1] : List Value).toArray s = true := hts _ (List.mem_of_getElem? (i := 2) rfl)
  have k_22 : (Cond.fieldLink RX1 22 RX1 (TX1 3).2.1 (TX1 3).2.2.1).before ([.ref (h 0), .int a1] : List Value).toArray s = true := hts _ (List.mem_of_getElem? (i := 3) rfl)
  generalize hres : pX1_removePiano a1 x = res
  refine lv_aload_n hx hb dX1_removePiano_0 rfl (lv_at hl 0 rfl) ?_
  refine md_get (ci := 1) (C := RX1) (T := TX1) (N := 18) (v := .int (x.1 0)) hx hb hts hin hown hK hP rfl 1 (by decide) k_15 rfl rfl rfl dX1_removePiano_1 ?_
  refine lv_iload_n hx hb dX1_removePiano_4 rfl (lv_at hl 1 rfl) ?_
  refine gn_i hP hS hA (rn_SN (As := [.int (x.1 0), .int a1]) (rest := []) ⟨hx, hb, hml, hown, hts⟩ (ctX2_has l G cI cC cZ cR (x.1 0) a1) ⟨va_cnB 2 hts gX1_removePiano_X2_has_n87 rfl rfl rfl (NWs.nw hN 28 rfl) (hts _ (List.mem_of_getElem? (i := 5) rfl)) (by decide +kernel) ⟨Nat.le_of_ble_eq_true rfl, Nat.le_of_ble_eq_true rfl⟩, hts _ (List.mem_of_getElem? (i := 4) rfl), trivial⟩ hK nilP (nilD (A := A)) hN rfl hl.1 rfl (Nat.le_of_ble_eq_true rfl) dX1_removePiano_5) (fun H locs hP hS => ?_)
  refine lv_if_ne (tgt := 13) hx hb dX1_removePiano_8 (by decide) (fun c_1 => ?_) (fun c_1 => ?_)
  · refine lv_iconst (v := 1) hx hb dX1_removePiano_13 (by decide) ?_
    refine lv_iload_n hx hb dX1_removePiano_14 rfl (lv_at hl 1 rfl) ?_
    refine lv_ishl hx hb dX1_removePiano_15 ?_
    refine lv_iconst (v := (-1)) hx hb dX1_removePiano_16 (by decide) ?_
    refine lv_ixor hx hb dX1_removePiano_17 ?_
    refine lv_istore_n (lv' := [(2, .int ((1 <<< (a1 &&& 31)) ^^^ (-1))), (0, .ref (h 0)), (1, .int a1)]) hx hb dX1_removePiano_18 rfl hl (by decide) rfl (fun ls hl => ?_)
    refine lv_aload_n hx hb dX1_removePiano_19 rfl (lv_at hl 1 rfl) ?_
    refine lv_dup hx hb dX1_removePiano_20 rfl ?_
    refine md_get (ci := 1) (C := RX1) (T := TX1) (N := 18) (v := .int (x.1 0)) hx hb hts hin hown hK hP rfl 1 (by decide) k_15 rfl rfl rfl dX1_removePiano_21 ?_
    refine lv_iload_n hx hb dX1_removePiano_24 rfl (lv_at hl 0 rfl) ?_
    refine lv_iand hx hb dX1_removePiano_25 ?_
    refine md_put (ci := 1) (C := RX1) (T := TX1) (N := 18) hx hb hts hin tyX1 tyX1_ok nmX1 hown hK hP hD hS rfl 1 (by decide) k_15 rfl rfl (q := 0) rfl (fu (by decide)) rfl rfl dX1_removePiano_26 (fun H locs hP hD hS => ?_)
    refine lv_aload_n hx hb dX1_removePiano_29 rfl (lv_at hl 1 rfl) ?_
    refine lv_dup hx hb dX1_removePiano_30 rfl ?_
    refine md_get (ci := 1) (C := RX1) (T := TX1) (N := 18) (v := .int (x.1 1)) hx hb hts hin hown hK hP rfl 2 (by decide) k_19 rfl rfl rfl dX1_removePiano_31 ?_
    refine lv_iload_n hx hb dX1_removePiano_34 rfl (lv_at hl 0 rfl) ?_
    refine lv_iand hx hb dX1_removePiano_35 ?_
    refine md_put (ci := 1) (C := RX1) (T := TX1) (N := 18) hx hb hts hin tyX1 tyX1_ok nmX1 hown hK hP hD hS rfl 2 (by decide) k_19 rfl rfl (q := 1) rfl (fu (by decide)) rfl rfl dX1_removePiano_36 (fun H locs hP hD hS => ?_)
    refine lv_aload_n hx hb dX1_removePiano_39 rfl (lv_at hl 1 rfl) ?_
    refine lv_dup hx hb dX1_removePiano_40 rfl ?_
    refine md_get (ci := 1) (C := RX1) (T := TX1) (N := 18) (v := .int (x.1 2)) hx hb hts hin hown hK hP rfl 3 (by decide) k_22 rfl rfl rfl dX1_removePiano_41 ?_
    refine lv_iload_n hx hb dX1_removePiano_44 rfl (lv_at hl 0 rfl) ?_
    refine lv_iand hx hb dX1_removePiano_45 ?_
    refine md_put (ci := 1) (C := RX1) (T := TX1) (N := 18) hx hb hts hin tyX1 tyX1_ok nmX1 hown hK hP hD hS rfl 3 (by decide) k_22 rfl rfl (q := 2) rfl (fu (by decide)) rfl rfl dX1_removePiano_46 (fun H locs hP hD hS => ?_)
    refine lv_aload_n hx hb dX1_removePiano_49 rfl (lv_at hl 1 rfl) ?_
    refine md_get (ci := 1) (C := RX1) (T := TX1) (N := 18) (v := .int ((x.1 0) &&& ((1 <<< (a1 &&& 31)) ^^^ (-1)))) hx hb hts hin hown hK hP rfl 1 (by decide) k_15 rfl rfl rfl dX1_removePiano_50 ?_
    refine gn_i hP hS hA (rn_S (As := [.int ((x.1 0) &&& ((1 <<< (a1 &&& 31)) ^^^ (-1)))]) (rest := []) ⟨hx, hb, hml, hown, hts⟩ (ctJ6_bitCount_0f7a4 l G cI cC cZ cR ((x.1 0) &&& ((1 <<< (a1 &&& 31)) ^^^ (-1)))) (va_cwS 1 hts gX1_removePiano_J6_bitCount_0f7a4 rfl rfl rfl (by decide +kernel) ⟨Nat.le_of_ble_eq_true rfl, Nat.le_of_ble_eq_true rfl⟩) hK nilP (nilD (A := A)) hN rfl hl.1 rfl (Nat.le_of_ble_eq_true rfl) dX1_removePiano_53) (fun H locs hP hS => ?_)
    exact rt_b hx hb hr hlocks hP hD hS rfl ((show pX1_removePiano a1 x = ((pJ6_bitCount_0f7a4 ((x.1 0) &&& ((1 <<< (a1 &&& 31)) ^^^ (-1)))), (pS (pS (pS x 0 ((x.1 0) &&& ((1 <<< (a1 &&& 31)) ^^^ (-1)))) 1 ((x.1 1) &&& ((1 <<< (a1 &&& 31)) ^^^ (-1)))) 2 ((x.1 2) &&& ((1 <<< (a1 &&& 31)) ^^^ (-1))))) by rw [pX1_removePiano, if_neg c_1]).symm.trans hres |>.symm) dX1_removePiano_56
  · refine lv_iconst (v := (-1)) hx hb dX1_removePiano_11 (by decide) ?_
    exact rt_b hx hb hr hlocks hP hD hS rfl ((show pX1_removePiano a1 x = ((-1), x) by rw [pX1_removePiano, if_pos c_1]).symm.trans hres |>.symm) dX1_removePiano_12
def pX1_addKeeper (a1 : Int32) (x : SR) : SR := if (x.1 3) < 0 then x
  else if (x.1 3) ≤ 4 then (pS (pR (pR (pR (pR (pR x 5 (x.1 3) a1) 6 (x.1 3) 0) 7 (x.1 3) 0) 8 (x.1 3) 0) 9 (x.1 3) 0) 3 ((x.1 3) + 1))
    else x
set_option maxHeartbeats 4000000 in
set_option maxRecDepth 100000 in
theorem ctX1_addKeeper (l : Launch) (G : va_G) (cI cC cZ cR : ClassId) (h : Ad) (x : SR) (a1 : Int32) : Ct l yX1_addKeeper wsX1_addKeeper (rmz 0 0) G (TY cI cC cZ cR) [.ref (h 0), .int a1] (wSt cI h x) (Qv G (wSt cI h x) (wSt cI h (pX1_addKeeper a1 x))) := by
  refine Ct.ofV (cc := cX1_addKeeper) (maxL := 2) (ret := none) (by decide) rfl rfl ?_
  intro p e s m below meth c A ls E0 hP hD hS hl
  obtain ⟨hx, hb, hr, hml, hlocks, hts, hown, hK, hN, hA⟩ := E0
  have hl : lv_has ls 2 [(0, .ref (h 0)), (1, .int a1)] := hl
  have hin : ∀ w ∈ wsX10, w ∈ wsX1_addKeeper := fun w hw => List.mem_cons_of_mem _ (List.mem_append_right _ (hw))
  have k_37 : (Cond.fieldLink RX1 37 RX1 (TX1 8).2.1 (TX1 8).2.2.1).before ([.ref (h 0), .int a1] : List Value).toArray s = true := hts _ (List.mem_of_getElem? (i := 1) rfl)
  have k_40 : (Cond.fieldLink RX1 40 RX1 (TX1 9).2.1 (TX1 9).2.2.1).before ([.ref (h 0), .int a1] : List Value).toArray s = true := hts _ (List.mem_of_getElem? (i := 2) rfl)
  have k_43 : (Cond.fieldLink RX1 43 RX1 (TX1 10).2.1 (TX1 10).2.2.1).before ([.ref (h 0), .int a1] : List Value).toArray s = true := hts _ (List.mem_of_getElem? (i := 3) rfl)
  have k_46 : (Cond.fieldLink RX1 46 RX1 (TX1 11).2.1 (TX1 11).2.2.1).before ([.ref (h 0), .int a1] : List Value).toArray s = true := hts _ (List.mem_of_getElem? (i := 4) rfl)
  have k_49 : (Cond.fieldLink RX1 49 RX1 (TX1 12).2.1 (TX1 12).2.2.1).before ([.ref (h 0), .int a1] : List Value).toArray s = true := hts _ (List.mem_of_getElem? (i := 5) rfl)
  have k_52 : (Cond.fieldLink RX1 52 RX1 (TX1 13).2.1 (TX1 13).2.2.1).before ([.ref (h 0), .int a1] : List Value).toArray s = true := hts _ (List.mem_of_getElem? (i := 6) rfl)
  generalize hres : pX1_addKeeper a1 x = res
  refine lv_aload_n hx hb dX1_addKeeper_0 rfl (lv_at hl 0 rfl) ?_
  refine md_get (ci := 1) (C := RX1) (T := TX1) (N := 18) (v := .int (x.1 3)) hx hb hts hin hown hK hP rfl 8 (by decide) k_37 rfl rfl rfl dX1_addKeeper_1 ?_
  refine lv_if_lt (tgt := 15) hx hb dX1_addKeeper_4 (by decide) (fun c_1 => ?_) (fun c_1 => ?_)
  · have t_1 := i_lt (z := (Int32.toInt (x.1 3))) (w := (0)) c_1 rfl (by decide)
    exact rt_s hx hb hr hlocks hP hD hS ((show pX1_addKeeper a1 x = x by rw [pX1_addKeeper, if_pos c_1]).symm.trans hres |>.symm) dX1_addKeeper_15
  · have t_1 := i_nlt (z := (Int32.toInt (x.1 3))) (w := (0)) c_1 rfl (by decide)
    refine lv_aload_n hx hb dX1_addKeeper_7 rfl (lv_at hl 0 rfl) ?_
    refine md_get (ci := 1) (C := RX1) (T := TX1) (N := 18) (v := .int (x.1 3)) hx hb hts hin hown hK hP rfl 8 (by decide) k_37 rfl rfl rfl dX1_addKeeper_8 ?_
    refine lv_iconst (v := 4) hx hb dX1_addKeeper_11 (by decide) ?_
    refine lv_icmp_le (tgt := 16) hx hb dX1_addKeeper_12 (by decide) (fun c_2 => ?_) (fun c_2 => ?_)
    · have t_2 := i_le (z := (Int32.toInt (x.1 3))) (w := (4)) c_2 rfl (by decide)
      refine lv_aload_n hx hb dX1_addKeeper_16 rfl (lv_at hl 0 rfl) ?_
      refine md_get (ci := 1) (C := RX1) (T := TX1) (N := 18) (v := .ref (h 6)) hx hb hts hin hown hK hP rfl 9 (by decide) k_40 rfl rfl rfl dX1_addKeeper_17 ?_
      refine lv_aload_n hx hb dX1_addKeeper_20 rfl (lv_at hl 0 rfl) ?_
      refine md_get (ci := 1) (C := RX1) (T := TX1) (N := 18) (v := .int (x.1 3)) hx hb hts hin hown hK hP rfl 8 (by decide) k_37 rfl rfl rfl dX1_addKeeper_21 ?_
      refine lv_iload_n hx hb dX1_addKeeper_24 rfl (lv_at hl 1 rfl) ?_
      refine md_is hx hb hK hP hD hS 5 0 rfl rfl (by first | assumption | decide | exact vp_in_iff.mpr ⟨by omega, by omega⟩ | exact isPlace_in (by assumption) | exact has_in (by assumption)) dX1_addKeeper_25 (fun H locs hP hD hS => ?_)
      refine lv_aload_n hx hb dX1_addKeeper_26 rfl (lv_at hl 0 rfl) ?_
      refine md_get (ci := 1) (C := RX1) (T := TX1) (N := 18) (v := .ref (h 7)) hx hb hts hin hown hK hP rfl 10 (by decide) k_43 rfl rfl rfl dX1_addKeeper_27 ?_
      refine lv_aload_n hx hb dX1_addKeeper_30 rfl (lv_at hl 0 rfl) ?_
      refine md_get (ci := 1) (C := RX1) (T := TX1) (N := 18) (v := .int (x.1 3)) hx hb hts hin hown hK hP rfl 8 (by decide) k_37 rfl rfl rfl dX1_addKeeper_31 ?_
      refine lv_iconst (v := 0) hx hb dX1_addKeeper_34 (by decide) ?_
      refine md_is hx hb hK hP hD hS 6 0 rfl rfl (by first | assumption | decide | exact vp_in_iff.mpr ⟨by omega, by omega⟩ | exact isPlace_in (by assumption) | exact has_in (by assumption)) dX1_addKeeper_35 (fun H locs hP hD hS => ?_)
      refine lv_aload_n hx hb dX1_addKeeper_36 rfl (lv_at hl 0 rfl) ?_
      refine md_get (ci := 1) (C := RX1) (T := TX1) (N := 18) (v := .ref (h 8)) hx hb hts hin hown hK hP rfl 11 (by decide) k_46 rfl rfl rfl dX1_addKeeper_37 ?_
      refine lv_aload_n hx hb dX1_addKeeper_40 rfl (lv_at hl 0 rfl) ?_
      refine md_get (ci := 1) (C := RX1) (T := TX1) (N := 18) (v := .int (x.1 3)) hx hb hts hin hown hK hP rfl 8 (by decide) k_37 rfl rfl rfl dX1_addKeeper_41 ?_
      refine lv_iconst (v := 0) hx hb dX1_addKeeper_44 (by decide) ?_
      refine md_is hx hb hK hP hD hS 7 0 rfl rfl (by first | assumption | decide | exact vp_in_iff.mpr ⟨by omega, by omega⟩ | exact isPlace_in (by assumption) | exact has_in (by assumption)) dX1_addKeeper_45 (fun H locs hP hD hS => ?_)
      refine lv_aload_n hx hb dX1_addKeeper_46 rfl (lv_at hl 0 rfl) ?_
      refine md_get (ci := 1) (C := RX1) (T := TX1) (N := 18) (v := .ref (h 9)) hx hb hts hin hown hK hP rfl 12 (by decide) k_49 rfl rfl rfl dX1_addKeeper_47 ?_
      refine lv_aload_n hx hb dX1_addKeeper_50 rfl (lv_at hl 0 rfl) ?_
      refine md_get (ci := 1) (C := RX1) (T := TX1) (N := 18) (v := .int (x.1 3)) hx hb hts hin hown hK hP rfl 8 (by decide) k_37 rfl rfl rfl dX1_addKeeper_51 ?_
      refine lv_iconst (v := 0) hx hb dX1_addKeeper_54 (by decide) ?_
      refine md_is hx hb hK hP hD hS 8 0 rfl rfl (by first | assumption | decide | exact vp_in_iff.mpr ⟨by omega, by omega⟩ | exact isPlace_in (by assumption) | exact has_in (by assumption)) dX1_addKeeper_55 (fun H locs hP hD hS => ?_)
      refine lv_aload_n hx hb dX1_addKeeper_56 rfl (lv_at hl 0 rfl) ?_
      refine md_get (ci := 1) (C := RX1) (T := TX1) (N := 18) (v := .ref (h 10)) hx hb hts hin hown hK hP rfl 13 (by decide) k_52 rfl rfl rfl dX1_addKeeper_57 ?_
      refine lv_aload_n hx hb dX1_addKeeper_60 rfl (lv_at hl 0 rfl) ?_
      refine md_get (ci := 1) (C := RX1) (T := TX1) (N := 18) (v := .int (x.1 3)) hx hb hts hin hown hK hP rfl 8 (by decide) k_37 rfl rfl rfl dX1_addKeeper_61 ?_
      refine lv_iconst (v := 0) hx hb dX1_addKeeper_64 (by decide) ?_
      refine md_is hx hb hK hP hD hS 9 0 rfl rfl (by first | assumption | decide | exact vp_in_iff.mpr ⟨by omega, by omega⟩ | exact isPlace_in (by assumption) | exact has_in (by assumption)) dX1_addKeeper_65 (fun H locs hP hD hS => ?_)
      refine lv_aload_n hx hb dX1_addKeeper_66 rfl (lv_at hl 0 rfl) ?_
      refine lv_dup hx hb dX1_addKeeper_67 rfl ?_
      refine md_get (ci := 1) (C := RX1) (T := TX1) (N := 18) (v := .int (x.1 3)) hx hb hts hin hown hK hP rfl 8 (by decide) k_37 rfl rfl rfl dX1_addKeeper_68 ?_
      refine lv_iconst (v := 1) hx hb dX1_addKeeper_71 (by decide) ?_
      refine lv_iadd hx hb dX1_addKeeper_72 ?_
      refine md_put (ci := 1) (C := RX1) (T := TX1) (N := 18) hx hb hts hin tyX1 tyX1_ok nmX1 hown hK hP hD hS rfl 8 (by decide) k_37 rfl rfl (q := 3) rfl (fu (by decide)) rfl rfl dX1_addKeeper_73 (fun H locs hP hD hS => ?_)
      exact rt_s hx hb hr hlocks hP hD hS ((show pX1_addKeeper a1 x = (pS (pR (pR (pR (pR (pR x 5 (x.1 3) a1) 6 (x.1 3) 0) 7 (x.1 3) 0) 8 (x.1 3) 0) 9 (x.1 3) 0) 3 ((x.1 3) + 1)) by rw [pX1_addKeeper, if_neg c_1, if_pos c_2]).symm.trans hres |>.symm) dX1_addKeeper_76
    · have t_2 := i_nle (z := (Int32.toInt (x.1 3))) (w := (4)) c_2 rfl (by decide)
      exact rt_s hx hb hr hlocks hP hD hS ((show pX1_addKeeper a1 x = x by rw [pX1_addKeeper, if_neg c_1, if_neg c_2]).symm.trans hres |>.symm) dX1_addKeeper_15
def pX1_hireKeeper (a1 : Int32) (x : SR) : Int32 × SR := if (pX2_isPlace a1) = 0 then ((-1), x)
  else if (x.1 3) < 4 then ((((pX1_addKeeper a1 x).1 3) - 1), (pX1_addKeeper a1 x))
    else ((-4), x)
set_option maxHeartbeats 4000000 in
set_option maxRecDepth 100000 in
theorem ctX1_hireKeeper (l : Launch) (G : va_G) (cI cC cZ cR : ClassId) (h : Ad) (x : SR) (a1 : Int32) : Ct l yX1_hireKeeper wsX1_hireKeeper (rmz 1 21) G (TY cI cC cZ cR) [.ref (h 0), .int a1] (wSt cI h x) (Qi G (wSt cI h x) (pX1_hireKeeper a1 x).1 (wSt cI h (pX1_hireKeeper a1 x).2)) := by
  refine Ct.ofI (cc := cX1_hireKeeper) (maxL := 2) (ret := (some .int)) (by decide) rfl rfl ?_
  intro p e s m below meth c A ls E0 hP hD hS hl
  obtain ⟨hx, hb, hr, hml, hlocks, hts, hown, hK, hN, hA⟩ := E0
  have hl : lv_has ls 2 [(0, .ref (h 0)), (1, .int a1)] := hl
  have hin : ∀ w ∈ wsX10, w ∈ wsX1_hireKeeper := fun w hw => List.mem_cons_of_mem _ (List.mem_append_right _ (hw))
  have k_37 : (Cond.fieldLink RX1 37 RX1 (TX1 8).2.1 (TX1 8).2.2.1).before ([.ref (h 0), .int a1] : List Value).toArray s = true := hts _ (List.mem_of_getElem? (i := 1) rfl)
  generalize hres : pX1_hireKeeper a1 x = res
  refine lv_iload_n hx hb dX1_hireKeeper_0 rfl (lv_at hl 1 rfl) ?_
  refine gn_i hP hS hA (rn_SN (As := [.int a1]) (rest := []) ⟨hx, hb, hml, hown, hts⟩ (ctX2_isPlace l G cI cC cZ cR a1) ⟨va_cnB 1 hts gX1_hireKeeper_X2_isPlace_n83 rfl rfl rfl (NWs.nw hN 27 rfl) (hts _ (List.mem_of_getElem? (i := 3) rfl)) (by decide +kernel) ⟨Nat.le_of_ble_eq_true rfl, Nat.le_of_ble_eq_true rfl⟩, hts _ (List.mem_of_getElem? (i := 2) rfl), trivial⟩ hK nilP (nilD (A := A)) hN rfl hl.1 rfl (Nat.le_of_ble_eq_true rfl) dX1_hireKeeper_1) (fun H locs hP hS => ?_)
  refine lv_if_ne (tgt := 9) hx hb dX1_hireKeeper_4 (by decide) (fun c_1 => ?_) (fun c_1 => ?_)
  · refine lv_aload_n hx hb dX1_hireKeeper_9 rfl (lv_at hl 0 rfl) ?_
    refine md_get (ci := 1) (C := RX1) (T := TX1) (N := 18) (v := .int (x.1 3)) hx hb hts hin hown hK hP rfl 8 (by decide) k_37 rfl rfl rfl dX1_hireKeeper_10 ?_
    refine lv_iconst (v := 4) hx hb dX1_hireKeeper_13 (by decide) ?_
    refine lv_icmp_lt (tgt := 20) hx hb dX1_hireKeeper_14 (by decide) (fun c_2 => ?_) (fun c_2 => ?_)
    · have t_2 := i_lt (z := (Int32.toInt (x.1 3))) (w := (4)) c_2 rfl (by decide)
      refine lv_aload_n hx hb dX1_hireKeeper_20 rfl (lv_at hl 0 rfl) ?_
      refine lv_iload_n hx hb dX1_hireKeeper_21 rfl (lv_at hl 1 rfl) ?_
      refine go_v hD hS hA (rn_V (As := [.int a1]) (rest := []) ⟨hx, hb, hml, hown, hts⟩ (ctX1_addKeeper l G cI cC cZ cR h x a1) (cwV 1 hts gX1_hireKeeper_X1_addKeeper rfl rfl rfl (by decide +kernel) ⟨Nat.le_of_ble_eq_true rfl, Nat.le_of_ble_eq_true rfl⟩) (md_recv hK hP rfl) hK hP hD hN rfl hl.1 rfl (Nat.le_of_ble_eq_true rfl) dX1_hireKeeper_22) (fun H locs hP hD hS => ?_)
      refine lv_aload_n hx hb dX1_hireKeeper_25 rfl (lv_at hl 0 rfl) ?_
      refine md_get (ci := 1) (C := RX1) (T := TX1) (N := 18) (v := .int ((pX1_addKeeper a1 x).1 3)) hx hb hts hin hown hK hP rfl 8 (by decide) k_37 rfl rfl rfl dX1_hireKeeper_26 ?_
      refine lv_iconst (v := 1) hx hb dX1_hireKeeper_29 (by decide) ?_
      refine lv_isub hx hb dX1_hireKeeper_30 ?_
      exact rt_b hx hb hr hlocks hP hD hS rfl ((show pX1_hireKeeper a1 x = ((((pX1_addKeeper a1 x).1 3) - 1), (pX1_addKeeper a1 x)) by rw [pX1_hireKeeper, if_neg c_1, if_pos c_2]).symm.trans hres |>.symm) dX1_hireKeeper_31
    · have t_2 := i_nlt (z := (Int32.toInt (x.1 3))) (w := (4)) c_2 rfl (by decide)
      refine lv_bipush (v := (-4)) hx hb dX1_hireKeeper_17 (by decide) ?_
      exact rt_b hx hb hr hlocks hP hD hS rfl ((show pX1_hireKeeper a1 x = ((-4), x) by rw [pX1_hireKeeper, if_neg c_1, if_neg c_2]).symm.trans hres |>.symm) dX1_hireKeeper_19
  · refine lv_iconst (v := (-1)) hx hb dX1_hireKeeper_7 (by decide) ?_
    exact rt_b hx hb hr hlocks hP hD hS rfl ((show pX1_hireKeeper a1 x = ((-1), x) by rw [pX1_hireKeeper, if_pos c_1]).symm.trans hres |>.symm) dX1_hireKeeper_8
def pX1_layCover (a1 : Int32) (x : SR) : Int32 × SR := if (pX2_has (x.1 0) a1) = 0 then ((-1), x)
  else if (pX2_has ((x.1 1) ||| (x.1 2)) a1) = 0 then ((pJ6_bitCount_0f7a4 (((x.1 1) ||| (1 <<< (a1 &&& 31))) ||| (x.1 2))), (pS x 1 ((x.1 1) ||| (1 <<< (a1 &&& 31)))))
    else ((-5), x)
set_option maxHeartbeats 4000000 in
set_option maxRecDepth 100000 in
theorem ctX1_layCover (l : Launch) (G : va_G) (cI cC cZ cR : ClassId) (h : Ad) (x : SR) (a1 : Int32) : Ct l yX1_layCover wsX1_layCover (rmz 1 21) G (TY cI cC cZ cR) [.ref (h 0), .int a1] (wSt cI h x) (Qi G (wSt cI h x) (pX1_layCover a1 x).1 (wSt cI h (pX1_layCover a1 x).2)) := by
  refine Ct.ofI (cc := cX1_layCover) (maxL := 2) (ret := (some .int)) (by decide) rfl rfl ?_
  intro p e s m below meth c A ls E0 hP hD hS hl
  obtain ⟨hx, hb, hr, hml, hlocks, hts, hown, hK, hN, hA⟩ := E0
  have hl : lv_has ls 2 [(0, .ref (h 0)), (1, .int a1)] := hl
  have hin : ∀ w ∈ wsX10, w ∈ wsX1_layCover := fun w hw => List.mem_cons_of_mem _ (List.mem_append_right _ (hw))
  have k_15 : (Cond.fieldLink RX1 15 RX1 (TX1 1).2.1 (TX1 1).2.2.1).before ([.ref (h 0), .int a1] : List Value).toArray s = true := hts _ (List.mem_of_getElem? (i := 1) rfl)
  have k_19 : (Cond.fieldLink RX1 19 RX1 (TX1 2).2.1 (TX1 2).2.2.1).before ([.ref (h 0), .int a1] : List Value).toArray s = true := hts _ (List.mem_of_getElem? (i := 2) rfl)
  have k_22 : (Cond.fieldLink RX1 22 RX1 (TX1 3).2.1 (TX1 3).2.2.1).before ([.ref (h 0), .int a1] : List Value).toArray s = true := hts _ (List.mem_of_getElem? (i := 3) rfl)
  generalize hres : pX1_layCover a1 x = res
  refine lv_aload_n hx hb dX1_layCover_0 rfl (lv_at hl 0 rfl) ?_
  refine md_get (ci := 1) (C := RX1) (T := TX1) (N := 18) (v := .int (x.1 0)) hx hb hts hin hown hK hP rfl 1 (by decide) k_15 rfl rfl rfl dX1_layCover_1 ?_
  refine lv_iload_n hx hb dX1_layCover_4 rfl (lv_at hl 1 rfl) ?_
  refine gn_i hP hS hA (rn_SN (As := [.int (x.1 0), .int a1]) (rest := []) ⟨hx, hb, hml, hown, hts⟩ (ctX2_has l G cI cC cZ cR (x.1 0) a1) ⟨va_cnB 2 hts gX1_layCover_X2_has_n87 rfl rfl rfl (NWs.nw hN 28 rfl) (hts _ (List.mem_of_getElem? (i := 5) rfl)) (by decide +kernel) ⟨Nat.le_of_ble_eq_true rfl, Nat.le_of_ble_eq_true rfl⟩, hts _ (List.mem_of_getElem? (i := 4) rfl), trivial⟩ hK nilP (nilD (A := A)) hN rfl hl.1 rfl (Nat.le_of_ble_eq_true rfl) dX1_layCover_5) (fun H locs hP hS => ?_)
  refine lv_if_ne (tgt := 13) hx hb dX1_layCover_8 (by decide) (fun c_1 => ?_) (fun c_1 => ?_)
  · refine lv_aload_n hx hb dX1_layCover_13 rfl (lv_at hl 0 rfl) ?_
    refine md_get (ci := 1) (C := RX1) (T := TX1) (N := 18) (v := .int (x.1 1)) hx hb hts hin hown hK hP rfl 2 (by decide) k_19 rfl rfl rfl dX1_layCover_14 ?_
    refine lv_aload_n hx hb dX1_layCover_17 rfl (lv_at hl 0 rfl) ?_
    refine md_get (ci := 1) (C := RX1) (T := TX1) (N := 18) (v := .int (x.1 2)) hx hb hts hin hown hK hP rfl 3 (by decide) k_22 rfl rfl rfl dX1_layCover_18 ?_
    refine lv_ior hx hb dX1_layCover_21 ?_
    refine lv_iload_n hx hb dX1_layCover_22 rfl (lv_at hl 1 rfl) ?_
    refine gn_i hP hS hA (rn_SN (As := [.int ((x.1 1) ||| (x.1 2)), .int a1]) (rest := []) ⟨hx, hb, hml, hown, hts⟩ (ctX2_has l G cI cC cZ cR ((x.1 1) ||| (x.1 2)) a1) ⟨va_cnB 2 hts gX1_layCover_X2_has_n87 rfl rfl rfl (NWs.nw hN 28 rfl) (hts _ (List.mem_of_getElem? (i := 5) rfl)) (by decide +kernel) ⟨Nat.le_of_ble_eq_true rfl, Nat.le_of_ble_eq_true rfl⟩, hts _ (List.mem_of_getElem? (i := 4) rfl), trivial⟩ hK nilP (nilD (A := A)) hN rfl hl.1 rfl (Nat.le_of_ble_eq_true rfl) dX1_layCover_23) (fun H locs hP hS => ?_)
    refine lv_if_eq (tgt := 32) hx hb dX1_layCover_26 (by decide) (fun c_2 => ?_) (fun c_2 => ?_)
    · refine lv_aload_n hx hb dX1_layCover_32 rfl (lv_at hl 0 rfl) ?_
      refine lv_dup hx hb dX1_layCover_33 rfl ?_
      refine md_get (ci := 1) (C := RX1) (T := TX1) (N := 18) (v := .int (x.1 1)) hx hb hts hin hown hK hP rfl 2 (by decide) k_19 rfl rfl rfl dX1_layCover_34 ?_
      refine lv_iconst (v := 1) hx hb dX1_layCover_37 (by decide) ?_
      refine lv_iload_n hx hb dX1_layCover_38 rfl (lv_at hl 1 rfl) ?_
      refine lv_ishl hx hb dX1_layCover_39 ?_
      refine lv_ior hx hb dX1_layCover_40 ?_
      refine md_put (ci := 1) (C := RX1) (T := TX1) (N := 18) hx hb hts hin tyX1 tyX1_ok nmX1 hown hK hP hD hS rfl 2 (by decide) k_19 rfl rfl (q := 1) rfl (fu (by decide)) rfl rfl dX1_layCover_41 (fun H locs hP hD hS => ?_)
      refine lv_aload_n hx hb dX1_layCover_44 rfl (lv_at hl 0 rfl) ?_
      refine md_get (ci := 1) (C := RX1) (T := TX1) (N := 18) (v := .int ((x.1 1) ||| (1 <<< (a1 &&& 31)))) hx hb hts hin hown hK hP rfl 2 (by decide) k_19 rfl rfl rfl dX1_layCover_45 ?_
      refine lv_aload_n hx hb dX1_layCover_48 rfl (lv_at hl 0 rfl) ?_
      refine md_get (ci := 1) (C := RX1) (T := TX1) (N := 18) (v := .int (x.1 2)) hx hb hts hin hown hK hP rfl 3 (by decide) k_22 rfl rfl rfl dX1_layCover_49 ?_
      refine lv_ior hx hb dX1_layCover_52 ?_
      refine gn_i hP hS hA (rn_S (As := [.int (((x.1 1) ||| (1 <<< (a1 &&& 31))) ||| (x.1 2))]) (rest := []) ⟨hx, hb, hml, hown, hts⟩ (ctJ6_bitCount_0f7a4 l G cI cC cZ cR (((x.1 1) ||| (1 <<< (a1 &&& 31))) ||| (x.1 2))) (va_cwS 1 hts gX1_layCover_J6_bitCount_0f7a4 rfl rfl rfl (by decide +kernel) ⟨Nat.le_of_ble_eq_true rfl, Nat.le_of_ble_eq_true rfl⟩) hK nilP (nilD (A := A)) hN rfl hl.1 rfl (Nat.le_of_ble_eq_true rfl) dX1_layCover_53) (fun H locs hP hS => ?_)
      exact rt_b hx hb hr hlocks hP hD hS rfl ((show pX1_layCover a1 x = ((pJ6_bitCount_0f7a4 (((x.1 1) ||| (1 <<< (a1 &&& 31))) ||| (x.1 2))), (pS x 1 ((x.1 1) ||| (1 <<< (a1 &&& 31))))) by rw [pX1_layCover, if_neg c_1, if_pos c_2]).symm.trans hres |>.symm) dX1_layCover_56
    · refine lv_bipush (v := (-5)) hx hb dX1_layCover_29 (by decide) ?_
      exact rt_b hx hb hr hlocks hP hD hS rfl ((show pX1_layCover a1 x = ((-5), x) by rw [pX1_layCover, if_neg c_1, if_neg c_2]).symm.trans hres |>.symm) dX1_layCover_31
  · refine lv_iconst (v := (-1)) hx hb dX1_layCover_11 (by decide) ?_
    exact rt_b hx hb hr hlocks hP hD hS rfl ((show pX1_layCover a1 x = ((-1), x) by rw [pX1_layCover, if_pos c_1]).symm.trans hres |>.symm) dX1_layCover_12
