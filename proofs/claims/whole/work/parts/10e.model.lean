def pX3_hour_L23 : Nat → Int32 → Int32 → Int32 → SR → SR
  | 0, v1, v2, v3, x => x
  | n + 1, v1, v2, v3, x => if 12 ≤ v3 then if 22 ≤ v1 then (pR (pX3_thieves x) 0 7 (((pX3_thieves x).2 0 (ix 7)) + 1))
      else if 5 < v1 then (pR x 0 7 ((x.2 0 (ix 7)) + 1))
        else (pR (pX3_thieves x) 0 7 (((pX3_thieves x).2 0 (ix 7)) + 1))
    else if (pX3_isOpen v3 x) = 0 then pX3_hour_L23 n v1 v2 (v3 + 1) x
      else if v2 = 0 then pX3_hour_L23 n v1 v2 (v3 + 1) (pX3_dries v3 v1 x)
        else pX3_hour_L23 n v1 v2 (v3 + 1) (pX3_rainsOn v3 x)
def pX3_hour (x : SR) : SR := pX3_hour_L23 13 ((x.2 0 (ix 7)) - (x.2 0 (ix 7)) / 24 * 24) (pX3_rainsIn 0 x) 0 (pX3_keepersGo x)
set_option maxHeartbeats 4000000 in
set_option maxRecDepth 100000 in
theorem ctX3_hour (l : Launch) (G : va_G) (cI cC cZ cR : ClassId) (h : Ad) (x : SR) (q_0 : MI x) : Ct l yX3_hour wsX3_hour (rmz 8 177) G (TY cI cC cZ cR) [.ref (h 0)] (wMo cI h x) (Qv G (wMo cI h x) (wMo cI h (pX3_hour x))) := by
  refine Ct.ofV (cc := cX3_hour) (maxL := 4) (ret := none) (by decide) rfl rfl ?_
  intro p e s m below meth c A ls E0 hP hD hS hl
  obtain ⟨hx, hb, hr, hml, hlocks, hts, hown, hK, hN, hA⟩ := E0
  have hl : lv_has ls 4 [(0, .ref (h 0))] := hl
  have hin : ∀ w ∈ wsX30, w ∈ wsX3_hour := fun w hw => List.mem_cons_of_mem _ (List.mem_append_right _ (hw))
  have k_7 : (Cond.fieldLink RX3 7 RX3 (TX3 0).2.1 (TX3 0).2.2.1).before ([.ref (h 0)] : List Value).toArray s = true := hts _ (List.mem_of_getElem? (i := 1) rfl)
  generalize hres : pX3_hour x = res
  have lp_23 : ∀ (n : Nat) (v1 : Int32) (v2 : Int32) (v3 : Int32) (x : SR), 0 ≤ Int32.toInt v3 → Int32.toInt v3 ≤ 12 → MI x → 12 - Int32.toInt v3 < (n : Int) → pX3_hour_L23 n v1 v2 v3 x = res → ∀ (H : Heap) (locs : List Loc) (ls : Array Slot), va_P G vwCl (wMo cI h x) H → va_D A (wMo cI h x) → va_S A s.heap H locs → lv_has ls 4 [(0, .ref (h 0)), (1, .int v1), (2, .int v2), (3, .int v3)] → W p l e (rmz 8 177) s m ([.ref (h 0)] : List Value).toArray below meth c H locs 0 0 (MQ below (QvA G A (wMo cI h res)) ([.ref (h 0)] : List Value).toArray s 0 0 A) (F0 m 23 ls []) := by
    intro n
    induction n with
    | zero =>
      intro v1 v2 v3 x g_0 g_1 g_2 hm
      exfalso; omega
    | succ n ih =>
      intro v1 v2 v3 x g_0 g_1 g_2 hm hq H locs ls hP hD hS hl
      refine lv_iload_n hx hb dX3_hour_23 rfl (lv_at hl 3 rfl) ?_
      refine lv_bipush (v := 12) hx hb dX3_hour_24 (by decide) ?_
      refine lv_icmp_ge (tgt := 61) hx hb dX3_hour_26 (by decide) (fun c_1 => ?_) (fun c_1 => ?_)
      · have t_1 := i_le (z := (12)) (w := (Int32.toInt v3)) c_1 (by decide) rfl
        refine lv_iload_n hx hb dX3_hour_61 rfl (lv_at hl 1 rfl) ?_
        refine lv_bipush (v := 22) hx hb dX3_hour_62 (by decide) ?_
        refine lv_icmp_ge (tgt := 72) hx hb dX3_hour_64 (by decide) (fun c_2 => ?_) (fun c_2 => ?_)
        · have t_2 := i_le (z := (22)) (w := (Int32.toInt v1)) c_2 (by decide) rfl
          refine lv_aload_n hx hb dX3_hour_72 rfl (lv_at hl 0 rfl) ?_
          refine go_v hD hS hA (rn_V (As := []) (rest := []) ⟨hx, hb, hml, hown, hts⟩ (ctX3_thieves l G cI cC cZ cR h x (by exact g_2)) (cwV 0 hts gX3_hour_X3_thieves rfl rfl rfl (by decide +kernel) ⟨Nat.le_of_ble_eq_true rfl, Nat.le_of_ble_eq_true rfl⟩) (md_recv hK hP rfl) hK hP hD hN rfl hl.1 rfl (Nat.le_of_ble_eq_true rfl) dX3_hour_73) (fun H locs hP hD hS => ?_)
          refine lv_aload_n hx hb dX3_hour_76 rfl (lv_at hl 0 rfl) ?_
          refine md_get (ci := 3) (C := RX3) (T := TX3) (N := 13) (v := .ref (h 1)) hx hb hts hin hown hK hP rfl 0 (by decide) k_7 rfl rfl rfl dX3_hour_77 ?_
          refine lv_bipush (v := 7) hx hb dX3_hour_80 (by decide) ?_
          refine lv_dup2_11 hx hb dX3_hour_82 rfl rfl ?_
          refine md_ia (v := (pX3_thieves x).2 0 (ix 7)) hx hb hK hP 0 0 rfl rfl (vp_in_iff.mpr ⟨by decide, by decide⟩) rfl dX3_hour_83 ?_
          refine lv_iconst (v := 1) hx hb dX3_hour_84 (by decide) ?_
          refine lv_iadd hx hb dX3_hour_85 ?_
          refine md_is hx hb hK hP hD hS 0 0 rfl rfl (vp_in_iff.mpr ⟨by decide, by decide⟩) dX3_hour_86 (fun H locs hP hD hS => ?_)
          exact rt_s hx hb hr hlocks hP hD hS ((show pX3_hour_L23 (n + 1) v1 v2 v3 x = (pR (pX3_thieves x) 0 7 (((pX3_thieves x).2 0 (ix 7)) + 1)) by rw [pX3_hour_L23, if_pos c_1, if_pos c_2]).symm.trans hq |>.symm) dX3_hour_87
        · have t_2 := i_nle (z := (22)) (w := (Int32.toInt v1)) c_2 (by decide) rfl
          refine lv_iload_n hx hb dX3_hour_67 rfl (lv_at hl 1 rfl) ?_
          refine lv_iconst (v := 5) hx hb dX3_hour_68 (by decide) ?_
          refine lv_icmp_gt (tgt := 76) hx hb dX3_hour_69 (by decide) (fun c_3 => ?_) (fun c_3 => ?_)
          · have t_3 := i_lt (z := (5)) (w := (Int32.toInt v1)) c_3 (by decide) rfl
            refine lv_aload_n hx hb dX3_hour_76 rfl (lv_at hl 0 rfl) ?_
            refine md_get (ci := 3) (C := RX3) (T := TX3) (N := 13) (v := .ref (h 1)) hx hb hts hin hown hK hP rfl 0 (by decide) k_7 rfl rfl rfl dX3_hour_77 ?_
            refine lv_bipush (v := 7) hx hb dX3_hour_80 (by decide) ?_
            refine lv_dup2_11 hx hb dX3_hour_82 rfl rfl ?_
            refine md_ia (v := x.2 0 (ix 7)) hx hb hK hP 0 0 rfl rfl (vp_in_iff.mpr ⟨by decide, by decide⟩) rfl dX3_hour_83 ?_
            refine lv_iconst (v := 1) hx hb dX3_hour_84 (by decide) ?_
            refine lv_iadd hx hb dX3_hour_85 ?_
            refine md_is hx hb hK hP hD hS 0 0 rfl rfl (vp_in_iff.mpr ⟨by decide, by decide⟩) dX3_hour_86 (fun H locs hP hD hS => ?_)
            exact rt_s hx hb hr hlocks hP hD hS ((show pX3_hour_L23 (n + 1) v1 v2 v3 x = (pR x 0 7 ((x.2 0 (ix 7)) + 1)) by rw [pX3_hour_L23, if_pos c_1, if_neg c_2, if_pos c_3]).symm.trans hq |>.symm) dX3_hour_87
          · have t_3 := i_nlt (z := (5)) (w := (Int32.toInt v1)) c_3 (by decide) rfl
            refine lv_aload_n hx hb dX3_hour_72 rfl (lv_at hl 0 rfl) ?_
            refine go_v hD hS hA (rn_V (As := []) (rest := []) ⟨hx, hb, hml, hown, hts⟩ (ctX3_thieves l G cI cC cZ cR h x (by exact g_2)) (cwV 0 hts gX3_hour_X3_thieves rfl rfl rfl (by decide +kernel) ⟨Nat.le_of_ble_eq_true rfl, Nat.le_of_ble_eq_true rfl⟩) (md_recv hK hP rfl) hK hP hD hN rfl hl.1 rfl (Nat.le_of_ble_eq_true rfl) dX3_hour_73) (fun H locs hP hD hS => ?_)
            refine lv_aload_n hx hb dX3_hour_76 rfl (lv_at hl 0 rfl) ?_
            refine md_get (ci := 3) (C := RX3) (T := TX3) (N := 13) (v := .ref (h 1)) hx hb hts hin hown hK hP rfl 0 (by decide) k_7 rfl rfl rfl dX3_hour_77 ?_
            refine lv_bipush (v := 7) hx hb dX3_hour_80 (by decide) ?_
            refine lv_dup2_11 hx hb dX3_hour_82 rfl rfl ?_
            refine md_ia (v := (pX3_thieves x).2 0 (ix 7)) hx hb hK hP 0 0 rfl rfl (vp_in_iff.mpr ⟨by decide, by decide⟩) rfl dX3_hour_83 ?_
            refine lv_iconst (v := 1) hx hb dX3_hour_84 (by decide) ?_
            refine lv_iadd hx hb dX3_hour_85 ?_
            refine md_is hx hb hK hP hD hS 0 0 rfl rfl (vp_in_iff.mpr ⟨by decide, by decide⟩) dX3_hour_86 (fun H locs hP hD hS => ?_)
            exact rt_s hx hb hr hlocks hP hD hS ((show pX3_hour_L23 (n + 1) v1 v2 v3 x = (pR (pX3_thieves x) 0 7 (((pX3_thieves x).2 0 (ix 7)) + 1)) by rw [pX3_hour_L23, if_pos c_1, if_neg c_2, if_neg c_3]).symm.trans hq |>.symm) dX3_hour_87
      · have t_1 := i_nle (z := (12)) (w := (Int32.toInt v3)) c_1 (by decide) rfl
        refine lv_aload_n hx hb dX3_hour_29 rfl (lv_at hl 0 rfl) ?_
        refine lv_iload_n hx hb dX3_hour_30 rfl (lv_at hl 3 rfl) ?_
        refine go_i hD hS hA (rn_V (As := [.int v3]) (rest := []) ⟨hx, hb, hml, hown, hts⟩ (ctX3_isOpen l G cI cC cZ cR h x v3) (cwV 1 hts gX3_hour_X3_isOpen rfl rfl rfl (by decide +kernel) ⟨Nat.le_of_ble_eq_true rfl, Nat.le_of_ble_eq_true rfl⟩) (md_recv hK hP rfl) hK hP hD hN rfl hl.1 rfl (Nat.le_of_ble_eq_true rfl) dX3_hour_31) (fun H locs hP hD hS => ?_)
        refine lv_if_eq (tgt := 55) hx hb dX3_hour_34 (by decide) (fun c_4 => ?_) (fun c_4 => ?_)
        · refine lv_iinc (v := (v3 + 1)) (lv' := [(3, .int (v3 + 1)), (0, .ref (h 0)), (1, .int v1), (2, .int v2)]) hx hb dX3_hour_55 hl (k := 3) rfl rfl (by decide) rfl (fun ls hl => ?_)
          have a_55 := i_add1 (a := v3) (by omega) (by omega)
          refine lv_goto (tgt := 23) hx hb dX3_hour_58 (by decide) ?_
          exact ih v1 v2 (v3 + 1) x (by omega) (by omega) (by first | with_reducible exact g_2 | with_reducible exact MI.of (rainsOn_K (isOpen_in (by with_reducible assumption))) g_2 | with_reducible exact MI.of (dries_K (isOpen_in (by with_reducible assumption))) g_2) (by omega) ((show pX3_hour_L23 (n + 1) v1 v2 v3 x = pX3_hour_L23 n v1 v2 (v3 + 1) x by rw [pX3_hour_L23, if_neg c_1, if_pos c_4]).symm.trans hq) _ _ _ hP hD hS (lv_sub hl [1, 2, 3, 0] rfl)
        · refine lv_iload_n hx hb dX3_hour_37 rfl (lv_at hl 2 rfl) ?_
          refine lv_if_eq (tgt := 49) hx hb dX3_hour_38 (by decide) (fun c_5 => ?_) (fun c_5 => ?_)
          · refine lv_aload_n hx hb dX3_hour_49 rfl (lv_at hl 0 rfl) ?_
            refine lv_iload_n hx hb dX3_hour_50 rfl (lv_at hl 3 rfl) ?_
            refine lv_iload_n hx hb dX3_hour_51 rfl (lv_at hl 1 rfl) ?_
            refine go_v hD hS hA (rn_V (As := [.int v3, .int v1]) (rest := []) ⟨hx, hb, hml, hown, hts⟩ (ctX3_dries l G cI cC cZ cR h x v3 v1 (by first | with_reducible assumption | exact vp_in_iff.mpr ⟨by decide, by decide⟩ | exact vp_in_iff.mpr ⟨by omega, by omega⟩ | exact isPlace_in (by with_reducible assumption) | exact has_in (by with_reducible assumption) | exact isPlace3_in (by with_reducible assumption) | exact isPiano_in (by with_reducible assumption) | exact isOpen_in (by with_reducible assumption) | exact nearest3_in (by with_reducible assumption))) (cwV 2 hts gX3_hour_X3_dries rfl rfl rfl (by decide +kernel) ⟨Nat.le_of_ble_eq_true rfl, Nat.le_of_ble_eq_true rfl⟩) (md_recv hK hP rfl) hK hP hD hN rfl hl.1 rfl (Nat.le_of_ble_eq_true rfl) dX3_hour_52) (fun H locs hP hD hS => ?_)
            refine lv_iinc (v := (v3 + 1)) (lv' := [(3, .int (v3 + 1)), (0, .ref (h 0)), (1, .int v1), (2, .int v2)]) hx hb dX3_hour_55 hl (k := 3) rfl rfl (by decide) rfl (fun ls hl => ?_)
            have a_55 := i_add1 (a := v3) (by omega) (by omega)
            refine lv_goto (tgt := 23) hx hb dX3_hour_58 (by decide) ?_
            exact ih v1 v2 (v3 + 1) (pX3_dries v3 v1 x) (by omega) (by omega) (by first | with_reducible exact g_2 | with_reducible exact MI.of (rainsOn_K (isOpen_in (by with_reducible assumption))) g_2 | with_reducible exact MI.of (dries_K (isOpen_in (by with_reducible assumption))) g_2) (by omega) ((show pX3_hour_L23 (n + 1) v1 v2 v3 x = pX3_hour_L23 n v1 v2 (v3 + 1) (pX3_dries v3 v1 x) by rw [pX3_hour_L23, if_neg c_1, if_neg c_4, if_pos c_5]).symm.trans hq) _ _ _ hP hD hS (lv_sub hl [1, 2, 3, 0] rfl)
          · refine lv_aload_n hx hb dX3_hour_41 rfl (lv_at hl 0 rfl) ?_
            refine lv_iload_n hx hb dX3_hour_42 rfl (lv_at hl 3 rfl) ?_
            refine go_v hD hS hA (rn_V (As := [.int v3]) (rest := []) ⟨hx, hb, hml, hown, hts⟩ (ctX3_rainsOn l G cI cC cZ cR h x v3 (by first | with_reducible assumption | exact vp_in_iff.mpr ⟨by decide, by decide⟩ | exact vp_in_iff.mpr ⟨by omega, by omega⟩ | exact isPlace_in (by with_reducible assumption) | exact has_in (by with_reducible assumption) | exact isPlace3_in (by with_reducible assumption) | exact isPiano_in (by with_reducible assumption) | exact isOpen_in (by with_reducible assumption) | exact nearest3_in (by with_reducible assumption))) (cwV 1 hts gX3_hour_X3_rainsOn rfl rfl rfl (by decide +kernel) ⟨Nat.le_of_ble_eq_true rfl, Nat.le_of_ble_eq_true rfl⟩) (md_recv hK hP rfl) hK hP hD hN rfl hl.1 rfl (Nat.le_of_ble_eq_true rfl) dX3_hour_43) (fun H locs hP hD hS => ?_)
            refine lv_goto (tgt := 55) hx hb dX3_hour_46 (by decide) ?_
            refine lv_iinc (v := (v3 + 1)) (lv' := [(3, .int (v3 + 1)), (0, .ref (h 0)), (1, .int v1), (2, .int v2)]) hx hb dX3_hour_55 hl (k := 3) rfl rfl (by decide) rfl (fun ls hl => ?_)
            have a_55 := i_add1 (a := v3) (by omega) (by omega)
            refine lv_goto (tgt := 23) hx hb dX3_hour_58 (by decide) ?_
            exact ih v1 v2 (v3 + 1) (pX3_rainsOn v3 x) (by omega) (by omega) (by first | with_reducible exact g_2 | with_reducible exact MI.of (rainsOn_K (isOpen_in (by with_reducible assumption))) g_2 | with_reducible exact MI.of (dries_K (isOpen_in (by with_reducible assumption))) g_2) (by omega) ((show pX3_hour_L23 (n + 1) v1 v2 v3 x = pX3_hour_L23 n v1 v2 (v3 + 1) (pX3_rainsOn v3 x) by rw [pX3_hour_L23, if_neg c_1, if_neg c_4, if_neg c_5]).symm.trans hq) _ _ _ hP hD hS (lv_sub hl [1, 2, 3, 0] rfl)
  refine lv_aload_n hx hb dX3_hour_0 rfl (lv_at hl 0 rfl) ?_
  refine md_get (ci := 3) (C := RX3) (T := TX3) (N := 13) (v := .ref (h 1)) hx hb hts hin hown hK hP rfl 0 (by decide) k_7 rfl rfl rfl dX3_hour_1 ?_
  refine lv_bipush (v := 7) hx hb dX3_hour_4 (by decide) ?_
  refine md_ia (v := x.2 0 (ix 7)) hx hb hK hP 0 0 rfl rfl (vp_in_iff.mpr ⟨by decide, by decide⟩) rfl dX3_hour_6 ?_
  refine lv_bipush (v := 24) hx hb dX3_hour_7 (by decide) ?_
  refine lv_irem hx hb dX3_hour_9 (by decide) ?_
  refine lv_istore_n (lv' := [(1, .int ((x.2 0 (ix 7)) - (x.2 0 (ix 7)) / 24 * 24)), (0, .ref (h 0))]) hx hb dX3_hour_10 rfl hl (by decide) rfl (fun ls hl => ?_)
  refine lv_aload_n hx hb dX3_hour_11 rfl (lv_at hl 1 rfl) ?_
  refine lv_iconst (v := 0) hx hb dX3_hour_12 (by decide) ?_
  refine go_i hD hS hA (rn_V (As := [.int 0]) (rest := []) ⟨hx, hb, hml, hown, hts⟩ (ctX3_rainsIn l G cI cC cZ cR h x 0) (cwV 1 hts gX3_hour_X3_rainsIn rfl rfl rfl (by decide +kernel) ⟨Nat.le_of_ble_eq_true rfl, Nat.le_of_ble_eq_true rfl⟩) (md_recv hK hP rfl) hK hP hD hN rfl hl.1 rfl (Nat.le_of_ble_eq_true rfl) dX3_hour_13) (fun H locs hP hD hS => ?_)
  refine lv_istore_n (lv' := [(2, .int (pX3_rainsIn 0 x)), (1, .int ((x.2 0 (ix 7)) - (x.2 0 (ix 7)) / 24 * 24)), (0, .ref (h 0))]) hx hb dX3_hour_16 rfl hl (by decide) rfl (fun ls hl => ?_)
  refine lv_aload_n hx hb dX3_hour_17 rfl (lv_at hl 2 rfl) ?_
  refine go_v hD hS hA (rn_V (As := []) (rest := []) ⟨hx, hb, hml, hown, hts⟩ (ctX3_keepersGo l G cI cC cZ cR h x (by exact q_0)) (cwV 0 hts gX3_hour_X3_keepersGo rfl rfl rfl (by decide +kernel) ⟨Nat.le_of_ble_eq_true rfl, Nat.le_of_ble_eq_true rfl⟩) (md_recv hK hP rfl) hK hP hD hN rfl hl.1 rfl (Nat.le_of_ble_eq_true rfl) dX3_hour_18) (fun H locs hP hD hS => ?_)
  refine lv_iconst (v := 0) hx hb dX3_hour_21 (by decide) ?_
  refine lv_istore_n (lv' := [(3, .int 0), (2, .int (pX3_rainsIn 0 x)), (1, .int ((x.2 0 (ix 7)) - (x.2 0 (ix 7)) / 24 * 24)), (0, .ref (h 0))]) hx hb dX3_hour_22 rfl hl (by decide) rfl (fun ls hl => ?_)
  exact lp_23 13 ((x.2 0 (ix 7)) - (x.2 0 (ix 7)) / 24 * 24) (pX3_rainsIn 0 x) 0 (pX3_keepersGo x) (by decide) (by decide) (by exact MI.of (keepersGo_K q_0) q_0) (by decide) ((show pX3_hour x = pX3_hour_L23 13 ((x.2 0 (ix 7)) - (x.2 0 (ix 7)) / 24 * 24) (pX3_rainsIn 0 x) 0 (pX3_keepersGo x) by rw [pX3_hour]).symm.trans hres) _ _ _ hP hD hS (lv_sub hl [3, 2, 1, 0] rfl)
theorem hour_L : ∀ (n : Nat) (v1 v2 v3 : Int32) (x : SR), KP x (pX3_hour_L23 n v1 v2 v3 x) := by
  intro n
  induction n with
  | zero => intro v1 v2 v3 x; rw [pX3_hour_L23]; exact KP.rf _
  | succ n ih =>
    intro v1 v2 v3 x
    rw [pX3_hour_L23]
    by_cases d_50 : 12 ≤ v3
    · rw [if_pos d_50]
      by_cases d_51 : 22 ≤ v1
      · rw [if_pos d_51]
        exact (thieves_K _).tr (KP_R (by decide))
      · rw [if_neg d_51]
        by_cases d_52 : 5 < v1
        · rw [if_pos d_52]
          exact KP_R (by decide)
        · rw [if_neg d_52]
          exact (thieves_K _).tr (KP_R (by decide))
    · rw [if_neg d_50]
      by_cases d_53 : (pX3_isOpen v3 x) = 0
      · rw [if_pos d_53]
        exact ih _ _ _ _
      · rw [if_neg d_53]
        by_cases d_54 : v2 = 0
        · rw [if_pos d_54]
          exact (dries_K (isOpen_in (by with_reducible assumption))).tr (ih _ _ _ _)
        · rw [if_neg d_54]
          exact (rainsOn_K (isOpen_in (by with_reducible assumption))).tr (ih _ _ _ _)
theorem hour_K {x : SR} (h : MI x) : KP x (pX3_hour x) := by
  rw [pX3_hour]
  exact (keepersGo_K h).tr (hour_L _ _ _ _ _)
def pX3_passes_L10 (a1 : Int32) : Nat → Int32 → Int32 → SR → Int32 × SR
  | 0, v2, v3, x => (0, x)
  | n + 1, v2, v3, x => if a1 ≤ v3 then (((x.2 0 (ix 9)) - v2), x)
    else pX3_passes_L10 a1 n v2 (v3 + 1) (pX3_hour x)
def pX3_passes (a1 : Int32) (x : SR) : Int32 × SR := pX3_passes_L10 a1 100 (x.2 0 (ix 9)) 0 x
set_option maxHeartbeats 4000000 in
set_option maxRecDepth 100000 in
theorem ctX3_passes (l : Launch) (G : va_G) (cI cC cZ cR : ClassId) (h : Ad) (x : SR) (a1 : Int32) (q_0 : 0 ≤ Int32.toInt a1) (q_1 : Int32.toInt a1 ≤ 99) (q_2 : MI x) : Ct l yX3_passes wsX3_passes (rmz 9 200) G (TY cI cC cZ cR) [.ref (h 0), .int a1] (wMo cI h x) (Qi G (wMo cI h x) (pX3_passes a1 x).1 (wMo cI h (pX3_passes a1 x).2)) := by
  refine Ct.ofI (cc := cX3_passes) (maxL := 4) (ret := (some .int)) (by decide) rfl rfl ?_
  intro p e s m below meth c A ls E0 hP hD hS hl
  obtain ⟨hx, hb, hr, hml, hlocks, hts, hown, hK, hN, hA⟩ := E0
  have hl : lv_has ls 4 [(0, .ref (h 0)), (1, .int a1)] := hl
  have hin : ∀ w ∈ wsX30, w ∈ wsX3_passes := fun w hw => List.mem_cons_of_mem _ (List.mem_append_right _ (hw))
  have k_7 : (Cond.fieldLink RX3 7 RX3 (TX3 0).2.1 (TX3 0).2.2.1).before ([.ref (h 0), .int a1] : List Value).toArray s = true := hts _ (List.mem_of_getElem? (i := 1) rfl)
  generalize hres : pX3_passes a1 x = res
  have lp_10 : ∀ (n : Nat) (v2 : Int32) (v3 : Int32) (x : SR), 0 ≤ Int32.toInt v3 → Int32.toInt v3 ≤ Int32.toInt a1 → MI x → Int32.toInt a1 - Int32.toInt v3 < (n : Int) → pX3_passes_L10 a1 n v2 v3 x = res → ∀ (H : Heap) (locs : List Loc) (ls : Array Slot), va_P G vwCl (wMo cI h x) H → va_D A (wMo cI h x) → va_S A s.heap H locs → lv_has ls 4 [(0, .ref (h 0)), (1, .int a1), (2, .int v2), (3, .int v3)] → W p l e (rmz 9 200) s m ([.ref (h 0), .int a1] : List Value).toArray below meth c H locs 0 0 (MQ below (QiA G A res.1 (wMo cI h res.2)) ([.ref (h 0), .int a1] : List Value).toArray s 0 0 A) (F0 m 10 ls []) := by
    intro n
    induction n with
    | zero =>
      intro v2 v3 x g_0 g_1 g_2 hm
      exfalso; omega
    | succ n ih =>
      intro v2 v3 x g_0 g_1 g_2 hm hq H locs ls hP hD hS hl
      refine lv_iload_n hx hb dX3_passes_10 rfl (lv_at hl 3 rfl) ?_
      refine lv_iload_n hx hb dX3_passes_11 rfl (lv_at hl 1 rfl) ?_
      refine lv_icmp_ge (tgt := 25) hx hb dX3_passes_12 (by decide) (fun c_1 => ?_) (fun c_1 => ?_)
      · have t_1 := i_le (z := (Int32.toInt a1)) (w := (Int32.toInt v3)) c_1 rfl rfl
        refine lv_aload_n hx hb dX3_passes_25 rfl (lv_at hl 0 rfl) ?_
        refine md_get (ci := 3) (C := RX3) (T := TX3) (N := 13) (v := .ref (h 1)) hx hb hts hin hown hK hP rfl 0 (by decide) k_7 rfl rfl rfl dX3_passes_26 ?_
        refine lv_bipush (v := 9) hx hb dX3_passes_29 (by decide) ?_
        refine md_ia (v := x.2 0 (ix 9)) hx hb hK hP 0 0 rfl rfl (vp_in_iff.mpr ⟨by decide, by decide⟩) rfl dX3_passes_31 ?_
        refine lv_iload_n hx hb dX3_passes_32 rfl (lv_at hl 2 rfl) ?_
        refine lv_isub hx hb dX3_passes_33 ?_
        exact rt_b hx hb hr hlocks hP hD hS rfl ((show pX3_passes_L10 a1 (n + 1) v2 v3 x = (((x.2 0 (ix 9)) - v2), x) by rw [pX3_passes_L10, if_pos c_1]).symm.trans hq |>.symm) dX3_passes_34
      · have t_1 := i_nle (z := (Int32.toInt a1)) (w := (Int32.toInt v3)) c_1 rfl rfl
        refine lv_aload_n hx hb dX3_passes_15 rfl (lv_at hl 0 rfl) ?_
        refine go_v hD hS hA (rn_V (As := []) (rest := []) ⟨hx, hb, hml, hown, hts⟩ (ctX3_hour l G cI cC cZ cR h x (by exact g_2)) (cwV 0 hts gX3_passes_X3_hour rfl rfl rfl (by decide +kernel) ⟨Nat.le_of_ble_eq_true rfl, Nat.le_of_ble_eq_true rfl⟩) (md_recv hK hP rfl) hK hP hD hN rfl hl.1 rfl (Nat.le_of_ble_eq_true rfl) dX3_passes_16) (fun H locs hP hD hS => ?_)
        refine lv_iinc (v := (v3 + 1)) (lv' := [(3, .int (v3 + 1)), (0, .ref (h 0)), (1, .int a1), (2, .int v2)]) hx hb dX3_passes_19 hl (k := 3) rfl rfl (by decide) rfl (fun ls hl => ?_)
        have a_19 := i_add1 (a := v3) (by omega) (by omega)
        refine lv_goto (tgt := 10) hx hb dX3_passes_22 (by decide) ?_
        exact ih v2 (v3 + 1) (pX3_hour x) (by omega) (by omega) (by exact MI.of (hour_K g_2) g_2) (by omega) ((show pX3_passes_L10 a1 (n + 1) v2 v3 x = pX3_passes_L10 a1 n v2 (v3 + 1) (pX3_hour x) by rw [pX3_passes_L10, if_neg c_1]).symm.trans hq) _ _ _ hP hD hS (lv_sub hl [1, 2, 3, 0] rfl)
  refine lv_aload_n hx hb dX3_passes_0 rfl (lv_at hl 0 rfl) ?_
  refine md_get (ci := 3) (C := RX3) (T := TX3) (N := 13) (v := .ref (h 1)) hx hb hts hin hown hK hP rfl 0 (by decide) k_7 rfl rfl rfl dX3_passes_1 ?_
  refine lv_bipush (v := 9) hx hb dX3_passes_4 (by decide) ?_
  refine md_ia (v := x.2 0 (ix 9)) hx hb hK hP 0 0 rfl rfl (vp_in_iff.mpr ⟨by decide, by decide⟩) rfl dX3_passes_6 ?_
  refine lv_istore_n (lv' := [(2, .int (x.2 0 (ix 9))), (0, .ref (h 0)), (1, .int a1)]) hx hb dX3_passes_7 rfl hl (by decide) rfl (fun ls hl => ?_)
  refine lv_iconst (v := 0) hx hb dX3_passes_8 (by decide) ?_
  refine lv_istore_n (lv' := [(3, .int 0), (2, .int (x.2 0 (ix 9))), (0, .ref (h 0)), (1, .int a1)]) hx hb dX3_passes_9 rfl hl (by decide) rfl (fun ls hl => ?_)
  exact lp_10 100 (x.2 0 (ix 9)) 0 x (by decide) (by assumption) (by assumption) (by show Int32.toInt a1 - 0 < ((100 : Nat) : Int); omega) ((show pX3_passes a1 x = pX3_passes_L10 a1 100 (x.2 0 (ix 9)) 0 x by rw [pX3_passes]).symm.trans hres) _ _ _ hP hD hS (lv_sub hl [2, 3, 1, 0] rfl)
theorem passes_L (a1 : Int32) : ∀ (n : Nat) (v2 v3 : Int32) (x : SR), MI x → KP x (pX3_passes_L10 a1 n v2 v3 x).2 := by
  intro n
  induction n with
  | zero => intro v2 v3 x hm; rw [pX3_passes_L10]; exact KP.rf _
  | succ n ih =>
    intro v2 v3 x hm
    rw [pX3_passes_L10]
    by_cases h : a1 ≤ v3
    · rw [if_pos h]
      exact KP.rf _
    · rw [if_neg h]
      exact (hour_K hm).tr (ih _ _ _ (MI.of (hour_K hm) hm))
theorem passes_K {a1 : Int32} {x : SR} (h : MI x) : KP x (pX3_passes a1 x).2 := by
  rw [pX3_passes]
  exact passes_L _ _ _ _ _ h
