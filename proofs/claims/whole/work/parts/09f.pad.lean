def pX0_findFault_L6 : Nat → Int32 → SR → Int32 × SR
  | 0, v1, x => (0, x)
  | n + 1, v1, x => if 80 ≤ v1 then (((-6) : Int32), x)
    else if (x.1 6) = 0 then (((-6) : Int32), x)
      else if ((pX0_readOrder x).1) = 0 then ((pX0_readOrder x).2.1 1, (pX0_readOrder x).2)
        else pX0_findFault_L6 n (v1 + 1) (pX0_readOrder x).2
def pX0_findFault (x : SR) : Int32 × SR := pX0_findFault_L6 81 0 (pX0_rewind x)
set_option maxHeartbeats 4000000 in
set_option maxRecDepth 100000 in
theorem ctX0_findFault (l : Launch) (G : va_G) (cI cC cZ cR : ClassId) (h : Ad) (x : SR) (q_0 : chOK x) : Ct l yX0_findFault wsX0_findFault (rmz 5 103) G (TY cI cC cZ cR) [.ref (h 0)] (wPd cC h x) (Qi G (wPd cC h x) (pX0_findFault x).1 (wPd cC h (pX0_findFault x).2)) := by
  refine Ct.ofI (cc := cX0_findFault) (maxL := 2) (ret := (some .int)) (by decide) rfl rfl ?_
  intro p e s m below meth c A ls E0 hP hD hS hl
  obtain ⟨hx, hb, hr, hml, hlocks, hts, hown, hK, hN, hA⟩ := E0
  have hl : lv_has ls 2 [(0, .ref (h 0))] := hl
  have hin : ∀ w ∈ wsX00, w ∈ wsX0_findFault := fun w hw => List.mem_cons_of_mem _ (List.mem_append_right _ (hw))
  have k_35 : (Cond.fieldLink RX0 35 RX0 (TX0 7).2.1 (TX0 7).2.2.1).before ([.ref (h 0)] : List Value).toArray s = true := hts _ (List.mem_of_getElem? (i := 1) rfl)
  have k_19 : (Cond.fieldLink RX0 19 RX0 (TX0 2).2.1 (TX0 2).2.2.1).before ([.ref (h 0)] : List Value).toArray s = true := hts _ (List.mem_of_getElem? (i := 2) rfl)
  generalize hres : pX0_findFault x = res
  have lp_6 : ∀ (n : Nat) (v1 : Int32) (x : SR), 0 ≤ Int32.toInt v1 → Int32.toInt v1 ≤ 80 → chOK x → 80 - Int32.toInt v1 < (n : Int) → pX0_findFault_L6 n v1 x = res → ∀ (H : Heap) (locs : List Loc) (ls : Array Slot), va_P G vwCl (wPd cC h x) H → va_D A (wPd cC h x) → va_S A s.heap H locs → lv_has ls 2 [(0, .ref (h 0)), (1, .int v1)] → W p l e (rmz 5 103) s m ([.ref (h 0)] : List Value).toArray below meth c H locs 0 0 (MQ below (QiA G A res.1 (wPd cC h res.2)) ([.ref (h 0)] : List Value).toArray s 0 0 A) (F0 m 6 ls []) := by
    intro n
    induction n with
    | zero =>
      intro v1 x g_0 g_1 g_2 hm
      exfalso; omega
    | succ n ih =>
      intro v1 x g_0 g_1 g_2 hm hq H locs ls hP hD hS hl
      refine lv_iload_n hx hb dX0_findFault_6 rfl (lv_at hl 1 rfl) ?_
      refine lv_bipush (v := 80) hx hb dX0_findFault_7 (by decide) ?_
      refine lv_icmp_ge (tgt := 37) hx hb dX0_findFault_9 (by decide) (fun c_1 => ?_) (fun c_1 => ?_)
      · have t_1 := i_le (z := (80)) (w := (Int32.toInt v1)) c_1 (by decide) rfl
        refine lv_bipush (v := (-6)) hx hb dX0_findFault_37 (by decide) ?_
        exact rt_b hx hb hr hlocks hP hD hS rfl ((show pX0_findFault_L6 (n + 1) v1 x = (((-6) : Int32), x) by rw [pX0_findFault_L6, if_pos c_1]).symm.trans hq |>.symm) dX0_findFault_39
      · have t_1 := i_nle (z := (80)) (w := (Int32.toInt v1)) c_1 (by decide) rfl
        refine lv_aload_n hx hb dX0_findFault_12 rfl (lv_at hl 0 rfl) ?_
        refine md_get (ci := 0) (C := RX0) (T := TX0) (N := 8) (v := .int (x.1 6)) hx hb hts hin hown hK hP rfl 7 (by decide) k_35 rfl rfl rfl dX0_findFault_13 ?_
        refine lv_if_eq (tgt := 37) hx hb dX0_findFault_16 (by decide) (fun c_2 => ?_) (fun c_2 => ?_)
        · refine lv_bipush (v := (-6)) hx hb dX0_findFault_37 (by decide) ?_
          exact rt_b hx hb hr hlocks hP hD hS rfl ((show pX0_findFault_L6 (n + 1) v1 x = (((-6) : Int32), x) by rw [pX0_findFault_L6, if_neg c_1, if_pos c_2]).symm.trans hq |>.symm) dX0_findFault_39
        · refine lv_aload_n hx hb dX0_findFault_19 rfl (lv_at hl 0 rfl) ?_
          refine go_i hD hS hA (rn_V (As := []) (rest := []) ⟨hx, hb, hml, hown, hts⟩ (ctX0_readOrder l G cI cC cZ cR h x (by exact g_2)) (cwV 0 hts gX0_findFault_X0_readOrder rfl rfl rfl (by decide +kernel) ⟨Nat.le_of_ble_eq_true rfl, Nat.le_of_ble_eq_true rfl⟩) (md_recv hK hP rfl) hK hP hD hN rfl hl.1 rfl (Nat.le_of_ble_eq_true rfl) dX0_findFault_20) (fun H locs hP hD hS => ?_)
          refine lv_if_ne (tgt := 31) hx hb dX0_findFault_23 (by decide) (fun c_3 => ?_) (fun c_3 => ?_)
          · refine lv_iinc (v := (v1 + 1)) (lv' := [(1, .int (v1 + 1)), (0, .ref (h 0))]) hx hb dX0_findFault_31 hl (k := 1) rfl rfl (by decide) rfl (fun ls hl => ?_)
            have a_31 := i_add1 (a := v1) (by omega) (by omega)
            refine lv_goto (tgt := 6) hx hb dX0_findFault_34 (by decide) ?_
            exact ih (v1 + 1) (pX0_readOrder x).2 (by omega) (by omega) (by exact ch_of (readOrder_t _) g_2) (by omega) ((show pX0_findFault_L6 (n + 1) v1 x = pX0_findFault_L6 n (v1 + 1) (pX0_readOrder x).2 by rw [pX0_findFault_L6, if_neg c_1, if_neg c_2, if_neg c_3]).symm.trans hq) _ _ _ hP hD hS (lv_sub hl [1, 0] rfl)
          · refine lv_aload_n hx hb dX0_findFault_26 rfl (lv_at hl 0 rfl) ?_
            refine md_get (ci := 0) (C := RX0) (T := TX0) (N := 8) (v := .int ((pX0_readOrder x).2.1 1)) hx hb hts hin hown hK hP rfl 2 (by decide) k_19 rfl rfl rfl dX0_findFault_27 ?_
            exact rt_b hx hb hr hlocks hP hD hS rfl ((show pX0_findFault_L6 (n + 1) v1 x = ((pX0_readOrder x).2.1 1, (pX0_readOrder x).2) by rw [pX0_findFault_L6, if_neg c_1, if_neg c_2, if_pos c_3]).symm.trans hq |>.symm) dX0_findFault_30
  refine lv_aload_n hx hb dX0_findFault_0 rfl (lv_at hl 0 rfl) ?_
  refine go_v hD hS hA (rn_V (As := []) (rest := []) ⟨hx, hb, hml, hown, hts⟩ (ctX0_rewind l G cI cC cZ cR h x) (cwV 0 hts gX0_findFault_X0_rewind rfl rfl rfl (by decide +kernel) ⟨Nat.le_of_ble_eq_true rfl, Nat.le_of_ble_eq_true rfl⟩) (md_recv hK hP rfl) hK hP hD hN rfl hl.1 rfl (Nat.le_of_ble_eq_true rfl) dX0_findFault_1) (fun H locs hP hD hS => ?_)
  refine lv_iconst (v := 0) hx hb dX0_findFault_4 (by decide) ?_
  refine lv_istore_n (lv' := [(1, .int 0), (0, .ref (h 0))]) hx hb dX0_findFault_5 rfl hl (by decide) rfl (fun ls hl => ?_)
  exact lp_6 81 0 (pX0_rewind x) (by decide) (by decide) (by exact q_0) (by decide) ((show pX0_findFault x = pX0_findFault_L6 81 0 (pX0_rewind x) by rw [pX0_findFault]).symm.trans hres) _ _ _ hP hD hS (lv_sub hl [1, 0] rfl)
theorem findFault_Lt : ∀ (n : Nat) (v1 : Int32) (x : SR), (pX0_findFault_L6 n v1 x).2.2 = x.2 := by
  intro n
  induction n with
  | zero => intro v1 x; rw [pX0_findFault_L6]
  | succ n ih =>
    intro v1 x
    rw [pX0_findFault_L6]
    by_cases d_25 : 80 ≤ v1
    · rw [if_pos d_25]
      all_goals simp only [readOrder_t, ih]
    · rw [if_neg d_25]
      by_cases d_26 : (x.1 6) = 0
      · rw [if_pos d_26]
        all_goals simp only [readOrder_t, ih]
      · rw [if_neg d_26]
        by_cases d_27 : ((pX0_readOrder x).1) = 0
        · rw [if_pos d_27]
          all_goals simp only [readOrder_t, ih]
        · rw [if_neg d_27]
          all_goals simp only [readOrder_t, ih]
theorem findFault_t (x : SR) : (pX0_findFault x).2.2 = x.2 := by
  rw [pX0_findFault, findFault_Lt]
  rfl
