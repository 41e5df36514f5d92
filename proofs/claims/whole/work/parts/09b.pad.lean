def pX0_readHours_L2 : Nat → Int32 → SR → Int32 × SR
  | 0, v1, x => (0, x)
  | n + 1, v1, x => if 80 ≤ v1 then ((0 : Int32), x)
    else if ((pX0_readNumber 23 x).1) = 0 then ((0 : Int32), (pX0_readNumber 23 x).2)
      else if ((pX0_skip 44 (pS (pX0_readNumber 23 x).2 5 (((pX0_readNumber 23 x).2.1 5) ||| (1 <<< (((pX0_readNumber 23 x).2.1 3) &&& 31))))).1) = 0 then ((1 : Int32), (pX0_skip 44 (pS (pX0_readNumber 23 x).2 5 (((pX0_readNumber 23 x).2.1 5) ||| (1 <<< (((pX0_readNumber 23 x).2.1 3) &&& 31))))).2)
        else pX0_readHours_L2 n (v1 + 1) (pX0_skip 44 (pS (pX0_readNumber 23 x).2 5 (((pX0_readNumber 23 x).2.1 5) ||| (1 <<< (((pX0_readNumber 23 x).2.1 3) &&& 31))))).2
def pX0_readHours (x : SR) : Int32 × SR := pX0_readHours_L2 81 0 x
set_option maxHeartbeats 4000000 in
set_option maxRecDepth 100000 in
theorem ctX0_readHours (l : Launch) (G : va_G) (cI cC cZ cR : ClassId) (h : Ad) (x : SR) (q_0 : chOK x) : Ct l yX0_readHours wsX0_readHours (rmz 2 42) G (TY cI cC cZ cR) [.ref (h 0)] (wPd cC h x) (Qi G (wPd cC h x) (pX0_readHours x).1 (wPd cC h (pX0_readHours x).2)) := by
  refine Ct.ofI (cc := cX0_readHours) (maxL := 2) (ret := (some .boolean)) (by decide) rfl rfl ?_
  intro p e s m below meth c A ls E0 hP hD hS hl
  obtain ⟨hx, hb, hr, hml, hlocks, hts, hown, hK, hN, hA⟩ := E0
  have hl : lv_has ls 2 [(0, .ref (h 0))] := hl
  have hin : ∀ w ∈ wsX00, w ∈ wsX0_readHours := fun w hw => List.mem_cons_of_mem _ (List.mem_append_right _ (hw))
  have k_32 : (Cond.fieldLink RX0 32 RX0 (TX0 6).2.1 (TX0 6).2.2.1).before ([.ref (h 0)] : List Value).toArray s = true := hts _ (List.mem_of_getElem? (i := 1) rfl)
  have k_26 : (Cond.fieldLink RX0 26 RX0 (TX0 4).2.1 (TX0 4).2.2.1).before ([.ref (h 0)] : List Value).toArray s = true := hts _ (List.mem_of_getElem? (i := 2) rfl)
  generalize hres : pX0_readHours x = res
  have lp_2 : ∀ (n : Nat) (v1 : Int32) (x : SR), 0 ≤ Int32.toInt v1 → Int32.toInt v1 ≤ 80 → chOK x → 80 - Int32.toInt v1 < (n : Int) → pX0_readHours_L2 n v1 x = res → ∀ (H : Heap) (locs : List Loc) (ls : Array Slot), va_P G vwCl (wPd cC h x) H → va_D A (wPd cC h x) → va_S A s.heap H locs → lv_has ls 2 [(0, .ref (h 0)), (1, .int v1)] → W p l e (rmz 2 42) s m ([.ref (h 0)] : List Value).toArray below meth c H locs 0 0 (MQ below (QiA G A res.1 (wPd cC h res.2)) ([.ref (h 0)] : List Value).toArray s 0 0 A) (F0 m 2 ls []) := by
    intro n
    induction n with
    | zero =>
      intro v1 x g_0 g_1 g_2 hm
      exfalso; omega
    | succ n ih =>
      intro v1 x g_0 g_1 g_2 hm hq H locs ls hP hD hS hl
      refine lv_iload_n hx hb dX0_readHours_2 rfl (lv_at hl 1 rfl) ?_
      refine lv_bipush (v := 80) hx hb dX0_readHours_3 (by decide) ?_
      refine lv_icmp_ge (tgt := 51) hx hb dX0_readHours_5 (by decide) (fun c_1 => ?_) (fun c_1 => ?_)
      · have t_1 := i_le (z := (80)) (w := (Int32.toInt v1)) c_1 (by decide) rfl
        refine lv_iconst (v := 0) hx hb dX0_readHours_51 (by decide) ?_
        exact rt_b hx hb hr hlocks hP hD hS rfl ((show pX0_readHours_L2 (n + 1) v1 x = ((0 : Int32), x) by rw [pX0_readHours_L2, if_pos c_1]).symm.trans hq |>.symm) dX0_readHours_52
      · have t_1 := i_nle (z := (80)) (w := (Int32.toInt v1)) c_1 (by decide) rfl
        refine lv_aload_n hx hb dX0_readHours_8 rfl (lv_at hl 0 rfl) ?_
        refine lv_bipush (v := 23) hx hb dX0_readHours_9 (by decide) ?_
        refine go_i hD hS hA (rn_V (As := [.int 23]) (rest := []) ⟨hx, hb, hml, hown, hts⟩ (ctX0_readNumber l G cI cC cZ cR h x 23 (by exact g_2)) (cwV 1 hts gX0_readHours_X0_readNumber rfl rfl rfl (by decide +kernel) ⟨Nat.le_of_ble_eq_true rfl, Nat.le_of_ble_eq_true rfl⟩) (md_recv hK hP rfl) hK hP hD hN rfl hl.1 rfl (Nat.le_of_ble_eq_true rfl) dX0_readHours_11) (fun H locs hP hD hS => ?_)
        refine lv_if_ne (tgt := 19) hx hb dX0_readHours_14 (by decide) (fun c_2 => ?_) (fun c_2 => ?_)
        · refine lv_aload_n hx hb dX0_readHours_19 rfl (lv_at hl 0 rfl) ?_
          refine lv_dup hx hb dX0_readHours_20 rfl ?_
          refine md_get (ci := 0) (C := RX0) (T := TX0) (N := 8) (v := .int ((pX0_readNumber 23 x).2.1 5)) hx hb hts hin hown hK hP rfl 6 (by decide) k_32 rfl rfl rfl dX0_readHours_21 ?_
          refine lv_iconst (v := 1) hx hb dX0_readHours_24 (by decide) ?_
          refine lv_aload_n hx hb dX0_readHours_25 rfl (lv_at hl 0 rfl) ?_
          refine md_get (ci := 0) (C := RX0) (T := TX0) (N := 8) (v := .int ((pX0_readNumber 23 x).2.1 3)) hx hb hts hin hown hK hP rfl 4 (by decide) k_26 rfl rfl rfl dX0_readHours_26 ?_
          refine lv_ishl hx hb dX0_readHours_29 ?_
          refine lv_ior hx hb dX0_readHours_30 ?_
          refine md_put (ci := 0) (C := RX0) (T := TX0) (N := 8) hx hb hts hin tyX0 tyX0_ok nmX0 hown hK hP hD hS rfl 6 (by decide) k_32 rfl rfl (q := 5) rfl (fu (by decide)) rfl rfl dX0_readHours_31 (fun H locs hP hD hS => ?_)
          refine lv_aload_n hx hb dX0_readHours_34 rfl (lv_at hl 0 rfl) ?_
          refine lv_bipush (v := 44) hx hb dX0_readHours_35 (by decide) ?_
          refine go_i hD hS hA (rn_V (As := [.int 44]) (rest := []) ⟨hx, hb, hml, hown, hts⟩ (ctX0_skip l G cI cC cZ cR h (pS (pX0_readNumber 23 x).2 5 (((pX0_readNumber 23 x).2.1 5) ||| (1 <<< (((pX0_readNumber 23 x).2.1 3) &&& 31)))) 44 (by exact ch_of (readNumber_t _ _) g_2)) (cwV 1 hts gX0_readHours_X0_skip rfl rfl rfl (by decide +kernel) ⟨Nat.le_of_ble_eq_true rfl, Nat.le_of_ble_eq_true rfl⟩) (md_recv hK hP rfl) hK hP hD hN rfl hl.1 rfl (Nat.le_of_ble_eq_true rfl) dX0_readHours_37) (fun H locs hP hD hS => ?_)
          refine lv_if_ne (tgt := 45) hx hb dX0_readHours_40 (by decide) (fun c_3 => ?_) (fun c_3 => ?_)
          · refine lv_iinc (v := (v1 + 1)) (lv' := [(1, .int (v1 + 1)), (0, .ref (h 0))]) hx hb dX0_readHours_45 hl (k := 1) rfl rfl (by decide) rfl (fun ls hl => ?_)
            have a_45 := i_add1 (a := v1) (by omega) (by omega)
            refine lv_goto (tgt := 2) hx hb dX0_readHours_48 (by decide) ?_
            exact ih (v1 + 1) (pX0_skip 44 (pS (pX0_readNumber 23 x).2 5 (((pX0_readNumber 23 x).2.1 5) ||| (1 <<< (((pX0_readNumber 23 x).2.1 3) &&& 31))))).2 (by omega) (by omega) (by exact ch_of ((skip_t _ _).trans (readNumber_t _ _)) g_2) (by omega) ((show pX0_readHours_L2 (n + 1) v1 x = pX0_readHours_L2 n (v1 + 1) (pX0_skip 44 (pS (pX0_readNumber 23 x).2 5 (((pX0_readNumber 23 x).2.1 5) ||| (1 <<< (((pX0_readNumber 23 x).2.1 3) &&& 31))))).2 by rw [pX0_readHours_L2, if_neg c_1, if_neg c_2, if_neg c_3]).symm.trans hq) _ _ _ hP hD hS (lv_sub hl [1, 0] rfl)
          · refine lv_iconst (v := 1) hx hb dX0_readHours_43 (by decide) ?_
            exact rt_b hx hb hr hlocks hP hD hS rfl ((show pX0_readHours_L2 (n + 1) v1 x = ((1 : Int32), (pX0_skip 44 (pS (pX0_readNumber 23 x).2 5 (((pX0_readNumber 23 x).2.1 5) ||| (1 <<< (((pX0_readNumber 23 x).2.1 3) &&& 31))))).2) by rw [pX0_readHours_L2, if_neg c_1, if_neg c_2, if_pos c_3]).symm.trans hq |>.symm) dX0_readHours_44
        · refine lv_iconst (v := 0) hx hb dX0_readHours_17 (by decide) ?_
          exact rt_b hx hb hr hlocks hP hD hS rfl ((show pX0_readHours_L2 (n + 1) v1 x = ((0 : Int32), (pX0_readNumber 23 x).2) by rw [pX0_readHours_L2, if_neg c_1, if_pos c_2]).symm.trans hq |>.symm) dX0_readHours_18
  refine lv_iconst (v := 0) hx hb dX0_readHours_0 (by decide) ?_
  refine lv_istore_n (lv' := [(1, .int 0), (0, .ref (h 0))]) hx hb dX0_readHours_1 rfl hl (by decide) rfl (fun ls hl => ?_)
  exact lp_2 81 0 x (by first | decide | omega | assumption) (by first | decide | omega | assumption) (by first | decide | omega | assumption) (by decide) ((show pX0_readHours x = pX0_readHours_L2 81 0 x by rw [pX0_readHours]).symm.trans hres) _ _ _ hP hD hS (lv_sub hl [1, 0] rfl)
theorem readHours_Lb : ∀ (n : Nat) (v1 : Int32) (x : SR), (pX0_readHours_L2 n v1 x).1 = 0 ∨ (pX0_readHours_L2 n v1 x).1 = 1 := by
  intro n
  induction n with
  | zero => intro v1 x; with_reducible exact Or.inl rfl
  | succ n ih =>
    intro v1 x
    rw [pX0_readHours_L2]
    repeat' split
    all_goals first | with_reducible exact Or.inl rfl | with_reducible exact Or.inr rfl | exact ih _ _
theorem readHours_Lt : ∀ (n : Nat) (v1 : Int32) (x : SR), (pX0_readHours_L2 n v1 x).2.2 = x.2 := by
  intro n
  induction n with
  | zero => intro v1 x; rfl
  | succ n ih =>
    intro v1 x
    rw [pX0_readHours_L2]
    repeat' split
    all_goals simp only [pS_2, skip_t, readNumber_t, ih]
theorem readHours_b (x : SR) : (pX0_readHours x).1 = 0 ∨ (pX0_readHours x).1 = 1 := readHours_Lb _ _ _
theorem readHours_t (x : SR) : (pX0_readHours x).2.2 = x.2 := readHours_Lt _ _ _
