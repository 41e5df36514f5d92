set_option maxHeartbeats 16000000 in
set_option maxRecDepth 100000 in
theorem law_main {p : Program} {l : Launch} {e : Env} {s : State} {m : MethodId} {below : List Frame} {meth : Method} {c : Code} {b L : Nat} {xs : Nat → Int32} {G : va_G} {cI cC cZ cR : ClassId} {ho : Nat → Nat} {hp h h2 : Ad} (C0 : LX p s m meth c b L xs G cI cC cZ cR) (hh : Nat → Ad) (xt : TV) (xq xk : SR) (q_0 : HQ 0 (pL_law_E78 xq)) (q_1 : Int32.toInt ((pL_law_E78 xq).2 0 (ix 11)) ≤ 4) (hq : pL_law L xs xt xq xk = 1) : ∀ (H : Heap) (locs : List Loc) (ls : Array Slot), va_P G vwCl (wL cI cC cZ cR ho hh hp h h2 xt xq xk) H → va_D (AL s) (wL cI cC cZ cR ho hh hp h h2 xt xq xk) → va_S (AL s) s.heap H locs → lv_has ls 18 [(0, .ref b), (1, .ref (ho 0)), (2, .ref (h 1)), (3, .ref (h 2)), (4, .ref (h 3)), (5, .ref (h2 1)), (6, .ref (h2 2)), (7, .ref (h2 3))] → W p l e room_1 s m #[Value.ref b] below meth c H locs 600000 7302250 (lw_Z below #[Value.ref b] s) (F0 m 42 ls []) := by
  obtain ⟨hx, hb, hr, hml, hown, hts, hT, hlocks, hK, hN, hST, hL⟩ := C0
  have hA : ∀ q : Nat, s.heap.size ≤ q → AL s q := fun _ z => z
  have k_74 : (Cond.constant RL 74 16777215).before #[Value.ref b] s = true := hts _ (List.mem_of_getElem? (i := 4) (by decide +kernel))
  have lp_78 : ∀ (n : Nat) (v8 : Int32) (hh : Nat → Ad) (zt : TV) (zq : SR) (zk : SR), 0 ≤ Int32.toInt v8 → Int32.toInt v8 ≤ 12 → 12 - Int32.toInt v8 < (n : Int) → (∀ t : SR, t = pL_law_L78 n v8 zq → ∀ (hh : Nat → Ad), ∀ (H : Heap) (locs : List Loc) (ls : Array Slot), va_P G vwCl (wL cI cC cZ cR ho hh hp h h2 zt t zk) H → va_D (AL s) (wL cI cC cZ cR ho hh hp h h2 zt t zk) → va_S (AL s) s.heap H locs → lv_has ls 18 [(0, .ref b), (1, .ref (ho 0)), (2, .ref (h 1)), (3, .ref (h 2)), (4, .ref (h 3)), (5, .ref (h2 1)), (6, .ref (h2 2)), (7, .ref (h2 3))] → W p l e room_1 s m #[Value.ref b] below meth c H locs 600000 7302250 (lw_Z below #[Value.ref b] s) (F0 m 98 ls [])) → ∀ (H : Heap) (locs : List Loc) (ls : Array Slot), va_P G vwCl (wL cI cC cZ cR ho hh hp h h2 zt zq zk) H → va_D (AL s) (wL cI cC cZ cR ho hh hp h h2 zt zq zk) → va_S (AL s) s.heap H locs → lv_has ls 18 [(0, .ref b), (1, .ref (ho 0)), (2, .ref (h 1)), (3, .ref (h 2)), (4, .ref (h 3)), (5, .ref (h2 1)), (6, .ref (h2 2)), (7, .ref (h2 3)), (8, .int v8)] → W p l e room_1 s m #[Value.ref b] below meth c H locs 600000 7302250 (lw_Z below #[Value.ref b] s) (F0 m 78 ls []) := by
    intro n
    induction n with
    | zero =>
      intro v8 hh zt zq zk g_0 g_1 hm
      exfalso; omega
    | succ n ih =>
      intro v8 hh zt zq zk g_0 g_1 hm hKK H locs ls hP hD hS hl
      refine lv_iload hx hb dL_law_78 (lv_at hl 8 rfl) ?_
      refine lv_bipush (v := 12) hx hb dL_law_80 (by decide) ?_
      refine lv_icmp_ge (tgt := 98) hx hb dL_law_82 (by decide) (fun c_1 => ?_) (fun c_1 => ?_)
      · have t_1 := i_le (z := (12)) (w := (Int32.toInt v8)) c_1 (by decide) rfl
        exact hKK zq (show pL_law_L78 (n + 1) v8 zq = zq by rw [pL_law_L78, if_pos c_1]).symm _ _ _ _ hP hD hS (lv_sub hl [0, 1, 2, 3, 4, 5, 6, 7] rfl)
      · have t_1 := i_nle (z := (12)) (w := (Int32.toInt v8)) c_1 (by decide) rfl
        refine lv_aload_n hx hb dL_law_85 rfl (lv_at hl 3 rfl) ?_
        refine lv_iconst (v := 5) hx hb dL_law_86 (by decide) ?_
        refine lv_iload hx hb dL_law_87 (lv_at hl 8 rfl) ?_
        refine lv_imul hx hb dL_law_89 ?_
        refine lv_iconst (v := (-1)) hx hb dL_law_90 (by decide) ?_
        refine la_st1 hx hb hK hP hD hS 1 rfl (e5_in (n := 12) (by first | with_reducible assumption | exact vp_in_iff.mpr ⟨by decide, by decide⟩ | exact vp_in_iff.mpr ⟨by omega, by omega⟩)) dL_law_91 (fun H locs hP hD hS => ?_)
        refine lv_iinc (v := (v8 + 1)) (lv' := [(8, .int (v8 + 1)), (0, .ref b), (1, .ref (ho 0)), (2, .ref (h 1)), (3, .ref (h 2)), (4, .ref (h 3)), (5, .ref (h2 1)), (6, .ref (h2 2)), (7, .ref (h2 3))]) hx hb dL_law_92 hl (k := 8) rfl rfl (by decide) rfl (fun ls hl => ?_)
        have a_92 := i_add1 (a := v8) (by omega) (by omega)
        refine lv_goto (tgt := 78) hx hb dL_law_95 (by decide) ?_
        exact ih (v8 + 1) _ zt (pR zq 1 (5 * v8) (-1)) zk (by omega) (by omega) (by omega) (fun t et => hKK t (et.trans (show pL_law_L78 (n + 1) v8 zq = pL_law_L78 n (v8 + 1) (pR zq 1 (5 * v8) (-1)) by rw [pL_law_L78, if_neg c_1]).symm)) _ _ _ hP hD hS (lv_sub hl [1, 2, 3, 4, 5, 6, 7, 8, 0] rfl)
  have lp_683 : ∀ (w8 : Int32) (w9 : Int32) (w10 : Int32) (w11 : Int32) (w12 : Int32) (w13 : Int32) (w14 : Int32) (n : Nat) (v15 : Int32) (v16 : Int32) (hh : Nat → Ad) (zt : TV) (zq : SR) (zk : SR), HQ (99 * Int32.toInt w8 + Int32.toInt v16) zq → 0 ≤ Int32.toInt v16 → Int32.toInt v16 ≤ Int32.toInt w14 → Int32.toInt w14 ≤ 99 → 0 ≤ Int32.toInt w8 → Int32.toInt w8 < 28 → Int32.toInt w14 - Int32.toInt v16 < (n : Int) → (∀ t : Int32 × SR, t = pL_law_L683 w14 n v15 v16 zq → ∀ (hh : Nat → Ad), ∀ (H : Heap) (locs : List Loc) (ls : Array Slot), va_P G vwCl (wL cI cC cZ cR ho hh hp h h2 zt (t.2) zk) H → va_D (AL s) (wL cI cC cZ cR ho hh hp h h2 zt (t.2) zk) → va_S (AL s) s.heap H locs → lv_has ls 18 [(0, .ref b), (1, .ref (ho 0)), (2, .ref (h 1)), (3, .ref (h 2)), (4, .ref (h 3)), (5, .ref (h2 1)), (6, .ref (h2 2)), (7, .ref (h2 3)), (8, .int w8), (9, .int w9), (10, .int w10), (11, .int w11), (12, .int w12), (13, .int w13), (14, .int w14), (15, .int (t.1))] → W p l e room_1 s m #[Value.ref b] below meth c H locs 600000 7302250 (lw_Z below #[Value.ref b] s) (F0 m 708 ls [])) → ∀ (H : Heap) (locs : List Loc) (ls : Array Slot), va_P G vwCl (wL cI cC cZ cR ho hh hp h h2 zt zq zk) H → va_D (AL s) (wL cI cC cZ cR ho hh hp h h2 zt zq zk) → va_S (AL s) s.heap H locs → lv_has ls 18 [(0, .ref b), (1, .ref (ho 0)), (2, .ref (h 1)), (3, .ref (h 2)), (4, .ref (h 3)), (5, .ref (h2 1)), (6, .ref (h2 2)), (7, .ref (h2 3)), (8, .int w8), (9, .int w9), (10, .int w10), (11, .int w11), (12, .int w12), (13, .int w13), (14, .int w14), (15, .int v15), (16, .int v16)] → W p l e room_1 s m #[Value.ref b] below meth c H locs 600000 7302250 (lw_Z below #[Value.ref b] s) (F0 m 683 ls []) := by
    intro w8 w9 w10 w11 w12 w13 w14 n
    induction n with
    | zero =>
      intro v15 v16 hh zt zq zk g_0 g_1 g_2 g_3 g_4 g_5 hm
      exfalso; omega
    | succ n ih =>
      intro v15 v16 hh zt zq zk g_0 g_1 g_2 g_3 g_4 g_5 hm hKK H locs ls hP hD hS hl
      refine lv_iload hx hb dL_law_683 (lv_at hl 16 rfl) ?_
      refine lv_iload hx hb dL_law_685 (lv_at hl 14 rfl) ?_
      refine lv_icmp_ge (tgt := 708) hx hb dL_law_687 (by decide) (fun c_21 => ?_) (fun c_21 => ?_)
      · have t_21 := i_le (z := (Int32.toInt w14)) (w := (Int32.toInt v16)) c_21 rfl rfl
        exact hKK (v15, zq) (show pL_law_L683 w14 (n + 1) v15 v16 zq = (v15, zq) by rw [pL_law_L683, if_pos c_21]).symm _ _ _ _ hP hD hS (lv_sub hl [0, 1, 2, 3, 4, 5, 6, 7, 8, 9, 10, 11, 12, 13, 14, 15] rfl)
      · have t_21 := i_nle (z := (Int32.toInt w14)) (w := (Int32.toInt v16)) c_21 rfl rfl
        refine lv_iload hx hb dL_law_690 (lv_at hl 15 rfl) ?_
        refine lv_aload_n hx hb dL_law_692 rfl (lv_at hl 2 rfl) ?_
        refine lv_aload_n hx hb dL_law_693 rfl (lv_at hl 3 rfl) ?_
        refine lv_aload hx hb dL_law_694 (lv_at hl 4 rfl) ?_
        refine gL_p wL_1 wL_1 hP hD hS hA (lr_S (As := [.ref (h 1), .ref (h 2), .ref (h 3)]) (rest := [.int v15]) ⟨hx, hb, hml, hown, hts⟩ (ctL_hour l G cI cC cZ cR h zq (by exact g_0) (by omega)) (va_cwS 3 hts gL_law_L_hour rfl rfl rfl (by decide +kernel) ⟨Nat.le_of_ble_eq_true rfl, Nat.le_of_ble_eq_true rfl⟩) hK (hP.perm wL_1).left (va_D.leftD (hD.perm wL_1)) hN rfl hl.1 rfl (Nat.le_of_ble_eq_true rfl) dL_law_696 (Nat.le_of_ble_eq_true rfl) (Nat.le_of_ble_eq_true rfl)) (fun H locs hP hD hS => ?_)
        refine lv_iadd hx hb dL_law_699 ?_
        refine lv_istore (lv' := [(15, .int (v15 + ((pL_hour zq).1))), (0, .ref b), (1, .ref (ho 0)), (2, .ref (h 1)), (3, .ref (h 2)), (4, .ref (h 3)), (5, .ref (h2 1)), (6, .ref (h2 2)), (7, .ref (h2 3)), (8, .int w8), (9, .int w9), (10, .int w10), (11, .int w11), (12, .int w12), (13, .int w13), (14, .int w14), (16, .int v16)]) hx hb dL_law_700 hl (by decide) rfl (fun ls hl => ?_)
        refine lv_iinc (v := (v16 + 1)) (lv' := [(16, .int (v16 + 1)), (15, .int (v15 + ((pL_hour zq).1))), (0, .ref b), (1, .ref (ho 0)), (2, .ref (h 1)), (3, .ref (h 2)), (4, .ref (h 3)), (5, .ref (h2 1)), (6, .ref (h2 2)), (7, .ref (h2 3)), (8, .int w8), (9, .int w9), (10, .int w10), (11, .int w11), (12, .int w12), (13, .int w13), (14, .int w14)]) hx hb dL_law_702 hl (k := 16) rfl rfl (by decide) rfl (fun ls hl => ?_)
        have a_702 := i_add1 (a := v16) (by omega) (by omega)
        refine lv_goto (tgt := 683) hx hb dL_law_705 (by decide) ?_
        exact ih (v15 + ((pL_hour zq).1)) (v16 + 1) _ zt ((pL_hour zq).2) zk (by rw [a_702]; exact (HQ_hour g_0 (by omega)).mono (by omega)) (by omega) (by omega) (by omega) (by omega) (by omega) (by omega) (fun t et => hKK t (et.trans (show pL_law_L683 w14 (n + 1) v15 v16 zq = pL_law_L683 w14 n (v15 + ((pL_hour zq).1)) (v16 + 1) ((pL_hour zq).2) by rw [pL_law_L683, if_neg c_21]).symm)) _ _ _ hP hD hS (lv_sub hl [2, 3, 4, 5, 6, 7, 8, 9, 10, 11, 12, 13, 14, 15, 16, 1, 0] rfl)
  have lp_585 : ∀ (w8 : Int32) (w9 : Int32) (w10 : Int32) (w11 : Int32) (w12 : Int32) (w13 : Int32) (w14 : Int32) (n : Nat) (v15 : Int32) (v16 : Int32) (hh : Nat → Ad) (zt : TV) (zq : SR) (zk : SR), 0 ≤ Int32.toInt v16 → Int32.toInt v16 ≤ 12 → 12 - Int32.toInt v16 < (n : Int) → (∀ t : Int32, t = pL_law_L585 n v15 v16 zq → ∀ (hh : Nat → Ad), ∀ (H : Heap) (locs : List Loc) (ls : Array Slot), va_P G vwCl (wL cI cC cZ cR ho hh hp h h2 zt zq zk) H → va_D (AL s) (wL cI cC cZ cR ho hh hp h h2 zt zq zk) → va_S (AL s) s.heap H locs → lv_has ls 18 [(0, .ref b), (1, .ref (ho 0)), (2, .ref (h 1)), (3, .ref (h 2)), (4, .ref (h 3)), (5, .ref (h2 1)), (6, .ref (h2 2)), (7, .ref (h2 3)), (8, .int w8), (9, .int w9), (10, .int w10), (11, .int w11), (12, .int w12), (13, .int w13), (14, .int w14), (15, .int t)] → W p l e room_1 s m #[Value.ref b] below meth c H locs 600000 7302250 (lw_Z below #[Value.ref b] s) (F0 m 617 ls [])) → ∀ (H : Heap) (locs : List Loc) (ls : Array Slot), va_P G vwCl (wL cI cC cZ cR ho hh hp h h2 zt zq zk) H → va_D (AL s) (wL cI cC cZ cR ho hh hp h h2 zt zq zk) → va_S (AL s) s.heap H locs → lv_has ls 18 [(0, .ref b), (1, .ref (ho 0)), (2, .ref (h 1)), (3, .ref (h 2)), (4, .ref (h 3)), (5, .ref (h2 1)), (6, .ref (h2 2)), (7, .ref (h2 3)), (8, .int w8), (9, .int w9), (10, .int w10), (11, .int w11), (12, .int w12), (13, .int w13), (14, .int w14), (15, .int v15), (16, .int v16)] → W p l e room_1 s m #[Value.ref b] below meth c H locs 600000 7302250 (lw_Z below #[Value.ref b] s) (F0 m 585 ls []) := by
    intro w8 w9 w10 w11 w12 w13 w14 n
    induction n with
    | zero =>
      intro v15 v16 hh zt zq zk g_0 g_1 hm
      exfalso; omega
    | succ n ih =>
      intro v15 v16 hh zt zq zk g_0 g_1 hm hKK H locs ls hP hD hS hl
      refine lv_iload hx hb dL_law_585 (lv_at hl 16 rfl) ?_
      refine lv_bipush (v := 12) hx hb dL_law_587 (by decide) ?_
      refine lv_icmp_ge (tgt := 617) hx hb dL_law_589 (by decide) (fun c_24 => ?_) (fun c_24 => ?_)
      · have t_24 := i_le (z := (12)) (w := (Int32.toInt v16)) c_24 (by decide) rfl
        exact hKK v15 (show pL_law_L585 (n + 1) v15 v16 zq = v15 by rw [pL_law_L585, if_pos c_24]).symm _ _ _ _ hP hD hS (lv_sub hl [0, 1, 2, 3, 4, 5, 6, 7, 8, 9, 10, 11, 12, 13, 14, 15] rfl)
      · have t_24 := i_nle (z := (12)) (w := (Int32.toInt v16)) c_24 (by decide) rfl
        refine lv_iload hx hb dL_law_592 (lv_at hl 15 rfl) ?_
        refine lv_aload_n hx hb dL_law_594 rfl (lv_at hl 3 rfl) ?_
        refine lv_iconst (v := 5) hx hb dL_law_595 (by decide) ?_
        refine lv_iload hx hb dL_law_596 (lv_at hl 16 rfl) ?_
        refine lv_imul hx hb dL_law_598 ?_
        refine la_ld1 (v := zq.2 1 (ix (5 * v16))) hx hb hK hP 1 rfl (e5_in (n := 12) (by first | with_reducible assumption | exact vp_in_iff.mpr ⟨by decide, by decide⟩ | exact vp_in_iff.mpr ⟨by omega, by omega⟩)) rfl dL_law_599 ?_
        have j_26 : ∀ (u26_0 : Int32), u26_0 = (pL_law_J608s0 v16 zq) → ∀ (hh : Nat → Ad), ∀ (H : Heap) (locs : List Loc) (ls : Array Slot), va_P G vwCl (wL cI cC cZ cR ho hh hp h h2 zt zq zk) H → va_D (AL s) (wL cI cC cZ cR ho hh hp h h2 zt zq zk) → va_S (AL s) s.heap H locs → lv_has ls 18 [(0, .ref b), (1, .ref (ho 0)), (2, .ref (h 1)), (3, .ref (h 2)), (4, .ref (h 3)), (5, .ref (h2 1)), (6, .ref (h2 2)), (7, .ref (h2 3)), (8, .int w8), (9, .int w9), (10, .int w10), (11, .int w11), (12, .int w12), (13, .int w13), (14, .int w14), (15, .int v15), (16, .int v16)] → W p l e room_1 s m #[Value.ref b] below meth c H locs 600000 7302250 (lw_Z below #[Value.ref b] s) (F0 m 608 ls [.int u26_0, .int v15]) := by
          intro u26_0 e0 hh H locs ls hP hD hS hl
          subst e0
          refine lv_iadd hx hb dL_law_608 ?_
          refine lv_istore (lv' := [(15, .int (v15 + (pL_law_J608s0 v16 zq))), (0, .ref b), (1, .ref (ho 0)), (2, .ref (h 1)), (3, .ref (h 2)), (4, .ref (h 3)), (5, .ref (h2 1)), (6, .ref (h2 2)), (7, .ref (h2 3)), (8, .int w8), (9, .int w9), (10, .int w10), (11, .int w11), (12, .int w12), (13, .int w13), (14, .int w14), (16, .int v16)]) hx hb dL_law_609 hl (by decide) rfl (fun ls hl => ?_)
          refine lv_iinc (v := (v16 + 1)) (lv' := [(16, .int (v16 + 1)), (15, .int (v15 + (pL_law_J608s0 v16 zq))), (0, .ref b), (1, .ref (ho 0)), (2, .ref (h 1)), (3, .ref (h 2)), (4, .ref (h 3)), (5, .ref (h2 1)), (6, .ref (h2 2)), (7, .ref (h2 3)), (8, .int w8), (9, .int w9), (10, .int w10), (11, .int w11), (12, .int w12), (13, .int w13), (14, .int w14)]) hx hb dL_law_611 hl (k := 16) rfl rfl (by decide) rfl (fun ls hl => ?_)
          have a_611 := i_add1 (a := v16) (by omega) (by omega)
          refine lv_goto (tgt := 585) hx hb dL_law_614 (by decide) ?_
          exact ih (v15 + (pL_law_J608s0 v16 zq)) (v16 + 1) _ zt zq zk (by omega) (by omega) (by omega) (fun t et => hKK t (et.trans (show pL_law_L585 (n + 1) v15 v16 zq = pL_law_L585 n (v15 + (pL_law_J608s0 v16 zq)) (v16 + 1) zq by rw [pL_law_L585, if_neg c_24]).symm)) _ _ _ hP hD hS (lv_sub hl [2, 3, 4, 5, 6, 7, 8, 9, 10, 11, 12, 13, 14, 15, 16, 1, 0] rfl)
        refine lv_if_ge (tgt := 607) hx hb dL_law_600 (by decide) (fun c_25 => ?_) (fun c_25 => ?_)
        · have t_25 := i_le (z := (0)) (w := (Int32.toInt (zq.2 1 (ix (5 * v16))))) c_25 (by decide) rfl
          refine lv_iconst (v := 1) hx hb dL_law_607 (by decide) ?_
          exact j_26 1 (by rw [pL_law_J608s0, if_pos c_25]) _ _ _ _ hP hD hS (lv_sub hl [0, 1, 2, 3, 4, 5, 6, 7, 8, 9, 10, 11, 12, 13, 14, 15, 16] rfl)
        · have t_25 := i_nle (z := (0)) (w := (Int32.toInt (zq.2 1 (ix (5 * v16))))) c_25 (by decide) rfl
          refine lv_iconst (v := 0) hx hb dL_law_603 (by decide) ?_
          refine lv_goto (tgt := 608) hx hb dL_law_604 (by decide) ?_
          exact j_26 0 (by rw [pL_law_J608s0, if_neg c_25]) _ _ _ _ hP hD hS (lv_sub hl [0, 1, 2, 3, 4, 5, 6, 7, 8, 9, 10, 11, 12, 13, 14, 15, 16] rfl)
  have lp_476 : ∀ (w8 : Int32) (w9 : Int32) (w10 : Int32) (w11 : Int32) (w12 : Int32) (w13 : Int32) (w14 : Int32) (w15 : Int32) (n : Nat) (v16 : Int32) (v17 : Int32) (hh : Nat → Ad) (zt : TV) (zq : SR) (zk : SR), 0 ≤ Int32.toInt v17 → Int32.toInt v17 ≤ 12 → 12 - Int32.toInt v17 < (n : Int) → (∀ t : Int32, t = pL_law_L476 n v16 v17 zq → ∀ (hh : Nat → Ad), ∀ (H : Heap) (locs : List Loc) (ls : Array Slot), va_P G vwCl (wL cI cC cZ cR ho hh hp h h2 zt zq zk) H → va_D (AL s) (wL cI cC cZ cR ho hh hp h h2 zt zq zk) → va_S (AL s) s.heap H locs → lv_has ls 18 [(0, .ref b), (1, .ref (ho 0)), (2, .ref (h 1)), (3, .ref (h 2)), (4, .ref (h 3)), (5, .ref (h2 1)), (6, .ref (h2 2)), (7, .ref (h2 3)), (8, .int w8), (9, .int w9), (10, .int w10), (11, .int w11), (12, .int w12), (13, .int w13), (14, .int w14), (15, .int w15), (16, .int t)] → W p l e room_1 s m #[Value.ref b] below meth c H locs 600000 7302250 (lw_Z below #[Value.ref b] s) (F0 m 519 ls [])) → ∀ (H : Heap) (locs : List Loc) (ls : Array Slot), va_P G vwCl (wL cI cC cZ cR ho hh hp h h2 zt zq zk) H → va_D (AL s) (wL cI cC cZ cR ho hh hp h h2 zt zq zk) → va_S (AL s) s.heap H locs → lv_has ls 18 [(0, .ref b), (1, .ref (ho 0)), (2, .ref (h 1)), (3, .ref (h 2)), (4, .ref (h 3)), (5, .ref (h2 1)), (6, .ref (h2 2)), (7, .ref (h2 3)), (8, .int w8), (9, .int w9), (10, .int w10), (11, .int w11), (12, .int w12), (13, .int w13), (14, .int w14), (15, .int w15), (16, .int v16), (17, .int v17)] → W p l e room_1 s m #[Value.ref b] below meth c H locs 600000 7302250 (lw_Z below #[Value.ref b] s) (F0 m 476 ls []) := by
    intro w8 w9 w10 w11 w12 w13 w14 w15 n
    induction n with
    | zero =>
      intro v16 v17 hh zt zq zk g_0 g_1 hm
      exfalso; omega
    | succ n ih =>
      intro v16 v17 hh zt zq zk g_0 g_1 hm hKK H locs ls hP hD hS hl
      refine lv_iload hx hb dL_law_476 (lv_at hl 17 rfl) ?_
      refine lv_bipush (v := 12) hx hb dL_law_478 (by decide) ?_
      refine lv_icmp_ge (tgt := 519) hx hb dL_law_480 (by decide) (fun c_32 => ?_) (fun c_32 => ?_)
      · have t_32 := i_le (z := (12)) (w := (Int32.toInt v17)) c_32 (by decide) rfl
        exact hKK v16 (show pL_law_L476 (n + 1) v16 v17 zq = v16 by rw [pL_law_L476, if_pos c_32]).symm _ _ _ _ hP hD hS (lv_sub hl [0, 1, 2, 3, 4, 5, 6, 7, 8, 9, 10, 11, 12, 13, 14, 15, 16] rfl)
      · have t_32 := i_nle (z := (12)) (w := (Int32.toInt v17)) c_32 (by decide) rfl
        refine lv_iload hx hb dL_law_483 (lv_at hl 16 rfl) ?_
        refine lv_aload_n hx hb dL_law_485 rfl (lv_at hl 3 rfl) ?_
        refine lv_iconst (v := 5) hx hb dL_law_486 (by decide) ?_
        refine lv_iload hx hb dL_law_487 (lv_at hl 17 rfl) ?_
        refine lv_imul hx hb dL_law_489 ?_
        refine la_ld1 (v := zq.2 1 (ix (5 * v17))) hx hb hK hP 1 rfl (e5_in (n := 12) (by first | with_reducible assumption | exact vp_in_iff.mpr ⟨by decide, by decide⟩ | exact vp_in_iff.mpr ⟨by omega, by omega⟩)) rfl dL_law_490 ?_
        have j_32 : ∀ (u32_0 : Int32), u32_0 = (pL_law_J510s0 v17 zq) → ∀ (hh : Nat → Ad), ∀ (H : Heap) (locs : List Loc) (ls : Array Slot), va_P G vwCl (wL cI cC cZ cR ho hh hp h h2 zt zq zk) H → va_D (AL s) (wL cI cC cZ cR ho hh hp h h2 zt zq zk) → va_S (AL s) s.heap H locs → lv_has ls 18 [(0, .ref b), (1, .ref (ho 0)), (2, .ref (h 1)), (3, .ref (h 2)), (4, .ref (h 3)), (5, .ref (h2 1)), (6, .ref (h2 2)), (7, .ref (h2 3)), (8, .int w8), (9, .int w9), (10, .int w10), (11, .int w11), (12, .int w12), (13, .int w13), (14, .int w14), (15, .int w15), (16, .int v16), (17, .int v17)] → W p l e room_1 s m #[Value.ref b] below meth c H locs 600000 7302250 (lw_Z below #[Value.ref b] s) (F0 m 510 ls [.int u32_0, .int v16]) := by
          intro u32_0 e0 hh H locs ls hP hD hS hl
          subst e0
          refine lv_iadd hx hb dL_law_510 ?_
          refine lv_istore (lv' := [(16, .int (v16 + (pL_law_J510s0 v17 zq))), (0, .ref b), (1, .ref (ho 0)), (2, .ref (h 1)), (3, .ref (h 2)), (4, .ref (h 3)), (5, .ref (h2 1)), (6, .ref (h2 2)), (7, .ref (h2 3)), (8, .int w8), (9, .int w9), (10, .int w10), (11, .int w11), (12, .int w12), (13, .int w13), (14, .int w14), (15, .int w15), (17, .int v17)]) hx hb dL_law_511 hl (by decide) rfl (fun ls hl => ?_)
          refine lv_iinc (v := (v17 + 1)) (lv' := [(17, .int (v17 + 1)), (16, .int (v16 + (pL_law_J510s0 v17 zq))), (0, .ref b), (1, .ref (ho 0)), (2, .ref (h 1)), (3, .ref (h 2)), (4, .ref (h 3)), (5, .ref (h2 1)), (6, .ref (h2 2)), (7, .ref (h2 3)), (8, .int w8), (9, .int w9), (10, .int w10), (11, .int w11), (12, .int w12), (13, .int w13), (14, .int w14), (15, .int w15)]) hx hb dL_law_513 hl (k := 17) rfl rfl (by decide) rfl (fun ls hl => ?_)
          have a_513 := i_add1 (a := v17) (by omega) (by omega)
          refine lv_goto (tgt := 476) hx hb dL_law_516 (by decide) ?_
          exact ih (v16 + (pL_law_J510s0 v17 zq)) (v17 + 1) _ zt zq zk (by omega) (by omega) (by omega) (fun t et => hKK t (et.trans (show pL_law_L476 (n + 1) v16 v17 zq = pL_law_L476 n (v16 + (pL_law_J510s0 v17 zq)) (v17 + 1) zq by rw [pL_law_L476, if_neg c_32]).symm)) _ _ _ hP hD hS (lv_sub hl [2, 3, 4, 5, 6, 7, 8, 9, 10, 11, 12, 13, 14, 15, 16, 17, 1, 0] rfl)
        refine lv_if_lt (tgt := 509) hx hb dL_law_491 (by decide) (fun c_33 => ?_) (fun c_33 => ?_)
        · have t_33 := i_lt (z := (Int32.toInt (zq.2 1 (ix (5 * v17))))) (w := (0)) c_33 rfl (by decide)
          refine lv_iconst (v := 0) hx hb dL_law_509 (by decide) ?_
          exact j_32 0 (by rw [pL_law_J510s0, if_pos c_33]) _ _ _ _ hP hD hS (lv_sub hl [0, 1, 2, 3, 4, 5, 6, 7, 8, 9, 10, 11, 12, 13, 14, 15, 16, 17] rfl)
        · have t_33 := i_nlt (z := (Int32.toInt (zq.2 1 (ix (5 * v17))))) (w := (0)) c_33 rfl (by decide)
          refine lv_aload_n hx hb dL_law_494 rfl (lv_at hl 3 rfl) ?_
          refine lv_iconst (v := 5) hx hb dL_law_495 (by decide) ?_
          refine lv_iload hx hb dL_law_496 (lv_at hl 17 rfl) ?_
          refine lv_imul hx hb dL_law_498 ?_
          refine lv_iconst (v := 2) hx hb dL_law_499 (by decide) ?_
          refine lv_iadd hx hb dL_law_500 ?_
          refine la_ld1 (v := zq.2 1 (ix ((5 * v17) + 2))) hx hb hK hP 1 rfl (e5_add (n := 12) (by first | with_reducible assumption | exact vp_in_iff.mpr ⟨by decide, by decide⟩ | exact vp_in_iff.mpr ⟨by omega, by omega⟩) (by first | with_reducible assumption | exact vp_in_iff.mpr ⟨by decide, by decide⟩ | exact vp_in_iff.mpr ⟨by omega, by omega⟩)) rfl dL_law_501 ?_
          refine lv_if_le (tgt := 509) hx hb dL_law_502 (by decide) (fun c_34 => ?_) (fun c_34 => ?_)
          · have t_34 := i_le (z := (Int32.toInt (zq.2 1 (ix ((5 * v17) + 2))))) (w := (0)) c_34 rfl (by decide)
            refine lv_iconst (v := 0) hx hb dL_law_509 (by decide) ?_
            exact j_32 0 (by rw [pL_law_J510s0, if_neg c_33, if_pos c_34]) _ _ _ _ hP hD hS (lv_sub hl [0, 1, 2, 3, 4, 5, 6, 7, 8, 9, 10, 11, 12, 13, 14, 15, 16, 17] rfl)
          · have t_34 := i_nle (z := (Int32.toInt (zq.2 1 (ix ((5 * v17) + 2))))) (w := (0)) c_34 rfl (by decide)
            refine lv_iconst (v := 1) hx hb dL_law_505 (by decide) ?_
            refine lv_goto (tgt := 510) hx hb dL_law_506 (by decide) ?_
            exact j_32 1 (by rw [pL_law_J510s0, if_neg c_33, if_neg c_34]) _ _ _ _ hP hD hS (lv_sub hl [0, 1, 2, 3, 4, 5, 6, 7, 8, 9, 10, 11, 12, 13, 14, 15, 16, 17] rfl)
  have lp_251 : ∀ (w8 : Int32) (w9 : Int32) (w10 : Int32) (w11 : Int32) (w12 : Int32) (w13 : Int32) (w14 : Int32) (w15 : Int32) (n : Nat) (v16 : Int32) (v17 : Int32) (hh : Nat → Ad) (zt : TV) (zq : SR) (zk : SR), 0 ≤ Int32.toInt v17 → Int32.toInt v17 ≤ 12 → 12 - Int32.toInt v17 < (n : Int) → (∀ t : Int32, t = pL_law_L251 n v16 v17 zq → ∀ (hh : Nat → Ad), ∀ (H : Heap) (locs : List Loc) (ls : Array Slot), va_P G vwCl (wL cI cC cZ cR ho hh hp h h2 zt zq zk) H → va_D (AL s) (wL cI cC cZ cR ho hh hp h h2 zt zq zk) → va_S (AL s) s.heap H locs → lv_has ls 18 [(0, .ref b), (1, .ref (ho 0)), (2, .ref (h 1)), (3, .ref (h 2)), (4, .ref (h 3)), (5, .ref (h2 1)), (6, .ref (h2 2)), (7, .ref (h2 3)), (8, .int w8), (9, .int w9), (10, .int w10), (11, .int w11), (12, .int w12), (13, .int w13), (14, .int w14), (15, .int w15), (16, .int t)] → W p l e room_1 s m #[Value.ref b] below meth c H locs 600000 7302250 (lw_Z below #[Value.ref b] s) (F0 m 283 ls [])) → ∀ (H : Heap) (locs : List Loc) (ls : Array Slot), va_P G vwCl (wL cI cC cZ cR ho hh hp h h2 zt zq zk) H → va_D (AL s) (wL cI cC cZ cR ho hh hp h h2 zt zq zk) → va_S (AL s) s.heap H locs → lv_has ls 18 [(0, .ref b), (1, .ref (ho 0)), (2, .ref (h 1)), (3, .ref (h 2)), (4, .ref (h 3)), (5, .ref (h2 1)), (6, .ref (h2 2)), (7, .ref (h2 3)), (8, .int w8), (9, .int w9), (10, .int w10), (11, .int w11), (12, .int w12), (13, .int w13), (14, .int w14), (15, .int w15), (16, .int v16), (17, .int v17)] → W p l e room_1 s m #[Value.ref b] below meth c H locs 600000 7302250 (lw_Z below #[Value.ref b] s) (F0 m 251 ls []) := by
    intro w8 w9 w10 w11 w12 w13 w14 w15 n
    induction n with
    | zero =>
      intro v16 v17 hh zt zq zk g_0 g_1 hm
      exfalso; omega
    | succ n ih =>
      intro v16 v17 hh zt zq zk g_0 g_1 hm hKK H locs ls hP hD hS hl
      refine lv_iload hx hb dL_law_251 (lv_at hl 17 rfl) ?_
      refine lv_bipush (v := 12) hx hb dL_law_253 (by decide) ?_
      refine lv_icmp_ge (tgt := 283) hx hb dL_law_255 (by decide) (fun c_45 => ?_) (fun c_45 => ?_)
      · have t_45 := i_le (z := (12)) (w := (Int32.toInt v17)) c_45 (by decide) rfl
        exact hKK v16 (show pL_law_L251 (n + 1) v16 v17 zq = v16 by rw [pL_law_L251, if_pos c_45]).symm _ _ _ _ hP hD hS (lv_sub hl [0, 1, 2, 3, 4, 5, 6, 7, 8, 9, 10, 11, 12, 13, 14, 15, 16] rfl)
      · have t_45 := i_nle (z := (12)) (w := (Int32.toInt v17)) c_45 (by decide) rfl
        refine lv_iload hx hb dL_law_258 (lv_at hl 16 rfl) ?_
        refine lv_aload_n hx hb dL_law_260 rfl (lv_at hl 3 rfl) ?_
        refine lv_iconst (v := 5) hx hb dL_law_261 (by decide) ?_
        refine lv_iload hx hb dL_law_262 (lv_at hl 17 rfl) ?_
        refine lv_imul hx hb dL_law_264 ?_
        refine la_ld1 (v := zq.2 1 (ix (5 * v17))) hx hb hK hP 1 rfl (e5_in (n := 12) (by first | with_reducible assumption | exact vp_in_iff.mpr ⟨by decide, by decide⟩ | exact vp_in_iff.mpr ⟨by omega, by omega⟩)) rfl dL_law_265 ?_
        have j_39 : ∀ (u39_0 : Int32), u39_0 = (pL_law_J274s0 v17 zq) → ∀ (hh : Nat → Ad), ∀ (H : Heap) (locs : List Loc) (ls : Array Slot), va_P G vwCl (wL cI cC cZ cR ho hh hp h h2 zt zq zk) H → va_D (AL s) (wL cI cC cZ cR ho hh hp h h2 zt zq zk) → va_S (AL s) s.heap H locs → lv_has ls 18 [(0, .ref b), (1, .ref (ho 0)), (2, .ref (h 1)), (3, .ref (h 2)), (4, .ref (h 3)), (5, .ref (h2 1)), (6, .ref (h2 2)), (7, .ref (h2 3)), (8, .int w8), (9, .int w9), (10, .int w10), (11, .int w11), (12, .int w12), (13, .int w13), (14, .int w14), (15, .int w15), (16, .int v16), (17, .int v17)] → W p l e room_1 s m #[Value.ref b] below meth c H locs 600000 7302250 (lw_Z below #[Value.ref b] s) (F0 m 274 ls [.int u39_0, .int v16]) := by
          intro u39_0 e0 hh H locs ls hP hD hS hl
          subst e0
          refine lv_iadd hx hb dL_law_274 ?_
          refine lv_istore (lv' := [(16, .int (v16 + (pL_law_J274s0 v17 zq))), (0, .ref b), (1, .ref (ho 0)), (2, .ref (h 1)), (3, .ref (h 2)), (4, .ref (h 3)), (5, .ref (h2 1)), (6, .ref (h2 2)), (7, .ref (h2 3)), (8, .int w8), (9, .int w9), (10, .int w10), (11, .int w11), (12, .int w12), (13, .int w13), (14, .int w14), (15, .int w15), (17, .int v17)]) hx hb dL_law_275 hl (by decide) rfl (fun ls hl => ?_)
          refine lv_iinc (v := (v17 + 1)) (lv' := [(17, .int (v17 + 1)), (16, .int (v16 + (pL_law_J274s0 v17 zq))), (0, .ref b), (1, .ref (ho 0)), (2, .ref (h 1)), (3, .ref (h 2)), (4, .ref (h 3)), (5, .ref (h2 1)), (6, .ref (h2 2)), (7, .ref (h2 3)), (8, .int w8), (9, .int w9), (10, .int w10), (11, .int w11), (12, .int w12), (13, .int w13), (14, .int w14), (15, .int w15)]) hx hb dL_law_277 hl (k := 17) rfl rfl (by decide) rfl (fun ls hl => ?_)
          have a_277 := i_add1 (a := v17) (by omega) (by omega)
          refine lv_goto (tgt := 251) hx hb dL_law_280 (by decide) ?_
          exact ih (v16 + (pL_law_J274s0 v17 zq)) (v17 + 1) _ zt zq zk (by omega) (by omega) (by omega) (fun t et => hKK t (et.trans (show pL_law_L251 (n + 1) v16 v17 zq = pL_law_L251 n (v16 + (pL_law_J274s0 v17 zq)) (v17 + 1) zq by rw [pL_law_L251, if_neg c_45]).symm)) _ _ _ hP hD hS (lv_sub hl [2, 3, 4, 5, 6, 7, 8, 9, 10, 11, 12, 13, 14, 15, 16, 17, 1, 0] rfl)
        refine lv_if_ge (tgt := 273) hx hb dL_law_266 (by decide) (fun c_46 => ?_) (fun c_46 => ?_)
        · have t_46 := i_le (z := (0)) (w := (Int32.toInt (zq.2 1 (ix (5 * v17))))) c_46 (by decide) rfl
          refine lv_iconst (v := 1) hx hb dL_law_273 (by decide) ?_
          exact j_39 1 (by rw [pL_law_J274s0, if_pos c_46]) _ _ _ _ hP hD hS (lv_sub hl [0, 1, 2, 3, 4, 5, 6, 7, 8, 9, 10, 11, 12, 13, 14, 15, 16, 17] rfl)
        · have t_46 := i_nle (z := (0)) (w := (Int32.toInt (zq.2 1 (ix (5 * v17))))) c_46 (by decide) rfl
          refine lv_iconst (v := 0) hx hb dL_law_269 (by decide) ?_
          refine lv_goto (tgt := 274) hx hb dL_law_270 (by decide) ?_
          exact j_39 0 (by rw [pL_law_J274s0, if_neg c_46]) _ _ _ _ hP hD hS (lv_sub hl [0, 1, 2, 3, 4, 5, 6, 7, 8, 9, 10, 11, 12, 13, 14, 15, 16, 17] rfl)
  have lp_101 : ∀ (n : Nat) (v8 : Int32) (hh : Nat → Ad) (zt : TV) (zq : SR) (zk : SR), HQ (99 * Int32.toInt v8) zq → Int32.toInt (zq.2 0 (ix 11)) ≤ 4 → 0 ≤ Int32.toInt v8 → Int32.toInt v8 ≤ 28 → 28 - Int32.toInt v8 < (n : Int) → ((pL_law_L101 L xs n v8 zt zq zk) = 0 → False) → (∀ t : Int32, t = pL_law_L101 L xs n v8 zt zq zk → t = 1 → ∀ (hh : Nat → Ad) (zt : TV) (zq zk : SR), ∀ (H : Heap) (locs : List Loc) (ls : Array Slot), va_P G vwCl (wL cI cC cZ cR ho hh hp h h2 zt zq zk) H → va_D (AL s) (wL cI cC cZ cR ho hh hp h h2 zt zq zk) → va_S (AL s) s.heap H locs → lv_has ls 18 [(0, .ref b), (1, .ref (ho 0)), (2, .ref (h 1)), (3, .ref (h 2)), (4, .ref (h 3)), (5, .ref (h2 1)), (6, .ref (h2 2)), (7, .ref (h2 3))] → W p l e room_1 s m #[Value.ref b] below meth c H locs 600000 7302250 (lw_Z below #[Value.ref b] s) (F0 m 919 ls [])) → ∀ (H : Heap) (locs : List Loc) (ls : Array Slot), va_P G vwCl (wL cI cC cZ cR ho hh hp h h2 zt zq zk) H → va_D (AL s) (wL cI cC cZ cR ho hh hp h h2 zt zq zk) → va_S (AL s) s.heap H locs → lv_has ls 18 [(0, .ref b), (1, .ref (ho 0)), (2, .ref (h 1)), (3, .ref (h 2)), (4, .ref (h 3)), (5, .ref (h2 1)), (6, .ref (h2 2)), (7, .ref (h2 3)), (8, .int v8)] → W p l e room_1 s m #[Value.ref b] below meth c H locs 600000 7302250 (lw_Z below #[Value.ref b] s) (F0 m 101 ls []) := by
    intro n
    induction n with
    | zero =>
      intro v8 hh zt zq zk g_0 g_1 g_2 g_3 hm
      exfalso; omega
    | succ n ih =>
      intro v8 hh zt zq zk g_0 g_1 g_2 g_3 hm hKR hKK H locs ls hP hD hS hl
      obtain ⟨⟨hq1, hq2⟩, ⟨hq3, hq4⟩, ⟨hq5, hq6⟩, ⟨hq7, hq8⟩, hq9⟩ := id g_0
      have j_867 : ∀ (u8 : Int32) (u9 : Int32) (u10 : Int32) (hh : Nat → Ad) (yt : TV) (yq : SR) (yk : SR), pL_law_L101 L xs (n + 1) v8 zt zq zk = pL_law_K867 (pL_law_L101 L xs n) u8 u9 u10 yt yq yk → HQ (99 * Int32.toInt u8 + 99) yq → Int32.toInt (yq.2 0 (ix 11)) ≤ 4 → 0 ≤ Int32.toInt u8 → Int32.toInt u8 < 28 → Int32.toInt u8 = Int32.toInt v8 → ∀ (H : Heap) (locs : List Loc) (ls : Array Slot), va_P G vwCl (wL cI cC cZ cR ho hh hp h h2 yt yq yk) H → va_D (AL s) (wL cI cC cZ cR ho hh hp h h2 yt yq yk) → va_S (AL s) s.heap H locs → lv_has ls 18 [(0, .ref b), (1, .ref (ho 0)), (2, .ref (h 1)), (3, .ref (h 2)), (4, .ref (h 3)), (5, .ref (h2 1)), (6, .ref (h2 2)), (7, .ref (h2 3)), (8, .int u8), (9, .int u9), (10, .int u10)] → W p l e room_1 s m #[Value.ref b] below meth c H locs 600000 7302250 (lw_Z below #[Value.ref b] s) (F0 m 867 ls []) := by
        intro u8 u9 u10 hh yt yq yk hE k_0 k_1 k_2 k_3 k_4 H locs ls hP hD hS hl
        refine lv_aload_n hx hb dL_law_867 rfl (lv_at hl 1 rfl) ?_
        refine lv_aload_n hx hb dL_law_868 rfl (lv_at hl 2 rfl) ?_
        refine lv_aload_n hx hb dL_law_869 rfl (lv_at hl 3 rfl) ?_
        refine lv_aload hx hb dL_law_870 (lv_at hl 4 rfl) ?_
        refine gs_i hD hS hA (lr_S (As := [.ref (ho 0), .ref (h 1), .ref (h 2), .ref (h 3)]) (rest := []) ⟨hx, hb, hml, hown, hts⟩ (ctL_same l G cI cC cZ cR ho hh hp h h2 yt yq yk (by exact k_0) (by omega)) (va_cwS 4 hts gL_law_L_same rfl rfl rfl (by decide +kernel) ⟨Nat.le_of_ble_eq_true rfl, Nat.le_of_ble_eq_true rfl⟩) hK hP hD hN rfl hl.1 rfl (Nat.le_of_ble_eq_true rfl) dL_law_872 (Nat.le_of_ble_eq_true rfl) (Nat.le_of_ble_eq_true rfl)) (fun H locs hP hD hS => ?_)
        refine lv_if_eq (tgt := 911) hx hb dL_law_875 (by decide) (fun c_17 => ?_) (fun c_17 => ?_)
        · refine lv_iconst (v := 0) hx hb dL_law_911 (by decide) ?_
          exact (hKR (hE.trans (show pL_law_K867 (pL_law_L101 L xs n) u8 u9 u10 yt yq yk = 0 by rw [pL_law_K867, if_pos c_17]))).elim
        · refine lv_iload hx hb dL_law_878 (lv_at hl 10 rfl) ?_
          refine lv_bipush (v := 13) hx hb dL_law_880 (by decide) ?_
          refine lv_ishr hx hb dL_law_882 ?_
          refine lv_iconst (v := 4) hx hb dL_law_883 (by decide) ?_
          refine gL_n hP hD hS hA (lr_S (As := [.int (u10 >>> ((13 : Int32) &&& 31)), .int 4]) (rest := []) ⟨hx, hb, hml, hown, hts⟩ (ctL_low l G cI cC cZ cR (u10 >>> ((13 : Int32) &&& 31)) 4 (by decide)) (va_cwS 2 hts gL_law_L_low rfl rfl rfl (by decide +kernel) ⟨Nat.le_of_ble_eq_true rfl, Nat.le_of_ble_eq_true rfl⟩) hK nilP (nilD (A := AL s)) hN rfl hl.1 rfl (Nat.le_of_ble_eq_true rfl) dL_law_884 (Nat.le_of_ble_eq_true rfl) (Nat.le_of_ble_eq_true rfl)) (fun H locs hP hD hS => ?_)
          refine lv_if_ne (tgt := 913) hx hb dL_law_887 (by decide) (fun c_18 => ?_) (fun c_18 => ?_)
          · refine lv_iinc (v := (u8 + 1)) (lv' := [(8, .int (u8 + 1)), (0, .ref b), (1, .ref (ho 0)), (2, .ref (h 1)), (3, .ref (h 2)), (4, .ref (h 3)), (5, .ref (h2 1)), (6, .ref (h2 2)), (7, .ref (h2 3)), (9, .int u9), (10, .int u10)]) hx hb dL_law_913 hl (k := 8) rfl rfl (by decide) rfl (fun ls hl => ?_)
            have a_913 := i_add1 (a := u8) (by omega) (by omega)
            refine lv_goto (tgt := 101) hx hb dL_law_916 (by decide) ?_
            exact ih (u8 + 1) _ yt yq yk (by rw [a_913]; exact k_0.mono (by omega)) (by exact k_1) (by omega) (by omega) (by omega) (fun q => hKR ((hE.trans (show pL_law_K867 (pL_law_L101 L xs n) u8 u9 u10 yt yq yk = (pL_law_L101 L xs n) (u8 + 1) yt yq yk by rw [pL_law_K867, if_neg c_17, if_neg c_18])).trans q)) (fun t et => hKK t (et.trans (hE.trans (show pL_law_K867 (pL_law_L101 L xs n) u8 u9 u10 yt yq yk = (pL_law_L101 L xs n) (u8 + 1) yt yq yk by rw [pL_law_K867, if_neg c_17, if_neg c_18])).symm)) _ _ _ hP hD hS (lv_sub hl [1, 2, 3, 4, 5, 6, 7, 8, 0] rfl)
          · refine lv_aload_n hx hb dL_law_890 rfl (lv_at hl 1 rfl) ?_
            refine lv_iload hx hb dL_law_891 (lv_at hl 9 rfl) ?_
            refine lv_iconst (v := 3) hx hb dL_law_893 (by decide) ?_
            refine lv_ishr hx hb dL_law_894 ?_
            refine lv_aload_n hx hb dL_law_895 rfl (lv_at hl 2 rfl) ?_
            refine lv_aload_n hx hb dL_law_896 rfl (lv_at hl 3 rfl) ?_
            refine lv_aload hx hb dL_law_897 (lv_at hl 4 rfl) ?_
            refine lv_aload hx hb dL_law_899 (lv_at hl 5 rfl) ?_
            refine lv_aload hx hb dL_law_901 (lv_at hl 6 rfl) ?_
            refine lv_aload hx hb dL_law_903 (lv_at hl 7 rfl) ?_
            refine gs_i hD hS hA (lr_S (As := [.ref (ho 0), .int (u9 >>> ((3 : Int32) &&& 31)), .ref (h 1), .ref (h 2), .ref (h 3), .ref (h2 1), .ref (h2 2), .ref (h2 3)]) (rest := []) ⟨hx, hb, hml, hown, hts⟩ (ctL_would l G cI cC cZ cR ho hh hp h h2 yt yq yk (u9 >>> ((3 : Int32) &&& 31)) (by exact k_0) (by omega) (by exact k_1)) (va_cwS 8 hts gL_law_L_would rfl rfl rfl (by decide +kernel) ⟨Nat.le_of_ble_eq_true rfl, Nat.le_of_ble_eq_true rfl⟩) hK hP hD hN rfl hl.1 rfl (Nat.le_of_ble_eq_true rfl) dL_law_905 (Nat.le_of_ble_eq_true rfl) (Nat.le_of_ble_eq_true rfl)) (fun H locs hP hD hS => ?_)
            refine lv_if_ne (tgt := 913) hx hb dL_law_908 (by decide) (fun c_19 => ?_) (fun c_19 => ?_)
            · refine lv_iinc (v := (u8 + 1)) (lv' := [(8, .int (u8 + 1)), (0, .ref b), (1, .ref (ho 0)), (2, .ref (h 1)), (3, .ref (h 2)), (4, .ref (h 3)), (5, .ref (h2 1)), (6, .ref (h2 2)), (7, .ref (h2 3)), (9, .int u9), (10, .int u10)]) hx hb dL_law_913 hl (k := 8) rfl rfl (by decide) rfl (fun ls hl => ?_)
              have a_913 := i_add1 (a := u8) (by omega) (by omega)
              refine lv_goto (tgt := 101) hx hb dL_law_916 (by decide) ?_
              exact ih (u8 + 1) _ ((pL_would (u9 >>> ((3 : Int32) &&& 31)) yt yq yk).2.1) yq ((pL_would (u9 >>> ((3 : Int32) &&& 31)) yt yq yk).2.2) (by rw [a_913]; exact k_0.mono (by omega)) (by exact k_1) (by omega) (by omega) (by omega) (fun q => hKR ((hE.trans (show pL_law_K867 (pL_law_L101 L xs n) u8 u9 u10 yt yq yk = (pL_law_L101 L xs n) (u8 + 1) ((pL_would (u9 >>> ((3 : Int32) &&& 31)) yt yq yk).2.1) yq ((pL_would (u9 >>> ((3 : Int32) &&& 31)) yt yq yk).2.2) by rw [pL_law_K867, if_neg c_17, if_pos c_18, if_neg c_19])).trans q)) (fun t et => hKK t (et.trans (hE.trans (show pL_law_K867 (pL_law_L101 L xs n) u8 u9 u10 yt yq yk = (pL_law_L101 L xs n) (u8 + 1) ((pL_would (u9 >>> ((3 : Int32) &&& 31)) yt yq yk).2.1) yq ((pL_would (u9 >>> ((3 : Int32) &&& 31)) yt yq yk).2.2) by rw [pL_law_K867, if_neg c_17, if_pos c_18, if_neg c_19])).symm)) _ _ _ hP hD hS (lv_sub hl [1, 2, 3, 4, 5, 6, 7, 8, 0] rfl)
            · refine lv_iconst (v := 0) hx hb dL_law_911 (by decide) ?_
              exact (hKR (hE.trans (show pL_law_K867 (pL_law_L101 L xs n) u8 u9 u10 yt yq yk = 0 by rw [pL_law_K867, if_neg c_17, if_pos c_18, if_pos c_19]))).elim
      have j_417 : ∀ (u8 : Int32) (u9 : Int32) (u10 : Int32) (u11 : Int32) (u12 : Int32) (u13 : Int32) (hh : Nat → Ad) (yt : TV) (yq : SR) (yk : SR), pL_law_L101 L xs (n + 1) v8 zt zq zk = pL_law_K417 (pL_law_L101 L xs n) u8 u9 u10 u11 u12 u13 yt yq yk → HQ (99 * Int32.toInt u8) yq → Int32.toInt (yq.2 0 (ix 11)) ≤ 4 → 0 ≤ Int32.toInt u8 → Int32.toInt u8 < 28 → u13 = 5 * u12 → 0 ≤ Int32.toInt u12 → Int32.toInt u12 < 12 → Int32.toInt u8 = Int32.toInt v8 → ∀ (H : Heap) (locs : List Loc) (ls : Array Slot), va_P G vwCl (wL cI cC cZ cR ho hh hp h h2 yt yq yk) H → va_D (AL s) (wL cI cC cZ cR ho hh hp h h2 yt yq yk) → va_S (AL s) s.heap H locs → lv_has ls 18 [(0, .ref b), (1, .ref (ho 0)), (2, .ref (h 1)), (3, .ref (h 2)), (4, .ref (h 3)), (5, .ref (h2 1)), (6, .ref (h2 2)), (7, .ref (h2 3)), (8, .int u8), (9, .int u9), (10, .int u10), (11, .int u11), (12, .int u12), (13, .int u13)] → W p l e room_1 s m #[Value.ref b] below meth c H locs 600000 7302250 (lw_Z below #[Value.ref b] s) (F0 m 417 ls []) := by
        intro u8 u9 u10 u11 u12 u13 hh yt yq yk hE k_0 k_1 k_2 k_3 k_4 k_5 k_6 k_7 H locs ls hP hD hS hl
        refine lv_iload hx hb dL_law_417 (lv_at hl 11 rfl) ?_
        refine lv_iconst (v := 3) hx hb dL_law_419 (by decide) ?_
        refine lv_icmp_ne (tgt := 554) hx hb dL_law_420 (by decide) (fun c_7 => ?_) (fun c_7 => ?_)
        · refine lv_iload hx hb dL_law_554 (lv_at hl 11 rfl) ?_
          refine lv_iconst (v := 4) hx hb dL_law_556 (by decide) ?_
          refine lv_icmp_ne (tgt := 642) hx hb dL_law_557 (by decide) (fun c_8 => ?_) (fun c_8 => ?_)
          · refine lv_iload hx hb dL_law_642 (lv_at hl 11 rfl) ?_
            refine lv_bipush (v := 12) hx hb dL_law_644 (by decide) ?_
            refine lv_icmp_ge (tgt := 724) hx hb dL_law_646 (by decide) (fun c_9 => ?_) (fun c_9 => ?_)
            · have t_9 := i_le (z := (12)) (w := (Int32.toInt u11)) c_9 (by decide) rfl
              refine lv_iload hx hb dL_law_724 (lv_at hl 10 rfl) ?_
              refine lv_bipush (v := 7) hx hb dL_law_726 (by decide) ?_
              refine gL_n hP hD hS hA (lr_S (As := [.int u10, .int 7]) (rest := []) ⟨hx, hb, hml, hown, hts⟩ (ctL_low l G cI cC cZ cR u10 7 (by decide)) (va_cwS 2 hts gL_law_L_low rfl rfl rfl (by decide +kernel) ⟨Nat.le_of_ble_eq_true rfl, Nat.le_of_ble_eq_true rfl⟩) hK nilP (nilD (A := AL s)) hN rfl hl.1 rfl (Nat.le_of_ble_eq_true rfl) dL_law_728 (Nat.le_of_ble_eq_true rfl) (Nat.le_of_ble_eq_true rfl)) (fun H locs hP hD hS => ?_)
              refine lv_istore (lv' := [(14, .int (pL_low u10 7)), (0, .ref b), (1, .ref (ho 0)), (2, .ref (h 1)), (3, .ref (h 2)), (4, .ref (h 3)), (5, .ref (h2 1)), (6, .ref (h2 2)), (7, .ref (h2 3)), (8, .int u8), (9, .int u9), (10, .int u10), (11, .int u11), (12, .int u12), (13, .int u13)]) hx hb dL_law_731 hl (by decide) rfl (fun ls hl => ?_)
              have hl7 := low_in u10 (n := 7) (by decide)
              refine lv_iload hx hb dL_law_733 (lv_at hl 0 rfl) ?_
              have j_22 : ∀ (u22_0 : Int32), u22_0 = (pL_law_J842s0 u10) → ∀ (hh : Nat → Ad), ∀ (H : Heap) (locs : List Loc) (ls : Array Slot), va_P G vwCl (wL cI cC cZ cR ho hh hp h h2 yt yq yk) H → va_D (AL s) (wL cI cC cZ cR ho hh hp h h2 yt yq yk) → va_S (AL s) s.heap H locs → lv_has ls 18 [(14, .int (pL_low u10 7)), (0, .ref b), (1, .ref (ho 0)), (2, .ref (h 1)), (3, .ref (h 2)), (4, .ref (h 3)), (5, .ref (h2 1)), (6, .ref (h2 2)), (7, .ref (h2 3)), (8, .int u8), (9, .int u9), (10, .int u10), (11, .int u11), (12, .int u12), (13, .int u13)] → W p l e room_1 s m #[Value.ref b] below meth c H locs 600000 7302250 (lw_Z below #[Value.ref b] s) (F0 m 842 ls [.int u22_0]) := by
                intro u22_0 e0 hh H locs ls hP hD hS hl
                subst e0
                refine lv_istore (lv' := [(15, .int (pL_law_J842s0 u10)), (14, .int (pL_low u10 7)), (0, .ref b), (1, .ref (ho 0)), (2, .ref (h 1)), (3, .ref (h 2)), (4, .ref (h 3)), (5, .ref (h2 1)), (6, .ref (h2 2)), (7, .ref (h2 3)), (8, .int u8), (9, .int u9), (10, .int u10), (11, .int u11), (12, .int u12), (13, .int u13)]) hx hb dL_law_842 hl (by decide) rfl (fun ls hl => ?_)
                refine lv_aload_n hx hb dL_law_844 rfl (lv_at hl 3 rfl) ?_
                refine lv_iload hx hb dL_law_845 (lv_at hl 1 rfl) ?_
                refine lv_iload hx hb dL_law_847 (lv_at hl 0 rfl) ?_
                refine gL_x wL_X (fun _ => wL_X) hP hD hS hA (lr_VS hST (As := [.int (pL_low u10 7), .int (pL_law_J842s0 u10)]) (rest := []) ⟨hx, hb, hml, hown, hts⟩ (ctX2_set l G cI cC cZ cR ho hh hp yt (pL_low u10 7) (pL_law_J842s0 u10)) (cwV 2 hts gL_law_X2_set rfl rfl rfl (by decide +kernel) ⟨Nat.le_of_ble_eq_true rfl, Nat.le_of_ble_eq_true rfl⟩) (tx_recv hK (xL hP)) hS hA hK (xL hP) (xLD hD) hN rfl hl.1 rfl (Nat.le_of_ble_eq_true rfl) dL_law_849 (Nat.le_of_ble_eq_true rfl) (Nat.le_of_ble_eq_true rfl)) (fun hh H locs hP hD hS => ?_)
                refine lv_aload_n hx hb dL_law_852 rfl (lv_at hl 4 rfl) ?_
                refine lv_iload hx hb dL_law_853 (lv_at hl 1 rfl) ?_
                refine la_ld1 (v := yq.2 0 (ix (pL_low u10 7))) hx hb hK hP 0 rfl (by exact low7_in) rfl dL_law_855 ?_
                refine lv_icmp_eq (tgt := 861) hx hb dL_law_856 (by decide) (fun c_16 => ?_) (fun c_16 => ?_)
                · refine lv_aload_n hx hb dL_law_861 rfl (lv_at hl 4 rfl) ?_
                  refine lv_iload hx hb dL_law_862 (lv_at hl 1 rfl) ?_
                  refine lv_iload hx hb dL_law_864 (lv_at hl 0 rfl) ?_
                  refine la_st1 hx hb hK hP hD hS 0 rfl (by exact low7_in) dL_law_866 (fun H locs hP hD hS => ?_)
                  exact j_867 u8 u9 u10 _ ((pX2_set (pL_low u10 7) (pL_law_J842s0 u10) yt).2) (pR yq 0 (pL_low u10 7) (pL_law_J842s0 u10)) yk (hE.trans (show pL_law_K417 (pL_law_L101 L xs n) u8 u9 u10 u11 u12 u13 yt yq yk = pL_law_K867 (pL_law_L101 L xs n) u8 u9 u10 ((pX2_set (pL_low u10 7) (pL_law_J842s0 u10) yt).2) (pR yq 0 (pL_low u10 7) (pL_law_J842s0 u10)) yk by rw [pL_law_K417, if_neg c_7, if_neg c_8, if_pos c_9, if_pos c_16])) (by exact HQ_set (k_0.mono (by omega))) (by rw [q11_set]; exact k_1) (by omega) (by omega) (by first | rfl | assumption) _ _ _ hP hD hS (lv_sub hl [2, 3, 4, 5, 6, 7, 8, 9, 10, 11, 12] rfl)
                · refine lv_iconst (v := 0) hx hb dL_law_859 (by decide) ?_
                  exact (hKR (hE.trans (show pL_law_K417 (pL_law_L101 L xs n) u8 u9 u10 u11 u12 u13 yt yq yk = 0 by rw [pL_law_K417, if_neg c_7, if_neg c_8, if_pos c_9, if_neg c_16]))).elim
              refine lv_if_ne (tgt := 750) hx hb dL_law_735 (by decide) (fun c_10 => ?_) (fun c_10 => ?_)
              · refine lv_iload hx hb dL_law_750 (lv_at hl 0 rfl) ?_
                refine lv_iconst (v := 1) hx hb dL_law_752 (by decide) ?_
                refine lv_icmp_ne (tgt := 770) hx hb dL_law_753 (by decide) (fun c_11 => ?_) (fun c_11 => ?_)
                · refine lv_iload hx hb dL_law_770 (lv_at hl 0 rfl) ?_
                  refine lv_iconst (v := 2) hx hb dL_law_772 (by decide) ?_
                  refine lv_icmp_eq (tgt := 783) hx hb dL_law_773 (by decide) (fun c_12 => ?_) (fun c_12 => ?_)
                  · refine lv_iconst (v := 1) hx hb dL_law_783 (by decide) ?_
                    refine lv_iload hx hb dL_law_784 (lv_at hl 11 rfl) ?_
                    refine lv_iconst (v := 3) hx hb dL_law_786 (by decide) ?_
                    refine lv_ishr hx hb dL_law_787 ?_
                    refine lv_bipush (v := 20) hx hb dL_law_788 (by decide) ?_
                    refine gL_n hP hD hS hA (lr_S (As := [.int (u10 >>> ((3 : Int32) &&& 31)), .int 20]) (rest := [.int 1]) ⟨hx, hb, hml, hown, hts⟩ (ctL_low l G cI cC cZ cR (u10 >>> ((3 : Int32) &&& 31)) 20 (by decide)) (va_cwS 2 hts gL_law_L_low rfl rfl rfl (by decide +kernel) ⟨Nat.le_of_ble_eq_true rfl, Nat.le_of_ble_eq_true rfl⟩) hK nilP (nilD (A := AL s)) hN rfl hl.1 rfl (Nat.le_of_ble_eq_true rfl) dL_law_790 (Nat.le_of_ble_eq_true rfl) (Nat.le_of_ble_eq_true rfl)) (fun H locs hP hD hS => ?_)
                    refine lv_iadd hx hb dL_law_793 ?_
                    refine lv_goto (tgt := 842) hx hb dL_law_794 (by decide) ?_
                    exact j_22 (1 + (pL_low (u10 >>> ((3 : Int32) &&& 31)) 20)) (by rw [pL_law_J842s0, if_neg c_10, if_neg c_11, if_pos c_12]) _ _ _ _ hP hD hS (lv_sub hl [0, 1, 2, 3, 4, 5, 6, 7, 8, 9, 10, 11, 12, 13, 14] rfl)
                  · refine lv_iload hx hb dL_law_776 (lv_at hl 0 rfl) ?_
                    refine lv_bipush (v := 6) hx hb dL_law_778 (by decide) ?_
                    refine lv_icmp_ne (tgt := 797) hx hb dL_law_780 (by decide) (fun c_13 => ?_) (fun c_13 => ?_)
                    · refine lv_iload hx hb dL_law_797 (lv_at hl 0 rfl) ?_
                      refine lv_iconst (v := 3) hx hb dL_law_799 (by decide) ?_
                      refine lv_icmp_ne (tgt := 815) hx hb dL_law_800 (by decide) (fun c_14 => ?_) (fun c_14 => ?_)
                      · refine lv_iload hx hb dL_law_815 (lv_at hl 0 rfl) ?_
                        refine lv_iconst (v := 4) hx hb dL_law_817 (by decide) ?_
                        refine lv_icmp_ne (tgt := 833) hx hb dL_law_818 (by decide) (fun c_15 => ?_) (fun c_15 => ?_)
                        · refine lv_iload hx hb dL_law_833 (lv_at hl 11 rfl) ?_
                          refine lv_iconst (v := 3) hx hb dL_law_835 (by decide) ?_
                          refine lv_ishr hx hb dL_law_836 ?_
                          refine lv_bipush (v := 101) hx hb dL_law_837 (by decide) ?_
                          refine gL_n hP hD hS hA (lr_S (As := [.int (u10 >>> ((3 : Int32) &&& 31)), .int 101]) (rest := []) ⟨hx, hb, hml, hown, hts⟩ (ctL_low l G cI cC cZ cR (u10 >>> ((3 : Int32) &&& 31)) 101 (by decide)) (va_cwS 2 hts gL_law_L_low rfl rfl rfl (by decide +kernel) ⟨Nat.le_of_ble_eq_true rfl, Nat.le_of_ble_eq_true rfl⟩) hK nilP (nilD (A := AL s)) hN rfl hl.1 rfl (Nat.le_of_ble_eq_true rfl) dL_law_839 (Nat.le_of_ble_eq_true rfl) (Nat.le_of_ble_eq_true rfl)) (fun H locs hP hD hS => ?_)
                          exact j_22 (pL_low (u10 >>> ((3 : Int32) &&& 31)) 101) (by rw [pL_law_J842s0, if_neg c_10, if_neg c_11, if_neg c_12, if_neg c_13, if_neg c_14, if_neg c_15]) _ _ _ _ hP hD hS (lv_sub hl [0, 1, 2, 3, 4, 5, 6, 7, 8, 9, 10, 11, 12, 13, 14] rfl)
                        · refine lv_iload hx hb dL_law_821 (lv_at hl 11 rfl) ?_
                          refine lv_iconst (v := 3) hx hb dL_law_823 (by decide) ?_
                          refine lv_ishr hx hb dL_law_824 ?_
                          refine lv_bipush (v := 51) hx hb dL_law_825 (by decide) ?_
                          refine gL_n hP hD hS hA (lr_S (As := [.int (u10 >>> ((3 : Int32) &&& 31)), .int 51]) (rest := []) ⟨hx, hb, hml, hown, hts⟩ (ctL_low l G cI cC cZ cR (u10 >>> ((3 : Int32) &&& 31)) 51 (by decide)) (va_cwS 2 hts gL_law_L_low rfl rfl rfl (by decide +kernel) ⟨Nat.le_of_ble_eq_true rfl, Nat.le_of_ble_eq_true rfl⟩) hK nilP (nilD (A := AL s)) hN rfl hl.1 rfl (Nat.le_of_ble_eq_true rfl) dL_law_827 (Nat.le_of_ble_eq_true rfl) (Nat.le_of_ble_eq_true rfl)) (fun H locs hP hD hS => ?_)
                          refine lv_goto (tgt := 842) hx hb dL_law_830 (by decide) ?_
                          exact j_22 (pL_low (u10 >>> ((3 : Int32) &&& 31)) 51) (by rw [pL_law_J842s0, if_neg c_10, if_neg c_11, if_neg c_12, if_neg c_13, if_neg c_14, if_pos c_15]) _ _ _ _ hP hD hS (lv_sub hl [0, 1, 2, 3, 4, 5, 6, 7, 8, 9, 10, 11, 12, 13, 14] rfl)
                      · refine lv_iload hx hb dL_law_803 (lv_at hl 11 rfl) ?_
                        refine lv_iconst (v := 3) hx hb dL_law_805 (by decide) ?_
                        refine lv_ishr hx hb dL_law_806 ?_
                        refine lv_bipush (v := 21) hx hb dL_law_807 (by decide) ?_
                        refine gL_n hP hD hS hA (lr_S (As := [.int (u10 >>> ((3 : Int32) &&& 31)), .int 21]) (rest := []) ⟨hx, hb, hml, hown, hts⟩ (ctL_low l G cI cC cZ cR (u10 >>> ((3 : Int32) &&& 31)) 21 (by decide)) (va_cwS 2 hts gL_law_L_low rfl rfl rfl (by decide +kernel) ⟨Nat.le_of_ble_eq_true rfl, Nat.le_of_ble_eq_true rfl⟩) hK nilP (nilD (A := AL s)) hN rfl hl.1 rfl (Nat.le_of_ble_eq_true rfl) dL_law_809 (Nat.le_of_ble_eq_true rfl) (Nat.le_of_ble_eq_true rfl)) (fun H locs hP hD hS => ?_)
                        refine lv_goto (tgt := 842) hx hb dL_law_812 (by decide) ?_
                        exact j_22 (pL_low (u10 >>> ((3 : Int32) &&& 31)) 21) (by rw [pL_law_J842s0, if_neg c_10, if_neg c_11, if_neg c_12, if_neg c_13, if_pos c_14]) _ _ _ _ hP hD hS (lv_sub hl [0, 1, 2, 3, 4, 5, 6, 7, 8, 9, 10, 11, 12, 13, 14] rfl)
                    · refine lv_iconst (v := 1) hx hb dL_law_783 (by decide) ?_
                      refine lv_iload hx hb dL_law_784 (lv_at hl 11 rfl) ?_
                      refine lv_iconst (v := 3) hx hb dL_law_786 (by decide) ?_
                      refine lv_ishr hx hb dL_law_787 ?_
                      refine lv_bipush (v := 20) hx hb dL_law_788 (by decide) ?_
                      refine gL_n hP hD hS hA (lr_S (As := [.int (u10 >>> ((3 : Int32) &&& 31)), .int 20]) (rest := [.int 1]) ⟨hx, hb, hml, hown, hts⟩ (ctL_low l G cI cC cZ cR (u10 >>> ((3 : Int32) &&& 31)) 20 (by decide)) (va_cwS 2 hts gL_law_L_low rfl rfl rfl (by decide +kernel) ⟨Nat.le_of_ble_eq_true rfl, Nat.le_of_ble_eq_true rfl⟩) hK nilP (nilD (A := AL s)) hN rfl hl.1 rfl (Nat.le_of_ble_eq_true rfl) dL_law_790 (Nat.le_of_ble_eq_true rfl) (Nat.le_of_ble_eq_true rfl)) (fun H locs hP hD hS => ?_)
                      refine lv_iadd hx hb dL_law_793 ?_
                      refine lv_goto (tgt := 842) hx hb dL_law_794 (by decide) ?_
                      exact j_22 (1 + (pL_low (u10 >>> ((3 : Int32) &&& 31)) 20)) (by rw [pL_law_J842s0, if_neg c_10, if_neg c_11, if_neg c_12, if_pos c_13]) _ _ _ _ hP hD hS (lv_sub hl [0, 1, 2, 3, 4, 5, 6, 7, 8, 9, 10, 11, 12, 13, 14] rfl)
                · refine lv_iconst (v := 1) hx hb dL_law_756 (by decide) ?_
                  refine lv_iload hx hb dL_law_757 (lv_at hl 11 rfl) ?_
                  refine lv_iconst (v := 3) hx hb dL_law_759 (by decide) ?_
                  refine lv_ishr hx hb dL_law_760 ?_
                  refine lv_bipush (v := 50) hx hb dL_law_761 (by decide) ?_
                  refine gL_n hP hD hS hA (lr_S (As := [.int (u10 >>> ((3 : Int32) &&& 31)), .int 50]) (rest := [.int 1]) ⟨hx, hb, hml, hown, hts⟩ (ctL_low l G cI cC cZ cR (u10 >>> ((3 : Int32) &&& 31)) 50 (by decide)) (va_cwS 2 hts gL_law_L_low rfl rfl rfl (by decide +kernel) ⟨Nat.le_of_ble_eq_true rfl, Nat.le_of_ble_eq_true rfl⟩) hK nilP (nilD (A := AL s)) hN rfl hl.1 rfl (Nat.le_of_ble_eq_true rfl) dL_law_763 (Nat.le_of_ble_eq_true rfl) (Nat.le_of_ble_eq_true rfl)) (fun H locs hP hD hS => ?_)
                  refine lv_iadd hx hb dL_law_766 ?_
                  refine lv_goto (tgt := 842) hx hb dL_law_767 (by decide) ?_
                  exact j_22 (1 + (pL_low (u10 >>> ((3 : Int32) &&& 31)) 50)) (by rw [pL_law_J842s0, if_neg c_10, if_pos c_11]) _ _ _ _ hP hD hS (lv_sub hl [0, 1, 2, 3, 4, 5, 6, 7, 8, 9, 10, 11, 12, 13, 14] rfl)
              · refine lv_iload hx hb dL_law_738 (lv_at hl 11 rfl) ?_
                refine lv_iconst (v := 3) hx hb dL_law_740 (by decide) ?_
                refine lv_ishr hx hb dL_law_741 ?_
                refine lv_bipush (v := 13) hx hb dL_law_742 (by decide) ?_
                refine gL_n hP hD hS hA (lr_S (As := [.int (u10 >>> ((3 : Int32) &&& 31)), .int 13]) (rest := []) ⟨hx, hb, hml, hown, hts⟩ (ctL_low l G cI cC cZ cR (u10 >>> ((3 : Int32) &&& 31)) 13 (by decide)) (va_cwS 2 hts gL_law_L_low rfl rfl rfl (by decide +kernel) ⟨Nat.le_of_ble_eq_true rfl, Nat.le_of_ble_eq_true rfl⟩) hK nilP (nilD (A := AL s)) hN rfl hl.1 rfl (Nat.le_of_ble_eq_true rfl) dL_law_744 (Nat.le_of_ble_eq_true rfl) (Nat.le_of_ble_eq_true rfl)) (fun H locs hP hD hS => ?_)
                refine lv_goto (tgt := 842) hx hb dL_law_747 (by decide) ?_
                exact j_22 (pL_low (u10 >>> ((3 : Int32) &&& 31)) 13) (by rw [pL_law_J842s0, if_pos c_10]) _ _ _ _ hP hD hS (lv_sub hl [0, 1, 2, 3, 4, 5, 6, 7, 8, 9, 10, 11, 12, 13, 14] rfl)
            · have t_9 := i_nle (z := (12)) (w := (Int32.toInt u11)) c_9 (by decide) rfl
              refine lv_iconst (v := 1) hx hb dL_law_649 (by decide) ?_
              refine lv_iload hx hb dL_law_650 (lv_at hl 10 rfl) ?_
              refine lv_iload hx hb dL_law_652 (lv_at hl 9 rfl) ?_
              refine lv_bipush (v := 9) hx hb dL_law_654 (by decide) ?_
              refine lv_ishr hx hb dL_law_656 ?_
              refine lv_iconst (v := 3) hx hb dL_law_657 (by decide) ?_
              refine gL_n hP hD hS hA (lr_S (As := [.int (u9 >>> ((9 : Int32) &&& 31)), .int 3]) (rest := [.int u10, .int 1]) ⟨hx, hb, hml, hown, hts⟩ (ctL_low l G cI cC cZ cR (u9 >>> ((9 : Int32) &&& 31)) 3 (by decide)) (va_cwS 2 hts gL_law_L_low rfl rfl rfl (by decide +kernel) ⟨Nat.le_of_ble_eq_true rfl, Nat.le_of_ble_eq_true rfl⟩) hK nilP (nilD (A := AL s)) hN rfl hl.1 rfl (Nat.le_of_ble_eq_true rfl) dL_law_658 (Nat.le_of_ble_eq_true rfl) (Nat.le_of_ble_eq_true rfl)) (fun H locs hP hD hS => ?_)
              have j_23 : ∀ (u23_0 : Int32), u23_0 = (pL_law_J671s0 u9) → ∀ (hh : Nat → Ad), ∀ (H : Heap) (locs : List Loc) (ls : Array Slot), va_P G vwCl (wL cI cC cZ cR ho hh hp h h2 yt yq yk) H → va_D (AL s) (wL cI cC cZ cR ho hh hp h h2 yt yq yk) → va_S (AL s) s.heap H locs → lv_has ls 18 [(0, .ref b), (1, .ref (ho 0)), (2, .ref (h 1)), (3, .ref (h 2)), (4, .ref (h 3)), (5, .ref (h2 1)), (6, .ref (h2 2)), (7, .ref (h2 3)), (8, .int u8), (9, .int u9), (10, .int u10), (11, .int u11), (12, .int u12), (13, .int u13)] → W p l e room_1 s m #[Value.ref b] below meth c H locs 600000 7302250 (lw_Z below #[Value.ref b] s) (F0 m 671 ls [.int u23_0, .int u10, .int 1]) := by
                intro u23_0 e0 hh H locs ls hP hD hS hl
                subst e0
                refine gL_n hP hD hS hA (lr_S (As := [.int u10, .int (pL_law_J671s0 u9)]) (rest := [.int 1]) ⟨hx, hb, hml, hown, hts⟩ (ctL_low l G cI cC cZ cR u10 (pL_law_J671s0 u9) (by rw [pL_law_J671s0]; split <;> decide)) (va_cwS 2 hts gL_law_L_low rfl rfl rfl (by decide +kernel) ⟨Nat.le_of_ble_eq_true rfl, Nat.le_of_ble_eq_true rfl⟩) hK nilP (nilD (A := AL s)) hN rfl hl.1 rfl (Nat.le_of_ble_eq_true rfl) dL_law_671 (Nat.le_of_ble_eq_true rfl) (Nat.le_of_ble_eq_true rfl)) (fun H locs hP hD hS => ?_)
                refine lv_iadd hx hb dL_law_674 ?_
                refine lv_istore (lv' := [(14, .int (1 + (pL_low u10 (pL_law_J671s0 u9)))), (0, .ref b), (1, .ref (ho 0)), (2, .ref (h 1)), (3, .ref (h 2)), (4, .ref (h 3)), (5, .ref (h2 1)), (6, .ref (h2 2)), (7, .ref (h2 3)), (8, .int u8), (9, .int u9), (10, .int u10), (11, .int u11), (12, .int u12), (13, .int u13)]) hx hb dL_law_675 hl (by decide) rfl (fun ls hl => ?_)
                have hlo := lo_671 (a := u10) (b := u9)
                refine lv_iconst (v := 0) hx hb dL_law_677 (by decide) ?_
                refine lv_istore (lv' := [(15, .int 0), (14, .int (1 + (pL_low u10 (pL_law_J671s0 u9)))), (0, .ref b), (1, .ref (ho 0)), (2, .ref (h 1)), (3, .ref (h 2)), (4, .ref (h 3)), (5, .ref (h2 1)), (6, .ref (h2 2)), (7, .ref (h2 3)), (8, .int u8), (9, .int u9), (10, .int u10), (11, .int u11), (12, .int u12), (13, .int u13)]) hx hb dL_law_678 hl (by decide) rfl (fun ls hl => ?_)
                refine lv_iconst (v := 0) hx hb dL_law_680 (by decide) ?_
                refine lv_istore (lv' := [(16, .int 0), (15, .int 0), (14, .int (1 + (pL_low u10 (pL_law_J671s0 u9)))), (0, .ref b), (1, .ref (ho 0)), (2, .ref (h 1)), (3, .ref (h 2)), (4, .ref (h 3)), (5, .ref (h2 1)), (6, .ref (h2 2)), (7, .ref (h2 3)), (8, .int u8), (9, .int u9), (10, .int u10), (11, .int u11), (12, .int u12), (13, .int u13)]) hx hb dL_law_681 hl (by decide) rfl (fun ls hl => ?_)
                refine lp_683 u8 u9 u10 u11 u12 u13 (1 + (pL_low u10 (pL_law_J671s0 u9))) 100 0 0 hh yt yq yk (by exact k_0.mono (by have z0 : Int32.toInt 0 = 0 := rfl; omega)) (by decide) (by have z0 : Int32.toInt 0 = 0 := rfl; omega) (by omega) (by omega) (by omega) (by show _ < ((100 : Nat) : Int); have z0 : Int32.toInt 0 = 0 := rfl; omega) (fun t et hh H locs ls hP hD hS hl => ?_) _ _ _ hP hD hS (lv_sub hl [3, 4, 5, 6, 7, 8, 9, 10, 11, 12, 13, 14, 15, 16, 2, 1, 0] rfl)
                have et2 : t = (pL_law_E683 u9 u10 yq) := et
                clear et
                subst et2
                refine lv_aload_n hx hb dL_law_708 rfl (lv_at hl 1 rfl) ?_
                refine lv_iload hx hb dL_law_709 (lv_at hl 14 rfl) ?_
                refine gL_x wL_X (fun _ => wL_X) hP hD hS hA (lr_V (As := [.int (1 + (pL_low u10 (pL_law_J671s0 u9)))]) (rest := []) ⟨hx, hb, hml, hown, hts⟩ (ctX2_pass l G cI cC cZ cR ho hh hp yt (1 + (pL_low u10 (pL_law_J671s0 u9)))) (cwV 1 hts gL_law_X2_pass rfl rfl rfl (by decide +kernel) ⟨Nat.le_of_ble_eq_true rfl, Nat.le_of_ble_eq_true rfl⟩) (tx_recv hK (xL hP)) hK (xL hP) (xLD hD) hN rfl hl.1 rfl (Nat.le_of_ble_eq_true rfl) dL_law_711 (Nat.le_of_ble_eq_true rfl) (Nat.le_of_ble_eq_true rfl)) (fun hh H locs hP hD hS => ?_)
                refine lv_iload hx hb dL_law_714 (lv_at hl 15 rfl) ?_
                refine lv_icmp_eq (tgt := 721) hx hb dL_law_716 (by decide) (fun c_22 => ?_) (fun c_22 => ?_)
                · refine lv_goto (tgt := 867) hx hb dL_law_721 (by decide) ?_
                  exact j_867 u8 u9 u10 _ ((pX2_pass (1 + (pL_low u10 (pL_law_J671s0 u9))) yt).2) ((pL_law_E683 u9 u10 yq).2) yk (hE.trans (show pL_law_K417 (pL_law_L101 L xs n) u8 u9 u10 u11 u12 u13 yt yq yk = pL_law_K867 (pL_law_L101 L xs n) u8 u9 u10 ((pX2_pass (1 + (pL_low u10 (pL_law_J671s0 u9))) yt).2) ((pL_law_E683 u9 u10 yq).2) yk by rw [pL_law_K417, if_neg c_7, if_neg c_8, if_neg c_9, if_pos c_22])) (by exact HQ_E683 k_0 (by omega) (by omega)) (by rw [q11_E683]; exact k_1) (by omega) (by omega) (by first | rfl | assumption) _ _ _ hP hD hS (lv_sub hl [0, 1, 2, 3, 4, 5, 6, 7, 8, 9, 10] rfl)
                · refine lv_iconst (v := 0) hx hb dL_law_719 (by decide) ?_
                  exact (hKR (hE.trans (show pL_law_K417 (pL_law_L101 L xs n) u8 u9 u10 u11 u12 u13 yt yq yk = 0 by rw [pL_law_K417, if_neg c_7, if_neg c_8, if_neg c_9, if_neg c_22]))).elim
              refine lv_if_ne (tgt := 669) hx hb dL_law_661 (by decide) (fun c_20 => ?_) (fun c_20 => ?_)
              · refine lv_bipush (v := 8) hx hb dL_law_669 (by decide) ?_
                exact j_23 8 (by rw [pL_law_J671s0, if_neg c_20]) _ _ _ _ hP hD hS (lv_sub hl [0, 1, 2, 3, 4, 5, 6, 7, 8, 9, 10, 11, 12, 13] rfl)
              · refine lv_bipush (v := 99) hx hb dL_law_664 (by decide) ?_
                refine lv_goto (tgt := 671) hx hb dL_law_666 (by decide) ?_
                exact j_23 99 (by rw [pL_law_J671s0, if_pos c_20]) _ _ _ _ hP hD hS (lv_sub hl [0, 1, 2, 3, 4, 5, 6, 7, 8, 9, 10, 11, 12, 13] rfl)
          · refine lv_aload_n hx hb dL_law_560 rfl (lv_at hl 3 rfl) ?_
            refine lv_iload hx hb dL_law_561 (lv_at hl 13 rfl) ?_
            refine la_ld1 (v := yq.2 1 (ix u13)) hx hb hK hP 1 rfl (by rw [k_4]; exact e5_in (n := 12) (vp_in_iff.mpr ⟨by omega, by omega⟩)) rfl dL_law_563 ?_
            have j_24 : ∀ (u24_0 : Int32), u24_0 = (pL_law_J572s0 u13 yq) → ∀ (hh : Nat → Ad), ∀ (H : Heap) (locs : List Loc) (ls : Array Slot), va_P G vwCl (wL cI cC cZ cR ho hh hp h h2 yt yq yk) H → va_D (AL s) (wL cI cC cZ cR ho hh hp h h2 yt yq yk) → va_S (AL s) s.heap H locs → lv_has ls 18 [(0, .ref b), (1, .ref (ho 0)), (2, .ref (h 1)), (3, .ref (h 2)), (4, .ref (h 3)), (5, .ref (h2 1)), (6, .ref (h2 2)), (7, .ref (h2 3)), (8, .int u8), (9, .int u9), (10, .int u10), (11, .int u11), (12, .int u12), (13, .int u13)] → W p l e room_1 s m #[Value.ref b] below meth c H locs 600000 7302250 (lw_Z below #[Value.ref b] s) (F0 m 572 ls [.int u24_0]) := by
              intro u24_0 e0 hh H locs ls hP hD hS hl
              subst e0
              refine lv_istore (lv' := [(14, .int (pL_law_J572s0 u13 yq)), (0, .ref b), (1, .ref (ho 0)), (2, .ref (h 1)), (3, .ref (h 2)), (4, .ref (h 3)), (5, .ref (h2 1)), (6, .ref (h2 2)), (7, .ref (h2 3)), (8, .int u8), (9, .int u9), (10, .int u10), (11, .int u11), (12, .int u12), (13, .int u13)]) hx hb dL_law_572 hl (by decide) rfl (fun ls hl => ?_)
              refine lv_iconst (v := 0) hx hb dL_law_574 (by decide) ?_
              refine lv_istore (lv' := [(15, .int 0), (14, .int (pL_law_J572s0 u13 yq)), (0, .ref b), (1, .ref (ho 0)), (2, .ref (h 1)), (3, .ref (h 2)), (4, .ref (h 3)), (5, .ref (h2 1)), (6, .ref (h2 2)), (7, .ref (h2 3)), (8, .int u8), (9, .int u9), (10, .int u10), (11, .int u11), (12, .int u12), (13, .int u13)]) hx hb dL_law_575 hl (by decide) rfl (fun ls hl => ?_)
              refine lv_aload_n hx hb dL_law_577 rfl (lv_at hl 5 rfl) ?_
              refine lv_iload hx hb dL_law_578 (lv_at hl 15 rfl) ?_
              refine lv_iconst (v := (-1)) hx hb dL_law_580 (by decide) ?_
              refine la_st1 hx hb hK hP hD hS 1 rfl (by rw [k_4]; exact e5_in (n := 12) (vp_in_iff.mpr ⟨by omega, by omega⟩)) dL_law_581 (fun H locs hP hD hS => ?_)
              refine lv_iconst (v := 0) hx hb dL_law_582 (by decide) ?_
              refine lv_istore (lv' := [(16, .int 0), (15, .int 0), (14, .int (pL_law_J572s0 u13 yq)), (0, .ref b), (1, .ref (ho 0)), (2, .ref (h 1)), (3, .ref (h 2)), (4, .ref (h 3)), (5, .ref (h2 1)), (6, .ref (h2 2)), (7, .ref (h2 3)), (8, .int u8), (9, .int u9), (10, .int u10), (11, .int u11), (12, .int u12), (13, .int u13)]) hx hb dL_law_583 hl (by decide) rfl (fun ls hl => ?_)
              refine lp_585 u8 u9 u10 u11 u12 u13 (pL_law_J572s0 u13 yq) 13 0 0 hh yt (pR yq 1 u13 (-1)) yk (by first | decide | omega | assumption) (by first | decide | omega | assumption) (by decide) (fun t et hh H locs ls hP hD hS hl => ?_) _ _ _ hP hD hS (lv_sub hl [3, 4, 5, 6, 7, 8, 9, 10, 11, 12, 13, 14, 15, 16, 2, 1, 0] rfl)
              have et2 : t = (pL_law_E585 u13 yq) := et
              clear et
              subst et2
              refine lv_aload_n hx hb dL_law_617 rfl (lv_at hl 1 rfl) ?_
              refine lv_iload hx hb dL_law_618 (lv_at hl 12 rfl) ?_
              refine gL_x wL_X (fun _ => wL_X) hP hD hS hA (lr_V (As := [.int u12]) (rest := []) ⟨hx, hb, hml, hown, hts⟩ (ctX2_take l G cI cC cZ cR ho hh hp yt u12) (cwV 1 hts gL_law_X2_take rfl rfl rfl (by decide +kernel) ⟨Nat.le_of_ble_eq_true rfl, Nat.le_of_ble_eq_true rfl⟩) (tx_recv hK (xL hP)) hK (xL hP) (xLD hD) hN rfl hl.1 rfl (Nat.le_of_ble_eq_true rfl) dL_law_620 (Nat.le_of_ble_eq_true rfl) (Nat.le_of_ble_eq_true rfl)) (fun hh H locs hP hD hS => ?_)
              refine lv_iload hx hb dL_law_623 (lv_at hl 14 rfl) ?_
              have j_27 : ∀ (u27_0 : Int32), u27_0 = (pL_law_J634s0 u13 yq) → ∀ (hh : Nat → Ad), ∀ (H : Heap) (locs : List Loc) (ls : Array Slot), va_P G vwCl (wL cI cC cZ cR ho hh hp h h2 ((pX2_take u12 yt).2) (pR yq 1 u13 (-1)) yk) H → va_D (AL s) (wL cI cC cZ cR ho hh hp h h2 ((pX2_take u12 yt).2) (pR yq 1 u13 (-1)) yk) → va_S (AL s) s.heap H locs → lv_has ls 18 [(0, .ref b), (1, .ref (ho 0)), (2, .ref (h 1)), (3, .ref (h 2)), (4, .ref (h 3)), (5, .ref (h2 1)), (6, .ref (h2 2)), (7, .ref (h2 3)), (8, .int u8), (9, .int u9), (10, .int u10), (11, .int u11), (12, .int u12), (13, .int u13), (14, .int (pL_law_J572s0 u13 yq)), (15, .int (pL_law_E585 u13 yq))] → W p l e room_1 s m #[Value.ref b] below meth c H locs 600000 7302250 (lw_Z below #[Value.ref b] s) (F0 m 634 ls [.int u27_0, .int ((pX2_take u12 yt).1)]) := by
                intro u27_0 e0 hh H locs ls hP hD hS hl
                subst e0
                refine lv_icmp_eq (tgt := 639) hx hb dL_law_634 (by decide) (fun c_27 => ?_) (fun c_27 => ?_)
                · refine lv_goto (tgt := 867) hx hb dL_law_639 (by decide) ?_
                  exact j_867 u8 u9 u10 _ ((pX2_take u12 yt).2) (pR yq 1 u13 (-1)) yk (hE.trans (show pL_law_K417 (pL_law_L101 L xs n) u8 u9 u10 u11 u12 u13 yt yq yk = pL_law_K867 (pL_law_L101 L xs n) u8 u9 u10 ((pX2_take u12 yt).2) (pR yq 1 u13 (-1)) yk by rw [pL_law_K417, if_neg c_7, if_pos c_8, if_pos c_27])) (by exact HQ.pp (k_0.mono (by omega))) (by rw [pR_or (by decide)]; exact k_1) (by omega) (by omega) (by first | rfl | assumption) _ _ _ hP hD hS (lv_sub hl [0, 1, 2, 3, 4, 5, 6, 7, 8, 9, 10] rfl)
                · refine lv_iconst (v := 0) hx hb dL_law_637 (by decide) ?_
                  exact (hKR (hE.trans (show pL_law_K417 (pL_law_L101 L xs n) u8 u9 u10 u11 u12 u13 yt yq yk = 0 by rw [pL_law_K417, if_neg c_7, if_pos c_8, if_neg c_27]))).elim
              refine lv_if_eq (tgt := 633) hx hb dL_law_625 (by decide) (fun c_26 => ?_) (fun c_26 => ?_)
              · refine lv_iconst (v := (-1)) hx hb dL_law_633 (by decide) ?_
                exact j_27 (-1) (by rw [pL_law_J634s0, if_pos c_26]) _ _ _ _ hP hD hS (lv_sub hl [0, 1, 2, 3, 4, 5, 6, 7, 8, 9, 10, 11, 12, 13, 14, 15] rfl)
              · refine lv_iload hx hb dL_law_628 (lv_at hl 15 rfl) ?_
                refine lv_goto (tgt := 634) hx hb dL_law_630 (by decide) ?_
                exact j_27 (pL_law_E585 u13 yq) (by rw [pL_law_J634s0, if_neg c_26]) _ _ _ _ hP hD hS (lv_sub hl [0, 1, 2, 3, 4, 5, 6, 7, 8, 9, 10, 11, 12, 13, 14, 15] rfl)
            refine lv_if_lt (tgt := 571) hx hb dL_law_564 (by decide) (fun c_23 => ?_) (fun c_23 => ?_)
            · have t_23 := i_lt (z := (Int32.toInt (yq.2 1 (ix u13)))) (w := (0)) c_23 rfl (by decide)
              refine lv_iconst (v := 0) hx hb dL_law_571 (by decide) ?_
              exact j_24 0 (by rw [pL_law_J572s0, if_pos c_23]) _ _ _ _ hP hD hS (lv_sub hl [0, 1, 2, 3, 4, 5, 6, 7, 8, 9, 10, 11, 12, 13] rfl)
            · have t_23 := i_nlt (z := (Int32.toInt (yq.2 1 (ix u13)))) (w := (0)) c_23 rfl (by decide)
              refine lv_iconst (v := 1) hx hb dL_law_567 (by decide) ?_
              refine lv_goto (tgt := 572) hx hb dL_law_568 (by decide) ?_
              exact j_24 1 (by rw [pL_law_J572s0, if_neg c_23]) _ _ _ _ hP hD hS (lv_sub hl [0, 1, 2, 3, 4, 5, 6, 7, 8, 9, 10, 11, 12, 13] rfl)
        · refine lv_aload_n hx hb dL_law_423 rfl (lv_at hl 3 rfl) ?_
          refine lv_iload hx hb dL_law_424 (lv_at hl 13 rfl) ?_
          refine la_ld1 (v := yq.2 1 (ix u13)) hx hb hK hP 1 rfl (by rw [k_4]; exact e5_in (n := 12) (vp_in_iff.mpr ⟨by omega, by omega⟩)) rfl dL_law_426 ?_
          have j_28 : ∀ (u28_0 : Int32), u28_0 = (pL_law_J435s0 u13 yq) → ∀ (hh : Nat → Ad), ∀ (H : Heap) (locs : List Loc) (ls : Array Slot), va_P G vwCl (wL cI cC cZ cR ho hh hp h h2 yt yq yk) H → va_D (AL s) (wL cI cC cZ cR ho hh hp h h2 yt yq yk) → va_S (AL s) s.heap H locs → lv_has ls 18 [(0, .ref b), (1, .ref (ho 0)), (2, .ref (h 1)), (3, .ref (h 2)), (4, .ref (h 3)), (5, .ref (h2 1)), (6, .ref (h2 2)), (7, .ref (h2 3)), (8, .int u8), (9, .int u9), (10, .int u10), (11, .int u11), (12, .int u12), (13, .int u13)] → W p l e room_1 s m #[Value.ref b] below meth c H locs 600000 7302250 (lw_Z below #[Value.ref b] s) (F0 m 435 ls [.int u28_0]) := by
            intro u28_0 e0 hh H locs ls hP hD hS hl
            subst e0
            refine lv_istore (lv' := [(14, .int (pL_law_J435s0 u13 yq)), (0, .ref b), (1, .ref (ho 0)), (2, .ref (h 1)), (3, .ref (h 2)), (4, .ref (h 3)), (5, .ref (h2 1)), (6, .ref (h2 2)), (7, .ref (h2 3)), (8, .int u8), (9, .int u9), (10, .int u10), (11, .int u11), (12, .int u12), (13, .int u13)]) hx hb dL_law_435 hl (by decide) rfl (fun ls hl => ?_)
            refine lv_iload hx hb dL_law_437 (lv_at hl 0 rfl) ?_
            have j_29 : ∀ (u29_0 : Int32), u29_0 = (pL_law_J456s0 u13 yq) → ∀ (hh : Nat → Ad), ∀ (H : Heap) (locs : List Loc) (ls : Array Slot), va_P G vwCl (wL cI cC cZ cR ho hh hp h h2 yt yq yk) H → va_D (AL s) (wL cI cC cZ cR ho hh hp h h2 yt yq yk) → va_S (AL s) s.heap H locs → lv_has ls 18 [(14, .int (pL_law_J435s0 u13 yq)), (0, .ref b), (1, .ref (ho 0)), (2, .ref (h 1)), (3, .ref (h 2)), (4, .ref (h 3)), (5, .ref (h2 1)), (6, .ref (h2 2)), (7, .ref (h2 3)), (8, .int u8), (9, .int u9), (10, .int u10), (11, .int u11), (12, .int u12), (13, .int u13)] → W p l e room_1 s m #[Value.ref b] below meth c H locs 600000 7302250 (lw_Z below #[Value.ref b] s) (F0 m 456 ls [.int u29_0]) := by
              intro u29_0 e0 hh H locs ls hP hD hS hl
              subst e0
              refine lv_istore (lv' := [(15, .int (pL_law_J456s0 u13 yq)), (14, .int (pL_law_J435s0 u13 yq)), (0, .ref b), (1, .ref (ho 0)), (2, .ref (h 1)), (3, .ref (h 2)), (4, .ref (h 3)), (5, .ref (h2 1)), (6, .ref (h2 2)), (7, .ref (h2 3)), (8, .int u8), (9, .int u9), (10, .int u10), (11, .int u11), (12, .int u12), (13, .int u13)]) hx hb dL_law_456 hl (by decide) rfl (fun ls hl => ?_)
              refine lv_iconst (v := 0) hx hb dL_law_458 (by decide) ?_
              refine lv_istore (lv' := [(16, .int 0), (15, .int (pL_law_J456s0 u13 yq)), (14, .int (pL_law_J435s0 u13 yq)), (0, .ref b), (1, .ref (ho 0)), (2, .ref (h 1)), (3, .ref (h 2)), (4, .ref (h 3)), (5, .ref (h2 1)), (6, .ref (h2 2)), (7, .ref (h2 3)), (8, .int u8), (9, .int u9), (10, .int u10), (11, .int u11), (12, .int u12), (13, .int u13)]) hx hb dL_law_459 hl (by decide) rfl (fun ls hl => ?_)
              refine lv_iload hx hb dL_law_461 (lv_at hl 1 rfl) ?_
              have j_30 : ∀ (u30_0 : SR), u30_0 = (pL_law_J473xq u13 yq) → ∀ (hh : Nat → Ad), ∀ (H : Heap) (locs : List Loc) (ls : Array Slot), va_P G vwCl (wL cI cC cZ cR ho hh hp h h2 yt u30_0 yk) H → va_D (AL s) (wL cI cC cZ cR ho hh hp h h2 yt u30_0 yk) → va_S (AL s) s.heap H locs → lv_has ls 18 [(16, .int 0), (15, .int (pL_law_J456s0 u13 yq)), (14, .int (pL_law_J435s0 u13 yq)), (0, .ref b), (1, .ref (ho 0)), (2, .ref (h 1)), (3, .ref (h 2)), (4, .ref (h 3)), (5, .ref (h2 1)), (6, .ref (h2 2)), (7, .ref (h2 3)), (8, .int u8), (9, .int u9), (10, .int u10), (11, .int u11), (12, .int u12), (13, .int u13)] → W p l e room_1 s m #[Value.ref b] below meth c H locs 600000 7302250 (lw_Z below #[Value.ref b] s) (F0 m 473 ls []) := by
                intro u30_0 e0 hh H locs ls hP hD hS hl
                subst e0
                refine lv_iconst (v := 0) hx hb dL_law_473 (by decide) ?_
                refine lv_istore (lv' := [(17, .int 0), (16, .int 0), (15, .int (pL_law_J456s0 u13 yq)), (14, .int (pL_law_J435s0 u13 yq)), (0, .ref b), (1, .ref (ho 0)), (2, .ref (h 1)), (3, .ref (h 2)), (4, .ref (h 3)), (5, .ref (h2 1)), (6, .ref (h2 2)), (7, .ref (h2 3)), (8, .int u8), (9, .int u9), (10, .int u10), (11, .int u11), (12, .int u12), (13, .int u13)]) hx hb dL_law_474 hl (by decide) rfl (fun ls hl => ?_)
                refine lp_476 u8 u9 u10 u11 u12 u13 (pL_law_J435s0 u13 yq) (pL_law_J456s0 u13 yq) 13 0 0 hh yt (pL_law_J473xq u13 yq) yk (by first | decide | omega | assumption) (by first | decide | omega | assumption) (by decide) (fun t et hh H locs ls hP hD hS hl => ?_) _ _ _ hP hD hS (lv_sub hl [4, 5, 6, 7, 8, 9, 10, 11, 12, 13, 14, 15, 16, 17, 3, 2, 1, 0] rfl)
                have et2 : t = (pL_law_E476 u13 yq) := et
                clear et
                subst et2
                refine lv_aload_n hx hb dL_law_519 rfl (lv_at hl 1 rfl) ?_
                refine lv_iload hx hb dL_law_520 (lv_at hl 12 rfl) ?_
                refine gL_x wL_X (fun _ => wL_X) hP hD hS hA (lr_V (As := [.int u12]) (rest := []) ⟨hx, hb, hml, hown, hts⟩ (ctX2_cover l G cI cC cZ cR ho hh hp yt u12) (cwV 1 hts gL_law_X2_cover rfl rfl rfl (by decide +kernel) ⟨Nat.le_of_ble_eq_true rfl, Nat.le_of_ble_eq_true rfl⟩) (tx_recv hK (xL hP)) hK (xL hP) (xLD hD) hN rfl hl.1 rfl (Nat.le_of_ble_eq_true rfl) dL_law_522 (Nat.le_of_ble_eq_true rfl) (Nat.le_of_ble_eq_true rfl)) (fun hh H locs hP hD hS => ?_)
                refine lv_iload hx hb dL_law_525 (lv_at hl 15 rfl) ?_
                have j_33 : ∀ (u33_0 : Int32), u33_0 = (pL_law_J546s0 u13 yq) → ∀ (hh : Nat → Ad), ∀ (H : Heap) (locs : List Loc) (ls : Array Slot), va_P G vwCl (wL cI cC cZ cR ho hh hp h h2 ((pX2_cover u12 yt).2) (pL_law_J473xq u13 yq) yk) H → va_D (AL s) (wL cI cC cZ cR ho hh hp h h2 ((pX2_cover u12 yt).2) (pL_law_J473xq u13 yq) yk) → va_S (AL s) s.heap H locs → lv_has ls 18 [(0, .ref b), (1, .ref (ho 0)), (2, .ref (h 1)), (3, .ref (h 2)), (4, .ref (h 3)), (5, .ref (h2 1)), (6, .ref (h2 2)), (7, .ref (h2 3)), (8, .int u8), (9, .int u9), (10, .int u10), (11, .int u11), (12, .int u12), (13, .int u13), (14, .int (pL_law_J435s0 u13 yq)), (15, .int (pL_law_J456s0 u13 yq)), (16, .int (pL_law_E476 u13 yq))] → W p l e room_1 s m #[Value.ref b] below meth c H locs 600000 7302250 (lw_Z below #[Value.ref b] s) (F0 m 546 ls [.int u33_0, .int ((pX2_cover u12 yt).1)]) := by
                  intro u33_0 e0 hh H locs ls hP hD hS hl
                  subst e0
                  refine lv_icmp_eq (tgt := 551) hx hb dL_law_546 (by decide) (fun c_37 => ?_) (fun c_37 => ?_)
                  · refine lv_goto (tgt := 867) hx hb dL_law_551 (by decide) ?_
                    exact j_867 u8 u9 u10 _ ((pX2_cover u12 yt).2) (pL_law_J473xq u13 yq) yk (hE.trans (show pL_law_K417 (pL_law_L101 L xs n) u8 u9 u10 u11 u12 u13 yt yq yk = pL_law_K867 (pL_law_L101 L xs n) u8 u9 u10 ((pX2_cover u12 yt).2) (pL_law_J473xq u13 yq) yk by rw [pL_law_K417, if_pos c_7, if_pos c_37])) (by exact HQ_J473 (k_0.mono (by omega))) (by rw [q0_J473]; exact k_1) (by omega) (by omega) (by first | rfl | assumption) _ _ _ hP hD hS (lv_sub hl [0, 1, 2, 3, 4, 5, 6, 7, 8, 9, 10] rfl)
                  · refine lv_iconst (v := 0) hx hb dL_law_549 (by decide) ?_
                    exact (hKR (hE.trans (show pL_law_K417 (pL_law_L101 L xs n) u8 u9 u10 u11 u12 u13 yt yq yk = 0 by rw [pL_law_K417, if_pos c_7, if_neg c_37]))).elim
                refine lv_if_eq (tgt := 535) hx hb dL_law_527 (by decide) (fun c_35 => ?_) (fun c_35 => ?_)
                · refine lv_iload hx hb dL_law_535 (lv_at hl 14 rfl) ?_
                  refine lv_if_eq (tgt := 545) hx hb dL_law_537 (by decide) (fun c_36 => ?_) (fun c_36 => ?_)
                  · refine lv_iconst (v := (-1)) hx hb dL_law_545 (by decide) ?_
                    exact j_33 (-1) (by rw [pL_law_J546s0, if_pos c_35, if_pos c_36]) _ _ _ _ hP hD hS (lv_sub hl [0, 1, 2, 3, 4, 5, 6, 7, 8, 9, 10, 11, 12, 13, 14, 15, 16] rfl)
                  · refine lv_bipush (v := (-5)) hx hb dL_law_540 (by decide) ?_
                    refine lv_goto (tgt := 546) hx hb dL_law_542 (by decide) ?_
                    exact j_33 (-5) (by rw [pL_law_J546s0, if_pos c_35, if_neg c_36]) _ _ _ _ hP hD hS (lv_sub hl [0, 1, 2, 3, 4, 5, 6, 7, 8, 9, 10, 11, 12, 13, 14, 15, 16] rfl)
                · refine lv_iload hx hb dL_law_530 (lv_at hl 16 rfl) ?_
                  refine lv_goto (tgt := 546) hx hb dL_law_532 (by decide) ?_
                  exact j_33 (pL_law_E476 u13 yq) (by rw [pL_law_J546s0, if_neg c_35]) _ _ _ _ hP hD hS (lv_sub hl [0, 1, 2, 3, 4, 5, 6, 7, 8, 9, 10, 11, 12, 13, 14, 15, 16] rfl)
              refine lv_if_eq (tgt := 473) hx hb dL_law_463 (by decide) (fun c_31 => ?_) (fun c_31 => ?_)
              · skip
                exact j_30 yq (by rw [pL_law_J473xq, if_pos c_31]) _ _ _ _ hP hD hS (lv_sub hl [0, 1, 2, 3, 4, 5, 6, 7, 8, 9, 10, 11, 12, 13, 14, 15, 16] rfl)
              · refine lv_aload_n hx hb dL_law_466 rfl (lv_at hl 6 rfl) ?_
                refine lv_iload hx hb dL_law_467 (lv_at hl 16 rfl) ?_
                refine lv_iconst (v := 2) hx hb dL_law_469 (by decide) ?_
                refine lv_iadd hx hb dL_law_470 ?_
                refine lv_iconst (v := 1) hx hb dL_law_471 (by decide) ?_
                refine la_st1 hx hb hK hP hD hS 1 rfl (by rw [k_4]; exact e5_add (n := 12) (vp_in_iff.mpr ⟨by omega, by omega⟩) (vp_in_iff.mpr ⟨by decide, by decide⟩)) dL_law_472 (fun H locs hP hD hS => ?_)
                exact j_30 (pR yq 1 (u13 + 2) 1) (by rw [pL_law_J473xq, if_neg c_31]) _ _ _ _ hP hD hS (lv_sub hl [0, 1, 2, 3, 4, 5, 6, 7, 8, 9, 10, 11, 12, 13, 14, 15, 16] rfl)
            refine lv_if_eq (tgt := 455) hx hb dL_law_439 (by decide) (fun c_29 => ?_) (fun c_29 => ?_)
            · refine lv_iconst (v := 0) hx hb dL_law_455 (by decide) ?_
              exact j_29 0 (by rw [pL_law_J456s0, if_pos c_29]) _ _ _ _ hP hD hS (lv_sub hl [0, 1, 2, 3, 4, 5, 6, 7, 8, 9, 10, 11, 12, 13, 14] rfl)
            · refine lv_aload_n hx hb dL_law_442 rfl (lv_at hl 4 rfl) ?_
              refine lv_iload hx hb dL_law_443 (lv_at hl 14 rfl) ?_
              refine lv_iconst (v := 2) hx hb dL_law_445 (by decide) ?_
              refine lv_iadd hx hb dL_law_446 ?_
              refine la_ld1 (v := yq.2 1 (ix (u13 + 2))) hx hb hK hP 1 rfl (by rw [k_4]; exact e5_add (n := 12) (vp_in_iff.mpr ⟨by omega, by omega⟩) (vp_in_iff.mpr ⟨by decide, by decide⟩)) rfl dL_law_447 ?_
              refine lv_if_ne (tgt := 455) hx hb dL_law_448 (by decide) (fun c_30 => ?_) (fun c_30 => ?_)
              · refine lv_iconst (v := 0) hx hb dL_law_455 (by decide) ?_
                exact j_29 0 (by rw [pL_law_J456s0, if_neg c_29, if_neg c_30]) _ _ _ _ hP hD hS (lv_sub hl [0, 1, 2, 3, 4, 5, 6, 7, 8, 9, 10, 11, 12, 13, 14] rfl)
              · refine lv_iconst (v := 1) hx hb dL_law_451 (by decide) ?_
                refine lv_goto (tgt := 456) hx hb dL_law_452 (by decide) ?_
                exact j_29 1 (by rw [pL_law_J456s0, if_neg c_29, if_pos c_30]) _ _ _ _ hP hD hS (lv_sub hl [0, 1, 2, 3, 4, 5, 6, 7, 8, 9, 10, 11, 12, 13, 14] rfl)
          refine lv_if_lt (tgt := 434) hx hb dL_law_427 (by decide) (fun c_28 => ?_) (fun c_28 => ?_)
          · have t_28 := i_lt (z := (Int32.toInt (yq.2 1 (ix u13)))) (w := (0)) c_28 rfl (by decide)
            refine lv_iconst (v := 0) hx hb dL_law_434 (by decide) ?_
            exact j_28 0 (by rw [pL_law_J435s0, if_pos c_28]) _ _ _ _ hP hD hS (lv_sub hl [0, 1, 2, 3, 4, 5, 6, 7, 8, 9, 10, 11, 12, 13] rfl)
          · have t_28 := i_nlt (z := (Int32.toInt (yq.2 1 (ix u13)))) (w := (0)) c_28 rfl (by decide)
            refine lv_iconst (v := 1) hx hb dL_law_430 (by decide) ?_
            refine lv_goto (tgt := 435) hx hb dL_law_431 (by decide) ?_
            exact j_28 1 (by rw [pL_law_J435s0, if_neg c_28]) _ _ _ _ hP hD hS (lv_sub hl [0, 1, 2, 3, 4, 5, 6, 7, 8, 9, 10, 11, 12, 13] rfl)
      refine lv_iload hx hb dL_law_101 (lv_at hl 8 rfl) ?_
      refine lv_bipush (v := 28) hx hb dL_law_103 (by decide) ?_
      refine lv_icmp_ge (tgt := 919) hx hb dL_law_105 (by decide) (fun c_2 => ?_) (fun c_2 => ?_)
      · have t_2 := i_le (z := (28)) (w := (Int32.toInt v8)) c_2 (by decide) rfl
        exact hKK 1 (show pL_law_L101 L xs (n + 1) v8 zt zq zk = 1 by rw [pL_law_L101, if_pos c_2]).symm rfl _ _ _ _ _ _ _ hP hD hS (lv_sub hl [0, 1, 2, 3, 4, 5, 6, 7] rfl)
      · have t_2 := i_nle (z := (28)) (w := (Int32.toInt v8)) c_2 (by decide) rfl
        refine lv_aload_n hx hb dL_law_108 rfl (lv_at hl 0 rfl) ?_
        refine lv_iconst (v := 2) hx hb dL_law_109 (by decide) ?_
        refine lv_iload hx hb dL_law_110 (lv_at hl 8 rfl) ?_
        refine lv_imul hx hb dL_law_112 ?_
        refine gL_n hP hD hS hA (lr_SP hT hS hA (As := [.ref b, .int (2 * v8)]) (rest := []) ⟨hx, hb, hml, hown, hts⟩ (ctL_cell l G cI cC cZ cR b L xs (2 * v8) (by rw [m2_v g_2 (by omega)]; omega) (by exact hL)) (va_cwS 2 hts gL_law_L_cell rfl rfl rfl (by decide +kernel) ⟨Nat.le_of_ble_eq_true rfl, Nat.le_of_ble_eq_true rfl⟩) hK hN rfl hl.1 rfl (Nat.le_of_ble_eq_true rfl) dL_law_113 (Nat.le_of_ble_eq_true rfl) (Nat.le_of_ble_eq_true rfl)) (fun H locs hP hD hS => ?_)
        refine lv_istore (lv' := [(9, .int (pL_cell L xs (2 * v8))), (0, .ref b), (1, .ref (ho 0)), (2, .ref (h 1)), (3, .ref (h 2)), (4, .ref (h 3)), (5, .ref (h2 1)), (6, .ref (h2 2)), (7, .ref (h2 3)), (8, .int v8)]) hx hb dL_law_116 hl (by decide) rfl (fun ls hl => ?_)
        refine lv_aload_n hx hb dL_law_118 rfl (lv_at hl 1 rfl) ?_
        refine lv_iconst (v := 2) hx hb dL_law_119 (by decide) ?_
        refine lv_iload hx hb dL_law_120 (lv_at hl 9 rfl) ?_
        refine lv_imul hx hb dL_law_122 ?_
        refine lv_iconst (v := 1) hx hb dL_law_123 (by decide) ?_
        refine lv_iadd hx hb dL_law_124 ?_
        refine gL_n hP hD hS hA (lr_SP hT hS hA (As := [.ref b, .int ((2 * v8) + 1)]) (rest := []) ⟨hx, hb, hml, hown, hts⟩ (ctL_cell l G cI cC cZ cR b L xs ((2 * v8) + 1) (by rw [m3_v g_2 (by omega)]; omega) (by exact hL)) (va_cwS 2 hts gL_law_L_cell rfl rfl rfl (by decide +kernel) ⟨Nat.le_of_ble_eq_true rfl, Nat.le_of_ble_eq_true rfl⟩) hK hN rfl hl.1 rfl (Nat.le_of_ble_eq_true rfl) dL_law_125 (Nat.le_of_ble_eq_true rfl) (Nat.le_of_ble_eq_true rfl)) (fun H locs hP hD hS => ?_)
        refine lv_istore (lv' := [(10, .int (pL_cell L xs ((2 * v8) + 1))), (9, .int (pL_cell L xs (2 * v8))), (0, .ref b), (1, .ref (ho 0)), (2, .ref (h 1)), (3, .ref (h 2)), (4, .ref (h 3)), (5, .ref (h2 1)), (6, .ref (h2 2)), (7, .ref (h2 3)), (8, .int v8)]) hx hb dL_law_128 hl (by decide) rfl (fun ls hl => ?_)
        refine lv_iload hx hb dL_law_130 (lv_at hl 10 rfl) ?_
        refine lv_bipush (v := 6) hx hb dL_law_132 (by decide) ?_
        have j_21 : ∀ (u21_0 : Int32), u21_0 = (pL_law_J151s0 L xs v8) → ∀ (hh : Nat → Ad), ∀ (H : Heap) (locs : List Loc) (ls : Array Slot), va_P G vwCl (wL cI cC cZ cR ho hh hp h h2 zt zq zk) H → va_D (AL s) (wL cI cC cZ cR ho hh hp h h2 zt zq zk) → va_S (AL s) s.heap H locs → lv_has ls 18 [(10, .int (pL_cell L xs ((2 * v8) + 1))), (9, .int (pL_cell L xs (2 * v8))), (0, .ref b), (1, .ref (ho 0)), (2, .ref (h 1)), (3, .ref (h 2)), (4, .ref (h 3)), (5, .ref (h2 1)), (6, .ref (h2 2)), (7, .ref (h2 3)), (8, .int v8)] → W p l e room_1 s m #[Value.ref b] below meth c H locs 600000 7302250 (lw_Z below #[Value.ref b] s) (F0 m 151 ls [.int u21_0]) := by
          intro u21_0 e0 hh H locs ls hP hD hS hl
          subst e0
          refine lv_istore (lv' := [(11, .int (pL_law_J151s0 L xs v8)), (10, .int (pL_cell L xs ((2 * v8) + 1))), (9, .int (pL_cell L xs (2 * v8))), (0, .ref b), (1, .ref (ho 0)), (2, .ref (h 1)), (3, .ref (h 2)), (4, .ref (h 3)), (5, .ref (h2 1)), (6, .ref (h2 2)), (7, .ref (h2 3)), (8, .int v8)]) hx hb dL_law_151 hl (by decide) rfl (fun ls hl => ?_)
          refine lv_iload hx hb dL_law_153 (lv_at hl 2 rfl) ?_
          refine lv_iconst (v := 4) hx hb dL_law_155 (by decide) ?_
          refine lv_ishr hx hb dL_law_156 ?_
          refine lv_bipush (v := 12) hx hb dL_law_157 (by decide) ?_
          refine gL_n hP hD hS hA (lr_S (As := [.int ((pL_cell L xs (2 * v8)) >>> ((4 : Int32) &&& 31)), .int 12]) (rest := []) ⟨hx, hb, hml, hown, hts⟩ (ctL_low l G cI cC cZ cR ((pL_cell L xs (2 * v8)) >>> ((4 : Int32) &&& 31)) 12 (by decide)) (va_cwS 2 hts gL_law_L_low rfl rfl rfl (by decide +kernel) ⟨Nat.le_of_ble_eq_true rfl, Nat.le_of_ble_eq_true rfl⟩) hK nilP (nilD (A := AL s)) hN rfl hl.1 rfl (Nat.le_of_ble_eq_true rfl) dL_law_159 (Nat.le_of_ble_eq_true rfl) (Nat.le_of_ble_eq_true rfl)) (fun H locs hP hD hS => ?_)
          refine lv_istore (lv' := [(12, .int (pL_low ((pL_cell L xs (2 * v8)) >>> ((4 : Int32) &&& 31)) 12)), (11, .int (pL_law_J151s0 L xs v8)), (10, .int (pL_cell L xs ((2 * v8) + 1))), (9, .int (pL_cell L xs (2 * v8))), (0, .ref b), (1, .ref (ho 0)), (2, .ref (h 1)), (3, .ref (h 2)), (4, .ref (h 3)), (5, .ref (h2 1)), (6, .ref (h2 2)), (7, .ref (h2 3)), (8, .int v8)]) hx hb dL_law_162 hl (by decide) rfl (fun ls hl => ?_)
          have hpl := lo12_in (a := ((pL_cell L xs (2 * v8)) >>> ((4 : Int32) &&& 31)))
          refine lv_iconst (v := 5) hx hb dL_law_164 (by decide) ?_
          refine lv_iload hx hb dL_law_165 (lv_at hl 0 rfl) ?_
          refine lv_imul hx hb dL_law_167 ?_
          refine lv_istore (lv' := [(13, .int (5 * (pL_low ((pL_cell L xs (2 * v8)) >>> ((4 : Int32) &&& 31)) 12))), (12, .int (pL_low ((pL_cell L xs (2 * v8)) >>> ((4 : Int32) &&& 31)) 12)), (11, .int (pL_law_J151s0 L xs v8)), (10, .int (pL_cell L xs ((2 * v8) + 1))), (9, .int (pL_cell L xs (2 * v8))), (0, .ref b), (1, .ref (ho 0)), (2, .ref (h 1)), (3, .ref (h 2)), (4, .ref (h 3)), (5, .ref (h2 1)), (6, .ref (h2 2)), (7, .ref (h2 3)), (8, .int v8)]) hx hb dL_law_168 hl (by decide) rfl (fun ls hl => ?_)
          refine lv_iload hx hb dL_law_170 (lv_at hl 2 rfl) ?_
          refine lv_if_ne (tgt := 311) hx hb dL_law_172 (by decide) (fun c_4 => ?_) (fun c_4 => ?_)
          · refine lv_iload hx hb dL_law_311 (lv_at hl 2 rfl) ?_
            refine lv_iconst (v := 1) hx hb dL_law_313 (by decide) ?_
            refine lv_icmp_ne (tgt := 372) hx hb dL_law_314 (by decide) (fun c_5 => ?_) (fun c_5 => ?_)
            · refine lv_iload hx hb dL_law_372 (lv_at hl 2 rfl) ?_
              refine lv_iconst (v := 2) hx hb dL_law_374 (by decide) ?_
              refine lv_icmp_ne (tgt := 417) hx hb dL_law_375 (by decide) (fun c_6 => ?_) (fun c_6 => ?_)
              · exact j_417 v8 (pL_cell L xs (2 * v8)) (pL_cell L xs ((2 * v8) + 1)) (pL_law_J151s0 L xs v8) (pL_low ((pL_cell L xs (2 * v8)) >>> ((4 : Int32) &&& 31)) 12) (5 * (pL_low ((pL_cell L xs (2 * v8)) >>> ((4 : Int32) &&& 31)) 12)) _ zt zq zk (show pL_law_L101 L xs (n + 1) v8 zt zq zk = pL_law_K417 (pL_law_L101 L xs n) v8 (pL_cell L xs (2 * v8)) (pL_cell L xs ((2 * v8) + 1)) (pL_law_J151s0 L xs v8) (pL_low ((pL_cell L xs (2 * v8)) >>> ((4 : Int32) &&& 31)) 12) (5 * (pL_low ((pL_cell L xs (2 * v8)) >>> ((4 : Int32) &&& 31)) 12)) zt zq zk by rw [pL_law_L101, if_neg c_2, if_neg c_4, if_neg c_5, if_neg c_6]) (by exact g_0) (by exact g_1) (by omega) (by omega) (by rfl) (by exact hpl.1) (by exact hpl.2) (by rfl) _ _ _ hP hD hS (lv_sub hl [5, 6, 7, 8, 9, 10, 11, 12, 13, 4, 3, 2, 1, 0] rfl)
              · refine lv_aload_n hx hb dL_law_378 rfl (lv_at hl 7 rfl) ?_
                refine lv_bipush (v := 11) hx hb dL_law_379 (by decide) ?_
                refine la_ld1 (v := zq.2 0 (ix 11)) hx hb hK hP 0 rfl (vp_in_iff.mpr ⟨by decide, by decide⟩) rfl dL_law_381 ?_
                refine lv_iconst (v := 4) hx hb dL_law_382 (by decide) ?_
                refine lv_icmp_ge (tgt := 417) hx hb dL_law_383 (by decide) (fun c_38 => ?_) (fun c_38 => ?_)
                · have t_38 := i_le (z := (4)) (w := (Int32.toInt (zq.2 0 (ix 11)))) c_38 (by decide) rfl
                  exact j_417 v8 (pL_cell L xs (2 * v8)) (pL_cell L xs ((2 * v8) + 1)) (pL_law_J151s0 L xs v8) (pL_low ((pL_cell L xs (2 * v8)) >>> ((4 : Int32) &&& 31)) 12) (5 * (pL_low ((pL_cell L xs (2 * v8)) >>> ((4 : Int32) &&& 31)) 12)) _ zt zq zk (show pL_law_L101 L xs (n + 1) v8 zt zq zk = pL_law_K417 (pL_law_L101 L xs n) v8 (pL_cell L xs (2 * v8)) (pL_cell L xs ((2 * v8) + 1)) (pL_law_J151s0 L xs v8) (pL_low ((pL_cell L xs (2 * v8)) >>> ((4 : Int32) &&& 31)) 12) (5 * (pL_low ((pL_cell L xs (2 * v8)) >>> ((4 : Int32) &&& 31)) 12)) zt zq zk by rw [pL_law_L101, if_neg c_2, if_neg c_4, if_neg c_5, if_pos c_6, if_pos c_38]) (by exact g_0) (by exact g_1) (by omega) (by omega) (by rfl) (by exact hpl.1) (by exact hpl.2) (by rfl) _ _ _ hP hD hS (lv_sub hl [5, 6, 7, 8, 9, 10, 11, 12, 13, 4, 3, 2, 1, 0] rfl)
                · have t_38 := i_nle (z := (4)) (w := (Int32.toInt (zq.2 0 (ix 11)))) c_38 (by decide) rfl
                  refine lv_aload hx hb dL_law_386 (lv_at hl 9 rfl) ?_
                  refine lv_iconst (v := 5) hx hb dL_law_388 (by decide) ?_
                  refine lv_aload_n hx hb dL_law_389 rfl (lv_at hl 7 rfl) ?_
                  refine lv_bipush (v := 11) hx hb dL_law_390 (by decide) ?_
                  refine la_ld1 (v := zq.2 0 (ix 11)) hx hb hK hP 0 rfl (vp_in_iff.mpr ⟨by decide, by decide⟩) rfl dL_law_392 ?_
                  refine lv_imul hx hb dL_law_393 ?_
                  refine lv_iload hx hb dL_law_394 (lv_at hl 1 rfl) ?_
                  refine la_st1 hx hb hK hP hD hS 2 rfl (e5_in (n := 5) (by first | with_reducible assumption | exact vp_in_iff.mpr ⟨by decide, by decide⟩ | exact vp_in_iff.mpr ⟨by omega, by omega⟩)) dL_law_396 (fun H locs hP hD hS => ?_)
                  refine lv_aload_n hx hb dL_law_397 rfl (lv_at hl 6 rfl) ?_
                  refine lv_iload hx hb dL_law_398 (lv_at hl 1 rfl) ?_
                  refine gL_x wL_X (fun _ => wL_X) hP hD hS hA (lr_V (As := [.int (pL_low ((pL_cell L xs (2 * v8)) >>> ((4 : Int32) &&& 31)) 12)]) (rest := []) ⟨hx, hb, hml, hown, hts⟩ (ctX2_keeper l G cI cC cZ cR ho hh hp zt (pL_low ((pL_cell L xs (2 * v8)) >>> ((4 : Int32) &&& 31)) 12)) (cwV 1 hts gL_law_X2_keeper rfl rfl rfl (by decide +kernel) ⟨Nat.le_of_ble_eq_true rfl, Nat.le_of_ble_eq_true rfl⟩) (tx_recv hK (xL hP)) hK (xL hP) (xLD hD) hN rfl hl.1 rfl (Nat.le_of_ble_eq_true rfl) dL_law_400 (Nat.le_of_ble_eq_true rfl) (Nat.le_of_ble_eq_true rfl)) (fun hh H locs hP hD hS => ?_)
                  refine lv_aload_n hx hb dL_law_403 rfl (lv_at hl 7 rfl) ?_
                  refine lv_bipush (v := 11) hx hb dL_law_404 (by decide) ?_
                  refine lv_dup2_11 hx hb dL_law_406 rfl rfl ?_
                  refine la_ld1 (v := zq.2 0 (ix 11)) hx hb hK hP 0 rfl (vp_in_iff.mpr ⟨by decide, by decide⟩) (congrFun (pR_or (show (0 : Nat) ≠ 2 by decide)) _) dL_law_407 ?_
                  refine lv_dup_x2 hx hb dL_law_408 rfl rfl rfl ?_
                  refine lv_iconst (v := 1) hx hb dL_law_409 (by decide) ?_
                  refine lv_iadd hx hb dL_law_410 ?_
                  refine la_st1 hx hb hK hP hD hS 0 rfl (vp_in_iff.mpr ⟨by decide, by decide⟩) dL_law_411 (fun H locs hP hD hS => ?_)
                  refine lv_icmp_eq (tgt := 867) hx hb dL_law_412 (by decide) (fun c_39 => ?_) (fun c_39 => ?_)
                  · exact j_867 v8 (pL_cell L xs (2 * v8)) (pL_cell L xs ((2 * v8) + 1)) _ ((pX2_keeper (pL_low ((pL_cell L xs (2 * v8)) >>> ((4 : Int32) &&& 31)) 12) zt).2) (pR (pR zq 2 (5 * (zq.2 0 (ix 11))) (pL_low ((pL_cell L xs (2 * v8)) >>> ((4 : Int32) &&& 31)) 12)) 0 11 ((zq.2 0 (ix 11)) + 1)) zk (show pL_law_L101 L xs (n + 1) v8 zt zq zk = pL_law_K867 (pL_law_L101 L xs n) v8 (pL_cell L xs (2 * v8)) (pL_cell L xs ((2 * v8) + 1)) ((pX2_keeper (pL_low ((pL_cell L xs (2 * v8)) >>> ((4 : Int32) &&& 31)) 12) zt).2) (pR (pR zq 2 (5 * (zq.2 0 (ix 11))) (pL_low ((pL_cell L xs (2 * v8)) >>> ((4 : Int32) &&& 31)) 12)) 0 11 ((zq.2 0 (ix 11)) + 1)) zk by rw [pL_law_L101, if_neg c_2, if_neg c_4, if_neg c_5, if_pos c_6, if_neg c_38, if_pos c_39]) (by exact HQ_hire (g_0.mono (by omega)) (by omega) (by omega) (by omega)) (by exact q11_hire (by omega) (by omega)) (by omega) (by omega) (by first | rfl | assumption) _ _ _ hP hD hS (lv_sub hl [5, 6, 7, 8, 9, 10, 11, 12, 13, 4, 3] rfl)
                  · refine lv_iconst (v := 0) hx hb dL_law_415 (by decide) ?_
                    exact (hKR (show pL_law_L101 L xs (n + 1) v8 zt zq zk = 0 by rw [pL_law_L101, if_neg c_2, if_neg c_4, if_neg c_5, if_pos c_6, if_neg c_38, if_neg c_39])).elim
            · refine lv_iload hx hb dL_law_317 (lv_at hl 3 rfl) ?_
              refine lv_iconst (v := 3) hx hb dL_law_319 (by decide) ?_
              refine gL_n hP hD hS hA (lr_S (As := [.int (pL_cell L xs ((2 * v8) + 1)), .int 3]) (rest := []) ⟨hx, hb, hml, hown, hts⟩ (ctL_low l G cI cC cZ cR (pL_cell L xs ((2 * v8) + 1)) 3 (by decide)) (va_cwS 2 hts gL_law_L_low rfl rfl rfl (by decide +kernel) ⟨Nat.le_of_ble_eq_true rfl, Nat.le_of_ble_eq_true rfl⟩) hK nilP (nilD (A := AL s)) hN rfl hl.1 rfl (Nat.le_of_ble_eq_true rfl) dL_law_320 (Nat.le_of_ble_eq_true rfl) (Nat.le_of_ble_eq_true rfl)) (fun H locs hP hD hS => ?_)
              have j_34 : ∀ (u34_0 : Int32), u34_0 = (pL_law_J346s0 L xs v8) → ∀ (hh : Nat → Ad), ∀ (H : Heap) (locs : List Loc) (ls : Array Slot), va_P G vwCl (wL cI cC cZ cR ho hh hp h h2 zt zq zk) H → va_D (AL s) (wL cI cC cZ cR ho hh hp h h2 zt zq zk) → va_S (AL s) s.heap H locs → lv_has ls 18 [(13, .int (5 * (pL_low ((pL_cell L xs (2 * v8)) >>> ((4 : Int32) &&& 31)) 12))), (12, .int (pL_low ((pL_cell L xs (2 * v8)) >>> ((4 : Int32) &&& 31)) 12)), (11, .int (pL_law_J151s0 L xs v8)), (10, .int (pL_cell L xs ((2 * v8) + 1))), (9, .int (pL_cell L xs (2 * v8))), (0, .ref b), (1, .ref (ho 0)), (2, .ref (h 1)), (3, .ref (h 2)), (4, .ref (h 3)), (5, .ref (h2 1)), (6, .ref (h2 2)), (7, .ref (h2 3)), (8, .int v8)] → W p l e room_1 s m #[Value.ref b] below meth c H locs 600000 7302250 (lw_Z below #[Value.ref b] s) (F0 m 346 ls [.int u34_0]) := by
                intro u34_0 e0 hh H locs ls hP hD hS hl
                subst e0
                refine lv_istore (lv' := [(14, .int (pL_law_J346s0 L xs v8)), (13, .int (5 * (pL_low ((pL_cell L xs (2 * v8)) >>> ((4 : Int32) &&& 31)) 12))), (12, .int (pL_low ((pL_cell L xs (2 * v8)) >>> ((4 : Int32) &&& 31)) 12)), (11, .int (pL_law_J151s0 L xs v8)), (10, .int (pL_cell L xs ((2 * v8) + 1))), (9, .int (pL_cell L xs (2 * v8))), (0, .ref b), (1, .ref (ho 0)), (2, .ref (h 1)), (3, .ref (h 2)), (4, .ref (h 3)), (5, .ref (h2 1)), (6, .ref (h2 2)), (7, .ref (h2 3)), (8, .int v8)]) hx hb dL_law_346 hl (by decide) rfl (fun ls hl => ?_)
                refine lv_aload_n hx hb dL_law_348 rfl (lv_at hl 7 rfl) ?_
                refine lv_iload hx hb dL_law_349 (lv_at hl 0 rfl) ?_
                refine gL_x wL_X (fun _ => wL_X) hP hD hS hA (lr_V (As := [.int (pL_law_J346s0 L xs v8)]) (rest := []) ⟨hx, hb, hml, hown, hts⟩ (ctX2_rain l G cI cC cZ cR ho hh hp zt (pL_law_J346s0 L xs v8)) (cwV 1 hts gL_law_X2_rain rfl rfl rfl (by decide +kernel) ⟨Nat.le_of_ble_eq_true rfl, Nat.le_of_ble_eq_true rfl⟩) (tx_recv hK (xL hP)) hK (xL hP) (xLD hD) hN rfl hl.1 rfl (Nat.le_of_ble_eq_true rfl) dL_law_351 (Nat.le_of_ble_eq_true rfl) (Nat.le_of_ble_eq_true rfl)) (fun hh H locs hP hD hS => ?_)
                refine lv_aload_n hx hb dL_law_354 rfl (lv_at hl 8 rfl) ?_
                refine lv_bipush (v := 8) hx hb dL_law_355 (by decide) ?_
                refine la_ld1 (v := zq.2 0 (ix 8)) hx hb hK hP 0 rfl (vp_in_iff.mpr ⟨by decide, by decide⟩) rfl dL_law_357 ?_
                refine lv_icmp_eq (tgt := 363) hx hb dL_law_358 (by decide) (fun c_41 => ?_) (fun c_41 => ?_)
                · refine lv_aload_n hx hb dL_law_363 rfl (lv_at hl 8 rfl) ?_
                  refine lv_bipush (v := 8) hx hb dL_law_364 (by decide) ?_
                  refine lv_iload hx hb dL_law_366 (lv_at hl 0 rfl) ?_
                  refine la_st1 hx hb hK hP hD hS 0 rfl (vp_in_iff.mpr ⟨by decide, by decide⟩) dL_law_368 (fun H locs hP hD hS => ?_)
                  refine lv_goto (tgt := 867) hx hb dL_law_369 (by decide) ?_
                  exact j_867 v8 (pL_cell L xs (2 * v8)) (pL_cell L xs ((2 * v8) + 1)) _ ((pX2_rain (pL_law_J346s0 L xs v8) zt).2) (pR zq 0 8 (pL_law_J346s0 L xs v8)) zk (show pL_law_L101 L xs (n + 1) v8 zt zq zk = pL_law_K867 (pL_law_L101 L xs n) v8 (pL_cell L xs (2 * v8)) (pL_cell L xs ((2 * v8) + 1)) ((pX2_rain (pL_law_J346s0 L xs v8) zt).2) (pR zq 0 8 (pL_law_J346s0 L xs v8)) zk by rw [pL_law_L101, if_neg c_2, if_neg c_4, if_pos c_5, if_pos c_41]) (by exact HQ.q0 (g_0.mono (by omega)) (by decide) (by decide) (by decide) (by decide)) (by rw [pR_off (Or.inr (by decide))]; exact g_1) (by omega) (by omega) (by first | rfl | assumption) _ _ _ hP hD hS (lv_sub hl [6, 7, 8, 9, 10, 11, 12, 13, 14, 5, 4] rfl)
                · refine lv_iconst (v := 0) hx hb dL_law_361 (by decide) ?_
                  exact (hKR (show pL_law_L101 L xs (n + 1) v8 zt zq zk = 0 by rw [pL_law_L101, if_neg c_2, if_neg c_4, if_pos c_5, if_neg c_41])).elim
              refine lv_if_ne (tgt := 334) hx hb dL_law_323 (by decide) (fun c_40 => ?_) (fun c_40 => ?_)
              · refine lv_bipush (v := 7) hx hb dL_law_334 (by decide) ?_
                refine lv_iload hx hb dL_law_336 (lv_at hl 3 rfl) ?_
                refine lv_iconst (v := 2) hx hb dL_law_338 (by decide) ?_
                refine lv_ishr hx hb dL_law_339 ?_
                refine lv_bipush (v := 20) hx hb dL_law_340 (by decide) ?_
                refine gL_n hP hD hS hA (lr_S (As := [.int ((pL_cell L xs ((2 * v8) + 1)) >>> ((2 : Int32) &&& 31)), .int 20]) (rest := [.int 7]) ⟨hx, hb, hml, hown, hts⟩ (ctL_low l G cI cC cZ cR ((pL_cell L xs ((2 * v8) + 1)) >>> ((2 : Int32) &&& 31)) 20 (by decide)) (va_cwS 2 hts gL_law_L_low rfl rfl rfl (by decide +kernel) ⟨Nat.le_of_ble_eq_true rfl, Nat.le_of_ble_eq_true rfl⟩) hK nilP (nilD (A := AL s)) hN rfl hl.1 rfl (Nat.le_of_ble_eq_true rfl) dL_law_342 (Nat.le_of_ble_eq_true rfl) (Nat.le_of_ble_eq_true rfl)) (fun H locs hP hD hS => ?_)
                refine lv_ishl hx hb dL_law_345 ?_
                exact j_34 (7 <<< ((pL_low ((pL_cell L xs ((2 * v8) + 1)) >>> ((2 : Int32) &&& 31)) 20) &&& 31)) (by rw [pL_law_J346s0, if_neg c_40]) _ _ _ _ hP hD hS (lv_sub hl [0, 1, 2, 3, 4, 5, 6, 7, 8, 9, 10, 11, 12, 13] rfl)
              · refine lv_iload hx hb dL_law_326 (lv_at hl 3 rfl) ?_
                refine lv_ldc hx hb hown k_74 dL_law_328 ?_
                refine lv_iand hx hb dL_law_330 ?_
                refine lv_goto (tgt := 346) hx hb dL_law_331 (by decide) ?_
                exact j_34 ((pL_cell L xs ((2 * v8) + 1)) &&& 16777215) (by rw [pL_law_J346s0, if_pos c_40]) _ _ _ _ hP hD hS (lv_sub hl [0, 1, 2, 3, 4, 5, 6, 7, 8, 9, 10, 11, 12, 13] rfl)
          · refine lv_iload hx hb dL_law_175 (lv_at hl 3 rfl) ?_
            refine lv_iconst (v := 4) hx hb dL_law_177 (by decide) ?_
            refine gL_n hP hD hS hA (lr_S (As := [.int (pL_cell L xs ((2 * v8) + 1)), .int 4]) (rest := []) ⟨hx, hb, hml, hown, hts⟩ (ctL_low l G cI cC cZ cR (pL_cell L xs ((2 * v8) + 1)) 4 (by decide)) (va_cwS 2 hts gL_law_L_low rfl rfl rfl (by decide +kernel) ⟨Nat.le_of_ble_eq_true rfl, Nat.le_of_ble_eq_true rfl⟩) hK nilP (nilD (A := AL s)) hN rfl hl.1 rfl (Nat.le_of_ble_eq_true rfl) dL_law_178 (Nat.le_of_ble_eq_true rfl) (Nat.le_of_ble_eq_true rfl)) (fun H locs hP hD hS => ?_)
            have j_35 : ∀ (u35_0 : Int32), u35_0 = (pL_law_J189s0 L xs v8) → ∀ (hh : Nat → Ad), ∀ (H : Heap) (locs : List Loc) (ls : Array Slot), va_P G vwCl (wL cI cC cZ cR ho hh hp h h2 zt zq zk) H → va_D (AL s) (wL cI cC cZ cR ho hh hp h h2 zt zq zk) → va_S (AL s) s.heap H locs → lv_has ls 18 [(13, .int (5 * (pL_low ((pL_cell L xs (2 * v8)) >>> ((4 : Int32) &&& 31)) 12))), (12, .int (pL_low ((pL_cell L xs (2 * v8)) >>> ((4 : Int32) &&& 31)) 12)), (11, .int (pL_law_J151s0 L xs v8)), (10, .int (pL_cell L xs ((2 * v8) + 1))), (9, .int (pL_cell L xs (2 * v8))), (0, .ref b), (1, .ref (ho 0)), (2, .ref (h 1)), (3, .ref (h 2)), (4, .ref (h 3)), (5, .ref (h2 1)), (6, .ref (h2 2)), (7, .ref (h2 3)), (8, .int v8)] → W p l e room_1 s m #[Value.ref b] below meth c H locs 600000 7302250 (lw_Z below #[Value.ref b] s) (F0 m 189 ls [.int u35_0]) := by
              intro u35_0 e0 hh H locs ls hP hD hS hl
              subst e0
              refine lv_istore (lv' := [(14, .int (pL_law_J189s0 L xs v8)), (13, .int (5 * (pL_low ((pL_cell L xs (2 * v8)) >>> ((4 : Int32) &&& 31)) 12))), (12, .int (pL_low ((pL_cell L xs (2 * v8)) >>> ((4 : Int32) &&& 31)) 12)), (11, .int (pL_law_J151s0 L xs v8)), (10, .int (pL_cell L xs ((2 * v8) + 1))), (9, .int (pL_cell L xs (2 * v8))), (0, .ref b), (1, .ref (ho 0)), (2, .ref (h 1)), (3, .ref (h 2)), (4, .ref (h 3)), (5, .ref (h2 1)), (6, .ref (h2 2)), (7, .ref (h2 3)), (8, .int v8)]) hx hb dL_law_189 hl (by decide) rfl (fun ls hl => ?_)
              refine lv_aload_n hx hb dL_law_191 rfl (lv_at hl 9 rfl) ?_
              refine lv_iload hx hb dL_law_192 (lv_at hl 1 rfl) ?_
              refine la_ld1 (v := zq.2 1 (ix (5 * (pL_low ((pL_cell L xs (2 * v8)) >>> ((4 : Int32) &&& 31)) 12)))) hx hb hK hP 1 rfl (e5_in (n := 12) (by first | with_reducible assumption | exact vp_in_iff.mpr ⟨by decide, by decide⟩ | exact vp_in_iff.mpr ⟨by omega, by omega⟩)) rfl dL_law_194 ?_
              have j_36 : ∀ (u36_0 : Int32), u36_0 = (pL_law_J203s0 L xs v8 zq) → ∀ (hh : Nat → Ad), ∀ (H : Heap) (locs : List Loc) (ls : Array Slot), va_P G vwCl (wL cI cC cZ cR ho hh hp h h2 zt zq zk) H → va_D (AL s) (wL cI cC cZ cR ho hh hp h h2 zt zq zk) → va_S (AL s) s.heap H locs → lv_has ls 18 [(14, .int (pL_law_J189s0 L xs v8)), (13, .int (5 * (pL_low ((pL_cell L xs (2 * v8)) >>> ((4 : Int32) &&& 31)) 12))), (12, .int (pL_low ((pL_cell L xs (2 * v8)) >>> ((4 : Int32) &&& 31)) 12)), (11, .int (pL_law_J151s0 L xs v8)), (10, .int (pL_cell L xs ((2 * v8) + 1))), (9, .int (pL_cell L xs (2 * v8))), (0, .ref b), (1, .ref (ho 0)), (2, .ref (h 1)), (3, .ref (h 2)), (4, .ref (h 3)), (5, .ref (h2 1)), (6, .ref (h2 2)), (7, .ref (h2 3)), (8, .int v8)] → W p l e room_1 s m #[Value.ref b] below meth c H locs 600000 7302250 (lw_Z below #[Value.ref b] s) (F0 m 203 ls [.int u36_0]) := by
                intro u36_0 e0 hh H locs ls hP hD hS hl
                subst e0
                refine lv_istore (lv' := [(15, .int (pL_law_J203s0 L xs v8 zq)), (14, .int (pL_law_J189s0 L xs v8)), (13, .int (5 * (pL_low ((pL_cell L xs (2 * v8)) >>> ((4 : Int32) &&& 31)) 12))), (12, .int (pL_low ((pL_cell L xs (2 * v8)) >>> ((4 : Int32) &&& 31)) 12)), (11, .int (pL_law_J151s0 L xs v8)), (10, .int (pL_cell L xs ((2 * v8) + 1))), (9, .int (pL_cell L xs (2 * v8))), (0, .ref b), (1, .ref (ho 0)), (2, .ref (h 1)), (3, .ref (h 2)), (4, .ref (h 3)), (5, .ref (h2 1)), (6, .ref (h2 2)), (7, .ref (h2 3)), (8, .int v8)]) hx hb dL_law_203 hl (by decide) rfl (fun ls hl => ?_)
                refine lv_iconst (v := 0) hx hb dL_law_205 (by decide) ?_
                refine lv_istore (lv' := [(16, .int 0), (15, .int (pL_law_J203s0 L xs v8 zq)), (14, .int (pL_law_J189s0 L xs v8)), (13, .int (5 * (pL_low ((pL_cell L xs (2 * v8)) >>> ((4 : Int32) &&& 31)) 12))), (12, .int (pL_low ((pL_cell L xs (2 * v8)) >>> ((4 : Int32) &&& 31)) 12)), (11, .int (pL_law_J151s0 L xs v8)), (10, .int (pL_cell L xs ((2 * v8) + 1))), (9, .int (pL_cell L xs (2 * v8))), (0, .ref b), (1, .ref (ho 0)), (2, .ref (h 1)), (3, .ref (h 2)), (4, .ref (h 3)), (5, .ref (h2 1)), (6, .ref (h2 2)), (7, .ref (h2 3)), (8, .int v8)]) hx hb dL_law_206 hl (by decide) rfl (fun ls hl => ?_)
                refine lv_iload hx hb dL_law_208 (lv_at hl 1 rfl) ?_
                have j_37 : ∀ (u37_0 : SR), u37_0 = (pL_law_J248xq L xs v8 zq) → ∀ (hh : Nat → Ad), ∀ (H : Heap) (locs : List Loc) (ls : Array Slot), va_P G vwCl (wL cI cC cZ cR ho hh hp h h2 zt u37_0 zk) H → va_D (AL s) (wL cI cC cZ cR ho hh hp h h2 zt u37_0 zk) → va_S (AL s) s.heap H locs → lv_has ls 18 [(16, .int 0), (15, .int (pL_law_J203s0 L xs v8 zq)), (14, .int (pL_law_J189s0 L xs v8)), (13, .int (5 * (pL_low ((pL_cell L xs (2 * v8)) >>> ((4 : Int32) &&& 31)) 12))), (12, .int (pL_low ((pL_cell L xs (2 * v8)) >>> ((4 : Int32) &&& 31)) 12)), (11, .int (pL_law_J151s0 L xs v8)), (10, .int (pL_cell L xs ((2 * v8) + 1))), (9, .int (pL_cell L xs (2 * v8))), (0, .ref b), (1, .ref (ho 0)), (2, .ref (h 1)), (3, .ref (h 2)), (4, .ref (h 3)), (5, .ref (h2 1)), (6, .ref (h2 2)), (7, .ref (h2 3)), (8, .int v8)] → W p l e room_1 s m #[Value.ref b] below meth c H locs 600000 7302250 (lw_Z below #[Value.ref b] s) (F0 m 248 ls []) := by
                  intro u37_0 e0 hh H locs ls hP hD hS hl
                  subst e0
                  refine lv_iconst (v := 0) hx hb dL_law_248 (by decide) ?_
                  refine lv_istore (lv' := [(17, .int 0), (16, .int 0), (15, .int (pL_law_J203s0 L xs v8 zq)), (14, .int (pL_law_J189s0 L xs v8)), (13, .int (5 * (pL_low ((pL_cell L xs (2 * v8)) >>> ((4 : Int32) &&& 31)) 12))), (12, .int (pL_low ((pL_cell L xs (2 * v8)) >>> ((4 : Int32) &&& 31)) 12)), (11, .int (pL_law_J151s0 L xs v8)), (10, .int (pL_cell L xs ((2 * v8) + 1))), (9, .int (pL_cell L xs (2 * v8))), (0, .ref b), (1, .ref (ho 0)), (2, .ref (h 1)), (3, .ref (h 2)), (4, .ref (h 3)), (5, .ref (h2 1)), (6, .ref (h2 2)), (7, .ref (h2 3)), (8, .int v8)]) hx hb dL_law_249 hl (by decide) rfl (fun ls hl => ?_)
                  refine lp_251 v8 (pL_cell L xs (2 * v8)) (pL_cell L xs ((2 * v8) + 1)) (pL_law_J151s0 L xs v8) (pL_low ((pL_cell L xs (2 * v8)) >>> ((4 : Int32) &&& 31)) 12) (5 * (pL_low ((pL_cell L xs (2 * v8)) >>> ((4 : Int32) &&& 31)) 12)) (pL_law_J189s0 L xs v8) (pL_law_J203s0 L xs v8 zq) 13 0 0 hh zt (pL_law_J248xq L xs v8 zq) zk (by first | decide | omega | assumption) (by first | decide | omega | assumption) (by decide) (fun t et hh H locs ls hP hD hS hl => ?_) _ _ _ hP hD hS (lv_sub hl [9, 10, 11, 12, 13, 14, 15, 16, 17, 8, 7, 6, 5, 4, 3, 2, 1, 0] rfl)
                  have et2 : t = (pL_law_E251 L xs v8 zq) := et
                  clear et
                  subst et2
                  refine lv_aload_n hx hb dL_law_283 rfl (lv_at hl 1 rfl) ?_
                  refine lv_iload hx hb dL_law_284 (lv_at hl 12 rfl) ?_
                  refine lv_iload hx hb dL_law_286 (lv_at hl 14 rfl) ?_
                  refine gL_x wL_X (fun _ => wL_X) hP hD hS hA (lr_V (As := [.int (pL_low ((pL_cell L xs (2 * v8)) >>> ((4 : Int32) &&& 31)) 12), .int (pL_law_J189s0 L xs v8)]) (rest := []) ⟨hx, hb, hml, hown, hts⟩ (ctX2_piano l G cI cC cZ cR ho hh hp zt (pL_low ((pL_cell L xs (2 * v8)) >>> ((4 : Int32) &&& 31)) 12) (pL_law_J189s0 L xs v8)) (cwV 2 hts gL_law_X2_piano rfl rfl rfl (by decide +kernel) ⟨Nat.le_of_ble_eq_true rfl, Nat.le_of_ble_eq_true rfl⟩) (tx_recv hK (xL hP)) hK (xL hP) (xLD hD) hN rfl hl.1 rfl (Nat.le_of_ble_eq_true rfl) dL_law_288 (Nat.le_of_ble_eq_true rfl) (Nat.le_of_ble_eq_true rfl)) (fun hh H locs hP hD hS => ?_)
                  refine lv_iload hx hb dL_law_291 (lv_at hl 15 rfl) ?_
                  have j_40 : ∀ (u40_0 : Int32), u40_0 = (pL_law_J303s0 L xs v8 zq) → ∀ (hh : Nat → Ad), ∀ (H : Heap) (locs : List Loc) (ls : Array Slot), va_P G vwCl (wL cI cC cZ cR ho hh hp h h2 ((pX2_piano (pL_low ((pL_cell L xs (2 * v8)) >>> ((4 : Int32) &&& 31)) 12) (pL_law_J189s0 L xs v8) zt).2) (pL_law_J248xq L xs v8 zq) zk) H → va_D (AL s) (wL cI cC cZ cR ho hh hp h h2 ((pX2_piano (pL_low ((pL_cell L xs (2 * v8)) >>> ((4 : Int32) &&& 31)) 12) (pL_law_J189s0 L xs v8) zt).2) (pL_law_J248xq L xs v8 zq) zk) → va_S (AL s) s.heap H locs → lv_has ls 18 [(0, .ref b), (1, .ref (ho 0)), (2, .ref (h 1)), (3, .ref (h 2)), (4, .ref (h 3)), (5, .ref (h2 1)), (6, .ref (h2 2)), (7, .ref (h2 3)), (8, .int v8), (9, .int (pL_cell L xs (2 * v8))), (10, .int (pL_cell L xs ((2 * v8) + 1))), (11, .int (pL_law_J151s0 L xs v8)), (12, .int (pL_low ((pL_cell L xs (2 * v8)) >>> ((4 : Int32) &&& 31)) 12)), (13, .int (5 * (pL_low ((pL_cell L xs (2 * v8)) >>> ((4 : Int32) &&& 31)) 12))), (14, .int (pL_law_J189s0 L xs v8)), (15, .int (pL_law_J203s0 L xs v8 zq)), (16, .int (pL_law_E251 L xs v8 zq))] → W p l e room_1 s m #[Value.ref b] below meth c H locs 600000 7302250 (lw_Z below #[Value.ref b] s) (F0 m 303 ls [.int u40_0, .int ((pX2_piano (pL_low ((pL_cell L xs (2 * v8)) >>> ((4 : Int32) &&& 31)) 12) (pL_law_J189s0 L xs v8) zt).1)]) := by
                    intro u40_0 e0 hh H locs ls hP hD hS hl
                    subst e0
                    refine lv_icmp_eq (tgt := 308) hx hb dL_law_303 (by decide) (fun c_48 => ?_) (fun c_48 => ?_)
                    · refine lv_goto (tgt := 867) hx hb dL_law_308 (by decide) ?_
                      exact j_867 v8 (pL_cell L xs (2 * v8)) (pL_cell L xs ((2 * v8) + 1)) _ ((pX2_piano (pL_low ((pL_cell L xs (2 * v8)) >>> ((4 : Int32) &&& 31)) 12) (pL_law_J189s0 L xs v8) zt).2) (pL_law_J248xq L xs v8 zq) zk (show pL_law_L101 L xs (n + 1) v8 zt zq zk = pL_law_K867 (pL_law_L101 L xs n) v8 (pL_cell L xs (2 * v8)) (pL_cell L xs ((2 * v8) + 1)) ((pX2_piano (pL_low ((pL_cell L xs (2 * v8)) >>> ((4 : Int32) &&& 31)) 12) (pL_law_J189s0 L xs v8) zt).2) (pL_law_J248xq L xs v8 zq) zk by rw [pL_law_L101, if_neg c_2, if_pos c_4, if_pos c_48]) (by exact HQ_J248 (g_0.mono (by omega))) (by rw [q0_J248]; exact g_1) (by omega) (by omega) (by first | rfl | assumption) _ _ _ hP hD hS (lv_sub hl [0, 1, 2, 3, 4, 5, 6, 7, 8, 9, 10] rfl)
                    · refine lv_iconst (v := 0) hx hb dL_law_306 (by decide) ?_
                      exact (hKR (show pL_law_L101 L xs (n + 1) v8 zt zq zk = 0 by rw [pL_law_L101, if_neg c_2, if_pos c_4, if_neg c_48])).elim
                  refine lv_if_eq (tgt := 301) hx hb dL_law_293 (by decide) (fun c_47 => ?_) (fun c_47 => ?_)
                  · refine lv_bipush (v := (-5)) hx hb dL_law_301 (by decide) ?_
                    exact j_40 (-5) (by rw [pL_law_J303s0, if_pos c_47]) _ _ _ _ hP hD hS (lv_sub hl [0, 1, 2, 3, 4, 5, 6, 7, 8, 9, 10, 11, 12, 13, 14, 15, 16] rfl)
                  · refine lv_iload hx hb dL_law_296 (lv_at hl 16 rfl) ?_
                    refine lv_goto (tgt := 303) hx hb dL_law_298 (by decide) ?_
                    exact j_40 (pL_law_E251 L xs v8 zq) (by rw [pL_law_J303s0, if_neg c_47]) _ _ _ _ hP hD hS (lv_sub hl [0, 1, 2, 3, 4, 5, 6, 7, 8, 9, 10, 11, 12, 13, 14, 15, 16] rfl)
                refine lv_if_eq (tgt := 248) hx hb dL_law_210 (by decide) (fun c_44 => ?_) (fun c_44 => ?_)
                · skip
                  exact j_37 zq (by rw [pL_law_J248xq, if_pos c_44]) _ _ _ _ hP hD hS (lv_sub hl [0, 1, 2, 3, 4, 5, 6, 7, 8, 9, 10, 11, 12, 13, 14, 15, 16] rfl)
                · refine lv_aload_n hx hb dL_law_213 rfl (lv_at hl 11 rfl) ?_
                  refine lv_iload hx hb dL_law_214 (lv_at hl 3 rfl) ?_
                  refine lv_bipush (v := 100) hx hb dL_law_216 (by decide) ?_
                  refine la_st1 hx hb hK hP hD hS 1 rfl (e5_in (n := 12) (by first | with_reducible assumption | exact vp_in_iff.mpr ⟨by decide, by decide⟩ | exact vp_in_iff.mpr ⟨by omega, by omega⟩)) dL_law_218 (fun H locs hP hD hS => ?_)
                  refine lv_aload_n hx hb dL_law_219 rfl (lv_at hl 11 rfl) ?_
                  refine lv_iload hx hb dL_law_220 (lv_at hl 3 rfl) ?_
                  refine lv_iconst (v := 1) hx hb dL_law_222 (by decide) ?_
                  refine lv_iadd hx hb dL_law_223 ?_
                  refine lv_iconst (v := 0) hx hb dL_law_224 (by decide) ?_
                  refine la_st1 hx hb hK hP hD hS 1 rfl (e5_add (n := 12) (by first | with_reducible assumption | exact vp_in_iff.mpr ⟨by decide, by decide⟩ | exact vp_in_iff.mpr ⟨by omega, by omega⟩) (by first | with_reducible assumption | exact vp_in_iff.mpr ⟨by decide, by decide⟩ | exact vp_in_iff.mpr ⟨by omega, by omega⟩)) dL_law_225 (fun H locs hP hD hS => ?_)
                  refine lv_aload_n hx hb dL_law_226 rfl (lv_at hl 11 rfl) ?_
                  refine lv_iload hx hb dL_law_227 (lv_at hl 3 rfl) ?_
                  refine lv_iconst (v := 2) hx hb dL_law_229 (by decide) ?_
                  refine lv_iadd hx hb dL_law_230 ?_
                  refine lv_iload hx hb dL_law_231 (lv_at hl 2 rfl) ?_
                  refine la_st1 hx hb hK hP hD hS 1 rfl (e5_add (n := 12) (by first | with_reducible assumption | exact vp_in_iff.mpr ⟨by decide, by decide⟩ | exact vp_in_iff.mpr ⟨by omega, by omega⟩) (by first | with_reducible assumption | exact vp_in_iff.mpr ⟨by decide, by decide⟩ | exact vp_in_iff.mpr ⟨by omega, by omega⟩)) dL_law_233 (fun H locs hP hD hS => ?_)
                  refine lv_aload_n hx hb dL_law_234 rfl (lv_at hl 11 rfl) ?_
                  refine lv_iload hx hb dL_law_235 (lv_at hl 3 rfl) ?_
                  refine lv_iconst (v := 3) hx hb dL_law_237 (by decide) ?_
                  refine lv_iadd hx hb dL_law_238 ?_
                  refine lv_iconst (v := 0) hx hb dL_law_239 (by decide) ?_
                  refine la_st1 hx hb hK hP hD hS 1 rfl (e5_add (n := 12) (by first | with_reducible assumption | exact vp_in_iff.mpr ⟨by decide, by decide⟩ | exact vp_in_iff.mpr ⟨by omega, by omega⟩) (by first | with_reducible assumption | exact vp_in_iff.mpr ⟨by decide, by decide⟩ | exact vp_in_iff.mpr ⟨by omega, by omega⟩)) dL_law_240 (fun H locs hP hD hS => ?_)
                  refine lv_aload_n hx hb dL_law_241 rfl (lv_at hl 11 rfl) ?_
                  refine lv_iload hx hb dL_law_242 (lv_at hl 3 rfl) ?_
                  refine lv_iconst (v := 4) hx hb dL_law_244 (by decide) ?_
                  refine lv_iadd hx hb dL_law_245 ?_
                  refine lv_iconst (v := 0) hx hb dL_law_246 (by decide) ?_
                  refine la_st1 hx hb hK hP hD hS 1 rfl (e5_add (n := 12) (by first | with_reducible assumption | exact vp_in_iff.mpr ⟨by decide, by decide⟩ | exact vp_in_iff.mpr ⟨by omega, by omega⟩) (by first | with_reducible assumption | exact vp_in_iff.mpr ⟨by decide, by decide⟩ | exact vp_in_iff.mpr ⟨by omega, by omega⟩)) dL_law_247 (fun H locs hP hD hS => ?_)
                  exact j_37 (pR (pR (pR (pR (pR zq 1 (5 * (pL_low ((pL_cell L xs (2 * v8)) >>> ((4 : Int32) &&& 31)) 12)) 100) 1 ((5 * (pL_low ((pL_cell L xs (2 * v8)) >>> ((4 : Int32) &&& 31)) 12)) + 1) 0) 1 ((5 * (pL_low ((pL_cell L xs (2 * v8)) >>> ((4 : Int32) &&& 31)) 12)) + 2) (pL_law_J189s0 L xs v8)) 1 ((5 * (pL_low ((pL_cell L xs (2 * v8)) >>> ((4 : Int32) &&& 31)) 12)) + 3) 0) 1 ((5 * (pL_low ((pL_cell L xs (2 * v8)) >>> ((4 : Int32) &&& 31)) 12)) + 4) 0) (by rw [pL_law_J248xq, if_neg c_44]) _ _ _ _ hP hD hS (lv_sub hl [0, 1, 2, 3, 4, 5, 6, 7, 8, 9, 10, 11, 12, 13, 14, 15, 16] rfl)
              refine lv_if_ge (tgt := 202) hx hb dL_law_195 (by decide) (fun c_43 => ?_) (fun c_43 => ?_)
              · have t_43 := i_le (z := (0)) (w := (Int32.toInt (zq.2 1 (ix (5 * (pL_low ((pL_cell L xs (2 * v8)) >>> ((4 : Int32) &&& 31)) 12)))))) c_43 (by decide) rfl
                refine lv_iconst (v := 0) hx hb dL_law_202 (by decide) ?_
                exact j_36 0 (by rw [pL_law_J203s0, if_pos c_43]) _ _ _ _ hP hD hS (lv_sub hl [0, 1, 2, 3, 4, 5, 6, 7, 8, 9, 10, 11, 12, 13, 14] rfl)
              · have t_43 := i_nle (z := (0)) (w := (Int32.toInt (zq.2 1 (ix (5 * (pL_low ((pL_cell L xs (2 * v8)) >>> ((4 : Int32) &&& 31)) 12)))))) c_43 (by decide) rfl
                refine lv_iconst (v := 1) hx hb dL_law_198 (by decide) ?_
                refine lv_goto (tgt := 203) hx hb dL_law_199 (by decide) ?_
                exact j_36 1 (by rw [pL_law_J203s0, if_neg c_43]) _ _ _ _ hP hD hS (lv_sub hl [0, 1, 2, 3, 4, 5, 6, 7, 8, 9, 10, 11, 12, 13, 14] rfl)
            refine lv_if_le (tgt := 188) hx hb dL_law_181 (by decide) (fun c_42 => ?_) (fun c_42 => ?_)
            · have t_42 := i_le (z := (Int32.toInt (pL_low (pL_cell L xs ((2 * v8) + 1)) 4))) (w := (0)) c_42 rfl (by decide)
              refine lv_iconst (v := 0) hx hb dL_law_188 (by decide) ?_
              exact j_35 0 (by rw [pL_law_J189s0, if_pos c_42]) _ _ _ _ hP hD hS (lv_sub hl [0, 1, 2, 3, 4, 5, 6, 7, 8, 9, 10, 11, 12, 13] rfl)
            · have t_42 := i_nle (z := (Int32.toInt (pL_low (pL_cell L xs ((2 * v8) + 1)) 4))) (w := (0)) c_42 rfl (by decide)
              refine lv_iconst (v := 1) hx hb dL_law_184 (by decide) ?_
              refine lv_goto (tgt := 189) hx hb dL_law_185 (by decide) ?_
              exact j_35 1 (by rw [pL_law_J189s0, if_neg c_42]) _ _ _ _ hP hD hS (lv_sub hl [0, 1, 2, 3, 4, 5, 6, 7, 8, 9, 10, 11, 12, 13] rfl)
        refine lv_icmp_ge (tgt := 144) hx hb dL_law_134 (by decide) (fun c_3 => ?_) (fun c_3 => ?_)
        · have t_3 := i_le (z := (6)) (w := (Int32.toInt v8)) c_3 (by decide) rfl
          refine lv_iload hx hb dL_law_144 (lv_at hl 1 rfl) ?_
          refine lv_bipush (v := 14) hx hb dL_law_146 (by decide) ?_
          refine gL_n hP hD hS hA (lr_S (As := [.int (pL_cell L xs (2 * v8)), .int 14]) (rest := []) ⟨hx, hb, hml, hown, hts⟩ (ctL_low l G cI cC cZ cR (pL_cell L xs (2 * v8)) 14 (by decide)) (va_cwS 2 hts gL_law_L_low rfl rfl rfl (by decide +kernel) ⟨Nat.le_of_ble_eq_true rfl, Nat.le_of_ble_eq_true rfl⟩) hK nilP (nilD (A := AL s)) hN rfl hl.1 rfl (Nat.le_of_ble_eq_true rfl) dL_law_148 (Nat.le_of_ble_eq_true rfl) (Nat.le_of_ble_eq_true rfl)) (fun H locs hP hD hS => ?_)
          exact j_21 (pL_low (pL_cell L xs (2 * v8)) 14) (by rw [pL_law_J151s0, if_pos c_3]) _ _ _ _ hP hD hS (lv_sub hl [0, 1, 2, 3, 4, 5, 6, 7, 8, 9, 10] rfl)
        · have t_3 := i_nle (z := (6)) (w := (Int32.toInt v8)) c_3 (by decide) rfl
          refine lv_iload hx hb dL_law_137 (lv_at hl 10 rfl) ?_
          refine lv_iconst (v := 3) hx hb dL_law_139 (by decide) ?_
          refine lv_irem hx hb dL_law_140 (by decide) ?_
          refine lv_goto (tgt := 151) hx hb dL_law_141 (by decide) ?_
          exact j_21 (v8 - v8 / 3 * 3) (by rw [pL_law_J151s0, if_neg c_3]) _ _ _ _ hP hD hS (lv_sub hl [0, 1, 2, 3, 4, 5, 6, 7, 8, 9, 10] rfl)
  intro H locs ls hP hD hS hl
  refine lv_aload_n hx hb dL_law_42 rfl (lv_at hl 2 rfl) ?_
  refine lv_iconst (v := 0) hx hb dL_law_43 (by decide) ?_
  refine lv_iconst (v := 2) hx hb dL_law_44 (by decide) ?_
  refine la_st1 hx hb hK hP hD hS 0 rfl (vp_in_iff.mpr ⟨by decide, by decide⟩) dL_law_45 (fun H locs hP hD hS => ?_)
  refine lv_aload_n hx hb dL_law_46 rfl (lv_at hl 2 rfl) ?_
  refine lv_iconst (v := 1) hx hb dL_law_47 (by decide) ?_
  refine lv_bipush (v := 20) hx hb dL_law_48 (by decide) ?_
  refine la_st1 hx hb hK hP hD hS 0 rfl (vp_in_iff.mpr ⟨by decide, by decide⟩) dL_law_50 (fun H locs hP hD hS => ?_)
  refine lv_aload_n hx hb dL_law_51 rfl (lv_at hl 2 rfl) ?_
  refine lv_iconst (v := 2) hx hb dL_law_52 (by decide) ?_
  refine lv_iconst (v := 4) hx hb dL_law_53 (by decide) ?_
  refine la_st1 hx hb hK hP hD hS 0 rfl (vp_in_iff.mpr ⟨by decide, by decide⟩) dL_law_54 (fun H locs hP hD hS => ?_)
  refine lv_aload_n hx hb dL_law_55 rfl (lv_at hl 2 rfl) ?_
  refine lv_iconst (v := 3) hx hb dL_law_56 (by decide) ?_
  refine lv_iconst (v := 3) hx hb dL_law_57 (by decide) ?_
  refine la_st1 hx hb hK hP hD hS 0 rfl (vp_in_iff.mpr ⟨by decide, by decide⟩) dL_law_58 (fun H locs hP hD hS => ?_)
  refine lv_aload_n hx hb dL_law_59 rfl (lv_at hl 2 rfl) ?_
  refine lv_iconst (v := 4) hx hb dL_law_60 (by decide) ?_
  refine lv_bipush (v := 10) hx hb dL_law_61 (by decide) ?_
  refine la_st1 hx hb hK hP hD hS 0 rfl (vp_in_iff.mpr ⟨by decide, by decide⟩) dL_law_63 (fun H locs hP hD hS => ?_)
  refine lv_aload_n hx hb dL_law_64 rfl (lv_at hl 2 rfl) ?_
  refine lv_iconst (v := 5) hx hb dL_law_65 (by decide) ?_
  refine lv_bipush (v := 60) hx hb dL_law_66 (by decide) ?_
  refine la_st1 hx hb hK hP hD hS 0 rfl (vp_in_iff.mpr ⟨by decide, by decide⟩) dL_law_68 (fun H locs hP hD hS => ?_)
  refine lv_aload_n hx hb dL_law_69 rfl (lv_at hl 2 rfl) ?_
  refine lv_bipush (v := 6) hx hb dL_law_70 (by decide) ?_
  refine lv_bipush (v := 7) hx hb dL_law_72 (by decide) ?_
  refine la_st1 hx hb hK hP hD hS 0 rfl (vp_in_iff.mpr ⟨by decide, by decide⟩) dL_law_74 (fun H locs hP hD hS => ?_)
  refine lv_iconst (v := 0) hx hb dL_law_75 (by decide) ?_
  refine lv_istore (lv' := [(8, .int 0), (0, .ref b), (1, .ref (ho 0)), (2, .ref (h 1)), (3, .ref (h 2)), (4, .ref (h 3)), (5, .ref (h2 1)), (6, .ref (h2 2)), (7, .ref (h2 3))]) hx hb dL_law_76 hl (by decide) rfl (fun ls hl => ?_)
  refine lp_78 13 0 hh xt (pR (pR (pR (pR (pR (pR (pR xq 0 0 2) 0 1 20) 0 2 4) 0 3 3) 0 4 10) 0 5 60) 0 6 7) xk (by first | decide | omega | assumption) (by first | decide | omega | assumption) (by decide) (fun t et hh H locs ls hP hD hS hl => ?_) _ _ _ hP hD hS (lv_sub hl [1, 2, 3, 4, 5, 6, 7, 8, 0] rfl)
  have et2 : t = (pL_law_E78 xq) := et
  clear et
  subst et2
  refine lv_iconst (v := 0) hx hb dL_law_98 (by decide) ?_
  refine lv_istore (lv' := [(8, .int 0), (0, .ref b), (1, .ref (ho 0)), (2, .ref (h 1)), (3, .ref (h 2)), (4, .ref (h 3)), (5, .ref (h2 1)), (6, .ref (h2 2)), (7, .ref (h2 3))]) hx hb dL_law_99 hl (by decide) rfl (fun ls hl => ?_)
  refine lp_101 29 0 hh xt (pL_law_E78 xq) xk (by exact q_0.mono (by decide)) (by exact q_1) (by decide) (by decide) (by decide) (fun (q : (pL_law_E101 L xs xt xq xk) = 0) => absurd ((show pL_law L xs xt xq xk = 0 by rw [pL_law, if_pos q]).symm.trans hq) (by decide)) (fun t et f hh zt zq zk H locs ls hP hD hS hl => ?_) _ _ _ hP hD hS (lv_sub hl [1, 2, 3, 4, 5, 6, 7, 8, 0] rfl)
  have et2 : t = (pL_law_E101 L xs xt xq xk) := et
  clear et
  subst et2
  have c_49 : ¬ (pL_law_E101 L xs xt xq xk) = 0 := fun q => absurd (q.symm.trans f) (by decide)
  refine lv_iconst (v := 1) hx hb dL_law_919 (by decide) ?_
  refine va_forget hS.2.2 ?_
  exact lw_ret hx hb hr hlocks dL_law_920
