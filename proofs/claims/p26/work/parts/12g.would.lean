set_option maxHeartbeats 8000000 in
set_option maxRecDepth 100000 in
theorem ctL_would (l : Launch) (G : va_G) (cI cC cZ cR : ClassId) (ho : Nat → Nat) (hh : Nat → Ad) (hp h h2 : Ad) (xt : TV) (xq xk : SR) (a2 : Int32) {B : Int} (q_0 : HQ B xq) (q_1 : B ≤ 50000) (q_2 : Int32.toInt (xq.2 0 (ix 11)) ≤ 4) : Ct l yL_would wsL_would (rmz 6 139) G (TY cI cC cZ cR) [.ref (ho 0), .int a2, .ref (h 1), .ref (h 2), .ref (h 3), .ref (h2 1), .ref (h2 2), .ref (h2 3)] (wL cI cC cZ cR ho hh hp h h2 xt xq xk) (Qi G (wL cI cC cZ cR ho hh hp h h2 xt xq xk) (pL_would a2 xt xq xk).1 (wL cI cC cZ cR ho hh hp h h2 ((pL_would a2 xt xq xk).2.1) xq ((pL_would a2 xt xq xk).2.2))) := by
  refine Ct.ofI (cc := cL_would) (maxL := 17) (ret := (some .boolean)) (by decide) rfl rfl ?_
  intro p e s m below meth c A ls E0 hP hD hS hl
  obtain ⟨hx, hb, hr, hml, hlocks, hts, hown, hK, hN, hA⟩ := E0
  have hl : lv_has ls 17 [(0, .ref (ho 0)), (1, .int a2), (2, .ref (h 1)), (3, .ref (h 2)), (4, .ref (h 3)), (5, .ref (h2 1)), (6, .ref (h2 2)), (7, .ref (h2 3))] := hl
  have lp_29 : ∀ (w1 : Int32) (w8 : Int32) (w9 : Int32) (n : Nat) (v10 : Int32) (zt : TV) (zq : SR) (zk : SR), HQ (B + Int32.toInt v10) zk → 0 ≤ Int32.toInt v10 → Int32.toInt v10 ≤ Int32.toInt w8 → Int32.toInt w8 ≤ 48 → B ≤ 50000 → Int32.toInt w8 - Int32.toInt v10 < (n : Int) → (∀ t : SR, t = pL_would_L29 w8 n v10 zk → ∀ (H : Heap) (locs : List Loc) (ls : Array Slot), va_P G vwCl (wL cI cC cZ cR ho hh hp h h2 zt zq t) H → va_D A (wL cI cC cZ cR ho hh hp h h2 zt zq t) → va_S A s.heap H locs → lv_has ls 17 [(0, .ref (ho 0)), (1, .int w1), (2, .ref (h 1)), (3, .ref (h 2)), (4, .ref (h 3)), (5, .ref (h2 1)), (6, .ref (h2 2)), (7, .ref (h2 3)), (8, .int w8), (9, .int w9)] → W p l e (rmz 6 139) s m ([.ref (ho 0), .int a2, .ref (h 1), .ref (h 2), .ref (h 3), .ref (h2 1), .ref (h2 2), .ref (h2 3)] : List Value).toArray below meth c H locs 0 0 (MQ below (QiA G A (pL_would a2 xt xq xk).1 (wL cI cC cZ cR ho hh hp h h2 ((pL_would a2 xt xq xk).2.1) xq ((pL_would a2 xt xq xk).2.2))) ([.ref (ho 0), .int a2, .ref (h 1), .ref (h 2), .ref (h 3), .ref (h2 1), .ref (h2 2), .ref (h2 3)] : List Value).toArray s 0 0 A) (F0 m 52 ls [])) → ∀ (H : Heap) (locs : List Loc) (ls : Array Slot), va_P G vwCl (wL cI cC cZ cR ho hh hp h h2 zt zq zk) H → va_D A (wL cI cC cZ cR ho hh hp h h2 zt zq zk) → va_S A s.heap H locs → lv_has ls 17 [(0, .ref (ho 0)), (1, .int w1), (2, .ref (h 1)), (3, .ref (h 2)), (4, .ref (h 3)), (5, .ref (h2 1)), (6, .ref (h2 2)), (7, .ref (h2 3)), (8, .int w8), (9, .int w9), (10, .int v10)] → W p l e (rmz 6 139) s m ([.ref (ho 0), .int a2, .ref (h 1), .ref (h 2), .ref (h 3), .ref (h2 1), .ref (h2 2), .ref (h2 3)] : List Value).toArray below meth c H locs 0 0 (MQ below (QiA G A (pL_would a2 xt xq xk).1 (wL cI cC cZ cR ho hh hp h h2 ((pL_would a2 xt xq xk).2.1) xq ((pL_would a2 xt xq xk).2.2))) ([.ref (ho 0), .int a2, .ref (h 1), .ref (h 2), .ref (h 3), .ref (h2 1), .ref (h2 2), .ref (h2 3)] : List Value).toArray s 0 0 A) (F0 m 29 ls []) := by
    intro w1 w8 w9 n
    induction n with
    | zero =>
      intro v10 zt zq zk g_0 g_1 g_2 g_3 g_4 hm
      exfalso; omega
    | succ n ih =>
      intro v10 zt zq zk g_0 g_1 g_2 g_3 g_4 hm hKK H locs ls hP hD hS hl
      refine lv_iload hx hb dL_would_29 (lv_at hl 10 rfl) ?_
      refine lv_iload hx hb dL_would_31 (lv_at hl 8 rfl) ?_
      refine lv_icmp_ge (tgt := 52) hx hb dL_would_33 (by decide) (fun c_1 => ?_) (fun c_1 => ?_)
      · have t_1 := i_le (z := (Int32.toInt w8)) (w := (Int32.toInt v10)) c_1 rfl rfl
        exact hKK zk (show pL_would_L29 w8 (n + 1) v10 zk = zk by rw [pL_would_L29, if_pos c_1]).symm _ _ _ hP hD hS (lv_sub hl [0, 1, 2, 3, 4, 5, 6, 7, 8, 9] rfl)
      · have t_1 := i_nle (z := (Int32.toInt w8)) (w := (Int32.toInt v10)) c_1 rfl rfl
        refine lv_aload hx hb dL_would_36 (lv_at hl 5 rfl) ?_
        refine lv_aload hx hb dL_would_38 (lv_at hl 6 rfl) ?_
        refine lv_aload hx hb dL_would_40 (lv_at hl 7 rfl) ?_
        refine gL_p wL_2 wL_2 hP hD hS hA (lr_S (As := [.ref (h2 1), .ref (h2 2), .ref (h2 3)]) (rest := []) ⟨hx, hb, hml, hown, hts⟩ (ctL_hour l G cI cC cZ cR h2 zk (by exact g_0) (by omega)) (va_cwS 3 hts gL_would_L_hour rfl rfl rfl (by decide +kernel) ⟨Nat.le_of_ble_eq_true rfl, Nat.le_of_ble_eq_true rfl⟩) hK (hP.perm wL_2).left (va_D.leftD (hD.perm wL_2)) hN rfl hl.1 rfl (Nat.le_of_ble_eq_true rfl) dL_would_42 (Nat.zero_le _) (Nat.zero_le _)) (fun H locs hP hD hS => ?_)
        refine lv_pop hx hb dL_would_45 rfl ?_
        refine lv_iinc (v := (v10 + 1)) (lv' := [(10, .int (v10 + 1)), (0, .ref (ho 0)), (1, .int w1), (2, .ref (h 1)), (3, .ref (h 2)), (4, .ref (h 3)), (5, .ref (h2 1)), (6, .ref (h2 2)), (7, .ref (h2 3)), (8, .int w8), (9, .int w9)]) hx hb dL_would_46 hl (k := 10) rfl rfl (by decide) rfl (fun ls hl => ?_)
        have a_46 := i_add1 (a := v10) (by omega) (by omega)
        refine lv_goto (tgt := 29) hx hb dL_would_49 (by decide) ?_
        exact ih (v10 + 1) zt zq ((pL_hour zk).2) (by rw [a_46]; exact (HQ_hour g_0 (by omega)).mono (by omega)) (by omega) (by omega) (by omega) (by omega) (by omega) (fun t et => hKK t (et.trans (show pL_would_L29 w8 (n + 1) v10 zk = pL_would_L29 w8 n (v10 + 1) ((pL_hour zk).2) by rw [pL_would_L29, if_neg c_1]).symm)) _ _ _ hP hD hS (lv_sub hl [1, 2, 3, 4, 5, 6, 7, 8, 9, 10, 0] rfl)
  have lp_55 : ∀ (w1 : Int32) (w8 : Int32) (n : Nat) (v9 : Int32) (v10 : Int32) (zt : TV) (zq : SR) (zk : SR), 0 ≤ Int32.toInt v10 → Int32.toInt v10 ≤ 12 → 12 - Int32.toInt v10 < (n : Int) → (∀ t : Int32, t = pL_would_L55 n v9 v10 zq zk → ∀ (H : Heap) (locs : List Loc) (ls : Array Slot), va_P G vwCl (wL cI cC cZ cR ho hh hp h h2 zt zq zk) H → va_D A (wL cI cC cZ cR ho hh hp h h2 zt zq zk) → va_S A s.heap H locs → lv_has ls 17 [(0, .ref (ho 0)), (1, .int w1), (2, .ref (h 1)), (3, .ref (h 2)), (4, .ref (h 3)), (5, .ref (h2 1)), (6, .ref (h2 2)), (7, .ref (h2 3)), (8, .int w8), (9, .int t)] → W p l e (rmz 6 139) s m ([.ref (ho 0), .int a2, .ref (h 1), .ref (h 2), .ref (h 3), .ref (h2 1), .ref (h2 2), .ref (h2 3)] : List Value).toArray below meth c H locs 0 0 (MQ below (QiA G A (pL_would a2 xt xq xk).1 (wL cI cC cZ cR ho hh hp h h2 ((pL_would a2 xt xq xk).2.1) xq ((pL_would a2 xt xq xk).2.2))) ([.ref (ho 0), .int a2, .ref (h 1), .ref (h 2), .ref (h 3), .ref (h2 1), .ref (h2 2), .ref (h2 3)] : List Value).toArray s 0 0 A) (F0 m 101 ls [])) → ∀ (H : Heap) (locs : List Loc) (ls : Array Slot), va_P G vwCl (wL cI cC cZ cR ho hh hp h h2 zt zq zk) H → va_D A (wL cI cC cZ cR ho hh hp h h2 zt zq zk) → va_S A s.heap H locs → lv_has ls 17 [(0, .ref (ho 0)), (1, .int w1), (2, .ref (h 1)), (3, .ref (h 2)), (4, .ref (h 3)), (5, .ref (h2 1)), (6, .ref (h2 2)), (7, .ref (h2 3)), (8, .int w8), (9, .int v9), (10, .int v10)] → W p l e (rmz 6 139) s m ([.ref (ho 0), .int a2, .ref (h 1), .ref (h 2), .ref (h 3), .ref (h2 1), .ref (h2 2), .ref (h2 3)] : List Value).toArray below meth c H locs 0 0 (MQ below (QiA G A (pL_would a2 xt xq xk).1 (wL cI cC cZ cR ho hh hp h h2 ((pL_would a2 xt xq xk).2.1) xq ((pL_would a2 xt xq xk).2.2))) ([.ref (ho 0), .int a2, .ref (h 1), .ref (h 2), .ref (h 3), .ref (h2 1), .ref (h2 2), .ref (h2 3)] : List Value).toArray s 0 0 A) (F0 m 55 ls []) := by
    intro w1 w8 n
    induction n with
    | zero =>
      intro v9 v10 zt zq zk g_0 g_1 hm
      exfalso; omega
    | succ n ih =>
      intro v9 v10 zt zq zk g_0 g_1 hm hKK H locs ls hP hD hS hl
      refine lv_iload hx hb dL_would_55 (lv_at hl 10 rfl) ?_
      refine lv_bipush (v := 12) hx hb dL_would_57 (by decide) ?_
      refine lv_icmp_ge (tgt := 101) hx hb dL_would_59 (by decide) (fun c_2 => ?_) (fun c_2 => ?_)
      · have t_2 := i_le (z := (12)) (w := (Int32.toInt v10)) c_2 (by decide) rfl
        exact hKK v9 (show pL_would_L55 (n + 1) v9 v10 zq zk = v9 by rw [pL_would_L55, if_pos c_2]).symm _ _ _ hP hD hS (lv_sub hl [0, 1, 2, 3, 4, 5, 6, 7, 8, 9] rfl)
      · have t_2 := i_nle (z := (12)) (w := (Int32.toInt v10)) c_2 (by decide) rfl
        refine lv_iload hx hb dL_would_62 (lv_at hl 9 rfl) ?_
        refine lv_aload hx hb dL_would_64 (lv_at hl 6 rfl) ?_
        refine lv_iconst (v := 5) hx hb dL_would_66 (by decide) ?_
        refine lv_iload hx hb dL_would_67 (lv_at hl 10 rfl) ?_
        refine lv_imul hx hb dL_would_69 ?_
        refine lv_iconst (v := 4) hx hb dL_would_70 (by decide) ?_
        refine lv_iadd hx hb dL_would_71 ?_
        refine la_ld2 (v := zk.2 1 (ix ((5 * v10) + 4))) hx hb hK hP 1 rfl (e5_add (n := 12) (by first | with_reducible assumption | exact vp_in_iff.mpr ⟨by decide, by decide⟩ | exact vp_in_iff.mpr ⟨by omega, by omega⟩) (by first | with_reducible assumption | exact vp_in_iff.mpr ⟨by decide, by decide⟩ | exact vp_in_iff.mpr ⟨by omega, by omega⟩)) rfl dL_would_72 ?_
        refine lv_aload_n hx hb dL_would_73 rfl (lv_at hl 3 rfl) ?_
        refine lv_iconst (v := 5) hx hb dL_would_74 (by decide) ?_
        refine lv_iload hx hb dL_would_75 (lv_at hl 10 rfl) ?_
        refine lv_imul hx hb dL_would_77 ?_
        refine lv_iconst (v := 4) hx hb dL_would_78 (by decide) ?_
        refine lv_iadd hx hb dL_would_79 ?_
        refine la_ld1 (v := zq.2 1 (ix ((5 * v10) + 4))) hx hb hK hP 1 rfl (e5_add (n := 12) (by first | with_reducible assumption | exact vp_in_iff.mpr ⟨by decide, by decide⟩ | exact vp_in_iff.mpr ⟨by omega, by omega⟩) (by first | with_reducible assumption | exact vp_in_iff.mpr ⟨by decide, by decide⟩ | exact vp_in_iff.mpr ⟨by omega, by omega⟩)) rfl dL_would_80 ?_
        have j_2 : ∀ (u2_0 : Int32), u2_0 = (pL_would_J92s0 v10 zq zk) → ∀ (H : Heap) (locs : List Loc) (ls : Array Slot), va_P G vwCl (wL cI cC cZ cR ho hh hp h h2 zt zq zk) H → va_D A (wL cI cC cZ cR ho hh hp h h2 zt zq zk) → va_S A s.heap H locs → lv_has ls 17 [(0, .ref (ho 0)), (1, .int w1), (2, .ref (h 1)), (3, .ref (h 2)), (4, .ref (h 3)), (5, .ref (h2 1)), (6, .ref (h2 2)), (7, .ref (h2 3)), (8, .int w8), (9, .int v9), (10, .int v10)] → W p l e (rmz 6 139) s m ([.ref (ho 0), .int a2, .ref (h 1), .ref (h 2), .ref (h 3), .ref (h2 1), .ref (h2 2), .ref (h2 3)] : List Value).toArray below meth c H locs 0 0 (MQ below (QiA G A (pL_would a2 xt xq xk).1 (wL cI cC cZ cR ho hh hp h h2 ((pL_would a2 xt xq xk).2.1) xq ((pL_would a2 xt xq xk).2.2))) ([.ref (ho 0), .int a2, .ref (h 1), .ref (h 2), .ref (h 3), .ref (h2 1), .ref (h2 2), .ref (h2 3)] : List Value).toArray s 0 0 A) (F0 m 92 ls [.int u2_0, .int v9]) := by
          intro u2_0 e0 H locs ls hP hD hS hl
          subst e0
          refine lv_ior hx hb dL_would_92 ?_
          refine lv_istore (lv' := [(9, .int (v9 ||| (pL_would_J92s0 v10 zq zk))), (0, .ref (ho 0)), (1, .int w1), (2, .ref (h 1)), (3, .ref (h 2)), (4, .ref (h 3)), (5, .ref (h2 1)), (6, .ref (h2 2)), (7, .ref (h2 3)), (8, .int w8), (10, .int v10)]) hx hb dL_would_93 hl (by decide) rfl (fun ls hl => ?_)
          refine lv_iinc (v := (v10 + 1)) (lv' := [(10, .int (v10 + 1)), (9, .int (v9 ||| (pL_would_J92s0 v10 zq zk))), (0, .ref (ho 0)), (1, .int w1), (2, .ref (h 1)), (3, .ref (h 2)), (4, .ref (h 3)), (5, .ref (h2 1)), (6, .ref (h2 2)), (7, .ref (h2 3)), (8, .int w8)]) hx hb dL_would_95 hl (k := 10) rfl rfl (by decide) rfl (fun ls hl => ?_)
          have a_95 := i_add1 (a := v10) (by omega) (by omega)
          refine lv_goto (tgt := 55) hx hb dL_would_98 (by decide) ?_
          exact ih (v9 ||| (pL_would_J92s0 v10 zq zk)) (v10 + 1) zt zq zk (by omega) (by omega) (by omega) (fun t et => hKK t (et.trans (show pL_would_L55 (n + 1) v9 v10 zq zk = pL_would_L55 n (v9 ||| (pL_would_J92s0 v10 zq zk)) (v10 + 1) zq zk by rw [pL_would_L55, if_neg c_2]).symm)) _ _ _ hP hD hS (lv_sub hl [2, 3, 4, 5, 6, 7, 8, 9, 10, 1, 0] rfl)
        refine lv_icmp_le (tgt := 91) hx hb dL_would_81 (by decide) (fun c_3 => ?_) (fun c_3 => ?_)
        · have t_3 := i_le (z := (Int32.toInt (zk.2 1 (ix ((5 * v10) + 4))))) (w := (Int32.toInt (zq.2 1 (ix ((5 * v10) + 4))))) c_3 rfl rfl
          refine lv_iconst (v := 0) hx hb dL_would_91 (by decide) ?_
          exact j_2 0 (by rw [pL_would_J92s0, if_pos c_3]) _ _ _ hP hD hS (lv_sub hl [0, 1, 2, 3, 4, 5, 6, 7, 8, 9, 10] rfl)
        · have t_3 := i_nle (z := (Int32.toInt (zk.2 1 (ix ((5 * v10) + 4))))) (w := (Int32.toInt (zq.2 1 (ix ((5 * v10) + 4))))) c_3 rfl rfl
          refine lv_iconst (v := 1) hx hb dL_would_84 (by decide) ?_
          refine lv_iload hx hb dL_would_85 (lv_at hl 10 rfl) ?_
          refine lv_ishl hx hb dL_would_87 ?_
          refine lv_goto (tgt := 92) hx hb dL_would_88 (by decide) ?_
          exact j_2 (1 <<< (v10 &&& 31)) (by rw [pL_would_J92s0, if_neg c_3]) _ _ _ hP hD hS (lv_sub hl [0, 1, 2, 3, 4, 5, 6, 7, 8, 9, 10] rfl)
  have lp_140 : ∀ (w1 : Int32) (w8 : Int32) (w9 : Int32) (w10 : Int32) (n : Nat) (v11 : Int32) (zt : TV) (zq : SR) (zk : SR), HQ (B + Int32.toInt v11) zk → 0 ≤ Int32.toInt v11 → Int32.toInt v11 ≤ 97 → 0 ≤ Int32.toInt w10 → Int32.toInt w10 < 12 → B ≤ 50000 → 97 - Int32.toInt v11 < (n : Int) → (∀ t : Int32 × SR, t = pL_would_L140 w10 n v11 zq zk → ∀ (H : Heap) (locs : List Loc) (ls : Array Slot), va_P G vwCl (wL cI cC cZ cR ho hh hp h h2 zt zq (t.2)) H → va_D A (wL cI cC cZ cR ho hh hp h h2 zt zq (t.2)) → va_S A s.heap H locs → lv_has ls 17 [(0, .ref (ho 0)), (1, .int w1), (2, .ref (h 1)), (3, .ref (h 2)), (4, .ref (h 3)), (5, .ref (h2 1)), (6, .ref (h2 2)), (7, .ref (h2 3)), (8, .int w8), (9, .int w9), (10, .int w10), (11, .int (t.1))] → W p l e (rmz 6 139) s m ([.ref (ho 0), .int a2, .ref (h 1), .ref (h 2), .ref (h 3), .ref (h2 1), .ref (h2 2), .ref (h2 3)] : List Value).toArray below meth c H locs 0 0 (MQ below (QiA G A (pL_would a2 xt xq xk).1 (wL cI cC cZ cR ho hh hp h h2 ((pL_would a2 xt xq xk).2.1) xq ((pL_would a2 xt xq xk).2.2))) ([.ref (ho 0), .int a2, .ref (h 1), .ref (h 2), .ref (h 3), .ref (h2 1), .ref (h2 2), .ref (h2 3)] : List Value).toArray s 0 0 A) (F0 m 185 ls [])) → ∀ (H : Heap) (locs : List Loc) (ls : Array Slot), va_P G vwCl (wL cI cC cZ cR ho hh hp h h2 zt zq zk) H → va_D A (wL cI cC cZ cR ho hh hp h h2 zt zq zk) → va_S A s.heap H locs → lv_has ls 17 [(0, .ref (ho 0)), (1, .int w1), (2, .ref (h 1)), (3, .ref (h 2)), (4, .ref (h 3)), (5, .ref (h2 1)), (6, .ref (h2 2)), (7, .ref (h2 3)), (8, .int w8), (9, .int w9), (10, .int w10), (11, .int v11)] → W p l e (rmz 6 139) s m ([.ref (ho 0), .int a2, .ref (h 1), .ref (h 2), .ref (h 3), .ref (h2 1), .ref (h2 2), .ref (h2 3)] : List Value).toArray below meth c H locs 0 0 (MQ below (QiA G A (pL_would a2 xt xq xk).1 (wL cI cC cZ cR ho hh hp h h2 ((pL_would a2 xt xq xk).2.1) xq ((pL_would a2 xt xq xk).2.2))) ([.ref (ho 0), .int a2, .ref (h 1), .ref (h 2), .ref (h 3), .ref (h2 1), .ref (h2 2), .ref (h2 3)] : List Value).toArray s 0 0 A) (F0 m 140 ls []) := by
    intro w1 w8 w9 w10 n
    induction n with
    | zero =>
      intro v11 zt zq zk g_0 g_1 g_2 g_3 g_4 g_5 hm
      exfalso; omega
    | succ n ih =>
      intro v11 zt zq zk g_0 g_1 g_2 g_3 g_4 g_5 hm hKK H locs ls hP hD hS hl
      refine lv_aload_n hx hb dL_would_140 rfl (lv_at hl 3 rfl) ?_
      refine lv_iconst (v := 5) hx hb dL_would_141 (by decide) ?_
      refine lv_iload hx hb dL_would_142 (lv_at hl 10 rfl) ?_
      refine lv_imul hx hb dL_would_144 ?_
      refine la_ld1 (v := zq.2 1 (ix (5 * w10))) hx hb hK hP 1 rfl (e5_in (n := 12) (by first | with_reducible assumption | exact vp_in_iff.mpr ⟨by decide, by decide⟩ | exact vp_in_iff.mpr ⟨by omega, by omega⟩)) rfl dL_would_145 ?_
      refine lv_if_lt (tgt := 185) hx hb dL_would_146 (by decide) (fun c_5 => ?_) (fun c_5 => ?_)
      · have t_5 := i_lt (z := (Int32.toInt (zq.2 1 (ix (5 * w10))))) (w := (0)) c_5 rfl (by decide)
        exact hKK (v11, zk) (show pL_would_L140 w10 (n + 1) v11 zq zk = (v11, zk) by rw [pL_would_L140, if_pos c_5]).symm _ _ _ hP hD hS (lv_sub hl [0, 1, 2, 3, 4, 5, 6, 7, 8, 9, 10, 11] rfl)
      · have t_5 := i_nlt (z := (Int32.toInt (zq.2 1 (ix (5 * w10))))) (w := (0)) c_5 rfl (by decide)
        refine lv_aload hx hb dL_would_149 (lv_at hl 6 rfl) ?_
        refine lv_iconst (v := 5) hx hb dL_would_151 (by decide) ?_
        refine lv_iload hx hb dL_would_152 (lv_at hl 10 rfl) ?_
        refine lv_imul hx hb dL_would_154 ?_
        refine lv_iconst (v := 2) hx hb dL_would_155 (by decide) ?_
        refine lv_iadd hx hb dL_would_156 ?_
        refine la_ld2 (v := zk.2 1 (ix ((5 * w10) + 2))) hx hb hK hP 1 rfl (e5_add (n := 12) (by first | with_reducible assumption | exact vp_in_iff.mpr ⟨by decide, by decide⟩ | exact vp_in_iff.mpr ⟨by omega, by omega⟩) (by first | with_reducible assumption | exact vp_in_iff.mpr ⟨by decide, by decide⟩ | exact vp_in_iff.mpr ⟨by omega, by omega⟩)) rfl dL_would_157 ?_
        refine lv_iconst (v := 2) hx hb dL_would_158 (by decide) ?_
        refine lv_icmp_eq (tgt := 185) hx hb dL_would_159 (by decide) (fun c_6 => ?_) (fun c_6 => ?_)
        · exact hKK (v11, zk) (show pL_would_L140 w10 (n + 1) v11 zq zk = (v11, zk) by rw [pL_would_L140, if_neg c_5, if_pos c_6]).symm _ _ _ hP hD hS (lv_sub hl [0, 1, 2, 3, 4, 5, 6, 7, 8, 9, 10, 11] rfl)
        · refine lv_iload hx hb dL_would_162 (lv_at hl 11 rfl) ?_
          refine lv_bipush (v := 97) hx hb dL_would_164 (by decide) ?_
          refine lv_icmp_ge (tgt := 185) hx hb dL_would_166 (by decide) (fun c_7 => ?_) (fun c_7 => ?_)
          · have t_7 := i_le (z := (97)) (w := (Int32.toInt v11)) c_7 (by decide) rfl
            exact hKK (v11, zk) (show pL_would_L140 w10 (n + 1) v11 zq zk = (v11, zk) by rw [pL_would_L140, if_neg c_5, if_neg c_6, if_pos c_7]).symm _ _ _ hP hD hS (lv_sub hl [0, 1, 2, 3, 4, 5, 6, 7, 8, 9, 10, 11] rfl)
          · have t_7 := i_nle (z := (97)) (w := (Int32.toInt v11)) c_7 (by decide) rfl
            refine lv_aload hx hb dL_would_169 (lv_at hl 5 rfl) ?_
            refine lv_aload hx hb dL_would_171 (lv_at hl 6 rfl) ?_
            refine lv_aload hx hb dL_would_173 (lv_at hl 7 rfl) ?_
            refine gL_p wL_2 wL_2 hP hD hS hA (lr_S (As := [.ref (h2 1), .ref (h2 2), .ref (h2 3)]) (rest := []) ⟨hx, hb, hml, hown, hts⟩ (ctL_hour l G cI cC cZ cR h2 zk (by exact g_0) (by omega)) (va_cwS 3 hts gL_would_L_hour rfl rfl rfl (by decide +kernel) ⟨Nat.le_of_ble_eq_true rfl, Nat.le_of_ble_eq_true rfl⟩) hK (hP.perm wL_2).left (va_D.leftD (hD.perm wL_2)) hN rfl hl.1 rfl (Nat.le_of_ble_eq_true rfl) dL_would_175 (Nat.zero_le _) (Nat.zero_le _)) (fun H locs hP hD hS => ?_)
            refine lv_pop hx hb dL_would_178 rfl ?_
            refine lv_iinc (v := (v11 + 1)) (lv' := [(11, .int (v11 + 1)), (0, .ref (ho 0)), (1, .int w1), (2, .ref (h 1)), (3, .ref (h 2)), (4, .ref (h 3)), (5, .ref (h2 1)), (6, .ref (h2 2)), (7, .ref (h2 3)), (8, .int w8), (9, .int w9), (10, .int w10)]) hx hb dL_would_179 hl (k := 11) rfl rfl (by decide) rfl (fun ls hl => ?_)
            have a_179 := i_add1 (a := v11) (by omega) (by omega)
            refine lv_goto (tgt := 140) hx hb dL_would_182 (by decide) ?_
            exact ih (v11 + 1) zt zq ((pL_hour zk).2) (by rw [a_179]; exact (HQ_hour g_0 (by omega)).mono (by omega)) (by omega) (by omega) (by omega) (by omega) (by omega) (by omega) (fun t et => hKK t (et.trans (show pL_would_L140 w10 (n + 1) v11 zq zk = pL_would_L140 w10 n (v11 + 1) zq ((pL_hour zk).2) by rw [pL_would_L140, if_neg c_5, if_neg c_6, if_neg c_7]).symm)) _ _ _ hP hD hS (lv_sub hl [1, 2, 3, 4, 5, 6, 7, 8, 9, 10, 11, 0] rfl)
  have lp_277 : ∀ (w1 : Int32) (w8 : Int32) (w9 : Int32) (w10 : Int32) (w11 : Int32) (w12 : Int32) (w13 : Int32) (w14 : Int32) (n : Nat) (v15 : Int32) (v16 : Int32) (zt : TV) (zq : SR) (zk : SR), HQ (B + Int32.toInt v16) zk → 0 ≤ Int32.toInt v16 → Int32.toInt v16 ≤ Int32.toInt w8 → Int32.toInt w8 ≤ 48 → B ≤ 50000 → Int32.toInt w8 - Int32.toInt v16 < (n : Int) → (∀ t : Int32 × SR, t = pL_would_L277 w8 n v15 v16 zk → ∀ (H : Heap) (locs : List Loc) (ls : Array Slot), va_P G vwCl (wL cI cC cZ cR ho hh hp h h2 zt zq (t.2)) H → va_D A (wL cI cC cZ cR ho hh hp h h2 zt zq (t.2)) → va_S A s.heap H locs → lv_has ls 17 [(0, .ref (ho 0)), (1, .int w1), (2, .ref (h 1)), (3, .ref (h 2)), (4, .ref (h 3)), (5, .ref (h2 1)), (6, .ref (h2 2)), (7, .ref (h2 3)), (8, .int w8), (9, .int w9), (10, .int w10), (11, .int w11), (12, .int w12), (13, .int w13), (14, .int w14), (15, .int (t.1))] → W p l e (rmz 6 139) s m ([.ref (ho 0), .int a2, .ref (h 1), .ref (h 2), .ref (h 3), .ref (h2 1), .ref (h2 2), .ref (h2 3)] : List Value).toArray below meth c H locs 0 0 (MQ below (QiA G A (pL_would a2 xt xq xk).1 (wL cI cC cZ cR ho hh hp h h2 ((pL_would a2 xt xq xk).2.1) xq ((pL_would a2 xt xq xk).2.2))) ([.ref (ho 0), .int a2, .ref (h 1), .ref (h 2), .ref (h 3), .ref (h2 1), .ref (h2 2), .ref (h2 3)] : List Value).toArray s 0 0 A) (F0 m 304 ls [])) → ∀ (H : Heap) (locs : List Loc) (ls : Array Slot), va_P G vwCl (wL cI cC cZ cR ho hh hp h h2 zt zq zk) H → va_D A (wL cI cC cZ cR ho hh hp h h2 zt zq zk) → va_S A s.heap H locs → lv_has ls 17 [(0, .ref (ho 0)), (1, .int w1), (2, .ref (h 1)), (3, .ref (h 2)), (4, .ref (h 3)), (5, .ref (h2 1)), (6, .ref (h2 2)), (7, .ref (h2 3)), (8, .int w8), (9, .int w9), (10, .int w10), (11, .int w11), (12, .int w12), (13, .int w13), (14, .int w14), (15, .int v15), (16, .int v16)] → W p l e (rmz 6 139) s m ([.ref (ho 0), .int a2, .ref (h 1), .ref (h 2), .ref (h 3), .ref (h2 1), .ref (h2 2), .ref (h2 3)] : List Value).toArray below meth c H locs 0 0 (MQ below (QiA G A (pL_would a2 xt xq xk).1 (wL cI cC cZ cR ho hh hp h h2 ((pL_would a2 xt xq xk).2.1) xq ((pL_would a2 xt xq xk).2.2))) ([.ref (ho 0), .int a2, .ref (h 1), .ref (h 2), .ref (h 3), .ref (h2 1), .ref (h2 2), .ref (h2 3)] : List Value).toArray s 0 0 A) (F0 m 277 ls []) := by
    intro w1 w8 w9 w10 w11 w12 w13 w14 n
    induction n with
    | zero =>
      intro v15 v16 zt zq zk g_0 g_1 g_2 g_3 g_4 hm
      exfalso; omega
    | succ n ih =>
      intro v15 v16 zt zq zk g_0 g_1 g_2 g_3 g_4 hm hKK H locs ls hP hD hS hl
      refine lv_iload hx hb dL_would_277 (lv_at hl 16 rfl) ?_
      refine lv_iload hx hb dL_would_279 (lv_at hl 8 rfl) ?_
      refine lv_icmp_ge (tgt := 304) hx hb dL_would_281 (by decide) (fun c_12 => ?_) (fun c_12 => ?_)
      · have t_12 := i_le (z := (Int32.toInt w8)) (w := (Int32.toInt v16)) c_12 rfl rfl
        exact hKK (v15, zk) (show pL_would_L277 w8 (n + 1) v15 v16 zk = (v15, zk) by rw [pL_would_L277, if_pos c_12]).symm _ _ _ hP hD hS (lv_sub hl [0, 1, 2, 3, 4, 5, 6, 7, 8, 9, 10, 11, 12, 13, 14, 15] rfl)
      · have t_12 := i_nle (z := (Int32.toInt w8)) (w := (Int32.toInt v16)) c_12 rfl rfl
        refine lv_iload hx hb dL_would_284 (lv_at hl 15 rfl) ?_
        refine lv_aload hx hb dL_would_286 (lv_at hl 5 rfl) ?_
        refine lv_aload hx hb dL_would_288 (lv_at hl 6 rfl) ?_
        refine lv_aload hx hb dL_would_290 (lv_at hl 7 rfl) ?_
        refine gL_p wL_2 wL_2 hP hD hS hA (lr_S (As := [.ref (h2 1), .ref (h2 2), .ref (h2 3)]) (rest := [.int v15]) ⟨hx, hb, hml, hown, hts⟩ (ctL_hour l G cI cC cZ cR h2 zk (by exact g_0) (by omega)) (va_cwS 3 hts gL_would_L_hour rfl rfl rfl (by decide +kernel) ⟨Nat.le_of_ble_eq_true rfl, Nat.le_of_ble_eq_true rfl⟩) hK (hP.perm wL_2).left (va_D.leftD (hD.perm wL_2)) hN rfl hl.1 rfl (Nat.le_of_ble_eq_true rfl) dL_would_292 (Nat.zero_le _) (Nat.zero_le _)) (fun H locs hP hD hS => ?_)
        refine lv_iadd hx hb dL_would_295 ?_
        refine lv_istore (lv' := [(15, .int (v15 + ((pL_hour zk).1))), (0, .ref (ho 0)), (1, .int w1), (2, .ref (h 1)), (3, .ref (h 2)), (4, .ref (h 3)), (5, .ref (h2 1)), (6, .ref (h2 2)), (7, .ref (h2 3)), (8, .int w8), (9, .int w9), (10, .int w10), (11, .int w11), (12, .int w12), (13, .int w13), (14, .int w14), (16, .int v16)]) hx hb dL_would_296 hl (by decide) rfl (fun ls hl => ?_)
        refine lv_iinc (v := (v16 + 1)) (lv' := [(16, .int (v16 + 1)), (15, .int (v15 + ((pL_hour zk).1))), (0, .ref (ho 0)), (1, .int w1), (2, .ref (h 1)), (3, .ref (h 2)), (4, .ref (h 3)), (5, .ref (h2 1)), (6, .ref (h2 2)), (7, .ref (h2 3)), (8, .int w8), (9, .int w9), (10, .int w10), (11, .int w11), (12, .int w12), (13, .int w13), (14, .int w14)]) hx hb dL_would_298 hl (k := 16) rfl rfl (by decide) rfl (fun ls hl => ?_)
        have a_298 := i_add1 (a := v16) (by omega) (by omega)
        refine lv_goto (tgt := 277) hx hb dL_would_301 (by decide) ?_
        exact ih (v15 + ((pL_hour zk).1)) (v16 + 1) zt zq ((pL_hour zk).2) (by rw [a_298]; exact (HQ_hour g_0 (by omega)).mono (by omega)) (by omega) (by omega) (by omega) (by omega) (by omega) (fun t et => hKK t (et.trans (show pL_would_L277 w8 (n + 1) v15 v16 zk = pL_would_L277 w8 n (v15 + ((pL_hour zk).1)) (v16 + 1) ((pL_hour zk).2) by rw [pL_would_L277, if_neg c_12]).symm)) _ _ _ hP hD hS (lv_sub hl [2, 3, 4, 5, 6, 7, 8, 9, 10, 11, 12, 13, 14, 15, 16, 1, 0] rfl)
  have lp_233 : ∀ (w1 : Int32) (w8 : Int32) (w9 : Int32) (w10 : Int32) (w11 : Int32) (n : Nat) (v12 : Int32) (v13 : Int32) (v14 : Int32) (zt : TV) (zq : SR) (zk : SR), HQ B zq → Int32.toInt (zq.2 0 (ix 11)) ≤ 4 → -1 ≤ Int32.toInt v14 → Int32.toInt v14 ≤ 11 → 1 ≤ Int32.toInt w8 → Int32.toInt w8 ≤ 48 → B ≤ 50000 → Int32.toInt v14 + 1 < (n : Int) → (∀ t : Int32 × Int32 × SR, t = pL_would_L233 w8 n v12 v13 v14 zq zk → ∀ (H : Heap) (locs : List Loc) (ls : Array Slot), va_P G vwCl (wL cI cC cZ cR ho hh hp h h2 zt zq (t.2.2)) H → va_D A (wL cI cC cZ cR ho hh hp h h2 zt zq (t.2.2)) → va_S A s.heap H locs → lv_has ls 17 [(0, .ref (ho 0)), (1, .int w1), (2, .ref (h 1)), (3, .ref (h 2)), (4, .ref (h 3)), (5, .ref (h2 1)), (6, .ref (h2 2)), (7, .ref (h2 3)), (8, .int w8), (9, .int w9), (10, .int w10), (11, .int w11), (12, .int (t.1)), (13, .int (t.2.1))] → W p l e (rmz 6 139) s m ([.ref (ho 0), .int a2, .ref (h 1), .ref (h 2), .ref (h 3), .ref (h2 1), .ref (h2 2), .ref (h2 3)] : List Value).toArray below meth c H locs 0 0 (MQ below (QiA G A (pL_would a2 xt xq xk).1 (wL cI cC cZ cR ho hh hp h h2 ((pL_would a2 xt xq xk).2.1) xq ((pL_would a2 xt xq xk).2.2))) ([.ref (ho 0), .int a2, .ref (h 1), .ref (h 2), .ref (h 3), .ref (h2 1), .ref (h2 2), .ref (h2 3)] : List Value).toArray s 0 0 A) (F0 m 328 ls [])) → ∀ (H : Heap) (locs : List Loc) (ls : Array Slot), va_P G vwCl (wL cI cC cZ cR ho hh hp h h2 zt zq zk) H → va_D A (wL cI cC cZ cR ho hh hp h h2 zt zq zk) → va_S A s.heap H locs → lv_has ls 17 [(0, .ref (ho 0)), (1, .int w1), (2, .ref (h 1)), (3, .ref (h 2)), (4, .ref (h 3)), (5, .ref (h2 1)), (6, .ref (h2 2)), (7, .ref (h2 3)), (8, .int w8), (9, .int w9), (10, .int w10), (11, .int w11), (12, .int v12), (13, .int v13), (14, .int v14)] → W p l e (rmz 6 139) s m ([.ref (ho 0), .int a2, .ref (h 1), .ref (h 2), .ref (h 3), .ref (h2 1), .ref (h2 2), .ref (h2 3)] : List Value).toArray below meth c H locs 0 0 (MQ below (QiA G A (pL_would a2 xt xq xk).1 (wL cI cC cZ cR ho hh hp h h2 ((pL_would a2 xt xq xk).2.1) xq ((pL_would a2 xt xq xk).2.2))) ([.ref (ho 0), .int a2, .ref (h 1), .ref (h 2), .ref (h 3), .ref (h2 1), .ref (h2 2), .ref (h2 3)] : List Value).toArray s 0 0 A) (F0 m 233 ls []) := by
    intro w1 w8 w9 w10 w11 n
    induction n with
    | zero =>
      intro v12 v13 v14 zt zq zk g_0 g_1 g_2 g_3 g_4 g_5 g_6 hm
      exfalso; omega
    | succ n ih =>
      intro v12 v13 v14 zt zq zk g_0 g_1 g_2 g_3 g_4 g_5 g_6 hm hKK H locs ls hP hD hS hl
      obtain ⟨⟨hq1, hq2⟩, ⟨hq3, hq4⟩, ⟨hq5, hq6⟩, ⟨hq7, hq8⟩, hq9⟩ := id g_0
      refine lv_iload hx hb dL_would_233 (lv_at hl 14 rfl) ?_
      refine lv_if_lt (tgt := 328) hx hb dL_would_235 (by decide) (fun c_11 => ?_) (fun c_11 => ?_)
      · have t_11 := i_lt (z := (Int32.toInt v14)) (w := (0)) c_11 rfl (by decide)
        exact hKK (v12, v13, zk) (show pL_would_L233 w8 (n + 1) v12 v13 v14 zq zk = (v12, v13, zk) by rw [pL_would_L233, if_pos c_11]).symm _ _ _ hP hD hS (lv_sub hl [0, 1, 2, 3, 4, 5, 6, 7, 8, 9, 10, 11, 12, 13] rfl)
      · have t_11 := i_nlt (z := (Int32.toInt v14)) (w := (0)) c_11 rfl (by decide)
        refine lv_aload_n hx hb dL_would_238 rfl (lv_at hl 2 rfl) ?_
        refine lv_aload_n hx hb dL_would_239 rfl (lv_at hl 3 rfl) ?_
        refine lv_aload hx hb dL_would_240 (lv_at hl 4 rfl) ?_
        refine lv_aload hx hb dL_would_242 (lv_at hl 5 rfl) ?_
        refine lv_aload hx hb dL_would_244 (lv_at hl 6 rfl) ?_
        refine lv_aload hx hb dL_would_246 (lv_at hl 7 rfl) ?_
        refine gs_v hD hS hA (lr_S (As := [.ref (h 1), .ref (h 2), .ref (h 3), .ref (h2 1), .ref (h2 2), .ref (h2 3)]) (rest := []) ⟨hx, hb, hml, hown, hts⟩ (ctL_copy l G cI cC cZ cR ho hh hp h h2 zt zq zk) (va_cwS 6 hts gL_would_L_copy rfl rfl rfl (by decide +kernel) ⟨Nat.le_of_ble_eq_true rfl, Nat.le_of_ble_eq_true rfl⟩) hK hP hD hN rfl hl.1 rfl (Nat.le_of_ble_eq_true rfl) dL_would_248 (Nat.zero_le _) (Nat.zero_le _)) (fun H locs hP hD hS => ?_)
        refine lv_aload hx hb dL_would_251 (lv_at hl 7 rfl) ?_
        refine lv_iconst (v := 5) hx hb dL_would_253 (by decide) ?_
        refine lv_aload_n hx hb dL_would_254 rfl (lv_at hl 2 rfl) ?_
        refine lv_bipush (v := 11) hx hb dL_would_255 (by decide) ?_
        refine la_ld1 (v := zq.2 0 (ix 11)) hx hb hK hP 0 rfl (vp_in_iff.mpr ⟨by decide, by decide⟩) rfl dL_would_257 ?_
        refine lv_imul hx hb dL_would_258 ?_
        refine lv_iload hx hb dL_would_259 (lv_at hl 14 rfl) ?_
        refine la_st2 hx hb hK hP hD hS 2 rfl (e5_in (n := 5) (by first | with_reducible assumption | exact vp_in_iff.mpr ⟨by decide, by decide⟩ | exact vp_in_iff.mpr ⟨by omega, by omega⟩)) dL_would_261 (fun H locs hP hD hS => ?_)
        refine lv_aload hx hb dL_would_262 (lv_at hl 5 rfl) ?_
        refine lv_bipush (v := 11) hx hb dL_would_264 (by decide) ?_
        refine lv_dup2_11 hx hb dL_would_266 rfl rfl ?_
        refine la_ld2 (v := (pL_copy zq zk).2 0 (ix 11)) hx hb hK hP 0 rfl (vp_in_iff.mpr ⟨by decide, by decide⟩) (congrFun (pR_or (show (0 : Nat) ≠ 2 by decide)) _) dL_would_267 ?_
        refine lv_iconst (v := 1) hx hb dL_would_268 (by decide) ?_
        refine lv_iadd hx hb dL_would_269 ?_
        refine la_st2 hx hb hK hP hD hS 0 rfl (vp_in_iff.mpr ⟨by decide, by decide⟩) dL_would_270 (fun H locs hP hD hS => ?_)
        refine lv_iconst (v := 0) hx hb dL_would_271 (by decide) ?_
        refine lv_istore (lv' := [(15, .int 0), (0, .ref (ho 0)), (1, .int w1), (2, .ref (h 1)), (3, .ref (h 2)), (4, .ref (h 3)), (5, .ref (h2 1)), (6, .ref (h2 2)), (7, .ref (h2 3)), (8, .int w8), (9, .int w9), (10, .int w10), (11, .int w11), (12, .int v12), (13, .int v13), (14, .int v14)]) hx hb dL_would_272 hl (by decide) rfl (fun ls hl => ?_)
        refine lv_iconst (v := 0) hx hb dL_would_274 (by decide) ?_
        refine lv_istore (lv' := [(16, .int 0), (15, .int 0), (0, .ref (ho 0)), (1, .int w1), (2, .ref (h 1)), (3, .ref (h 2)), (4, .ref (h 3)), (5, .ref (h2 1)), (6, .ref (h2 2)), (7, .ref (h2 3)), (8, .int w8), (9, .int w9), (10, .int w10), (11, .int w11), (12, .int v12), (13, .int v13), (14, .int v14)]) hx hb dL_would_275 hl (by decide) rfl (fun ls hl => ?_)
        refine lp_277 w1 w8 w9 w10 w11 v12 v13 v14 49 0 0 zt zq (pR (pR (pL_copy zq zk) 2 (5 * (zq.2 0 (ix 11))) v14) 0 11 (((pL_copy zq zk).2 0 (ix 11)) + 1)) (by exact HQ_more0 g_0 g_1 (by omega) (by omega)) (by decide) (by have z0 : Int32.toInt 0 = 0 := rfl; omega) (by omega) (by omega) (by show _ < ((49 : Nat) : Int); have z0 : Int32.toInt 0 = 0 := rfl; omega) (fun t et H locs ls hP hD hS hl => ?_) _ _ _ hP hD hS (lv_sub hl [2, 3, 4, 5, 6, 7, 8, 9, 10, 11, 12, 13, 14, 15, 16, 1, 0] rfl)
        have et2 : t = (pL_would_E277 w8 v14 zq zk) := et
        clear et
        subst et2
        refine lv_iload hx hb dL_would_304 (lv_at hl 15 rfl) ?_
        refine lv_iload hx hb dL_would_306 (lv_at hl 13 rfl) ?_
        have j_5 : ∀ (u5_0 : Int32) (u5_1 : Int32), u5_0 = (pL_would_J322v12 w8 v12 v13 v14 zq zk) → u5_1 = (pL_would_J322v13 w8 v13 v14 zq zk) → ∀ (H : Heap) (locs : List Loc) (ls : Array Slot), va_P G vwCl (wL cI cC cZ cR ho hh hp h h2 zt zq ((pL_would_E277 w8 v14 zq zk).2)) H → va_D A (wL cI cC cZ cR ho hh hp h h2 zt zq ((pL_would_E277 w8 v14 zq zk).2)) → va_S A s.heap H locs → lv_has ls 17 [(12, .int u5_0), (13, .int u5_1), (0, .ref (ho 0)), (1, .int w1), (2, .ref (h 1)), (3, .ref (h 2)), (4, .ref (h 3)), (5, .ref (h2 1)), (6, .ref (h2 2)), (7, .ref (h2 3)), (8, .int w8), (9, .int w9), (10, .int w10), (11, .int w11), (14, .int v14), (15, .int ((pL_would_E277 w8 v14 zq zk).1))] → W p l e (rmz 6 139) s m ([.ref (ho 0), .int a2, .ref (h 1), .ref (h 2), .ref (h 3), .ref (h2 1), .ref (h2 2), .ref (h2 3)] : List Value).toArray below meth c H locs 0 0 (MQ below (QiA G A (pL_would a2 xt xq xk).1 (wL cI cC cZ cR ho hh hp h h2 ((pL_would a2 xt xq xk).2.1) xq ((pL_would a2 xt xq xk).2.2))) ([.ref (ho 0), .int a2, .ref (h 1), .ref (h 2), .ref (h 3), .ref (h2 1), .ref (h2 2), .ref (h2 3)] : List Value).toArray s 0 0 A) (F0 m 322 ls []) := by
          intro u5_0 u5_1 e0 e1 H locs ls hP hD hS hl
          subst e0 e1
          refine lv_iinc (v := (v14 + (-1))) (lv' := [(14, .int (v14 + (-1))), (12, .int (pL_would_J322v12 w8 v12 v13 v14 zq zk)), (13, .int (pL_would_J322v13 w8 v13 v14 zq zk)), (0, .ref (ho 0)), (1, .int w1), (2, .ref (h 1)), (3, .ref (h 2)), (4, .ref (h 3)), (5, .ref (h2 1)), (6, .ref (h2 2)), (7, .ref (h2 3)), (8, .int w8), (9, .int w9), (10, .int w10), (11, .int w11), (15, .int ((pL_would_E277 w8 v14 zq zk).1))]) hx hb dL_would_322 hl (k := 14) rfl rfl (by decide) rfl (fun ls hl => ?_)
          have a_322 := i_sub1 (a := v14) (by omega) (by omega)
          refine lv_goto (tgt := 233) hx hb dL_would_325 (by decide) ?_
          exact ih (pL_would_J322v12 w8 v12 v13 v14 zq zk) (pL_would_J322v13 w8 v13 v14 zq zk) (v14 + (-1)) zt zq ((pL_would_E277 w8 v14 zq zk).2) (by exact g_0) (by exact g_1) (by exact dn_lo a_322 (by with_reducible assumption)) (by exact dn_hi a_322 g_3) (by exact g_4) (by exact g_5) (by exact g_6) (by exact dn_m a_322 hm) (fun t et => hKK t (et.trans (show pL_would_L233 w8 (n + 1) v12 v13 v14 zq zk = pL_would_L233 w8 n (pL_would_J322v12 w8 v12 v13 v14 zq zk) (pL_would_J322v13 w8 v13 v14 zq zk) (v14 + (-1)) zq ((pL_would_E277 w8 v14 zq zk).2) by rw [pL_would_L233, if_neg c_11]).symm)) _ _ _ hP hD hS (lv_sub hl [3, 4, 5, 6, 7, 8, 9, 10, 11, 12, 13, 14, 1, 2, 0] rfl)
        refine lv_icmp_ge (tgt := 314) hx hb dL_would_308 (by decide) (fun c_13 => ?_) (fun c_13 => ?_)
        · have t_13 := i_le (z := (Int32.toInt v13)) (w := (Int32.toInt ((pL_would_E277 w8 v14 zq zk).1))) c_13 rfl rfl
          refine lv_iload hx hb dL_would_314 (lv_at hl 15 rfl) ?_
          refine lv_istore (lv' := [(13, .int ((pL_would_E277 w8 v14 zq zk).1)), (0, .ref (ho 0)), (1, .int w1), (2, .ref (h 1)), (3, .ref (h 2)), (4, .ref (h 3)), (5, .ref (h2 1)), (6, .ref (h2 2)), (7, .ref (h2 3)), (8, .int w8), (9, .int w9), (10, .int w10), (11, .int w11), (12, .int v12), (14, .int v14), (15, .int ((pL_would_E277 w8 v14 zq zk).1))]) hx hb dL_would_316 hl (by decide) rfl (fun ls hl => ?_)
          refine lv_iload hx hb dL_would_318 (lv_at hl 14 rfl) ?_
          refine lv_istore (lv' := [(12, .int v14), (13, .int ((pL_would_E277 w8 v14 zq zk).1)), (0, .ref (ho 0)), (1, .int w1), (2, .ref (h 1)), (3, .ref (h 2)), (4, .ref (h 3)), (5, .ref (h2 1)), (6, .ref (h2 2)), (7, .ref (h2 3)), (8, .int w8), (9, .int w9), (10, .int w10), (11, .int w11), (14, .int v14), (15, .int ((pL_would_E277 w8 v14 zq zk).1))]) hx hb dL_would_320 hl (by decide) rfl (fun ls hl => ?_)
          exact j_5 v14 ((pL_would_E277 w8 v14 zq zk).1) (by rw [pL_would_J322v12, if_pos c_13]) (by rw [pL_would_J322v13, if_pos c_13]) _ _ _ hP hD hS (lv_sub hl [0, 1, 2, 3, 4, 5, 6, 7, 8, 9, 10, 11, 12, 13, 14, 15] rfl)
        · have t_13 := i_nle (z := (Int32.toInt v13)) (w := (Int32.toInt ((pL_would_E277 w8 v14 zq zk).1))) c_13 rfl rfl
          refine lv_goto (tgt := 322) hx hb dL_would_311 (by decide) ?_
          exact j_5 v12 v13 (by rw [pL_would_J322v12, if_neg c_13]) (by rw [pL_would_J322v13, if_neg c_13]) _ _ _ hP hD hS (lv_sub hl [12, 13, 0, 1, 2, 3, 4, 5, 6, 7, 8, 9, 10, 11, 14, 15] rfl)
  refine lv_iconst (v := 1) hx hb dL_would_0 (by decide) ?_
  refine lv_iload_n hx hb dL_would_1 rfl (lv_at hl 1 rfl) ?_
  refine lv_bipush (v := 48) hx hb dL_would_2 (by decide) ?_
  refine gL_n hP hD hS hA (lr_S (As := [.int a2, .int 48]) (rest := [.int 1]) ⟨hx, hb, hml, hown, hts⟩ (ctL_low l G cI cC cZ cR a2 48 (by decide)) (va_cwS 2 hts gL_would_L_low rfl rfl rfl (by decide +kernel) ⟨Nat.le_of_ble_eq_true rfl, Nat.le_of_ble_eq_true rfl⟩) hK nilP (nilD (A := A)) hN rfl hl.1 rfl (Nat.le_of_ble_eq_true rfl) dL_would_4 (Nat.zero_le _) (Nat.zero_le _)) (fun H locs hP hD hS => ?_)
  refine lv_iadd hx hb dL_would_7 ?_
  refine lv_istore (lv' := [(8, .int (1 + (pL_low a2 48))), (0, .ref (ho 0)), (1, .int a2), (2, .ref (h 1)), (3, .ref (h 2)), (4, .ref (h 3)), (5, .ref (h2 1)), (6, .ref (h2 2)), (7, .ref (h2 3))]) hx hb dL_would_8 hl (by decide) rfl (fun ls hl => ?_)
  have hw := lo1_in (a2 := a2)
  refine lv_iconst (v := 0) hx hb dL_would_10 (by decide) ?_
  refine lv_istore (lv' := [(9, .int 0), (8, .int (1 + (pL_low a2 48))), (0, .ref (ho 0)), (1, .int a2), (2, .ref (h 1)), (3, .ref (h 2)), (4, .ref (h 3)), (5, .ref (h2 1)), (6, .ref (h2 2)), (7, .ref (h2 3))]) hx hb dL_would_11 hl (by decide) rfl (fun ls hl => ?_)
  refine lv_aload_n hx hb dL_would_13 rfl (lv_at hl 4 rfl) ?_
  refine lv_aload_n hx hb dL_would_14 rfl (lv_at hl 5 rfl) ?_
  refine lv_aload hx hb dL_would_15 (lv_at hl 6 rfl) ?_
  refine lv_aload hx hb dL_would_17 (lv_at hl 7 rfl) ?_
  refine lv_aload hx hb dL_would_19 (lv_at hl 8 rfl) ?_
  refine lv_aload hx hb dL_would_21 (lv_at hl 9 rfl) ?_
  refine gs_v hD hS hA (lr_S (As := [.ref (h 1), .ref (h 2), .ref (h 3), .ref (h2 1), .ref (h2 2), .ref (h2 3)]) (rest := []) ⟨hx, hb, hml, hown, hts⟩ (ctL_copy l G cI cC cZ cR ho hh hp h h2 xt xq xk) (va_cwS 6 hts gL_would_L_copy rfl rfl rfl (by decide +kernel) ⟨Nat.le_of_ble_eq_true rfl, Nat.le_of_ble_eq_true rfl⟩) hK hP hD hN rfl hl.1 rfl (Nat.le_of_ble_eq_true rfl) dL_would_23 (Nat.zero_le _) (Nat.zero_le _)) (fun H locs hP hD hS => ?_)
  refine lv_iconst (v := 0) hx hb dL_would_26 (by decide) ?_
  refine lv_istore (lv' := [(10, .int 0), (9, .int 0), (8, .int (1 + (pL_low a2 48))), (0, .ref (ho 0)), (1, .int a2), (2, .ref (h 1)), (3, .ref (h 2)), (4, .ref (h 3)), (5, .ref (h2 1)), (6, .ref (h2 2)), (7, .ref (h2 3))]) hx hb dL_would_27 hl (by decide) rfl (fun ls hl => ?_)
  refine lp_29 a2 (1 + (pL_low a2 48)) 0 49 0 xt xq (pL_copy xq xk) (by exact HQ_copy0 q_0) (by decide) (by have z0 : Int32.toInt 0 = 0 := rfl; omega) (by omega) (by omega) (by show _ < ((49 : Nat) : Int); have z0 : Int32.toInt 0 = 0 := rfl; omega) (fun t et H locs ls hP hD hS hl => ?_) _ _ _ hP hD hS (lv_sub hl [3, 4, 5, 6, 7, 8, 9, 10, 2, 1, 0] rfl)
  have et2 : t = (pL_would_E29 a2 xq xk) := et
  clear et
  subst et2
  refine lv_iconst (v := 0) hx hb dL_would_52 (by decide) ?_
  refine lv_istore (lv' := [(10, .int 0), (0, .ref (ho 0)), (1, .int a2), (2, .ref (h 1)), (3, .ref (h 2)), (4, .ref (h 3)), (5, .ref (h2 1)), (6, .ref (h2 2)), (7, .ref (h2 3)), (8, .int (1 + (pL_low a2 48))), (9, .int 0)]) hx hb dL_would_53 hl (by decide) rfl (fun ls hl => ?_)
  refine lp_55 a2 (1 + (pL_low a2 48)) 13 0 0 xt xq (pL_would_E29 a2 xq xk) (by first | decide | omega | assumption) (by first | decide | omega | assumption) (by decide) (fun t et H locs ls hP hD hS hl => ?_) _ _ _ hP hD hS (lv_sub hl [1, 2, 3, 4, 5, 6, 7, 8, 9, 10, 0] rfl)
  have et2 : t = (pL_would_E55 a2 xq xk) := et
  clear et
  subst et2
  refine lv_aload_n hx hb dL_would_101 rfl (lv_at hl 0 rfl) ?_
  refine lv_iload hx hb dL_would_102 (lv_at hl 8 rfl) ?_
  refine gL_p wL_X wL_X hP hD hS hA (lr_V (As := [.int (1 + (pL_low a2 48))]) (rest := []) ⟨hx, hb, hml, hown, hts⟩ (ctX2_willBeWet l G cI cC cZ cR ho hh hp xt (1 + (pL_low a2 48))) (cwV 1 hts gL_would_X2_willBeWet rfl rfl rfl (by decide +kernel) ⟨Nat.le_of_ble_eq_true rfl, Nat.le_of_ble_eq_true rfl⟩) (tx_recv hK (xL hP)) hK (xL hP) (xLD hD) hN rfl hl.1 rfl (Nat.le_of_ble_eq_true rfl) dL_would_104 (Nat.zero_le _) (Nat.zero_le _)) (fun H locs hP hD hS => ?_)
  refine lv_iload hx hb dL_would_107 (lv_at hl 9 rfl) ?_
  refine lv_icmp_eq (tgt := 114) hx hb dL_would_109 (by decide) (fun c_4 => ?_) (fun c_4 => ?_)
  · refine lv_iload_n hx hb dL_would_114 rfl (lv_at hl 1 rfl) ?_
    refine lv_iconst (v := 5) hx hb dL_would_115 (by decide) ?_
    refine lv_ishr hx hb dL_would_116 ?_
    refine lv_bipush (v := 12) hx hb dL_would_117 (by decide) ?_
    refine gL_n hP hD hS hA (lr_S (As := [.int (a2 >>> ((5 : Int32) &&& 31)), .int 12]) (rest := []) ⟨hx, hb, hml, hown, hts⟩ (ctL_low l G cI cC cZ cR (a2 >>> ((5 : Int32) &&& 31)) 12 (by decide)) (va_cwS 2 hts gL_would_L_low rfl rfl rfl (by decide +kernel) ⟨Nat.le_of_ble_eq_true rfl, Nat.le_of_ble_eq_true rfl⟩) hK nilP (nilD (A := A)) hN rfl hl.1 rfl (Nat.le_of_ble_eq_true rfl) dL_would_119 (Nat.zero_le _) (Nat.zero_le _)) (fun H locs hP hD hS => ?_)
    refine lv_istore (lv' := [(10, .int (pL_low (a2 >>> ((5 : Int32) &&& 31)) 12)), (0, .ref (ho 0)), (1, .int a2), (2, .ref (h 1)), (3, .ref (h 2)), (4, .ref (h 3)), (5, .ref (h2 1)), (6, .ref (h2 2)), (7, .ref (h2 3)), (8, .int (1 + (pL_low a2 48))), (9, .int (pL_would_E55 a2 xq xk))]) hx hb dL_would_122 hl (by decide) rfl (fun ls hl => ?_)
    have hpl := lo12_in (a := (a2 >>> ((5 : Int32) &&& 31)))
    refine lv_aload_n hx hb dL_would_124 rfl (lv_at hl 3 rfl) ?_
    refine lv_aload_n hx hb dL_would_125 rfl (lv_at hl 4 rfl) ?_
    refine lv_aload hx hb dL_would_126 (lv_at hl 5 rfl) ?_
    refine lv_aload hx hb dL_would_128 (lv_at hl 6 rfl) ?_
    refine lv_aload hx hb dL_would_130 (lv_at hl 7 rfl) ?_
    refine lv_aload hx hb dL_would_132 (lv_at hl 8 rfl) ?_
    refine gs_v hD hS hA (lr_S (As := [.ref (h 1), .ref (h 2), .ref (h 3), .ref (h2 1), .ref (h2 2), .ref (h2 3)]) (rest := []) ⟨hx, hb, hml, hown, hts⟩ (ctL_copy l G cI cC cZ cR ho hh hp h h2 ((pX2_willBeWet (1 + (pL_low a2 48)) xt).2) xq (pL_would_E29 a2 xq xk)) (va_cwS 6 hts gL_would_L_copy rfl rfl rfl (by decide +kernel) ⟨Nat.le_of_ble_eq_true rfl, Nat.le_of_ble_eq_true rfl⟩) hK hP hD hN rfl hl.1 rfl (Nat.le_of_ble_eq_true rfl) dL_would_134 (Nat.zero_le _) (Nat.zero_le _)) (fun H locs hP hD hS => ?_)
    refine lv_iconst (v := 0) hx hb dL_would_137 (by decide) ?_
    refine lv_istore (lv' := [(11, .int 0), (10, .int (pL_low (a2 >>> ((5 : Int32) &&& 31)) 12)), (0, .ref (ho 0)), (1, .int a2), (2, .ref (h 1)), (3, .ref (h 2)), (4, .ref (h 3)), (5, .ref (h2 1)), (6, .ref (h2 2)), (7, .ref (h2 3)), (8, .int (1 + (pL_low a2 48))), (9, .int (pL_would_E55 a2 xq xk))]) hx hb dL_would_138 hl (by decide) rfl (fun ls hl => ?_)
    refine lp_140 a2 (1 + (pL_low a2 48)) (pL_would_E55 a2 xq xk) (pL_low (a2 >>> ((5 : Int32) &&& 31)) 12) 98 0 ((pX2_willBeWet (1 + (pL_low a2 48)) xt).2) xq (pL_copy xq (pL_would_E29 a2 xq xk)) (by exact HQ_copy0 q_0) (by decide) (by decide) (by omega) (by omega) (by omega) (by decide) (fun t et H locs ls hP hD hS hl => ?_) _ _ _ hP hD hS (lv_sub hl [2, 3, 4, 5, 6, 7, 8, 9, 10, 11, 1, 0] rfl)
    have et2 : t = (pL_would_E140 a2 xq xk) := et
    clear et
    subst et2
    refine lv_aload_n hx hb dL_would_185 rfl (lv_at hl 0 rfl) ?_
    refine lv_iload hx hb dL_would_186 (lv_at hl 10 rfl) ?_
    refine gL_p wL_X wL_X hP hD hS hA (lr_V (As := [.int (pL_low (a2 >>> ((5 : Int32) &&& 31)) 12)]) (rest := []) ⟨hx, hb, hml, hown, hts⟩ (ctX2_coveredIn l G cI cC cZ cR ho hh hp ((pX2_willBeWet (1 + (pL_low a2 48)) xt).2) (pL_low (a2 >>> ((5 : Int32) &&& 31)) 12)) (cwV 1 hts gL_would_X2_coveredIn rfl rfl rfl (by decide +kernel) ⟨Nat.le_of_ble_eq_true rfl, Nat.le_of_ble_eq_true rfl⟩) (tx_recv hK (xL hP)) hK (xL hP) (xLD hD) hN rfl hl.1 rfl (Nat.le_of_ble_eq_true rfl) dL_would_188 (Nat.zero_le _) (Nat.zero_le _)) (fun H locs hP hD hS => ?_)
    refine lv_aload_n hx hb dL_would_191 rfl (lv_at hl 3 rfl) ?_
    refine lv_iconst (v := 5) hx hb dL_would_192 (by decide) ?_
    refine lv_iload hx hb dL_would_193 (lv_at hl 10 rfl) ?_
    refine lv_imul hx hb dL_would_195 ?_
    refine la_ld1 (v := xq.2 1 (ix (5 * (pL_low (a2 >>> ((5 : Int32) &&& 31)) 12)))) hx hb hK hP 1 rfl (e5_in (n := 12) (by first | with_reducible assumption | exact vp_in_iff.mpr ⟨by decide, by decide⟩ | exact vp_in_iff.mpr ⟨by omega, by omega⟩)) rfl dL_would_196 ?_
    have j_3 : ∀ (u3_0 : Int32), u3_0 = (pL_would_J218s0 a2 xq xk) → ∀ (H : Heap) (locs : List Loc) (ls : Array Slot), va_P G vwCl (wL cI cC cZ cR ho hh hp h h2 ((pX2_coveredIn (pL_low (a2 >>> ((5 : Int32) &&& 31)) 12) ((pX2_willBeWet (1 + (pL_low a2 48)) xt).2)).2) xq ((pL_would_E140 a2 xq xk).2)) H → va_D A (wL cI cC cZ cR ho hh hp h h2 ((pX2_coveredIn (pL_low (a2 >>> ((5 : Int32) &&& 31)) 12) ((pX2_willBeWet (1 + (pL_low a2 48)) xt).2)).2) xq ((pL_would_E140 a2 xq xk).2)) → va_S A s.heap H locs → lv_has ls 17 [(0, .ref (ho 0)), (1, .int a2), (2, .ref (h 1)), (3, .ref (h 2)), (4, .ref (h 3)), (5, .ref (h2 1)), (6, .ref (h2 2)), (7, .ref (h2 3)), (8, .int (1 + (pL_low a2 48))), (9, .int (pL_would_E55 a2 xq xk)), (10, .int (pL_low (a2 >>> ((5 : Int32) &&& 31)) 12)), (11, .int ((pL_would_E140 a2 xq xk).1))] → W p l e (rmz 6 139) s m ([.ref (ho 0), .int a2, .ref (h 1), .ref (h 2), .ref (h 3), .ref (h2 1), .ref (h2 2), .ref (h2 3)] : List Value).toArray below meth c H locs 0 0 (MQ below (QiA G A (pL_would a2 xt xq xk).1 (wL cI cC cZ cR ho hh hp h h2 ((pL_would a2 xt xq xk).2.1) xq ((pL_would a2 xt xq xk).2.2))) ([.ref (ho 0), .int a2, .ref (h 1), .ref (h 2), .ref (h 3), .ref (h2 1), .ref (h2 2), .ref (h2 3)] : List Value).toArray s 0 0 A) (F0 m 218 ls [.int u3_0, .int ((pX2_coveredIn (pL_low (a2 >>> ((5 : Int32) &&& 31)) 12) ((pX2_willBeWet (1 + (pL_low a2 48)) xt).2)).1)]) := by
      intro u3_0 e0 H locs ls hP hD hS hl
      subst e0
      refine lv_icmp_eq (tgt := 223) hx hb dL_would_218 (by decide) (fun c_10 => ?_) (fun c_10 => ?_)
      · refine lv_iconst (v := 0) hx hb dL_would_223 (by decide) ?_
        refine lv_istore (lv' := [(12, .int 0), (0, .ref (ho 0)), (1, .int a2), (2, .ref (h 1)), (3, .ref (h 2)), (4, .ref (h 3)), (5, .ref (h2 1)), (6, .ref (h2 2)), (7, .ref (h2 3)), (8, .int (1 + (pL_low a2 48))), (9, .int (pL_would_E55 a2 xq xk)), (10, .int (pL_low (a2 >>> ((5 : Int32) &&& 31)) 12)), (11, .int ((pL_would_E140 a2 xq xk).1))]) hx hb dL_would_224 hl (by decide) rfl (fun ls hl => ?_)
        refine lv_iconst (v := (-1)) hx hb dL_would_226 (by decide) ?_
        refine lv_istore (lv' := [(13, .int (-1)), (12, .int 0), (0, .ref (ho 0)), (1, .int a2), (2, .ref (h 1)), (3, .ref (h 2)), (4, .ref (h 3)), (5, .ref (h2 1)), (6, .ref (h2 2)), (7, .ref (h2 3)), (8, .int (1 + (pL_low a2 48))), (9, .int (pL_would_E55 a2 xq xk)), (10, .int (pL_low (a2 >>> ((5 : Int32) &&& 31)) 12)), (11, .int ((pL_would_E140 a2 xq xk).1))]) hx hb dL_would_227 hl (by decide) rfl (fun ls hl => ?_)
        refine lv_bipush (v := 11) hx hb dL_would_229 (by decide) ?_
        refine lv_istore (lv' := [(14, .int 11), (13, .int (-1)), (12, .int 0), (0, .ref (ho 0)), (1, .int a2), (2, .ref (h 1)), (3, .ref (h 2)), (4, .ref (h 3)), (5, .ref (h2 1)), (6, .ref (h2 2)), (7, .ref (h2 3)), (8, .int (1 + (pL_low a2 48))), (9, .int (pL_would_E55 a2 xq xk)), (10, .int (pL_low (a2 >>> ((5 : Int32) &&& 31)) 12)), (11, .int ((pL_would_E140 a2 xq xk).1))]) hx hb dL_would_231 hl (by decide) rfl (fun ls hl => ?_)
        refine lp_233 a2 (1 + (pL_low a2 48)) (pL_would_E55 a2 xq xk) (pL_low (a2 >>> ((5 : Int32) &&& 31)) 12) ((pL_would_E140 a2 xq xk).1) 13 0 (-1) 11 ((pX2_coveredIn (pL_low (a2 >>> ((5 : Int32) &&& 31)) 12) ((pX2_willBeWet (1 + (pL_low a2 48)) xt).2)).2) xq ((pL_would_E140 a2 xq xk).2) (by exact q_0) (by exact q_2) (by decide) (by decide) (by omega) (by omega) (by omega) (by decide) (fun t et H locs ls hP hD hS hl => ?_) _ _ _ hP hD hS (lv_sub hl [3, 4, 5, 6, 7, 8, 9, 10, 11, 12, 13, 14, 2, 1, 0] rfl)
        have et2 : t = (pL_would_E233 a2 xq xk) := et
        clear et
        subst et2
        refine lv_aload_n hx hb dL_would_328 rfl (lv_at hl 0 rfl) ?_
        refine lv_iload hx hb dL_would_329 (lv_at hl 8 rfl) ?_
        refine lv_iconst (v := 0) hx hb dL_would_331 (by decide) ?_
        refine gL_p wL_X wL_X hP hD hS hA (lr_V (As := [.int (1 + (pL_low a2 48)), .int 0]) (rest := []) ⟨hx, hb, hml, hown, hts⟩ (ctX2_bestPlace l G cI cC cZ cR ho hh hp ((pX2_coveredIn (pL_low (a2 >>> ((5 : Int32) &&& 31)) 12) ((pX2_willBeWet (1 + (pL_low a2 48)) xt).2)).2) (1 + (pL_low a2 48)) 0) (cwV 2 hts gL_would_X2_bestPlace rfl rfl rfl (by decide +kernel) ⟨Nat.le_of_ble_eq_true rfl, Nat.le_of_ble_eq_true rfl⟩) (tx_recv hK (xL hP)) hK (xL hP) (xLD hD) hN rfl hl.1 rfl (Nat.le_of_ble_eq_true rfl) dL_would_332 (Nat.zero_le _) (Nat.zero_le _)) (fun H locs hP hD hS => ?_)
        refine lv_iload hx hb dL_would_335 (lv_at hl 12 rfl) ?_
        refine lv_icmp_ne (tgt := 356) hx hb dL_would_337 (by decide) (fun c_14 => ?_) (fun c_14 => ?_)
        · refine lv_iconst (v := 0) hx hb dL_would_356 (by decide) ?_
          exact rt_w (show pL_would a2 xt xq xk = ((0 : Int32), (pX2_bestPlace (1 + (pL_low a2 48)) 0 ((pX2_coveredIn (pL_low (a2 >>> ((5 : Int32) &&& 31)) 12) ((pX2_willBeWet (1 + (pL_low a2 48)) xt).2)).2)).2, ((pL_would_E233 a2 xq xk).2.2)) by rw [pL_would, if_pos c_4, if_pos c_10, if_neg c_14]) hx hb hr hlocks hP hD hS rfl dL_would_357
        · refine lv_aload_n hx hb dL_would_340 rfl (lv_at hl 0 rfl) ?_
          refine lv_iload hx hb dL_would_341 (lv_at hl 8 rfl) ?_
          refine lv_iconst (v := 1) hx hb dL_would_343 (by decide) ?_
          refine gL_p wL_X wL_X hP hD hS hA (lr_V (As := [.int (1 + (pL_low a2 48)), .int 1]) (rest := []) ⟨hx, hb, hml, hown, hts⟩ (ctX2_bestPlace l G cI cC cZ cR ho hh hp ((pX2_bestPlace (1 + (pL_low a2 48)) 0 ((pX2_coveredIn (pL_low (a2 >>> ((5 : Int32) &&& 31)) 12) ((pX2_willBeWet (1 + (pL_low a2 48)) xt).2)).2)).2) (1 + (pL_low a2 48)) 1) (cwV 2 hts gL_would_X2_bestPlace rfl rfl rfl (by decide +kernel) ⟨Nat.le_of_ble_eq_true rfl, Nat.le_of_ble_eq_true rfl⟩) (tx_recv hK (xL hP)) hK (xL hP) (xLD hD) hN rfl hl.1 rfl (Nat.le_of_ble_eq_true rfl) dL_would_344 (Nat.zero_le _) (Nat.zero_le _)) (fun H locs hP hD hS => ?_)
          refine lv_iload hx hb dL_would_347 (lv_at hl 13 rfl) ?_
          refine lv_icmp_ne (tgt := 356) hx hb dL_would_349 (by decide) (fun c_15 => ?_) (fun c_15 => ?_)
          · refine lv_iconst (v := 0) hx hb dL_would_356 (by decide) ?_
            exact rt_w (show pL_would a2 xt xq xk = ((0 : Int32), (pX2_bestPlace (1 + (pL_low a2 48)) 1 ((pX2_bestPlace (1 + (pL_low a2 48)) 0 ((pX2_coveredIn (pL_low (a2 >>> ((5 : Int32) &&& 31)) 12) ((pX2_willBeWet (1 + (pL_low a2 48)) xt).2)).2)).2)).2, ((pL_would_E233 a2 xq xk).2.2)) by rw [pL_would, if_pos c_4, if_pos c_10, if_pos c_14, if_neg c_15]) hx hb hr hlocks hP hD hS rfl dL_would_357
          · refine lv_iconst (v := 1) hx hb dL_would_352 (by decide) ?_
            refine lv_goto (tgt := 357) hx hb dL_would_353 (by decide) ?_
            exact rt_w (show pL_would a2 xt xq xk = ((1 : Int32), (pX2_bestPlace (1 + (pL_low a2 48)) 1 ((pX2_bestPlace (1 + (pL_low a2 48)) 0 ((pX2_coveredIn (pL_low (a2 >>> ((5 : Int32) &&& 31)) 12) ((pX2_willBeWet (1 + (pL_low a2 48)) xt).2)).2)).2)).2, ((pL_would_E233 a2 xq xk).2.2)) by rw [pL_would, if_pos c_4, if_pos c_10, if_pos c_14, if_pos c_15]) hx hb hr hlocks hP hD hS rfl dL_would_357
      · refine lv_iconst (v := 0) hx hb dL_would_221 (by decide) ?_
        exact rt_w (show pL_would a2 xt xq xk = ((0 : Int32), (pX2_coveredIn (pL_low (a2 >>> ((5 : Int32) &&& 31)) 12) ((pX2_willBeWet (1 + (pL_low a2 48)) xt).2)).2, ((pL_would_E140 a2 xq xk).2)) by rw [pL_would, if_pos c_4, if_neg c_10]) hx hb hr hlocks hP hD hS rfl dL_would_222
    refine lv_if_ge (tgt := 204) hx hb dL_would_197 (by decide) (fun c_8 => ?_) (fun c_8 => ?_)
    · have t_8 := i_le (z := (0)) (w := (Int32.toInt (xq.2 1 (ix (5 * (pL_low (a2 >>> ((5 : Int32) &&& 31)) 12)))))) c_8 (by decide) rfl
      refine lv_iload hx hb dL_would_204 (lv_at hl 11 rfl) ?_
      refine lv_bipush (v := 96) hx hb dL_would_206 (by decide) ?_
      refine lv_icmp_le (tgt := 216) hx hb dL_would_208 (by decide) (fun c_9 => ?_) (fun c_9 => ?_)
      · have t_9 := i_le (z := (Int32.toInt ((pL_would_E140 a2 xq xk).1))) (w := (96)) c_9 rfl (by decide)
        refine lv_iload hx hb dL_would_216 (lv_at hl 11 rfl) ?_
        exact j_3 ((pL_would_E140 a2 xq xk).1) (by rw [pL_would_J218s0, if_pos c_8, if_pos c_9]) _ _ _ hP hD hS (lv_sub hl [0, 1, 2, 3, 4, 5, 6, 7, 8, 9, 10, 11] rfl)
      · have t_9 := i_nle (z := (Int32.toInt ((pL_would_E140 a2 xq xk).1))) (w := (96)) c_9 rfl (by decide)
        refine lv_bipush (v := (-6)) hx hb dL_would_211 (by decide) ?_
        refine lv_goto (tgt := 218) hx hb dL_would_213 (by decide) ?_
        exact j_3 (-6) (by rw [pL_would_J218s0, if_pos c_8, if_neg c_9]) _ _ _ hP hD hS (lv_sub hl [0, 1, 2, 3, 4, 5, 6, 7, 8, 9, 10, 11] rfl)
    · have t_8 := i_nle (z := (0)) (w := (Int32.toInt (xq.2 1 (ix (5 * (pL_low (a2 >>> ((5 : Int32) &&& 31)) 12)))))) c_8 (by decide) rfl
      refine lv_iconst (v := (-1)) hx hb dL_would_200 (by decide) ?_
      refine lv_goto (tgt := 218) hx hb dL_would_201 (by decide) ?_
      exact j_3 (-1) (by rw [pL_would_J218s0, if_neg c_8]) _ _ _ hP hD hS (lv_sub hl [0, 1, 2, 3, 4, 5, 6, 7, 8, 9, 10, 11] rfl)
  · refine lv_iconst (v := 0) hx hb dL_would_112 (by decide) ?_
    exact rt_w (show pL_would a2 xt xq xk = ((0 : Int32), (pX2_willBeWet (1 + (pL_low a2 48)) xt).2, (pL_would_E29 a2 xq xk)) by rw [pL_would, if_neg c_4]) hx hb hr hlocks hP hD hS rfl dL_would_113
