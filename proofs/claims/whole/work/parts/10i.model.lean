theorem keeperComes_L (a1 : Int32) : ∀ (n : Nat) (v2 v3 : Int32) (x : SR), vp_in v2 5 → 0 ≤ Int32.toInt v3 → (∀ k, k ≠ 0 → (pX3_keeperComes_L10 a1 n v2 v3 x).2.2 k = x.2 k) ∧ (pX3_keeperComes_L10 a1 n v2 v3 x).2.1 = x.1 ∧ ((pX3_keeperComes_L10 a1 n v2 v3 x).2.2 0 (ix 0) = x.2 0 (ix 0) ∧ (pX3_keeperComes_L10 a1 n v2 v3 x).2.2 0 (ix 6) = x.2 0 (ix 6)) ∧ ((pX3_keeperComes_L10 a1 n v2 v3 x).2.2 0 (ix 11) = x.2 0 (ix 11) ∨ (pX3_keeperComes_L10 a1 n v2 v3 x).2.2 0 (ix 11) = x.2 0 (ix 11) + 1) := by
  intro n
  induction n with
  | zero => intro v2 v3 x h1 h2; rw [pX3_keeperComes_L10]; exact ⟨fun _ _ => rfl, rfl, ⟨rfl, rfl⟩, Or.inl rfl⟩
  | succ n ih =>
    intro v2 v3 x h1 h2
    rw [pX3_keeperComes_L10]
    by_cases h : 5 ≤ v3
    · rw [if_pos h]
      have e := pR_at x 0 11 (x.2 0 (ix 11) + 1)
      refine ⟨fun k hk => up_ne x.2 _ hk, rfl, ⟨?_, ?_⟩, Or.inr ?_⟩
      · show (pR x 0 11 (x.2 0 (ix 11) + 1)).2 0 (ix 0) = _
        rw [e, up_ne _ _ (show ix 0 ≠ ix 11 by decide)]
      · show (pR x 0 11 (x.2 0 (ix 11) + 1)).2 0 (ix 6) = _
        rw [e, up_ne _ _ (show ix 6 ≠ ix 11 by decide)]
      · show (pR x 0 11 (x.2 0 (ix 11) + 1)).2 0 (ix 11) = _
        rw [e, up_same]
    · rw [if_neg h]
      have t := i_nle (z := 5) (w := Int32.toInt v3) h (by decide) rfl
      have a := i_add1 (a := v3) (by omega) (by omega)
      have g := kp_ge h1 (vp_in_iff.mpr ⟨h2, show Int32.toInt v3 < ((5 : Nat) : Int) by omega⟩)
      have key : ∀ w : Int32, KP x (pR x 0 ((84 + (5 * v2)) + v3) w) := fun w => KP_R ⟨by omega, by omega, by omega⟩
      by_cases h3 : v3 = 0
      · rw [if_pos h3]
        obtain ⟨e1, e2, ⟨e3, e4⟩, e5⟩ := ih v2 (v3 + 1) (pR x 0 ((84 + (5 * v2)) + v3) a1) h1 (by omega)
        obtain ⟨k1, -, k3, k4, k5⟩ := key a1
        rw [k5] at e5
        exact ⟨fun k hk => (e1 k hk).trans (k1 k hk), e2, ⟨e3.trans k3, e4.trans k4⟩, e5⟩
      · rw [if_neg h3]
        obtain ⟨e1, e2, ⟨e3, e4⟩, e5⟩ := ih v2 (v3 + 1) (pR x 0 ((84 + (5 * v2)) + v3) 0) h1 (by omega)
        obtain ⟨k1, -, k3, k4, k5⟩ := key 0
        rw [k5] at e5
        exact ⟨fun k hk => (e1 k hk).trans (k1 k hk), e2, ⟨e3.trans k3, e4.trans k4⟩, e5⟩
theorem keeperComes_M (a1 : Int32) {x : SR} (h : Mf (x.2 0)) : MI (pX3_keeperComes a1 x).2 ∧ (pX3_keeperComes a1 x).2.2 1 = x.2 1 := by
  have h0 := h.1.2.2.1
  have h4 := h.2
  have hv : vp_in (x.2 0 (ix 11)) 5 := vp_in_iff.mpr ⟨by omega, by omega⟩
  have e0 : pX3_keeperComes a1 x = pX3_keeperComes_L10 a1 6 (x.2 0 (ix 11)) 0 x := by rw [pX3_keeperComes]
  rw [e0]
  obtain ⟨e1, -, ⟨e3, e4⟩, e5⟩ := keeperComes_L a1 6 (x.2 0 (ix 11)) 0 x hv (by decide)
  refine ⟨?_, e1 1 (by decide)⟩
  unfold MI MIa
  rw [e3, e4]
  have a := i_add1 (a := x.2 0 (ix 11)) (by omega) (by omega)
  refine ⟨h.1.1, h.1.2.1, ?_⟩
  rcases e5 with e5 | e5 <;> rw [e5] <;> omega
theorem Mf_back {x : SR} (h : Mf (x.2 1)) : Mf ((pX3_moves 1 0 0 0 x).2 0) := by
  have e := moves_eq (k1 := 1) (k3 := 0) 0 0 x (by decide) (by decide) (by decide)
  rw [nI_0] at e
  rw [e]
  show Mf (up x.2 0 (cpA (x.2 1) (x.2 0) 0 0 109) 0)
  rw [up_same]
  exact Mf.cp h
theorem Mf_fwd {x : SR} (h : Mf (x.2 0)) : Mf ((pX3_moves 0 0 1 0 x).2 1) ∧ Mf ((pX3_moves 0 0 1 0 x).2 0) := by
  have e := moves_eq (k1 := 0) (k3 := 1) 0 0 x (by decide) (by decide) (by decide)
  rw [nI_0] at e
  rw [e]
  exact ⟨by show Mf (up x.2 1 (cpA (x.2 0) (x.2 1) 0 0 109) 1); rw [up_same]; exact Mf.cp h, by show Mf (up x.2 1 (cpA (x.2 0) (x.2 1) 0 0 109) 0); rw [up_ne _ _ (show (0 : Nat) ≠ 1 by decide)]; exact h⟩
theorem best_step {a1 p : Int32} {x : SR} (h0 : Mf (x.2 0)) (h1 : Mf (x.2 1)) : Mf ((pX3_passes a1 (pX3_keeperComes p x).2).2.2 1) := by
  have k := keeperComes_M p h0
  have q := (passes_K (a1 := a1) k.1).1 1 (by decide)
  rw [q, k.2]
  exact h1
def pX3_bestPlace_L44 (a1 : Int32) (a2 : Int32) : Nat → Int32 → Int32 → Int32 → SR → Int32 × SR
  | 0, v3, v4, v5, x => (0, x)
  | n + 1, v3, v4, v5, x => if 12 ≤ v5 then if a2 = 0 then (v3, x)
      else (v4, x)
    else if ((pX3_passes a1 (pX3_keeperComes v5 x).2).1) ≤ v4 then pX3_bestPlace_L44 a1 a2 n v3 v4 (v5 + 1) (pX3_moves 1 0 0 0 (pX3_passes a1 (pX3_keeperComes v5 x).2).2)
      else pX3_bestPlace_L44 a1 a2 n v5 ((pX3_passes a1 (pX3_keeperComes v5 x).2).1) (v5 + 1) (pX3_moves 1 0 0 0 (pX3_passes a1 (pX3_keeperComes v5 x).2).2)
def pX3_bestPlace (a1 : Int32) (a2 : Int32) (x : SR) : Int32 × SR := if (pX3_within a1 1 48) = 0 then (((-2) : Int32), x)
  else if (pX3_within a2 0 1) = 0 then (((-2) : Int32), x)
    else pX3_bestPlace_L44 a1 a2 13 (-6) (-1) 0 (pX3_moves 0 0 1 0 x)
set_option maxHeartbeats 4000000 in
set_option maxRecDepth 100000 in
theorem ctX3_bestPlace (l : Launch) (G : va_G) (cI cC cZ cR : ClassId) (h : Ad) (x : SR) (a1 : Int32) (a2 : Int32) (q_0 : Mf (x.2 0)) : Ct l yX3_bestPlace wsX3_bestPlace (rmz 10 223) G (TY cI cC cZ cR) [.ref (h 0), .int a1, .int a2] (wMo cI h x) (Qi G (wMo cI h x) (pX3_bestPlace a1 a2 x).1 (wMo cI h (pX3_bestPlace a1 a2 x).2)) := by
  refine Ct.ofI (cc := cX3_bestPlace) (maxL := 7) (ret := (some .int)) (by decide) rfl rfl ?_
  intro p e s m below meth c A ls E0 hP hD hS hl
  obtain ⟨hx, hb, hr, hml, hlocks, hts, hown, hK, hN, hA⟩ := E0
  have hl : lv_has ls 7 [(0, .ref (h 0)), (1, .int a1), (2, .int a2)] := hl
  have hin : ∀ w ∈ wsX30, w ∈ wsX3_bestPlace := fun w hw => List.mem_cons_of_mem _ (List.mem_append_right _ (hw))
  have k_7 : (Cond.fieldLink RX3 7 RX3 (TX3 0).2.1 (TX3 0).2.2.1).before ([.ref (h 0), .int a1, .int a2] : List Value).toArray s = true := hts _ (List.mem_of_getElem? (i := 1) rfl)
  have k_13 : (Cond.fieldLink RX3 13 RX3 (TX3 1).2.1 (TX3 1).2.2.1).before ([.ref (h 0), .int a1, .int a2] : List Value).toArray s = true := hts _ (List.mem_of_getElem? (i := 2) rfl)
  generalize hres : pX3_bestPlace a1 a2 x = res
  have lp_44 : ∀ (n : Nat) (v3 : Int32) (v4 : Int32) (v5 : Int32) (x : SR), 0 ≤ Int32.toInt v5 → Int32.toInt v5 ≤ 12 → Mf (x.2 0) → Mf (x.2 1) → 0 ≤ Int32.toInt a1 ∧ Int32.toInt a1 ≤ 99 → 12 - Int32.toInt v5 < (n : Int) → pX3_bestPlace_L44 a1 a2 n v3 v4 v5 x = res → ∀ (H : Heap) (locs : List Loc) (ls : Array Slot), va_P G vwCl (wMo cI h x) H → va_D A (wMo cI h x) → va_S A s.heap H locs → lv_has ls 7 [(0, .ref (h 0)), (1, .int a1), (2, .int a2), (3, .int v3), (4, .int v4), (5, .int v5)] → W p l e (rmz 10 223) s m ([.ref (h 0), .int a1, .int a2] : List Value).toArray below meth c H locs 0 0 (MQ below (QiA G A res.1 (wMo cI h res.2)) ([.ref (h 0), .int a1, .int a2] : List Value).toArray s 0 0 A) (F0 m 44 ls []) := by
    intro n
    induction n with
    | zero =>
      intro v3 v4 v5 x g_0 g_1 g_2 g_3 g_4 hm
      exfalso; omega
    | succ n ih =>
      intro v3 v4 v5 x g_0 g_1 g_2 g_3 g_4 hm hq H locs ls hP hD hS hl
      refine lv_iload hx hb dX3_bestPlace_44 (lv_at hl 5 rfl) ?_
      refine lv_bipush (v := 12) hx hb dX3_bestPlace_46 (by decide) ?_
      refine lv_icmp_ge (tgt := 114) hx hb dX3_bestPlace_48 (by decide) (fun c_3 => ?_) (fun c_3 => ?_)
      · have t_3 := i_le (z := (12)) (w := (Int32.toInt v5)) c_3 (by decide) rfl
        refine lv_iload_n hx hb dX3_bestPlace_114 rfl (lv_at hl 2 rfl) ?_
        refine lv_if_ne (tgt := 122) hx hb dX3_bestPlace_115 (by decide) (fun c_4 => ?_) (fun c_4 => ?_)
        · refine lv_iload hx hb dX3_bestPlace_122 (lv_at hl 4 rfl) ?_
          exact rt_b hx hb hr hlocks hP hD hS rfl ((show pX3_bestPlace_L44 a1 a2 (n + 1) v3 v4 v5 x = (v4, x) by rw [pX3_bestPlace_L44, if_pos c_3, if_neg c_4]).symm.trans hq |>.symm) dX3_bestPlace_124
        · refine lv_iload_n hx hb dX3_bestPlace_118 rfl (lv_at hl 3 rfl) ?_
          refine lv_goto (tgt := 124) hx hb dX3_bestPlace_119 (by decide) ?_
          exact rt_b hx hb hr hlocks hP hD hS rfl ((show pX3_bestPlace_L44 a1 a2 (n + 1) v3 v4 v5 x = (v3, x) by rw [pX3_bestPlace_L44, if_pos c_3, if_pos c_4]).symm.trans hq |>.symm) dX3_bestPlace_124
      · have t_3 := i_nle (z := (12)) (w := (Int32.toInt v5)) c_3 (by decide) rfl
        refine lv_aload_n hx hb dX3_bestPlace_51 rfl (lv_at hl 0 rfl) ?_
        refine lv_iload hx hb dX3_bestPlace_52 (lv_at hl 5 rfl) ?_
        refine go_i hD hS hA (rn_V (As := [.int v5]) (rest := []) ⟨hx, hb, hml, hown, hts⟩ (ctX3_keeperComes l G cI cC cZ cR h x v5 (by exact g_2.1.2.2.1) (by exact g_2.2)) (cwV 1 hts gX3_bestPlace_X3_keeperComes rfl rfl rfl (by decide +kernel) ⟨Nat.le_of_ble_eq_true rfl, Nat.le_of_ble_eq_true rfl⟩) (md_recv hK hP rfl) hK hP hD hN rfl hl.1 rfl (Nat.le_of_ble_eq_true rfl) dX3_bestPlace_54) (fun H locs hP hD hS => ?_)
        refine lv_pop hx hb dX3_bestPlace_57 rfl ?_
        refine lv_aload_n hx hb dX3_bestPlace_58 rfl (lv_at hl 0 rfl) ?_
        refine lv_iload_n hx hb dX3_bestPlace_59 rfl (lv_at hl 1 rfl) ?_
        refine go_i hD hS hA (rn_V (As := [.int a1]) (rest := []) ⟨hx, hb, hml, hown, hts⟩ (ctX3_passes l G cI cC cZ cR h (pX3_keeperComes v5 x).2 a1 (by exact g_4.1) (by exact g_4.2) (by exact (keeperComes_M _ g_2).1)) (cwV 1 hts gX3_bestPlace_X3_passes rfl rfl rfl (by decide +kernel) ⟨Nat.le_of_ble_eq_true rfl, Nat.le_of_ble_eq_true rfl⟩) (md_recv hK hP rfl) hK hP hD hN rfl hl.1 rfl (Nat.le_of_ble_eq_true rfl) dX3_bestPlace_60) (fun H locs hP hD hS => ?_)
        refine lv_istore (lv' := [(6, .int ((pX3_passes a1 (pX3_keeperComes v5 x).2).1)), (0, .ref (h 0)), (1, .int a1), (2, .int a2), (3, .int v3), (4, .int v4), (5, .int v5)]) hx hb dX3_bestPlace_63 hl (by decide) rfl (fun ls hl => ?_)
        refine lv_aload_n hx hb dX3_bestPlace_65 rfl (lv_at hl 1 rfl) ?_
        refine md_get (ci := 3) (C := RX3) (T := TX3) (N := 13) (v := .ref (h 2)) hx hb hts hin hown hK hP rfl 1 (by decide) k_13 rfl rfl rfl dX3_bestPlace_66 ?_
        refine lv_iconst (v := 0) hx hb dX3_bestPlace_69 (by decide) ?_
        refine lv_aload_n hx hb dX3_bestPlace_70 rfl (lv_at hl 1 rfl) ?_
        refine md_get (ci := 3) (C := RX3) (T := TX3) (N := 13) (v := .ref (h 1)) hx hb hts hin hown hK hP rfl 0 (by decide) k_7 rfl rfl rfl dX3_bestPlace_71 ?_
        refine lv_iconst (v := 0) hx hb dX3_bestPlace_74 (by decide) ?_
        refine go_v hD hS hA (rn_S (As := [.ref (h 2), .int 0, .ref (h 1), .int 0]) (rest := []) ⟨hx, hb, hml, hown, hts⟩ (ctX3_moves l G cI cC cZ cR h (pX3_passes a1 (pX3_keeperComes v5 x).2).2 1 0 0 0 109 109 (by rfl) (by rfl) (by decide) (by decide) (by decide) (by decide) (by decide) (by decide)) (va_cwS 4 hts gX3_bestPlace_X3_moves rfl rfl rfl (by decide +kernel) ⟨Nat.le_of_ble_eq_true rfl, Nat.le_of_ble_eq_true rfl⟩) hK hP hD hN rfl hl.1 rfl (Nat.le_of_ble_eq_true rfl) dX3_bestPlace_75) (fun H locs hP hD hS => ?_)
        refine lv_iload hx hb dX3_bestPlace_78 (lv_at hl 0 rfl) ?_
        refine lv_iload hx hb dX3_bestPlace_80 (lv_at hl 5 rfl) ?_
        refine lv_icmp_le (tgt := 90) hx hb dX3_bestPlace_82 (by decide) (fun c_5 => ?_) (fun c_5 => ?_)
        · have t_5 := i_le (z := (Int32.toInt ((pX3_passes a1 (pX3_keeperComes v5 x).2).1))) (w := (Int32.toInt v4)) c_5 rfl rfl
          refine lv_iload_n hx hb dX3_bestPlace_90 rfl (lv_at hl 4 rfl) ?_
          refine lv_istore_n (lv' := [(3, .int v3), (6, .int ((pX3_passes a1 (pX3_keeperComes v5 x).2).1)), (0, .ref (h 0)), (1, .int a1), (2, .int a2), (4, .int v4), (5, .int v5)]) hx hb dX3_bestPlace_91 rfl hl (by decide) rfl (fun ls hl => ?_)
          refine lv_iload hx hb dX3_bestPlace_92 (lv_at hl 1 rfl) ?_
          refine lv_iload hx hb dX3_bestPlace_94 (lv_at hl 5 rfl) ?_
          refine lv_icmp_le (tgt := 104) hx hb dX3_bestPlace_96 (by decide) (fun cz => ?_) (fun cz => absurd c_5 cz)
          refine lv_iload hx hb dX3_bestPlace_104 (lv_at hl 5 rfl) ?_
          refine lv_istore (lv' := [(4, .int v4), (3, .int v3), (6, .int ((pX3_passes a1 (pX3_keeperComes v5 x).2).1)), (0, .ref (h 0)), (1, .int a1), (2, .int a2), (5, .int v5)]) hx hb dX3_bestPlace_106 hl (by decide) rfl (fun ls hl => ?_)
          refine lv_iinc (v := (v5 + 1)) (lv' := [(5, .int (v5 + 1)), (4, .int v4), (3, .int v3), (6, .int ((pX3_passes a1 (pX3_keeperComes v5 x).2).1)), (0, .ref (h 0)), (1, .int a1), (2, .int a2)]) hx hb dX3_bestPlace_108 hl (k := 6) rfl rfl (by decide) rfl (fun ls hl => ?_)
          have a_108 := i_add1 (a := v5) (by omega) (by omega)
          refine lv_goto (tgt := 44) hx hb dX3_bestPlace_111 (by decide) ?_
          exact ih v3 v4 (v5 + 1) (pX3_moves 1 0 0 0 (pX3_passes a1 (pX3_keeperComes v5 x).2).2) (by omega) (by omega) (by exact Mf_back (best_step g_2 g_3)) (by rw [moves_o _ _ _ (by decide)]; exact best_step g_2 g_3) (by exact g_4) (by omega) ((show pX3_bestPlace_L44 a1 a2 (n + 1) v3 v4 v5 x = pX3_bestPlace_L44 a1 a2 n v3 v4 (v5 + 1) (pX3_moves 1 0 0 0 (pX3_passes a1 (pX3_keeperComes v5 x).2).2) by rw [pX3_bestPlace_L44, if_neg c_3, if_pos c_5]).symm.trans hq) _ _ _ hP hD hS (lv_sub hl [4, 5, 6, 2, 1, 0] rfl)
        · have t_5 := i_nle (z := (Int32.toInt ((pX3_passes a1 (pX3_keeperComes v5 x).2).1))) (w := (Int32.toInt v4)) c_5 rfl rfl
          refine lv_iload hx hb dX3_bestPlace_85 (lv_at hl 6 rfl) ?_
          refine lv_goto (tgt := 91) hx hb dX3_bestPlace_87 (by decide) ?_
          refine lv_istore_n (lv' := [(3, .int v5), (6, .int ((pX3_passes a1 (pX3_keeperComes v5 x).2).1)), (0, .ref (h 0)), (1, .int a1), (2, .int a2), (4, .int v4), (5, .int v5)]) hx hb dX3_bestPlace_91 rfl hl (by decide) rfl (fun ls hl => ?_)
          refine lv_iload hx hb dX3_bestPlace_92 (lv_at hl 1 rfl) ?_
          refine lv_iload hx hb dX3_bestPlace_94 (lv_at hl 5 rfl) ?_
          refine lv_icmp_le (tgt := 104) hx hb dX3_bestPlace_96 (by decide) (fun cz => absurd cz c_5) (fun cz => ?_)
          refine lv_iload hx hb dX3_bestPlace_99 (lv_at hl 1 rfl) ?_
          refine lv_goto (tgt := 106) hx hb dX3_bestPlace_101 (by decide) ?_
          refine lv_istore (lv' := [(4, .int ((pX3_passes a1 (pX3_keeperComes v5 x).2).1)), (3, .int v5), (6, .int ((pX3_passes a1 (pX3_keeperComes v5 x).2).1)), (0, .ref (h 0)), (1, .int a1), (2, .int a2), (5, .int v5)]) hx hb dX3_bestPlace_106 hl (by decide) rfl (fun ls hl => ?_)
          refine lv_iinc (v := (v5 + 1)) (lv' := [(5, .int (v5 + 1)), (4, .int ((pX3_passes a1 (pX3_keeperComes v5 x).2).1)), (3, .int v5), (6, .int ((pX3_passes a1 (pX3_keeperComes v5 x).2).1)), (0, .ref (h 0)), (1, .int a1), (2, .int a2)]) hx hb dX3_bestPlace_108 hl (k := 6) rfl rfl (by decide) rfl (fun ls hl => ?_)
          have a_108 := i_add1 (a := v5) (by omega) (by omega)
          refine lv_goto (tgt := 44) hx hb dX3_bestPlace_111 (by decide) ?_
          exact ih v5 ((pX3_passes a1 (pX3_keeperComes v5 x).2).1) (v5 + 1) (pX3_moves 1 0 0 0 (pX3_passes a1 (pX3_keeperComes v5 x).2).2) (by omega) (by omega) (by exact Mf_back (best_step g_2 g_3)) (by rw [moves_o _ _ _ (by decide)]; exact best_step g_2 g_3) (by exact g_4) (by omega) ((show pX3_bestPlace_L44 a1 a2 (n + 1) v3 v4 v5 x = pX3_bestPlace_L44 a1 a2 n v5 ((pX3_passes a1 (pX3_keeperComes v5 x).2).1) (v5 + 1) (pX3_moves 1 0 0 0 (pX3_passes a1 (pX3_keeperComes v5 x).2).2) by rw [pX3_bestPlace_L44, if_neg c_3, if_neg c_5]).symm.trans hq) _ _ _ hP hD hS (lv_sub hl [4, 5, 6, 2, 1, 0] rfl)
  refine lv_iload_n hx hb dX3_bestPlace_0 rfl (lv_at hl 1 rfl) ?_
  refine lv_iconst (v := 1) hx hb dX3_bestPlace_1 (by decide) ?_
  refine lv_bipush (v := 48) hx hb dX3_bestPlace_2 (by decide) ?_
  refine gn_i hP hS hA (rn_S (As := [.int a1, .int 1, .int 48]) (rest := []) ⟨hx, hb, hml, hown, hts⟩ (ctX3_within l G cI cC cZ cR a1 1 48) (va_cwS 3 hts gX3_bestPlace_X3_within rfl rfl rfl (by decide +kernel) ⟨Nat.le_of_ble_eq_true rfl, Nat.le_of_ble_eq_true rfl⟩) hK nilP (nilD (A := A)) hN rfl hl.1 rfl (Nat.le_of_ble_eq_true rfl) dX3_bestPlace_4) (fun H locs hP hS => ?_)
  refine lv_if_eq (tgt := 19) hx hb dX3_bestPlace_7 (by decide) (fun c_1 => ?_) (fun c_1 => ?_)
  · refine lv_bipush (v := (-2)) hx hb dX3_bestPlace_19 (by decide) ?_
    exact rt_b hx hb hr hlocks hP hD hS rfl ((show pX3_bestPlace a1 a2 x = (((-2) : Int32), x) by rw [pX3_bestPlace, if_pos c_1]).symm.trans hres |>.symm) dX3_bestPlace_21
  · refine lv_iload_n hx hb dX3_bestPlace_10 rfl (lv_at hl 2 rfl) ?_
    refine lv_iconst (v := 0) hx hb dX3_bestPlace_11 (by decide) ?_
    refine lv_iconst (v := 1) hx hb dX3_bestPlace_12 (by decide) ?_
    refine gn_i hP hS hA (rn_S (As := [.int a2, .int 0, .int 1]) (rest := []) ⟨hx, hb, hml, hown, hts⟩ (ctX3_within l G cI cC cZ cR a2 0 1) (va_cwS 3 hts gX3_bestPlace_X3_within rfl rfl rfl (by decide +kernel) ⟨Nat.le_of_ble_eq_true rfl, Nat.le_of_ble_eq_true rfl⟩) hK nilP (nilD (A := A)) hN rfl hl.1 rfl (Nat.le_of_ble_eq_true rfl) dX3_bestPlace_13) (fun H locs hP hS => ?_)
    refine lv_if_ne (tgt := 22) hx hb dX3_bestPlace_16 (by decide) (fun c_2 => ?_) (fun c_2 => ?_)
    · refine lv_aload_n hx hb dX3_bestPlace_22 rfl (lv_at hl 0 rfl) ?_
      refine md_get (ci := 3) (C := RX3) (T := TX3) (N := 13) (v := .ref (h 1)) hx hb hts hin hown hK hP rfl 0 (by decide) k_7 rfl rfl rfl dX3_bestPlace_23 ?_
      refine lv_iconst (v := 0) hx hb dX3_bestPlace_26 (by decide) ?_
      refine lv_aload_n hx hb dX3_bestPlace_27 rfl (lv_at hl 0 rfl) ?_
      refine md_get (ci := 3) (C := RX3) (T := TX3) (N := 13) (v := .ref (h 2)) hx hb hts hin hown hK hP rfl 1 (by decide) k_13 rfl rfl rfl dX3_bestPlace_28 ?_
      refine lv_iconst (v := 0) hx hb dX3_bestPlace_31 (by decide) ?_
      refine go_v hD hS hA (rn_S (As := [.ref (h 1), .int 0, .ref (h 2), .int 0]) (rest := []) ⟨hx, hb, hml, hown, hts⟩ (ctX3_moves l G cI cC cZ cR h x 0 0 1 0 109 109 (by rfl) (by rfl) (by decide) (by decide) (by decide) (by decide) (by decide) (by decide)) (va_cwS 4 hts gX3_bestPlace_X3_moves rfl rfl rfl (by decide +kernel) ⟨Nat.le_of_ble_eq_true rfl, Nat.le_of_ble_eq_true rfl⟩) hK hP hD hN rfl hl.1 rfl (Nat.le_of_ble_eq_true rfl) dX3_bestPlace_32) (fun H locs hP hD hS => ?_)
      refine lv_bipush (v := (-6)) hx hb dX3_bestPlace_35 (by decide) ?_
      refine lv_istore_n (lv' := [(3, .int (-6)), (0, .ref (h 0)), (1, .int a1), (2, .int a2)]) hx hb dX3_bestPlace_37 rfl hl (by decide) rfl (fun ls hl => ?_)
      refine lv_iconst (v := (-1)) hx hb dX3_bestPlace_38 (by decide) ?_
      refine lv_istore (lv' := [(4, .int (-1)), (3, .int (-6)), (0, .ref (h 0)), (1, .int a1), (2, .int a2)]) hx hb dX3_bestPlace_39 hl (by decide) rfl (fun ls hl => ?_)
      refine lv_iconst (v := 0) hx hb dX3_bestPlace_41 (by decide) ?_
      refine lv_istore (lv' := [(5, .int 0), (4, .int (-1)), (3, .int (-6)), (0, .ref (h 0)), (1, .int a1), (2, .int a2)]) hx hb dX3_bestPlace_42 hl (by decide) rfl (fun ls hl => ?_)
      exact lp_44 13 (-6) (-1) 0 (pX3_moves 0 0 1 0 x) (by decide) (by decide) (by exact (Mf_fwd q_0).2) (by exact (Mf_fwd q_0).1) (by exact best_in (by with_reducible assumption)) (by decide) ((show pX3_bestPlace a1 a2 x = pX3_bestPlace_L44 a1 a2 13 (-6) (-1) 0 (pX3_moves 0 0 1 0 x) by rw [pX3_bestPlace, if_neg c_1, if_neg c_2]).symm.trans hres) _ _ _ hP hD hS (lv_sub hl [3, 4, 5, 2, 1, 0] rfl)
    · refine lv_bipush (v := (-2)) hx hb dX3_bestPlace_19 (by decide) ?_
      exact rt_b hx hb hr hlocks hP hD hS rfl ((show pX3_bestPlace a1 a2 x = (((-2) : Int32), x) by rw [pX3_bestPlace, if_neg c_1, if_pos c_2]).symm.trans hres |>.symm) dX3_bestPlace_21
