def pX3_keepersGo_L12 : Nat → Int32 → Int32 → SR → SR
  | 0, v1, v2, x => x
  | n + 1, v1, v2, x => if (x.2 0 (ix 11)) ≤ v2 then x
    else pX3_keepersGo_L12 n v1 (v2 + 1) (pX3_keeperGoes v2 v1 x)
def pX3_keepersGo (x : SR) : SR := pX3_keepersGo_L12 6 (pX3_isRainAhead x) 0 (pS x 2 0)
set_option maxHeartbeats 4000000 in
set_option maxRecDepth 100000 in
theorem ctX3_keepersGo (l : Launch) (G : va_G) (cI cC cZ cR : ClassId) (h : Ad) (x : SR) (q_0 : MI x) : Ct l yX3_keepersGo wsX3_keepersGo (rmz 7 155) G (TY cI cC cZ cR) [.ref (h 0)] (wMo cI h x) (Qv G (wMo cI h x) (wMo cI h (pX3_keepersGo x))) := by
  refine Ct.ofV (cc := cX3_keepersGo) (maxL := 3) (ret := none) (by decide) rfl rfl ?_
  intro p e s m below meth c A ls E0 hP hD hS hl
  obtain ⟨hx, hb, hr, hml, hlocks, hts, hown, hK, hN, hA⟩ := E0
  have hl : lv_has ls 3 [(0, .ref (h 0))] := hl
  have hin : ∀ w ∈ wsX30, w ∈ wsX3_keepersGo := fun w hw => List.mem_cons_of_mem _ (List.mem_append_right _ (hw))
  have k_57 : (Cond.fieldLink RX3 57 RX3 (TX3 8).2.1 (TX3 8).2.2.1).before ([.ref (h 0)] : List Value).toArray s = true := hts _ (List.mem_of_getElem? (i := 1) rfl)
  have k_7 : (Cond.fieldLink RX3 7 RX3 (TX3 0).2.1 (TX3 0).2.2.1).before ([.ref (h 0)] : List Value).toArray s = true := hts _ (List.mem_of_getElem? (i := 2) rfl)
  generalize hres : pX3_keepersGo x = res
  have lp_12 : ∀ (n : Nat) (v1 : Int32) (v2 : Int32) (x : SR), 0 ≤ Int32.toInt v2 → Int32.toInt v2 ≤ 5 → MI x → 5 - Int32.toInt v2 < (n : Int) → pX3_keepersGo_L12 n v1 v2 x = res → ∀ (H : Heap) (locs : List Loc) (ls : Array Slot), va_P G vwCl (wMo cI h x) H → va_D A (wMo cI h x) → va_S A s.heap H locs → lv_has ls 3 [(0, .ref (h 0)), (1, .int v1), (2, .int v2)] → W p l e (rmz 7 155) s m ([.ref (h 0)] : List Value).toArray below meth c H locs 0 0 (MQ below (QvA G A (wMo cI h res)) ([.ref (h 0)] : List Value).toArray s 0 0 A) (F0 m 12 ls []) := by
    intro n
    induction n with
    | zero =>
      intro v1 v2 x g_0 g_1 g_2 hm
      exfalso; omega
    | succ n ih =>
      intro v1 v2 x g_0 g_1 g_2 hm hq H locs ls hP hD hS hl
      have g_9 := g_2.2.2.2
      refine lv_iload_n hx hb dX3_keepersGo_12 rfl (lv_at hl 2 rfl) ?_
      refine lv_aload_n hx hb dX3_keepersGo_13 rfl (lv_at hl 0 rfl) ?_
      refine md_get (ci := 3) (C := RX3) (T := TX3) (N := 13) (v := .ref (h 1)) hx hb hts hin hown hK hP rfl 0 (by decide) k_7 rfl rfl rfl dX3_keepersGo_14 ?_
      refine lv_bipush (v := 11) hx hb dX3_keepersGo_17 (by decide) ?_
      refine md_ia (v := x.2 0 (ix 11)) hx hb hK hP 0 0 rfl rfl (vp_in_iff.mpr ⟨by decide, by decide⟩) rfl dX3_keepersGo_19 ?_
      refine lv_icmp_ge (tgt := 35) hx hb dX3_keepersGo_20 (by decide) (fun c_1 => ?_) (fun c_1 => ?_)
      · have t_1 := i_le (z := (Int32.toInt (x.2 0 (ix 11)))) (w := (Int32.toInt v2)) c_1 rfl rfl
        exact rt_s hx hb hr hlocks hP hD hS ((show pX3_keepersGo_L12 (n + 1) v1 v2 x = x by rw [pX3_keepersGo_L12, if_pos c_1]).symm.trans hq |>.symm) dX3_keepersGo_35
      · have t_1 := i_nle (z := (Int32.toInt (x.2 0 (ix 11)))) (w := (Int32.toInt v2)) c_1 rfl rfl
        refine lv_aload_n hx hb dX3_keepersGo_23 rfl (lv_at hl 0 rfl) ?_
        refine lv_iload_n hx hb dX3_keepersGo_24 rfl (lv_at hl 2 rfl) ?_
        refine lv_iload_n hx hb dX3_keepersGo_25 rfl (lv_at hl 1 rfl) ?_
        refine go_v hD hS hA (rn_V (As := [.int v2, .int v1]) (rest := []) ⟨hx, hb, hml, hown, hts⟩ (ctX3_keeperGoes l G cI cC cZ cR h x v2 v1 (by first | with_reducible assumption | exact vp_in_iff.mpr ⟨by decide, by decide⟩ | exact vp_in_iff.mpr ⟨by omega, by omega⟩ | exact isPlace_in (by with_reducible assumption) | exact has_in (by with_reducible assumption) | exact isPlace3_in (by with_reducible assumption) | exact isPiano_in (by with_reducible assumption) | exact isOpen_in (by with_reducible assumption) | exact nearest3_in (by with_reducible assumption))) (cwV 2 hts gX3_keepersGo_X3_keeperGoes rfl rfl rfl (by decide +kernel) ⟨Nat.le_of_ble_eq_true rfl, Nat.le_of_ble_eq_true rfl⟩) (md_recv hK hP rfl) hK hP hD hN rfl hl.1 rfl (Nat.le_of_ble_eq_true rfl) dX3_keepersGo_26) (fun H locs hP hD hS => ?_)
        refine lv_iinc (v := (v2 + 1)) (lv' := [(2, .int (v2 + 1)), (0, .ref (h 0)), (1, .int v1)]) hx hb dX3_keepersGo_29 hl (k := 2) rfl rfl (by decide) rfl (fun ls hl => ?_)
        have a_29 := i_add1 (a := v2) (by omega) (by omega)
        refine lv_goto (tgt := 12) hx hb dX3_keepersGo_32 (by decide) ?_
        exact ih v1 (v2 + 1) (pX3_keeperGoes v2 v1 x) (by omega) (by omega) (by exact MI.of (keeperGoes_K (vp_in_iff.mpr ⟨by omega, by omega⟩)) g_2) (by omega) ((show pX3_keepersGo_L12 (n + 1) v1 v2 x = pX3_keepersGo_L12 n v1 (v2 + 1) (pX3_keeperGoes v2 v1 x) by rw [pX3_keepersGo_L12, if_neg c_1]).symm.trans hq) _ _ _ hP hD hS (lv_sub hl [1, 2, 0] rfl)
  refine lv_aload_n hx hb dX3_keepersGo_0 rfl (lv_at hl 0 rfl) ?_
  refine go_i hD hS hA (rn_V (As := []) (rest := []) ⟨hx, hb, hml, hown, hts⟩ (ctX3_isRainAhead l G cI cC cZ cR h x (by exact q_0.1)) (cwV 0 hts gX3_keepersGo_X3_isRainAhead rfl rfl rfl (by decide +kernel) ⟨Nat.le_of_ble_eq_true rfl, Nat.le_of_ble_eq_true rfl⟩) (md_recv hK hP rfl) hK hP hD hN rfl hl.1 rfl (Nat.le_of_ble_eq_true rfl) dX3_keepersGo_1) (fun H locs hP hD hS => ?_)
  refine lv_istore_n (lv' := [(1, .int (pX3_isRainAhead x)), (0, .ref (h 0))]) hx hb dX3_keepersGo_4 rfl hl (by decide) rfl (fun ls hl => ?_)
  refine lv_aload_n hx hb dX3_keepersGo_5 rfl (lv_at hl 1 rfl) ?_
  refine lv_iconst (v := 0) hx hb dX3_keepersGo_6 (by decide) ?_
  refine md_put (ci := 3) (C := RX3) (T := TX3) (N := 13) hx hb hts hin tyX3 tyX3_ok nmX3 hown hK hP hD hS rfl 8 (by decide) k_57 rfl rfl (q := 2) rfl (fu (by decide)) rfl rfl dX3_keepersGo_7 (fun H locs hP hD hS => ?_)
  refine lv_iconst (v := 0) hx hb dX3_keepersGo_10 (by decide) ?_
  refine lv_istore_n (lv' := [(2, .int 0), (1, .int (pX3_isRainAhead x)), (0, .ref (h 0))]) hx hb dX3_keepersGo_11 rfl hl (by decide) rfl (fun ls hl => ?_)
  exact lp_12 6 (pX3_isRainAhead x) 0 (pS x 2 0) (by decide) (by decide) (by exact q_0) (by decide) ((show pX3_keepersGo x = pX3_keepersGo_L12 6 (pX3_isRainAhead x) 0 (pS x 2 0) by rw [pX3_keepersGo]).symm.trans hres) _ _ _ hP hD hS (lv_sub hl [2, 1, 0] rfl)
theorem keepersGo_L : ∀ (n : Nat) (v1 v2 : Int32) (x : SR), 0 ≤ Int32.toInt v2 → MI x → KP x (pX3_keepersGo_L12 n v1 v2 x) := by
  intro n
  induction n with
  | zero => intro v1 v2 x h2 hm; rw [pX3_keepersGo_L12]; exact KP.rf _
  | succ n ih =>
    intro v1 v2 x h2 hm
    rw [pX3_keepersGo_L12]
    by_cases h : x.2 0 (ix 11) ≤ v2
    · rw [if_pos h]
      exact KP.rf _
    · rw [if_neg h]
      have t := i_nle (z := Int32.toInt (x.2 0 (ix 11))) (w := Int32.toInt v2) h rfl rfl
      have t2 := hm.2.2.2
      have a := i_add1 (a := v2) (by omega) (by omega)
      have k := keeperGoes_K (a1 := v2) (a2 := v1) (x := x) (vp_in_iff.mpr ⟨by omega, by omega⟩)
      exact k.tr (ih _ _ _ (by omega) (MI.of k hm))
theorem keepersGo_K {x : SR} (h : MI x) : KP x (pX3_keepersGo x) := by
  rw [pX3_keepersGo]
  exact (KP_S _ _).tr (keepersGo_L _ _ _ _ (by decide) h)
def pX3_rainsOn (a1 : Int32) (x : SR) : SR := (pX3_setPiano a1 5 ((pX3_pianoPart a1 5 (pX3_setPiano a1 1 (pX3_held ((pX3_pianoPart a1 1 (pX3_setPiano a1 2 (pX3_held ((pX3_pianoPart a1 2 x) + (x.2 0 (ix 1)))) x)) - ((pX3_setPiano a1 2 (pX3_held ((pX3_pianoPart a1 2 x) + (x.2 0 (ix 1)))) x).2 0 (ix 3)))) (pX3_setPiano a1 2 (pX3_held ((pX3_pianoPart a1 2 x) + (x.2 0 (ix 1)))) x))) + 1) (pX3_setPiano a1 1 (pX3_held ((pX3_pianoPart a1 1 (pX3_setPiano a1 2 (pX3_held ((pX3_pianoPart a1 2 x) + (x.2 0 (ix 1)))) x)) - ((pX3_setPiano a1 2 (pX3_held ((pX3_pianoPart a1 2 x) + (x.2 0 (ix 1)))) x).2 0 (ix 3)))) (pX3_setPiano a1 2 (pX3_held ((pX3_pianoPart a1 2 x) + (x.2 0 (ix 1)))) x)))
set_option maxHeartbeats 4000000 in
set_option maxRecDepth 100000 in
theorem ctX3_rainsOn (l : Launch) (G : va_G) (cI cC cZ cR : ClassId) (h : Ad) (x : SR) (a1 : Int32) (q_0 : vp_in a1 12) : Ct l yX3_rainsOn wsX3_rainsOn (rmz 1 23) G (TY cI cC cZ cR) [.ref (h 0), .int a1] (wMo cI h x) (Qv G (wMo cI h x) (wMo cI h (pX3_rainsOn a1 x))) := by
  refine Ct.ofV (cc := cX3_rainsOn) (maxL := 2) (ret := none) (by decide) rfl rfl ?_
  intro p e s m below meth c A ls E0 hP hD hS hl
  obtain ⟨hx, hb, hr, hml, hlocks, hts, hown, hK, hN, hA⟩ := E0
  have hl : lv_has ls 2 [(0, .ref (h 0)), (1, .int a1)] := hl
  have hin : ∀ w ∈ wsX30, w ∈ wsX3_rainsOn := fun w hw => List.mem_cons_of_mem _ (List.mem_append_right _ (hw))
  have k_7 : (Cond.fieldLink RX3 7 RX3 (TX3 0).2.1 (TX3 0).2.2.1).before ([.ref (h 0), .int a1] : List Value).toArray s = true := hts _ (List.mem_of_getElem? (i := 1) rfl)
  generalize hres : pX3_rainsOn a1 x = res
  refine lv_aload_n hx hb dX3_rainsOn_0 rfl (lv_at hl 0 rfl) ?_
  refine lv_iload_n hx hb dX3_rainsOn_1 rfl (lv_at hl 1 rfl) ?_
  refine lv_iconst (v := 2) hx hb dX3_rainsOn_2 (by decide) ?_
  refine lv_aload_n hx hb dX3_rainsOn_3 rfl (lv_at hl 0 rfl) ?_
  refine lv_iload_n hx hb dX3_rainsOn_4 rfl (lv_at hl 1 rfl) ?_
  refine lv_iconst (v := 2) hx hb dX3_rainsOn_5 (by decide) ?_
  refine go_i hD hS hA (rn_V (As := [.int a1, .int 2]) (rest := [.int 2, .int a1, .ref (h 0)]) ⟨hx, hb, hml, hown, hts⟩ (ctX3_pianoPart l G cI cC cZ cR h x a1 2 (by first | with_reducible assumption | exact vp_in_iff.mpr ⟨by decide, by decide⟩ | exact vp_in_iff.mpr ⟨by omega, by omega⟩ | exact isPlace_in (by with_reducible assumption) | exact has_in (by with_reducible assumption) | exact isPlace3_in (by with_reducible assumption) | exact isPiano_in (by with_reducible assumption) | exact isOpen_in (by with_reducible assumption) | exact nearest3_in (by with_reducible assumption)) (by first | with_reducible assumption | exact vp_in_iff.mpr ⟨by decide, by decide⟩ | exact vp_in_iff.mpr ⟨by omega, by omega⟩ | exact isPlace_in (by with_reducible assumption) | exact has_in (by with_reducible assumption) | exact isPlace3_in (by with_reducible assumption) | exact isPiano_in (by with_reducible assumption) | exact isOpen_in (by with_reducible assumption) | exact nearest3_in (by with_reducible assumption))) (cwV 2 hts gX3_rainsOn_X3_pianoPart rfl rfl rfl (by decide +kernel) ⟨Nat.le_of_ble_eq_true rfl, Nat.le_of_ble_eq_true rfl⟩) (md_recv hK hP rfl) hK hP hD hN rfl hl.1 rfl (Nat.le_of_ble_eq_true rfl) dX3_rainsOn_6) (fun H locs hP hD hS => ?_)
  refine lv_aload_n hx hb dX3_rainsOn_9 rfl (lv_at hl 0 rfl) ?_
  refine md_get (ci := 3) (C := RX3) (T := TX3) (N := 13) (v := .ref (h 1)) hx hb hts hin hown hK hP rfl 0 (by decide) k_7 rfl rfl rfl dX3_rainsOn_10 ?_
  refine lv_iconst (v := 1) hx hb dX3_rainsOn_13 (by decide) ?_
  refine md_ia (v := x.2 0 (ix 1)) hx hb hK hP 0 0 rfl rfl (vp_in_iff.mpr ⟨by decide, by decide⟩) rfl dX3_rainsOn_14 ?_
  refine lv_iadd hx hb dX3_rainsOn_15 ?_
  refine gn_i hP hS hA (rn_S (As := [.int ((pX3_pianoPart a1 2 x) + (x.2 0 (ix 1)))]) (rest := [.int 2, .int a1, .ref (h 0)]) ⟨hx, hb, hml, hown, hts⟩ (ctX3_held l G cI cC cZ cR ((pX3_pianoPart a1 2 x) + (x.2 0 (ix 1)))) (va_cwS 1 hts gX3_rainsOn_X3_held rfl rfl rfl (by decide +kernel) ⟨Nat.le_of_ble_eq_true rfl, Nat.le_of_ble_eq_true rfl⟩) hK nilP (nilD (A := A)) hN rfl hl.1 rfl (Nat.le_of_ble_eq_true rfl) dX3_rainsOn_16) (fun H locs hP hS => ?_)
  refine go_v hD hS hA (rn_V (As := [.int a1, .int 2, .int (pX3_held ((pX3_pianoPart a1 2 x) + (x.2 0 (ix 1))))]) (rest := []) ⟨hx, hb, hml, hown, hts⟩ (ctX3_setPiano l G cI cC cZ cR h x a1 2 (pX3_held ((pX3_pianoPart a1 2 x) + (x.2 0 (ix 1)))) (by first | with_reducible assumption | exact vp_in_iff.mpr ⟨by decide, by decide⟩ | exact vp_in_iff.mpr ⟨by omega, by omega⟩ | exact isPlace_in (by with_reducible assumption) | exact has_in (by with_reducible assumption) | exact isPlace3_in (by with_reducible assumption) | exact isPiano_in (by with_reducible assumption) | exact isOpen_in (by with_reducible assumption) | exact nearest3_in (by with_reducible assumption)) (by first | with_reducible assumption | exact vp_in_iff.mpr ⟨by decide, by decide⟩ | exact vp_in_iff.mpr ⟨by omega, by omega⟩ | exact isPlace_in (by with_reducible assumption) | exact has_in (by with_reducible assumption) | exact isPlace3_in (by with_reducible assumption) | exact isPiano_in (by with_reducible assumption) | exact isOpen_in (by with_reducible assumption) | exact nearest3_in (by with_reducible assumption))) (cwV 3 hts gX3_rainsOn_X3_setPiano rfl rfl rfl (by decide +kernel) ⟨Nat.le_of_ble_eq_true rfl, Nat.le_of_ble_eq_true rfl⟩) (md_recv hK hP rfl) hK hP hD hN rfl hl.1 rfl (Nat.le_of_ble_eq_true rfl) dX3_rainsOn_19) (fun H locs hP hD hS => ?_)
  refine lv_aload_n hx hb dX3_rainsOn_22 rfl (lv_at hl 0 rfl) ?_
  refine lv_iload_n hx hb dX3_rainsOn_23 rfl (lv_at hl 1 rfl) ?_
  refine lv_iconst (v := 1) hx hb dX3_rainsOn_24 (by decide) ?_
  refine lv_aload_n hx hb dX3_rainsOn_25 rfl (lv_at hl 0 rfl) ?_
  refine lv_iload_n hx hb dX3_rainsOn_26 rfl (lv_at hl 1 rfl) ?_
  refine lv_iconst (v := 1) hx hb dX3_rainsOn_27 (by decide) ?_
  refine go_i hD hS hA (rn_V (As := [.int a1, .int 1]) (rest := [.int 1, .int a1, .ref (h 0)]) ⟨hx, hb, hml, hown, hts⟩ (ctX3_pianoPart l G cI cC cZ cR h (pX3_setPiano a1 2 (pX3_held ((pX3_pianoPart a1 2 x) + (x.2 0 (ix 1)))) x) a1 1 (by first | with_reducible assumption | exact vp_in_iff.mpr ⟨by decide, by decide⟩ | exact vp_in_iff.mpr ⟨by omega, by omega⟩ | exact isPlace_in (by with_reducible assumption) | exact has_in (by with_reducible assumption) | exact isPlace3_in (by with_reducible assumption) | exact isPiano_in (by with_reducible assumption) | exact isOpen_in (by with_reducible assumption) | exact nearest3_in (by with_reducible assumption)) (by first | with_reducible assumption | exact vp_in_iff.mpr ⟨by decide, by decide⟩ | exact vp_in_iff.mpr ⟨by omega, by omega⟩ | exact isPlace_in (by with_reducible assumption) | exact has_in (by with_reducible assumption) | exact isPlace3_in (by with_reducible assumption) | exact isPiano_in (by with_reducible assumption) | exact isOpen_in (by with_reducible assumption) | exact nearest3_in (by with_reducible assumption))) (cwV 2 hts gX3_rainsOn_X3_pianoPart rfl rfl rfl (by decide +kernel) ⟨Nat.le_of_ble_eq_true rfl, Nat.le_of_ble_eq_true rfl⟩) (md_recv hK hP rfl) hK hP hD hN rfl hl.1 rfl (Nat.le_of_ble_eq_true rfl) dX3_rainsOn_28) (fun H locs hP hD hS => ?_)
  refine lv_aload_n hx hb dX3_rainsOn_31 rfl (lv_at hl 0 rfl) ?_
  refine md_get (ci := 3) (C := RX3) (T := TX3) (N := 13) (v := .ref (h 1)) hx hb hts hin hown hK hP rfl 0 (by decide) k_7 rfl rfl rfl dX3_rainsOn_32 ?_
  refine lv_iconst (v := 3) hx hb dX3_rainsOn_35 (by decide) ?_
  refine md_ia (v := (pX3_setPiano a1 2 (pX3_held ((pX3_pianoPart a1 2 x) + (x.2 0 (ix 1)))) x).2 0 (ix 3)) hx hb hK hP 0 0 rfl rfl (vp_in_iff.mpr ⟨by decide, by decide⟩) rfl dX3_rainsOn_36 ?_
  refine lv_isub hx hb dX3_rainsOn_37 ?_
  refine gn_i hP hS hA (rn_S (As := [.int ((pX3_pianoPart a1 1 (pX3_setPiano a1 2 (pX3_held ((pX3_pianoPart a1 2 x) + (x.2 0 (ix 1)))) x)) - ((pX3_setPiano a1 2 (pX3_held ((pX3_pianoPart a1 2 x) + (x.2 0 (ix 1)))) x).2 0 (ix 3)))]) (rest := [.int 1, .int a1, .ref (h 0)]) ⟨hx, hb, hml, hown, hts⟩ (ctX3_held l G cI cC cZ cR ((pX3_pianoPart a1 1 (pX3_setPiano a1 2 (pX3_held ((pX3_pianoPart a1 2 x) + (x.2 0 (ix 1)))) x)) - ((pX3_setPiano a1 2 (pX3_held ((pX3_pianoPart a1 2 x) + (x.2 0 (ix 1)))) x).2 0 (ix 3)))) (va_cwS 1 hts gX3_rainsOn_X3_held rfl rfl rfl (by decide +kernel) ⟨Nat.le_of_ble_eq_true rfl, Nat.le_of_ble_eq_true rfl⟩) hK nilP (nilD (A := A)) hN rfl hl.1 rfl (Nat.le_of_ble_eq_true rfl) dX3_rainsOn_38) (fun H locs hP hS => ?_)
  refine go_v hD hS hA (rn_V (As := [.int a1, .int 1, .int (pX3_held ((pX3_pianoPart a1 1 (pX3_setPiano a1 2 (pX3_held ((pX3_pianoPart a1 2 x) + (x.2 0 (ix 1)))) x)) - ((pX3_setPiano a1 2 (pX3_held ((pX3_pianoPart a1 2 x) + (x.2 0 (ix 1)))) x).2 0 (ix 3))))]) (rest := []) ⟨hx, hb, hml, hown, hts⟩ (ctX3_setPiano l G cI cC cZ cR h (pX3_setPiano a1 2 (pX3_held ((pX3_pianoPart a1 2 x) + (x.2 0 (ix 1)))) x) a1 1 (pX3_held ((pX3_pianoPart a1 1 (pX3_setPiano a1 2 (pX3_held ((pX3_pianoPart a1 2 x) + (x.2 0 (ix 1)))) x)) - ((pX3_setPiano a1 2 (pX3_held ((pX3_pianoPart a1 2 x) + (x.2 0 (ix 1)))) x).2 0 (ix 3)))) (by first | with_reducible assumption | exact vp_in_iff.mpr ⟨by decide, by decide⟩ | exact vp_in_iff.mpr ⟨by omega, by omega⟩ | exact isPlace_in (by with_reducible assumption) | exact has_in (by with_reducible assumption) | exact isPlace3_in (by with_reducible assumption) | exact isPiano_in (by with_reducible assumption) | exact isOpen_in (by with_reducible assumption) | exact nearest3_in (by with_reducible assumption)) (by first | with_reducible assumption | exact vp_in_iff.mpr ⟨by decide, by decide⟩ | exact vp_in_iff.mpr ⟨by omega, by omega⟩ | exact isPlace_in (by with_reducible assumption) | exact has_in (by with_reducible assumption) | exact isPlace3_in (by with_reducible assumption) | exact isPiano_in (by with_reducible assumption) | exact isOpen_in (by with_reducible assumption) | exact nearest3_in (by with_reducible assumption))) (cwV 3 hts gX3_rainsOn_X3_setPiano rfl rfl rfl (by decide +kernel) ⟨Nat.le_of_ble_eq_true rfl, Nat.le_of_ble_eq_true rfl⟩) (md_recv hK hP rfl) hK hP hD hN rfl hl.1 rfl (Nat.le_of_ble_eq_true rfl) dX3_rainsOn_41) (fun H locs hP hD hS => ?_)
  refine lv_aload_n hx hb dX3_rainsOn_44 rfl (lv_at hl 0 rfl) ?_
  refine lv_iload_n hx hb dX3_rainsOn_45 rfl (lv_at hl 1 rfl) ?_
  refine lv_iconst (v := 5) hx hb dX3_rainsOn_46 (by decide) ?_
  refine lv_aload_n hx hb dX3_rainsOn_47 rfl (lv_at hl 0 rfl) ?_
  refine lv_iload_n hx hb dX3_rainsOn_48 rfl (lv_at hl 1 rfl) ?_
  refine lv_iconst (v := 5) hx hb dX3_rainsOn_49 (by decide) ?_
  refine go_i hD hS hA (rn_V (As := [.int a1, .int 5]) (rest := [.int 5, .int a1, .ref (h 0)]) ⟨hx, hb, hml, hown, hts⟩ (ctX3_pianoPart l G cI cC cZ cR h (pX3_setPiano a1 1 (pX3_held ((pX3_pianoPart a1 1 (pX3_setPiano a1 2 (pX3_held ((pX3_pianoPart a1 2 x) + (x.2 0 (ix 1)))) x)) - ((pX3_setPiano a1 2 (pX3_held ((pX3_pianoPart a1 2 x) + (x.2 0 (ix 1)))) x).2 0 (ix 3)))) (pX3_setPiano a1 2 (pX3_held ((pX3_pianoPart a1 2 x) + (x.2 0 (ix 1)))) x)) a1 5 (by first | with_reducible assumption | exact vp_in_iff.mpr ⟨by decide, by decide⟩ | exact vp_in_iff.mpr ⟨by omega, by omega⟩ | exact isPlace_in (by with_reducible assumption) | exact has_in (by with_reducible assumption) | exact isPlace3_in (by with_reducible assumption) | exact isPiano_in (by with_reducible assumption) | exact isOpen_in (by with_reducible assumption) | exact nearest3_in (by with_reducible assumption)) (by first | with_reducible assumption | exact vp_in_iff.mpr ⟨by decide, by decide⟩ | exact vp_in_iff.mpr ⟨by omega, by omega⟩ | exact isPlace_in (by with_reducible assumption) | exact has_in (by with_reducible assumption) | exact isPlace3_in (by with_reducible assumption) | exact isPiano_in (by with_reducible assumption) | exact isOpen_in (by with_reducible assumption) | exact nearest3_in (by with_reducible assumption))) (cwV 2 hts gX3_rainsOn_X3_pianoPart rfl rfl rfl (by decide +kernel) ⟨Nat.le_of_ble_eq_true rfl, Nat.le_of_ble_eq_true rfl⟩) (md_recv hK hP rfl) hK hP hD hN rfl hl.1 rfl (Nat.le_of_ble_eq_true rfl) dX3_rainsOn_50) (fun H locs hP hD hS => ?_)
  refine lv_iconst (v := 1) hx hb dX3_rainsOn_53 (by decide) ?_
  refine lv_iadd hx hb dX3_rainsOn_54 ?_
  refine go_v hD hS hA (rn_V (As := [.int a1, .int 5, .int ((pX3_pianoPart a1 5 (pX3_setPiano a1 1 (pX3_held ((pX3_pianoPart a1 1 (pX3_setPiano a1 2 (pX3_held ((pX3_pianoPart a1 2 x) + (x.2 0 (ix 1)))) x)) - ((pX3_setPiano a1 2 (pX3_held ((pX3_pianoPart a1 2 x) + (x.2 0 (ix 1)))) x).2 0 (ix 3)))) (pX3_setPiano a1 2 (pX3_held ((pX3_pianoPart a1 2 x) + (x.2 0 (ix 1)))) x))) + 1)]) (rest := []) ⟨hx, hb, hml, hown, hts⟩ (ctX3_setPiano l G cI cC cZ cR h (pX3_setPiano a1 1 (pX3_held ((pX3_pianoPart a1 1 (pX3_setPiano a1 2 (pX3_held ((pX3_pianoPart a1 2 x) + (x.2 0 (ix 1)))) x)) - ((pX3_setPiano a1 2 (pX3_held ((pX3_pianoPart a1 2 x) + (x.2 0 (ix 1)))) x).2 0 (ix 3)))) (pX3_setPiano a1 2 (pX3_held ((pX3_pianoPart a1 2 x) + (x.2 0 (ix 1)))) x)) a1 5 ((pX3_pianoPart a1 5 (pX3_setPiano a1 1 (pX3_held ((pX3_pianoPart a1 1 (pX3_setPiano a1 2 (pX3_held ((pX3_pianoPart a1 2 x) + (x.2 0 (ix 1)))) x)) - ((pX3_setPiano a1 2 (pX3_held ((pX3_pianoPart a1 2 x) + (x.2 0 (ix 1)))) x).2 0 (ix 3)))) (pX3_setPiano a1 2 (pX3_held ((pX3_pianoPart a1 2 x) + (x.2 0 (ix 1)))) x))) + 1) (by first | with_reducible assumption | exact vp_in_iff.mpr ⟨by decide, by decide⟩ | exact vp_in_iff.mpr ⟨by omega, by omega⟩ | exact isPlace_in (by with_reducible assumption) | exact has_in (by with_reducible assumption) | exact isPlace3_in (by with_reducible assumption) | exact isPiano_in (by with_reducible assumption) | exact isOpen_in (by with_reducible assumption) | exact nearest3_in (by with_reducible assumption)) (by first | with_reducible assumption | exact vp_in_iff.mpr ⟨by decide, by decide⟩ | exact vp_in_iff.mpr ⟨by omega, by omega⟩ | exact isPlace_in (by with_reducible assumption) | exact has_in (by with_reducible assumption) | exact isPlace3_in (by with_reducible assumption) | exact isPiano_in (by with_reducible assumption) | exact isOpen_in (by with_reducible assumption) | exact nearest3_in (by with_reducible assumption))) (cwV 3 hts gX3_rainsOn_X3_setPiano rfl rfl rfl (by decide +kernel) ⟨Nat.le_of_ble_eq_true rfl, Nat.le_of_ble_eq_true rfl⟩) (md_recv hK hP rfl) hK hP hD hN rfl hl.1 rfl (Nat.le_of_ble_eq_true rfl) dX3_rainsOn_55) (fun H locs hP hD hS => ?_)
  exact rt_s hx hb hr hlocks hP hD hS ((show pX3_rainsOn a1 x = (pX3_setPiano a1 5 ((pX3_pianoPart a1 5 (pX3_setPiano a1 1 (pX3_held ((pX3_pianoPart a1 1 (pX3_setPiano a1 2 (pX3_held ((pX3_pianoPart a1 2 x) + (x.2 0 (ix 1)))) x)) - ((pX3_setPiano a1 2 (pX3_held ((pX3_pianoPart a1 2 x) + (x.2 0 (ix 1)))) x).2 0 (ix 3)))) (pX3_setPiano a1 2 (pX3_held ((pX3_pianoPart a1 2 x) + (x.2 0 (ix 1)))) x))) + 1) (pX3_setPiano a1 1 (pX3_held ((pX3_pianoPart a1 1 (pX3_setPiano a1 2 (pX3_held ((pX3_pianoPart a1 2 x) + (x.2 0 (ix 1)))) x)) - ((pX3_setPiano a1 2 (pX3_held ((pX3_pianoPart a1 2 x) + (x.2 0 (ix 1)))) x).2 0 (ix 3)))) (pX3_setPiano a1 2 (pX3_held ((pX3_pianoPart a1 2 x) + (x.2 0 (ix 1)))) x))) by rw [pX3_rainsOn]).symm.trans hres |>.symm) dX3_rainsOn_58
theorem rainsOn_K {a1 : Int32} {x : SR} (hp : vp_in a1 12) : KP x (pX3_rainsOn a1 x) := by
  rw [pX3_rainsOn]
  exact ((setPiano_K hp (li_in (by decide))).tr (setPiano_K hp (li_in (by decide)))).tr (setPiano_K hp (li_in (by decide)))
def pX3_dries (a1 : Int32) (a2 : Int32) (x : SR) : SR := if (pX3_within a2 8 21) = 0 then (pX3_setPiano a1 2 (pX3_held ((pX3_pianoPart a1 2 x) - (x.2 0 (ix 2)))) x)
  else if 50 ≤ (pX3_pianoPart a1 2 (pX3_setPiano a1 2 (pX3_held ((pX3_pianoPart a1 2 x) - (x.2 0 (ix 2)))) x)) then (pX3_setPiano a1 2 (pX3_held ((pX3_pianoPart a1 2 x) - (x.2 0 (ix 2)))) x)
    else (pR (pX3_setPiano a1 1 (pX3_held ((pX3_pianoPart a1 1 (pX3_setPiano a1 4 ((pX3_pianoPart a1 4 (pX3_setPiano a1 2 (pX3_held ((pX3_pianoPart a1 2 x) - (x.2 0 (ix 2)))) x)) + ((((pX3_setPiano a1 2 (pX3_held ((pX3_pianoPart a1 2 x) - (x.2 0 (ix 2)))) x).2 0 (ix 4)) * (pX3_pianoPart a1 1 (pX3_setPiano a1 2 (pX3_held ((pX3_pianoPart a1 2 x) - (x.2 0 (ix 2)))) x))) / 100)) (pX3_setPiano a1 2 (pX3_held ((pX3_pianoPart a1 2 x) - (x.2 0 (ix 2)))) x))) - 1)) (pX3_setPiano a1 4 ((pX3_pianoPart a1 4 (pX3_setPiano a1 2 (pX3_held ((pX3_pianoPart a1 2 x) - (x.2 0 (ix 2)))) x)) + ((((pX3_setPiano a1 2 (pX3_held ((pX3_pianoPart a1 2 x) - (x.2 0 (ix 2)))) x).2 0 (ix 4)) * (pX3_pianoPart a1 1 (pX3_setPiano a1 2 (pX3_held ((pX3_pianoPart a1 2 x) - (x.2 0 (ix 2)))) x))) / 100)) (pX3_setPiano a1 2 (pX3_held ((pX3_pianoPart a1 2 x) - (x.2 0 (ix 2)))) x))) 0 9 (((pX3_setPiano a1 1 (pX3_held ((pX3_pianoPart a1 1 (pX3_setPiano a1 4 ((pX3_pianoPart a1 4 (pX3_setPiano a1 2 (pX3_held ((pX3_pianoPart a1 2 x) - (x.2 0 (ix 2)))) x)) + ((((pX3_setPiano a1 2 (pX3_held ((pX3_pianoPart a1 2 x) - (x.2 0 (ix 2)))) x).2 0 (ix 4)) * (pX3_pianoPart a1 1 (pX3_setPiano a1 2 (pX3_held ((pX3_pianoPart a1 2 x) - (x.2 0 (ix 2)))) x))) / 100)) (pX3_setPiano a1 2 (pX3_held ((pX3_pianoPart a1 2 x) - (x.2 0 (ix 2)))) x))) - 1)) (pX3_setPiano a1 4 ((pX3_pianoPart a1 4 (pX3_setPiano a1 2 (pX3_held ((pX3_pianoPart a1 2 x) - (x.2 0 (ix 2)))) x)) + ((((pX3_setPiano a1 2 (pX3_held ((pX3_pianoPart a1 2 x) - (x.2 0 (ix 2)))) x).2 0 (ix 4)) * (pX3_pianoPart a1 1 (pX3_setPiano a1 2 (pX3_held ((pX3_pianoPart a1 2 x) - (x.2 0 (ix 2)))) x))) / 100)) (pX3_setPiano a1 2 (pX3_held ((pX3_pianoPart a1 2 x) - (x.2 0 (ix 2)))) x))).2 0 (ix 9)) + ((((pX3_setPiano a1 2 (pX3_held ((pX3_pianoPart a1 2 x) - (x.2 0 (ix 2)))) x).2 0 (ix 4)) * (pX3_pianoPart a1 1 (pX3_setPiano a1 2 (pX3_held ((pX3_pianoPart a1 2 x) - (x.2 0 (ix 2)))) x))) / 100)))
set_option maxHeartbeats 4000000 in
set_option maxRecDepth 100000 in
theorem ctX3_dries (l : Launch) (G : va_G) (cI cC cZ cR : ClassId) (h : Ad) (x : SR) (a1 : Int32) (a2 : Int32) (q_0 : vp_in a1 12) : Ct l yX3_dries wsX3_dries (rmz 1 23) G (TY cI cC cZ cR) [.ref (h 0), .int a1, .int a2] (wMo cI h x) (Qv G (wMo cI h x) (wMo cI h (pX3_dries a1 a2 x))) := by
  refine Ct.ofV (cc := cX3_dries) (maxL := 4) (ret := none) (by decide) rfl rfl ?_
  intro p e s m below meth c A ls E0 hP hD hS hl
  obtain ⟨hx, hb, hr, hml, hlocks, hts, hown, hK, hN, hA⟩ := E0
  have hl : lv_has ls 4 [(0, .ref (h 0)), (1, .int a1), (2, .int a2)] := hl
  have hin : ∀ w ∈ wsX30, w ∈ wsX3_dries := fun w hw => List.mem_cons_of_mem _ (List.mem_append_right _ (hw))
  have k_7 : (Cond.fieldLink RX3 7 RX3 (TX3 0).2.1 (TX3 0).2.2.1).before ([.ref (h 0), .int a1, .int a2] : List Value).toArray s = true := hts _ (List.mem_of_getElem? (i := 1) rfl)
  generalize hres : pX3_dries a1 a2 x = res
  refine lv_aload_n hx hb dX3_dries_0 rfl (lv_at hl 0 rfl) ?_
  refine lv_iload_n hx hb dX3_dries_1 rfl (lv_at hl 1 rfl) ?_
  refine lv_iconst (v := 2) hx hb dX3_dries_2 (by decide) ?_
  refine lv_aload_n hx hb dX3_dries_3 rfl (lv_at hl 0 rfl) ?_
  refine lv_iload_n hx hb dX3_dries_4 rfl (lv_at hl 1 rfl) ?_
  refine lv_iconst (v := 2) hx hb dX3_dries_5 (by decide) ?_
  refine go_i hD hS hA (rn_V (As := [.int a1, .int 2]) (rest := [.int 2, .int a1, .ref (h 0)]) ⟨hx, hb, hml, hown, hts⟩ (ctX3_pianoPart l G cI cC cZ cR h x a1 2 (by first | with_reducible assumption | exact vp_in_iff.mpr ⟨by decide, by decide⟩ | exact vp_in_iff.mpr ⟨by omega, by omega⟩ | exact isPlace_in (by with_reducible assumption) | exact has_in (by with_reducible assumption) | exact isPlace3_in (by with_reducible assumption) | exact isPiano_in (by with_reducible assumption) | exact isOpen_in (by with_reducible assumption) | exact nearest3_in (by with_reducible assumption)) (by first | with_reducible assumption | exact vp_in_iff.mpr ⟨by decide, by decide⟩ | exact vp_in_iff.mpr ⟨by omega, by omega⟩ | exact isPlace_in (by with_reducible assumption) | exact has_in (by with_reducible assumption) | exact isPlace3_in (by with_reducible assumption) | exact isPiano_in (by with_reducible assumption) | exact isOpen_in (by with_reducible assumption) | exact nearest3_in (by with_reducible assumption))) (cwV 2 hts gX3_dries_X3_pianoPart rfl rfl rfl (by decide +kernel) ⟨Nat.le_of_ble_eq_true rfl, Nat.le_of_ble_eq_true rfl⟩) (md_recv hK hP rfl) hK hP hD hN rfl hl.1 rfl (Nat.le_of_ble_eq_true rfl) dX3_dries_6) (fun H locs hP hD hS => ?_)
  refine lv_aload_n hx hb dX3_dries_9 rfl (lv_at hl 0 rfl) ?_
  refine md_get (ci := 3) (C := RX3) (T := TX3) (N := 13) (v := .ref (h 1)) hx hb hts hin hown hK hP rfl 0 (by decide) k_7 rfl rfl rfl dX3_dries_10 ?_
  refine lv_iconst (v := 2) hx hb dX3_dries_13 (by decide) ?_
  refine md_ia (v := x.2 0 (ix 2)) hx hb hK hP 0 0 rfl rfl (vp_in_iff.mpr ⟨by decide, by decide⟩) rfl dX3_dries_14 ?_
  refine lv_isub hx hb dX3_dries_15 ?_
  refine gn_i hP hS hA (rn_S (As := [.int ((pX3_pianoPart a1 2 x) - (x.2 0 (ix 2)))]) (rest := [.int 2, .int a1, .ref (h 0)]) ⟨hx, hb, hml, hown, hts⟩ (ctX3_held l G cI cC cZ cR ((pX3_pianoPart a1 2 x) - (x.2 0 (ix 2)))) (va_cwS 1 hts gX3_dries_X3_held rfl rfl rfl (by decide +kernel) ⟨Nat.le_of_ble_eq_true rfl, Nat.le_of_ble_eq_true rfl⟩) hK nilP (nilD (A := A)) hN rfl hl.1 rfl (Nat.le_of_ble_eq_true rfl) dX3_dries_16) (fun H locs hP hS => ?_)
  refine go_v hD hS hA (rn_V (As := [.int a1, .int 2, .int (pX3_held ((pX3_pianoPart a1 2 x) - (x.2 0 (ix 2))))]) (rest := []) ⟨hx, hb, hml, hown, hts⟩ (ctX3_setPiano l G cI cC cZ cR h x a1 2 (pX3_held ((pX3_pianoPart a1 2 x) - (x.2 0 (ix 2)))) (by first | with_reducible assumption | exact vp_in_iff.mpr ⟨by decide, by decide⟩ | exact vp_in_iff.mpr ⟨by omega, by omega⟩ | exact isPlace_in (by with_reducible assumption) | exact has_in (by with_reducible assumption) | exact isPlace3_in (by with_reducible assumption) | exact isPiano_in (by with_reducible assumption) | exact isOpen_in (by with_reducible assumption) | exact nearest3_in (by with_reducible assumption)) (by first | with_reducible assumption | exact vp_in_iff.mpr ⟨by decide, by decide⟩ | exact vp_in_iff.mpr ⟨by omega, by omega⟩ | exact isPlace_in (by with_reducible assumption) | exact has_in (by with_reducible assumption) | exact isPlace3_in (by with_reducible assumption) | exact isPiano_in (by with_reducible assumption) | exact isOpen_in (by with_reducible assumption) | exact nearest3_in (by with_reducible assumption))) (cwV 3 hts gX3_dries_X3_setPiano rfl rfl rfl (by decide +kernel) ⟨Nat.le_of_ble_eq_true rfl, Nat.le_of_ble_eq_true rfl⟩) (md_recv hK hP rfl) hK hP hD hN rfl hl.1 rfl (Nat.le_of_ble_eq_true rfl) dX3_dries_19) (fun H locs hP hD hS => ?_)
  refine lv_iload_n hx hb dX3_dries_22 rfl (lv_at hl 2 rfl) ?_
  refine lv_bipush (v := 8) hx hb dX3_dries_23 (by decide) ?_
  refine lv_bipush (v := 21) hx hb dX3_dries_25 (by decide) ?_
  refine gn_i hP hS hA (rn_S (As := [.int a2, .int 8, .int 21]) (rest := []) ⟨hx, hb, hml, hown, hts⟩ (ctX3_within l G cI cC cZ cR a2 8 21) (va_cwS 3 hts gX3_dries_X3_within rfl rfl rfl (by decide +kernel) ⟨Nat.le_of_ble_eq_true rfl, Nat.le_of_ble_eq_true rfl⟩) hK nilP (nilD (A := A)) hN rfl hl.1 rfl (Nat.le_of_ble_eq_true rfl) dX3_dries_27) (fun H locs hP hS => ?_)
  refine lv_if_eq (tgt := 103) hx hb dX3_dries_30 (by decide) (fun c_1 => ?_) (fun c_1 => ?_)
  · exact rt_s hx hb hr hlocks hP hD hS ((show pX3_dries a1 a2 x = (pX3_setPiano a1 2 (pX3_held ((pX3_pianoPart a1 2 x) - (x.2 0 (ix 2)))) x) by rw [pX3_dries, if_pos c_1]).symm.trans hres |>.symm) dX3_dries_103
  · refine lv_aload_n hx hb dX3_dries_33 rfl (lv_at hl 0 rfl) ?_
    refine lv_iload_n hx hb dX3_dries_34 rfl (lv_at hl 1 rfl) ?_
    refine lv_iconst (v := 2) hx hb dX3_dries_35 (by decide) ?_
    refine go_i hD hS hA (rn_V (As := [.int a1, .int 2]) (rest := []) ⟨hx, hb, hml, hown, hts⟩ (ctX3_pianoPart l G cI cC cZ cR h (pX3_setPiano a1 2 (pX3_held ((pX3_pianoPart a1 2 x) - (x.2 0 (ix 2)))) x) a1 2 (by first | with_reducible assumption | exact vp_in_iff.mpr ⟨by decide, by decide⟩ | exact vp_in_iff.mpr ⟨by omega, by omega⟩ | exact isPlace_in (by with_reducible assumption) | exact has_in (by with_reducible assumption) | exact isPlace3_in (by with_reducible assumption) | exact isPiano_in (by with_reducible assumption) | exact isOpen_in (by with_reducible assumption) | exact nearest3_in (by with_reducible assumption)) (by first | with_reducible assumption | exact vp_in_iff.mpr ⟨by decide, by decide⟩ | exact vp_in_iff.mpr ⟨by omega, by omega⟩ | exact isPlace_in (by with_reducible assumption) | exact has_in (by with_reducible assumption) | exact isPlace3_in (by with_reducible assumption) | exact isPiano_in (by with_reducible assumption) | exact isOpen_in (by with_reducible assumption) | exact nearest3_in (by with_reducible assumption))) (cwV 2 hts gX3_dries_X3_pianoPart rfl rfl rfl (by decide +kernel) ⟨Nat.le_of_ble_eq_true rfl, Nat.le_of_ble_eq_true rfl⟩) (md_recv hK hP rfl) hK hP hD hN rfl hl.1 rfl (Nat.le_of_ble_eq_true rfl) dX3_dries_36) (fun H locs hP hD hS => ?_)
    refine lv_bipush (v := 50) hx hb dX3_dries_39 (by decide) ?_
    refine lv_icmp_ge (tgt := 103) hx hb dX3_dries_41 (by decide) (fun c_2 => ?_) (fun c_2 => ?_)
    · have t_2 := i_le (z := (50)) (w := (Int32.toInt (pX3_pianoPart a1 2 (pX3_setPiano a1 2 (pX3_held ((pX3_pianoPart a1 2 x) - (x.2 0 (ix 2)))) x)))) c_2 (by decide) rfl
      exact rt_s hx hb hr hlocks hP hD hS ((show pX3_dries a1 a2 x = (pX3_setPiano a1 2 (pX3_held ((pX3_pianoPart a1 2 x) - (x.2 0 (ix 2)))) x) by rw [pX3_dries, if_neg c_1, if_pos c_2]).symm.trans hres |>.symm) dX3_dries_103
    · have t_2 := i_nle (z := (50)) (w := (Int32.toInt (pX3_pianoPart a1 2 (pX3_setPiano a1 2 (pX3_held ((pX3_pianoPart a1 2 x) - (x.2 0 (ix 2)))) x)))) c_2 (by decide) rfl
      refine lv_aload_n hx hb dX3_dries_44 rfl (lv_at hl 0 rfl) ?_
      refine md_get (ci := 3) (C := RX3) (T := TX3) (N := 13) (v := .ref (h 1)) hx hb hts hin hown hK hP rfl 0 (by decide) k_7 rfl rfl rfl dX3_dries_45 ?_
      refine lv_iconst (v := 4) hx hb dX3_dries_48 (by decide) ?_
      refine md_ia (v := (pX3_setPiano a1 2 (pX3_held ((pX3_pianoPart a1 2 x) - (x.2 0 (ix 2)))) x).2 0 (ix 4)) hx hb hK hP 0 0 rfl rfl (vp_in_iff.mpr ⟨by decide, by decide⟩) rfl dX3_dries_49 ?_
      refine lv_aload_n hx hb dX3_dries_50 rfl (lv_at hl 0 rfl) ?_
      refine lv_iload_n hx hb dX3_dries_51 rfl (lv_at hl 1 rfl) ?_
      refine lv_iconst (v := 1) hx hb dX3_dries_52 (by decide) ?_
      refine go_i hD hS hA (rn_V (As := [.int a1, .int 1]) (rest := [.int ((pX3_setPiano a1 2 (pX3_held ((pX3_pianoPart a1 2 x) - (x.2 0 (ix 2)))) x).2 0 (ix 4))]) ⟨hx, hb, hml, hown, hts⟩ (ctX3_pianoPart l G cI cC cZ cR h (pX3_setPiano a1 2 (pX3_held ((pX3_pianoPart a1 2 x) - (x.2 0 (ix 2)))) x) a1 1 (by first | with_reducible assumption | exact vp_in_iff.mpr ⟨by decide, by decide⟩ | exact vp_in_iff.mpr ⟨by omega, by omega⟩ | exact isPlace_in (by with_reducible assumption) | exact has_in (by with_reducible assumption) | exact isPlace3_in (by with_reducible assumption) | exact isPiano_in (by with_reducible assumption) | exact isOpen_in (by with_reducible assumption) | exact nearest3_in (by with_reducible assumption)) (by first | with_reducible assumption | exact vp_in_iff.mpr ⟨by decide, by decide⟩ | exact vp_in_iff.mpr ⟨by omega, by omega⟩ | exact isPlace_in (by with_reducible assumption) | exact has_in (by with_reducible assumption) | exact isPlace3_in (by with_reducible assumption) | exact isPiano_in (by with_reducible assumption) | exact isOpen_in (by with_reducible assumption) | exact nearest3_in (by with_reducible assumption))) (cwV 2 hts gX3_dries_X3_pianoPart rfl rfl rfl (by decide +kernel) ⟨Nat.le_of_ble_eq_true rfl, Nat.le_of_ble_eq_true rfl⟩) (md_recv hK hP rfl) hK hP hD hN rfl hl.1 rfl (Nat.le_of_ble_eq_true rfl) dX3_dries_53) (fun H locs hP hD hS => ?_)
      refine lv_imul hx hb dX3_dries_56 ?_
      refine lv_bipush (v := 100) hx hb dX3_dries_57 (by decide) ?_
      refine lv_idiv hx hb dX3_dries_59 (by decide) ?_
      refine lv_istore_n (lv' := [(3, .int ((((pX3_setPiano a1 2 (pX3_held ((pX3_pianoPart a1 2 x) - (x.2 0 (ix 2)))) x).2 0 (ix 4)) * (pX3_pianoPart a1 1 (pX3_setPiano a1 2 (pX3_held ((pX3_pianoPart a1 2 x) - (x.2 0 (ix 2)))) x))) / 100)), (0, .ref (h 0)), (1, .int a1), (2, .int a2)]) hx hb dX3_dries_60 rfl hl (by decide) rfl (fun ls hl => ?_)
      refine lv_aload_n hx hb dX3_dries_61 rfl (lv_at hl 1 rfl) ?_
      refine lv_iload_n hx hb dX3_dries_62 rfl (lv_at hl 2 rfl) ?_
      refine lv_iconst (v := 4) hx hb dX3_dries_63 (by decide) ?_
      refine lv_aload_n hx hb dX3_dries_64 rfl (lv_at hl 1 rfl) ?_
      refine lv_iload_n hx hb dX3_dries_65 rfl (lv_at hl 2 rfl) ?_
      refine lv_iconst (v := 4) hx hb dX3_dries_66 (by decide) ?_
      refine go_i hD hS hA (rn_V (As := [.int a1, .int 4]) (rest := [.int 4, .int a1, .ref (h 0)]) ⟨hx, hb, hml, hown, hts⟩ (ctX3_pianoPart l G cI cC cZ cR h (pX3_setPiano a1 2 (pX3_held ((pX3_pianoPart a1 2 x) - (x.2 0 (ix 2)))) x) a1 4 (by first | with_reducible assumption | exact vp_in_iff.mpr ⟨by decide, by decide⟩ | exact vp_in_iff.mpr ⟨by omega, by omega⟩ | exact isPlace_in (by with_reducible assumption) | exact has_in (by with_reducible assumption) | exact isPlace3_in (by with_reducible assumption) | exact isPiano_in (by with_reducible assumption) | exact isOpen_in (by with_reducible assumption) | exact nearest3_in (by with_reducible assumption)) (by first | with_reducible assumption | exact vp_in_iff.mpr ⟨by decide, by decide⟩ | exact vp_in_iff.mpr ⟨by omega, by omega⟩ | exact isPlace_in (by with_reducible assumption) | exact has_in (by with_reducible assumption) | exact isPlace3_in (by with_reducible assumption) | exact isPiano_in (by with_reducible assumption) | exact isOpen_in (by with_reducible assumption) | exact nearest3_in (by with_reducible assumption))) (cwV 2 hts gX3_dries_X3_pianoPart rfl rfl rfl (by decide +kernel) ⟨Nat.le_of_ble_eq_true rfl, Nat.le_of_ble_eq_true rfl⟩) (md_recv hK hP rfl) hK hP hD hN rfl hl.1 rfl (Nat.le_of_ble_eq_true rfl) dX3_dries_67) (fun H locs hP hD hS => ?_)
      refine lv_iload_n hx hb dX3_dries_70 rfl (lv_at hl 0 rfl) ?_
      refine lv_iadd hx hb dX3_dries_71 ?_
      refine go_v hD hS hA (rn_V (As := [.int a1, .int 4, .int ((pX3_pianoPart a1 4 (pX3_setPiano a1 2 (pX3_held ((pX3_pianoPart a1 2 x) - (x.2 0 (ix 2)))) x)) + ((((pX3_setPiano a1 2 (pX3_held ((pX3_pianoPart a1 2 x) - (x.2 0 (ix 2)))) x).2 0 (ix 4)) * (pX3_pianoPart a1 1 (pX3_setPiano a1 2 (pX3_held ((pX3_pianoPart a1 2 x) - (x.2 0 (ix 2)))) x))) / 100))]) (rest := []) ⟨hx, hb, hml, hown, hts⟩ (ctX3_setPiano l G cI cC cZ cR h (pX3_setPiano a1 2 (pX3_held ((pX3_pianoPart a1 2 x) - (x.2 0 (ix 2)))) x) a1 4 ((pX3_pianoPart a1 4 (pX3_setPiano a1 2 (pX3_held ((pX3_pianoPart a1 2 x) - (x.2 0 (ix 2)))) x)) + ((((pX3_setPiano a1 2 (pX3_held ((pX3_pianoPart a1 2 x) - (x.2 0 (ix 2)))) x).2 0 (ix 4)) * (pX3_pianoPart a1 1 (pX3_setPiano a1 2 (pX3_held ((pX3_pianoPart a1 2 x) - (x.2 0 (ix 2)))) x))) / 100)) (by first | with_reducible assumption | exact vp_in_iff.mpr ⟨by decide, by decide⟩ | exact vp_in_iff.mpr ⟨by omega, by omega⟩ | exact isPlace_in (by with_reducible assumption) | exact has_in (by with_reducible assumption) | exact isPlace3_in (by with_reducible assumption) | exact isPiano_in (by with_reducible assumption) | exact isOpen_in (by with_reducible assumption) | exact nearest3_in (by with_reducible assumption)) (by first | with_reducible assumption | exact vp_in_iff.mpr ⟨by decide, by decide⟩ | exact vp_in_iff.mpr ⟨by omega, by omega⟩ | exact isPlace_in (by with_reducible assumption) | exact has_in (by with_reducible assumption) | exact isPlace3_in (by with_reducible assumption) | exact isPiano_in (by with_reducible assumption) | exact isOpen_in (by with_reducible assumption) | exact nearest3_in (by with_reducible assumption))) (cwV 3 hts gX3_dries_X3_setPiano rfl rfl rfl (by decide +kernel) ⟨Nat.le_of_ble_eq_true rfl, Nat.le_of_ble_eq_true rfl⟩) (md_recv hK hP rfl) hK hP hD hN rfl hl.1 rfl (Nat.le_of_ble_eq_true rfl) dX3_dries_72) (fun H locs hP hD hS => ?_)
      refine lv_aload_n hx hb dX3_dries_75 rfl (lv_at hl 1 rfl) ?_
      refine lv_iload_n hx hb dX3_dries_76 rfl (lv_at hl 2 rfl) ?_
      refine lv_iconst (v := 1) hx hb dX3_dries_77 (by decide) ?_
      refine lv_aload_n hx hb dX3_dries_78 rfl (lv_at hl 1 rfl) ?_
      refine lv_iload_n hx hb dX3_dries_79 rfl (lv_at hl 2 rfl) ?_
      refine lv_iconst (v := 1) hx hb dX3_dries_80 (by decide) ?_
      refine go_i hD hS hA (rn_V (As := [.int a1, .int 1]) (rest := [.int 1, .int a1, .ref (h 0)]) ⟨hx, hb, hml, hown, hts⟩ (ctX3_pianoPart l G cI cC cZ cR h (pX3_setPiano a1 4 ((pX3_pianoPart a1 4 (pX3_setPiano a1 2 (pX3_held ((pX3_pianoPart a1 2 x) - (x.2 0 (ix 2)))) x)) + ((((pX3_setPiano a1 2 (pX3_held ((pX3_pianoPart a1 2 x) - (x.2 0 (ix 2)))) x).2 0 (ix 4)) * (pX3_pianoPart a1 1 (pX3_setPiano a1 2 (pX3_held ((pX3_pianoPart a1 2 x) - (x.2 0 (ix 2)))) x))) / 100)) (pX3_setPiano a1 2 (pX3_held ((pX3_pianoPart a1 2 x) - (x.2 0 (ix 2)))) x)) a1 1 (by first | with_reducible assumption | exact vp_in_iff.mpr ⟨by decide, by decide⟩ | exact vp_in_iff.mpr ⟨by omega, by omega⟩ | exact isPlace_in (by with_reducible assumption) | exact has_in (by with_reducible assumption) | exact isPlace3_in (by with_reducible assumption) | exact isPiano_in (by with_reducible assumption) | exact isOpen_in (by with_reducible assumption) | exact nearest3_in (by with_reducible assumption)) (by first | with_reducible assumption | exact vp_in_iff.mpr ⟨by decide, by decide⟩ | exact vp_in_iff.mpr ⟨by omega, by omega⟩ | exact isPlace_in (by with_reducible assumption) | exact has_in (by with_reducible assumption) | exact isPlace3_in (by with_reducible assumption) | exact isPiano_in (by with_reducible assumption) | exact isOpen_in (by with_reducible assumption) | exact nearest3_in (by with_reducible assumption))) (cwV 2 hts gX3_dries_X3_pianoPart rfl rfl rfl (by decide +kernel) ⟨Nat.le_of_ble_eq_true rfl, Nat.le_of_ble_eq_true rfl⟩) (md_recv hK hP rfl) hK hP hD hN rfl hl.1 rfl (Nat.le_of_ble_eq_true rfl) dX3_dries_81) (fun H locs hP hD hS => ?_)
      refine lv_iconst (v := 1) hx hb dX3_dries_84 (by decide) ?_
      refine lv_isub hx hb dX3_dries_85 ?_
      refine gn_i hP hS hA (rn_S (As := [.int ((pX3_pianoPart a1 1 (pX3_setPiano a1 4 ((pX3_pianoPart a1 4 (pX3_setPiano a1 2 (pX3_held ((pX3_pianoPart a1 2 x) - (x.2 0 (ix 2)))) x)) + ((((pX3_setPiano a1 2 (pX3_held ((pX3_pianoPart a1 2 x) - (x.2 0 (ix 2)))) x).2 0 (ix 4)) * (pX3_pianoPart a1 1 (pX3_setPiano a1 2 (pX3_held ((pX3_pianoPart a1 2 x) - (x.2 0 (ix 2)))) x))) / 100)) (pX3_setPiano a1 2 (pX3_held ((pX3_pianoPart a1 2 x) - (x.2 0 (ix 2)))) x))) - 1)]) (rest := [.int 1, .int a1, .ref (h 0)]) ⟨hx, hb, hml, hown, hts⟩ (ctX3_held l G cI cC cZ cR ((pX3_pianoPart a1 1 (pX3_setPiano a1 4 ((pX3_pianoPart a1 4 (pX3_setPiano a1 2 (pX3_held ((pX3_pianoPart a1 2 x) - (x.2 0 (ix 2)))) x)) + ((((pX3_setPiano a1 2 (pX3_held ((pX3_pianoPart a1 2 x) - (x.2 0 (ix 2)))) x).2 0 (ix 4)) * (pX3_pianoPart a1 1 (pX3_setPiano a1 2 (pX3_held ((pX3_pianoPart a1 2 x) - (x.2 0 (ix 2)))) x))) / 100)) (pX3_setPiano a1 2 (pX3_held ((pX3_pianoPart a1 2 x) - (x.2 0 (ix 2)))) x))) - 1)) (va_cwS 1 hts gX3_dries_X3_held rfl rfl rfl (by decide +kernel) ⟨Nat.le_of_ble_eq_true rfl, Nat.le_of_ble_eq_true rfl⟩) hK nilP (nilD (A := A)) hN rfl hl.1 rfl (Nat.le_of_ble_eq_true rfl) dX3_dries_86) (fun H locs hP hS => ?_)
      refine go_v hD hS hA (rn_V (As := [.int a1, .int 1, .int (pX3_held ((pX3_pianoPart a1 1 (pX3_setPiano a1 4 ((pX3_pianoPart a1 4 (pX3_setPiano a1 2 (pX3_held ((pX3_pianoPart a1 2 x) - (x.2 0 (ix 2)))) x)) + ((((pX3_setPiano a1 2 (pX3_held ((pX3_pianoPart a1 2 x) - (x.2 0 (ix 2)))) x).2 0 (ix 4)) * (pX3_pianoPart a1 1 (pX3_setPiano a1 2 (pX3_held ((pX3_pianoPart a1 2 x) - (x.2 0 (ix 2)))) x))) / 100)) (pX3_setPiano a1 2 (pX3_held ((pX3_pianoPart a1 2 x) - (x.2 0 (ix 2)))) x))) - 1))]) (rest := []) ⟨hx, hb, hml, hown, hts⟩ (ctX3_setPiano l G cI cC cZ cR h (pX3_setPiano a1 4 ((pX3_pianoPart a1 4 (pX3_setPiano a1 2 (pX3_held ((pX3_pianoPart a1 2 x) - (x.2 0 (ix 2)))) x)) + ((((pX3_setPiano a1 2 (pX3_held ((pX3_pianoPart a1 2 x) - (x.2 0 (ix 2)))) x).2 0 (ix 4)) * (pX3_pianoPart a1 1 (pX3_setPiano a1 2 (pX3_held ((pX3_pianoPart a1 2 x) - (x.2 0 (ix 2)))) x))) / 100)) (pX3_setPiano a1 2 (pX3_held ((pX3_pianoPart a1 2 x) - (x.2 0 (ix 2)))) x)) a1 1 (pX3_held ((pX3_pianoPart a1 1 (pX3_setPiano a1 4 ((pX3_pianoPart a1 4 (pX3_setPiano a1 2 (pX3_held ((pX3_pianoPart a1 2 x) - (x.2 0 (ix 2)))) x)) + ((((pX3_setPiano a1 2 (pX3_held ((pX3_pianoPart a1 2 x) - (x.2 0 (ix 2)))) x).2 0 (ix 4)) * (pX3_pianoPart a1 1 (pX3_setPiano a1 2 (pX3_held ((pX3_pianoPart a1 2 x) - (x.2 0 (ix 2)))) x))) / 100)) (pX3_setPiano a1 2 (pX3_held ((pX3_pianoPart a1 2 x) - (x.2 0 (ix 2)))) x))) - 1)) (by first | with_reducible assumption | exact vp_in_iff.mpr ⟨by decide, by decide⟩ | exact vp_in_iff.mpr ⟨by omega, by omega⟩ | exact isPlace_in (by with_reducible assumption) | exact has_in (by with_reducible assumption) | exact isPlace3_in (by with_reducible assumption) | exact isPiano_in (by with_reducible assumption) | exact isOpen_in (by with_reducible assumption) | exact nearest3_in (by with_reducible assumption)) (by first | with_reducible assumption | exact vp_in_iff.mpr ⟨by decide, by decide⟩ | exact vp_in_iff.mpr ⟨by omega, by omega⟩ | exact isPlace_in (by with_reducible assumption) | exact has_in (by with_reducible assumption) | exact isPlace3_in (by with_reducible assumption) | exact isPiano_in (by with_reducible assumption) | exact isOpen_in (by with_reducible assumption) | exact nearest3_in (by with_reducible assumption))) (cwV 3 hts gX3_dries_X3_setPiano rfl rfl rfl (by decide +kernel) ⟨Nat.le_of_ble_eq_true rfl, Nat.le_of_ble_eq_true rfl⟩) (md_recv hK hP rfl) hK hP hD hN rfl hl.1 rfl (Nat.le_of_ble_eq_true rfl) dX3_dries_89) (fun H locs hP hD hS => ?_)
      refine lv_aload_n hx hb dX3_dries_92 rfl (lv_at hl 1 rfl) ?_
      refine md_get (ci := 3) (C := RX3) (T := TX3) (N := 13) (v := .ref (h 1)) hx hb hts hin hown hK hP rfl 0 (by decide) k_7 rfl rfl rfl dX3_dries_93 ?_
      refine lv_bipush (v := 9) hx hb dX3_dries_96 (by decide) ?_
      refine lv_dup2_11 hx hb dX3_dries_98 rfl rfl ?_
      refine md_ia (v := (pX3_setPiano a1 1 (pX3_held ((pX3_pianoPart a1 1 (pX3_setPiano a1 4 ((pX3_pianoPart a1 4 (pX3_setPiano a1 2 (pX3_held ((pX3_pianoPart a1 2 x) - (x.2 0 (ix 2)))) x)) + ((((pX3_setPiano a1 2 (pX3_held ((pX3_pianoPart a1 2 x) - (x.2 0 (ix 2)))) x).2 0 (ix 4)) * (pX3_pianoPart a1 1 (pX3_setPiano a1 2 (pX3_held ((pX3_pianoPart a1 2 x) - (x.2 0 (ix 2)))) x))) / 100)) (pX3_setPiano a1 2 (pX3_held ((pX3_pianoPart a1 2 x) - (x.2 0 (ix 2)))) x))) - 1)) (pX3_setPiano a1 4 ((pX3_pianoPart a1 4 (pX3_setPiano a1 2 (pX3_held ((pX3_pianoPart a1 2 x) - (x.2 0 (ix 2)))) x)) + ((((pX3_setPiano a1 2 (pX3_held ((pX3_pianoPart a1 2 x) - (x.2 0 (ix 2)))) x).2 0 (ix 4)) * (pX3_pianoPart a1 1 (pX3_setPiano a1 2 (pX3_held ((pX3_pianoPart a1 2 x) - (x.2 0 (ix 2)))) x))) / 100)) (pX3_setPiano a1 2 (pX3_held ((pX3_pianoPart a1 2 x) - (x.2 0 (ix 2)))) x))).2 0 (ix 9)) hx hb hK hP 0 0 rfl rfl (vp_in_iff.mpr ⟨by decide, by decide⟩) rfl dX3_dries_99 ?_
      refine lv_iload_n hx hb dX3_dries_100 rfl (lv_at hl 0 rfl) ?_
      refine lv_iadd hx hb dX3_dries_101 ?_
      refine md_is hx hb hK hP hD hS 0 0 rfl rfl (vp_in_iff.mpr ⟨by decide, by decide⟩) dX3_dries_102 (fun H locs hP hD hS => ?_)
      exact rt_s hx hb hr hlocks hP hD hS ((show pX3_dries a1 a2 x = (pR (pX3_setPiano a1 1 (pX3_held ((pX3_pianoPart a1 1 (pX3_setPiano a1 4 ((pX3_pianoPart a1 4 (pX3_setPiano a1 2 (pX3_held ((pX3_pianoPart a1 2 x) - (x.2 0 (ix 2)))) x)) + ((((pX3_setPiano a1 2 (pX3_held ((pX3_pianoPart a1 2 x) - (x.2 0 (ix 2)))) x).2 0 (ix 4)) * (pX3_pianoPart a1 1 (pX3_setPiano a1 2 (pX3_held ((pX3_pianoPart a1 2 x) - (x.2 0 (ix 2)))) x))) / 100)) (pX3_setPiano a1 2 (pX3_held ((pX3_pianoPart a1 2 x) - (x.2 0 (ix 2)))) x))) - 1)) (pX3_setPiano a1 4 ((pX3_pianoPart a1 4 (pX3_setPiano a1 2 (pX3_held ((pX3_pianoPart a1 2 x) - (x.2 0 (ix 2)))) x)) + ((((pX3_setPiano a1 2 (pX3_held ((pX3_pianoPart a1 2 x) - (x.2 0 (ix 2)))) x).2 0 (ix 4)) * (pX3_pianoPart a1 1 (pX3_setPiano a1 2 (pX3_held ((pX3_pianoPart a1 2 x) - (x.2 0 (ix 2)))) x))) / 100)) (pX3_setPiano a1 2 (pX3_held ((pX3_pianoPart a1 2 x) - (x.2 0 (ix 2)))) x))) 0 9 (((pX3_setPiano a1 1 (pX3_held ((pX3_pianoPart a1 1 (pX3_setPiano a1 4 ((pX3_pianoPart a1 4 (pX3_setPiano a1 2 (pX3_held ((pX3_pianoPart a1 2 x) - (x.2 0 (ix 2)))) x)) + ((((pX3_setPiano a1 2 (pX3_held ((pX3_pianoPart a1 2 x) - (x.2 0 (ix 2)))) x).2 0 (ix 4)) * (pX3_pianoPart a1 1 (pX3_setPiano a1 2 (pX3_held ((pX3_pianoPart a1 2 x) - (x.2 0 (ix 2)))) x))) / 100)) (pX3_setPiano a1 2 (pX3_held ((pX3_pianoPart a1 2 x) - (x.2 0 (ix 2)))) x))) - 1)) (pX3_setPiano a1 4 ((pX3_pianoPart a1 4 (pX3_setPiano a1 2 (pX3_held ((pX3_pianoPart a1 2 x) - (x.2 0 (ix 2)))) x)) + ((((pX3_setPiano a1 2 (pX3_held ((pX3_pianoPart a1 2 x) - (x.2 0 (ix 2)))) x).2 0 (ix 4)) * (pX3_pianoPart a1 1 (pX3_setPiano a1 2 (pX3_held ((pX3_pianoPart a1 2 x) - (x.2 0 (ix 2)))) x))) / 100)) (pX3_setPiano a1 2 (pX3_held ((pX3_pianoPart a1 2 x) - (x.2 0 (ix 2)))) x))).2 0 (ix 9)) + ((((pX3_setPiano a1 2 (pX3_held ((pX3_pianoPart a1 2 x) - (x.2 0 (ix 2)))) x).2 0 (ix 4)) * (pX3_pianoPart a1 1 (pX3_setPiano a1 2 (pX3_held ((pX3_pianoPart a1 2 x) - (x.2 0 (ix 2)))) x))) / 100))) by rw [pX3_dries, if_neg c_1, if_neg c_2]).symm.trans hres |>.symm) dX3_dries_103
theorem dries_K {a1 a2 : Int32} {x : SR} (hp : vp_in a1 12) : KP x (pX3_dries a1 a2 x) := by
  rw [pX3_dries]
  by_cases d_43 : (pX3_within a2 8 21) = 0
  · rw [if_pos d_43]
    exact setPiano_K hp (li_in (by decide))
  · rw [if_neg d_43]
    by_cases d_44 : 50 ≤ (pX3_pianoPart a1 2 (pX3_setPiano a1 2 (pX3_held ((pX3_pianoPart a1 2 x) - (x.2 0 (ix 2)))) x))
    · rw [if_pos d_44]
      exact setPiano_K hp (li_in (by decide))
    · rw [if_neg d_44]
      exact (((setPiano_K hp (li_in (by decide))).tr (setPiano_K hp (li_in (by decide)))).tr (setPiano_K hp (li_in (by decide)))).tr (KP_R (by decide))
def pX3_thieves_L2 : Nat → Int32 → SR → SR
  | 0, v1, x => x
  | n + 1, v1, x => if 12 ≤ v1 then x
    else if (pX3_isPiano v1 x) = 0 then pX3_thieves_L2 n (v1 + 1) x
      else if (pX3_pianoPart v1 3 x) = 1 then if (pX3_keepersAt v1 x) = 0 then if (((7 * (x.2 0 (ix 7))) + (3 * v1)) - ((7 * (x.2 0 (ix 7))) + (3 * v1)) / (x.2 0 (ix 6)) * (x.2 0 (ix 6))) = 0 then pX3_thieves_L2 n (v1 + 1) (pR (pX3_setPiano v1 3 0 x) 0 10 (((pX3_setPiano v1 3 0 x).2 0 (ix 10)) + 1))
            else pX3_thieves_L2 n (v1 + 1) x
          else pX3_thieves_L2 n (v1 + 1) x
        else pX3_thieves_L2 n (v1 + 1) x
def pX3_thieves (x : SR) : SR := pX3_thieves_L2 13 0 x
set_option maxHeartbeats 4000000 in
set_option maxRecDepth 100000 in
theorem ctX3_thieves (l : Launch) (G : va_G) (cI cC cZ cR : ClassId) (h : Ad) (x : SR) (q_0 : MI x) : Ct l yX3_thieves wsX3_thieves (rmz 3 63) G (TY cI cC cZ cR) [.ref (h 0)] (wMo cI h x) (Qv G (wMo cI h x) (wMo cI h (pX3_thieves x))) := by
  refine Ct.ofV (cc := cX3_thieves) (maxL := 3) (ret := none) (by decide) rfl rfl ?_
  intro p e s m below meth c A ls E0 hP hD hS hl
  obtain ⟨hx, hb, hr, hml, hlocks, hts, hown, hK, hN, hA⟩ := E0
  have hl : lv_has ls 3 [(0, .ref (h 0))] := hl
  have hin : ∀ w ∈ wsX30, w ∈ wsX3_thieves := fun w hw => List.mem_cons_of_mem _ (List.mem_append_right _ (hw))
  have k_7 : (Cond.fieldLink RX3 7 RX3 (TX3 0).2.1 (TX3 0).2.2.1).before ([.ref (h 0)] : List Value).toArray s = true := hts _ (List.mem_of_getElem? (i := 1) rfl)
  generalize hres : pX3_thieves x = res
  have lp_2 : ∀ (n : Nat) (v1 : Int32) (x : SR), 0 ≤ Int32.toInt v1 → Int32.toInt v1 ≤ 12 → MI x → 12 - Int32.toInt v1 < (n : Int) → pX3_thieves_L2 n v1 x = res → ∀ (H : Heap) (locs : List Loc) (ls : Array Slot), va_P G vwCl (wMo cI h x) H → va_D A (wMo cI h x) → va_S A s.heap H locs → lv_has ls 3 [(0, .ref (h 0)), (1, .int v1)] → W p l e (rmz 3 63) s m ([.ref (h 0)] : List Value).toArray below meth c H locs 0 0 (MQ below (QvA G A (wMo cI h res)) ([.ref (h 0)] : List Value).toArray s 0 0 A) (F0 m 2 ls []) := by
    intro n
    induction n with
    | zero =>
      intro v1 x g_0 g_1 g_2 hm
      exfalso; omega
    | succ n ih =>
      intro v1 x g_0 g_1 g_2 hm hq H locs ls hP hD hS hl
      refine lv_iload_n hx hb dX3_thieves_2 rfl (lv_at hl 1 rfl) ?_
      refine lv_bipush (v := 12) hx hb dX3_thieves_3 (by decide) ?_
      refine lv_icmp_ge (tgt := 93) hx hb dX3_thieves_5 (by decide) (fun c_1 => ?_) (fun c_1 => ?_)
      · have t_1 := i_le (z := (12)) (w := (Int32.toInt v1)) c_1 (by decide) rfl
        exact rt_s hx hb hr hlocks hP hD hS ((show pX3_thieves_L2 (n + 1) v1 x = x by rw [pX3_thieves_L2, if_pos c_1]).symm.trans hq |>.symm) dX3_thieves_93
      · have t_1 := i_nle (z := (12)) (w := (Int32.toInt v1)) c_1 (by decide) rfl
        refine lv_aload_n hx hb dX3_thieves_8 rfl (lv_at hl 0 rfl) ?_
        refine lv_iload_n hx hb dX3_thieves_9 rfl (lv_at hl 1 rfl) ?_
        refine go_i hD hS hA (rn_V (As := [.int v1]) (rest := []) ⟨hx, hb, hml, hown, hts⟩ (ctX3_isPiano l G cI cC cZ cR h x v1) (cwV 1 hts gX3_thieves_X3_isPiano rfl rfl rfl (by decide +kernel) ⟨Nat.le_of_ble_eq_true rfl, Nat.le_of_ble_eq_true rfl⟩) (md_recv hK hP rfl) hK hP hD hN rfl hl.1 rfl (Nat.le_of_ble_eq_true rfl) dX3_thieves_10) (fun H locs hP hD hS => ?_)
        refine lv_if_eq (tgt := 38) hx hb dX3_thieves_13 (by decide) (fun c_2 => ?_) (fun c_2 => ?_)
        · refine lv_iconst (v := 0) hx hb dX3_thieves_38 (by decide) ?_
          refine lv_istore_n (lv' := [(2, .int 0), (0, .ref (h 0)), (1, .int v1)]) hx hb dX3_thieves_39 rfl hl (by decide) rfl (fun ls hl => ?_)
          refine lv_iload_n hx hb dX3_thieves_40 rfl (lv_at hl 0 rfl) ?_
          refine lv_if_eq (tgt := 87) hx hb dX3_thieves_41 (by decide) (fun cz => ?_) (fun cz => absurd cz (by decide))
          refine lv_iinc (v := (v1 + 1)) (lv' := [(1, .int (v1 + 1)), (2, .int 0), (0, .ref (h 0))]) hx hb dX3_thieves_87 hl (k := 2) rfl rfl (by decide) rfl (fun ls hl => ?_)
          have a_87 := i_add1 (a := v1) (by omega) (by omega)
          refine lv_goto (tgt := 2) hx hb dX3_thieves_90 (by decide) ?_
          exact ih (v1 + 1) x (by omega) (by omega) (by first | with_reducible exact g_2 | exact MI.of ((setPiano_K (isPiano_in (by with_reducible assumption)) (li_in (by decide))).tr (KP_R (by decide))) g_2) (by omega) ((show pX3_thieves_L2 (n + 1) v1 x = pX3_thieves_L2 n (v1 + 1) x by rw [pX3_thieves_L2, if_neg c_1, if_pos c_2]).symm.trans hq) _ _ _ hP hD hS (lv_sub hl [2, 0] rfl)
        · refine lv_aload_n hx hb dX3_thieves_16 rfl (lv_at hl 0 rfl) ?_
          refine lv_iload_n hx hb dX3_thieves_17 rfl (lv_at hl 1 rfl) ?_
          refine lv_iconst (v := 3) hx hb dX3_thieves_18 (by decide) ?_
          refine go_i hD hS hA (rn_V (As := [.int v1, .int 3]) (rest := []) ⟨hx, hb, hml, hown, hts⟩ (ctX3_pianoPart l G cI cC cZ cR h x v1 3 (by first | with_reducible assumption | exact vp_in_iff.mpr ⟨by decide, by decide⟩ | exact vp_in_iff.mpr ⟨by omega, by omega⟩ | exact isPlace_in (by with_reducible assumption) | exact has_in (by with_reducible assumption) | exact isPlace3_in (by with_reducible assumption) | exact isPiano_in (by with_reducible assumption) | exact isOpen_in (by with_reducible assumption) | exact nearest3_in (by with_reducible assumption)) (by first | with_reducible assumption | exact vp_in_iff.mpr ⟨by decide, by decide⟩ | exact vp_in_iff.mpr ⟨by omega, by omega⟩ | exact isPlace_in (by with_reducible assumption) | exact has_in (by with_reducible assumption) | exact isPlace3_in (by with_reducible assumption) | exact isPiano_in (by with_reducible assumption) | exact isOpen_in (by with_reducible assumption) | exact nearest3_in (by with_reducible assumption))) (cwV 2 hts gX3_thieves_X3_pianoPart rfl rfl rfl (by decide +kernel) ⟨Nat.le_of_ble_eq_true rfl, Nat.le_of_ble_eq_true rfl⟩) (md_recv hK hP rfl) hK hP hD hN rfl hl.1 rfl (Nat.le_of_ble_eq_true rfl) dX3_thieves_19) (fun H locs hP hD hS => ?_)
          refine lv_iconst (v := 1) hx hb dX3_thieves_22 (by decide) ?_
          refine lv_icmp_ne (tgt := 38) hx hb dX3_thieves_23 (by decide) (fun c_3 => ?_) (fun c_3 => ?_)
          · refine lv_iconst (v := 0) hx hb dX3_thieves_38 (by decide) ?_
            refine lv_istore_n (lv' := [(2, .int 0), (0, .ref (h 0)), (1, .int v1)]) hx hb dX3_thieves_39 rfl hl (by decide) rfl (fun ls hl => ?_)
            refine lv_iload_n hx hb dX3_thieves_40 rfl (lv_at hl 0 rfl) ?_
            refine lv_if_eq (tgt := 87) hx hb dX3_thieves_41 (by decide) (fun cz => ?_) (fun cz => absurd cz (by decide))
            refine lv_iinc (v := (v1 + 1)) (lv' := [(1, .int (v1 + 1)), (2, .int 0), (0, .ref (h 0))]) hx hb dX3_thieves_87 hl (k := 2) rfl rfl (by decide) rfl (fun ls hl => ?_)
            have a_87 := i_add1 (a := v1) (by omega) (by omega)
            refine lv_goto (tgt := 2) hx hb dX3_thieves_90 (by decide) ?_
            exact ih (v1 + 1) x (by omega) (by omega) (by first | with_reducible exact g_2 | exact MI.of ((setPiano_K (isPiano_in (by with_reducible assumption)) (li_in (by decide))).tr (KP_R (by decide))) g_2) (by omega) ((show pX3_thieves_L2 (n + 1) v1 x = pX3_thieves_L2 n (v1 + 1) x by rw [pX3_thieves_L2, if_neg c_1, if_neg c_2, if_neg c_3]).symm.trans hq) _ _ _ hP hD hS (lv_sub hl [2, 0] rfl)
          · refine lv_aload_n hx hb dX3_thieves_26 rfl (lv_at hl 0 rfl) ?_
            refine lv_iload_n hx hb dX3_thieves_27 rfl (lv_at hl 1 rfl) ?_
            refine go_i hD hS hA (rn_V (As := [.int v1]) (rest := []) ⟨hx, hb, hml, hown, hts⟩ (ctX3_keepersAt l G cI cC cZ cR h x v1 (by exact g_2.2.2.2)) (cwV 1 hts gX3_thieves_X3_keepersAt rfl rfl rfl (by decide +kernel) ⟨Nat.le_of_ble_eq_true rfl, Nat.le_of_ble_eq_true rfl⟩) (md_recv hK hP rfl) hK hP hD hN rfl hl.1 rfl (Nat.le_of_ble_eq_true rfl) dX3_thieves_28) (fun H locs hP hD hS => ?_)
            refine lv_if_ne (tgt := 38) hx hb dX3_thieves_31 (by decide) (fun c_4 => ?_) (fun c_4 => ?_)
            · refine lv_iconst (v := 0) hx hb dX3_thieves_38 (by decide) ?_
              refine lv_istore_n (lv' := [(2, .int 0), (0, .ref (h 0)), (1, .int v1)]) hx hb dX3_thieves_39 rfl hl (by decide) rfl (fun ls hl => ?_)
              refine lv_iload_n hx hb dX3_thieves_40 rfl (lv_at hl 0 rfl) ?_
              refine lv_if_eq (tgt := 87) hx hb dX3_thieves_41 (by decide) (fun cz => ?_) (fun cz => absurd cz (by decide))
              refine lv_iinc (v := (v1 + 1)) (lv' := [(1, .int (v1 + 1)), (2, .int 0), (0, .ref (h 0))]) hx hb dX3_thieves_87 hl (k := 2) rfl rfl (by decide) rfl (fun ls hl => ?_)
              have a_87 := i_add1 (a := v1) (by omega) (by omega)
              refine lv_goto (tgt := 2) hx hb dX3_thieves_90 (by decide) ?_
              exact ih (v1 + 1) x (by omega) (by omega) (by first | with_reducible exact g_2 | exact MI.of ((setPiano_K (isPiano_in (by with_reducible assumption)) (li_in (by decide))).tr (KP_R (by decide))) g_2) (by omega) ((show pX3_thieves_L2 (n + 1) v1 x = pX3_thieves_L2 n (v1 + 1) x by rw [pX3_thieves_L2, if_neg c_1, if_neg c_2, if_pos c_3, if_neg c_4]).symm.trans hq) _ _ _ hP hD hS (lv_sub hl [2, 0] rfl)
            · refine lv_iconst (v := 1) hx hb dX3_thieves_34 (by decide) ?_
              refine lv_goto (tgt := 39) hx hb dX3_thieves_35 (by decide) ?_
              refine lv_istore_n (lv' := [(2, .int 1), (0, .ref (h 0)), (1, .int v1)]) hx hb dX3_thieves_39 rfl hl (by decide) rfl (fun ls hl => ?_)
              refine lv_iload_n hx hb dX3_thieves_40 rfl (lv_at hl 0 rfl) ?_
              refine lv_if_eq (tgt := 87) hx hb dX3_thieves_41 (by decide) (fun cz => absurd cz (by decide)) (fun cz => ?_)
              refine lv_bipush (v := 7) hx hb dX3_thieves_44 (by decide) ?_
              refine lv_aload_n hx hb dX3_thieves_46 rfl (lv_at hl 1 rfl) ?_
              refine md_get (ci := 3) (C := RX3) (T := TX3) (N := 13) (v := .ref (h 1)) hx hb hts hin hown hK hP rfl 0 (by decide) k_7 rfl rfl rfl dX3_thieves_47 ?_
              refine lv_bipush (v := 7) hx hb dX3_thieves_50 (by decide) ?_
              refine md_ia (v := x.2 0 (ix 7)) hx hb hK hP 0 0 rfl rfl (vp_in_iff.mpr ⟨by decide, by decide⟩) rfl dX3_thieves_52 ?_
              refine lv_imul hx hb dX3_thieves_53 ?_
              refine lv_iconst (v := 3) hx hb dX3_thieves_54 (by decide) ?_
              refine lv_iload_n hx hb dX3_thieves_55 rfl (lv_at hl 2 rfl) ?_
              refine lv_imul hx hb dX3_thieves_56 ?_
              refine lv_iadd hx hb dX3_thieves_57 ?_
              refine lv_aload_n hx hb dX3_thieves_58 rfl (lv_at hl 1 rfl) ?_
              refine md_get (ci := 3) (C := RX3) (T := TX3) (N := 13) (v := .ref (h 1)) hx hb hts hin hown hK hP rfl 0 (by decide) k_7 rfl rfl rfl dX3_thieves_59 ?_
              refine lv_bipush (v := 6) hx hb dX3_thieves_62 (by decide) ?_
              refine md_ia (v := x.2 0 (ix 6)) hx hb hK hP 0 0 rfl rfl (vp_in_iff.mpr ⟨by decide, by decide⟩) rfl dX3_thieves_64 ?_
              refine lv_irem hx hb dX3_thieves_65 (by intro q; have w := g_2.2.1; rw [q] at w; exact absurd w (by decide)) ?_
              refine lv_if_ne (tgt := 87) hx hb dX3_thieves_66 (by decide) (fun c_5 => ?_) (fun c_5 => ?_)
              · refine lv_iinc (v := (v1 + 1)) (lv' := [(1, .int (v1 + 1)), (2, .int 1), (0, .ref (h 0))]) hx hb dX3_thieves_87 hl (k := 2) rfl rfl (by decide) rfl (fun ls hl => ?_)
                have a_87 := i_add1 (a := v1) (by omega) (by omega)
                refine lv_goto (tgt := 2) hx hb dX3_thieves_90 (by decide) ?_
                exact ih (v1 + 1) x (by omega) (by omega) (by first | with_reducible exact g_2 | exact MI.of ((setPiano_K (isPiano_in (by with_reducible assumption)) (li_in (by decide))).tr (KP_R (by decide))) g_2) (by omega) ((show pX3_thieves_L2 (n + 1) v1 x = pX3_thieves_L2 n (v1 + 1) x by rw [pX3_thieves_L2, if_neg c_1, if_neg c_2, if_pos c_3, if_pos c_4, if_neg c_5]).symm.trans hq) _ _ _ hP hD hS (lv_sub hl [2, 0] rfl)
              · refine lv_aload_n hx hb dX3_thieves_69 rfl (lv_at hl 1 rfl) ?_
                refine lv_iload_n hx hb dX3_thieves_70 rfl (lv_at hl 2 rfl) ?_
                refine lv_iconst (v := 3) hx hb dX3_thieves_71 (by decide) ?_
                refine lv_iconst (v := 0) hx hb dX3_thieves_72 (by decide) ?_
                refine go_v hD hS hA (rn_V (As := [.int v1, .int 3, .int 0]) (rest := []) ⟨hx, hb, hml, hown, hts⟩ (ctX3_setPiano l G cI cC cZ cR h x v1 3 0 (by first | with_reducible assumption | exact vp_in_iff.mpr ⟨by decide, by decide⟩ | exact vp_in_iff.mpr ⟨by omega, by omega⟩ | exact isPlace_in (by with_reducible assumption) | exact has_in (by with_reducible assumption) | exact isPlace3_in (by with_reducible assumption) | exact isPiano_in (by with_reducible assumption) | exact isOpen_in (by with_reducible assumption) | exact nearest3_in (by with_reducible assumption)) (by first | with_reducible assumption | exact vp_in_iff.mpr ⟨by decide, by decide⟩ | exact vp_in_iff.mpr ⟨by omega, by omega⟩ | exact isPlace_in (by with_reducible assumption) | exact has_in (by with_reducible assumption) | exact isPlace3_in (by with_reducible assumption) | exact isPiano_in (by with_reducible assumption) | exact isOpen_in (by with_reducible assumption) | exact nearest3_in (by with_reducible assumption))) (cwV 3 hts gX3_thieves_X3_setPiano rfl rfl rfl (by decide +kernel) ⟨Nat.le_of_ble_eq_true rfl, Nat.le_of_ble_eq_true rfl⟩) (md_recv hK hP rfl) hK hP hD hN rfl hl.1 rfl (Nat.le_of_ble_eq_true rfl) dX3_thieves_73) (fun H locs hP hD hS => ?_)
                refine lv_aload_n hx hb dX3_thieves_76 rfl (lv_at hl 1 rfl) ?_
                refine md_get (ci := 3) (C := RX3) (T := TX3) (N := 13) (v := .ref (h 1)) hx hb hts hin hown hK hP rfl 0 (by decide) k_7 rfl rfl rfl dX3_thieves_77 ?_
                refine lv_bipush (v := 10) hx hb dX3_thieves_80 (by decide) ?_
                refine lv_dup2_11 hx hb dX3_thieves_82 rfl rfl ?_
                refine md_ia (v := (pX3_setPiano v1 3 0 x).2 0 (ix 10)) hx hb hK hP 0 0 rfl rfl (vp_in_iff.mpr ⟨by decide, by decide⟩) rfl dX3_thieves_83 ?_
                refine lv_iconst (v := 1) hx hb dX3_thieves_84 (by decide) ?_
                refine lv_iadd hx hb dX3_thieves_85 ?_
                refine md_is hx hb hK hP hD hS 0 0 rfl rfl (vp_in_iff.mpr ⟨by decide, by decide⟩) dX3_thieves_86 (fun H locs hP hD hS => ?_)
                refine lv_iinc (v := (v1 + 1)) (lv' := [(1, .int (v1 + 1)), (2, .int 1), (0, .ref (h 0))]) hx hb dX3_thieves_87 hl (k := 2) rfl rfl (by decide) rfl (fun ls hl => ?_)
                have a_87 := i_add1 (a := v1) (by omega) (by omega)
                refine lv_goto (tgt := 2) hx hb dX3_thieves_90 (by decide) ?_
                exact ih (v1 + 1) (pR (pX3_setPiano v1 3 0 x) 0 10 (((pX3_setPiano v1 3 0 x).2 0 (ix 10)) + 1)) (by omega) (by omega) (by first | with_reducible exact g_2 | exact MI.of ((setPiano_K (isPiano_in (by with_reducible assumption)) (li_in (by decide))).tr (KP_R (by decide))) g_2) (by omega) ((show pX3_thieves_L2 (n + 1) v1 x = pX3_thieves_L2 n (v1 + 1) (pR (pX3_setPiano v1 3 0 x) 0 10 (((pX3_setPiano v1 3 0 x).2 0 (ix 10)) + 1)) by rw [pX3_thieves_L2, if_neg c_1, if_neg c_2, if_pos c_3, if_pos c_4, if_pos c_5]).symm.trans hq) _ _ _ hP hD hS (lv_sub hl [2, 0] rfl)
  refine lv_iconst (v := 0) hx hb dX3_thieves_0 (by decide) ?_
  refine lv_istore_n (lv' := [(1, .int 0), (0, .ref (h 0))]) hx hb dX3_thieves_1 rfl hl (by decide) rfl (fun ls hl => ?_)
  exact lp_2 13 0 x (by decide) (by decide) (by exact q_0) (by decide) ((show pX3_thieves x = pX3_thieves_L2 13 0 x by rw [pX3_thieves]).symm.trans hres) _ _ _ hP hD hS (lv_sub hl [1, 0] rfl)
theorem thieves_L : ∀ (n : Nat) (v1 : Int32) (x : SR), KP x (pX3_thieves_L2 n v1 x) := by
  intro n
  induction n with
  | zero => intro v1 x; rw [pX3_thieves_L2]; exact KP.rf _
  | succ n ih =>
    intro v1 x
    rw [pX3_thieves_L2]
    by_cases d_45 : 12 ≤ v1
    · rw [if_pos d_45]
      exact KP.rf _
    · rw [if_neg d_45]
      by_cases d_46 : (pX3_isPiano v1 x) = 0
      · rw [if_pos d_46]
        exact ih _ _
      · rw [if_neg d_46]
        by_cases d_47 : (pX3_pianoPart v1 3 x) = 1
        · rw [if_pos d_47]
          by_cases d_48 : (pX3_keepersAt v1 x) = 0
          · rw [if_pos d_48]
            by_cases d_49 : (((7 * (x.2 0 (ix 7))) + (3 * v1)) - ((7 * (x.2 0 (ix 7))) + (3 * v1)) / (x.2 0 (ix 6)) * (x.2 0 (ix 6))) = 0
            · rw [if_pos d_49]
              exact ((setPiano_K (isPiano_in (by with_reducible assumption)) (li_in (by decide))).tr (KP_R (by decide))).tr (ih _ _)
            · rw [if_neg d_49]
              exact ih _ _
          · rw [if_neg d_48]
            exact ih _ _
        · rw [if_neg d_47]
          exact ih _ _
theorem thieves_K (x : SR) : KP x (pX3_thieves x) := by
  rw [pX3_thieves]
  exact thieves_L _ _ _
