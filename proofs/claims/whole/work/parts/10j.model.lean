-- the reader of texts: where it stands
def PA (x : SR) : Prop := 0 ≤ Int32.toInt (x.1 3) ∧ Int32.toInt (x.1 3) ≤ 81 ∧ Int32.toInt (x.1 1) ≤ 80
theorem PA_S {x : SR} {q : Nat} (v : Int32) (h : PA x) (h1 : q ≠ 1) (h3 : q ≠ 3) : PA (pS x q v) := by
  unfold PA pS at *
  dsimp only
  rw [up_ne _ _ (Ne.symm h1), up_ne _ _ (Ne.symm h3)]
  exact h
theorem PA_inc {x : SR} (h : PA x) (hl : Int32.toInt (x.1 3) ≤ 80) : PA (pS x 3 (x.1 3 + 1)) ∧ Int32.toInt ((pS x 3 (x.1 3 + 1)).1 3) = Int32.toInt (x.1 3) + 1 := by
  have a := i_add1 (a := x.1 3) (by have := h.1; omega) (by omega)
  have e3 : (pS x 3 (x.1 3 + 1)).1 3 = x.1 3 + 1 := pS_at _ _ _
  have e1 : (pS x 3 (x.1 3 + 1)).1 1 = x.1 1 := pS_ne _ _ (by decide)
  have h0 := h.1
  unfold PA
  rw [e3, e1, a]
  exact ⟨⟨by omega, by omega, h.2.2⟩, rfl⟩
def pX3_wipe (x : SR) : Int32 × SR := (x.1 1, (pS x 1 0))
set_option maxHeartbeats 4000000 in
set_option maxRecDepth 100000 in
theorem ctX3_wipe (l : Launch) (G : va_G) (cI cC cZ cR : ClassId) (h : Ad) (x : SR) : Ct l yX3_wipe wsX3_wipe (rmz 0 0) G (TY cI cC cZ cR) [.ref (h 0)] (wMo cI h x) (Qi G (wMo cI h x) (pX3_wipe x).1 (wMo cI h (pX3_wipe x).2)) := by
  refine Ct.ofI (cc := cX3_wipe) (maxL := 2) (ret := (some .int)) (by decide) rfl rfl ?_
  intro p e s m below meth c A ls E0 hP hD hS hl
  obtain ⟨hx, hb, hr, hml, hlocks, hts, hown, hK, hN, hA⟩ := E0
  have hl : lv_has ls 2 [(0, .ref (h 0))] := hl
  have hin : ∀ w ∈ wsX30, w ∈ wsX3_wipe := fun w hw => List.mem_cons_of_mem _ (List.mem_append_right _ (hw))
  have k_153 : (Cond.fieldLink RX3 153 RX3 (TX3 7).2.1 (TX3 7).2.2.1).before ([.ref (h 0)] : List Value).toArray s = true := hts _ (List.mem_of_getElem? (i := 1) rfl)
  generalize hres : pX3_wipe x = res
  refine lv_aload_n hx hb dX3_wipe_0 rfl (lv_at hl 0 rfl) ?_
  refine md_get (ci := 3) (C := RX3) (T := TX3) (N := 13) (v := .int (x.1 1)) hx hb hts hin hown hK hP rfl 7 (by decide) k_153 rfl rfl rfl dX3_wipe_1 ?_
  refine lv_istore_n (lv' := [(1, .int (x.1 1)), (0, .ref (h 0))]) hx hb dX3_wipe_4 rfl hl (by decide) rfl (fun ls hl => ?_)
  refine lv_aload_n hx hb dX3_wipe_5 rfl (lv_at hl 1 rfl) ?_
  refine lv_iconst (v := 0) hx hb dX3_wipe_6 (by decide) ?_
  refine md_put (ci := 3) (C := RX3) (T := TX3) (N := 13) hx hb hts hin tyX3 tyX3_ok nmX3 hown hK hP hD hS rfl 7 (by decide) k_153 rfl rfl (q := 1) rfl (fu (by decide)) rfl rfl dX3_wipe_7 (fun H locs hP hD hS => ?_)
  refine lv_iload_n hx hb dX3_wipe_10 rfl (lv_at hl 0 rfl) ?_
  exact rt_b hx hb hr hlocks hP hD hS rfl ((show pX3_wipe x = (x.1 1, (pS x 1 0)) by rw [pX3_wipe]).symm.trans hres |>.symm) dX3_wipe_11
def pX3_character (a1 : Int32) (x : SR) : Int32 := if (x.1 1) ≤ a1 then (-1)
  else x.2 5 (ix a1)
set_option maxHeartbeats 4000000 in
set_option maxRecDepth 100000 in
theorem ctX3_character (l : Launch) (G : va_G) (cI cC cZ cR : ClassId) (h : Ad) (x : SR) (a1 : Int32) (q_0 : 0 ≤ Int32.toInt a1) (q_1 : Int32.toInt (x.1 1) ≤ 80) : Ct l yX3_character wsX3_character (rmz 0 0) G (TY cI cC cZ cR) [.ref (h 0), .int a1] (wMo cI h x) (Qi G (wMo cI h x) (pX3_character a1 x) (wMo cI h x)) := by
  refine Ct.ofI (cc := cX3_character) (maxL := 2) (ret := (some .int)) (by decide) rfl rfl ?_
  intro p e s m below meth c A ls E0 hP hD hS hl
  obtain ⟨hx, hb, hr, hml, hlocks, hts, hown, hK, hN, hA⟩ := E0
  have hl : lv_has ls 2 [(0, .ref (h 0)), (1, .int a1)] := hl
  have hin : ∀ w ∈ wsX30, w ∈ wsX3_character := fun w hw => List.mem_cons_of_mem _ (List.mem_append_right _ (hw))
  have k_153 : (Cond.fieldLink RX3 153 RX3 (TX3 7).2.1 (TX3 7).2.2.1).before ([.ref (h 0), .int a1] : List Value).toArray s = true := hts _ (List.mem_of_getElem? (i := 1) rfl)
  have k_25 : (Cond.fieldLink RX3 25 RX3 (TX3 6).2.1 (TX3 6).2.2.1).before ([.ref (h 0), .int a1] : List Value).toArray s = true := hts _ (List.mem_of_getElem? (i := 2) rfl)
  generalize hres : pX3_character a1 x = res
  refine lv_iload_n hx hb dX3_character_0 rfl (lv_at hl 1 rfl) ?_
  refine lv_aload_n hx hb dX3_character_1 rfl (lv_at hl 0 rfl) ?_
  refine md_get (ci := 3) (C := RX3) (T := TX3) (N := 13) (v := .int (x.1 1)) hx hb hts hin hown hK hP rfl 7 (by decide) k_153 rfl rfl rfl dX3_character_2 ?_
  refine lv_icmp_ge (tgt := 17) hx hb dX3_character_5 (by decide) (fun c_1 => ?_) (fun c_1 => ?_)
  · have t_1 := i_le (z := (Int32.toInt (x.1 1))) (w := (Int32.toInt a1)) c_1 rfl rfl
    refine lv_iconst (v := (-1)) hx hb dX3_character_17 (by decide) ?_
    exact rt_r hx hb hr hlocks hP hD hS rfl ((show pX3_character a1 x = (-1) by rw [pX3_character, if_pos c_1]).symm.trans hres |>.symm) dX3_character_18
  · have t_1 := i_nle (z := (Int32.toInt (x.1 1))) (w := (Int32.toInt a1)) c_1 rfl rfl
    refine lv_aload_n hx hb dX3_character_8 rfl (lv_at hl 0 rfl) ?_
    refine md_get (ci := 3) (C := RX3) (T := TX3) (N := 13) (v := .ref (h 6)) hx hb hts hin hown hK hP rfl 6 (by decide) k_25 rfl rfl rfl dX3_character_9 ?_
    refine lv_iload_n hx hb dX3_character_12 rfl (lv_at hl 1 rfl) ?_
    refine md_ia (v := x.2 5 (ix a1)) hx hb hK hP 5 0 rfl rfl (by exact vp_in_iff.mpr ⟨by omega, by omega⟩) rfl dX3_character_13 ?_
    refine lv_goto (tgt := 18) hx hb dX3_character_14 (by decide) ?_
    exact rt_r hx hb hr hlocks hP hD hS rfl ((show pX3_character a1 x = x.2 5 (ix a1) by rw [pX3_character, if_neg c_1]).symm.trans hres |>.symm) dX3_character_18
theorem char_lt {a : Int32} {x : SR} (h : ¬ pX3_character a x = -1) : Int32.toInt a < Int32.toInt (x.1 1) := by
  rw [pX3_character] at h
  by_cases h1 : x.1 1 ≤ a
  · rw [if_pos h1] at h
    exact absurd rfl h
  · exact i_nle h1 rfl rfl
def pX3_isNext (a1 : Int32) (x : SR) : Int32 × SR := if (pX3_character (x.1 3) x) = a1 then ((1 : Int32), (pS x 3 ((x.1 3) + 1)))
  else ((0 : Int32), (pS x 3 ((x.1 3) + 0)))
set_option maxHeartbeats 4000000 in
set_option maxRecDepth 100000 in
theorem ctX3_isNext (l : Launch) (G : va_G) (cI cC cZ cR : ClassId) (h : Ad) (x : SR) (a1 : Int32) (q_0 : PA x) : Ct l yX3_isNext wsX3_isNext (rmz 1 21) G (TY cI cC cZ cR) [.ref (h 0), .int a1] (wMo cI h x) (Qi G (wMo cI h x) (pX3_isNext a1 x).1 (wMo cI h (pX3_isNext a1 x).2)) := by
  refine Ct.ofI (cc := cX3_isNext) (maxL := 3) (ret := (some .boolean)) (by decide) rfl rfl ?_
  intro p e s m below meth c A ls E0 hP hD hS hl
  obtain ⟨hx, hb, hr, hml, hlocks, hts, hown, hK, hN, hA⟩ := E0
  have hl : lv_has ls 3 [(0, .ref (h 0)), (1, .int a1)] := hl
  have hin : ∀ w ∈ wsX30, w ∈ wsX3_isNext := fun w hw => List.mem_cons_of_mem _ (List.mem_append_right _ (hw))
  have k_161 : (Cond.fieldLink RX3 161 RX3 (TX3 9).2.1 (TX3 9).2.2.1).before ([.ref (h 0), .int a1] : List Value).toArray s = true := hts _ (List.mem_of_getElem? (i := 1) rfl)
  generalize hres : pX3_isNext a1 x = res
  refine lv_aload_n hx hb dX3_isNext_0 rfl (lv_at hl 0 rfl) ?_
  refine lv_aload_n hx hb dX3_isNext_1 rfl (lv_at hl 0 rfl) ?_
  refine md_get (ci := 3) (C := RX3) (T := TX3) (N := 13) (v := .int (x.1 3)) hx hb hts hin hown hK hP rfl 9 (by decide) k_161 rfl rfl rfl dX3_isNext_2 ?_
  refine go_i hD hS hA (rn_V (As := [.int (x.1 3)]) (rest := []) ⟨hx, hb, hml, hown, hts⟩ (ctX3_character l G cI cC cZ cR h x (x.1 3) (by exact q_0.1) (by exact q_0.2.2)) (cwV 1 hts gX3_isNext_X3_character rfl rfl rfl (by decide +kernel) ⟨Nat.le_of_ble_eq_true rfl, Nat.le_of_ble_eq_true rfl⟩) (md_recv hK hP rfl) hK hP hD hN rfl hl.1 rfl (Nat.le_of_ble_eq_true rfl) dX3_isNext_5) (fun H locs hP hD hS => ?_)
  refine lv_iload_n hx hb dX3_isNext_8 rfl (lv_at hl 1 rfl) ?_
  refine lv_icmp_ne (tgt := 16) hx hb dX3_isNext_9 (by decide) (fun c_1 => ?_) (fun c_1 => ?_)
  · refine lv_iconst (v := 0) hx hb dX3_isNext_16 (by decide) ?_
    refine lv_istore_n (lv' := [(2, .int 0), (0, .ref (h 0)), (1, .int a1)]) hx hb dX3_isNext_17 rfl hl (by decide) rfl (fun ls hl => ?_)
    refine lv_aload_n hx hb dX3_isNext_18 rfl (lv_at hl 1 rfl) ?_
    refine lv_dup hx hb dX3_isNext_19 rfl ?_
    refine md_get (ci := 3) (C := RX3) (T := TX3) (N := 13) (v := .int (x.1 3)) hx hb hts hin hown hK hP rfl 9 (by decide) k_161 rfl rfl rfl dX3_isNext_20 ?_
    refine lv_iload_n hx hb dX3_isNext_23 rfl (lv_at hl 0 rfl) ?_
    refine lv_if_eq (tgt := 31) hx hb dX3_isNext_24 (by decide) (fun cz => ?_) (fun cz => absurd cz (by decide))
    refine lv_iconst (v := 0) hx hb dX3_isNext_31 (by decide) ?_
    refine lv_iadd hx hb dX3_isNext_32 ?_
    refine md_put (ci := 3) (C := RX3) (T := TX3) (N := 13) hx hb hts hin tyX3 tyX3_ok nmX3 hown hK hP hD hS rfl 9 (by decide) k_161 rfl rfl (q := 3) rfl (fu (by decide)) rfl rfl dX3_isNext_33 (fun H locs hP hD hS => ?_)
    refine lv_iload_n hx hb dX3_isNext_36 rfl (lv_at hl 0 rfl) ?_
    exact rt_b hx hb hr hlocks hP hD hS rfl ((show pX3_isNext a1 x = ((0 : Int32), (pS x 3 ((x.1 3) + 0))) by rw [pX3_isNext, if_neg c_1]).symm.trans hres |>.symm) dX3_isNext_37
  · refine lv_iconst (v := 1) hx hb dX3_isNext_12 (by decide) ?_
    refine lv_goto (tgt := 17) hx hb dX3_isNext_13 (by decide) ?_
    refine lv_istore_n (lv' := [(2, .int 1), (0, .ref (h 0)), (1, .int a1)]) hx hb dX3_isNext_17 rfl hl (by decide) rfl (fun ls hl => ?_)
    refine lv_aload_n hx hb dX3_isNext_18 rfl (lv_at hl 1 rfl) ?_
    refine lv_dup hx hb dX3_isNext_19 rfl ?_
    refine md_get (ci := 3) (C := RX3) (T := TX3) (N := 13) (v := .int (x.1 3)) hx hb hts hin hown hK hP rfl 9 (by decide) k_161 rfl rfl rfl dX3_isNext_20 ?_
    refine lv_iload_n hx hb dX3_isNext_23 rfl (lv_at hl 0 rfl) ?_
    refine lv_if_eq (tgt := 31) hx hb dX3_isNext_24 (by decide) (fun cz => absurd cz (by decide)) (fun cz => ?_)
    refine lv_iconst (v := 1) hx hb dX3_isNext_27 (by decide) ?_
    refine lv_goto (tgt := 32) hx hb dX3_isNext_28 (by decide) ?_
    refine lv_iadd hx hb dX3_isNext_32 ?_
    refine md_put (ci := 3) (C := RX3) (T := TX3) (N := 13) hx hb hts hin tyX3 tyX3_ok nmX3 hown hK hP hD hS rfl 9 (by decide) k_161 rfl rfl (q := 3) rfl (fu (by decide)) rfl rfl dX3_isNext_33 (fun H locs hP hD hS => ?_)
    refine lv_iload_n hx hb dX3_isNext_36 rfl (lv_at hl 0 rfl) ?_
    exact rt_b hx hb hr hlocks hP hD hS rfl ((show pX3_isNext a1 x = ((1 : Int32), (pS x 3 ((x.1 3) + 1))) by rw [pX3_isNext, if_pos c_1]).symm.trans hres |>.symm) dX3_isNext_37
theorem isNext_b (c : Int32) (x : SR) : (pX3_isNext c x).1 = 0 ∨ (pX3_isNext c x).1 = 1 := by
  rw [pX3_isNext]
  by_cases h : pX3_character (x.1 3) x = c
  · rw [if_pos h]; exact Or.inr rfl
  · rw [if_neg h]; exact Or.inl rfl
theorem isNext_P {c : Int32} {x : SR} (hc : ¬ c = -1) (h : PA x) : PA (pX3_isNext c x).2 ∧ Int32.toInt (x.1 3) ≤ Int32.toInt ((pX3_isNext c x).2.1 3) ∧ (¬ (pX3_isNext c x).1 = 0 → Int32.toInt ((pX3_isNext c x).2.1 3) = Int32.toInt (x.1 3) + 1 ∧ Int32.toInt (x.1 3) < Int32.toInt (x.1 1)) := by
  rw [pX3_isNext]
  by_cases h1 : pX3_character (x.1 3) x = c
  · rw [if_pos h1]
    have hl := char_lt (a := x.1 3) (x := x) (by rw [h1]; exact hc)
    have h2 := h.2.2
    have k := PA_inc h (by omega)
    exact ⟨k.1, by show _ ≤ Int32.toInt ((pS x 3 (x.1 3 + 1)).1 3); rw [k.2]; omega, fun _ => ⟨k.2, hl⟩⟩
  · rw [if_neg h1]
    have e : pS x 3 (x.1 3 + 0) = x := by
      unfold pS
      refine Prod.ext ?_ rfl
      funext k
      show up x.1 3 (x.1 3 + 0) k = x.1 k
      by_cases hk : k = 3
      · subst hk
        rw [up_same, Int32.add_zero]
      · rw [up_ne _ _ hk]
    exact ⟨by show PA (pS x 3 (x.1 3 + 0)); rw [e]; exact h, by show _ ≤ Int32.toInt ((pS x 3 (x.1 3 + 0)).1 3); rw [e]; exact Int.le_refl _, fun z => absurd rfl z⟩
def pX3_isDigit (x : SR) : Int32 := (pX3_within (pX3_character (x.1 3) x) 48 57)
set_option maxHeartbeats 4000000 in
set_option maxRecDepth 100000 in
theorem ctX3_isDigit (l : Launch) (G : va_G) (cI cC cZ cR : ClassId) (h : Ad) (x : SR) (q_0 : PA x) : Ct l yX3_isDigit wsX3_isDigit (rmz 1 22) G (TY cI cC cZ cR) [.ref (h 0)] (wMo cI h x) (Qi G (wMo cI h x) (pX3_isDigit x) (wMo cI h x)) := by
  refine Ct.ofI (cc := cX3_isDigit) (maxL := 1) (ret := (some .boolean)) (by decide) rfl rfl ?_
  intro p e s m below meth c A ls E0 hP hD hS hl
  obtain ⟨hx, hb, hr, hml, hlocks, hts, hown, hK, hN, hA⟩ := E0
  have hl : lv_has ls 1 [(0, .ref (h 0))] := hl
  have hin : ∀ w ∈ wsX30, w ∈ wsX3_isDigit := fun w hw => List.mem_cons_of_mem _ (List.mem_append_right _ (hw))
  have k_161 : (Cond.fieldLink RX3 161 RX3 (TX3 9).2.1 (TX3 9).2.2.1).before ([.ref (h 0)] : List Value).toArray s = true := hts _ (List.mem_of_getElem? (i := 1) rfl)
  generalize hres : pX3_isDigit x = res
  refine lv_aload_n hx hb dX3_isDigit_0 rfl (lv_at hl 0 rfl) ?_
  refine lv_aload_n hx hb dX3_isDigit_1 rfl (lv_at hl 0 rfl) ?_
  refine md_get (ci := 3) (C := RX3) (T := TX3) (N := 13) (v := .int (x.1 3)) hx hb hts hin hown hK hP rfl 9 (by decide) k_161 rfl rfl rfl dX3_isDigit_2 ?_
  refine go_i hD hS hA (rn_V (As := [.int (x.1 3)]) (rest := []) ⟨hx, hb, hml, hown, hts⟩ (ctX3_character l G cI cC cZ cR h x (x.1 3) (by exact q_0.1) (by exact q_0.2.2)) (cwV 1 hts gX3_isDigit_X3_character rfl rfl rfl (by decide +kernel) ⟨Nat.le_of_ble_eq_true rfl, Nat.le_of_ble_eq_true rfl⟩) (md_recv hK hP rfl) hK hP hD hN rfl hl.1 rfl (Nat.le_of_ble_eq_true rfl) dX3_isDigit_5) (fun H locs hP hD hS => ?_)
  refine lv_bipush (v := 48) hx hb dX3_isDigit_8 (by decide) ?_
  refine lv_bipush (v := 57) hx hb dX3_isDigit_10 (by decide) ?_
  refine gn_i hP hS hA (rn_S (As := [.int (pX3_character (x.1 3) x), .int 48, .int 57]) (rest := []) ⟨hx, hb, hml, hown, hts⟩ (ctX3_within l G cI cC cZ cR (pX3_character (x.1 3) x) 48 57) (va_cwS 3 hts gX3_isDigit_X3_within rfl rfl rfl (by decide +kernel) ⟨Nat.le_of_ble_eq_true rfl, Nat.le_of_ble_eq_true rfl⟩) hK nilP (nilD (A := A)) hN rfl hl.1 rfl (Nat.le_of_ble_eq_true rfl) dX3_isDigit_12) (fun H locs hP hS => ?_)
  exact rt_r hx hb hr hlocks hP hD hS (nz_of (within_b _ _ _)) ((show pX3_isDigit x = (pX3_within (pX3_character (x.1 3) x) 48 57) by rw [pX3_isDigit]).symm.trans hres |>.symm) dX3_isDigit_15
theorem dig_lt {x : SR} (h : ¬ pX3_isDigit x = 0) : Int32.toInt (x.1 3) < Int32.toInt (x.1 1) := by
  rw [pX3_isDigit] at h
  have h1 := within_in h
  rw [show Int32.toInt 48 = 48 from rfl] at h1
  refine char_lt (fun e => ?_)
  rw [e, show Int32.toInt (-1) = -1 from rfl] at h1
  omega
theorem PA_dig {x : SR} (h : PA x) (hd : ¬ pX3_isDigit x = 0) : PA (pS x 3 (x.1 3 + 1)) := (PA_inc h (by have := dig_lt hd; have := h.2.2; omega)).1
def pX3_takeNumber (a1 : Int32) (x : SR) : Int32 × SR := if (pX3_isDigit x) = 0 then (((-1) : Int32), x)
  else if ((pX3_character (x.1 3) x) - 48) ≤ 0 then (((pX3_character (x.1 3) x) - 48), (pS x 3 ((x.1 3) + 1)))
    else if (pX3_isDigit (pS x 3 ((x.1 3) + 1))) = 0 then (((pX3_character (x.1 3) x) - 48), (pS x 3 ((x.1 3) + 1)))
      else if a1 < (((10 * ((pX3_character (x.1 3) x) - 48)) + (pX3_character ((x.1 3) + 1) (pS x 3 ((x.1 3) + 1)))) - 48) then (((pX3_character (x.1 3) x) - 48), (pS x 3 ((x.1 3) + 1)))
        else ((((10 * ((pX3_character (x.1 3) x) - 48)) + (pX3_character ((x.1 3) + 1) (pS x 3 ((x.1 3) + 1)))) - 48), (pS (pS x 3 ((x.1 3) + 1)) 3 (((x.1 3) + 1) + 1)))
set_option maxHeartbeats 4000000 in
set_option maxRecDepth 100000 in
theorem ctX3_takeNumber (l : Launch) (G : va_G) (cI cC cZ cR : ClassId) (h : Ad) (x : SR) (a1 : Int32) (q_0 : PA x) : Ct l yX3_takeNumber wsX3_takeNumber (rmz 2 42) G (TY cI cC cZ cR) [.ref (h 0), .int a1] (wMo cI h x) (Qi G (wMo cI h x) (pX3_takeNumber a1 x).1 (wMo cI h (pX3_takeNumber a1 x).2)) := by
  refine Ct.ofI (cc := cX3_takeNumber) (maxL := 3) (ret := (some .int)) (by decide) rfl rfl ?_
  intro p e s m below meth c A ls E0 hP hD hS hl
  obtain ⟨hx, hb, hr, hml, hlocks, hts, hown, hK, hN, hA⟩ := E0
  have hl : lv_has ls 3 [(0, .ref (h 0)), (1, .int a1)] := hl
  have hin : ∀ w ∈ wsX30, w ∈ wsX3_takeNumber := fun w hw => List.mem_cons_of_mem _ (List.mem_append_right _ (hw))
  have k_161 : (Cond.fieldLink RX3 161 RX3 (TX3 9).2.1 (TX3 9).2.2.1).before ([.ref (h 0), .int a1] : List Value).toArray s = true := hts _ (List.mem_of_getElem? (i := 1) rfl)
  generalize hres : pX3_takeNumber a1 x = res
  refine lv_aload_n hx hb dX3_takeNumber_0 rfl (lv_at hl 0 rfl) ?_
  refine go_i hD hS hA (rn_V (As := []) (rest := []) ⟨hx, hb, hml, hown, hts⟩ (ctX3_isDigit l G cI cC cZ cR h x (by exact q_0)) (cwV 0 hts gX3_takeNumber_X3_isDigit rfl rfl rfl (by decide +kernel) ⟨Nat.le_of_ble_eq_true rfl, Nat.le_of_ble_eq_true rfl⟩) (md_recv hK hP rfl) hK hP hD hN rfl hl.1 rfl (Nat.le_of_ble_eq_true rfl) dX3_takeNumber_1) (fun H locs hP hD hS => ?_)
  refine lv_if_ne (tgt := 9) hx hb dX3_takeNumber_4 (by decide) (fun c_1 => ?_) (fun c_1 => ?_)
  · refine lv_aload_n hx hb dX3_takeNumber_9 rfl (lv_at hl 0 rfl) ?_
    refine lv_aload_n hx hb dX3_takeNumber_10 rfl (lv_at hl 0 rfl) ?_
    refine md_get (ci := 3) (C := RX3) (T := TX3) (N := 13) (v := .int (x.1 3)) hx hb hts hin hown hK hP rfl 9 (by decide) k_161 rfl rfl rfl dX3_takeNumber_11 ?_
    refine go_i hD hS hA (rn_V (As := [.int (x.1 3)]) (rest := []) ⟨hx, hb, hml, hown, hts⟩ (ctX3_character l G cI cC cZ cR h x (x.1 3) (by exact q_0.1) (by exact q_0.2.2)) (cwV 1 hts gX3_takeNumber_X3_character rfl rfl rfl (by decide +kernel) ⟨Nat.le_of_ble_eq_true rfl, Nat.le_of_ble_eq_true rfl⟩) (md_recv hK hP rfl) hK hP hD hN rfl hl.1 rfl (Nat.le_of_ble_eq_true rfl) dX3_takeNumber_14) (fun H locs hP hD hS => ?_)
    refine lv_bipush (v := 48) hx hb dX3_takeNumber_17 (by decide) ?_
    refine lv_isub hx hb dX3_takeNumber_19 ?_
    refine lv_istore_n (lv' := [(2, .int ((pX3_character (x.1 3) x) - 48)), (0, .ref (h 0)), (1, .int a1)]) hx hb dX3_takeNumber_20 rfl hl (by decide) rfl (fun ls hl => ?_)
    refine lv_aload_n hx hb dX3_takeNumber_21 rfl (lv_at hl 1 rfl) ?_
    refine lv_dup hx hb dX3_takeNumber_22 rfl ?_
    refine md_get (ci := 3) (C := RX3) (T := TX3) (N := 13) (v := .int (x.1 3)) hx hb hts hin hown hK hP rfl 9 (by decide) k_161 rfl rfl rfl dX3_takeNumber_23 ?_
    refine lv_iconst (v := 1) hx hb dX3_takeNumber_26 (by decide) ?_
    refine lv_iadd hx hb dX3_takeNumber_27 ?_
    refine md_put (ci := 3) (C := RX3) (T := TX3) (N := 13) hx hb hts hin tyX3 tyX3_ok nmX3 hown hK hP hD hS rfl 9 (by decide) k_161 rfl rfl (q := 3) rfl (fu (by decide)) rfl rfl dX3_takeNumber_28 (fun H locs hP hD hS => ?_)
    refine lv_iload_n hx hb dX3_takeNumber_31 rfl (lv_at hl 0 rfl) ?_
    refine lv_if_le (tgt := 89) hx hb dX3_takeNumber_32 (by decide) (fun c_2 => ?_) (fun c_2 => ?_)
    · have t_2 := i_le (z := (Int32.toInt ((pX3_character (x.1 3) x) - 48))) (w := (0)) c_2 rfl (by decide)
      refine lv_iload_n hx hb dX3_takeNumber_89 rfl (lv_at hl 0 rfl) ?_
      exact rt_b hx hb hr hlocks hP hD hS rfl ((show pX3_takeNumber a1 x = (((pX3_character (x.1 3) x) - 48), (pS x 3 ((x.1 3) + 1))) by rw [pX3_takeNumber, if_neg c_1, if_pos c_2]).symm.trans hres |>.symm) dX3_takeNumber_90
    · have t_2 := i_nle (z := (Int32.toInt ((pX3_character (x.1 3) x) - 48))) (w := (0)) c_2 rfl (by decide)
      refine lv_aload_n hx hb dX3_takeNumber_35 rfl (lv_at hl 1 rfl) ?_
      refine go_i hD hS hA (rn_V (As := []) (rest := []) ⟨hx, hb, hml, hown, hts⟩ (ctX3_isDigit l G cI cC cZ cR h (pS x 3 ((x.1 3) + 1)) (by exact PA_dig q_0 (by with_reducible assumption))) (cwV 0 hts gX3_takeNumber_X3_isDigit rfl rfl rfl (by decide +kernel) ⟨Nat.le_of_ble_eq_true rfl, Nat.le_of_ble_eq_true rfl⟩) (md_recv hK hP rfl) hK hP hD hN rfl hl.1 rfl (Nat.le_of_ble_eq_true rfl) dX3_takeNumber_36) (fun H locs hP hD hS => ?_)
      refine lv_if_eq (tgt := 89) hx hb dX3_takeNumber_39 (by decide) (fun c_3 => ?_) (fun c_3 => ?_)
      · refine lv_iload_n hx hb dX3_takeNumber_89 rfl (lv_at hl 0 rfl) ?_
        exact rt_b hx hb hr hlocks hP hD hS rfl ((show pX3_takeNumber a1 x = (((pX3_character (x.1 3) x) - 48), (pS x 3 ((x.1 3) + 1))) by rw [pX3_takeNumber, if_neg c_1, if_neg c_2, if_pos c_3]).symm.trans hres |>.symm) dX3_takeNumber_90
      · refine lv_bipush (v := 10) hx hb dX3_takeNumber_42 (by decide) ?_
        refine lv_iload_n hx hb dX3_takeNumber_44 rfl (lv_at hl 0 rfl) ?_
        refine lv_imul hx hb dX3_takeNumber_45 ?_
        refine lv_aload_n hx hb dX3_takeNumber_46 rfl (lv_at hl 1 rfl) ?_
        refine lv_aload_n hx hb dX3_takeNumber_47 rfl (lv_at hl 1 rfl) ?_
        refine md_get (ci := 3) (C := RX3) (T := TX3) (N := 13) (v := .int ((x.1 3) + 1)) hx hb hts hin hown hK hP rfl 9 (by decide) k_161 rfl rfl rfl dX3_takeNumber_48 ?_
        refine go_i hD hS hA (rn_V (As := [.int ((x.1 3) + 1)]) (rest := [.int (10 * ((pX3_character (x.1 3) x) - 48))]) ⟨hx, hb, hml, hown, hts⟩ (ctX3_character l G cI cC cZ cR h (pS x 3 ((x.1 3) + 1)) ((x.1 3) + 1) (by exact (PA_dig q_0 (by with_reducible assumption)).1) (by exact (PA_dig q_0 (by with_reducible assumption)).2.2)) (cwV 1 hts gX3_takeNumber_X3_character rfl rfl rfl (by decide +kernel) ⟨Nat.le_of_ble_eq_true rfl, Nat.le_of_ble_eq_true rfl⟩) (md_recv hK hP rfl) hK hP hD hN rfl hl.1 rfl (Nat.le_of_ble_eq_true rfl) dX3_takeNumber_51) (fun H locs hP hD hS => ?_)
        refine lv_iadd hx hb dX3_takeNumber_54 ?_
        refine lv_bipush (v := 48) hx hb dX3_takeNumber_55 (by decide) ?_
        refine lv_isub hx hb dX3_takeNumber_57 ?_
        refine lv_iload_n hx hb dX3_takeNumber_58 rfl (lv_at hl 2 rfl) ?_
        refine lv_icmp_gt (tgt := 89) hx hb dX3_takeNumber_59 (by decide) (fun c_4 => ?_) (fun c_4 => ?_)
        · have t_4 := i_lt (z := (Int32.toInt a1)) (w := (Int32.toInt (((10 * ((pX3_character (x.1 3) x) - 48)) + (pX3_character ((x.1 3) + 1) (pS x 3 ((x.1 3) + 1)))) - 48))) c_4 rfl rfl
          refine lv_iload_n hx hb dX3_takeNumber_89 rfl (lv_at hl 0 rfl) ?_
          exact rt_b hx hb hr hlocks hP hD hS rfl ((show pX3_takeNumber a1 x = (((pX3_character (x.1 3) x) - 48), (pS x 3 ((x.1 3) + 1))) by rw [pX3_takeNumber, if_neg c_1, if_neg c_2, if_neg c_3, if_pos c_4]).symm.trans hres |>.symm) dX3_takeNumber_90
        · have t_4 := i_nlt (z := (Int32.toInt a1)) (w := (Int32.toInt (((10 * ((pX3_character (x.1 3) x) - 48)) + (pX3_character ((x.1 3) + 1) (pS x 3 ((x.1 3) + 1)))) - 48))) c_4 rfl rfl
          refine lv_bipush (v := 10) hx hb dX3_takeNumber_62 (by decide) ?_
          refine lv_iload_n hx hb dX3_takeNumber_64 rfl (lv_at hl 0 rfl) ?_
          refine lv_imul hx hb dX3_takeNumber_65 ?_
          refine lv_aload_n hx hb dX3_takeNumber_66 rfl (lv_at hl 1 rfl) ?_
          refine lv_aload_n hx hb dX3_takeNumber_67 rfl (lv_at hl 1 rfl) ?_
          refine md_get (ci := 3) (C := RX3) (T := TX3) (N := 13) (v := .int ((x.1 3) + 1)) hx hb hts hin hown hK hP rfl 9 (by decide) k_161 rfl rfl rfl dX3_takeNumber_68 ?_
          refine go_i hD hS hA (rn_V (As := [.int ((x.1 3) + 1)]) (rest := [.int (10 * ((pX3_character (x.1 3) x) - 48))]) ⟨hx, hb, hml, hown, hts⟩ (ctX3_character l G cI cC cZ cR h (pS x 3 ((x.1 3) + 1)) ((x.1 3) + 1) (by exact (PA_dig q_0 (by with_reducible assumption)).1) (by exact (PA_dig q_0 (by with_reducible assumption)).2.2)) (cwV 1 hts gX3_takeNumber_X3_character rfl rfl rfl (by decide +kernel) ⟨Nat.le_of_ble_eq_true rfl, Nat.le_of_ble_eq_true rfl⟩) (md_recv hK hP rfl) hK hP hD hN rfl hl.1 rfl (Nat.le_of_ble_eq_true rfl) dX3_takeNumber_71) (fun H locs hP hD hS => ?_)
          refine lv_iadd hx hb dX3_takeNumber_74 ?_
          refine lv_bipush (v := 48) hx hb dX3_takeNumber_75 (by decide) ?_
          refine lv_isub hx hb dX3_takeNumber_77 ?_
          refine lv_istore_n (lv' := [(2, .int (((10 * ((pX3_character (x.1 3) x) - 48)) + (pX3_character ((x.1 3) + 1) (pS x 3 ((x.1 3) + 1)))) - 48)), (0, .ref (h 0)), (1, .int a1)]) hx hb dX3_takeNumber_78 rfl hl (by decide) rfl (fun ls hl => ?_)
          refine lv_aload_n hx hb dX3_takeNumber_79 rfl (lv_at hl 1 rfl) ?_
          refine lv_dup hx hb dX3_takeNumber_80 rfl ?_
          refine md_get (ci := 3) (C := RX3) (T := TX3) (N := 13) (v := .int ((x.1 3) + 1)) hx hb hts hin hown hK hP rfl 9 (by decide) k_161 rfl rfl rfl dX3_takeNumber_81 ?_
          refine lv_iconst (v := 1) hx hb dX3_takeNumber_84 (by decide) ?_
          refine lv_iadd hx hb dX3_takeNumber_85 ?_
          refine md_put (ci := 3) (C := RX3) (T := TX3) (N := 13) hx hb hts hin tyX3 tyX3_ok nmX3 hown hK hP hD hS rfl 9 (by decide) k_161 rfl rfl (q := 3) rfl (fu (by decide)) rfl rfl dX3_takeNumber_86 (fun H locs hP hD hS => ?_)
          refine lv_iload_n hx hb dX3_takeNumber_89 rfl (lv_at hl 0 rfl) ?_
          exact rt_b hx hb hr hlocks hP hD hS rfl ((show pX3_takeNumber a1 x = ((((10 * ((pX3_character (x.1 3) x) - 48)) + (pX3_character ((x.1 3) + 1) (pS x 3 ((x.1 3) + 1)))) - 48), (pS (pS x 3 ((x.1 3) + 1)) 3 (((x.1 3) + 1) + 1))) by rw [pX3_takeNumber, if_neg c_1, if_neg c_2, if_neg c_3, if_neg c_4]).symm.trans hres |>.symm) dX3_takeNumber_90
  · refine lv_iconst (v := (-1)) hx hb dX3_takeNumber_7 (by decide) ?_
    exact rt_b hx hb hr hlocks hP hD hS rfl ((show pX3_takeNumber a1 x = (((-1) : Int32), x) by rw [pX3_takeNumber, if_pos c_1]).symm.trans hres |>.symm) dX3_takeNumber_8
theorem takeNumber_P (a1 : Int32) {x : SR} (h : PA x) : PA (pX3_takeNumber a1 x).2 ∧ Int32.toInt (x.1 3) ≤ Int32.toInt ((pX3_takeNumber a1 x).2.1 3) := by
  rw [pX3_takeNumber]
  by_cases d_55 : (pX3_isDigit x) = 0
  · rw [if_pos d_55]
    exact ⟨h, Int.le_refl _⟩
  · rw [if_neg d_55]
    by_cases d_56 : ((pX3_character (x.1 3) x) - 48) ≤ 0
    · rw [if_pos d_56]
      have i1 := dig_lt (x := x) (by with_reducible assumption); have i2 := h.2.2; have k1 := PA_inc h (by omega); exact ⟨k1.1, by show _ ≤ Int32.toInt ((pS x 3 (x.1 3 + 1)).1 3); rw [k1.2]; omega⟩
    · rw [if_neg d_56]
      by_cases d_57 : (pX3_isDigit (pS x 3 ((x.1 3) + 1))) = 0
      · rw [if_pos d_57]
        have i1 := dig_lt (x := x) (by with_reducible assumption); have i2 := h.2.2; have k1 := PA_inc h (by omega); exact ⟨k1.1, by show _ ≤ Int32.toInt ((pS x 3 (x.1 3 + 1)).1 3); rw [k1.2]; omega⟩
      · rw [if_neg d_57]
        by_cases d_58 : a1 < (((10 * ((pX3_character (x.1 3) x) - 48)) + (pX3_character ((x.1 3) + 1) (pS x 3 ((x.1 3) + 1)))) - 48)
        · rw [if_pos d_58]
          have i1 := dig_lt (x := x) (by with_reducible assumption); have i2 := h.2.2; have k1 := PA_inc h (by omega); exact ⟨k1.1, by show _ ≤ Int32.toInt ((pS x 3 (x.1 3 + 1)).1 3); rw [k1.2]; omega⟩
        · rw [if_neg d_58]
          have i1 := dig_lt (x := x) (by with_reducible assumption); have i2 := h.2.2; have k1 := PA_inc h (by omega); have i3 := dig_lt (x := pS x 3 (x.1 3 + 1)) (by with_reducible assumption); have i4 := k1.1.2.2; have k2 := PA_inc k1.1 (by omega); exact ⟨k2.1, by show _ ≤ Int32.toInt ((pS (pS x 3 (x.1 3 + 1)) 3 ((pS x 3 (x.1 3 + 1)).1 3 + 1)).1 3); rw [k2.2, k1.2]; omega⟩
def pX3_takesNumber (x : SR) : Int32 × SR := if ((pX3_takeNumber 99 x).1) < 0 then ((0 : Int32), (pS (pX3_takeNumber 99 x).2 5 ((pX3_takeNumber 99 x).1)))
  else ((1 : Int32), (pS (pX3_takeNumber 99 x).2 5 ((pX3_takeNumber 99 x).1)))
set_option maxHeartbeats 4000000 in
set_option maxRecDepth 100000 in
theorem ctX3_takesNumber (l : Launch) (G : va_G) (cI cC cZ cR : ClassId) (h : Ad) (x : SR) (q_0 : PA x) : Ct l yX3_takesNumber wsX3_takesNumber (rmz 3 64) G (TY cI cC cZ cR) [.ref (h 0)] (wMo cI h x) (Qi G (wMo cI h x) (pX3_takesNumber x).1 (wMo cI h (pX3_takesNumber x).2)) := by
  refine Ct.ofI (cc := cX3_takesNumber) (maxL := 1) (ret := (some .boolean)) (by decide) rfl rfl ?_
  intro p e s m below meth c A ls E0 hP hD hS hl
  obtain ⟨hx, hb, hr, hml, hlocks, hts, hown, hK, hN, hA⟩ := E0
  have hl : lv_has ls 1 [(0, .ref (h 0))] := hl
  have hin : ∀ w ∈ wsX30, w ∈ wsX3_takesNumber := fun w hw => List.mem_cons_of_mem _ (List.mem_append_right _ (hw))
  have k_173 : (Cond.fieldLink RX3 173 RX3 (TX3 11).2.1 (TX3 11).2.2.1).before ([.ref (h 0)] : List Value).toArray s = true := hts _ (List.mem_of_getElem? (i := 1) rfl)
  generalize hres : pX3_takesNumber x = res
  refine lv_aload_n hx hb dX3_takesNumber_0 rfl (lv_at hl 0 rfl) ?_
  refine lv_aload_n hx hb dX3_takesNumber_1 rfl (lv_at hl 0 rfl) ?_
  refine lv_bipush (v := 99) hx hb dX3_takesNumber_2 (by decide) ?_
  refine go_i hD hS hA (rn_V (As := [.int 99]) (rest := [.ref (h 0)]) ⟨hx, hb, hml, hown, hts⟩ (ctX3_takeNumber l G cI cC cZ cR h x 99 (by exact q_0)) (cwV 1 hts gX3_takesNumber_X3_takeNumber rfl rfl rfl (by decide +kernel) ⟨Nat.le_of_ble_eq_true rfl, Nat.le_of_ble_eq_true rfl⟩) (md_recv hK hP rfl) hK hP hD hN rfl hl.1 rfl (Nat.le_of_ble_eq_true rfl) dX3_takesNumber_4) (fun H locs hP hD hS => ?_)
  refine md_put (ci := 3) (C := RX3) (T := TX3) (N := 13) hx hb hts hin tyX3 tyX3_ok nmX3 hown hK hP hD hS rfl 11 (by decide) k_173 rfl rfl (q := 5) rfl (fu (by decide)) rfl rfl dX3_takesNumber_7 (fun H locs hP hD hS => ?_)
  refine lv_aload_n hx hb dX3_takesNumber_10 rfl (lv_at hl 0 rfl) ?_
  refine md_get (ci := 3) (C := RX3) (T := TX3) (N := 13) (v := .int ((pX3_takeNumber 99 x).1)) hx hb hts hin hown hK hP rfl 11 (by decide) k_173 rfl rfl rfl dX3_takesNumber_11 ?_
  refine lv_if_lt (tgt := 21) hx hb dX3_takesNumber_14 (by decide) (fun c_1 => ?_) (fun c_1 => ?_)
  · have t_1 := i_lt (z := (Int32.toInt ((pX3_takeNumber 99 x).1))) (w := (0)) c_1 rfl (by decide)
    refine lv_iconst (v := 0) hx hb dX3_takesNumber_21 (by decide) ?_
    exact rt_b hx hb hr hlocks hP hD hS rfl ((show pX3_takesNumber x = ((0 : Int32), (pS (pX3_takeNumber 99 x).2 5 ((pX3_takeNumber 99 x).1))) by rw [pX3_takesNumber, if_pos c_1]).symm.trans hres |>.symm) dX3_takesNumber_22
  · have t_1 := i_nlt (z := (Int32.toInt ((pX3_takeNumber 99 x).1))) (w := (0)) c_1 rfl (by decide)
    refine lv_iconst (v := 1) hx hb dX3_takesNumber_17 (by decide) ?_
    refine lv_goto (tgt := 22) hx hb dX3_takesNumber_18 (by decide) ?_
    exact rt_b hx hb hr hlocks hP hD hS rfl ((show pX3_takesNumber x = ((1 : Int32), (pS (pX3_takeNumber 99 x).2 5 ((pX3_takeNumber 99 x).1))) by rw [pX3_takesNumber, if_neg c_1]).symm.trans hres |>.symm) dX3_takesNumber_22
theorem takesNumber_b (x : SR) : (pX3_takesNumber x).1 = 0 ∨ (pX3_takesNumber x).1 = 1 := by
  rw [pX3_takesNumber]
  by_cases d_59 : ((pX3_takeNumber 99 x).1) < 0
  · rw [if_pos d_59]
    first | with_reducible exact Or.inl rfl | with_reducible exact Or.inr rfl
  · rw [if_neg d_59]
    first | with_reducible exact Or.inl rfl | with_reducible exact Or.inr rfl
theorem takesNumber_P {x : SR} (h : PA x) : PA (pX3_takesNumber x).2 ∧ Int32.toInt (x.1 3) ≤ Int32.toInt ((pX3_takesNumber x).2.1 3) := by
  rw [pX3_takesNumber]
  have k := takeNumber_P 99 h
  by_cases d_60 : ((pX3_takeNumber 99 x).1) < 0
  · rw [if_pos d_60]
    exact ⟨PA_S _ k.1 (by decide) (by decide), by show _ ≤ Int32.toInt (up (pX3_takeNumber 99 x).2.1 5 (pX3_takeNumber 99 x).1 3); rw [up_ne _ _ (show (3 : Nat) ≠ 5 by decide)]; exact k.2⟩
  · rw [if_neg d_60]
    exact ⟨PA_S _ k.1 (by decide) (by decide), by show _ ≤ Int32.toInt (up (pX3_takeNumber 99 x).2.1 5 (pX3_takeNumber 99 x).1 3); rw [up_ne _ _ (show (3 : Nat) ≠ 5 by decide)]; exact k.2⟩
