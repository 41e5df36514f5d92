theorem hours_dec {w : Int32} {x : SR} {n : Nat} (h : PA x) (hn : ¬ (pX3_isNext 44 (pS x 5 w)).1 = 0) (hm : 81 - Int32.toInt (x.1 3) < ((n + 1 : Nat) : Int)) : 81 - Int32.toInt ((pX3_takeNumber 23 (pX3_isNext 44 (pS x 5 w)).2).2.1 3) < (n : Int) := by
  have k0 := PA_S (q := 5) w h (by decide) (by decide)
  have k1 := isNext_P (c := 44) (by decide) k0
  have k2 := (takeNumber_P 23 k1.1).2
  have k3 := (k1.2.2 hn).1
  have e : (pS x 5 w).1 3 = x.1 3 := pS_ne _ _ (by decide)
  rw [e] at k3
  omega
def pX3_takesHours_L23 : Nat → Int32 → SR → Int32 × SR
  | 0, v1, x => (0, x)
  | n + 1, v1, x => if v1 < 0 then ((0 : Int32), x)
    else if ((pX3_isNext 44 (pS x 5 ((x.1 5) ||| (1 <<< (v1 &&& 31))))).1) = 0 then ((1 : Int32), (pX3_isNext 44 (pS x 5 ((x.1 5) ||| (1 <<< (v1 &&& 31))))).2)
      else pX3_takesHours_L23 n ((pX3_takeNumber 23 (pX3_isNext 44 (pS x 5 ((x.1 5) ||| (1 <<< (v1 &&& 31))))).2).1) (pX3_takeNumber 23 (pX3_isNext 44 (pS x 5 ((x.1 5) ||| (1 <<< (v1 &&& 31))))).2).2
def pX3_takesHours (x : SR) : Int32 × SR := if ((pX3_isNext 45 (pS x 5 0)).1) = 0 then pX3_takesHours_L23 82 ((pX3_takeNumber 23 (pX3_isNext 45 (pS x 5 0)).2).1) (pX3_takeNumber 23 (pX3_isNext 45 (pS x 5 0)).2).2
  else ((1 : Int32), (pX3_isNext 45 (pS x 5 0)).2)
set_option maxHeartbeats 600000 in
set_option maxRecDepth 100000 in
theorem ctX3_takesHours (l : Launch) (G : va_G) (cI cC cZ cR : ClassId) (h : Ad) (x : SR) (q_0 : PA x) : Ct l yX3_takesHours wsX3_takesHours (rmz 3 64) G (TY cI cC cZ cR) [.ref (h 0)] (wMo cI h x) (Qi G (wMo cI h x) (pX3_takesHours x).1 (wMo cI h (pX3_takesHours x).2)) := by
  refine Ct.ofI (cc := cX3_takesHours) (maxL := 2) (ret := (some .boolean)) (by decide) rfl rfl ?_
  intro p e s m below meth c A ls E0 hP hD hS hl
  obtain ⟨hx, hb, hr, hml, hlocks, hts, hown, hK, hN, hA⟩ := E0
  have hl : lv_has ls 2 [(0, .ref (h 0))] := hl
  have hin : ∀ w ∈ wsX30, w ∈ wsX3_takesHours := fun w hw => List.mem_cons_of_mem _ (List.mem_append_right _ (hw))
  have k_173 : (Cond.fieldLink RX3 173 RX3 (TX3 11).2.1 (TX3 11).2.2.1).before ([.ref (h 0)] : List Value).toArray s = true := hts _ (List.mem_of_getElem? (i := 1) rfl)
  generalize hres : pX3_takesHours x = res
  have lp_23 : ∀ (n : Nat) (v1 : Int32) (x : SR), PA x → 81 - Int32.toInt (x.1 3) < (n : Int) → pX3_takesHours_L23 n v1 x = res → ∀ (H : Heap) (locs : List Loc) (ls : Array Slot), va_P G vwCl (wMo cI h x) H → va_D A (wMo cI h x) → va_S A s.heap H locs → lv_has ls 2 [(0, .ref (h 0)), (1, .int v1)] → W p l e (rmz 3 64) s m ([.ref (h 0)] : List Value).toArray below meth c H locs 0 0 (MQ below (QiA G A res.1 (wMo cI h res.2)) ([.ref (h 0)] : List Value).toArray s 0 0 A) (F0 m 23 ls []) := by
    intro n
    induction n with
    | zero =>
      intro v1 x g_0 hm
      have := g_0.2.1; exfalso; omega
    | succ n ih =>
      intro v1 x g_0 hm hq H locs ls hP hD hS hl
      refine lv_iload_n hx hb dX3_takesHours_23 rfl (lv_at hl 1 rfl) ?_
      refine lv_if_lt (tgt := 60) hx hb dX3_takesHours_24 (by decide) (fun c_2 => ?_) (fun c_2 => ?_)
      · have t_2 := i_lt (z := (Int32.toInt v1)) (w := (0)) c_2 rfl (by decide)
        refine lv_iconst (v := 0) hx hb dX3_takesHours_60 (by decide) ?_
        exact rt_b hx hb hr hlocks hP hD hS rfl ((show pX3_takesHours_L23 (n + 1) v1 x = ((0 : Int32), x) by rw [pX3_takesHours_L23, if_pos c_2]).symm.trans hq |>.symm) dX3_takesHours_61
      · have t_2 := i_nlt (z := (Int32.toInt v1)) (w := (0)) c_2 rfl (by decide)
        refine lv_aload_n hx hb dX3_takesHours_27 rfl (lv_at hl 0 rfl) ?_
        refine lv_dup hx hb dX3_takesHours_28 rfl ?_
        refine md_get (ci := 3) (C := RX3) (T := TX3) (N := 13) (v := .int (x.1 5)) hx hb hts hin hown hK hP rfl 11 (by decide) k_173 rfl rfl rfl dX3_takesHours_29 ?_
        refine lv_iconst (v := 1) hx hb dX3_takesHours_32 (by decide) ?_
        refine lv_iload_n hx hb dX3_takesHours_33 rfl (lv_at hl 1 rfl) ?_
        refine lv_ishl hx hb dX3_takesHours_34 ?_
        refine lv_ior hx hb dX3_takesHours_35 ?_
        refine md_put (ci := 3) (C := RX3) (T := TX3) (N := 13) hx hb hts hin tyX3 tyX3_ok nmX3 hown hK hP hD hS rfl 11 (by decide) k_173 rfl rfl (q := 5) rfl (fu (by decide)) rfl rfl dX3_takesHours_36 (fun H locs hP hD hS => ?_)
        refine lv_aload_n hx hb dX3_takesHours_39 rfl (lv_at hl 0 rfl) ?_
        refine lv_bipush (v := 44) hx hb dX3_takesHours_40 (by decide) ?_
        refine go_i hD hS hA (rn_V (As := [.int 44]) (rest := []) ⟨hx, hb, hml, hown, hts⟩ (ctX3_isNext l G cI cC cZ cR h (pS x 5 ((x.1 5) ||| (1 <<< (v1 &&& 31)))) 44 (by exact PA_S (q := 5) _ g_0 (by decide) (by decide))) (cwV 1 hts gX3_takesHours_X3_isNext rfl rfl rfl (by decide +kernel) ⟨Nat.le_of_ble_eq_true rfl, Nat.le_of_ble_eq_true rfl⟩) (md_recv hK hP rfl) hK hP hD hN rfl hl.1 rfl (Nat.le_of_ble_eq_true rfl) dX3_takesHours_42) (fun H locs hP hD hS => ?_)
        refine lv_if_ne (tgt := 50) hx hb dX3_takesHours_45 (by decide) (fun c_3 => ?_) (fun c_3 => ?_)
        · refine lv_aload_n hx hb dX3_takesHours_50 rfl (lv_at hl 0 rfl) ?_
          refine lv_bipush (v := 23) hx hb dX3_takesHours_51 (by decide) ?_
          refine go_i hD hS hA (rn_V (As := [.int 23]) (rest := []) ⟨hx, hb, hml, hown, hts⟩ (ctX3_takeNumber l G cI cC cZ cR h (pX3_isNext 44 (pS x 5 ((x.1 5) ||| (1 <<< (v1 &&& 31))))).2 23 (by exact (isNext_P (c := 44) (by decide) (PA_S (q := 5) _ g_0 (by decide) (by decide))).1)) (cwV 1 hts gX3_takesHours_X3_takeNumber rfl rfl rfl (by decide +kernel) ⟨Nat.le_of_ble_eq_true rfl, Nat.le_of_ble_eq_true rfl⟩) (md_recv hK hP rfl) hK hP hD hN rfl hl.1 rfl (Nat.le_of_ble_eq_true rfl) dX3_takesHours_53) (fun H locs hP hD hS => ?_)
          refine lv_istore_n (lv' := [(1, .int ((pX3_takeNumber 23 (pX3_isNext 44 (pS x 5 ((x.1 5) ||| (1 <<< (v1 &&& 31))))).2).1)), (0, .ref (h 0))]) hx hb dX3_takesHours_56 rfl hl (by decide) rfl (fun ls hl => ?_)
          refine lv_goto (tgt := 23) hx hb dX3_takesHours_57 (by decide) ?_
          exact ih ((pX3_takeNumber 23 (pX3_isNext 44 (pS x 5 ((x.1 5) ||| (1 <<< (v1 &&& 31))))).2).1) (pX3_takeNumber 23 (pX3_isNext 44 (pS x 5 ((x.1 5) ||| (1 <<< (v1 &&& 31))))).2).2 (by exact (takeNumber_P 23 (isNext_P (c := 44) (by decide) (PA_S (q := 5) _ g_0 (by decide) (by decide))).1).1) (by exact hours_dec g_0 (by with_reducible assumption) hm) ((show pX3_takesHours_L23 (n + 1) v1 x = pX3_takesHours_L23 n ((pX3_takeNumber 23 (pX3_isNext 44 (pS x 5 ((x.1 5) ||| (1 <<< (v1 &&& 31))))).2).1) (pX3_takeNumber 23 (pX3_isNext 44 (pS x 5 ((x.1 5) ||| (1 <<< (v1 &&& 31))))).2).2 by rw [pX3_takesHours_L23, if_neg c_2, if_neg c_3]).symm.trans hq) _ _ _ hP hD hS (lv_sub hl [1, 0] rfl)
        · refine lv_iconst (v := 1) hx hb dX3_takesHours_48 (by decide) ?_
          exact rt_b hx hb hr hlocks hP hD hS rfl ((show pX3_takesHours_L23 (n + 1) v1 x = ((1 : Int32), (pX3_isNext 44 (pS x 5 ((x.1 5) ||| (1 <<< (v1 &&& 31))))).2) by rw [pX3_takesHours_L23, if_neg c_2, if_pos c_3]).symm.trans hq |>.symm) dX3_takesHours_49
  refine lv_aload_n hx hb dX3_takesHours_0 rfl (lv_at hl 0 rfl) ?_
  refine lv_iconst (v := 0) hx hb dX3_takesHours_1 (by decide) ?_
  refine md_put (ci := 3) (C := RX3) (T := TX3) (N := 13) hx hb hts hin tyX3 tyX3_ok nmX3 hown hK hP hD hS rfl 11 (by decide) k_173 rfl rfl (q := 5) rfl (fu (by decide)) rfl rfl dX3_takesHours_2 (fun H locs hP hD hS => ?_)
  refine lv_aload_n hx hb dX3_takesHours_5 rfl (lv_at hl 0 rfl) ?_
  refine lv_bipush (v := 45) hx hb dX3_takesHours_6 (by decide) ?_
  refine go_i hD hS hA (rn_V (As := [.int 45]) (rest := []) ⟨hx, hb, hml, hown, hts⟩ (ctX3_isNext l G cI cC cZ cR h (pS x 5 0) 45 (by exact PA_S (q := 5) _ q_0 (by decide) (by decide))) (cwV 1 hts gX3_takesHours_X3_isNext rfl rfl rfl (by decide +kernel) ⟨Nat.le_of_ble_eq_true rfl, Nat.le_of_ble_eq_true rfl⟩) (md_recv hK hP rfl) hK hP hD hN rfl hl.1 rfl (Nat.le_of_ble_eq_true rfl) dX3_takesHours_8) (fun H locs hP hD hS => ?_)
  refine lv_if_eq (tgt := 16) hx hb dX3_takesHours_11 (by decide) (fun c_1 => ?_) (fun c_1 => ?_)
  · refine lv_aload_n hx hb dX3_takesHours_16 rfl (lv_at hl 0 rfl) ?_
    refine lv_bipush (v := 23) hx hb dX3_takesHours_17 (by decide) ?_
    refine go_i hD hS hA (rn_V (As := [.int 23]) (rest := []) ⟨hx, hb, hml, hown, hts⟩ (ctX3_takeNumber l G cI cC cZ cR h (pX3_isNext 45 (pS x 5 0)).2 23 (by exact (isNext_P (c := 45) (by decide) (PA_S (q := 5) _ q_0 (by decide) (by decide))).1)) (cwV 1 hts gX3_takesHours_X3_takeNumber rfl rfl rfl (by decide +kernel) ⟨Nat.le_of_ble_eq_true rfl, Nat.le_of_ble_eq_true rfl⟩) (md_recv hK hP rfl) hK hP hD hN rfl hl.1 rfl (Nat.le_of_ble_eq_true rfl) dX3_takesHours_19) (fun H locs hP hD hS => ?_)
    refine lv_istore_n (lv' := [(1, .int ((pX3_takeNumber 23 (pX3_isNext 45 (pS x 5 0)).2).1)), (0, .ref (h 0))]) hx hb dX3_takesHours_22 rfl hl (by decide) rfl (fun ls hl => ?_)
    exact lp_23 82 ((pX3_takeNumber 23 (pX3_isNext 45 (pS x 5 0)).2).1) (pX3_takeNumber 23 (pX3_isNext 45 (pS x 5 0)).2).2 (by exact (takeNumber_P 23 (isNext_P (c := 45) (by decide) (PA_S (q := 5) 0 q_0 (by decide) (by decide))).1).1) (by show 81 - Int32.toInt ((pX3_takeNumber 23 (pX3_isNext 45 (pS x 5 0)).2).2.1 3) < ((82 : Nat) : Int); have := (takeNumber_P 23 (isNext_P (c := 45) (by decide) (PA_S (q := 5) 0 q_0 (by decide) (by decide))).1).1.1; omega) ((show pX3_takesHours x = pX3_takesHours_L23 82 ((pX3_takeNumber 23 (pX3_isNext 45 (pS x 5 0)).2).1) (pX3_takeNumber 23 (pX3_isNext 45 (pS x 5 0)).2).2 by rw [pX3_takesHours, if_pos c_1]).symm.trans hres) _ _ _ hP hD hS (lv_sub hl [1, 0] rfl)
  · refine lv_iconst (v := 1) hx hb dX3_takesHours_14 (by decide) ?_
    exact rt_b hx hb hr hlocks hP hD hS rfl ((show pX3_takesHours x = ((1 : Int32), (pX3_isNext 45 (pS x 5 0)).2) by rw [pX3_takesHours, if_neg c_1]).symm.trans hres |>.symm) dX3_takesHours_15
theorem takesHours_Lb : ∀ (n : Nat) (v1 : Int32) (x : SR), (pX3_takesHours_L23 n v1 x).1 = 0 ∨ (pX3_takesHours_L23 n v1 x).1 = 1 := by
  intro n
  induction n with
  | zero => intro v1 x; rw [pX3_takesHours_L23]; exact Or.inl rfl
  | succ n ih =>
    intro v1 x
    rw [pX3_takesHours_L23]
    by_cases d_61 : v1 < 0
    · rw [if_pos d_61]
      first | with_reducible exact Or.inl rfl | with_reducible exact Or.inr rfl
    · rw [if_neg d_61]
      by_cases d_62 : ((pX3_isNext 44 (pS x 5 ((x.1 5) ||| (1 <<< (v1 &&& 31))))).1) = 0
      · rw [if_pos d_62]
        first | with_reducible exact Or.inl rfl | with_reducible exact Or.inr rfl
      · rw [if_neg d_62]
        exact ih _ _
theorem takesHours_b (x : SR) : (pX3_takesHours x).1 = 0 ∨ (pX3_takesHours x).1 = 1 := by
  rw [pX3_takesHours]
  by_cases d_63 : ((pX3_isNext 45 (pS x 5 0)).1) = 0
  · rw [if_pos d_63]
    exact takesHours_Lb _ _ _
  · rw [if_neg d_63]
    first | with_reducible exact Or.inl rfl | with_reducible exact Or.inr rfl
theorem takesHours_LP : ∀ (n : Nat) (v1 : Int32) (x : SR), PA x → PA (pX3_takesHours_L23 n v1 x).2 ∧ Int32.toInt (x.1 3) ≤ Int32.toInt ((pX3_takesHours_L23 n v1 x).2.1 3) := by
  intro n
  induction n with
  | zero => intro v1 x h; rw [pX3_takesHours_L23]; exact ⟨h, Int.le_refl _⟩
  | succ n ih =>
    intro v1 x h
    rw [pX3_takesHours_L23]
    by_cases h1 : v1 < 0
    · rw [if_pos h1]
      exact ⟨h, Int.le_refl _⟩
    · rw [if_neg h1]
      have k0 := PA_S (q := 5) (x.1 5 ||| 1 <<< (v1 &&& 31)) h (by decide) (by decide)
      have e : (pS x 5 (x.1 5 ||| 1 <<< (v1 &&& 31))).1 3 = x.1 3 := pS_ne _ _ (by decide)
      have k1 := isNext_P (c := 44) (by decide) k0
      rw [e] at k1
      by_cases h2 : (pX3_isNext 44 (pS x 5 (x.1 5 ||| 1 <<< (v1 &&& 31)))).1 = 0
      · rw [if_pos h2]
        exact ⟨k1.1, k1.2.1⟩
      · rw [if_neg h2]
        have k2 := takeNumber_P 23 k1.1
        have k3 := ih (pX3_takeNumber 23 (pX3_isNext 44 (pS x 5 (x.1 5 ||| 1 <<< (v1 &&& 31)))).2).1 _ k2.1
        exact ⟨k3.1, Int.le_trans k1.2.1 (Int.le_trans k2.2 k3.2)⟩
theorem takesHours_P {x : SR} (h : PA x) : PA (pX3_takesHours x).2 ∧ Int32.toInt (x.1 3) ≤ Int32.toInt ((pX3_takesHours x).2.1 3) := by
  rw [pX3_takesHours]
  have k0 := PA_S (q := 5) 0 h (by decide) (by decide)
  have e : (pS x 5 0).1 3 = x.1 3 := pS_ne _ _ (by decide)
  have k1 := isNext_P (c := 45) (by decide) k0
  rw [e] at k1
  have k2 := takeNumber_P 23 k1.1
  by_cases h2 : (pX3_isNext 45 (pS x 5 0)).1 = 0
  · rw [if_pos h2]
    have k3 := takesHours_LP 82 (pX3_takeNumber 23 (pX3_isNext 45 (pS x 5 0)).2).1 _ k2.1
    exact ⟨k3.1, Int.le_trans k1.2.1 (Int.le_trans k2.2 k3.2)⟩
  · rw [if_neg h2]
    exact ⟨k1.1, k1.2.1⟩
