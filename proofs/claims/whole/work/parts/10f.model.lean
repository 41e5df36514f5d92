theorem pR_at (x : SR) (k : Nat) (i v : Int32) : (pR x k i v).2 k = up (x.2 k) (ix i) v := by
  unfold pR
  exact up_same _ _ _
theorem pR_ne (x : SR) {k j : Nat} (i v : Int32) (h : j ≠ k) : (pR x k i v).2 j = x.2 j := by
  unfold pR
  exact up_ne _ _ h
theorem pR_1 (x : SR) (k : Nat) (i v : Int32) : (pR x k i v).1 = x.1 := rfl
theorem pS_at (x : SR) (q : Nat) (v : Int32) : (pS x q v).1 q = v := by
  unfold pS
  exact up_same _ _ _
theorem pS_ne (x : SR) {q j : Nat} (v : Int32) (h : j ≠ q) : (pS x q v).1 j = x.1 j := by
  unfold pS
  exact up_ne _ _ h
-- moves: what it copies, what it leaves
def cpA (f g : Nat → Int32) (s t n : Nat) : Nat → Int32 := fun j => if t ≤ j ∧ j < t + n then f (s + (j - t)) else g j
theorem moves_Lo {k1 k3 k : Nat} (a2 a4 : Int32) (hk : k ≠ k3) : ∀ (n : Nat) (v4 : Int32) (x : SR), (pX3_moves_L3 k1 a2 k3 a4 n v4 x).2 k = x.2 k ∧ (pX3_moves_L3 k1 a2 k3 a4 n v4 x).1 = x.1 := by
  intro n
  induction n with
  | zero => intro v4 x; rw [pX3_moves_L3]; exact ⟨rfl, rfl⟩
  | succ n ih =>
    intro v4 x
    rw [pX3_moves_L3]
    by_cases h : 109 ≤ v4
    · rw [if_pos h]
      exact ⟨rfl, rfl⟩
    · rw [if_neg h]
      have e := ih (v4 + 1) (pR x k3 (a4 + v4) (x.2 k1 (ix (a2 + v4))))
      exact ⟨e.1.trans (up_ne x.2 _ hk), e.2.trans rfl⟩
theorem moves_o {k1 k3 k : Nat} (a2 a4 : Int32) (x : SR) (hk : k ≠ k3) : (pX3_moves k1 a2 k3 a4 x).2 k = x.2 k := by
  rw [pX3_moves]
  exact (moves_Lo a2 a4 hk _ _ _).1
theorem moves_s {k1 k3 : Nat} (a2 a4 : Int32) (x : SR) : (pX3_moves k1 a2 k3 a4 x).1 = x.1 := by
  rw [pX3_moves]
  exact (moves_Lo (k := k3 + 1) a2 a4 (by omega) _ _ _).2
theorem moves_L {k1 k3 : Nat} (s t : Nat) (x : SR) (hk : k1 ≠ k3) (hs : s < 100000) (ht : t < 100000) : ∀ (n i : Nat), i ≤ 109 → 109 - i < n → pX3_moves_L3 k1 (nI s) k3 (nI t) n (nI i) (x.1, up x.2 k3 (cpA (x.2 k1) (x.2 k3) s t i)) = (x.1, up x.2 k3 (cpA (x.2 k1) (x.2 k3) s t 109)) := by
  intro n
  induction n with
  | zero => intro i h1 h2; omega
  | succ n ih =>
    intro i h1 h2
    rw [pX3_moves_L3]
    by_cases h : i = 109
    · subst h
      rw [if_pos (show (109 : Int32) ≤ nI 109 by decide)]
    · have hn : ¬ (109 : Int32) ≤ nI i := by
        rw [show (109 : Int32) = nI 109 from rfl, nI_leI (by omega) (by omega)]
        omega
      rw [if_neg hn, nI_1, nI_add, nI_add]
      have e : pR (x.1, up x.2 k3 (cpA (x.2 k1) (x.2 k3) s t i)) k3 (nI (t + i)) ((x.1, up x.2 k3 (cpA (x.2 k1) (x.2 k3) s t i)).2 k1 (ix (nI (s + i)))) = (x.1, up x.2 k3 (cpA (x.2 k1) (x.2 k3) s t (i + 1))) := by
        rw [ix_nI (by omega)]
        unfold pR
        refine Prod.ext rfl ?_
        funext k
        by_cases hk3 : k = k3
        · subst hk3
          show up _ k _ k = up _ k _ k
          rw [up_same, up_same, ix_nI (by omega)]
          show up (up x.2 k (cpA (x.2 k1) (x.2 k) s t i) k) (t + i) (up x.2 k (cpA (x.2 k1) (x.2 k) s t i) k1 (s + i)) = _
          rw [up_same, up_ne _ _ hk]
          funext j
          by_cases hj : j = t + i
          · subst hj
            rw [up_same]
            unfold cpA
            rw [if_pos (show t ≤ t + i ∧ t + i < t + (i + 1) from ⟨by omega, by omega⟩)]
            rw [show t + i - t = i by omega]
          · rw [up_ne _ _ hj]
            unfold cpA
            by_cases h3 : t ≤ j ∧ j < t + i
            · rw [if_pos h3, if_pos ⟨h3.1, by omega⟩]
            · rw [if_neg h3, if_neg (show ¬ (t ≤ j ∧ j < t + (i + 1)) by omega)]
        · show up _ k3 _ k = up _ k3 _ k
          rw [up_ne _ _ hk3, up_ne _ _ hk3]
          exact up_ne _ _ hk3
      rw [e]
      exact ih (i + 1) (by omega) (by omega)
theorem moves_eq {k1 k3 : Nat} (s t : Nat) (x : SR) (hk : k1 ≠ k3) (hs : s < 100000) (ht : t < 100000) : pX3_moves k1 (nI s) k3 (nI t) x = (x.1, up x.2 k3 (cpA (x.2 k1) (x.2 k3) s t 109)) := by
  rw [pX3_moves]
  have e := moves_L s t x hk hs ht 110 0 (by omega) (by omega)
  have e2 : (x.1, up x.2 k3 (cpA (x.2 k1) (x.2 k3) s t 0)) = x := by
    refine Prod.ext rfl ?_
    funext k
    show up x.2 k3 _ k = x.2 k
    by_cases hk3 : k = k3
    · subst hk3
      rw [up_same]
      funext j
      unfold cpA
      rw [if_neg (show ¬ (t ≤ j ∧ j < t + 0) by omega)]
    · rw [up_ne _ _ hk3]
  rw [e2, nI_0] at e
  exact e
def Mf (f : Nat → Int32) : Prop := MIa f ∧ Int32.toInt (f (ix 11)) ≤ 4
theorem Mf.cp {f g : Nat → Int32} (h : Mf f) : Mf (cpA f g 0 0 109) := by
  have e : ∀ j, j < 109 → cpA f g 0 0 109 j = f j := by
    intro j hj
    unfold cpA
    rw [if_pos (show 0 ≤ j ∧ j < 0 + 109 from ⟨by omega, by omega⟩)]
    rw [show 0 + (j - 0) = j by omega]
  unfold Mf MIa at h ⊢
  rw [e (ix 0) (by decide), e (ix 6) (by decide), e (ix 11) (by decide)]
  exact h
theorem addc_in {v : Int32} (h1 : 0 ≤ Int32.toInt v) (h2 : Int32.toInt v < 545) : vp_in (v + 109) 654 := by
  have e : (v + 109).toInt = v.toInt + 109 := by
    rw [Int32.toInt_add, show (109 : Int32).toInt = 109 from rfl, Int.bmod_eq_of_le] <;> omega
  exact vp_in_iff.mpr ⟨by omega, by omega⟩
theorem rec_ok {r : Int32} (h : ¬ r = 6) (h0 : 0 ≤ Int32.toInt r) (h6 : Int32.toInt r ≤ 6) : 0 ≤ Int32.toInt (r * 109) ∧ Int32.toInt (r * 109) + 109 ≤ ((654 : Nat) : Int) := by
  obtain ⟨j, hj, rfl⟩ := vp_in_of (vp_in_iff.mpr ⟨h0, show Int32.toInt r < ((7 : Nat) : Int) by omega⟩) (by decide)
  have hj6 : j ≠ 6 := fun e => h (by rw [e]; rfl)
  rw [show (109 : Int32) = nI 109 from rfl, nI_mulN, nI_toInt (by omega)]
  omega
def pX3_record_L11 : Nat → Int32 → SR → SR
  | 0, v1, x => x
  | n + 1, v1, x => if 545 ≤ v1 then (pS (pX3_moves 0 0 2 (((x.1 0) - 1) * 109) (pS x 0 ((x.1 0) - 1))) 0 (((pX3_moves 0 0 2 (((x.1 0) - 1) * 109) (pS x 0 ((x.1 0) - 1))).1 0) + 1))
    else pX3_record_L11 n (v1 + 1) (pR x 2 v1 (x.2 2 (ix (v1 + 109))))
def pX3_record (x : SR) : SR := if (x.1 0) = 6 then pX3_record_L11 546 0 x
  else (pS (pX3_moves 0 0 2 ((x.1 0) * 109) x) 0 (((pX3_moves 0 0 2 ((x.1 0) * 109) x).1 0) + 1))
set_option maxHeartbeats 4000000 in
set_option maxRecDepth 100000 in
theorem ctX3_record (l : Launch) (G : va_G) (cI cC cZ cR : ClassId) (h : Ad) (x : SR) (q_0 : 0 ≤ Int32.toInt (x.1 0)) (q_1 : Int32.toInt (x.1 0) ≤ 6) : Ct l yX3_record wsX3_record (rmz 1 24) G (TY cI cC cZ cR) [.ref (h 0)] (wMo cI h x) (Qv G (wMo cI h x) (wMo cI h (pX3_record x))) := by
  refine Ct.ofV (cc := cX3_record) (maxL := 2) (ret := none) (by decide) rfl rfl ?_
  intro p e s m below meth c A ls E0 hP hD hS hl
  obtain ⟨hx, hb, hr, hml, hlocks, hts, hown, hK, hN, hA⟩ := E0
  have hl : lv_has ls 2 [(0, .ref (h 0))] := hl
  have hin : ∀ w ∈ wsX30, w ∈ wsX3_record := fun w hw => List.mem_cons_of_mem _ (List.mem_append_right _ (hw))
  have k_28 : (Cond.fieldLink RX3 28 RX3 (TX3 3).2.1 (TX3 3).2.2.1).before ([.ref (h 0)] : List Value).toArray s = true := hts _ (List.mem_of_getElem? (i := 1) rfl)
  have k_7 : (Cond.fieldLink RX3 7 RX3 (TX3 0).2.1 (TX3 0).2.2.1).before ([.ref (h 0)] : List Value).toArray s = true := hts _ (List.mem_of_getElem? (i := 3) rfl)
  have k_16 : (Cond.fieldLink RX3 16 RX3 (TX3 2).2.1 (TX3 2).2.2.1).before ([.ref (h 0)] : List Value).toArray s = true := hts _ (List.mem_of_getElem? (i := 2) rfl)
  generalize hres : pX3_record x = res
  have lp_11 : ∀ (n : Nat) (v1 : Int32) (x : SR), 0 ≤ Int32.toInt v1 → Int32.toInt v1 ≤ 545 → x.1 0 = 6 → 545 - Int32.toInt v1 < (n : Int) → pX3_record_L11 n v1 x = res → ∀ (H : Heap) (locs : List Loc) (ls : Array Slot), va_P G vwCl (wMo cI h x) H → va_D A (wMo cI h x) → va_S A s.heap H locs → lv_has ls 2 [(0, .ref (h 0)), (1, .int v1)] → W p l e (rmz 1 24) s m ([.ref (h 0)] : List Value).toArray below meth c H locs 0 0 (MQ below (QvA G A (wMo cI h res)) ([.ref (h 0)] : List Value).toArray s 0 0 A) (F0 m 11 ls []) := by
    intro n
    induction n with
    | zero =>
      intro v1 x g_0 g_1 g_2 hm
      exfalso; omega
    | succ n ih =>
      intro v1 x g_0 g_1 g_2 hm hq H locs ls hP hD hS hl
      refine lv_iload_n hx hb dX3_record_11 rfl (lv_at hl 1 rfl) ?_
      refine lv_sipush (v := 545) hx hb dX3_record_12 (by decide) ?_
      refine lv_icmp_ge (tgt := 39) hx hb dX3_record_15 (by decide) (fun c_2 => ?_) (fun c_2 => ?_)
      · have t_2 := i_le (z := (545)) (w := (Int32.toInt v1)) c_2 (by decide) rfl
        refine lv_aload_n hx hb dX3_record_39 rfl (lv_at hl 0 rfl) ?_
        refine lv_dup hx hb dX3_record_40 rfl ?_
        refine md_get (ci := 3) (C := RX3) (T := TX3) (N := 13) (v := .int (x.1 0)) hx hb hts hin hown hK hP rfl 3 (by decide) k_28 rfl rfl rfl dX3_record_41 ?_
        refine lv_iconst (v := 1) hx hb dX3_record_44 (by decide) ?_
        refine lv_isub hx hb dX3_record_45 ?_
        refine md_put (ci := 3) (C := RX3) (T := TX3) (N := 13) hx hb hts hin tyX3 tyX3_ok nmX3 hown hK hP hD hS rfl 3 (by decide) k_28 rfl rfl (q := 0) rfl (fu (by decide)) rfl rfl dX3_record_46 (fun H locs hP hD hS => ?_)
        refine lv_aload_n hx hb dX3_record_49 rfl (lv_at hl 0 rfl) ?_
        refine md_get (ci := 3) (C := RX3) (T := TX3) (N := 13) (v := .ref (h 1)) hx hb hts hin hown hK hP rfl 0 (by decide) k_7 rfl rfl rfl dX3_record_50 ?_
        refine lv_iconst (v := 0) hx hb dX3_record_53 (by decide) ?_
        refine lv_aload_n hx hb dX3_record_54 rfl (lv_at hl 0 rfl) ?_
        refine md_get (ci := 3) (C := RX3) (T := TX3) (N := 13) (v := .ref (h 3)) hx hb hts hin hown hK hP rfl 2 (by decide) k_16 rfl rfl rfl dX3_record_55 ?_
        refine lv_aload_n hx hb dX3_record_58 rfl (lv_at hl 0 rfl) ?_
        refine md_get (ci := 3) (C := RX3) (T := TX3) (N := 13) (v := .int ((x.1 0) - 1)) hx hb hts hin hown hK hP rfl 3 (by decide) k_28 rfl rfl rfl dX3_record_59 ?_
        refine lv_bipush (v := 109) hx hb dX3_record_62 (by decide) ?_
        refine lv_imul hx hb dX3_record_64 ?_
        refine go_v hD hS hA (rn_S (As := [.ref (h 1), .int 0, .ref (h 3), .int (((x.1 0) - 1) * 109)]) (rest := []) ⟨hx, hb, hml, hown, hts⟩ (ctX3_moves l G cI cC cZ cR h (pS x 0 ((x.1 0) - 1)) 0 0 2 (((x.1 0) - 1) * 109) 109 654 (by rfl) (by rfl) (by decide) (by decide) (by first | exact (rec_ok (by with_reducible assumption) q_0 q_1).1 | (rw [g_2]; decide)) (by first | exact (rec_ok (by with_reducible assumption) q_0 q_1).2 | (rw [g_2]; decide)) (by decide) (by decide)) (va_cwS 4 hts gX3_record_X3_moves rfl rfl rfl (by decide +kernel) ⟨Nat.le_of_ble_eq_true rfl, Nat.le_of_ble_eq_true rfl⟩) hK hP hD hN rfl hl.1 rfl (Nat.le_of_ble_eq_true rfl) dX3_record_65) (fun H locs hP hD hS => ?_)
        refine lv_aload_n hx hb dX3_record_68 rfl (lv_at hl 0 rfl) ?_
        refine lv_dup hx hb dX3_record_69 rfl ?_
        refine md_get (ci := 3) (C := RX3) (T := TX3) (N := 13) (v := .int ((pX3_moves 0 0 2 (((x.1 0) - 1) * 109) (pS x 0 ((x.1 0) - 1))).1 0)) hx hb hts hin hown hK hP rfl 3 (by decide) k_28 rfl rfl rfl dX3_record_70 ?_
        refine lv_iconst (v := 1) hx hb dX3_record_73 (by decide) ?_
        refine lv_iadd hx hb dX3_record_74 ?_
        refine md_put (ci := 3) (C := RX3) (T := TX3) (N := 13) hx hb hts hin tyX3 tyX3_ok nmX3 hown hK hP hD hS rfl 3 (by decide) k_28 rfl rfl (q := 0) rfl (fu (by decide)) rfl rfl dX3_record_75 (fun H locs hP hD hS => ?_)
        exact rt_s hx hb hr hlocks hP hD hS ((show pX3_record_L11 (n + 1) v1 x = (pS (pX3_moves 0 0 2 (((x.1 0) - 1) * 109) (pS x 0 ((x.1 0) - 1))) 0 (((pX3_moves 0 0 2 (((x.1 0) - 1) * 109) (pS x 0 ((x.1 0) - 1))).1 0) + 1)) by rw [pX3_record_L11, if_pos c_2]).symm.trans hq |>.symm) dX3_record_78
      · have t_2 := i_nle (z := (545)) (w := (Int32.toInt v1)) c_2 (by decide) rfl
        refine lv_aload_n hx hb dX3_record_18 rfl (lv_at hl 0 rfl) ?_
        refine md_get (ci := 3) (C := RX3) (T := TX3) (N := 13) (v := .ref (h 3)) hx hb hts hin hown hK hP rfl 2 (by decide) k_16 rfl rfl rfl dX3_record_19 ?_
        refine lv_iload_n hx hb dX3_record_22 rfl (lv_at hl 1 rfl) ?_
        refine lv_aload_n hx hb dX3_record_23 rfl (lv_at hl 0 rfl) ?_
        refine md_get (ci := 3) (C := RX3) (T := TX3) (N := 13) (v := .ref (h 3)) hx hb hts hin hown hK hP rfl 2 (by decide) k_16 rfl rfl rfl dX3_record_24 ?_
        refine lv_iload_n hx hb dX3_record_27 rfl (lv_at hl 1 rfl) ?_
        refine lv_bipush (v := 109) hx hb dX3_record_28 (by decide) ?_
        refine lv_iadd hx hb dX3_record_30 ?_
        refine md_ia (v := x.2 2 (ix (v1 + 109))) hx hb hK hP 2 0 rfl rfl (by exact addc_in (by omega) (by omega)) rfl dX3_record_31 ?_
        refine md_is hx hb hK hP hD hS 2 0 rfl rfl (by exact vp_in_iff.mpr ⟨by omega, by omega⟩) dX3_record_32 (fun H locs hP hD hS => ?_)
        refine lv_iinc (v := (v1 + 1)) (lv' := [(1, .int (v1 + 1)), (0, .ref (h 0))]) hx hb dX3_record_33 hl (k := 1) rfl rfl (by decide) rfl (fun ls hl => ?_)
        have a_33 := i_add1 (a := v1) (by omega) (by omega)
        refine lv_goto (tgt := 11) hx hb dX3_record_36 (by decide) ?_
        exact ih (v1 + 1) (pR x 2 v1 (x.2 2 (ix (v1 + 109)))) (by omega) (by omega) (by exact g_2) (by omega) ((show pX3_record_L11 (n + 1) v1 x = pX3_record_L11 n (v1 + 1) (pR x 2 v1 (x.2 2 (ix (v1 + 109)))) by rw [pX3_record_L11, if_neg c_2]).symm.trans hq) _ _ _ hP hD hS (lv_sub hl [1, 0] rfl)
  refine lv_aload_n hx hb dX3_record_0 rfl (lv_at hl 0 rfl) ?_
  refine md_get (ci := 3) (C := RX3) (T := TX3) (N := 13) (v := .int (x.1 0)) hx hb hts hin hown hK hP rfl 3 (by decide) k_28 rfl rfl rfl dX3_record_1 ?_
  refine lv_bipush (v := 6) hx hb dX3_record_4 (by decide) ?_
  refine lv_icmp_ne (tgt := 49) hx hb dX3_record_6 (by decide) (fun c_1 => ?_) (fun c_1 => ?_)
  · refine lv_aload_n hx hb dX3_record_49 rfl (lv_at hl 0 rfl) ?_
    refine md_get (ci := 3) (C := RX3) (T := TX3) (N := 13) (v := .ref (h 1)) hx hb hts hin hown hK hP rfl 0 (by decide) k_7 rfl rfl rfl dX3_record_50 ?_
    refine lv_iconst (v := 0) hx hb dX3_record_53 (by decide) ?_
    refine lv_aload_n hx hb dX3_record_54 rfl (lv_at hl 0 rfl) ?_
    refine md_get (ci := 3) (C := RX3) (T := TX3) (N := 13) (v := .ref (h 3)) hx hb hts hin hown hK hP rfl 2 (by decide) k_16 rfl rfl rfl dX3_record_55 ?_
    refine lv_aload_n hx hb dX3_record_58 rfl (lv_at hl 0 rfl) ?_
    refine md_get (ci := 3) (C := RX3) (T := TX3) (N := 13) (v := .int (x.1 0)) hx hb hts hin hown hK hP rfl 3 (by decide) k_28 rfl rfl rfl dX3_record_59 ?_
    refine lv_bipush (v := 109) hx hb dX3_record_62 (by decide) ?_
    refine lv_imul hx hb dX3_record_64 ?_
    refine go_v hD hS hA (rn_S (As := [.ref (h 1), .int 0, .ref (h 3), .int ((x.1 0) * 109)]) (rest := []) ⟨hx, hb, hml, hown, hts⟩ (ctX3_moves l G cI cC cZ cR h x 0 0 2 ((x.1 0) * 109) 109 654 (by rfl) (by rfl) (by decide) (by decide) (by first | exact (rec_ok (by with_reducible assumption) q_0 q_1).1 | (rw [g_2]; decide)) (by first | exact (rec_ok (by with_reducible assumption) q_0 q_1).2 | (rw [g_2]; decide)) (by decide) (by decide)) (va_cwS 4 hts gX3_record_X3_moves rfl rfl rfl (by decide +kernel) ⟨Nat.le_of_ble_eq_true rfl, Nat.le_of_ble_eq_true rfl⟩) hK hP hD hN rfl hl.1 rfl (Nat.le_of_ble_eq_true rfl) dX3_record_65) (fun H locs hP hD hS => ?_)
    refine lv_aload_n hx hb dX3_record_68 rfl (lv_at hl 0 rfl) ?_
    refine lv_dup hx hb dX3_record_69 rfl ?_
    refine md_get (ci := 3) (C := RX3) (T := TX3) (N := 13) (v := .int ((pX3_moves 0 0 2 ((x.1 0) * 109) x).1 0)) hx hb hts hin hown hK hP rfl 3 (by decide) k_28 rfl rfl rfl dX3_record_70 ?_
    refine lv_iconst (v := 1) hx hb dX3_record_73 (by decide) ?_
    refine lv_iadd hx hb dX3_record_74 ?_
    refine md_put (ci := 3) (C := RX3) (T := TX3) (N := 13) hx hb hts hin tyX3 tyX3_ok nmX3 hown hK hP hD hS rfl 3 (by decide) k_28 rfl rfl (q := 0) rfl (fu (by decide)) rfl rfl dX3_record_75 (fun H locs hP hD hS => ?_)
    exact rt_s hx hb hr hlocks hP hD hS ((show pX3_record x = (pS (pX3_moves 0 0 2 ((x.1 0) * 109) x) 0 (((pX3_moves 0 0 2 ((x.1 0) * 109) x).1 0) + 1)) by rw [pX3_record, if_neg c_1]).symm.trans hres |>.symm) dX3_record_78
  · refine lv_iconst (v := 0) hx hb dX3_record_9 (by decide) ?_
    refine lv_istore_n (lv' := [(1, .int 0), (0, .ref (h 0))]) hx hb dX3_record_10 rfl hl (by decide) rfl (fun ls hl => ?_)
    exact lp_11 546 0 x (by decide) (by decide) (by assumption) (by decide) ((show pX3_record x = pX3_record_L11 546 0 x by rw [pX3_record, if_pos c_1]).symm.trans hres) _ _ _ hP hD hS (lv_sub hl [1, 0] rfl)
theorem record_L : ∀ (n : Nat) (v1 : Int32) (x : SR) (k : Nat), k ≠ 2 → (pX3_record_L11 n v1 x).2 k = x.2 k := by
  intro n
  induction n with
  | zero => intro v1 x k hk; rw [pX3_record_L11]
  | succ n ih =>
    intro v1 x k hk
    rw [pX3_record_L11]
    by_cases h : 545 ≤ v1
    · rw [if_pos h, pS_2, moves_o _ _ _ hk, pS_2]
    · rw [if_neg h, ih _ _ _ hk]
      exact up_ne _ _ hk
theorem record_o (x : SR) {k : Nat} (hk : k ≠ 2) : (pX3_record x).2 k = x.2 k := by
  rw [pX3_record]
  by_cases h : (x.1 0) = 6
  · rw [if_pos h]
    exact record_L _ _ _ _ hk
  · rw [if_neg h, pS_2, moves_o _ _ _ hk]
