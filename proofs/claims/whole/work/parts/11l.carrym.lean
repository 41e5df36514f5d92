theorem record_L1 : ∀ (n : Nat) (v1 : Int32) (x : SR) (q : Nat), q ≠ 0 → (pX3_record_L11 n v1 x).1 q = x.1 q := by
  intro n
  induction n with
  | zero => intro v1 x q hq; rw [pX3_record_L11]
  | succ n ih =>
    intro v1 x q hq
    rw [pX3_record_L11]
    by_cases h : 545 ≤ v1
    · rw [if_pos h, pS_ne _ _ hq, moves_s, pS_ne _ _ hq]
    · rw [if_neg h, ih _ _ _ hq]
      rfl
theorem record_1 (x : SR) {q : Nat} (hq : q ≠ 0) : (pX3_record x).1 q = x.1 q := by
  rw [pX3_record]
  by_cases h : (x.1 0) = 6
  · rw [if_pos h]
    exact record_L1 _ _ _ _ hq
  · rw [if_neg h, pS_ne _ _ hq, moves_s]
theorem Mf_KP {x y : SR} (k : KP x y) (h : Mf (x.2 0)) : Mf (y.2 0) := ⟨MI.of k h.1, by rw [k.2.2.2.2]; exact h.2⟩
theorem pianoComes_K {a1 a2 : Int32} {x : SR} (hp : vp_in a1 12) : KP x (pX3_pianoComes a1 a2 x) := by
  rw [pX3_pianoComes]
  exact (((((setPiano_K hp (li_in (by decide))).tr (setPiano_K hp (li_in (by decide)))).tr (setPiano_K hp (li_in (by decide)))).tr (setPiano_K hp (li_in (by decide)))).tr (setPiano_K hp (li_in (by decide)))).tr (setPiano_K hp (li_in (by decide)))
theorem keeperComes_E {a1 : Int32} {x : SR} (hm : Mf (x.2 0)) (h4 : ¬ x.2 0 (ix 11) = 4) : (∀ k, k ≠ 0 → (pX3_keeperComes a1 x).2.2 k = x.2 k) ∧ (pX3_keeperComes a1 x).2.1 = x.1 ∧ Mf ((pX3_keeperComes a1 x).2.2 0) := by
  have h0 := hm.1.2.2.1
  have h5 := hm.2
  have hn : Int32.toInt (x.2 0 (ix 11)) ≠ 4 := fun e => h4 (Int32.toInt_inj.mp (by rw [e]; rfl))
  have hv : vp_in (x.2 0 (ix 11)) 5 := vp_in_iff.mpr ⟨by omega, by omega⟩
  have e0 : pX3_keeperComes a1 x = pX3_keeperComes_L10 a1 6 (x.2 0 (ix 11)) 0 x := by rw [pX3_keeperComes]
  rw [e0]
  obtain ⟨e1, e2, ⟨e3, e4⟩, e5⟩ := keeperComes_L a1 6 (x.2 0 (ix 11)) 0 x hv (by decide)
  refine ⟨e1, e2, ?_⟩
  have a := i_add1 (a := x.2 0 (ix 11)) (by omega) (by omega)
  unfold Mf MIa
  rw [e3, e4]
  have w0 := hm.1.1
  have w6 := hm.1.2.1
  rcases e5 with e5 | e5 <;> rw [e5] <;> omega
theorem doesOrder_E {x : SR} (hw : pX3_whyNotDone x = 0) (hm : Mf (x.2 0)) : (∀ k, k ≠ 0 → (pX3_doesOrder x).2 k = x.2 k) ∧ (∀ q, q ≠ 2 → (pX3_doesOrder x).1 q = x.1 q) ∧ Mf ((pX3_doesOrder x).2 0) := by
  have key : ∀ y, KP x y → (∀ k, k ≠ 0 → y.2 k = x.2 k) ∧ (∀ q, q ≠ 2 → y.1 q = x.1 q) ∧ Mf (y.2 0) := fun y k => ⟨k.1, k.2.1, Mf_KP k hm⟩
  rw [pX3_doesOrder]
  by_cases h1 : x.1 4 = 99
  · rw [if_pos h1]
    exact key _ (setPiano_K (wd_c hw h1) (li_in (by decide)))
  · rw [if_neg h1]
    by_cases h2 : x.1 4 = 107
    · rw [if_pos h2]
      rw [pX3_whyNotDone, if_neg h1, if_pos h2, pX3_whyNoKeeper] at hw
      by_cases h3 : pX3_isPlace (x.1 5) = 0
      · rw [if_pos h3] at hw
        exact absurd hw (by decide)
      · rw [if_neg h3] at hw
        by_cases h4 : x.2 0 (ix 11) = 4
        · rw [if_pos h4] at hw
          exact absurd hw (by decide)
        · have k := keeperComes_E (a1 := x.1 5) hm h4
          exact ⟨k.1, fun q _ => by rw [k.2.1], k.2.2⟩
    · rw [if_neg h2]
      by_cases h3 : x.1 4 = 112
      · rw [if_pos h3]
        by_cases h4 : x.1 6 = 0
        · rw [if_pos h4]
          exact key _ (pianoComes_K (wd_p hw h3))
        · rw [if_neg h4]
          exact key _ (pianoComes_K (wd_p hw h3))
      · rw [if_neg h3]
        by_cases h4 : x.1 4 = 116
        · rw [if_pos h4]
          exact key _ (passes_K hm.1)
        · rw [if_neg h4]
          exact key _ (KP_R (by decide))
def iN (x : SR) : SR := (pX3_isNext 59 (pX3_readsOrder x).2).2
theorem co_n {x : SR} (h : PA x) (hm : Mf (x.2 0)) (hl : Int32.toInt (x.1 3) ≤ 80) : PA (iN x) ∧ Mf ((iN x).2 0) := by
  have k := readsOrder_P h hl
  refine ⟨(isNext_P (by decide) k.1).1, ?_⟩
  unfold iN
  rw [(F_isNext _ _).1, (F_readsOrder x).1]
  exact hm
theorem co_d {y : SR} (h : PA y ∧ Mf (y.2 0)) (hw : pX3_whyNotDone y = 0) : PA (pX3_doesOrder y) ∧ Mf ((pX3_doesOrder y).2 0) ∧ EQ y (pX3_doesOrder y) := by
  have k := doesOrder_E hw h.2
  have e1 := k.2.1 1 (by decide)
  have e3 := k.2.1 3 (by decide)
  refine ⟨?_, k.2.2, ⟨e1.symm, e3.symm, (k.1 5 (by decide)).symm⟩⟩
  unfold PA
  rw [e1, e3]
  exact h.1
theorem co_step {x : SR} {k : Nat} (h : PA x) (hl : Int32.toInt (x.1 3) ≤ 80) (hk : (pX3_findFault_L5 k x).1 = -6) : ∃ k', k = k' + 1 ∧ ((pX3_findFault_L5 k' (iN x)).1 = -6 ∨ (iN x).1 1 ≤ (iN x).1 3) := by
  cases k with
  | zero => rw [pX3_findFault_L5] at hk; exact absurd (show (0 : Int32) = -6 from hk) (by decide)
  | succ k =>
    refine ⟨k, rfl, ?_⟩
    have r := readsOrder_P h hl
    have i := isNext_P (c := 59) (by decide) r.1
    have neg : ∀ v : Int32, 0 ≤ Int32.toInt v → ¬ v = -6 := fun v hv e => by
      rw [e] at hv
      exact absurd hv (by decide)
    rw [pX3_findFault_L5] at hk
    by_cases d1 : (pX3_readsOrder x).1 = 0
    · rw [if_pos d1] at hk
      exact absurd hk (neg _ r.1.1)
    · rw [if_neg d1] at hk
      by_cases d2 : (pX3_readsOrder x).2.1 3 = (pX3_readsOrder x).2.1 1
      · right
        have hc : pX3_character ((pX3_readsOrder x).2.1 3) (pX3_readsOrder x).2 = -1 := by
          rw [pX3_character, d2, if_pos (Int32.le_refl _)]
        unfold iN
        rw [pX3_isNext, hc, if_neg (by decide)]
        show (pS _ 3 _).1 1 ≤ (pS _ 3 _).1 3
        rw [pS_at, pS_ne _ _ (show (1 : Nat) ≠ 3 by decide), Int32.add_zero, d2]
        exact Int32.le_refl _
      · rw [if_neg d2] at hk
        by_cases d3 : (pX3_isNext 59 (pX3_readsOrder x).2).1 = 0
        · rw [if_pos d3] at hk
          exact absurd hk (neg _ i.1.1)
        · rw [if_neg d3] at hk
          exact Or.inl hk
theorem co_3a {x : SR} {v2 : Int32} {n : Nat} (h : PA x) (hl : Int32.toInt (x.1 3) ≤ 80) (g : ∃ k : Nat, k < n + 1 ∧ (v2 = 0 ∨ (pX3_findFault_L5 k x).1 = -6 ∨ x.1 1 ≤ x.1 3)) (hv : ¬ v2 = 0) (ha : ¬ x.1 1 ≤ x.1 3) : ∃ k : Nat, k < n ∧ ((pX3_findFault_L5 k (iN x)).1 = -6 ∨ (iN x).1 1 ≤ (iN x).1 3) := by
  obtain ⟨k, hk, g⟩ := g
  have g2 := (g.resolve_left hv).resolve_right ha
  obtain ⟨k', e, s⟩ := co_step h hl g2
  exact ⟨k', by omega, s⟩
theorem co_3b {y : SR} {n : Nat} (h : PA y ∧ Mf (y.2 0)) (hw : pX3_whyNotDone y = 0) (g : ∃ k : Nat, k < n ∧ ((pX3_findFault_L5 k y).1 = -6 ∨ y.1 1 ≤ y.1 3)) : ∃ k : Nat, k < n ∧ ((1 : Int32) = 0 ∨ (pX3_findFault_L5 k (pX3_doesOrder y)).1 = -6 ∨ (pX3_doesOrder y).1 1 ≤ (pX3_doesOrder y).1 3) := by
  obtain ⟨k, hk, g⟩ := g
  have e := (co_d h hw).2.2
  refine ⟨k, hk, Or.inr ?_⟩
  rw [← E_L5 k _ _ e, ← e.1, ← e.2.1]
  exact g
theorem co_3c {y : SR} {n : Nat} (g : ∃ k : Nat, k < n ∧ ((pX3_findFault_L5 k y).1 = -6 ∨ y.1 1 ≤ y.1 3)) : ∃ k : Nat, k < n ∧ ((0 : Int32) = 0 ∨ (pX3_findFault_L5 k y).1 = -6 ∨ y.1 1 ≤ y.1 3) := by
  obtain ⟨k, hk, g⟩ := g
  exact ⟨k, hk, Or.inl rfl⟩
theorem co_0 {x : SR} (h : PA x) (hm : Mf (x.2 0)) (hf : (pX3_findFault x).1 = -6) : PA (pS (pX3_record (pX3_findFault x).2) 3 0) ∧ Mf ((pS (pX3_record (pX3_findFault x).2) 3 0).2 0) ∧ ∃ k : Nat, k < 83 ∧ ((1 : Int32) = 0 ∨ (pX3_findFault_L5 k (pS (pX3_record (pX3_findFault x).2) 3 0)).1 = -6 ∨ (pS (pX3_record (pX3_findFault x).2) 3 0).1 1 ≤ (pS (pX3_record (pX3_findFault x).2) 3 0).1 3) := by
  have f := F_findFault x
  have e1 : (pS (pX3_record (pX3_findFault x).2) 3 0).1 1 = x.1 1 := by
    rw [pS_ne _ _ (show (1 : Nat) ≠ 3 by decide), record_1 _ (by decide), f.2 1 (by decide)]
  have e3 : (pS (pX3_record (pX3_findFault x).2) 3 0).1 3 = 0 := pS_at _ _ _
  have e5 : (pS (pX3_record (pX3_findFault x).2) 3 0).2 5 = x.2 5 := by
    rw [pS_2, record_o _ (by decide), f.1]
  refine ⟨?_, ?_, 82, by decide, Or.inr (Or.inl ?_)⟩
  · unfold PA
    rw [e1, e3]
    exact ⟨by decide, by decide, h.2.2⟩
  · rw [pS_2, record_o _ (by decide), f.1]
    exact hm
  · rw [pX3_findFault] at hf
    rw [← E_L5 82 (pS x 3 0) _ ⟨by rw [e1, pS_ne _ _ (show (1 : Nat) ≠ 3 by decide)], by rw [e3, pS_at], by rw [e5, pS_2]⟩]
    exact hf
def pX3_carryOut_L25 : Nat → Int32 → Int32 → SR → Int32 × SR
  | 0, v1, v2, x => (0, x)
  | n + 1, v1, v2, x => if v2 = 0 then (v1, (pS x 1 0))
    else if (x.1 1) ≤ (x.1 3) then (v1, (pS x 1 0))
      else if (pX3_whyNotDone (pX3_isNext 59 (pX3_readsOrder x).2).2) = 0 then pX3_carryOut_L25 n (v1 + 1) 1 (pX3_doesOrder (pX3_isNext 59 (pX3_readsOrder x).2).2)
        else pX3_carryOut_L25 n v1 0 (pX3_isNext 59 (pX3_readsOrder x).2).2
def pX3_carryOut (x : SR) : Int32 × SR := if ((pX3_findFault x).1) = (-6) then pX3_carryOut_L25 83 0 1 (pS (pX3_record (pX3_findFault x).2) 3 0)
  else (((-3) : Int32), (pX3_findFault x).2)
set_option maxHeartbeats 1000000 in
set_option maxRecDepth 100000 in
theorem ctX3_carryOut (l : Launch) (G : va_G) (cI cC cZ cR : ClassId) (h : Ad) (x : SR) (q_0 : PA x) (q_1 : 0 ≤ Int32.toInt (x.1 0)) (q_2 : Int32.toInt (x.1 0) ≤ 6) (q_3 : Mf (x.2 0)) : Ct l yX3_carryOut wsX3_carryOut (rmz 11 243) G (TY cI cC cZ cR) [.ref (h 0)] (wMo cI h x) (Qi G (wMo cI h x) (pX3_carryOut x).1 (wMo cI h (pX3_carryOut x).2)) := by
  refine Ct.ofI (cc := cX3_carryOut) (maxL := 3) (ret := (some .int)) (by decide) rfl rfl ?_
  intro p e s m below meth c A ls E0 hP hD hS hl
  obtain ⟨hx, hb, hr, hml, hlocks, hts, hown, hK, hN, hA⟩ := E0
  have hl : lv_has ls 3 [(0, .ref (h 0))] := hl
  have hin : ∀ w ∈ wsX30, w ∈ wsX3_carryOut := fun w hw => List.mem_cons_of_mem _ (List.mem_append_right _ (hw))
  have k_161 : (Cond.fieldLink RX3 161 RX3 (TX3 9).2.1 (TX3 9).2.2.1).before ([.ref (h 0)] : List Value).toArray s = true := hts _ (List.mem_of_getElem? (i := 1) rfl)
  have k_153 : (Cond.fieldLink RX3 153 RX3 (TX3 7).2.1 (TX3 7).2.2.1).before ([.ref (h 0)] : List Value).toArray s = true := hts _ (List.mem_of_getElem? (i := 2) rfl)
  generalize hres : pX3_carryOut x = res
  have lp_25 : ∀ (n : Nat) (v1 : Int32) (v2 : Int32) (x : SR), PA x → Mf (x.2 0) → (∃ k : Nat, k < n ∧ (v2 = 0 ∨ (pX3_findFault_L5 k x).1 = -6 ∨ x.1 1 ≤ x.1 3)) → (-1 : Int) < (n : Int) → pX3_carryOut_L25 n v1 v2 x = res → ∀ (H : Heap) (locs : List Loc) (ls : Array Slot), va_P G vwCl (wMo cI h x) H → va_D A (wMo cI h x) → va_S A s.heap H locs → lv_has ls 3 [(0, .ref (h 0)), (1, .int v1), (2, .int v2)] → W p l e (rmz 11 243) s m ([.ref (h 0)] : List Value).toArray below meth c H locs 0 0 (MQ below (QiA G A res.1 (wMo cI h res.2)) ([.ref (h 0)] : List Value).toArray s 0 0 A) (F0 m 25 ls []) := by
    intro n
    induction n with
    | zero =>
      intro v1 v2 x g_0 g_1 g_2 hm
      obtain ⟨k, hk, -⟩ := g_2; exfalso; omega
    | succ n ih =>
      intro v1 v2 x g_0 g_1 g_2 hm hq H locs ls hP hD hS hl
      refine lv_iload_n hx hb dX3_carryOut_25 rfl (lv_at hl 2 rfl) ?_
      refine lv_if_eq (tgt := 79) hx hb dX3_carryOut_26 (by decide) (fun c_2 => ?_) (fun c_2 => ?_)
      · refine lv_aload_n hx hb dX3_carryOut_79 rfl (lv_at hl 0 rfl) ?_
        refine lv_iconst (v := 0) hx hb dX3_carryOut_80 (by decide) ?_
        refine md_put (ci := 3) (C := RX3) (T := TX3) (N := 13) hx hb hts hin tyX3 tyX3_ok nmX3 hown hK hP hD hS rfl 7 (by decide) k_153 rfl rfl (q := 1) rfl (fu (by decide)) rfl rfl dX3_carryOut_81 (fun H locs hP hD hS => ?_)
        refine lv_iload_n hx hb dX3_carryOut_84 rfl (lv_at hl 1 rfl) ?_
        exact rt_b hx hb hr hlocks hP hD hS rfl ((show pX3_carryOut_L25 (n + 1) v1 v2 x = (v1, (pS x 1 0)) by rw [pX3_carryOut_L25, if_pos c_2]).symm.trans hq |>.symm) dX3_carryOut_85
      · refine lv_aload_n hx hb dX3_carryOut_29 rfl (lv_at hl 0 rfl) ?_
        refine md_get (ci := 3) (C := RX3) (T := TX3) (N := 13) (v := .int (x.1 3)) hx hb hts hin hown hK hP rfl 9 (by decide) k_161 rfl rfl rfl dX3_carryOut_30 ?_
        refine lv_aload_n hx hb dX3_carryOut_33 rfl (lv_at hl 0 rfl) ?_
        refine md_get (ci := 3) (C := RX3) (T := TX3) (N := 13) (v := .int (x.1 1)) hx hb hts hin hown hK hP rfl 7 (by decide) k_153 rfl rfl rfl dX3_carryOut_34 ?_
        refine lv_icmp_ge (tgt := 79) hx hb dX3_carryOut_37 (by decide) (fun c_3 => ?_) (fun c_3 => ?_)
        · have t_3 := i_le (z := (Int32.toInt (x.1 1))) (w := (Int32.toInt (x.1 3))) c_3 rfl rfl
          refine lv_aload_n hx hb dX3_carryOut_79 rfl (lv_at hl 0 rfl) ?_
          refine lv_iconst (v := 0) hx hb dX3_carryOut_80 (by decide) ?_
          refine md_put (ci := 3) (C := RX3) (T := TX3) (N := 13) hx hb hts hin tyX3 tyX3_ok nmX3 hown hK hP hD hS rfl 7 (by decide) k_153 rfl rfl (q := 1) rfl (fu (by decide)) rfl rfl dX3_carryOut_81 (fun H locs hP hD hS => ?_)
          refine lv_iload_n hx hb dX3_carryOut_84 rfl (lv_at hl 1 rfl) ?_
          exact rt_b hx hb hr hlocks hP hD hS rfl ((show pX3_carryOut_L25 (n + 1) v1 v2 x = (v1, (pS x 1 0)) by rw [pX3_carryOut_L25, if_neg c_2, if_pos c_3]).symm.trans hq |>.symm) dX3_carryOut_85
        · have t_3 := i_nle (z := (Int32.toInt (x.1 1))) (w := (Int32.toInt (x.1 3))) c_3 rfl rfl
          refine lv_aload_n hx hb dX3_carryOut_40 rfl (lv_at hl 0 rfl) ?_
          refine go_i hD hS hA (rn_V (As := []) (rest := []) ⟨hx, hb, hml, hown, hts⟩ (ctX3_readsOrder l G cI cC cZ cR h x (by exact g_0) (by have := g_0.2.2; omega)) (cwV 0 hts gX3_carryOut_X3_readsOrder rfl rfl rfl (by decide +kernel) ⟨Nat.le_of_ble_eq_true rfl, Nat.le_of_ble_eq_true rfl⟩) (md_recv hK hP rfl) hK hP hD hN rfl hl.1 rfl (Nat.le_of_ble_eq_true rfl) dX3_carryOut_41) (fun H locs hP hD hS => ?_)
          refine lv_pop hx hb dX3_carryOut_44 rfl ?_
          refine lv_aload_n hx hb dX3_carryOut_45 rfl (lv_at hl 0 rfl) ?_
          refine lv_bipush (v := 59) hx hb dX3_carryOut_46 (by decide) ?_
          refine go_i hD hS hA (rn_V (As := [.int 59]) (rest := []) ⟨hx, hb, hml, hown, hts⟩ (ctX3_isNext l G cI cC cZ cR h (pX3_readsOrder x).2 59 (by exact (readsOrder_P g_0 (by have := g_0.2.2; omega)).1)) (cwV 1 hts gX3_carryOut_X3_isNext rfl rfl rfl (by decide +kernel) ⟨Nat.le_of_ble_eq_true rfl, Nat.le_of_ble_eq_true rfl⟩) (md_recv hK hP rfl) hK hP hD hN rfl hl.1 rfl (Nat.le_of_ble_eq_true rfl) dX3_carryOut_48) (fun H locs hP hD hS => ?_)
          refine lv_pop hx hb dX3_carryOut_51 rfl ?_
          have c_l : Int32.toInt (x.1 3) ≤ 80 := by have := g_0.2.2; omega
          have c_n : PA (pX3_isNext 59 (pX3_readsOrder x).2).2 ∧ Mf ((pX3_isNext 59 (pX3_readsOrder x).2).2.2 0) := co_n g_0 g_1 c_l
          have c_g : ∃ k : Nat, k < n ∧ ((pX3_findFault_L5 k (pX3_isNext 59 (pX3_readsOrder x).2).2).1 = -6 ∨ (pX3_isNext 59 (pX3_readsOrder x).2).2.1 1 ≤ (pX3_isNext 59 (pX3_readsOrder x).2).2.1 3) := co_3a g_0 c_l g_2 (by with_reducible assumption) (by with_reducible assumption)
          refine lv_aload_n hx hb dX3_carryOut_52 rfl (lv_at hl 0 rfl) ?_
          refine go_i hD hS hA (rn_V (As := []) (rest := []) ⟨hx, hb, hml, hown, hts⟩ (ctX3_whyNotDone l G cI cC cZ cR h (pX3_isNext 59 (pX3_readsOrder x).2).2) (cwV 0 hts gX3_carryOut_X3_whyNotDone rfl rfl rfl (by decide +kernel) ⟨Nat.le_of_ble_eq_true rfl, Nat.le_of_ble_eq_true rfl⟩) (md_recv hK hP rfl) hK hP hD hN rfl hl.1 rfl (Nat.le_of_ble_eq_true rfl) dX3_carryOut_53) (fun H locs hP hD hS => ?_)
          refine lv_if_ne (tgt := 63) hx hb dX3_carryOut_56 (by decide) (fun c_4 => ?_) (fun c_4 => ?_)
          · refine lv_iconst (v := 0) hx hb dX3_carryOut_63 (by decide) ?_
            refine lv_istore_n (lv' := [(2, .int 0), (0, .ref (h 0)), (1, .int v1)]) hx hb dX3_carryOut_64 rfl hl (by decide) rfl (fun ls hl => ?_)
            refine lv_iload_n hx hb dX3_carryOut_65 rfl (lv_at hl 0 rfl) ?_
            refine lv_if_eq (tgt := 25) hx hb dX3_carryOut_66 (by decide) (fun cz => ?_) (fun cz => absurd cz (by decide))
            exact ih v1 0 (pX3_isNext 59 (pX3_readsOrder x).2).2 (by first | with_reducible exact c_n.1 | exact (co_d c_n c_w).1) (by first | with_reducible exact c_n.2 | exact (co_d c_n c_w).2.1) (by first | with_reducible exact co_3c c_g | exact co_3b c_n c_w c_g) (by omega) ((show pX3_carryOut_L25 (n + 1) v1 v2 x = pX3_carryOut_L25 n v1 0 (pX3_isNext 59 (pX3_readsOrder x).2).2 by rw [pX3_carryOut_L25, if_neg c_2, if_neg c_3, if_neg c_4]).symm.trans hq) _ _ _ hP hD hS (lv_sub hl [1, 2, 0] rfl)
          · have c_w : pX3_whyNotDone (pX3_isNext 59 (pX3_readsOrder x).2).2 = 0 := by with_reducible assumption
            refine lv_iconst (v := 1) hx hb dX3_carryOut_59 (by decide) ?_
            refine lv_goto (tgt := 64) hx hb dX3_carryOut_60 (by decide) ?_
            refine lv_istore_n (lv' := [(2, .int 1), (0, .ref (h 0)), (1, .int v1)]) hx hb dX3_carryOut_64 rfl hl (by decide) rfl (fun ls hl => ?_)
            refine lv_iload_n hx hb dX3_carryOut_65 rfl (lv_at hl 0 rfl) ?_
            refine lv_if_eq (tgt := 25) hx hb dX3_carryOut_66 (by decide) (fun cz => absurd cz (by decide)) (fun cz => ?_)
            refine lv_aload_n hx hb dX3_carryOut_69 rfl (lv_at hl 1 rfl) ?_
            refine go_v hD hS hA (rn_V (As := []) (rest := []) ⟨hx, hb, hml, hown, hts⟩ (ctX3_doesOrder l G cI cC cZ cR h (pX3_isNext 59 (pX3_readsOrder x).2).2 (by exact c_w) (by exact c_n.2)) (cwV 0 hts gX3_carryOut_X3_doesOrder rfl rfl rfl (by decide +kernel) ⟨Nat.le_of_ble_eq_true rfl, Nat.le_of_ble_eq_true rfl⟩) (md_recv hK hP rfl) hK hP hD hN rfl hl.1 rfl (Nat.le_of_ble_eq_true rfl) dX3_carryOut_70) (fun H locs hP hD hS => ?_)
            refine lv_iinc (v := (v1 + 1)) (lv' := [(1, .int (v1 + 1)), (2, .int 1), (0, .ref (h 0))]) hx hb dX3_carryOut_73 hl (k := 2) rfl rfl (by decide) rfl (fun ls hl => ?_)
            refine lv_goto (tgt := 25) hx hb dX3_carryOut_76 (by decide) ?_
            exact ih (v1 + 1) 1 (pX3_doesOrder (pX3_isNext 59 (pX3_readsOrder x).2).2) (by first | with_reducible exact c_n.1 | exact (co_d c_n c_w).1) (by first | with_reducible exact c_n.2 | exact (co_d c_n c_w).2.1) (by first | with_reducible exact co_3c c_g | exact co_3b c_n c_w c_g) (by omega) ((show pX3_carryOut_L25 (n + 1) v1 v2 x = pX3_carryOut_L25 n (v1 + 1) 1 (pX3_doesOrder (pX3_isNext 59 (pX3_readsOrder x).2).2) by rw [pX3_carryOut_L25, if_neg c_2, if_neg c_3, if_pos c_4]).symm.trans hq) _ _ _ hP hD hS (lv_sub hl [2, 0, 1] rfl)
  refine lv_aload_n hx hb dX3_carryOut_0 rfl (lv_at hl 0 rfl) ?_
  refine go_i hD hS hA (rn_V (As := []) (rest := []) ⟨hx, hb, hml, hown, hts⟩ (ctX3_findFault l G cI cC cZ cR h x (by exact q_0)) (cwV 0 hts gX3_carryOut_X3_findFault rfl rfl rfl (by decide +kernel) ⟨Nat.le_of_ble_eq_true rfl, Nat.le_of_ble_eq_true rfl⟩) (md_recv hK hP rfl) hK hP hD hN rfl hl.1 rfl (Nat.le_of_ble_eq_true rfl) dX3_carryOut_1) (fun H locs hP hD hS => ?_)
  refine lv_bipush (v := (-6)) hx hb dX3_carryOut_4 (by decide) ?_
  refine lv_icmp_eq (tgt := 12) hx hb dX3_carryOut_6 (by decide) (fun c_1 => ?_) (fun c_1 => ?_)
  · refine lv_aload_n hx hb dX3_carryOut_12 rfl (lv_at hl 0 rfl) ?_
    refine go_v hD hS hA (rn_V (As := []) (rest := []) ⟨hx, hb, hml, hown, hts⟩ (ctX3_record l G cI cC cZ cR h (pX3_findFault x).2 (by rw [(F_findFault x).2 0 (by decide)]; exact q_1) (by rw [(F_findFault x).2 0 (by decide)]; exact q_2)) (cwV 0 hts gX3_carryOut_X3_record rfl rfl rfl (by decide +kernel) ⟨Nat.le_of_ble_eq_true rfl, Nat.le_of_ble_eq_true rfl⟩) (md_recv hK hP rfl) hK hP hD hN rfl hl.1 rfl (Nat.le_of_ble_eq_true rfl) dX3_carryOut_13) (fun H locs hP hD hS => ?_)
    refine lv_iconst (v := 0) hx hb dX3_carryOut_16 (by decide) ?_
    refine lv_istore_n (lv' := [(1, .int 0), (0, .ref (h 0))]) hx hb dX3_carryOut_17 rfl hl (by decide) rfl (fun ls hl => ?_)
    refine lv_aload_n hx hb dX3_carryOut_18 rfl (lv_at hl 1 rfl) ?_
    refine lv_iconst (v := 0) hx hb dX3_carryOut_19 (by decide) ?_
    refine md_put (ci := 3) (C := RX3) (T := TX3) (N := 13) hx hb hts hin tyX3 tyX3_ok nmX3 hown hK hP hD hS rfl 9 (by decide) k_161 rfl rfl (q := 3) rfl (fu (by decide)) rfl rfl dX3_carryOut_20 (fun H locs hP hD hS => ?_)
    refine lv_iconst (v := 1) hx hb dX3_carryOut_23 (by decide) ?_
    refine lv_istore_n (lv' := [(2, .int 1), (1, .int 0), (0, .ref (h 0))]) hx hb dX3_carryOut_24 rfl hl (by decide) rfl (fun ls hl => ?_)
    exact lp_25 83 0 1 (pS (pX3_record (pX3_findFault x).2) 3 0) (by exact (co_0 q_0 q_3 (by with_reducible assumption)).1) (by exact (co_0 q_0 q_3 (by with_reducible assumption)).2.1) (by exact (co_0 q_0 q_3 (by with_reducible assumption)).2.2) (by decide) ((show pX3_carryOut x = pX3_carryOut_L25 83 0 1 (pS (pX3_record (pX3_findFault x).2) 3 0) by rw [pX3_carryOut, if_pos c_1]).symm.trans hres) _ _ _ hP hD hS (lv_sub hl [2, 1, 0] rfl)
  · refine lv_bipush (v := (-3)) hx hb dX3_carryOut_9 (by decide) ?_
    exact rt_b hx hb hr hlocks hP hD hS rfl ((show pX3_carryOut x = (((-3) : Int32), (pX3_findFault x).2) by rw [pX3_carryOut, if_neg c_1]).symm.trans hres |>.symm) dX3_carryOut_11
