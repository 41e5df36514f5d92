-- the law's loop
set_option maxHeartbeats 4000000 in
set_option maxRecDepth 100000 in
theorem law_loop {p : Program} {l : Launch} {e : Env} {s : State} {m : MethodId} {below : List Frame} {meth : Method} {c : Code} {b L : Nat} {xs : Nat → Int32} {G : va_G} {cI cC cZ cR : ClassId} {ho : Nat → Nat} {hp h : Ad} (C0 : LX p s m meth c b L xs G cI cC cZ cR) : ∀ (n i : Nat) (hh : Nat → Ad) (t : TV) (y : SR), RT t y → i ≤ L → L - i < n → ∀ (H : Heap) (locs : List Loc) (ls : Array Slot), va_P G vwCl (wX cI cC cZ cR ho hh hp t ++ wMo cI h y) H → va_D (AL s) (wX cI cC cZ cR ho hh hp t ++ wMo cI h y) → va_S (AL s) s.heap H locs → lv_has ls 4 [(0, .ref b), (1, .ref (ho 0)), (2, .ref (h 0)), (3, .int (nI i))] → W p l e room_1 s m #[Value.ref b] below meth c H locs 134 2369 (lw_Z below #[Value.ref b] s) (F0 m 18 ls []) := by
  obtain ⟨hx, hb, hr, hml, hown, hts, hX, hbl, hlocks, hK, hN, hST, hO, hL⟩ := id C0
  have hA : ∀ q : Nat, s.heap.size ≤ q → AL s q := fun _ z => z
  have hbA : ¬ AL s b := Nat.not_le.mpr hbl
  intro n
  induction n with
  | zero => intro i hh t y hR h1 h2; omega
  | succ n ih =>
    intro i hh t y hR h1 h2 H locs ls hP hD hS hl
    have e3 : (nI L - 3).toInt = (L : Int) - 3 := by
      rw [t_sub (by rw [nI_toInt (by omega), show Int32.toInt 3 = 3 from rfl]; omega), nI_toInt (by omega), show Int32.toInt 3 = 3 from rfl]
    refine lv_iload_n hx hb dL_law_18 rfl (lv_at hl 3 rfl) ?_
    refine lv_aload_n hx hb dL_law_19 rfl (lv_at hl 0 rfl) ?_
    refine va_slen hx hb hX hbl hbA hS dL_law_20 ?_
    refine lv_iconst (v := 3) hx hb dL_law_21 (by decide) ?_
    refine lv_isub hx hb dL_law_22 ?_
    refine lv_icmp_gt (tgt := 695) hx hb dL_law_23 (by decide) (fun cz => ?_) (fun cz => ?_)
    · refine lv_iconst (v := 1) hx hb dL_law_695 (by decide) ?_
      refine va_forget hS.2.2 ?_
      refine W.widen (k := 600000) (n := 7302249) (Nat.le_of_ble_eq_true rfl) (Nat.le_of_ble_eq_true rfl) ?_
      exact lw_ret hx hb hr hlocks dL_law_696
    · have hi : i + 3 ≤ L := by
        have cz' : ¬ (nI L - 3) < nI i := cz
        rw [Int32.lt_iff_toInt_lt, e3, nI_toInt (by omega)] at cz'
        omega
      have hgo : GO p l e s m below meth c b G cI cC cZ cR ho hp h 134 2369 (lw_Z below #[Value.ref b] s) (nI i) := by
        intro hh t y hR H locs ls hP hD hS hl
        refine lv_iinc (v := nI i + 3) (lv' := [(3, .int (nI i + 3)), (0, .ref b), (1, .ref (ho 0)), (2, .ref (h 0))]) hx hb dL_law_689 hl (k := 3) rfl rfl (by decide) rfl (fun ls hl => ?_)
        refine lv_goto (tgt := 18) hx hb dL_law_692 (by decide) ?_
        exact ih (i + 3) hh t y hR hi (by omega) H locs ls hP hD hS (by rw [← nI_add i 3]; exact lv_sub hl [1, 2, 3, 0] rfl)
      have h_0 : vp_in (nI i) L := vp_in_nI (by omega) (by omega)
      refine lv_aload_n hx hb dL_law_26 rfl (lv_at hl 0 rfl) ?_
      refine lv_iload_n hx hb dL_law_27 rfl (lv_at hl 3 rfl) ?_
      refine va_sld hx hb hX hbl hbA hS h_0 dL_law_28 ?_
      refine lv_bipush (v := 31) hx hb dL_law_29 (by decide) ?_
      refine lv_iand hx hb dL_law_31 ?_
      generalize (xs (nI i).toNatClampNeg &&& 31) = X
      by_cases c_0 : X = 0
      · refine lv_tableIn (tgt := 140) hx hb dL_law_32 (by rw [c_0]; decide) (by rw [c_0]; decide) (by rw [c_0]; first | done | rfl) (by decide) ?_
        exact lk_set C0 (Nat.le_of_ble_eq_true rfl) (Nat.le_of_ble_eq_true rfl) hi hgo hR hP hD hS hl
      by_cases c_1 : X = 1
      · refine lv_tableIn (tgt := 173) hx hb dL_law_32 (by rw [c_1]; decide) (by rw [c_1]; decide) (by rw [c_1]; first | done | rfl) (by decide) ?_
        exact lk_rain C0 (Nat.le_of_ble_eq_true rfl) (Nat.le_of_ble_eq_true rfl) hi hgo hR hP hD hS hl
      by_cases c_2 : X = 2
      · refine lv_tableIn (tgt := 196) hx hb dL_law_32 (by rw [c_2]; decide) (by rw [c_2]; decide) (by rw [c_2]; first | done | rfl) (by decide) ?_
        exact lk_piano C0 (Nat.le_of_ble_eq_true rfl) (Nat.le_of_ble_eq_true rfl) hi hgo hR hP hD hS hl
      by_cases c_3 : X = 3
      · refine lv_tableIn (tgt := 229) hx hb dL_law_32 (by rw [c_3]; decide) (by rw [c_3]; decide) (by rw [c_3]; first | done | rfl) (by decide) ?_
        exact lk_take C0 (Nat.le_of_ble_eq_true rfl) (Nat.le_of_ble_eq_true rfl) hi hgo hR hP hD hS hl
      by_cases c_4 : X = 4
      · refine lv_tableIn (tgt := 252) hx hb dL_law_32 (by rw [c_4]; decide) (by rw [c_4]; decide) (by rw [c_4]; first | done | rfl) (by decide) ?_
        exact lk_keeper C0 (Nat.le_of_ble_eq_true rfl) (Nat.le_of_ble_eq_true rfl) hi hgo hR hP hD hS hl
      by_cases c_5 : X = 5
      · refine lv_tableIn (tgt := 275) hx hb dL_law_32 (by rw [c_5]; decide) (by rw [c_5]; decide) (by rw [c_5]; first | done | rfl) (by decide) ?_
        exact lk_cover C0 (Nat.le_of_ble_eq_true rfl) (Nat.le_of_ble_eq_true rfl) hi hgo hR hP hD hS hl
      by_cases c_6 : X = 6
      · refine lv_tableIn (tgt := 298) hx hb dL_law_32 (by rw [c_6]; decide) (by rw [c_6]; decide) (by rw [c_6]; first | done | rfl) (by decide) ?_
        exact lk_pass C0 (Nat.le_of_ble_eq_true rfl) (Nat.le_of_ble_eq_true rfl) hi hgo hR hP hD hS hl
      by_cases c_7 : X = 7
      · refine lv_tableIn (tgt := 321) hx hb dL_law_32 (by rw [c_7]; decide) (by rw [c_7]; decide) (by rw [c_7]; first | done | rfl) (by decide) ?_
        exact lk_of C0 (Nat.le_of_ble_eq_true rfl) (Nat.le_of_ble_eq_true rfl) hi hgo hR hP hD hS hl
      by_cases c_8 : X = 8
      · refine lv_tableIn (tgt := 354) hx hb dL_law_32 (by rw [c_8]; decide) (by rw [c_8]; decide) (by rw [c_8]; first | done | rfl) (by decide) ?_
        exact lk_ofKeeper C0 (Nat.le_of_ble_eq_true rfl) (Nat.le_of_ble_eq_true rfl) hi hgo hR hP hD hS hl
      by_cases c_9 : X = 9
      · refine lv_tableIn (tgt := 387) hx hb dL_law_32 (by rw [c_9]; decide) (by rw [c_9]; decide) (by rw [c_9]; first | done | rfl) (by decide) ?_
        exact lk_count C0 (Nat.le_of_ble_eq_true rfl) (Nat.le_of_ble_eq_true rfl) hi hgo hR hP hD hS hl
      by_cases c_10 : X = 10
      · refine lv_tableIn (tgt := 410) hx hb dL_law_32 (by rw [c_10]; decide) (by rw [c_10]; decide) (by rw [c_10]; first | done | rfl) (by decide) ?_
        exact lk_worst C0 (Nat.le_of_ble_eq_true rfl) (Nat.le_of_ble_eq_true rfl) hi hgo hR hP hD hS hl
      by_cases c_11 : X = 11
      · refine lv_tableIn (tgt := 423) hx hb dL_law_32 (by rw [c_11]; decide) (by rw [c_11]; decide) (by rw [c_11]; first | done | rfl) (by decide) ?_
        exact lk_why C0 (Nat.le_of_ble_eq_true rfl) (Nat.le_of_ble_eq_true rfl) hi hgo hR hP hD hS hl
      by_cases c_12 : X = 12
      · refine lv_tableIn (tgt := 446) hx hb dL_law_32 (by rw [c_12]; decide) (by rw [c_12]; decide) (by rw [c_12]; first | done | rfl) (by decide) ?_
        exact lk_rainIn C0 (Nat.le_of_ble_eq_true rfl) (Nat.le_of_ble_eq_true rfl) hi hgo hR hP hD hS hl
      by_cases c_13 : X = 13
      · refine lv_tableIn (tgt := 459) hx hb dL_law_32 (by rw [c_13]; decide) (by rw [c_13]; decide) (by rw [c_13]; first | done | rfl) (by decide) ?_
        exact lk_coveredIn C0 (Nat.le_of_ble_eq_true rfl) (Nat.le_of_ble_eq_true rfl) hi hgo hR hP hD hS hl
      by_cases c_14 : X = 14
      · refine lv_tableIn (tgt := 482) hx hb dL_law_32 (by rw [c_14]; decide) (by rw [c_14]; decide) (by rw [c_14]; first | done | rfl) (by decide) ?_
        exact lk_willBeWet C0 (Nat.le_of_ble_eq_true rfl) (Nat.le_of_ble_eq_true rfl) hi hgo hR hP hD hS hl
      by_cases c_15 : X = 15
      · refine lv_tableIn (tgt := 505) hx hb dL_law_32 (by rw [c_15]; decide) (by rw [c_15]; decide) (by rw [c_15]; first | done | rfl) (by decide) ?_
        exact lk_bestPlace C0 (Nat.le_of_ble_eq_true rfl) (Nat.le_of_ble_eq_true rfl) hi hgo hR hP hD hS hl
      by_cases c_16 : X = 16
      · refine lv_tableIn (tgt := 538) hx hb dL_law_32 (by rw [c_16]; decide) (by rw [c_16]; decide) (by rw [c_16]; first | done | rfl) (by decide) ?_
        exact lk_put C0 (Nat.le_of_ble_eq_true rfl) (Nat.le_of_ble_eq_true rfl) hi hgo hR hP hD hS hl
      by_cases c_17 : X = 17
      · refine lv_tableIn (tgt := 591) hx hb dL_law_32 (by rw [c_17]; decide) (by rw [c_17]; decide) (by rw [c_17]; first | done | rfl) (by decide) ?_
        exact lk_wipe C0 (Nat.le_of_ble_eq_true rfl) (Nat.le_of_ble_eq_true rfl) hi hgo hR hP hD hS hl
      by_cases c_18 : X = 18
      · refine lv_tableIn (tgt := 604) hx hb dL_law_32 (by rw [c_18]; decide) (by rw [c_18]; decide) (by rw [c_18]; first | done | rfl) (by decide) ?_
        exact lk_fault C0 (Nat.le_of_ble_eq_true rfl) (Nat.le_of_ble_eq_true rfl) hi hgo hR hP hD hS hl
      by_cases c_19 : X = 19
      · refine lv_tableIn (tgt := 617) hx hb dL_law_32 (by rw [c_19]; decide) (by rw [c_19]; decide) (by rw [c_19]; first | done | rfl) (by decide) ?_
        exact lk_carryOut C0 (Nat.le_of_ble_eq_true rfl) (Nat.le_of_ble_eq_true rfl) hi hgo hR hP hD hS hl
      by_cases c_20 : X = 20
      · refine lv_tableIn (tgt := 630) hx hb dL_law_32 (by rw [c_20]; decide) (by rw [c_20]; decide) (by rw [c_20]; first | done | rfl) (by decide) ?_
        exact lk_undo C0 (Nat.le_of_ble_eq_true rfl) (Nat.le_of_ble_eq_true rfl) hi hgo hR hP hD hS hl
      by_cases c_21 : X = 21
      · refine lv_tableIn (tgt := 643) hx hb dL_law_32 (by rw [c_21]; decide) (by rw [c_21]; decide) (by rw [c_21]; first | done | rfl) (by decide) ?_
        exact lk_save C0 (Nat.le_of_ble_eq_true rfl) (Nat.le_of_ble_eq_true rfl) hi hgo hR hP hD hS hl
      by_cases c_22 : X = 22
      · refine lv_tableIn (tgt := 666) hx hb dL_law_32 (by rw [c_22]; decide) (by rw [c_22]; decide) (by rw [c_22]; first | done | rfl) (by decide) ?_
        exact lk_restore C0 (Nat.le_of_ble_eq_true rfl) (Nat.le_of_ble_eq_true rfl) hi hgo hR hP hD hS hl
      refine lv_tableOut (tgt := 689) hx hb dL_law_32 (by have u_0 := lv_neT (a := 0) c_0 (by decide); have u_1 := lv_neT (a := 1) c_1 (by decide); have u_2 := lv_neT (a := 2) c_2 (by decide); have u_3 := lv_neT (a := 3) c_3 (by decide); have u_4 := lv_neT (a := 4) c_4 (by decide); have u_5 := lv_neT (a := 5) c_5 (by decide); have u_6 := lv_neT (a := 6) c_6 (by decide); have u_7 := lv_neT (a := 7) c_7 (by decide); have u_8 := lv_neT (a := 8) c_8 (by decide); have u_9 := lv_neT (a := 9) c_9 (by decide); have u_10 := lv_neT (a := 10) c_10 (by decide); have u_11 := lv_neT (a := 11) c_11 (by decide); have u_12 := lv_neT (a := 12) c_12 (by decide); have u_13 := lv_neT (a := 13) c_13 (by decide); have u_14 := lv_neT (a := 14) c_14 (by decide); have u_15 := lv_neT (a := 15) c_15 (by decide); have u_16 := lv_neT (a := 16) c_16 (by decide); have u_17 := lv_neT (a := 17) c_17 (by decide); have u_18 := lv_neT (a := 18) c_18 (by decide); have u_19 := lv_neT (a := 19) c_19 (by decide); have u_20 := lv_neT (a := 20) c_20 (by decide); have u_21 := lv_neT (a := 21) c_21 (by decide); have u_22 := lv_neT (a := 22) c_22 (by decide); omega) (by decide) ?_
      exact hgo hh t y hR H locs ls hP hD hS hl
