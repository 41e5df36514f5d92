set_option maxHeartbeats 4000000 in
set_option maxRecDepth 100000 in
theorem lk_rainIn {p : Program} {l : Launch} {e : Env} {s : State} {m : MethodId} {below : List Frame} {meth : Method} {c : Code} {b L i : Nat} {xs : Nat → Int32} {G : va_G} {cI cC cZ cR : ClassId} {ho : Nat → Nat} {hp h : Ad} {cells slots : Nat} {Q : State → Prop} (C0 : LX p s m meth c b L xs G cI cC cZ cR) (hc : cells ≤ 600000) (hs : slots ≤ 7302249) (hi : i + 3 ≤ L) (hgo : GO p l e s m below meth c b G cI cC cZ cR ho hp h cells slots Q (nI i)) {hh : Nat → Ad} {t : TV} {y : SR} (hR : RT t y) {H : Heap} {locs : List Loc} {ls : Array Slot} (hP : va_P G vwCl (wX cI cC cZ cR ho hh hp t ++ wMo cI h y) H) (hD : va_D (AL s) (wX cI cC cZ cR ho hh hp t ++ wMo cI h y)) (hS : va_S (AL s) s.heap H locs) (hl : lv_has ls 4 [(0, .ref b), (1, .ref (ho 0)), (2, .ref (h 0)), (3, .int (nI i))]) : W p l e room_1 s m #[Value.ref b] below meth c H locs cells slots Q (F0 m 446 ls []) := by
  obtain ⟨hx, hb, hr, hml, hown, hts, hX, hbl, hlocks, hK, hN, hST, hO, hL⟩ := C0
  have hA : ∀ q : Nat, s.heap.size ≤ q → AL s q := fun _ z => z
  have hbA : ¬ AL s b := Nat.not_le.mpr hbl
  refine lv_aload_n hx hb dL_law_446 rfl (lv_at hl 1 rfl) ?_
  refine lc_i hP hD hS hA (lr_V (As := []) (rest := []) ⟨hx, hb, hml, hown, hts⟩ (ctX2_rainIn l G cI cC cZ cR ho hh hp t) (cwV 0 hts gL_law_X2_rainIn rfl rfl rfl (by decide +kernel) ⟨Nat.le_of_ble_eq_true rfl, Nat.le_of_ble_eq_true rfl⟩) (tx_recv hK (lX hP)) hK (lX hP) (lXD hD) hN rfl hl.1 rfl (Nat.le_of_ble_eq_true rfl) dL_law_447 hc hs) (fun hh H locs hP hD hS => ?_)
  refine lv_aload_n hx hb dL_law_450 rfl (lv_at hl 2 rfl) ?_
  refine lc_m hP hD hS hA (lr_V (As := []) (rest := [.int (pX2_rainIn t)]) ⟨hx, hb, hml, hown, hts⟩ (ctX3_rainIn l G cI cC cZ cR h y) (cwV 0 hts gL_law_X3_rainIn rfl rfl rfl (by decide +kernel) ⟨Nat.le_of_ble_eq_true rfl, Nat.le_of_ble_eq_true rfl⟩) (md_recv hK (lM hP) rfl) hK (lM hP) (lMD hD) hN rfl hl.1 rfl (Nat.le_of_ble_eq_true rfl) dL_law_451 hc hs) (fun H locs hP hD hS => ?_)
  have hE := rainIn_eq hR.1.1
  have hR1 : RT t y := hR
  refine lv_icmp_eq (tgt := 689) hx hb dL_law_454 (by decide) (fun _ => ?_) (fun cz => absurd hE cz)
  exact hgo hh _ _ hR1 H locs ls hP hD hS hl
set_option maxHeartbeats 4000000 in
set_option maxRecDepth 100000 in
theorem lk_coveredIn {p : Program} {l : Launch} {e : Env} {s : State} {m : MethodId} {below : List Frame} {meth : Method} {c : Code} {b L i : Nat} {xs : Nat → Int32} {G : va_G} {cI cC cZ cR : ClassId} {ho : Nat → Nat} {hp h : Ad} {cells slots : Nat} {Q : State → Prop} (C0 : LX p s m meth c b L xs G cI cC cZ cR) (hc : cells ≤ 600000) (hs : slots ≤ 7302249) (hi : i + 3 ≤ L) (hgo : GO p l e s m below meth c b G cI cC cZ cR ho hp h cells slots Q (nI i)) {hh : Nat → Ad} {t : TV} {y : SR} (hR : RT t y) {H : Heap} {locs : List Loc} {ls : Array Slot} (hP : va_P G vwCl (wX cI cC cZ cR ho hh hp t ++ wMo cI h y) H) (hD : va_D (AL s) (wX cI cC cZ cR ho hh hp t ++ wMo cI h y)) (hS : va_S (AL s) s.heap H locs) (hl : lv_has ls 4 [(0, .ref b), (1, .ref (ho 0)), (2, .ref (h 0)), (3, .int (nI i))]) : W p l e room_1 s m #[Value.ref b] below meth c H locs cells slots Q (F0 m 459 ls []) := by
  obtain ⟨hx, hb, hr, hml, hown, hts, hX, hbl, hlocks, hK, hN, hST, hO, hL⟩ := C0
  have hA : ∀ q : Nat, s.heap.size ≤ q → AL s q := fun _ z => z
  have hbA : ¬ AL s b := Nat.not_le.mpr hbl
  have h_1 : vp_in (nI i + 1) L := by rw [nI_1]; exact vp_in_nI (by omega) (by omega)
  refine lv_aload_n hx hb dL_law_459 rfl (lv_at hl 1 rfl) ?_
  refine lv_aload_n hx hb dL_law_460 rfl (lv_at hl 0 rfl) ?_
  refine lv_iload_n hx hb dL_law_461 rfl (lv_at hl 3 rfl) ?_
  refine lv_iconst (v := 1) hx hb dL_law_462 (by decide) ?_
  refine lv_iadd hx hb dL_law_463 ?_
  refine va_sld hx hb hX hbl hbA hS h_1 dL_law_464 ?_
  refine W.eq (g2 := F0 m 465 ls [.int (xs (nI i + 1).toNatClampNeg), .ref (ho 0)]) rfl ?_
  refine lc_i hP hD hS hA (lr_V (As := [.int (xs (nI i + 1).toNatClampNeg)]) (rest := []) ⟨hx, hb, hml, hown, hts⟩ (ctX2_coveredIn l G cI cC cZ cR ho hh hp t (xs (nI i + 1).toNatClampNeg)) (cwV 1 hts gL_law_X2_coveredIn rfl rfl rfl (by decide +kernel) ⟨Nat.le_of_ble_eq_true rfl, Nat.le_of_ble_eq_true rfl⟩) (tx_recv hK (lX hP)) hK (lX hP) (lXD hD) hN rfl hl.1 rfl (Nat.le_of_ble_eq_true rfl) dL_law_465 hc hs) (fun hh H locs hP hD hS => ?_)
  refine lv_aload_n hx hb dL_law_468 rfl (lv_at hl 2 rfl) ?_
  refine lv_aload_n hx hb dL_law_469 rfl (lv_at hl 0 rfl) ?_
  refine lv_iload_n hx hb dL_law_470 rfl (lv_at hl 3 rfl) ?_
  refine lv_iconst (v := 1) hx hb dL_law_471 (by decide) ?_
  refine lv_iadd hx hb dL_law_472 ?_
  refine va_sld hx hb hX hbl hbA hS h_1 dL_law_473 ?_
  refine W.eq (g2 := F0 m 474 ls [.int (xs (nI i + 1).toNatClampNeg), .ref (h 0), .int (pX2_coveredIn (xs (nI i + 1).toNatClampNeg) t).1]) rfl ?_
  refine lc_m hP hD hS hA (lr_V (As := [.int (xs (nI i + 1).toNatClampNeg)]) (rest := [.int (pX2_coveredIn (xs (nI i + 1).toNatClampNeg) t).1]) ⟨hx, hb, hml, hown, hts⟩ (ctX3_coveredIn l G cI cC cZ cR h y (xs (nI i + 1).toNatClampNeg) hR.mf) (cwV 1 hts gL_law_X3_coveredIn rfl rfl rfl (by decide +kernel) ⟨Nat.le_of_ble_eq_true rfl, Nat.le_of_ble_eq_true rfl⟩) (md_recv hK (lM hP) rfl) hK (lM hP) (lMD hD) hN rfl hl.1 rfl (Nat.le_of_ble_eq_true rfl) dL_law_474 hc hs) (fun H locs hP hD hS => ?_)
  obtain ⟨hE, hR1⟩ := coveredIn_all hR (xs (nI i + 1).toNatClampNeg)
  refine lv_icmp_eq (tgt := 689) hx hb dL_law_477 (by decide) (fun _ => ?_) (fun cz => absurd hE cz)
  exact hgo hh _ _ hR1 H locs ls hP hD hS hl
set_option maxHeartbeats 4000000 in
set_option maxRecDepth 100000 in
theorem lk_willBeWet {p : Program} {l : Launch} {e : Env} {s : State} {m : MethodId} {below : List Frame} {meth : Method} {c : Code} {b L i : Nat} {xs : Nat → Int32} {G : va_G} {cI cC cZ cR : ClassId} {ho : Nat → Nat} {hp h : Ad} {cells slots : Nat} {Q : State → Prop} (C0 : LX p s m meth c b L xs G cI cC cZ cR) (hc : cells ≤ 600000) (hs : slots ≤ 7302249) (hi : i + 3 ≤ L) (hgo : GO p l e s m below meth c b G cI cC cZ cR ho hp h cells slots Q (nI i)) {hh : Nat → Ad} {t : TV} {y : SR} (hR : RT t y) {H : Heap} {locs : List Loc} {ls : Array Slot} (hP : va_P G vwCl (wX cI cC cZ cR ho hh hp t ++ wMo cI h y) H) (hD : va_D (AL s) (wX cI cC cZ cR ho hh hp t ++ wMo cI h y)) (hS : va_S (AL s) s.heap H locs) (hl : lv_has ls 4 [(0, .ref b), (1, .ref (ho 0)), (2, .ref (h 0)), (3, .int (nI i))]) : W p l e room_1 s m #[Value.ref b] below meth c H locs cells slots Q (F0 m 482 ls []) := by
  obtain ⟨hx, hb, hr, hml, hown, hts, hX, hbl, hlocks, hK, hN, hST, hO, hL⟩ := C0
  have hA : ∀ q : Nat, s.heap.size ≤ q → AL s q := fun _ z => z
  have hbA : ¬ AL s b := Nat.not_le.mpr hbl
  have h_1 : vp_in (nI i + 1) L := by rw [nI_1]; exact vp_in_nI (by omega) (by omega)
  refine lv_aload_n hx hb dL_law_482 rfl (lv_at hl 1 rfl) ?_
  refine lv_aload_n hx hb dL_law_483 rfl (lv_at hl 0 rfl) ?_
  refine lv_iload_n hx hb dL_law_484 rfl (lv_at hl 3 rfl) ?_
  refine lv_iconst (v := 1) hx hb dL_law_485 (by decide) ?_
  refine lv_iadd hx hb dL_law_486 ?_
  refine va_sld hx hb hX hbl hbA hS h_1 dL_law_487 ?_
  refine W.eq (g2 := F0 m 488 ls [.int (xs (nI i + 1).toNatClampNeg), .ref (ho 0)]) rfl ?_
  refine lc_i hP hD hS hA (lr_V (As := [.int (xs (nI i + 1).toNatClampNeg)]) (rest := []) ⟨hx, hb, hml, hown, hts⟩ (ctX2_willBeWet l G cI cC cZ cR ho hh hp t (xs (nI i + 1).toNatClampNeg)) (cwV 1 hts gL_law_X2_willBeWet rfl rfl rfl (by decide +kernel) ⟨Nat.le_of_ble_eq_true rfl, Nat.le_of_ble_eq_true rfl⟩) (tx_recv hK (lX hP)) hK (lX hP) (lXD hD) hN rfl hl.1 rfl (Nat.le_of_ble_eq_true rfl) dL_law_488 hc hs) (fun hh H locs hP hD hS => ?_)
  refine lv_aload_n hx hb dL_law_491 rfl (lv_at hl 2 rfl) ?_
  refine lv_aload_n hx hb dL_law_492 rfl (lv_at hl 0 rfl) ?_
  refine lv_iload_n hx hb dL_law_493 rfl (lv_at hl 3 rfl) ?_
  refine lv_iconst (v := 1) hx hb dL_law_494 (by decide) ?_
  refine lv_iadd hx hb dL_law_495 ?_
  refine va_sld hx hb hX hbl hbA hS h_1 dL_law_496 ?_
  refine W.eq (g2 := F0 m 497 ls [.int (xs (nI i + 1).toNatClampNeg), .ref (h 0), .int (pX2_willBeWet (xs (nI i + 1).toNatClampNeg) t).1]) rfl ?_
  refine lc_m hP hD hS hA (lr_V (As := [.int (xs (nI i + 1).toNatClampNeg)]) (rest := [.int (pX2_willBeWet (xs (nI i + 1).toNatClampNeg) t).1]) ⟨hx, hb, hml, hown, hts⟩ (ctX3_willBeWet l G cI cC cZ cR h y (xs (nI i + 1).toNatClampNeg) hR.mf) (cwV 1 hts gL_law_X3_willBeWet rfl rfl rfl (by decide +kernel) ⟨Nat.le_of_ble_eq_true rfl, Nat.le_of_ble_eq_true rfl⟩) (md_recv hK (lM hP) rfl) hK (lM hP) (lMD hD) hN rfl hl.1 rfl (Nat.le_of_ble_eq_true rfl) dL_law_497 hc hs) (fun H locs hP hD hS => ?_)
  obtain ⟨hE, hR1⟩ := willBeWet_all hR (xs (nI i + 1).toNatClampNeg)
  refine lv_icmp_eq (tgt := 689) hx hb dL_law_500 (by decide) (fun _ => ?_) (fun cz => absurd hE cz)
  exact hgo hh _ _ hR1 H locs ls hP hD hS hl
set_option maxHeartbeats 4000000 in
set_option maxRecDepth 100000 in
theorem lk_bestPlace {p : Program} {l : Launch} {e : Env} {s : State} {m : MethodId} {below : List Frame} {meth : Method} {c : Code} {b L i : Nat} {xs : Nat → Int32} {G : va_G} {cI cC cZ cR : ClassId} {ho : Nat → Nat} {hp h : Ad} {cells slots : Nat} {Q : State → Prop} (C0 : LX p s m meth c b L xs G cI cC cZ cR) (hc : cells ≤ 600000) (hs : slots ≤ 7302249) (hi : i + 3 ≤ L) (hgo : GO p l e s m below meth c b G cI cC cZ cR ho hp h cells slots Q (nI i)) {hh : Nat → Ad} {t : TV} {y : SR} (hR : RT t y) {H : Heap} {locs : List Loc} {ls : Array Slot} (hP : va_P G vwCl (wX cI cC cZ cR ho hh hp t ++ wMo cI h y) H) (hD : va_D (AL s) (wX cI cC cZ cR ho hh hp t ++ wMo cI h y)) (hS : va_S (AL s) s.heap H locs) (hl : lv_has ls 4 [(0, .ref b), (1, .ref (ho 0)), (2, .ref (h 0)), (3, .int (nI i))]) : W p l e room_1 s m #[Value.ref b] below meth c H locs cells slots Q (F0 m 505 ls []) := by
  obtain ⟨hx, hb, hr, hml, hown, hts, hX, hbl, hlocks, hK, hN, hST, hO, hL⟩ := C0
  have hA : ∀ q : Nat, s.heap.size ≤ q → AL s q := fun _ z => z
  have hbA : ¬ AL s b := Nat.not_le.mpr hbl
  have h_1 : vp_in (nI i + 1) L := by rw [nI_1]; exact vp_in_nI (by omega) (by omega)
  have h_2 : vp_in (nI i + 2) L := by rw [show (2 : Int32) = nI 2 from rfl, nI_add]; exact vp_in_nI (by omega) (by omega)
  refine lv_aload_n hx hb dL_law_505 rfl (lv_at hl 1 rfl) ?_
  refine lv_aload_n hx hb dL_law_506 rfl (lv_at hl 0 rfl) ?_
  refine lv_iload_n hx hb dL_law_507 rfl (lv_at hl 3 rfl) ?_
  refine lv_iconst (v := 1) hx hb dL_law_508 (by decide) ?_
  refine lv_iadd hx hb dL_law_509 ?_
  refine va_sld hx hb hX hbl hbA hS h_1 dL_law_510 ?_
  refine W.eq (g2 := F0 m 511 ls [.int (xs (nI i + 1).toNatClampNeg), .ref (ho 0)]) rfl ?_
  refine lv_aload_n hx hb dL_law_511 rfl (lv_at hl 0 rfl) ?_
  refine lv_iload_n hx hb dL_law_512 rfl (lv_at hl 3 rfl) ?_
  refine lv_iconst (v := 2) hx hb dL_law_513 (by decide) ?_
  refine lv_iadd hx hb dL_law_514 ?_
  refine va_sld hx hb hX hbl hbA hS h_2 dL_law_515 ?_
  refine W.eq (g2 := F0 m 516 ls [.int (xs (nI i + 2).toNatClampNeg), .int (xs (nI i + 1).toNatClampNeg), .ref (ho 0)]) rfl ?_
  refine lc_i hP hD hS hA (lr_V (As := [.int (xs (nI i + 1).toNatClampNeg), .int (xs (nI i + 2).toNatClampNeg)]) (rest := []) ⟨hx, hb, hml, hown, hts⟩ (ctX2_bestPlace l G cI cC cZ cR ho hh hp t (xs (nI i + 1).toNatClampNeg) (xs (nI i + 2).toNatClampNeg)) (cwV 2 hts gL_law_X2_bestPlace rfl rfl rfl (by decide +kernel) ⟨Nat.le_of_ble_eq_true rfl, Nat.le_of_ble_eq_true rfl⟩) (tx_recv hK (lX hP)) hK (lX hP) (lXD hD) hN rfl hl.1 rfl (Nat.le_of_ble_eq_true rfl) dL_law_516 hc hs) (fun hh H locs hP hD hS => ?_)
  refine lv_aload_n hx hb dL_law_519 rfl (lv_at hl 2 rfl) ?_
  refine lv_aload_n hx hb dL_law_520 rfl (lv_at hl 0 rfl) ?_
  refine lv_iload_n hx hb dL_law_521 rfl (lv_at hl 3 rfl) ?_
  refine lv_iconst (v := 1) hx hb dL_law_522 (by decide) ?_
  refine lv_iadd hx hb dL_law_523 ?_
  refine va_sld hx hb hX hbl hbA hS h_1 dL_law_524 ?_
  refine W.eq (g2 := F0 m 525 ls [.int (xs (nI i + 1).toNatClampNeg), .ref (h 0), .int (pX2_bestPlace (xs (nI i + 1).toNatClampNeg) (xs (nI i + 2).toNatClampNeg) t).1]) rfl ?_
  refine lv_aload_n hx hb dL_law_525 rfl (lv_at hl 0 rfl) ?_
  refine lv_iload_n hx hb dL_law_526 rfl (lv_at hl 3 rfl) ?_
  refine lv_iconst (v := 2) hx hb dL_law_527 (by decide) ?_
  refine lv_iadd hx hb dL_law_528 ?_
  refine va_sld hx hb hX hbl hbA hS h_2 dL_law_529 ?_
  refine W.eq (g2 := F0 m 530 ls [.int (xs (nI i + 2).toNatClampNeg), .int (xs (nI i + 1).toNatClampNeg), .ref (h 0), .int (pX2_bestPlace (xs (nI i + 1).toNatClampNeg) (xs (nI i + 2).toNatClampNeg) t).1]) rfl ?_
  refine lc_m hP hD hS hA (lr_V (As := [.int (xs (nI i + 1).toNatClampNeg), .int (xs (nI i + 2).toNatClampNeg)]) (rest := [.int (pX2_bestPlace (xs (nI i + 1).toNatClampNeg) (xs (nI i + 2).toNatClampNeg) t).1]) ⟨hx, hb, hml, hown, hts⟩ (ctX3_bestPlace l G cI cC cZ cR h y (xs (nI i + 1).toNatClampNeg) (xs (nI i + 2).toNatClampNeg) hR.mf) (cwV 2 hts gL_law_X3_bestPlace rfl rfl rfl (by decide +kernel) ⟨Nat.le_of_ble_eq_true rfl, Nat.le_of_ble_eq_true rfl⟩) (md_recv hK (lM hP) rfl) hK (lM hP) (lMD hD) hN rfl hl.1 rfl (Nat.le_of_ble_eq_true rfl) dL_law_530 hc hs) (fun H locs hP hD hS => ?_)
  obtain ⟨hE, hR1⟩ := bestPlace_all hR (xs (nI i + 1).toNatClampNeg) (xs (nI i + 2).toNatClampNeg)
  refine lv_icmp_eq (tgt := 689) hx hb dL_law_533 (by decide) (fun _ => ?_) (fun cz => absurd hE cz)
  exact hgo hh _ _ hR1 H locs ls hP hD hS hl
set_option maxHeartbeats 4000000 in
set_option maxRecDepth 100000 in
theorem lk_put {p : Program} {l : Launch} {e : Env} {s : State} {m : MethodId} {below : List Frame} {meth : Method} {c : Code} {b L i : Nat} {xs : Nat → Int32} {G : va_G} {cI cC cZ cR : ClassId} {ho : Nat → Nat} {hp h : Ad} {cells slots : Nat} {Q : State → Prop} (C0 : LX p s m meth c b L xs G cI cC cZ cR) (hc : cells ≤ 600000) (hs : slots ≤ 7302249) (hi : i + 3 ≤ L) (hgo : GO p l e s m below meth c b G cI cC cZ cR ho hp h cells slots Q (nI i)) {hh : Nat → Ad} {t : TV} {y : SR} (hR : RT t y) {H : Heap} {locs : List Loc} {ls : Array Slot} (hP : va_P G vwCl (wX cI cC cZ cR ho hh hp t ++ wMo cI h y) H) (hD : va_D (AL s) (wX cI cC cZ cR ho hh hp t ++ wMo cI h y)) (hS : va_S (AL s) s.heap H locs) (hl : lv_has ls 4 [(0, .ref b), (1, .ref (ho 0)), (2, .ref (h 0)), (3, .int (nI i))]) : W p l e room_1 s m #[Value.ref b] below meth c H locs cells slots Q (F0 m 538 ls []) := by
  obtain ⟨hx, hb, hr, hml, hown, hts, hX, hbl, hlocks, hK, hN, hST, hO, hL⟩ := C0
  have hA : ∀ q : Nat, s.heap.size ≤ q → AL s q := fun _ z => z
  have hbA : ¬ AL s b := Nat.not_le.mpr hbl
  have h_1 : vp_in (nI i + 1) L := by rw [nI_1]; exact vp_in_nI (by omega) (by omega)
  have h_2 : vp_in (nI i + 2) L := by rw [show (2 : Int32) = nI 2 from rfl, nI_add]; exact vp_in_nI (by omega) (by omega)
  have k_80 : (Cond.constantLong RL 80 4294967295).before #[Value.ref b] s = true := hts _ (List.mem_of_getElem? (i := 6) rfl)
  refine lv_aload_n hx hb dL_law_538 rfl (lv_at hl 1 rfl) ?_
  refine lv_aload_n hx hb dL_law_539 rfl (lv_at hl 0 rfl) ?_
  refine lv_iload_n hx hb dL_law_540 rfl (lv_at hl 3 rfl) ?_
  refine lv_iconst (v := 1) hx hb dL_law_541 (by decide) ?_
  refine lv_iadd hx hb dL_law_542 ?_
  refine va_sld hx hb hX hbl hbA hS h_1 dL_law_543 ?_
  refine W.eq (g2 := F0 m 544 ls [.int (xs (nI i + 1).toNatClampNeg), .ref (ho 0)]) rfl ?_
  refine lv_i2l (v := (xs (nI i + 1).toNatClampNeg).toInt64) hx hb dL_law_544 rfl ?_
  refine lv_bipush (v := 32) hx hb dL_law_545 (by decide) ?_
  refine lv_lshl (v := ((xs (nI i + 1).toNatClampNeg).toInt64 <<< ((32 : Int32).toInt64 &&& 63))) hx hb dL_law_547 rfl ?_
  refine lv_aload_n hx hb dL_law_548 rfl (lv_at hl 0 rfl) ?_
  refine lv_iload_n hx hb dL_law_549 rfl (lv_at hl 3 rfl) ?_
  refine lv_iconst (v := 2) hx hb dL_law_550 (by decide) ?_
  refine lv_iadd hx hb dL_law_551 ?_
  refine va_sld hx hb hX hbl hbA hS h_2 dL_law_552 ?_
  refine W.eq (g2 := F0 m 553 ls [.int (xs (nI i + 2).toNatClampNeg), .long ((xs (nI i + 1).toNatClampNeg).toInt64 <<< ((32 : Int32).toInt64 &&& 63)), .ref (ho 0)]) rfl ?_
  refine lv_i2l (v := (xs (nI i + 2).toNatClampNeg).toInt64) hx hb dL_law_553 rfl ?_
  refine lv_ldc2 hx hb hown k_80 dL_law_554 ?_
  refine lv_land hx hb dL_law_557 ?_
  refine lv_lor hx hb dL_law_558 ?_
  refine lc_i hP hD hS hA (lr_V (As := [.long (((xs (nI i + 1).toNatClampNeg).toInt64 <<< ((32 : Int32).toInt64 &&& 63)) ||| ((xs (nI i + 2).toNatClampNeg).toInt64 &&& 4294967295))]) (rest := []) ⟨hx, hb, hml, hown, hts⟩ (ctX2_put l G cI cC cZ cR ho hh hp t (((xs (nI i + 1).toNatClampNeg).toInt64 <<< ((32 : Int32).toInt64 &&& 63)) ||| ((xs (nI i + 2).toNatClampNeg).toInt64 &&& 4294967295))) (cwV 1 hts gL_law_X2_put rfl rfl rfl (by decide +kernel) ⟨Nat.le_of_ble_eq_true rfl, Nat.le_of_ble_eq_true rfl⟩) (tx_recv hK (lX hP)) hK (lX hP) (lXD hD) hN rfl hl.1 rfl (Nat.le_of_ble_eq_true rfl) dL_law_559 hc hs) (fun hh H locs hP hD hS => ?_)
  refine lv_aload_n hx hb dL_law_562 rfl (lv_at hl 2 rfl) ?_
  refine lv_aload_n hx hb dL_law_563 rfl (lv_at hl 0 rfl) ?_
  refine lv_iload_n hx hb dL_law_564 rfl (lv_at hl 3 rfl) ?_
  refine lv_iconst (v := 1) hx hb dL_law_565 (by decide) ?_
  refine lv_iadd hx hb dL_law_566 ?_
  refine va_sld hx hb hX hbl hbA hS h_1 dL_law_567 ?_
  refine W.eq (g2 := F0 m 568 ls [.int (xs (nI i + 1).toNatClampNeg), .ref (h 0), .int (pX2_put (((xs (nI i + 1).toNatClampNeg).toInt64 <<< ((32 : Int32).toInt64 &&& 63)) ||| ((xs (nI i + 2).toNatClampNeg).toInt64 &&& 4294967295)) t).1]) rfl ?_
  refine lv_i2l (v := (xs (nI i + 1).toNatClampNeg).toInt64) hx hb dL_law_568 rfl ?_
  refine lv_bipush (v := 32) hx hb dL_law_569 (by decide) ?_
  refine lv_lshl (v := ((xs (nI i + 1).toNatClampNeg).toInt64 <<< ((32 : Int32).toInt64 &&& 63))) hx hb dL_law_571 rfl ?_
  refine lv_aload_n hx hb dL_law_572 rfl (lv_at hl 0 rfl) ?_
  refine lv_iload_n hx hb dL_law_573 rfl (lv_at hl 3 rfl) ?_
  refine lv_iconst (v := 2) hx hb dL_law_574 (by decide) ?_
  refine lv_iadd hx hb dL_law_575 ?_
  refine va_sld hx hb hX hbl hbA hS h_2 dL_law_576 ?_
  refine W.eq (g2 := F0 m 577 ls [.int (xs (nI i + 2).toNatClampNeg), .long ((xs (nI i + 1).toNatClampNeg).toInt64 <<< ((32 : Int32).toInt64 &&& 63)), .ref (h 0), .int (pX2_put (((xs (nI i + 1).toNatClampNeg).toInt64 <<< ((32 : Int32).toInt64 &&& 63)) ||| ((xs (nI i + 2).toNatClampNeg).toInt64 &&& 4294967295)) t).1]) rfl ?_
  refine lv_i2l (v := (xs (nI i + 2).toNatClampNeg).toInt64) hx hb dL_law_577 rfl ?_
  refine lv_ldc2 hx hb hown k_80 dL_law_578 ?_
  refine lv_land hx hb dL_law_581 ?_
  refine lv_lor hx hb dL_law_582 ?_
  refine lc_m hP hD hS hA (lr_V (As := [.long (((xs (nI i + 1).toNatClampNeg).toInt64 <<< ((32 : Int32).toInt64 &&& 63)) ||| ((xs (nI i + 2).toNatClampNeg).toInt64 &&& 4294967295))]) (rest := [.int (pX2_put (((xs (nI i + 1).toNatClampNeg).toInt64 <<< ((32 : Int32).toInt64 &&& 63)) ||| ((xs (nI i + 2).toNatClampNeg).toInt64 &&& 4294967295)) t).1]) ⟨hx, hb, hml, hown, hts⟩ (ctX3_put l G cI cC cZ cR h y (((xs (nI i + 1).toNatClampNeg).toInt64 <<< ((32 : Int32).toInt64 &&& 63)) ||| ((xs (nI i + 2).toNatClampNeg).toInt64 &&& 4294967295)) hR.l0 hR.l80) (cwV 1 hts gL_law_X3_put rfl rfl rfl (by decide +kernel) ⟨Nat.le_of_ble_eq_true rfl, Nat.le_of_ble_eq_true rfl⟩) (md_recv hK (lM hP) rfl) hK (lM hP) (lMD hD) hN rfl hl.1 rfl (Nat.le_of_ble_eq_true rfl) dL_law_583 hc hs) (fun H locs hP hD hS => ?_)
  obtain ⟨hE, hR1⟩ := put_eq hR (((xs (nI i + 1).toNatClampNeg).toInt64 <<< ((32 : Int32).toInt64 &&& 63)) ||| ((xs (nI i + 2).toNatClampNeg).toInt64 &&& 4294967295))
  refine lv_icmp_eq (tgt := 689) hx hb dL_law_586 (by decide) (fun _ => ?_) (fun cz => absurd hE cz)
  exact hgo hh _ _ hR1 H locs ls hP hD hS hl
set_option maxHeartbeats 4000000 in
set_option maxRecDepth 100000 in
theorem lk_wipe {p : Program} {l : Launch} {e : Env} {s : State} {m : MethodId} {below : List Frame} {meth : Method} {c : Code} {b L i : Nat} {xs : Nat → Int32} {G : va_G} {cI cC cZ cR : ClassId} {ho : Nat → Nat} {hp h : Ad} {cells slots : Nat} {Q : State → Prop} (C0 : LX p s m meth c b L xs G cI cC cZ cR) (hc : cells ≤ 600000) (hs : slots ≤ 7302249) (hi : i + 3 ≤ L) (hgo : GO p l e s m below meth c b G cI cC cZ cR ho hp h cells slots Q (nI i)) {hh : Nat → Ad} {t : TV} {y : SR} (hR : RT t y) {H : Heap} {locs : List Loc} {ls : Array Slot} (hP : va_P G vwCl (wX cI cC cZ cR ho hh hp t ++ wMo cI h y) H) (hD : va_D (AL s) (wX cI cC cZ cR ho hh hp t ++ wMo cI h y)) (hS : va_S (AL s) s.heap H locs) (hl : lv_has ls 4 [(0, .ref b), (1, .ref (ho 0)), (2, .ref (h 0)), (3, .int (nI i))]) : W p l e room_1 s m #[Value.ref b] below meth c H locs cells slots Q (F0 m 591 ls []) := by
  obtain ⟨hx, hb, hr, hml, hown, hts, hX, hbl, hlocks, hK, hN, hST, hO, hL⟩ := C0
  have hA : ∀ q : Nat, s.heap.size ≤ q → AL s q := fun _ z => z
  have hbA : ¬ AL s b := Nat.not_le.mpr hbl
  refine lv_aload_n hx hb dL_law_591 rfl (lv_at hl 1 rfl) ?_
  refine lc_i hP hD hS hA (lr_V (As := []) (rest := []) ⟨hx, hb, hml, hown, hts⟩ (ctX2_wipe l G cI cC cZ cR ho hh hp t) (cwV 0 hts gL_law_X2_wipe rfl rfl rfl (by decide +kernel) ⟨Nat.le_of_ble_eq_true rfl, Nat.le_of_ble_eq_true rfl⟩) (tx_recv hK (lX hP)) hK (lX hP) (lXD hD) hN rfl hl.1 rfl (Nat.le_of_ble_eq_true rfl) dL_law_592 hc hs) (fun hh H locs hP hD hS => ?_)
  refine lv_aload_n hx hb dL_law_595 rfl (lv_at hl 2 rfl) ?_
  refine lc_m hP hD hS hA (lr_V (As := []) (rest := [.int (pX2_wipe t).1]) ⟨hx, hb, hml, hown, hts⟩ (ctX3_wipe l G cI cC cZ cR h y) (cwV 0 hts gL_law_X3_wipe rfl rfl rfl (by decide +kernel) ⟨Nat.le_of_ble_eq_true rfl, Nat.le_of_ble_eq_true rfl⟩) (md_recv hK (lM hP) rfl) hK (lM hP) (lMD hD) hN rfl hl.1 rfl (Nat.le_of_ble_eq_true rfl) dL_law_596 hc hs) (fun H locs hP hD hS => ?_)
  obtain ⟨hE, hR1⟩ := wipe_eq hR
  refine lv_icmp_eq (tgt := 689) hx hb dL_law_599 (by decide) (fun _ => ?_) (fun cz => absurd hE cz)
  exact hgo hh _ _ hR1 H locs ls hP hD hS hl
