set_option maxHeartbeats 4000000 in
set_option maxRecDepth 100000 in
theorem lk_fault {p : Program} {l : Launch} {e : Env} {s : State} {m : MethodId} {below : List Frame} {meth : Method} {c : Code} {b L i : Nat} {xs : Nat → Int32} {G : va_G} {cI cC cZ cR : ClassId} {ho : Nat → Nat} {hp h : Ad} {cells slots : Nat} {Q : State → Prop} (C0 : LX p s m meth c b L xs G cI cC cZ cR) (hc : cells ≤ 600000) (hs : slots ≤ 7302249) (hi : i + 3 ≤ L) (hgo : GO p l e s m below meth c b G cI cC cZ cR ho hp h cells slots Q (nI i)) {hh : Nat → Ad} {t : TV} {y : SR} (hR : RT t y) {H : Heap} {locs : List Loc} {ls : Array Slot} (hP : va_P G vwCl (wX cI cC cZ cR ho hh hp t ++ wMo cI h y) H) (hD : va_D (AL s) (wX cI cC cZ cR ho hh hp t ++ wMo cI h y)) (hS : va_S (AL s) s.heap H locs) (hl : lv_has ls 4 [(0, .ref b), (1, .ref (ho 0)), (2, .ref (h 0)), (3, .int (nI i))]) : W p l e room_1 s m #[Value.ref b] below meth c H locs cells slots Q (F0 m 604 ls []) := by
  obtain ⟨hx, hb, hr, hml, hown, hts, hX, hbl, hlocks, hK, hN, hST, hO, hL⟩ := C0
  have hA : ∀ q : Nat, s.heap.size ≤ q → AL s q := fun _ z => z
  have hbA : ¬ AL s b := Nat.not_le.mpr hbl
  refine lv_aload_n hx hb dL_law_604 rfl (lv_at hl 1 rfl) ?_
  refine lc_i hP hD hS hA (lr_V (As := []) (rest := []) ⟨hx, hb, hml, hown, hts⟩ (ctX2_fault l G cI cC cZ cR ho hh hp t hR.ch) (cwV 0 hts gL_law_X2_fault rfl rfl rfl (by decide +kernel) ⟨Nat.le_of_ble_eq_true rfl, Nat.le_of_ble_eq_true rfl⟩) (tx_recv hK (lX hP)) hK (lX hP) (lXD hD) hN rfl hl.1 rfl (Nat.le_of_ble_eq_true rfl) dL_law_605 hc hs) (fun hh H locs hP hD hS => ?_)
  refine lv_aload_n hx hb dL_law_608 rfl (lv_at hl 2 rfl) ?_
  refine lc_m hP hD hS hA (lr_V (As := []) (rest := [.int (pX2_fault t).1]) ⟨hx, hb, hml, hown, hts⟩ (ctX3_fault l G cI cC cZ cR h y hR.pa) (cwV 0 hts gL_law_X3_fault rfl rfl rfl (by decide +kernel) ⟨Nat.le_of_ble_eq_true rfl, Nat.le_of_ble_eq_true rfl⟩) (md_recv hK (lM hP) rfl) hK (lM hP) (lMD hD) hN rfl hl.1 rfl (Nat.le_of_ble_eq_true rfl) dL_law_609 hc hs) (fun H locs hP hD hS => ?_)
  obtain ⟨hE, hR1⟩ := fault_eq hR
  refine lv_icmp_eq (tgt := 689) hx hb dL_law_612 (by decide) (fun _ => ?_) (fun cz => absurd hE cz)
  exact hgo hh _ _ hR1 H locs ls hP hD hS hl
set_option maxHeartbeats 4000000 in
set_option maxRecDepth 100000 in
theorem lk_carryOut {p : Program} {l : Launch} {e : Env} {s : State} {m : MethodId} {below : List Frame} {meth : Method} {c : Code} {b L i : Nat} {xs : Nat → Int32} {G : va_G} {cI cC cZ cR : ClassId} {ho : Nat → Nat} {hp h : Ad} {cells slots : Nat} {Q : State → Prop} (C0 : LX p s m meth c b L xs G cI cC cZ cR) (hc : cells ≤ 600000) (hs : slots ≤ 7302249) (hi : i + 3 ≤ L) (hgo : GO p l e s m below meth c b G cI cC cZ cR ho hp h cells slots Q (nI i)) {hh : Nat → Ad} {t : TV} {y : SR} (hR : RT t y) {H : Heap} {locs : List Loc} {ls : Array Slot} (hP : va_P G vwCl (wX cI cC cZ cR ho hh hp t ++ wMo cI h y) H) (hD : va_D (AL s) (wX cI cC cZ cR ho hh hp t ++ wMo cI h y)) (hS : va_S (AL s) s.heap H locs) (hl : lv_has ls 4 [(0, .ref b), (1, .ref (ho 0)), (2, .ref (h 0)), (3, .int (nI i))]) : W p l e room_1 s m #[Value.ref b] below meth c H locs cells slots Q (F0 m 617 ls []) := by
  obtain ⟨hx, hb, hr, hml, hown, hts, hX, hbl, hlocks, hK, hN, hST, hO, hL⟩ := C0
  have hA : ∀ q : Nat, s.heap.size ≤ q → AL s q := fun _ z => z
  have hbA : ¬ AL s b := Nat.not_le.mpr hbl
  refine lv_aload_n hx hb dL_law_617 rfl (lv_at hl 1 rfl) ?_
  refine lc_x hP hD hS hA (lr_V (As := []) (rest := []) ⟨hx, hb, hml, hown, hts⟩ (ctX2_carryOut l G cI cC cZ cR ho hh hp t hR.ch) (cwV 0 hts gL_law_X2_carryOut rfl rfl rfl (by decide +kernel) ⟨Nat.le_of_ble_eq_true rfl, Nat.le_of_ble_eq_true rfl⟩) (tx_recv hK (lX hP)) hK (lX hP) (lXD hD) hN rfl hl.1 rfl (Nat.le_of_ble_eq_true rfl) dL_law_618 hc hs) (fun hh H locs hP hD hS => ?_)
  refine lv_aload_n hx hb dL_law_621 rfl (lv_at hl 2 rfl) ?_
  refine lc_m hP hD hS hA (lr_V (As := []) (rest := [.int (pX2_carryOut t).1]) ⟨hx, hb, hml, hown, hts⟩ (ctX3_carryOut l G cI cC cZ cR h y hR.pa hR.r0 hR.r6 hR.mf) (cwV 0 hts gL_law_X3_carryOut rfl rfl rfl (by decide +kernel) ⟨Nat.le_of_ble_eq_true rfl, Nat.le_of_ble_eq_true rfl⟩) (md_recv hK (lM hP) rfl) hK (lM hP) (lMD hD) hN rfl hl.1 rfl (Nat.le_of_ble_eq_true rfl) dL_law_622 hc hs) (fun H locs hP hD hS => ?_)
  obtain ⟨hE, hR1⟩ := carryOut_eq hR
  refine lv_icmp_eq (tgt := 689) hx hb dL_law_625 (by decide) (fun _ => ?_) (fun cz => absurd hE cz)
  exact hgo hh _ _ hR1 H locs ls hP hD hS hl
set_option maxHeartbeats 4000000 in
set_option maxRecDepth 100000 in
theorem lk_undo {p : Program} {l : Launch} {e : Env} {s : State} {m : MethodId} {below : List Frame} {meth : Method} {c : Code} {b L i : Nat} {xs : Nat → Int32} {G : va_G} {cI cC cZ cR : ClassId} {ho : Nat → Nat} {hp h : Ad} {cells slots : Nat} {Q : State → Prop} (C0 : LX p s m meth c b L xs G cI cC cZ cR) (hc : cells ≤ 600000) (hs : slots ≤ 7302249) (hi : i + 3 ≤ L) (hgo : GO p l e s m below meth c b G cI cC cZ cR ho hp h cells slots Q (nI i)) {hh : Nat → Ad} {t : TV} {y : SR} (hR : RT t y) {H : Heap} {locs : List Loc} {ls : Array Slot} (hP : va_P G vwCl (wX cI cC cZ cR ho hh hp t ++ wMo cI h y) H) (hD : va_D (AL s) (wX cI cC cZ cR ho hh hp t ++ wMo cI h y)) (hS : va_S (AL s) s.heap H locs) (hl : lv_has ls 4 [(0, .ref b), (1, .ref (ho 0)), (2, .ref (h 0)), (3, .int (nI i))]) : W p l e room_1 s m #[Value.ref b] below meth c H locs cells slots Q (F0 m 630 ls []) := by
  obtain ⟨hx, hb, hr, hml, hown, hts, hX, hbl, hlocks, hK, hN, hST, hO, hL⟩ := C0
  have hA : ∀ q : Nat, s.heap.size ≤ q → AL s q := fun _ z => z
  have hbA : ¬ AL s b := Nat.not_le.mpr hbl
  refine lv_aload_n hx hb dL_law_630 rfl (lv_at hl 1 rfl) ?_
  refine lc_i hP hD hS hA (lr_V (As := []) (rest := []) ⟨hx, hb, hml, hown, hts⟩ (ctX2_undo l G cI cC cZ cR ho hh hp t) (cwV 0 hts gL_law_X2_undo rfl rfl rfl (by decide +kernel) ⟨Nat.le_of_ble_eq_true rfl, Nat.le_of_ble_eq_true rfl⟩) (tx_recv hK (lX hP)) hK (lX hP) (lXD hD) hN rfl hl.1 rfl (Nat.le_of_ble_eq_true rfl) dL_law_631 hc hs) (fun hh H locs hP hD hS => ?_)
  refine lv_aload_n hx hb dL_law_634 rfl (lv_at hl 2 rfl) ?_
  refine lc_m hP hD hS hA (lr_V (As := []) (rest := [.int (pX2_undo t).1]) ⟨hx, hb, hml, hown, hts⟩ (ctX3_undo l G cI cC cZ cR h y hR.r0 hR.r6) (cwV 0 hts gL_law_X3_undo rfl rfl rfl (by decide +kernel) ⟨Nat.le_of_ble_eq_true rfl, Nat.le_of_ble_eq_true rfl⟩) (md_recv hK (lM hP) rfl) hK (lM hP) (lMD hD) hN rfl hl.1 rfl (Nat.le_of_ble_eq_true rfl) dL_law_635 hc hs) (fun H locs hP hD hS => ?_)
  obtain ⟨hE, hR1⟩ := undo_eq hR
  refine lv_icmp_eq (tgt := 689) hx hb dL_law_638 (by decide) (fun _ => ?_) (fun cz => absurd hE cz)
  exact hgo hh _ _ hR1 H locs ls hP hD hS hl
set_option maxHeartbeats 4000000 in
set_option maxRecDepth 100000 in
theorem lk_save {p : Program} {l : Launch} {e : Env} {s : State} {m : MethodId} {below : List Frame} {meth : Method} {c : Code} {b L i : Nat} {xs : Nat → Int32} {G : va_G} {cI cC cZ cR : ClassId} {ho : Nat → Nat} {hp h : Ad} {cells slots : Nat} {Q : State → Prop} (C0 : LX p s m meth c b L xs G cI cC cZ cR) (hc : cells ≤ 600000) (hs : slots ≤ 7302249) (hi : i + 3 ≤ L) (hgo : GO p l e s m below meth c b G cI cC cZ cR ho hp h cells slots Q (nI i)) {hh : Nat → Ad} {t : TV} {y : SR} (hR : RT t y) {H : Heap} {locs : List Loc} {ls : Array Slot} (hP : va_P G vwCl (wX cI cC cZ cR ho hh hp t ++ wMo cI h y) H) (hD : va_D (AL s) (wX cI cC cZ cR ho hh hp t ++ wMo cI h y)) (hS : va_S (AL s) s.heap H locs) (hl : lv_has ls 4 [(0, .ref b), (1, .ref (ho 0)), (2, .ref (h 0)), (3, .int (nI i))]) : W p l e room_1 s m #[Value.ref b] below meth c H locs cells slots Q (F0 m 643 ls []) := by
  obtain ⟨hx, hb, hr, hml, hown, hts, hX, hbl, hlocks, hK, hN, hST, hO, hL⟩ := C0
  have hA : ∀ q : Nat, s.heap.size ≤ q → AL s q := fun _ z => z
  have hbA : ¬ AL s b := Nat.not_le.mpr hbl
  have h_1 : vp_in (nI i + 1) L := by rw [nI_1]; exact vp_in_nI (by omega) (by omega)
  refine lv_aload_n hx hb dL_law_643 rfl (lv_at hl 1 rfl) ?_
  refine lv_aload_n hx hb dL_law_644 rfl (lv_at hl 0 rfl) ?_
  refine lv_iload_n hx hb dL_law_645 rfl (lv_at hl 3 rfl) ?_
  refine lv_iconst (v := 1) hx hb dL_law_646 (by decide) ?_
  refine lv_iadd hx hb dL_law_647 ?_
  refine va_sld hx hb hX hbl hbA hS h_1 dL_law_648 ?_
  refine W.eq (g2 := F0 m 649 ls [.int (xs (nI i + 1).toNatClampNeg), .ref (ho 0)]) rfl ?_
  refine lc_i hP hD hS hA (lr_V (As := [.int (xs (nI i + 1).toNatClampNeg)]) (rest := []) ⟨hx, hb, hml, hown, hts⟩ (ctX2_save l G cI cC cZ cR ho hh hp t (xs (nI i + 1).toNatClampNeg)) (cwV 1 hts gL_law_X2_save rfl rfl rfl (by decide +kernel) ⟨Nat.le_of_ble_eq_true rfl, Nat.le_of_ble_eq_true rfl⟩) (tx_recv hK (lX hP)) hK (lX hP) (lXD hD) hN rfl hl.1 rfl (Nat.le_of_ble_eq_true rfl) dL_law_649 hc hs) (fun hh H locs hP hD hS => ?_)
  refine lv_aload_n hx hb dL_law_652 rfl (lv_at hl 2 rfl) ?_
  refine lv_aload_n hx hb dL_law_653 rfl (lv_at hl 0 rfl) ?_
  refine lv_iload_n hx hb dL_law_654 rfl (lv_at hl 3 rfl) ?_
  refine lv_iconst (v := 1) hx hb dL_law_655 (by decide) ?_
  refine lv_iadd hx hb dL_law_656 ?_
  refine va_sld hx hb hX hbl hbA hS h_1 dL_law_657 ?_
  refine W.eq (g2 := F0 m 658 ls [.int (xs (nI i + 1).toNatClampNeg), .ref (h 0), .int (pX2_save (xs (nI i + 1).toNatClampNeg) t).1]) rfl ?_
  refine lc_m hP hD hS hA (lr_V (As := [.int (xs (nI i + 1).toNatClampNeg)]) (rest := [.int (pX2_save (xs (nI i + 1).toNatClampNeg) t).1]) ⟨hx, hb, hml, hown, hts⟩ (ctX3_save l G cI cC cZ cR h y (xs (nI i + 1).toNatClampNeg)) (cwV 1 hts gL_law_X3_save rfl rfl rfl (by decide +kernel) ⟨Nat.le_of_ble_eq_true rfl, Nat.le_of_ble_eq_true rfl⟩) (md_recv hK (lM hP) rfl) hK (lM hP) (lMD hD) hN rfl hl.1 rfl (Nat.le_of_ble_eq_true rfl) dL_law_658 hc hs) (fun H locs hP hD hS => ?_)
  obtain ⟨hE, hR1⟩ := save_eq hR (xs (nI i + 1).toNatClampNeg)
  refine lv_icmp_eq (tgt := 689) hx hb dL_law_661 (by decide) (fun _ => ?_) (fun cz => absurd hE cz)
  exact hgo hh _ _ hR1 H locs ls hP hD hS hl
set_option maxHeartbeats 4000000 in
set_option maxRecDepth 100000 in
theorem lk_restore {p : Program} {l : Launch} {e : Env} {s : State} {m : MethodId} {below : List Frame} {meth : Method} {c : Code} {b L i : Nat} {xs : Nat → Int32} {G : va_G} {cI cC cZ cR : ClassId} {ho : Nat → Nat} {hp h : Ad} {cells slots : Nat} {Q : State → Prop} (C0 : LX p s m meth c b L xs G cI cC cZ cR) (hc : cells ≤ 600000) (hs : slots ≤ 7302249) (hi : i + 3 ≤ L) (hgo : GO p l e s m below meth c b G cI cC cZ cR ho hp h cells slots Q (nI i)) {hh : Nat → Ad} {t : TV} {y : SR} (hR : RT t y) {H : Heap} {locs : List Loc} {ls : Array Slot} (hP : va_P G vwCl (wX cI cC cZ cR ho hh hp t ++ wMo cI h y) H) (hD : va_D (AL s) (wX cI cC cZ cR ho hh hp t ++ wMo cI h y)) (hS : va_S (AL s) s.heap H locs) (hl : lv_has ls 4 [(0, .ref b), (1, .ref (ho 0)), (2, .ref (h 0)), (3, .int (nI i))]) : W p l e room_1 s m #[Value.ref b] below meth c H locs cells slots Q (F0 m 666 ls []) := by
  obtain ⟨hx, hb, hr, hml, hown, hts, hX, hbl, hlocks, hK, hN, hST, hO, hL⟩ := C0
  have hA : ∀ q : Nat, s.heap.size ≤ q → AL s q := fun _ z => z
  have hbA : ¬ AL s b := Nat.not_le.mpr hbl
  have h_1 : vp_in (nI i + 1) L := by rw [nI_1]; exact vp_in_nI (by omega) (by omega)
  refine lv_aload_n hx hb dL_law_666 rfl (lv_at hl 1 rfl) ?_
  refine lv_aload_n hx hb dL_law_667 rfl (lv_at hl 0 rfl) ?_
  refine lv_iload_n hx hb dL_law_668 rfl (lv_at hl 3 rfl) ?_
  refine lv_iconst (v := 1) hx hb dL_law_669 (by decide) ?_
  refine lv_iadd hx hb dL_law_670 ?_
  refine va_sld hx hb hX hbl hbA hS h_1 dL_law_671 ?_
  refine W.eq (g2 := F0 m 672 ls [.int (xs (nI i + 1).toNatClampNeg), .ref (ho 0)]) rfl ?_
  refine lc_x hP hD hS hA (lr_V (As := [.int (xs (nI i + 1).toNatClampNeg)]) (rest := []) ⟨hx, hb, hml, hown, hts⟩ (ctX2_restore l G cI cC cZ cR ho hh hp t (xs (nI i + 1).toNatClampNeg)) (cwV 1 hts gL_law_X2_restore rfl rfl rfl (by decide +kernel) ⟨Nat.le_of_ble_eq_true rfl, Nat.le_of_ble_eq_true rfl⟩) (tx_recv hK (lX hP)) hK (lX hP) (lXD hD) hN rfl hl.1 rfl (Nat.le_of_ble_eq_true rfl) dL_law_672 hc hs) (fun hh H locs hP hD hS => ?_)
  refine lv_aload_n hx hb dL_law_675 rfl (lv_at hl 2 rfl) ?_
  refine lv_aload_n hx hb dL_law_676 rfl (lv_at hl 0 rfl) ?_
  refine lv_iload_n hx hb dL_law_677 rfl (lv_at hl 3 rfl) ?_
  refine lv_iconst (v := 1) hx hb dL_law_678 (by decide) ?_
  refine lv_iadd hx hb dL_law_679 ?_
  refine va_sld hx hb hX hbl hbA hS h_1 dL_law_680 ?_
  refine W.eq (g2 := F0 m 681 ls [.int (xs (nI i + 1).toNatClampNeg), .ref (h 0), .int (pX2_restore (xs (nI i + 1).toNatClampNeg) t).1]) rfl ?_
  refine lc_m hP hD hS hA (lr_V (As := [.int (xs (nI i + 1).toNatClampNeg)]) (rest := [.int (pX2_restore (xs (nI i + 1).toNatClampNeg) t).1]) ⟨hx, hb, hml, hown, hts⟩ (ctX3_restore l G cI cC cZ cR h y (xs (nI i + 1).toNatClampNeg) hR.r0 hR.r6) (cwV 1 hts gL_law_X3_restore rfl rfl rfl (by decide +kernel) ⟨Nat.le_of_ble_eq_true rfl, Nat.le_of_ble_eq_true rfl⟩) (md_recv hK (lM hP) rfl) hK (lM hP) (lMD hD) hN rfl hl.1 rfl (Nat.le_of_ble_eq_true rfl) dL_law_681 hc hs) (fun H locs hP hD hS => ?_)
  obtain ⟨hE, hR1⟩ := restore_eq hR (xs (nI i + 1).toNatClampNeg)
  refine lv_icmp_eq (tgt := 689) hx hb dL_law_684 (by decide) (fun _ => ?_) (fun cz => absurd hE cz)
  exact hgo hh _ _ hR1 H locs ls hP hD hS hl
