set_option maxHeartbeats 4000000 in
set_option maxRecDepth 100000 in
theorem lk_pass {p : Program} {l : Launch} {e : Env} {s : State} {m : MethodId} {below : List Frame} {meth : Method} {c : Code} {b L i : Nat} {xs : Nat → Int32} {G : va_G} {cI cC cZ cR : ClassId} {ho : Nat → Nat} {hp h : Ad} {cells slots : Nat} {Q : State → Prop} (C0 : LX p s m meth c b L xs G cI cC cZ cR) (hc : cells ≤ 600000) (hs : slots ≤ 7302249) (hi : i + 3 ≤ L) (hgo : GO p l e s m below meth c b G cI cC cZ cR ho hp h cells slots Q (nI i)) {hh : Nat → Ad} {t : TV} {y : SR} (hR : RT t y) {H : Heap} {locs : List Loc} {ls : Array Slot} (hP : va_P G vwCl (wX cI cC cZ cR ho hh hp t ++ wMo cI h y) H) (hD : va_D (AL s) (wX cI cC cZ cR ho hh hp t ++ wMo cI h y)) (hS : va_S (AL s) s.heap H locs) (hl : lv_has ls 4 [(0, .ref b), (1, .ref (ho 0)), (2, .ref (h 0)), (3, .int (nI i))]) : W p l e room_1 s m #[Value.ref b] below meth c H locs cells slots Q (F0 m 298 ls []) := by
  obtain ⟨hx, hb, hr, hml, hown, hts, hX, hbl, hlocks, hK, hN, hST, hO, hL⟩ := C0
  have hA : ∀ q : Nat, s.heap.size ≤ q → AL s q := fun _ z => z
  have hbA : ¬ AL s b := Nat.not_le.mpr hbl
  have h_1 : vp_in (nI i + 1) L := by rw [nI_1]; exact vp_in_nI (by omega) (by omega)
  refine lv_aload_n hx hb dL_law_298 rfl (lv_at hl 1 rfl) ?_
  refine lv_aload_n hx hb dL_law_299 rfl (lv_at hl 0 rfl) ?_
  refine lv_iload_n hx hb dL_law_300 rfl (lv_at hl 3 rfl) ?_
  refine lv_iconst (v := 1) hx hb dL_law_301 (by decide) ?_
  refine lv_iadd hx hb dL_law_302 ?_
  refine va_sld hx hb hX hbl hbA hS h_1 dL_law_303 ?_
  refine W.eq (g2 := F0 m 304 ls [.int (xs (nI i + 1).toNatClampNeg), .ref (ho 0)]) rfl ?_
  refine lc_x hP hD hS hA (lr_V (As := [.int (xs (nI i + 1).toNatClampNeg)]) (rest := []) ⟨hx, hb, hml, hown, hts⟩ (ctX2_pass l G cI cC cZ cR ho hh hp t (xs (nI i + 1).toNatClampNeg)) (cwV 1 hts gL_law_X2_pass rfl rfl rfl (by decide +kernel) ⟨Nat.le_of_ble_eq_true rfl, Nat.le_of_ble_eq_true rfl⟩) (tx_recv hK (lX hP)) hK (lX hP) (lXD hD) hN rfl hl.1 rfl (Nat.le_of_ble_eq_true rfl) dL_law_304 hc hs) (fun hh H locs hP hD hS => ?_)
  refine lv_aload_n hx hb dL_law_307 rfl (lv_at hl 2 rfl) ?_
  refine lv_aload_n hx hb dL_law_308 rfl (lv_at hl 0 rfl) ?_
  refine lv_iload_n hx hb dL_law_309 rfl (lv_at hl 3 rfl) ?_
  refine lv_iconst (v := 1) hx hb dL_law_310 (by decide) ?_
  refine lv_iadd hx hb dL_law_311 ?_
  refine va_sld hx hb hX hbl hbA hS h_1 dL_law_312 ?_
  refine W.eq (g2 := F0 m 313 ls [.int (xs (nI i + 1).toNatClampNeg), .ref (h 0), .int (pX2_pass (xs (nI i + 1).toNatClampNeg) t).1]) rfl ?_
  refine lc_m hP hD hS hA (lr_V (As := [.int (xs (nI i + 1).toNatClampNeg)]) (rest := [.int (pX2_pass (xs (nI i + 1).toNatClampNeg) t).1]) ⟨hx, hb, hml, hown, hts⟩ (ctX3_pass l G cI cC cZ cR h y (xs (nI i + 1).toNatClampNeg) hR.r0 hR.r6 hR.mf) (cwV 1 hts gL_law_X3_pass rfl rfl rfl (by decide +kernel) ⟨Nat.le_of_ble_eq_true rfl, Nat.le_of_ble_eq_true rfl⟩) (md_recv hK (lM hP) rfl) hK (lM hP) (lMD hD) hN rfl hl.1 rfl (Nat.le_of_ble_eq_true rfl) dL_law_313 hc hs) (fun H locs hP hD hS => ?_)
  obtain ⟨hE, hR1⟩ := pass_all hR (xs (nI i + 1).toNatClampNeg)
  refine lv_icmp_eq (tgt := 689) hx hb dL_law_316 (by decide) (fun _ => ?_) (fun cz => absurd hE cz)
  exact hgo hh _ _ hR1 H locs ls hP hD hS hl
set_option maxHeartbeats 4000000 in
set_option maxRecDepth 100000 in
theorem lk_of {p : Program} {l : Launch} {e : Env} {s : State} {m : MethodId} {below : List Frame} {meth : Method} {c : Code} {b L i : Nat} {xs : Nat → Int32} {G : va_G} {cI cC cZ cR : ClassId} {ho : Nat → Nat} {hp h : Ad} {cells slots : Nat} {Q : State → Prop} (C0 : LX p s m meth c b L xs G cI cC cZ cR) (hc : cells ≤ 600000) (hs : slots ≤ 7302249) (hi : i + 3 ≤ L) (hgo : GO p l e s m below meth c b G cI cC cZ cR ho hp h cells slots Q (nI i)) {hh : Nat → Ad} {t : TV} {y : SR} (hR : RT t y) {H : Heap} {locs : List Loc} {ls : Array Slot} (hP : va_P G vwCl (wX cI cC cZ cR ho hh hp t ++ wMo cI h y) H) (hD : va_D (AL s) (wX cI cC cZ cR ho hh hp t ++ wMo cI h y)) (hS : va_S (AL s) s.heap H locs) (hl : lv_has ls 4 [(0, .ref b), (1, .ref (ho 0)), (2, .ref (h 0)), (3, .int (nI i))]) : W p l e room_1 s m #[Value.ref b] below meth c H locs cells slots Q (F0 m 321 ls []) := by
  obtain ⟨hx, hb, hr, hml, hown, hts, hX, hbl, hlocks, hK, hN, hST, hO, hL⟩ := C0
  have hA : ∀ q : Nat, s.heap.size ≤ q → AL s q := fun _ z => z
  have hbA : ¬ AL s b := Nat.not_le.mpr hbl
  have h_1 : vp_in (nI i + 1) L := by rw [nI_1]; exact vp_in_nI (by omega) (by omega)
  have h_2 : vp_in (nI i + 2) L := by rw [show (2 : Int32) = nI 2 from rfl, nI_add]; exact vp_in_nI (by omega) (by omega)
  refine lv_aload_n hx hb dL_law_321 rfl (lv_at hl 1 rfl) ?_
  refine lv_aload_n hx hb dL_law_322 rfl (lv_at hl 0 rfl) ?_
  refine lv_iload_n hx hb dL_law_323 rfl (lv_at hl 3 rfl) ?_
  refine lv_iconst (v := 1) hx hb dL_law_324 (by decide) ?_
  refine lv_iadd hx hb dL_law_325 ?_
  refine va_sld hx hb hX hbl hbA hS h_1 dL_law_326 ?_
  refine W.eq (g2 := F0 m 327 ls [.int (xs (nI i + 1).toNatClampNeg), .ref (ho 0)]) rfl ?_
  refine lv_aload_n hx hb dL_law_327 rfl (lv_at hl 0 rfl) ?_
  refine lv_iload_n hx hb dL_law_328 rfl (lv_at hl 3 rfl) ?_
  refine lv_iconst (v := 2) hx hb dL_law_329 (by decide) ?_
  refine lv_iadd hx hb dL_law_330 ?_
  refine va_sld hx hb hX hbl hbA hS h_2 dL_law_331 ?_
  refine W.eq (g2 := F0 m 332 ls [.int (xs (nI i + 2).toNatClampNeg), .int (xs (nI i + 1).toNatClampNeg), .ref (ho 0)]) rfl ?_
  refine lc_i hP hD hS hA (lr_V (As := [.int (xs (nI i + 1).toNatClampNeg), .int (xs (nI i + 2).toNatClampNeg)]) (rest := []) ⟨hx, hb, hml, hown, hts⟩ (ctX2_of l G cI cC cZ cR ho hh hp t (xs (nI i + 1).toNatClampNeg) (xs (nI i + 2).toNatClampNeg)) (cwV 2 hts gL_law_X2_of rfl rfl rfl (by decide +kernel) ⟨Nat.le_of_ble_eq_true rfl, Nat.le_of_ble_eq_true rfl⟩) (tx_recv hK (lX hP)) hK (lX hP) (lXD hD) hN rfl hl.1 rfl (Nat.le_of_ble_eq_true rfl) dL_law_332 hc hs) (fun hh H locs hP hD hS => ?_)
  refine lv_aload_n hx hb dL_law_335 rfl (lv_at hl 2 rfl) ?_
  refine lv_aload_n hx hb dL_law_336 rfl (lv_at hl 0 rfl) ?_
  refine lv_iload_n hx hb dL_law_337 rfl (lv_at hl 3 rfl) ?_
  refine lv_iconst (v := 1) hx hb dL_law_338 (by decide) ?_
  refine lv_iadd hx hb dL_law_339 ?_
  refine va_sld hx hb hX hbl hbA hS h_1 dL_law_340 ?_
  refine W.eq (g2 := F0 m 341 ls [.int (xs (nI i + 1).toNatClampNeg), .ref (h 0), .int (pX2_of (xs (nI i + 1).toNatClampNeg) (xs (nI i + 2).toNatClampNeg) t)]) rfl ?_
  refine lv_aload_n hx hb dL_law_341 rfl (lv_at hl 0 rfl) ?_
  refine lv_iload_n hx hb dL_law_342 rfl (lv_at hl 3 rfl) ?_
  refine lv_iconst (v := 2) hx hb dL_law_343 (by decide) ?_
  refine lv_iadd hx hb dL_law_344 ?_
  refine va_sld hx hb hX hbl hbA hS h_2 dL_law_345 ?_
  refine W.eq (g2 := F0 m 346 ls [.int (xs (nI i + 2).toNatClampNeg), .int (xs (nI i + 1).toNatClampNeg), .ref (h 0), .int (pX2_of (xs (nI i + 1).toNatClampNeg) (xs (nI i + 2).toNatClampNeg) t)]) rfl ?_
  refine lc_m hP hD hS hA (lr_V (As := [.int (xs (nI i + 1).toNatClampNeg), .int (xs (nI i + 2).toNatClampNeg)]) (rest := [.int (pX2_of (xs (nI i + 1).toNatClampNeg) (xs (nI i + 2).toNatClampNeg) t)]) ⟨hx, hb, hml, hown, hts⟩ (ctX3_of l G cI cC cZ cR h y (xs (nI i + 1).toNatClampNeg) (xs (nI i + 2).toNatClampNeg) hR.mf) (cwV 2 hts gL_law_X3_of rfl rfl rfl (by decide +kernel) ⟨Nat.le_of_ble_eq_true rfl, Nat.le_of_ble_eq_true rfl⟩) (md_recv hK (lM hP) rfl) hK (lM hP) (lMD hD) hN rfl hl.1 rfl (Nat.le_of_ble_eq_true rfl) dL_law_346 hc hs) (fun H locs hP hD hS => ?_)
  have hE := of_eq hR.1.1 (xs (nI i + 1).toNatClampNeg) (xs (nI i + 2).toNatClampNeg)
  have hR1 : RT t y := hR
  refine lv_icmp_eq (tgt := 689) hx hb dL_law_349 (by decide) (fun _ => ?_) (fun cz => absurd hE cz)
  exact hgo hh _ _ hR1 H locs ls hP hD hS hl
set_option maxHeartbeats 4000000 in
set_option maxRecDepth 100000 in
theorem lk_ofKeeper {p : Program} {l : Launch} {e : Env} {s : State} {m : MethodId} {below : List Frame} {meth : Method} {c : Code} {b L i : Nat} {xs : Nat → Int32} {G : va_G} {cI cC cZ cR : ClassId} {ho : Nat → Nat} {hp h : Ad} {cells slots : Nat} {Q : State → Prop} (C0 : LX p s m meth c b L xs G cI cC cZ cR) (hc : cells ≤ 600000) (hs : slots ≤ 7302249) (hi : i + 3 ≤ L) (hgo : GO p l e s m below meth c b G cI cC cZ cR ho hp h cells slots Q (nI i)) {hh : Nat → Ad} {t : TV} {y : SR} (hR : RT t y) {H : Heap} {locs : List Loc} {ls : Array Slot} (hP : va_P G vwCl (wX cI cC cZ cR ho hh hp t ++ wMo cI h y) H) (hD : va_D (AL s) (wX cI cC cZ cR ho hh hp t ++ wMo cI h y)) (hS : va_S (AL s) s.heap H locs) (hl : lv_has ls 4 [(0, .ref b), (1, .ref (ho 0)), (2, .ref (h 0)), (3, .int (nI i))]) : W p l e room_1 s m #[Value.ref b] below meth c H locs cells slots Q (F0 m 354 ls []) := by
  obtain ⟨hx, hb, hr, hml, hown, hts, hX, hbl, hlocks, hK, hN, hST, hO, hL⟩ := C0
  have hA : ∀ q : Nat, s.heap.size ≤ q → AL s q := fun _ z => z
  have hbA : ¬ AL s b := Nat.not_le.mpr hbl
  have h_1 : vp_in (nI i + 1) L := by rw [nI_1]; exact vp_in_nI (by omega) (by omega)
  have h_2 : vp_in (nI i + 2) L := by rw [show (2 : Int32) = nI 2 from rfl, nI_add]; exact vp_in_nI (by omega) (by omega)
  refine lv_aload_n hx hb dL_law_354 rfl (lv_at hl 1 rfl) ?_
  refine lv_aload_n hx hb dL_law_355 rfl (lv_at hl 0 rfl) ?_
  refine lv_iload_n hx hb dL_law_356 rfl (lv_at hl 3 rfl) ?_
  refine lv_iconst (v := 1) hx hb dL_law_357 (by decide) ?_
  refine lv_iadd hx hb dL_law_358 ?_
  refine va_sld hx hb hX hbl hbA hS h_1 dL_law_359 ?_
  refine W.eq (g2 := F0 m 360 ls [.int (xs (nI i + 1).toNatClampNeg), .ref (ho 0)]) rfl ?_
  refine lv_aload_n hx hb dL_law_360 rfl (lv_at hl 0 rfl) ?_
  refine lv_iload_n hx hb dL_law_361 rfl (lv_at hl 3 rfl) ?_
  refine lv_iconst (v := 2) hx hb dL_law_362 (by decide) ?_
  refine lv_iadd hx hb dL_law_363 ?_
  refine va_sld hx hb hX hbl hbA hS h_2 dL_law_364 ?_
  refine W.eq (g2 := F0 m 365 ls [.int (xs (nI i + 2).toNatClampNeg), .int (xs (nI i + 1).toNatClampNeg), .ref (ho 0)]) rfl ?_
  refine lc_i hP hD hS hA (lr_V (As := [.int (xs (nI i + 1).toNatClampNeg), .int (xs (nI i + 2).toNatClampNeg)]) (rest := []) ⟨hx, hb, hml, hown, hts⟩ (ctX2_ofKeeper l G cI cC cZ cR ho hh hp t (xs (nI i + 1).toNatClampNeg) (xs (nI i + 2).toNatClampNeg)) (cwV 2 hts gL_law_X2_ofKeeper rfl rfl rfl (by decide +kernel) ⟨Nat.le_of_ble_eq_true rfl, Nat.le_of_ble_eq_true rfl⟩) (tx_recv hK (lX hP)) hK (lX hP) (lXD hD) hN rfl hl.1 rfl (Nat.le_of_ble_eq_true rfl) dL_law_365 hc hs) (fun hh H locs hP hD hS => ?_)
  refine lv_aload_n hx hb dL_law_368 rfl (lv_at hl 2 rfl) ?_
  refine lv_aload_n hx hb dL_law_369 rfl (lv_at hl 0 rfl) ?_
  refine lv_iload_n hx hb dL_law_370 rfl (lv_at hl 3 rfl) ?_
  refine lv_iconst (v := 1) hx hb dL_law_371 (by decide) ?_
  refine lv_iadd hx hb dL_law_372 ?_
  refine va_sld hx hb hX hbl hbA hS h_1 dL_law_373 ?_
  refine W.eq (g2 := F0 m 374 ls [.int (xs (nI i + 1).toNatClampNeg), .ref (h 0), .int (pX2_ofKeeper (xs (nI i + 1).toNatClampNeg) (xs (nI i + 2).toNatClampNeg) t)]) rfl ?_
  refine lv_aload_n hx hb dL_law_374 rfl (lv_at hl 0 rfl) ?_
  refine lv_iload_n hx hb dL_law_375 rfl (lv_at hl 3 rfl) ?_
  refine lv_iconst (v := 2) hx hb dL_law_376 (by decide) ?_
  refine lv_iadd hx hb dL_law_377 ?_
  refine va_sld hx hb hX hbl hbA hS h_2 dL_law_378 ?_
  refine W.eq (g2 := F0 m 379 ls [.int (xs (nI i + 2).toNatClampNeg), .int (xs (nI i + 1).toNatClampNeg), .ref (h 0), .int (pX2_ofKeeper (xs (nI i + 1).toNatClampNeg) (xs (nI i + 2).toNatClampNeg) t)]) rfl ?_
  refine lc_m hP hD hS hA (lr_V (As := [.int (xs (nI i + 1).toNatClampNeg), .int (xs (nI i + 2).toNatClampNeg)]) (rest := [.int (pX2_ofKeeper (xs (nI i + 1).toNatClampNeg) (xs (nI i + 2).toNatClampNeg) t)]) ⟨hx, hb, hml, hown, hts⟩ (ctX3_ofKeeper l G cI cC cZ cR h y (xs (nI i + 1).toNatClampNeg) (xs (nI i + 2).toNatClampNeg) hR.mf) (cwV 2 hts gL_law_X3_ofKeeper rfl rfl rfl (by decide +kernel) ⟨Nat.le_of_ble_eq_true rfl, Nat.le_of_ble_eq_true rfl⟩) (md_recv hK (lM hP) rfl) hK (lM hP) (lMD hD) hN rfl hl.1 rfl (Nat.le_of_ble_eq_true rfl) dL_law_379 hc hs) (fun H locs hP hD hS => ?_)
  have hE := ofKeeper_eq hR.1.1 hR.1.2.1 (xs (nI i + 1).toNatClampNeg) (xs (nI i + 2).toNatClampNeg)
  have hR1 : RT t y := hR
  refine lv_icmp_eq (tgt := 689) hx hb dL_law_382 (by decide) (fun _ => ?_) (fun cz => absurd hE cz)
  exact hgo hh _ _ hR1 H locs ls hP hD hS hl
set_option maxHeartbeats 4000000 in
set_option maxRecDepth 100000 in
theorem lk_count {p : Program} {l : Launch} {e : Env} {s : State} {m : MethodId} {below : List Frame} {meth : Method} {c : Code} {b L i : Nat} {xs : Nat → Int32} {G : va_G} {cI cC cZ cR : ClassId} {ho : Nat → Nat} {hp h : Ad} {cells slots : Nat} {Q : State → Prop} (C0 : LX p s m meth c b L xs G cI cC cZ cR) (hc : cells ≤ 600000) (hs : slots ≤ 7302249) (hi : i + 3 ≤ L) (hgo : GO p l e s m below meth c b G cI cC cZ cR ho hp h cells slots Q (nI i)) {hh : Nat → Ad} {t : TV} {y : SR} (hR : RT t y) {H : Heap} {locs : List Loc} {ls : Array Slot} (hP : va_P G vwCl (wX cI cC cZ cR ho hh hp t ++ wMo cI h y) H) (hD : va_D (AL s) (wX cI cC cZ cR ho hh hp t ++ wMo cI h y)) (hS : va_S (AL s) s.heap H locs) (hl : lv_has ls 4 [(0, .ref b), (1, .ref (ho 0)), (2, .ref (h 0)), (3, .int (nI i))]) : W p l e room_1 s m #[Value.ref b] below meth c H locs cells slots Q (F0 m 387 ls []) := by
  obtain ⟨hx, hb, hr, hml, hown, hts, hX, hbl, hlocks, hK, hN, hST, hO, hL⟩ := C0
  have hA : ∀ q : Nat, s.heap.size ≤ q → AL s q := fun _ z => z
  have hbA : ¬ AL s b := Nat.not_le.mpr hbl
  have h_1 : vp_in (nI i + 1) L := by rw [nI_1]; exact vp_in_nI (by omega) (by omega)
  refine lv_aload_n hx hb dL_law_387 rfl (lv_at hl 1 rfl) ?_
  refine lv_aload_n hx hb dL_law_388 rfl (lv_at hl 0 rfl) ?_
  refine lv_iload_n hx hb dL_law_389 rfl (lv_at hl 3 rfl) ?_
  refine lv_iconst (v := 1) hx hb dL_law_390 (by decide) ?_
  refine lv_iadd hx hb dL_law_391 ?_
  refine va_sld hx hb hX hbl hbA hS h_1 dL_law_392 ?_
  refine W.eq (g2 := F0 m 393 ls [.int (xs (nI i + 1).toNatClampNeg), .ref (ho 0)]) rfl ?_
  refine lc_i hP hD hS hA (lr_V (As := [.int (xs (nI i + 1).toNatClampNeg)]) (rest := []) ⟨hx, hb, hml, hown, hts⟩ (ctX2_count l G cI cC cZ cR ho hh hp t (xs (nI i + 1).toNatClampNeg)) (cwV 1 hts gL_law_X2_count rfl rfl rfl (by decide +kernel) ⟨Nat.le_of_ble_eq_true rfl, Nat.le_of_ble_eq_true rfl⟩) (tx_recv hK (lX hP)) hK (lX hP) (lXD hD) hN rfl hl.1 rfl (Nat.le_of_ble_eq_true rfl) dL_law_393 hc hs) (fun hh H locs hP hD hS => ?_)
  refine lv_aload_n hx hb dL_law_396 rfl (lv_at hl 2 rfl) ?_
  refine lv_aload_n hx hb dL_law_397 rfl (lv_at hl 0 rfl) ?_
  refine lv_iload_n hx hb dL_law_398 rfl (lv_at hl 3 rfl) ?_
  refine lv_iconst (v := 1) hx hb dL_law_399 (by decide) ?_
  refine lv_iadd hx hb dL_law_400 ?_
  refine va_sld hx hb hX hbl hbA hS h_1 dL_law_401 ?_
  refine W.eq (g2 := F0 m 402 ls [.int (xs (nI i + 1).toNatClampNeg), .ref (h 0), .int (pX2_count (xs (nI i + 1).toNatClampNeg) t)]) rfl ?_
  refine lc_m hP hD hS hA (lr_V (As := [.int (xs (nI i + 1).toNatClampNeg)]) (rest := [.int (pX2_count (xs (nI i + 1).toNatClampNeg) t)]) ⟨hx, hb, hml, hown, hts⟩ (ctX3_count l G cI cC cZ cR h y (xs (nI i + 1).toNatClampNeg) hR.mf) (cwV 1 hts gL_law_X3_count rfl rfl rfl (by decide +kernel) ⟨Nat.le_of_ble_eq_true rfl, Nat.le_of_ble_eq_true rfl⟩) (md_recv hK (lM hP) rfl) hK (lM hP) (lMD hD) hN rfl hl.1 rfl (Nat.le_of_ble_eq_true rfl) dL_law_402 hc hs) (fun H locs hP hD hS => ?_)
  have hE := count_eq hR.1.1 hR.2.2.2.1 hR.2.1.1 (xs (nI i + 1).toNatClampNeg)
  have hR1 : RT t y := hR
  refine lv_icmp_eq (tgt := 689) hx hb dL_law_405 (by decide) (fun _ => ?_) (fun cz => absurd hE cz)
  exact hgo hh _ _ hR1 H locs ls hP hD hS hl
set_option maxHeartbeats 4000000 in
set_option maxRecDepth 100000 in
theorem lk_worst {p : Program} {l : Launch} {e : Env} {s : State} {m : MethodId} {below : List Frame} {meth : Method} {c : Code} {b L i : Nat} {xs : Nat → Int32} {G : va_G} {cI cC cZ cR : ClassId} {ho : Nat → Nat} {hp h : Ad} {cells slots : Nat} {Q : State → Prop} (C0 : LX p s m meth c b L xs G cI cC cZ cR) (hc : cells ≤ 600000) (hs : slots ≤ 7302249) (hi : i + 3 ≤ L) (hgo : GO p l e s m below meth c b G cI cC cZ cR ho hp h cells slots Q (nI i)) {hh : Nat → Ad} {t : TV} {y : SR} (hR : RT t y) {H : Heap} {locs : List Loc} {ls : Array Slot} (hP : va_P G vwCl (wX cI cC cZ cR ho hh hp t ++ wMo cI h y) H) (hD : va_D (AL s) (wX cI cC cZ cR ho hh hp t ++ wMo cI h y)) (hS : va_S (AL s) s.heap H locs) (hl : lv_has ls 4 [(0, .ref b), (1, .ref (ho 0)), (2, .ref (h 0)), (3, .int (nI i))]) : W p l e room_1 s m #[Value.ref b] below meth c H locs cells slots Q (F0 m 410 ls []) := by
  obtain ⟨hx, hb, hr, hml, hown, hts, hX, hbl, hlocks, hK, hN, hST, hO, hL⟩ := C0
  have hA : ∀ q : Nat, s.heap.size ≤ q → AL s q := fun _ z => z
  have hbA : ¬ AL s b := Nat.not_le.mpr hbl
  refine lv_aload_n hx hb dL_law_410 rfl (lv_at hl 1 rfl) ?_
  refine lc_i hP hD hS hA (lr_V (As := []) (rest := []) ⟨hx, hb, hml, hown, hts⟩ (ctX2_worst l G cI cC cZ cR ho hh hp t) (cwV 0 hts gL_law_X2_worst rfl rfl rfl (by decide +kernel) ⟨Nat.le_of_ble_eq_true rfl, Nat.le_of_ble_eq_true rfl⟩) (tx_recv hK (lX hP)) hK (lX hP) (lXD hD) hN rfl hl.1 rfl (Nat.le_of_ble_eq_true rfl) dL_law_411 hc hs) (fun hh H locs hP hD hS => ?_)
  refine lv_aload_n hx hb dL_law_414 rfl (lv_at hl 2 rfl) ?_
  refine lc_m hP hD hS hA (lr_V (As := []) (rest := [.int (pX2_worst t)]) ⟨hx, hb, hml, hown, hts⟩ (ctX3_worst l G cI cC cZ cR h y) (cwV 0 hts gL_law_X3_worst rfl rfl rfl (by decide +kernel) ⟨Nat.le_of_ble_eq_true rfl, Nat.le_of_ble_eq_true rfl⟩) (md_recv hK (lM hP) rfl) hK (lM hP) (lMD hD) hN rfl hl.1 rfl (Nat.le_of_ble_eq_true rfl) dL_law_415 hc hs) (fun H locs hP hD hS => ?_)
  have hE := worst_eq hR.1.1
  have hR1 : RT t y := hR
  refine lv_icmp_eq (tgt := 689) hx hb dL_law_418 (by decide) (fun _ => ?_) (fun cz => absurd hE cz)
  exact hgo hh _ _ hR1 H locs ls hP hD hS hl
set_option maxHeartbeats 4000000 in
set_option maxRecDepth 100000 in
theorem lk_why {p : Program} {l : Launch} {e : Env} {s : State} {m : MethodId} {below : List Frame} {meth : Method} {c : Code} {b L i : Nat} {xs : Nat → Int32} {G : va_G} {cI cC cZ cR : ClassId} {ho : Nat → Nat} {hp h : Ad} {cells slots : Nat} {Q : State → Prop} (C0 : LX p s m meth c b L xs G cI cC cZ cR) (hc : cells ≤ 600000) (hs : slots ≤ 7302249) (hi : i + 3 ≤ L) (hgo : GO p l e s m below meth c b G cI cC cZ cR ho hp h cells slots Q (nI i)) {hh : Nat → Ad} {t : TV} {y : SR} (hR : RT t y) {H : Heap} {locs : List Loc} {ls : Array Slot} (hP : va_P G vwCl (wX cI cC cZ cR ho hh hp t ++ wMo cI h y) H) (hD : va_D (AL s) (wX cI cC cZ cR ho hh hp t ++ wMo cI h y)) (hS : va_S (AL s) s.heap H locs) (hl : lv_has ls 4 [(0, .ref b), (1, .ref (ho 0)), (2, .ref (h 0)), (3, .int (nI i))]) : W p l e room_1 s m #[Value.ref b] below meth c H locs cells slots Q (F0 m 423 ls []) := by
  obtain ⟨hx, hb, hr, hml, hown, hts, hX, hbl, hlocks, hK, hN, hST, hO, hL⟩ := C0
  have hA : ∀ q : Nat, s.heap.size ≤ q → AL s q := fun _ z => z
  have hbA : ¬ AL s b := Nat.not_le.mpr hbl
  have h_1 : vp_in (nI i + 1) L := by rw [nI_1]; exact vp_in_nI (by omega) (by omega)
  refine lv_aload_n hx hb dL_law_423 rfl (lv_at hl 1 rfl) ?_
  refine lv_aload_n hx hb dL_law_424 rfl (lv_at hl 0 rfl) ?_
  refine lv_iload_n hx hb dL_law_425 rfl (lv_at hl 3 rfl) ?_
  refine lv_iconst (v := 1) hx hb dL_law_426 (by decide) ?_
  refine lv_iadd hx hb dL_law_427 ?_
  refine va_sld hx hb hX hbl hbA hS h_1 dL_law_428 ?_
  refine W.eq (g2 := F0 m 429 ls [.int (xs (nI i + 1).toNatClampNeg), .ref (ho 0)]) rfl ?_
  refine lc_i hP hD hS hA (lr_V (As := [.int (xs (nI i + 1).toNatClampNeg)]) (rest := []) ⟨hx, hb, hml, hown, hts⟩ (ctX2_why l G cI cC cZ cR ho hh hp t (xs (nI i + 1).toNatClampNeg)) (cwV 1 hts gL_law_X2_why rfl rfl rfl (by decide +kernel) ⟨Nat.le_of_ble_eq_true rfl, Nat.le_of_ble_eq_true rfl⟩) (tx_recv hK (lX hP)) hK (lX hP) (lXD hD) hN rfl hl.1 rfl (Nat.le_of_ble_eq_true rfl) dL_law_429 hc hs) (fun hh H locs hP hD hS => ?_)
  refine lv_aload_n hx hb dL_law_432 rfl (lv_at hl 2 rfl) ?_
  refine lv_aload_n hx hb dL_law_433 rfl (lv_at hl 0 rfl) ?_
  refine lv_iload_n hx hb dL_law_434 rfl (lv_at hl 3 rfl) ?_
  refine lv_iconst (v := 1) hx hb dL_law_435 (by decide) ?_
  refine lv_iadd hx hb dL_law_436 ?_
  refine va_sld hx hb hX hbl hbA hS h_1 dL_law_437 ?_
  refine W.eq (g2 := F0 m 438 ls [.int (xs (nI i + 1).toNatClampNeg), .ref (h 0), .int (pX2_why (xs (nI i + 1).toNatClampNeg) t)]) rfl ?_
  refine lc_m hP hD hS hA (lr_V (As := [.int (xs (nI i + 1).toNatClampNeg)]) (rest := [.int (pX2_why (xs (nI i + 1).toNatClampNeg) t)]) ⟨hx, hb, hml, hown, hts⟩ (ctX3_why l G cI cC cZ cR h y (xs (nI i + 1).toNatClampNeg) hR.mf) (cwV 1 hts gL_law_X3_why rfl rfl rfl (by decide +kernel) ⟨Nat.le_of_ble_eq_true rfl, Nat.le_of_ble_eq_true rfl⟩) (md_recv hK (lM hP) rfl) hK (lM hP) (lMD hD) hN rfl hl.1 rfl (Nat.le_of_ble_eq_true rfl) dL_law_438 hc hs) (fun H locs hP hD hS => ?_)
  have hE := why_eq hR.1.1 (xs (nI i + 1).toNatClampNeg)
  have hR1 : RT t y := hR
  refine lv_icmp_eq (tgt := 689) hx hb dL_law_441 (by decide) (fun _ => ?_) (fun cz => absurd hE cz)
  exact hgo hh _ _ hR1 H locs ls hP hD hS hl
