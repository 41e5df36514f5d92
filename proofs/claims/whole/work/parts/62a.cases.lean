set_option maxHeartbeats 4000000 in
set_option maxRecDepth 100000 in
theorem lk_set {p : Program} {l : Launch} {e : Env} {s : State} {m : MethodId} {below : List Frame} {meth : Method} {c : Code} {b L i : Nat} {xs : Nat → Int32} {G : va_G} {cI cC cZ cR : ClassId} {ho : Nat → Nat} {hp h : Ad} {cells slots : Nat} {Q : State → Prop} (C0 : LX p s m meth c b L xs G cI cC cZ cR) (hc : cells ≤ 600000) (hs : slots ≤ 7302249) (hi : i + 3 ≤ L) (hgo : GO p l e s m below meth c b G cI cC cZ cR ho hp h cells slots Q (nI i)) {hh : Nat → Ad} {t : TV} {y : SR} (hR : RT t y) {H : Heap} {locs : List Loc} {ls : Array Slot} (hP : va_P G vwCl (wX cI cC cZ cR ho hh hp t ++ wMo cI h y) H) (hD : va_D (AL s) (wX cI cC cZ cR ho hh hp t ++ wMo cI h y)) (hS : va_S (AL s) s.heap H locs) (hl : lv_has ls 4 [(0, .ref b), (1, .ref (ho 0)), (2, .ref (h 0)), (3, .int (nI i))]) : W p l e room_1 s m #[Value.ref b] below meth c H locs cells slots Q (F0 m 140 ls []) := by
  obtain ⟨hx, hb, hr, hml, hown, hts, hX, hbl, hlocks, hK, hN, hST, hO, hL⟩ := C0
  have hA : ∀ q : Nat, s.heap.size ≤ q → AL s q := fun _ z => z
  have hbA : ¬ AL s b := Nat.not_le.mpr hbl
  have h_1 : vp_in (nI i + 1) L := by rw [nI_1]; exact vp_in_nI (by omega) (by omega)
  have h_2 : vp_in (nI i + 2) L := by rw [show (2 : Int32) = nI 2 from rfl, nI_add]; exact vp_in_nI (by omega) (by omega)
  refine lv_aload_n hx hb dL_law_140 rfl (lv_at hl 1 rfl) ?_
  refine lv_aload_n hx hb dL_law_141 rfl (lv_at hl 0 rfl) ?_
  refine lv_iload_n hx hb dL_law_142 rfl (lv_at hl 3 rfl) ?_
  refine lv_iconst (v := 1) hx hb dL_law_143 (by decide) ?_
  refine lv_iadd hx hb dL_law_144 ?_
  refine va_sld hx hb hX hbl hbA hS h_1 dL_law_145 ?_
  refine W.eq (g2 := F0 m 146 ls [.int (xs (nI i + 1).toNatClampNeg), .ref (ho 0)]) rfl ?_
  refine lv_aload_n hx hb dL_law_146 rfl (lv_at hl 0 rfl) ?_
  refine lv_iload_n hx hb dL_law_147 rfl (lv_at hl 3 rfl) ?_
  refine lv_iconst (v := 2) hx hb dL_law_148 (by decide) ?_
  refine lv_iadd hx hb dL_law_149 ?_
  refine va_sld hx hb hX hbl hbA hS h_2 dL_law_150 ?_
  refine W.eq (g2 := F0 m 151 ls [.int (xs (nI i + 2).toNatClampNeg), .int (xs (nI i + 1).toNatClampNeg), .ref (ho 0)]) rfl ?_
  refine lc_x hP hD hS hA (lr_VS hST (As := [.int (xs (nI i + 1).toNatClampNeg), .int (xs (nI i + 2).toNatClampNeg)]) (rest := []) ⟨hx, hb, hml, hown, hts⟩ (ctX2_set l G cI cC cZ cR ho hh hp t (xs (nI i + 1).toNatClampNeg) (xs (nI i + 2).toNatClampNeg)) (cwV 2 hts gL_law_X2_set rfl rfl rfl (by decide +kernel) ⟨Nat.le_of_ble_eq_true rfl, Nat.le_of_ble_eq_true rfl⟩) (tx_recv hK (lX hP)) hS hA hK (lX hP) (lXD hD) hN rfl hl.1 rfl (Nat.le_of_ble_eq_true rfl) dL_law_151 hc hs) (fun hh H locs hP hD hS => ?_)
  refine lv_aload_n hx hb dL_law_154 rfl (lv_at hl 2 rfl) ?_
  refine lv_aload_n hx hb dL_law_155 rfl (lv_at hl 0 rfl) ?_
  refine lv_iload_n hx hb dL_law_156 rfl (lv_at hl 3 rfl) ?_
  refine lv_iconst (v := 1) hx hb dL_law_157 (by decide) ?_
  refine lv_iadd hx hb dL_law_158 ?_
  refine va_sld hx hb hX hbl hbA hS h_1 dL_law_159 ?_
  refine W.eq (g2 := F0 m 160 ls [.int (xs (nI i + 1).toNatClampNeg), .ref (h 0), .int (pX2_set (xs (nI i + 1).toNatClampNeg) (xs (nI i + 2).toNatClampNeg) t).1]) rfl ?_
  refine lv_aload_n hx hb dL_law_160 rfl (lv_at hl 0 rfl) ?_
  refine lv_iload_n hx hb dL_law_161 rfl (lv_at hl 3 rfl) ?_
  refine lv_iconst (v := 2) hx hb dL_law_162 (by decide) ?_
  refine lv_iadd hx hb dL_law_163 ?_
  refine va_sld hx hb hX hbl hbA hS h_2 dL_law_164 ?_
  refine W.eq (g2 := F0 m 165 ls [.int (xs (nI i + 2).toNatClampNeg), .int (xs (nI i + 1).toNatClampNeg), .ref (h 0), .int (pX2_set (xs (nI i + 1).toNatClampNeg) (xs (nI i + 2).toNatClampNeg) t).1]) rfl ?_
  refine lc_m hP hD hS hA (lr_V (As := [.int (xs (nI i + 1).toNatClampNeg), .int (xs (nI i + 2).toNatClampNeg)]) (rest := [.int (pX2_set (xs (nI i + 1).toNatClampNeg) (xs (nI i + 2).toNatClampNeg) t).1]) ⟨hx, hb, hml, hown, hts⟩ (ctX3_set l G cI cC cZ cR h y (xs (nI i + 1).toNatClampNeg) (xs (nI i + 2).toNatClampNeg) hR.r0 hR.r6) (cwV 2 hts gL_law_X3_set rfl rfl rfl (by decide +kernel) ⟨Nat.le_of_ble_eq_true rfl, Nat.le_of_ble_eq_true rfl⟩) (md_recv hK (lM hP) rfl) hK (lM hP) (lMD hD) hN rfl hl.1 rfl (Nat.le_of_ble_eq_true rfl) dL_law_165 hc hs) (fun H locs hP hD hS => ?_)
  obtain ⟨hE, hR1⟩ := set_eq hR (xs (nI i + 1).toNatClampNeg) (xs (nI i + 2).toNatClampNeg)
  refine lv_icmp_eq (tgt := 689) hx hb dL_law_168 (by decide) (fun _ => ?_) (fun cz => absurd hE cz)
  exact hgo hh _ _ hR1 H locs ls hP hD hS hl
set_option maxHeartbeats 4000000 in
set_option maxRecDepth 100000 in
theorem lk_rain {p : Program} {l : Launch} {e : Env} {s : State} {m : MethodId} {below : List Frame} {meth : Method} {c : Code} {b L i : Nat} {xs : Nat → Int32} {G : va_G} {cI cC cZ cR : ClassId} {ho : Nat → Nat} {hp h : Ad} {cells slots : Nat} {Q : State → Prop} (C0 : LX p s m meth c b L xs G cI cC cZ cR) (hc : cells ≤ 600000) (hs : slots ≤ 7302249) (hi : i + 3 ≤ L) (hgo : GO p l e s m below meth c b G cI cC cZ cR ho hp h cells slots Q (nI i)) {hh : Nat → Ad} {t : TV} {y : SR} (hR : RT t y) {H : Heap} {locs : List Loc} {ls : Array Slot} (hP : va_P G vwCl (wX cI cC cZ cR ho hh hp t ++ wMo cI h y) H) (hD : va_D (AL s) (wX cI cC cZ cR ho hh hp t ++ wMo cI h y)) (hS : va_S (AL s) s.heap H locs) (hl : lv_has ls 4 [(0, .ref b), (1, .ref (ho 0)), (2, .ref (h 0)), (3, .int (nI i))]) : W p l e room_1 s m #[Value.ref b] below meth c H locs cells slots Q (F0 m 173 ls []) := by
  obtain ⟨hx, hb, hr, hml, hown, hts, hX, hbl, hlocks, hK, hN, hST, hO, hL⟩ := C0
  have hA : ∀ q : Nat, s.heap.size ≤ q → AL s q := fun _ z => z
  have hbA : ¬ AL s b := Nat.not_le.mpr hbl
  have h_1 : vp_in (nI i + 1) L := by rw [nI_1]; exact vp_in_nI (by omega) (by omega)
  refine lv_aload_n hx hb dL_law_173 rfl (lv_at hl 1 rfl) ?_
  refine lv_aload_n hx hb dL_law_174 rfl (lv_at hl 0 rfl) ?_
  refine lv_iload_n hx hb dL_law_175 rfl (lv_at hl 3 rfl) ?_
  refine lv_iconst (v := 1) hx hb dL_law_176 (by decide) ?_
  refine lv_iadd hx hb dL_law_177 ?_
  refine va_sld hx hb hX hbl hbA hS h_1 dL_law_178 ?_
  refine W.eq (g2 := F0 m 179 ls [.int (xs (nI i + 1).toNatClampNeg), .ref (ho 0)]) rfl ?_
  refine lc_x hP hD hS hA (lr_V (As := [.int (xs (nI i + 1).toNatClampNeg)]) (rest := []) ⟨hx, hb, hml, hown, hts⟩ (ctX2_rain l G cI cC cZ cR ho hh hp t (xs (nI i + 1).toNatClampNeg)) (cwV 1 hts gL_law_X2_rain rfl rfl rfl (by decide +kernel) ⟨Nat.le_of_ble_eq_true rfl, Nat.le_of_ble_eq_true rfl⟩) (tx_recv hK (lX hP)) hK (lX hP) (lXD hD) hN rfl hl.1 rfl (Nat.le_of_ble_eq_true rfl) dL_law_179 hc hs) (fun hh H locs hP hD hS => ?_)
  refine lv_aload_n hx hb dL_law_182 rfl (lv_at hl 2 rfl) ?_
  refine lv_aload_n hx hb dL_law_183 rfl (lv_at hl 0 rfl) ?_
  refine lv_iload_n hx hb dL_law_184 rfl (lv_at hl 3 rfl) ?_
  refine lv_iconst (v := 1) hx hb dL_law_185 (by decide) ?_
  refine lv_iadd hx hb dL_law_186 ?_
  refine va_sld hx hb hX hbl hbA hS h_1 dL_law_187 ?_
  refine W.eq (g2 := F0 m 188 ls [.int (xs (nI i + 1).toNatClampNeg), .ref (h 0), .int (pX2_rain (xs (nI i + 1).toNatClampNeg) t).1]) rfl ?_
  refine lc_m hP hD hS hA (lr_V (As := [.int (xs (nI i + 1).toNatClampNeg)]) (rest := [.int (pX2_rain (xs (nI i + 1).toNatClampNeg) t).1]) ⟨hx, hb, hml, hown, hts⟩ (ctX3_rain l G cI cC cZ cR h y (xs (nI i + 1).toNatClampNeg) hR.r0 hR.r6) (cwV 1 hts gL_law_X3_rain rfl rfl rfl (by decide +kernel) ⟨Nat.le_of_ble_eq_true rfl, Nat.le_of_ble_eq_true rfl⟩) (md_recv hK (lM hP) rfl) hK (lM hP) (lMD hD) hN rfl hl.1 rfl (Nat.le_of_ble_eq_true rfl) dL_law_188 hc hs) (fun H locs hP hD hS => ?_)
  obtain ⟨hE, hR1⟩ := rain_eq hR (xs (nI i + 1).toNatClampNeg)
  refine lv_icmp_eq (tgt := 689) hx hb dL_law_191 (by decide) (fun _ => ?_) (fun cz => absurd hE cz)
  exact hgo hh _ _ hR1 H locs ls hP hD hS hl
set_option maxHeartbeats 4000000 in
set_option maxRecDepth 100000 in
theorem lk_piano {p : Program} {l : Launch} {e : Env} {s : State} {m : MethodId} {below : List Frame} {meth : Method} {c : Code} {b L i : Nat} {xs : Nat → Int32} {G : va_G} {cI cC cZ cR : ClassId} {ho : Nat → Nat} {hp h : Ad} {cells slots : Nat} {Q : State → Prop} (C0 : LX p s m meth c b L xs G cI cC cZ cR) (hc : cells ≤ 600000) (hs : slots ≤ 7302249) (hi : i + 3 ≤ L) (hgo : GO p l e s m below meth c b G cI cC cZ cR ho hp h cells slots Q (nI i)) {hh : Nat → Ad} {t : TV} {y : SR} (hR : RT t y) {H : Heap} {locs : List Loc} {ls : Array Slot} (hP : va_P G vwCl (wX cI cC cZ cR ho hh hp t ++ wMo cI h y) H) (hD : va_D (AL s) (wX cI cC cZ cR ho hh hp t ++ wMo cI h y)) (hS : va_S (AL s) s.heap H locs) (hl : lv_has ls 4 [(0, .ref b), (1, .ref (ho 0)), (2, .ref (h 0)), (3, .int (nI i))]) : W p l e room_1 s m #[Value.ref b] below meth c H locs cells slots Q (F0 m 196 ls []) := by
  obtain ⟨hx, hb, hr, hml, hown, hts, hX, hbl, hlocks, hK, hN, hST, hO, hL⟩ := C0
  have hA : ∀ q : Nat, s.heap.size ≤ q → AL s q := fun _ z => z
  have hbA : ¬ AL s b := Nat.not_le.mpr hbl
  have h_1 : vp_in (nI i + 1) L := by rw [nI_1]; exact vp_in_nI (by omega) (by omega)
  have h_2 : vp_in (nI i + 2) L := by rw [show (2 : Int32) = nI 2 from rfl, nI_add]; exact vp_in_nI (by omega) (by omega)
  refine lv_aload_n hx hb dL_law_196 rfl (lv_at hl 1 rfl) ?_
  refine lv_aload_n hx hb dL_law_197 rfl (lv_at hl 0 rfl) ?_
  refine lv_iload_n hx hb dL_law_198 rfl (lv_at hl 3 rfl) ?_
  refine lv_iconst (v := 1) hx hb dL_law_199 (by decide) ?_
  refine lv_iadd hx hb dL_law_200 ?_
  refine va_sld hx hb hX hbl hbA hS h_1 dL_law_201 ?_
  refine W.eq (g2 := F0 m 202 ls [.int (xs (nI i + 1).toNatClampNeg), .ref (ho 0)]) rfl ?_
  refine lv_aload_n hx hb dL_law_202 rfl (lv_at hl 0 rfl) ?_
  refine lv_iload_n hx hb dL_law_203 rfl (lv_at hl 3 rfl) ?_
  refine lv_iconst (v := 2) hx hb dL_law_204 (by decide) ?_
  refine lv_iadd hx hb dL_law_205 ?_
  refine va_sld hx hb hX hbl hbA hS h_2 dL_law_206 ?_
  refine W.eq (g2 := F0 m 207 ls [.int (xs (nI i + 2).toNatClampNeg), .int (xs (nI i + 1).toNatClampNeg), .ref (ho 0)]) rfl ?_
  refine lc_x hP hD hS hA (lr_V (As := [.int (xs (nI i + 1).toNatClampNeg), .int (xs (nI i + 2).toNatClampNeg)]) (rest := []) ⟨hx, hb, hml, hown, hts⟩ (ctX2_piano l G cI cC cZ cR ho hh hp t (xs (nI i + 1).toNatClampNeg) (xs (nI i + 2).toNatClampNeg)) (cwV 2 hts gL_law_X2_piano rfl rfl rfl (by decide +kernel) ⟨Nat.le_of_ble_eq_true rfl, Nat.le_of_ble_eq_true rfl⟩) (tx_recv hK (lX hP)) hK (lX hP) (lXD hD) hN rfl hl.1 rfl (Nat.le_of_ble_eq_true rfl) dL_law_207 hc hs) (fun hh H locs hP hD hS => ?_)
  refine lv_aload_n hx hb dL_law_210 rfl (lv_at hl 2 rfl) ?_
  refine lv_aload_n hx hb dL_law_211 rfl (lv_at hl 0 rfl) ?_
  refine lv_iload_n hx hb dL_law_212 rfl (lv_at hl 3 rfl) ?_
  refine lv_iconst (v := 1) hx hb dL_law_213 (by decide) ?_
  refine lv_iadd hx hb dL_law_214 ?_
  refine va_sld hx hb hX hbl hbA hS h_1 dL_law_215 ?_
  refine W.eq (g2 := F0 m 216 ls [.int (xs (nI i + 1).toNatClampNeg), .ref (h 0), .int (pX2_piano (xs (nI i + 1).toNatClampNeg) (xs (nI i + 2).toNatClampNeg) t).1]) rfl ?_
  refine lv_aload_n hx hb dL_law_216 rfl (lv_at hl 0 rfl) ?_
  refine lv_iload_n hx hb dL_law_217 rfl (lv_at hl 3 rfl) ?_
  refine lv_iconst (v := 2) hx hb dL_law_218 (by decide) ?_
  refine lv_iadd hx hb dL_law_219 ?_
  refine va_sld hx hb hX hbl hbA hS h_2 dL_law_220 ?_
  refine W.eq (g2 := F0 m 221 ls [.int (xs (nI i + 2).toNatClampNeg), .int (xs (nI i + 1).toNatClampNeg), .ref (h 0), .int (pX2_piano (xs (nI i + 1).toNatClampNeg) (xs (nI i + 2).toNatClampNeg) t).1]) rfl ?_
  refine lc_m hP hD hS hA (lr_V (As := [.int (xs (nI i + 1).toNatClampNeg), .int (xs (nI i + 2).toNatClampNeg)]) (rest := [.int (pX2_piano (xs (nI i + 1).toNatClampNeg) (xs (nI i + 2).toNatClampNeg) t).1]) ⟨hx, hb, hml, hown, hts⟩ (ctX3_piano l G cI cC cZ cR h y (xs (nI i + 1).toNatClampNeg) (xs (nI i + 2).toNatClampNeg) hR.r0 hR.r6) (cwV 2 hts gL_law_X3_piano rfl rfl rfl (by decide +kernel) ⟨Nat.le_of_ble_eq_true rfl, Nat.le_of_ble_eq_true rfl⟩) (md_recv hK (lM hP) rfl) hK (lM hP) (lMD hD) hN rfl hl.1 rfl (Nat.le_of_ble_eq_true rfl) dL_law_221 hc hs) (fun H locs hP hD hS => ?_)
  obtain ⟨hE, hR1⟩ := piano_eq hR (xs (nI i + 1).toNatClampNeg) (xs (nI i + 2).toNatClampNeg)
  refine lv_icmp_eq (tgt := 689) hx hb dL_law_224 (by decide) (fun _ => ?_) (fun cz => absurd hE cz)
  exact hgo hh _ _ hR1 H locs ls hP hD hS hl
set_option maxHeartbeats 4000000 in
set_option maxRecDepth 100000 in
theorem lk_take {p : Program} {l : Launch} {e : Env} {s : State} {m : MethodId} {below : List Frame} {meth : Method} {c : Code} {b L i : Nat} {xs : Nat → Int32} {G : va_G} {cI cC cZ cR : ClassId} {ho : Nat → Nat} {hp h : Ad} {cells slots : Nat} {Q : State → Prop} (C0 : LX p s m meth c b L xs G cI cC cZ cR) (hc : cells ≤ 600000) (hs : slots ≤ 7302249) (hi : i + 3 ≤ L) (hgo : GO p l e s m below meth c b G cI cC cZ cR ho hp h cells slots Q (nI i)) {hh : Nat → Ad} {t : TV} {y : SR} (hR : RT t y) {H : Heap} {locs : List Loc} {ls : Array Slot} (hP : va_P G vwCl (wX cI cC cZ cR ho hh hp t ++ wMo cI h y) H) (hD : va_D (AL s) (wX cI cC cZ cR ho hh hp t ++ wMo cI h y)) (hS : va_S (AL s) s.heap H locs) (hl : lv_has ls 4 [(0, .ref b), (1, .ref (ho 0)), (2, .ref (h 0)), (3, .int (nI i))]) : W p l e room_1 s m #[Value.ref b] below meth c H locs cells slots Q (F0 m 229 ls []) := by
  obtain ⟨hx, hb, hr, hml, hown, hts, hX, hbl, hlocks, hK, hN, hST, hO, hL⟩ := C0
  have hA : ∀ q : Nat, s.heap.size ≤ q → AL s q := fun _ z => z
  have hbA : ¬ AL s b := Nat.not_le.mpr hbl
  have h_1 : vp_in (nI i + 1) L := by rw [nI_1]; exact vp_in_nI (by omega) (by omega)
  refine lv_aload_n hx hb dL_law_229 rfl (lv_at hl 1 rfl) ?_
  refine lv_aload_n hx hb dL_law_230 rfl (lv_at hl 0 rfl) ?_
  refine lv_iload_n hx hb dL_law_231 rfl (lv_at hl 3 rfl) ?_
  refine lv_iconst (v := 1) hx hb dL_law_232 (by decide) ?_
  refine lv_iadd hx hb dL_law_233 ?_
  refine va_sld hx hb hX hbl hbA hS h_1 dL_law_234 ?_
  refine W.eq (g2 := F0 m 235 ls [.int (xs (nI i + 1).toNatClampNeg), .ref (ho 0)]) rfl ?_
  refine lc_x hP hD hS hA (lr_V (As := [.int (xs (nI i + 1).toNatClampNeg)]) (rest := []) ⟨hx, hb, hml, hown, hts⟩ (ctX2_take l G cI cC cZ cR ho hh hp t (xs (nI i + 1).toNatClampNeg)) (cwV 1 hts gL_law_X2_take rfl rfl rfl (by decide +kernel) ⟨Nat.le_of_ble_eq_true rfl, Nat.le_of_ble_eq_true rfl⟩) (tx_recv hK (lX hP)) hK (lX hP) (lXD hD) hN rfl hl.1 rfl (Nat.le_of_ble_eq_true rfl) dL_law_235 hc hs) (fun hh H locs hP hD hS => ?_)
  refine lv_aload_n hx hb dL_law_238 rfl (lv_at hl 2 rfl) ?_
  refine lv_aload_n hx hb dL_law_239 rfl (lv_at hl 0 rfl) ?_
  refine lv_iload_n hx hb dL_law_240 rfl (lv_at hl 3 rfl) ?_
  refine lv_iconst (v := 1) hx hb dL_law_241 (by decide) ?_
  refine lv_iadd hx hb dL_law_242 ?_
  refine va_sld hx hb hX hbl hbA hS h_1 dL_law_243 ?_
  refine W.eq (g2 := F0 m 244 ls [.int (xs (nI i + 1).toNatClampNeg), .ref (h 0), .int (pX2_take (xs (nI i + 1).toNatClampNeg) t).1]) rfl ?_
  refine lc_m hP hD hS hA (lr_V (As := [.int (xs (nI i + 1).toNatClampNeg)]) (rest := [.int (pX2_take (xs (nI i + 1).toNatClampNeg) t).1]) ⟨hx, hb, hml, hown, hts⟩ (ctX3_take l G cI cC cZ cR h y (xs (nI i + 1).toNatClampNeg) hR.r0 hR.r6) (cwV 1 hts gL_law_X3_take rfl rfl rfl (by decide +kernel) ⟨Nat.le_of_ble_eq_true rfl, Nat.le_of_ble_eq_true rfl⟩) (md_recv hK (lM hP) rfl) hK (lM hP) (lMD hD) hN rfl hl.1 rfl (Nat.le_of_ble_eq_true rfl) dL_law_244 hc hs) (fun H locs hP hD hS => ?_)
  obtain ⟨hE, hR1⟩ := take_eq hR (xs (nI i + 1).toNatClampNeg)
  refine lv_icmp_eq (tgt := 689) hx hb dL_law_247 (by decide) (fun _ => ?_) (fun cz => absurd hE cz)
  exact hgo hh _ _ hR1 H locs ls hP hD hS hl
set_option maxHeartbeats 4000000 in
set_option maxRecDepth 100000 in
theorem lk_keeper {p : Program} {l : Launch} {e : Env} {s : State} {m : MethodId} {below : List Frame} {meth : Method} {c : Code} {b L i : Nat} {xs : Nat → Int32} {G : va_G} {cI cC cZ cR : ClassId} {ho : Nat → Nat} {hp h : Ad} {cells slots : Nat} {Q : State → Prop} (C0 : LX p s m meth c b L xs G cI cC cZ cR) (hc : cells ≤ 600000) (hs : slots ≤ 7302249) (hi : i + 3 ≤ L) (hgo : GO p l e s m below meth c b G cI cC cZ cR ho hp h cells slots Q (nI i)) {hh : Nat → Ad} {t : TV} {y : SR} (hR : RT t y) {H : Heap} {locs : List Loc} {ls : Array Slot} (hP : va_P G vwCl (wX cI cC cZ cR ho hh hp t ++ wMo cI h y) H) (hD : va_D (AL s) (wX cI cC cZ cR ho hh hp t ++ wMo cI h y)) (hS : va_S (AL s) s.heap H locs) (hl : lv_has ls 4 [(0, .ref b), (1, .ref (ho 0)), (2, .ref (h 0)), (3, .int (nI i))]) : W p l e room_1 s m #[Value.ref b] below meth c H locs cells slots Q (F0 m 252 ls []) := by
  obtain ⟨hx, hb, hr, hml, hown, hts, hX, hbl, hlocks, hK, hN, hST, hO, hL⟩ := C0
  have hA : ∀ q : Nat, s.heap.size ≤ q → AL s q := fun _ z => z
  have hbA : ¬ AL s b := Nat.not_le.mpr hbl
  have h_1 : vp_in (nI i + 1) L := by rw [nI_1]; exact vp_in_nI (by omega) (by omega)
  refine lv_aload_n hx hb dL_law_252 rfl (lv_at hl 1 rfl) ?_
  refine lv_aload_n hx hb dL_law_253 rfl (lv_at hl 0 rfl) ?_
  refine lv_iload_n hx hb dL_law_254 rfl (lv_at hl 3 rfl) ?_
  refine lv_iconst (v := 1) hx hb dL_law_255 (by decide) ?_
  refine lv_iadd hx hb dL_law_256 ?_
  refine va_sld hx hb hX hbl hbA hS h_1 dL_law_257 ?_
  refine W.eq (g2 := F0 m 258 ls [.int (xs (nI i + 1).toNatClampNeg), .ref (ho 0)]) rfl ?_
  refine lc_x hP hD hS hA (lr_V (As := [.int (xs (nI i + 1).toNatClampNeg)]) (rest := []) ⟨hx, hb, hml, hown, hts⟩ (ctX2_keeper l G cI cC cZ cR ho hh hp t (xs (nI i + 1).toNatClampNeg)) (cwV 1 hts gL_law_X2_keeper rfl rfl rfl (by decide +kernel) ⟨Nat.le_of_ble_eq_true rfl, Nat.le_of_ble_eq_true rfl⟩) (tx_recv hK (lX hP)) hK (lX hP) (lXD hD) hN rfl hl.1 rfl (Nat.le_of_ble_eq_true rfl) dL_law_258 hc hs) (fun hh H locs hP hD hS => ?_)
  refine lv_aload_n hx hb dL_law_261 rfl (lv_at hl 2 rfl) ?_
  refine lv_aload_n hx hb dL_law_262 rfl (lv_at hl 0 rfl) ?_
  refine lv_iload_n hx hb dL_law_263 rfl (lv_at hl 3 rfl) ?_
  refine lv_iconst (v := 1) hx hb dL_law_264 (by decide) ?_
  refine lv_iadd hx hb dL_law_265 ?_
  refine va_sld hx hb hX hbl hbA hS h_1 dL_law_266 ?_
  refine W.eq (g2 := F0 m 267 ls [.int (xs (nI i + 1).toNatClampNeg), .ref (h 0), .int (pX2_keeper (xs (nI i + 1).toNatClampNeg) t).1]) rfl ?_
  refine lc_m hP hD hS hA (lr_V (As := [.int (xs (nI i + 1).toNatClampNeg)]) (rest := [.int (pX2_keeper (xs (nI i + 1).toNatClampNeg) t).1]) ⟨hx, hb, hml, hown, hts⟩ (ctX3_keeper l G cI cC cZ cR h y (xs (nI i + 1).toNatClampNeg) hR.r0 hR.r6 hR.mf) (cwV 1 hts gL_law_X3_keeper rfl rfl rfl (by decide +kernel) ⟨Nat.le_of_ble_eq_true rfl, Nat.le_of_ble_eq_true rfl⟩) (md_recv hK (lM hP) rfl) hK (lM hP) (lMD hD) hN rfl hl.1 rfl (Nat.le_of_ble_eq_true rfl) dL_law_267 hc hs) (fun H locs hP hD hS => ?_)
  obtain ⟨hE, hR1⟩ := keeper_eq hR (xs (nI i + 1).toNatClampNeg)
  refine lv_icmp_eq (tgt := 689) hx hb dL_law_270 (by decide) (fun _ => ?_) (fun cz => absurd hE cz)
  exact hgo hh _ _ hR1 H locs ls hP hD hS hl
set_option maxHeartbeats 4000000 in
set_option maxRecDepth 100000 in
theorem lk_cover {p : Program} {l : Launch} {e : Env} {s : State} {m : MethodId} {below : List Frame} {meth : Method} {c : Code} {b L i : Nat} {xs : Nat → Int32} {G : va_G} {cI cC cZ cR : ClassId} {ho : Nat → Nat} {hp h : Ad} {cells slots : Nat} {Q : State → Prop} (C0 : LX p s m meth c b L xs G cI cC cZ cR) (hc : cells ≤ 600000) (hs : slots ≤ 7302249) (hi : i + 3 ≤ L) (hgo : GO p l e s m below meth c b G cI cC cZ cR ho hp h cells slots Q (nI i)) {hh : Nat → Ad} {t : TV} {y : SR} (hR : RT t y) {H : Heap} {locs : List Loc} {ls : Array Slot} (hP : va_P G vwCl (wX cI cC cZ cR ho hh hp t ++ wMo cI h y) H) (hD : va_D (AL s) (wX cI cC cZ cR ho hh hp t ++ wMo cI h y)) (hS : va_S (AL s) s.heap H locs) (hl : lv_has ls 4 [(0, .ref b), (1, .ref (ho 0)), (2, .ref (h 0)), (3, .int (nI i))]) : W p l e room_1 s m #[Value.ref b] below meth c H locs cells slots Q (F0 m 275 ls []) := by
  obtain ⟨hx, hb, hr, hml, hown, hts, hX, hbl, hlocks, hK, hN, hST, hO, hL⟩ := C0
  have hA : ∀ q : Nat, s.heap.size ≤ q → AL s q := fun _ z => z
  have hbA : ¬ AL s b := Nat.not_le.mpr hbl
  have h_1 : vp_in (nI i + 1) L := by rw [nI_1]; exact vp_in_nI (by omega) (by omega)
  refine lv_aload_n hx hb dL_law_275 rfl (lv_at hl 1 rfl) ?_
  refine lv_aload_n hx hb dL_law_276 rfl (lv_at hl 0 rfl) ?_
  refine lv_iload_n hx hb dL_law_277 rfl (lv_at hl 3 rfl) ?_
  refine lv_iconst (v := 1) hx hb dL_law_278 (by decide) ?_
  refine lv_iadd hx hb dL_law_279 ?_
  refine va_sld hx hb hX hbl hbA hS h_1 dL_law_280 ?_
  refine W.eq (g2 := F0 m 281 ls [.int (xs (nI i + 1).toNatClampNeg), .ref (ho 0)]) rfl ?_
  refine lc_x hP hD hS hA (lr_V (As := [.int (xs (nI i + 1).toNatClampNeg)]) (rest := []) ⟨hx, hb, hml, hown, hts⟩ (ctX2_cover l G cI cC cZ cR ho hh hp t (xs (nI i + 1).toNatClampNeg)) (cwV 1 hts gL_law_X2_cover rfl rfl rfl (by decide +kernel) ⟨Nat.le_of_ble_eq_true rfl, Nat.le_of_ble_eq_true rfl⟩) (tx_recv hK (lX hP)) hK (lX hP) (lXD hD) hN rfl hl.1 rfl (Nat.le_of_ble_eq_true rfl) dL_law_281 hc hs) (fun hh H locs hP hD hS => ?_)
  refine lv_aload_n hx hb dL_law_284 rfl (lv_at hl 2 rfl) ?_
  refine lv_aload_n hx hb dL_law_285 rfl (lv_at hl 0 rfl) ?_
  refine lv_iload_n hx hb dL_law_286 rfl (lv_at hl 3 rfl) ?_
  refine lv_iconst (v := 1) hx hb dL_law_287 (by decide) ?_
  refine lv_iadd hx hb dL_law_288 ?_
  refine va_sld hx hb hX hbl hbA hS h_1 dL_law_289 ?_
  refine W.eq (g2 := F0 m 290 ls [.int (xs (nI i + 1).toNatClampNeg), .ref (h 0), .int (pX2_cover (xs (nI i + 1).toNatClampNeg) t).1]) rfl ?_
  refine lc_m hP hD hS hA (lr_V (As := [.int (xs (nI i + 1).toNatClampNeg)]) (rest := [.int (pX2_cover (xs (nI i + 1).toNatClampNeg) t).1]) ⟨hx, hb, hml, hown, hts⟩ (ctX3_cover l G cI cC cZ cR h y (xs (nI i + 1).toNatClampNeg) hR.r0 hR.r6) (cwV 1 hts gL_law_X3_cover rfl rfl rfl (by decide +kernel) ⟨Nat.le_of_ble_eq_true rfl, Nat.le_of_ble_eq_true rfl⟩) (md_recv hK (lM hP) rfl) hK (lM hP) (lMD hD) hN rfl hl.1 rfl (Nat.le_of_ble_eq_true rfl) dL_law_290 hc hs) (fun H locs hP hD hS => ?_)
  obtain ⟨hE, hR1⟩ := cover_eq hR (xs (nI i + 1).toNatClampNeg)
  refine lv_icmp_eq (tgt := 689) hx hb dL_law_293 (by decide) (fun _ => ?_) (fun cz => absurd hE cz)
  exact hgo hh _ _ hR1 H locs ls hP hD hS hl
