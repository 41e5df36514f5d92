-- PianoCovers(): eleven streets, three rows, a pad
abbrev RI : Room := rmn 2 60 126 1176
def fsX2 : List Value := [.null, .null, .null, .null, .int 0, .null, .null, .null]
theorem fsX1_ok : ∀ j, j < 18 → defaultValue (tyX1 j) = vp_V fsX1 j := by
  intro j hj
  rcases (show j = 0 ∨ j = 1 ∨ j = 2 ∨ j = 3 ∨ j = 4 ∨ j = 5 ∨ j = 6 ∨ j = 7 ∨ j = 8 ∨ j = 9 ∨ j = 10 ∨ j = 11 ∨ j = 12 ∨ j = 13 ∨ j = 14 ∨ j = 15 ∨ j = 16 ∨ j = 17 by omega) with rfl | rfl | rfl | rfl | rfl | rfl | rfl | rfl | rfl | rfl | rfl | rfl | rfl | rfl | rfl | rfl | rfl | rfl <;> rfl
theorem fsX0_ok : ∀ j, j < 8 → defaultValue (tyX0 j) = vp_V fsX0 j := by
  intro j hj
  rcases (show j = 0 ∨ j = 1 ∨ j = 2 ∨ j = 3 ∨ j = 4 ∨ j = 5 ∨ j = 6 ∨ j = 7 by omega) with rfl | rfl | rfl | rfl | rfl | rfl | rfl | rfl <;> rfl
section NROW
variable {p : Program} {l : Launch} {e : Env} {s : State} {m : MethodId} {args : Array Value} {below : List Frame} {meth : Method} {c : Code} {H : Heap} {locs : List Loc} {cells slots : Nat} {Q : State → Prop}
variable {pc : Nat} {ls : Array Slot} {rest : List Value} {G : va_G} {A : Nat → Prop} {cI cC cZ cR : ClassId} {ws : va_W}
theorem ns_row (hx : p.tables.exec = Jvm.exec) (hb : c.code = cX2_init) (hml : c.maxLocals = 2) (hts : ∀ w ∈ wsX2_init, w.before args s = true) (hown : s.vm.findClass RX2 = some m.cls) (hK : va_K G vwCl (TY cI cC cZ cR) s) (hN : NWs s) (hST : STs A s s.heap) (hO : va_AO RX1 s) (hA : ∀ q : Nat, s.heap.size ≤ q → A q) (hP : va_P G vwCl ws H) (hD : va_D A ws) (hS : va_S A s.heap H locs) (hsz : ls.size = 2) (hW : 1 + (rest.map fun v => v.category).sum ≤ 8) (hcells : cells + 11 ≤ 126) (hslots : slots + 98 ≤ 1176) (d0 : decode cX2_init pc = .ok (.new 7, 3)) (d1 : decode cX2_init (pc + 3) = .ok (.dup, 1)) (d2 : decode cX2_init (pc + 3 + 1) = .ok (.invokespecial 9, 3))
    (kk : ∀ (h : Ad) (H1 : Heap) (locs1 : List Loc), va_P G vwCl (ws ++ wSt cI h stI) H1 → va_D A (ws ++ wSt cI h stI) → va_S A s.heap H1 locs1 → W p l e RI s m args below meth c H1 locs1 (cells + 11) (slots + 98) Q (F0 m (pc + 3 + 1 + 3) ls (.ref (h 0) :: rest))) : W p l e RI s m args below meth c H locs cells slots Q (F0 m pc ls rest) := by
  have hin : ∀ w ∈ wsX10, w ∈ wsX2_init := fun w hw => List.mem_cons_of_mem _ (List.mem_append_left _ (List.mem_append_left _ (List.mem_append_right _ (hw))))
  have hc1 : cells + 1 ≤ RI.cells := by show cells + 1 ≤ 126; omega
  have hs1 : slots + 18 ≤ RI.slots := by show slots + 18 ≤ 1176; omega
  have hc2 : cells + 1 + 10 ≤ RI.cells := by show cells + 1 + 10 ≤ 126; omega
  have hs2 : slots + 18 + 80 ≤ RI.slots := by show slots + 18 + 80 ≤ 1176; omega
  refine va_new (ci := 1) (fs := fsX1) (C := RX1) (T := TX1) (N := 18) hx hb hts hin tyX1 tyX1_ok hown (hts _ (List.mem_of_getElem? (i := 4) rfl)) (hts _ (List.mem_of_getElem? (i := 5) rfl)) (hts _ (List.mem_of_getElem? (i := 6) rfl)) hK hP hD hS hA rfl fsX1_ok hc1 hs1 d0 (fun q H1 hP hD hS => ?_)
  refine lv_dup hx hb d1 rfl ?_
  have hP' : va_P G vwCl (ws ++ ([(q, .inr (1, fsX1))] ++ [])) H1 := hP
  have hD' : va_D A (ws ++ ([(q, .inr (1, fsX1))] ++ [])) := hD
  have hPc := hP'.midc
  have hDc := hD'.midc
  have hF := fr_in hDc hS hA
  refine va_callv (va_runIN (As := []) (rest := .ref q :: rest) ⟨hx, hb, hml, hown, hts⟩ (ctX1_init l G cI cC cZ cR q H1.size) ⟨va_cnB 0 hts gX2_init_X1_init_n9 rfl rfl rfl (NWs.nw hN 22 rfl) (hts _ (List.mem_of_getElem? (i := 6) rfl)) (by decide +kernel) ⟨Nat.le_of_ble_eq_true rfl, Nat.le_of_ble_eq_true rfl⟩, rfl, (hts _ (List.mem_of_getElem? (i := 19) rfl))⟩ ⟨PreN.blind, PreN.at hST hO hS hA hPc hK hDc hN _⟩ rfl rfl hsz rfl (lv_room (show ((Value.ref q :: rest).map fun v => v.category).sum ≤ 8 from hW)) d2 ⟨hc2, hs2⟩) hS (fun q _ h => hF q h) hF (fun u t H2 locs2 ht _ hu hB _ hk hS2 => ?_)
  obtain ⟨hP1, hD1⟩ := hB
  rw [ht] at hP1
  obtain ⟨g1, g2⟩ := fr_mid (wr := []) hP' hD' hF hk hP1 hD1
  rw [List.append_nil] at g1 g2
  have r := kk u H2 locs2 g1 g2 hS2
  rw [hu] at r
  exact r
theorem pd_row (hx : p.tables.exec = Jvm.exec) (hb : c.code = cX2_init) (hml : c.maxLocals = 2) (hts : ∀ w ∈ wsX2_init, w.before args s = true) (hown : s.vm.findClass RX2 = some m.cls) (hK : va_K G vwCl (TY cI cC cZ cR) s) (hN : NWs s) (hST : STs A s s.heap) (hO : va_AO RX1 s) (hA : ∀ q : Nat, s.heap.size ≤ q → A q) (hP : va_P G vwCl ws H) (hD : va_D A ws) (hS : va_S A s.heap H locs) (hsz : ls.size = 2) (hW : 1 + (rest.map fun v => v.category).sum ≤ 8) (hcells : cells + 2 ≤ 126) (hslots : slots + 88 ≤ 1176) (d0 : decode cX2_init pc = .ok (.new 37, 3)) (d1 : decode cX2_init (pc + 3) = .ok (.dup, 1)) (d2 : decode cX2_init (pc + 3 + 1) = .ok (.invokespecial 39, 3))
    (kk : ∀ (h : Ad) (H1 : Heap) (locs1 : List Loc), va_P G vwCl (ws ++ wPd cC h pdI) H1 → va_D A (ws ++ wPd cC h pdI) → va_S A s.heap H1 locs1 → W p l e RI s m args below meth c H1 locs1 (cells + 2) (slots + 88) Q (F0 m (pc + 3 + 1 + 3) ls (.ref (h 0) :: rest))) : W p l e RI s m args below meth c H locs cells slots Q (F0 m pc ls rest) := by
  have hin : ∀ w ∈ wsX00, w ∈ wsX2_init := fun w hw => List.mem_cons_of_mem _ (List.mem_append_right _ (hw))
  have hc1 : cells + 1 ≤ RI.cells := by show cells + 1 ≤ 126; omega
  have hs1 : slots + 8 ≤ RI.slots := by show slots + 8 ≤ 1176; omega
  have hc2 : cells + 1 + 1 ≤ RI.cells := by show cells + 1 + 1 ≤ 126; omega
  have hs2 : slots + 8 + 80 ≤ RI.slots := by show slots + 8 + 80 ≤ 1176; omega
  refine va_new (ci := 0) (fs := fsX0) (C := RX0) (T := TX0) (N := 8) hx hb hts hin tyX0 tyX0_ok hown (hts _ (List.mem_of_getElem? (i := 15) rfl)) (hts _ (List.mem_of_getElem? (i := 16) rfl)) (hts _ (List.mem_of_getElem? (i := 17) rfl)) hK hP hD hS hA rfl fsX0_ok hc1 hs1 d0 (fun q H1 hP hD hS => ?_)
  refine lv_dup hx hb d1 rfl ?_
  have hP' : va_P G vwCl (ws ++ ([(q, .inr (0, fsX0))] ++ [])) H1 := hP
  have hD' : va_D A (ws ++ ([(q, .inr (0, fsX0))] ++ [])) := hD
  have hPc := hP'.midc
  have hDc := hD'.midc
  have hF := fr_in hDc hS hA
  refine va_callv (va_runIN (As := []) (rest := .ref q :: rest) ⟨hx, hb, hml, hown, hts⟩ (ctX0_init l G cI cC cZ cR q H1.size) ⟨va_cnB 0 hts gX2_init_X0_init_n39 rfl rfl rfl (NWs.nw hN 23 rfl) (hts _ (List.mem_of_getElem? (i := 17) rfl)) (by decide +kernel) ⟨Nat.le_of_ble_eq_true rfl, Nat.le_of_ble_eq_true rfl⟩, rfl, (hts _ (List.mem_of_getElem? (i := 45) rfl))⟩ ⟨PreN.blind, PreN.at hST hO hS hA hPc hK hDc hN _⟩ rfl rfl hsz rfl (lv_room (show ((Value.ref q :: rest).map fun v => v.category).sum ≤ 8 from hW)) d2 ⟨hc2, hs2⟩) hS (fun q _ h => hF q h) hF (fun u t H2 locs2 ht _ hu hB _ hk hS2 => ?_)
  obtain ⟨hP1, hD1⟩ := hB
  rw [ht] at hP1
  obtain ⟨g1, g2⟩ := fr_mid (wr := []) hP' hD' hF hk hP1 hD1
  rw [List.append_nil] at g1 g2
  have r := kk u H2 locs2 g1 g2 hS2
  rw [hu] at r
  exact r
end NROW
-- how the world grows
theorem grow (T A P S : va_W) : List.Perm ((T ++ (A ++ P)) ++ S) (T ++ ((A ++ S) ++ P)) := by
  rw [List.append_assoc, List.append_assoc, List.append_assoc]
  exact ((List.perm_append_comm).append_left A).append_left T
theorem growT (T R X : va_W) : List.Perm ((T ++ R) ++ X) ((T ++ X) ++ R) := by
  rw [List.append_assoc, List.append_assoc]
  exact (List.perm_append_comm).append_left T
theorem wS0_hup (cI : ClassId) (hh : Nat → Ad) (Q : Nat → SR) {j : Nat} (v : Ad) : ∀ (l : List Nat), j ∉ l → wS0 cI (up hh j v) Q l = wS0 cI hh Q l
  | [], _ => rfl
  | a :: l, h => by
    have h1 : a ≠ j := fun e => h (by rw [e]; exact List.mem_cons_self)
    have h2 : j ∉ l := fun e => h (List.mem_cons_of_mem _ e)
    show wSt cI (up hh j v a) (Q a) ++ wS0 cI (up hh j v) Q l = wSt cI (hh a) (Q a) ++ wS0 cI hh Q l
    rw [wS0_hup cI hh Q v l h2, up_ne hh v h1]
theorem wS0_suc (cI : ClassId) (hh : Nat → Ad) (Q : Nat → SR) (k : Nat) (h : Ad) : wS0 cI (up hh k h) Q (List.range (k + 1)) = wS0 cI hh Q (List.range k) ++ wSt cI h (Q k) := by
  have e : wS0 cI (up hh k h) Q (List.range k ++ [k]) = wS0 cI (up hh k h) Q (List.range k) ++ wS0 cI (up hh k h) Q [k] := List.flatMap_append
  have e2 : wS0 cI (up hh k h) Q [k] = wSt cI h (Q k) := by
    show wSt cI (up hh k h k) (Q k) ++ [] = _
    rw [up_same, List.append_nil]
  rw [List.range_succ, e, e2, wS0_hup cI hh Q h (List.range k) (fun z => Nat.lt_irrefl k (List.mem_range.mp z))]
abbrev QI : Nat → SR := fun _ => stI
theorem gr_P {G : va_G} {H : Heap} {cI : ClassId} {T P : va_W} {hh : Nat → Ad} {k : Nat} {h : Ad} (hP : va_P G vwCl ((T ++ (wS0 cI hh QI (List.range k) ++ P)) ++ wSt cI h stI) H) : va_P G vwCl (T ++ (wS0 cI (up hh k h) QI (List.range (k + 1)) ++ P)) H := by
  rw [wS0_suc]
  exact hP.perm (grow _ _ _ _)
theorem gr_D {A : Nat → Prop} {cI : ClassId} {T P : va_W} {hh : Nat → Ad} {k : Nat} {h : Ad} (hD : va_D A ((T ++ (wS0 cI hh QI (List.range k) ++ P)) ++ wSt cI h stI)) : va_D A (T ++ (wS0 cI (up hh k h) QI (List.range (k + 1)) ++ P)) := by
  rw [wS0_suc]
  exact hD.perm (grow _ _ _ _)
theorem row_eq {cA : ClassId} {n : Nat} {f g : Nat → Option Nat} (h : ∀ j, j < n → f j = g j) : vp_cell cA (n, .inr (.inr (.inr (.inr f)))) = vp_cell cA (n, .inr (.inr (.inr (.inr g)))) := by
  have e : (fun j : Fin n => va_rf (f j.1)) = (fun j : Fin n => va_rf (g j.1)) := funext fun j => by rw [h j.1 j.2]
  show arrV cA n (fun j => va_rf (f j)) = arrV cA n (fun j => va_rf (g j))
  unfold arrV
  rw [e]
/-- the cells of the object itself while it is made -/
def tpI (cZ cR : ClassId) (o a0 a1 a2 qh qs qz pp : Nat) (f g : Nat → Option Nat) : va_W := [(o, .inr (2, [.ref a0, .ref a1, .ref a2, .ref qh, .int 0, .ref qs, .ref qz, .ref pp])), (qh, .inl (cR, 6, .inr (.inr (.inr (.inr f))))), (qs, .inl (cR, 2, .inr (.inr (.inr (.inr g))))), (qz, .inl (cZ, 2, .inl (fun _ => 0)))]
def tI : TV := (QI, pdI, 0, fun _ => 0)
theorem top_end {G : va_G} {A : Nat → Prop} {H : Heap} {cZ cR : ClassId} {o qh qs qz : Nat} {hh : Nat → Ad} {hp : Ad} {f g : Nat → Option Nat} {R : va_W} (hf : ∀ j, j < 6 → f j = some (hh (3 + j) 0)) (hg : ∀ j, j < 2 → g j = some (hh (9 + j) 0)) (hP : va_P G vwCl (tpI cZ cR o (hh 0 0) (hh 1 0) (hh 2 0) qh qs qz (hp 0) f g ++ R) H) (hD : va_D A (tpI cZ cR o (hh 0 0) (hh 1 0) (hh 2 0) qh qs qz (hp 0) f g ++ R)) : va_P G vwCl (wTop cZ cR (ad [o, qh, qs, qz]) hh hp 0 (fun _ => 0) ++ R) H ∧ va_D A (wTop cZ cR (ad [o, qh, qs, qz]) hh hp 0 (fun _ => 0) ++ R) := by
  have a1 : H[qh]? = some (vp_cell cR (6, .inr (.inr (.inr (.inr f))))) := hP 1 (qh, .inl (cR, 6, .inr (.inr (.inr (.inr f))))) rfl
  have a2 : H[qs]? = some (vp_cell cR (2, .inr (.inr (.inr (.inr g))))) := hP 2 (qs, .inl (cR, 2, .inr (.inr (.inr (.inr g))))) rfl
  rw [row_eq hf] at a1
  rw [row_eq hg] at a2
  have p1 := hP.set (H1 := H) (p := 1) (e := .inl (cR, 6, .inr (.inr (.inr (.inr (fun j => some (hh (3 + j) 0))))))) hD (e0 := .inl (cR, 6, .inr (.inr (.inr (.inr f))))) (a := qh) rfl a1 (fun _ _ => rfl)
  have d1 := hD.set (p := 1) (a := qh) (e := .inl (cR, 6, .inr (.inr (.inr (.inr (fun j => some (hh (3 + j) 0))))))) (e0 := .inl (cR, 6, .inr (.inr (.inr (.inr f))))) rfl
  have p2 := p1.set (H1 := H) (p := 2) (e := .inl (cR, 2, .inr (.inr (.inr (.inr (fun j => some (hh (9 + j) 0))))))) d1 (e0 := .inl (cR, 2, .inr (.inr (.inr (.inr g))))) (a := qs) rfl a2 (fun _ _ => rfl)
  have d2 := d1.set (p := 2) (a := qs) (e := .inl (cR, 2, .inr (.inr (.inr (.inr (fun j => some (hh (9 + j) 0))))))) (e0 := .inl (cR, 2, .inr (.inr (.inr (.inr g))))) rfl
  exact ⟨p2, d2⟩
set_option maxHeartbeats 4000000 in
set_option maxRecDepth 100000 in
theorem ctX2_init (l : Launch) (G : va_G) (cI cC cZ cR : ClassId) (o : Nat) : CtN l yX2_init wsX2_init RI 126 1176 G (TY cI cC cZ cR) [.ref o] [(o, .inr (2, fsX2))] (fun u : (Nat → Nat) × (Nat → Ad) × Ad => u.1 0 = o) (fun u : (Nat → Nat) × (Nat → Ad) × Ad => wX cI cC cZ cR u.1 u.2.1 u.2.2 tI) := by
  refine CtN.of (cc := cX2_init) (maxL := 2) (by decide) rfl rfl ?_
  intro p e s m below meth c A ls E0 hST hO hni hP hD hS hl
  obtain ⟨hx, hb, hr, hml, hlocks, hts, hown, hK, hN, hA⟩ := E0
  have hl : lv_has ls 2 [(0, .ref o)] := hl
  have hin : ∀ w ∈ wsX20, w ∈ wsX2_init := fun w hw => List.mem_cons_of_mem _ (List.mem_append_left _ (List.mem_append_right _ (hw)))
  have k_10 : (Cond.fieldLink RX2 10 RX2 (TX2 0).2.1 (TX2 0).2.2.1).before ([.ref o] : List Value).toArray s = true := hts _ (List.mem_of_getElem? (i := 7) rfl)
  have k_16 : (Cond.fieldLink RX2 16 RX2 (TX2 1).2.1 (TX2 1).2.2.1).before ([.ref o] : List Value).toArray s = true := hts _ (List.mem_of_getElem? (i := 8) rfl)
  have k_19 : (Cond.fieldLink RX2 19 RX2 (TX2 2).2.1 (TX2 2).2.2.1).before ([.ref o] : List Value).toArray s = true := hts _ (List.mem_of_getElem? (i := 9) rfl)
  have k_22 : (Cond.fieldLink RX2 22 RX2 (TX2 3).2.1 (TX2 3).2.2.1).before ([.ref o] : List Value).toArray s = true := hts _ (List.mem_of_getElem? (i := 10) rfl)
  have k_26 : (Cond.fieldLink RX2 26 RX2 (TX2 4).2.1 (TX2 4).2.2.1).before ([.ref o] : List Value).toArray s = true := hts _ (List.mem_of_getElem? (i := 11) rfl)
  have k_30 : (Cond.fieldLink RX2 30 RX2 (TX2 5).2.1 (TX2 5).2.2.1).before ([.ref o] : List Value).toArray s = true := hts _ (List.mem_of_getElem? (i := 12) rfl)
  have k_33 : (Cond.fieldLink RX2 33 RX2 (TX2 6).2.1 (TX2 6).2.2.1).before ([.ref o] : List Value).toArray s = true := hts _ (List.mem_of_getElem? (i := 14) rfl)
  have k_40 : (Cond.fieldLink RX2 40 RX2 (TX2 7).2.1 (TX2 7).2.2.1).before ([.ref o] : List Value).toArray s = true := hts _ (List.mem_of_getElem? (i := 18) rfl)
  -- the second loop: the slots
  have lp2 : ∀ (n k : Nat) (hh : Nat → Ad) (hp : Ad) (qh qs qz : Nat) (f g : Nat → Option Nat), k ≤ 2 → 2 - k < n → (∀ j, j < 6 → f j = some (hh (3 + j) 0)) → (∀ j, j < k → g j = some (hh (9 + j) 0)) → ∀ (H : Heap) (locs : List Loc) (ls : Array Slot), va_P G vwCl (tpI cZ cR o (hh 0 0) (hh 1 0) (hh 2 0) qh qs qz (hp 0) f g ++ (wS0 cI hh QI (List.range (9 + k)) ++ wPd cC hp pdI)) H → va_D A (tpI cZ cR o (hh 0 0) (hh 1 0) (hh 2 0) qh qs qz (hp 0) f g ++ (wS0 cI hh QI (List.range (9 + k)) ++ wPd cC hp pdI)) → va_S A s.heap H locs → lv_has ls 2 [(0, .ref o), (1, .int (nI k))] → W p l e RI s m ([.ref o] : List Value).toArray below meth c H locs (104 + 11 * k) (980 + 98 * k) (MQ below (QnA G A (fun u : (Nat → Nat) × (Nat → Ad) × Ad => u.1 0 = o) (fun u : (Nat → Nat) × (Nat → Ad) × Ad => wX cI cC cZ cR u.1 u.2.1 u.2.2 tI)) ([.ref o] : List Value).toArray s 126 1176 A) (F0 m 106 ls []) := by
    intro n
    induction n with
    | zero => intro k hh hp qh qs qz f g h1 h2; omega
    | succ n ih =>
      intro k hh hp qh qs qz f g h1 h2 hf hg H locs ls hP hD hS hl
      refine lv_iload_n hx hb dX2_init_106 rfl (lv_at hl 1 rfl) ?_
      refine lv_iconst (v := 2) hx hb dX2_init_107 (by decide) ?_
      refine lv_icmp_ge (tgt := 130) hx hb dX2_init_108 (by decide) (fun cz => ?_) (fun cz => ?_)
      · have hk : k = 2 := by
          rw [show (2 : Int32) = nI 2 from rfl, nI_leI (by omega) (by omega)] at cz
          omega
        subst hk
        obtain ⟨g1, g2⟩ := top_end hf hg hP hD
        exact rt_n (w := fun u : (Nat → Nat) × (Nat → Ad) × Ad => wX cI cC cZ cR u.1 u.2.1 u.2.2 tI) (ad [o, qh, qs, qz], hh, hp) rfl hx hb hr hlocks g1 g2 hS dX2_init_130
      · have hk : k < 2 := by
          rw [show (2 : Int32) = nI 2 from rfl, nI_leI (by omega) (by omega)] at cz
          omega
        refine lv_aload_n hx hb dX2_init_111 rfl (lv_at hl 0 rfl) ?_
        refine va_get (D := G) (ci := 2) (v := .ref qs) (C := RX2) (T := TX2) (N := 8) hx hb hts hin hown hK hP 0 rfl rfl 5 (by decide) k_30 (fun _ h9 => h9) rfl dX2_init_112 ?_
        refine lv_iload_n hx hb dX2_init_115 rfl (lv_at hl 1 rfl) ?_
        refine ns_row hx hb hml hts hown hK hN hST hO hA hP hD hS hl.1 (Nat.le_of_ble_eq_true rfl) (by omega) (by omega) dX2_init_116 dX2_init_119 dX2_init_120 (fun h H locs hP hD hS => ?_)
        refine va_astq hx hb hK hP hD hS 2 3 (tpI cZ cR o (hh 0 0) (hh 1 0) (hh 2 0) qh qs qz (hp 0) f g ++ (wS0 cI hh QI (List.range (9 + k)) ++ wPd cC hp pdI)).length 1 (r := (RX1, TX1, 18)) (vs := fvSt.map (mF h stI.1)) rfl rfl (by rw [List.getElem?_append_right (Nat.le_refl _), Nat.sub_self]; rfl) rfl (vp_in_nI (by omega) (by decide)) dX2_init_123 (fun H locs hP hD hS => ?_)
        have hix : (nI k).toNatClampNeg = k := ix_nI (by omega)
        rw [hix] at hP hD
        have hP : va_P G vwCl ((tpI cZ cR o (hh 0 0) (hh 1 0) (hh 2 0) qh qs qz (hp 0) f (va_up g k (some (h 0))) ++ (wS0 cI hh QI (List.range (9 + k)) ++ wPd cC hp pdI)) ++ wSt cI h stI) H := hP
        have hD : va_D A ((tpI cZ cR o (hh 0 0) (hh 1 0) (hh 2 0) qh qs qz (hp 0) f (va_up g k (some (h 0))) ++ (wS0 cI hh QI (List.range (9 + k)) ++ wPd cC hp pdI)) ++ wSt cI h stI) := hD
        have hP := gr_P hP
        have hD := gr_D hD
        refine lv_iinc (v := nI k + 1) (lv' := [(1, .int (nI k + 1)), (0, .ref o)]) hx hb dX2_init_124 hl (k := 1) rfl rfl (by decide) rfl (fun ls hl => ?_)
        refine lv_goto (tgt := 106) hx hb dX2_init_127 (by decide) ?_
        have u0 : up hh (9 + k) h 0 = hh 0 := up_ne _ _ (by omega)
        have u1 : up hh (9 + k) h 1 = hh 1 := up_ne _ _ (by omega)
        have u2 : up hh (9 + k) h 2 = hh 2 := up_ne _ _ (by omega)
        have r := ih (k + 1) (up hh (9 + k) h) hp qh qs qz f (va_up g k (some (h 0))) (by omega) (by omega) (fun j hj => by rw [hf j hj, up_ne _ _ (show 3 + j ≠ 9 + k by omega)]) (fun j hj => by
          unfold va_up
          by_cases cj : j = k
          · rw [if_pos cj, cj, up_same]
          · rw [if_neg cj, hg j (by omega), up_ne _ _ (show 9 + j ≠ 9 + k by omega)]) H locs ls
        rw [u0, u1, u2] at r
        exact r hP hD hS (by rw [← nI_1]; exact lv_sub hl [1, 0] rfl)
  -- the first loop: the history
  have lp1 : ∀ (n k : Nat) (hh : Nat → Ad) (hp : Ad) (qh qs qz : Nat) (f : Nat → Option Nat), k ≤ 6 → 6 - k < n → (∀ j, j < k → f j = some (hh (3 + j) 0)) → ∀ (H : Heap) (locs : List Loc) (ls : Array Slot), va_P G vwCl (tpI cZ cR o (hh 0 0) (hh 1 0) (hh 2 0) qh qs qz (hp 0) f (fun _ => none) ++ (wS0 cI hh QI (List.range (3 + k)) ++ wPd cC hp pdI)) H → va_D A (tpI cZ cR o (hh 0 0) (hh 1 0) (hh 2 0) qh qs qz (hp 0) f (fun _ => none) ++ (wS0 cI hh QI (List.range (3 + k)) ++ wPd cC hp pdI)) → va_S A s.heap H locs → lv_has ls 2 [(0, .ref o), (1, .int (nI k))] → W p l e RI s m ([.ref o] : List Value).toArray below meth c H locs (38 + 11 * k) (392 + 98 * k) (MQ below (QnA G A (fun u : (Nat → Nat) × (Nat → Ad) × Ad => u.1 0 = o) (fun u : (Nat → Nat) × (Nat → Ad) × Ad => wX cI cC cZ cR u.1 u.2.1 u.2.2 tI)) ([.ref o] : List Value).toArray s 126 1176 A) (F0 m 79 ls []) := by
    intro n
    induction n with
    | zero => intro k hh hp qh qs qz f h1 h2; omega
    | succ n ih =>
      intro k hh hp qh qs qz f h1 h2 hf H locs ls hP hD hS hl
      refine lv_iload_n hx hb dX2_init_79 rfl (lv_at hl 1 rfl) ?_
      refine lv_bipush (v := 6) hx hb dX2_init_80 (by decide) ?_
      refine lv_icmp_ge (tgt := 104) hx hb dX2_init_82 (by decide) (fun cz => ?_) (fun cz => ?_)
      · have hk : k = 6 := by
          rw [show (6 : Int32) = nI 6 from rfl, nI_leI (by omega) (by omega)] at cz
          omega
        subst hk
        refine lv_iconst (v := 0) hx hb dX2_init_104 (by decide) ?_
        refine lv_istore_n (lv' := [(1, .int 0), (0, .ref o)]) hx hb dX2_init_105 rfl hl (by decide) rfl (fun ls hl => ?_)
        exact lp2 3 0 hh hp qh qs qz f (fun _ => none) (by decide) (by decide) hf (fun j hj => absurd hj (Nat.not_lt_zero j)) H locs ls hP hD hS (by rw [nI_0]; exact lv_sub hl [1, 0] rfl)
      · have hk : k < 6 := by
          rw [show (6 : Int32) = nI 6 from rfl, nI_leI (by omega) (by omega)] at cz
          omega
        refine lv_aload_n hx hb dX2_init_85 rfl (lv_at hl 0 rfl) ?_
        refine va_get (D := G) (ci := 2) (v := .ref qh) (C := RX2) (T := TX2) (N := 8) hx hb hts hin hown hK hP 0 rfl rfl 3 (by decide) k_22 (fun _ h9 => h9) rfl dX2_init_86 ?_
        refine lv_iload_n hx hb dX2_init_89 rfl (lv_at hl 1 rfl) ?_
        refine ns_row hx hb hml hts hown hK hN hST hO hA hP hD hS hl.1 (Nat.le_of_ble_eq_true rfl) (by omega) (by omega) dX2_init_90 dX2_init_93 dX2_init_94 (fun h H locs hP hD hS => ?_)
        refine va_astq hx hb hK hP hD hS 1 3 (tpI cZ cR o (hh 0 0) (hh 1 0) (hh 2 0) qh qs qz (hp 0) f (fun _ => none) ++ (wS0 cI hh QI (List.range (3 + k)) ++ wPd cC hp pdI)).length 1 (r := (RX1, TX1, 18)) (vs := fvSt.map (mF h stI.1)) rfl rfl (by rw [List.getElem?_append_right (Nat.le_refl _), Nat.sub_self]; rfl) rfl (vp_in_nI (by omega) (by decide)) dX2_init_97 (fun H locs hP hD hS => ?_)
        have hix : (nI k).toNatClampNeg = k := ix_nI (by omega)
        rw [hix] at hP hD
        have hP : va_P G vwCl ((tpI cZ cR o (hh 0 0) (hh 1 0) (hh 2 0) qh qs qz (hp 0) (va_up f k (some (h 0))) (fun _ => none) ++ (wS0 cI hh QI (List.range (3 + k)) ++ wPd cC hp pdI)) ++ wSt cI h stI) H := hP
        have hD : va_D A ((tpI cZ cR o (hh 0 0) (hh 1 0) (hh 2 0) qh qs qz (hp 0) (va_up f k (some (h 0))) (fun _ => none) ++ (wS0 cI hh QI (List.range (3 + k)) ++ wPd cC hp pdI)) ++ wSt cI h stI) := hD
        have hP := gr_P hP
        have hD := gr_D hD
        refine lv_iinc (v := nI k + 1) (lv' := [(1, .int (nI k + 1)), (0, .ref o)]) hx hb dX2_init_98 hl (k := 1) rfl rfl (by decide) rfl (fun ls hl => ?_)
        refine lv_goto (tgt := 79) hx hb dX2_init_101 (by decide) ?_
        have u0 : up hh (3 + k) h 0 = hh 0 := up_ne _ _ (by omega)
        have u1 : up hh (3 + k) h 1 = hh 1 := up_ne _ _ (by omega)
        have u2 : up hh (3 + k) h 2 = hh 2 := up_ne _ _ (by omega)
        have r := ih (k + 1) (up hh (3 + k) h) hp qh qs qz (va_up f k (some (h 0))) (by omega) (by omega) (fun j hj => by
          unfold va_up
          by_cases cj : j = k
          · rw [if_pos cj, cj, up_same]
          · rw [if_neg cj, hf j (by omega), up_ne _ _ (show 3 + j ≠ 3 + k by omega)]) H locs ls
        rw [u0, u1, u2] at r
        exact r hP hD hS (by rw [← nI_1]; exact lv_sub hl [1, 0] rfl)
  -- the fields
  obtain ⟨hh0, -⟩ : ∃ hh : Nat → Ad, True := ⟨fun _ => ad [], trivial⟩
  have hP : va_P G vwCl ([(o, .inr (2, fsX2))] ++ (wS0 cI hh0 QI (List.range 0) ++ [])) s.heap := hP
  have hD : va_D A ([(o, .inr (2, fsX2))] ++ (wS0 cI hh0 QI (List.range 0) ++ [])) := hD
  refine lv_aload_n hx hb dX2_init_0 rfl (lv_at hl 0 rfl) ?_
  refine W.objInit hx hb hown (hts _ (List.mem_of_getElem? (i := 1) rfl)) (hts _ (List.mem_of_getElem? (i := 2) rfl)) (hts _ (List.mem_of_getElem? (i := 3) rfl)) rfl (by rw [hml]; exact hl.1) rfl dX2_init_1 (Nat.le_of_ble_eq_true rfl) (Nat.le_of_ble_eq_true rfl) ?_
  refine W.eq (g2 := F0 m 4 ls []) rfl ?_
  refine lv_aload_n hx hb dX2_init_4 rfl (lv_at hl 0 rfl) ?_
  refine ns_row hx hb hml hts hown hK hN hST hO hA hP hD hS hl.1 (Nat.le_of_ble_eq_true rfl) (by decide) (by decide) dX2_init_5 dX2_init_8 dX2_init_9 (fun h5 H locs hP hD hS => ?_)
  refine W.widen (k := 11) (n := 98) (by omega) (by omega) ?_
  have hP := gr_P hP
  have hD := gr_D hD
  refine va_putF (D := G) (ci := 2) (v := .ref (h5 0)) (ty := tyX2 0) (C := RX2) (T := TX2) (N := 8) hx hb hts hin tyX2 tyX2_ok nmX2 hown hK hP hD hS 0 rfl rfl 0 (by decide) k_10 (fun _ h9 => h9) rfl hni rfl (tyX2_ok 0 (by decide)) rfl rfl (Nat.le_of_ble_eq_true rfl) dX2_init_12 (fun H locs hP hD hS => ?_)
  have hP : va_P G vwCl ([(o, .inr (2, [.ref (h5 0), .null, .null, .null, .int 0, .null, .null, .null]))] ++ (wS0 cI (up hh0 0 h5) QI (List.range 1) ++ [])) H := hP
  have hD : va_D A ([(o, .inr (2, [.ref (h5 0), .null, .null, .null, .int 0, .null, .null, .null]))] ++ (wS0 cI (up hh0 0 h5) QI (List.range 1) ++ [])) := hD
  refine lv_aload_n hx hb dX2_init_15 rfl (lv_at hl 0 rfl) ?_
  refine ns_row hx hb hml hts hown hK hN hST hO hA hP hD hS hl.1 (Nat.le_of_ble_eq_true rfl) (by decide) (by decide) dX2_init_16 dX2_init_19 dX2_init_20 (fun h16 H locs hP hD hS => ?_)
  refine W.widen (k := 22) (n := 196) (by omega) (by omega) ?_
  have hP := gr_P hP
  have hD := gr_D hD
  refine va_putF (D := G) (ci := 2) (v := .ref (h16 0)) (ty := tyX2 1) (C := RX2) (T := TX2) (N := 8) hx hb hts hin tyX2 tyX2_ok nmX2 hown hK hP hD hS 0 rfl rfl 1 (by decide) k_16 (fun _ h9 => h9) rfl hni rfl (tyX2_ok 1 (by decide)) rfl rfl (Nat.le_of_ble_eq_true rfl) dX2_init_23 (fun H locs hP hD hS => ?_)
  have hP : va_P G vwCl ([(o, .inr (2, [.ref (h5 0), .ref (h16 0), .null, .null, .int 0, .null, .null, .null]))] ++ (wS0 cI (up (up hh0 0 h5) 1 h16) QI (List.range 2) ++ [])) H := hP
  have hD : va_D A ([(o, .inr (2, [.ref (h5 0), .ref (h16 0), .null, .null, .int 0, .null, .null, .null]))] ++ (wS0 cI (up (up hh0 0 h5) 1 h16) QI (List.range 2) ++ [])) := hD
  refine lv_aload_n hx hb dX2_init_26 rfl (lv_at hl 0 rfl) ?_
  refine ns_row hx hb hml hts hown hK hN hST hO hA hP hD hS hl.1 (Nat.le_of_ble_eq_true rfl) (by decide) (by decide) dX2_init_27 dX2_init_30 dX2_init_31 (fun h27 H locs hP hD hS => ?_)
  refine W.widen (k := 33) (n := 294) (by omega) (by omega) ?_
  have hP := gr_P hP
  have hD := gr_D hD
  refine va_putF (D := G) (ci := 2) (v := .ref (h27 0)) (ty := tyX2 2) (C := RX2) (T := TX2) (N := 8) hx hb hts hin tyX2 tyX2_ok nmX2 hown hK hP hD hS 0 rfl rfl 2 (by decide) k_19 (fun _ h9 => h9) rfl hni rfl (tyX2_ok 2 (by decide)) rfl rfl (Nat.le_of_ble_eq_true rfl) dX2_init_34 (fun H locs hP hD hS => ?_)
  have hP : va_P G vwCl ([(o, .inr (2, [.ref (h5 0), .ref (h16 0), .ref (h27 0), .null, .int 0, .null, .null, .null]))] ++ (wS0 cI (up (up (up hh0 0 h5) 1 h16) 2 h27) QI (List.range 3) ++ [])) H := hP
  have hD : va_D A ([(o, .inr (2, [.ref (h5 0), .ref (h16 0), .ref (h27 0), .null, .int 0, .null, .null, .null]))] ++ (wS0 cI (up (up (up hh0 0 h5) 1 h16) 2 h27) QI (List.range 3) ++ [])) := hD
  refine lv_aload_n hx hb dX2_init_37 rfl (lv_at hl 0 rfl) ?_
  refine lv_bipush (v := 6) hx hb dX2_init_38 (by decide) ?_
  refine nw_q (N := 6) hx hb hown (hts _ (List.mem_of_getElem? (i := 4) rfl)) hO hK hP hD hS hA (by decide) (by decide) (by decide) (Nat.le_of_ble_eq_true rfl) (Nat.le_of_ble_eq_true rfl) dX2_init_40 (fun q40 H hP hD hS => ?_)
  refine W.widen (k := 34) (n := 300) (by omega) (by omega) ?_
  have hP := hP.perm (growT _ _ _)
  have hD := hD.perm (growT _ _ _)
  have hP : va_P G vwCl ([(o, .inr (2, [.ref (h5 0), .ref (h16 0), .ref (h27 0), .null, .int 0, .null, .null, .null])), (q40, .inl (cR, 6, .inr (.inr (.inr (.inr (fun _ => none))))))] ++ (wS0 cI (up (up (up hh0 0 h5) 1 h16) 2 h27) QI (List.range 3) ++ [])) H := hP
  have hD : va_D A ([(o, .inr (2, [.ref (h5 0), .ref (h16 0), .ref (h27 0), .null, .int 0, .null, .null, .null])), (q40, .inl (cR, 6, .inr (.inr (.inr (.inr (fun _ => none))))))] ++ (wS0 cI (up (up (up hh0 0 h5) 1 h16) 2 h27) QI (List.range 3) ++ [])) := hD
  refine va_putF (D := G) (ci := 2) (v := .ref q40) (ty := tyX2 3) (C := RX2) (T := TX2) (N := 8) hx hb hts hin tyX2 tyX2_ok nmX2 hown hK hP hD hS 0 rfl rfl 3 (by decide) k_22 (fun _ h9 => h9) rfl hni rfl (tyX2_ok 3 (by decide)) rfl rfl (Nat.le_of_ble_eq_true rfl) dX2_init_43 (fun H locs hP hD hS => ?_)
  have hP : va_P G vwCl ([(o, .inr (2, [.ref (h5 0), .ref (h16 0), .ref (h27 0), .ref q40, .int 0, .null, .null, .null])), (q40, .inl (cR, 6, .inr (.inr (.inr (.inr (fun _ => none))))))] ++ (wS0 cI (up (up (up hh0 0 h5) 1 h16) 2 h27) QI (List.range 3) ++ [])) H := hP
  have hD : va_D A ([(o, .inr (2, [.ref (h5 0), .ref (h16 0), .ref (h27 0), .ref q40, .int 0, .null, .null, .null])), (q40, .inl (cR, 6, .inr (.inr (.inr (.inr (fun _ => none))))))] ++ (wS0 cI (up (up (up hh0 0 h5) 1 h16) 2 h27) QI (List.range 3) ++ [])) := hD
  refine lv_aload_n hx hb dX2_init_46 rfl (lv_at hl 0 rfl) ?_
  refine lv_iconst (v := 0) hx hb dX2_init_47 (by decide) ?_
  refine va_put (D := G) (ci := 2) (v := .int 0) (ty := tyX2 4) (C := RX2) (T := TX2) (N := 8) hx hb hts hin tyX2 tyX2_ok nmX2 hown hK hP hD hS 0 rfl rfl 4 (by decide) k_26 (fun _ h9 => h9) rfl (tyX2_ok 4 (by decide)) rfl rfl (Nat.le_of_ble_eq_true rfl) dX2_init_48 (fun H locs hP hD hS => ?_)
  have hP : va_P G vwCl ([(o, .inr (2, [.ref (h5 0), .ref (h16 0), .ref (h27 0), .ref q40, .int 0, .null, .null, .null])), (q40, .inl (cR, 6, .inr (.inr (.inr (.inr (fun _ => none))))))] ++ (wS0 cI (up (up (up hh0 0 h5) 1 h16) 2 h27) QI (List.range 3) ++ [])) H := hP
  have hD : va_D A ([(o, .inr (2, [.ref (h5 0), .ref (h16 0), .ref (h27 0), .ref q40, .int 0, .null, .null, .null])), (q40, .inl (cR, 6, .inr (.inr (.inr (.inr (fun _ => none))))))] ++ (wS0 cI (up (up (up hh0 0 h5) 1 h16) 2 h27) QI (List.range 3) ++ [])) := hD
  refine lv_aload_n hx hb dX2_init_51 rfl (lv_at hl 0 rfl) ?_
  refine lv_iconst (v := 2) hx hb dX2_init_52 (by decide) ?_
  refine nw_q (N := 2) hx hb hown (hts _ (List.mem_of_getElem? (i := 4) rfl)) hO hK hP hD hS hA (by decide) (by decide) (by decide) (Nat.le_of_ble_eq_true rfl) (Nat.le_of_ble_eq_true rfl) dX2_init_53 (fun q53 H hP hD hS => ?_)
  refine W.widen (k := 35) (n := 302) (by omega) (by omega) ?_
  have hP := hP.perm (growT _ _ _)
  have hD := hD.perm (growT _ _ _)
  have hP : va_P G vwCl ([(o, .inr (2, [.ref (h5 0), .ref (h16 0), .ref (h27 0), .ref q40, .int 0, .null, .null, .null])), (q40, .inl (cR, 6, .inr (.inr (.inr (.inr (fun _ => none)))))), (q53, .inl (cR, 2, .inr (.inr (.inr (.inr (fun _ => none))))))] ++ (wS0 cI (up (up (up hh0 0 h5) 1 h16) 2 h27) QI (List.range 3) ++ [])) H := hP
  have hD : va_D A ([(o, .inr (2, [.ref (h5 0), .ref (h16 0), .ref (h27 0), .ref q40, .int 0, .null, .null, .null])), (q40, .inl (cR, 6, .inr (.inr (.inr (.inr (fun _ => none)))))), (q53, .inl (cR, 2, .inr (.inr (.inr (.inr (fun _ => none))))))] ++ (wS0 cI (up (up (up hh0 0 h5) 1 h16) 2 h27) QI (List.range 3) ++ [])) := hD
  refine va_putF (D := G) (ci := 2) (v := .ref q53) (ty := tyX2 5) (C := RX2) (T := TX2) (N := 8) hx hb hts hin tyX2 tyX2_ok nmX2 hown hK hP hD hS 0 rfl rfl 5 (by decide) k_30 (fun _ h9 => h9) rfl hni rfl (tyX2_ok 5 (by decide)) rfl rfl (Nat.le_of_ble_eq_true rfl) dX2_init_56 (fun H locs hP hD hS => ?_)
  have hP : va_P G vwCl ([(o, .inr (2, [.ref (h5 0), .ref (h16 0), .ref (h27 0), .ref q40, .int 0, .ref q53, .null, .null])), (q40, .inl (cR, 6, .inr (.inr (.inr (.inr (fun _ => none)))))), (q53, .inl (cR, 2, .inr (.inr (.inr (.inr (fun _ => none))))))] ++ (wS0 cI (up (up (up hh0 0 h5) 1 h16) 2 h27) QI (List.range 3) ++ [])) H := hP
  have hD : va_D A ([(o, .inr (2, [.ref (h5 0), .ref (h16 0), .ref (h27 0), .ref q40, .int 0, .ref q53, .null, .null])), (q40, .inl (cR, 6, .inr (.inr (.inr (.inr (fun _ => none)))))), (q53, .inl (cR, 2, .inr (.inr (.inr (.inr (fun _ => none))))))] ++ (wS0 cI (up (up (up hh0 0 h5) 1 h16) 2 h27) QI (List.range 3) ++ [])) := hD
  refine lv_aload_n hx hb dX2_init_59 rfl (lv_at hl 0 rfl) ?_
  refine lv_iconst (v := 2) hx hb dX2_init_60 (by decide) ?_
  refine nw_b (N := 2) hx hb (hts _ (List.mem_of_getElem? (i := 13) rfl)) hK hP hD hS hA (by decide) (by decide) (by decide) (Nat.le_of_ble_eq_true rfl) (Nat.le_of_ble_eq_true rfl) dX2_init_61 (fun q61 H hP hD hS => ?_)
  refine W.widen (k := 36) (n := 304) (by omega) (by omega) ?_
  have hP := hP.perm (growT _ _ _)
  have hD := hD.perm (growT _ _ _)
  have hP : va_P G vwCl ([(o, .inr (2, [.ref (h5 0), .ref (h16 0), .ref (h27 0), .ref q40, .int 0, .ref q53, .null, .null])), (q40, .inl (cR, 6, .inr (.inr (.inr (.inr (fun _ => none)))))), (q53, .inl (cR, 2, .inr (.inr (.inr (.inr (fun _ => none)))))), (q61, .inl (cZ, 2, .inl (fun _ => 0)))] ++ (wS0 cI (up (up (up hh0 0 h5) 1 h16) 2 h27) QI (List.range 3) ++ [])) H := hP
  have hD : va_D A ([(o, .inr (2, [.ref (h5 0), .ref (h16 0), .ref (h27 0), .ref q40, .int 0, .ref q53, .null, .null])), (q40, .inl (cR, 6, .inr (.inr (.inr (.inr (fun _ => none)))))), (q53, .inl (cR, 2, .inr (.inr (.inr (.inr (fun _ => none)))))), (q61, .inl (cZ, 2, .inl (fun _ => 0)))] ++ (wS0 cI (up (up (up hh0 0 h5) 1 h16) 2 h27) QI (List.range 3) ++ [])) := hD
  refine va_putF (D := G) (ci := 2) (v := .ref q61) (ty := tyX2 6) (C := RX2) (T := TX2) (N := 8) hx hb hts hin tyX2 tyX2_ok nmX2 hown hK hP hD hS 0 rfl rfl 6 (by decide) k_33 (fun _ h9 => h9) rfl hni rfl (tyX2_ok 6 (by decide)) rfl rfl (Nat.le_of_ble_eq_true rfl) dX2_init_63 (fun H locs hP hD hS => ?_)
  have hP : va_P G vwCl ([(o, .inr (2, [.ref (h5 0), .ref (h16 0), .ref (h27 0), .ref q40, .int 0, .ref q53, .ref q61, .null])), (q40, .inl (cR, 6, .inr (.inr (.inr (.inr (fun _ => none)))))), (q53, .inl (cR, 2, .inr (.inr (.inr (.inr (fun _ => none)))))), (q61, .inl (cZ, 2, .inl (fun _ => 0)))] ++ (wS0 cI (up (up (up hh0 0 h5) 1 h16) 2 h27) QI (List.range 3) ++ [])) H := hP
  have hD : va_D A ([(o, .inr (2, [.ref (h5 0), .ref (h16 0), .ref (h27 0), .ref q40, .int 0, .ref q53, .ref q61, .null])), (q40, .inl (cR, 6, .inr (.inr (.inr (.inr (fun _ => none)))))), (q53, .inl (cR, 2, .inr (.inr (.inr (.inr (fun _ => none)))))), (q61, .inl (cZ, 2, .inl (fun _ => 0)))] ++ (wS0 cI (up (up (up hh0 0 h5) 1 h16) 2 h27) QI (List.range 3) ++ [])) := hD
  refine lv_aload_n hx hb dX2_init_66 rfl (lv_at hl 0 rfl) ?_
  refine pd_row hx hb hml hts hown hK hN hST hO hA hP hD hS hl.1 (Nat.le_of_ble_eq_true rfl) (by decide) (by decide) dX2_init_67 dX2_init_70 dX2_init_71 (fun h67 H locs hP hD hS => ?_)
  refine W.widen (k := 38) (n := 392) (by omega) (by omega) ?_
  rw [List.append_nil, List.append_assoc] at hP hD
  have hP : va_P G vwCl ([(o, .inr (2, [.ref (h5 0), .ref (h16 0), .ref (h27 0), .ref q40, .int 0, .ref q53, .ref q61, .null])), (q40, .inl (cR, 6, .inr (.inr (.inr (.inr (fun _ => none)))))), (q53, .inl (cR, 2, .inr (.inr (.inr (.inr (fun _ => none)))))), (q61, .inl (cZ, 2, .inl (fun _ => 0)))] ++ (wS0 cI (up (up (up hh0 0 h5) 1 h16) 2 h27) QI (List.range 3) ++ wPd cC h67 pdI)) H := hP
  have hD : va_D A ([(o, .inr (2, [.ref (h5 0), .ref (h16 0), .ref (h27 0), .ref q40, .int 0, .ref q53, .ref q61, .null])), (q40, .inl (cR, 6, .inr (.inr (.inr (.inr (fun _ => none)))))), (q53, .inl (cR, 2, .inr (.inr (.inr (.inr (fun _ => none)))))), (q61, .inl (cZ, 2, .inl (fun _ => 0)))] ++ (wS0 cI (up (up (up hh0 0 h5) 1 h16) 2 h27) QI (List.range 3) ++ wPd cC h67 pdI)) := hD
  refine va_putF (D := G) (ci := 2) (v := .ref (h67 0)) (ty := tyX2 7) (C := RX2) (T := TX2) (N := 8) hx hb hts hin tyX2 tyX2_ok nmX2 hown hK hP hD hS 0 rfl rfl 7 (by decide) k_40 (fun _ h9 => h9) rfl hni rfl (tyX2_ok 7 (by decide)) rfl rfl (Nat.le_of_ble_eq_true rfl) dX2_init_74 (fun H locs hP hD hS => ?_)
  have hP : va_P G vwCl ([(o, .inr (2, [.ref (h5 0), .ref (h16 0), .ref (h27 0), .ref q40, .int 0, .ref q53, .ref q61, .ref (h67 0)])), (q40, .inl (cR, 6, .inr (.inr (.inr (.inr (fun _ => none)))))), (q53, .inl (cR, 2, .inr (.inr (.inr (.inr (fun _ => none)))))), (q61, .inl (cZ, 2, .inl (fun _ => 0)))] ++ (wS0 cI (up (up (up hh0 0 h5) 1 h16) 2 h27) QI (List.range 3) ++ wPd cC h67 pdI)) H := hP
  have hD : va_D A ([(o, .inr (2, [.ref (h5 0), .ref (h16 0), .ref (h27 0), .ref q40, .int 0, .ref q53, .ref q61, .ref (h67 0)])), (q40, .inl (cR, 6, .inr (.inr (.inr (.inr (fun _ => none)))))), (q53, .inl (cR, 2, .inr (.inr (.inr (.inr (fun _ => none)))))), (q61, .inl (cZ, 2, .inl (fun _ => 0)))] ++ (wS0 cI (up (up (up hh0 0 h5) 1 h16) 2 h27) QI (List.range 3) ++ wPd cC h67 pdI)) := hD
  refine lv_iconst (v := 0) hx hb dX2_init_77 (by decide) ?_
  refine lv_istore_n (lv' := [(1, .int 0), (0, .ref o)]) hx hb dX2_init_78 rfl hl (by decide) rfl (fun ls hl => ?_)
  have r := lp1 7 0 (up (up (up hh0 0 h5) 1 h16) 2 h27) h67 q40 q53 q61 (fun _ => none) (by decide) (by decide) (fun j hj => absurd hj (Nat.not_lt_zero j)) H locs ls
  exact r hP hD hS (by rw [nI_0]; exact lv_sub hl [1, 0] rfl)
