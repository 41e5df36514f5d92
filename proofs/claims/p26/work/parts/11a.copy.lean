-- worlds as sets of cells: permutations
theorem va_P.perm {G : va_G} {cl : List vw_C} {ws ws' : va_W} {H : Heap} (h : List.Perm ws ws') (hP : va_P G cl ws H) : va_P G cl ws' H := by
  intro k q hq
  obtain ⟨i, hi⟩ := List.getElem?_of_mem (h.mem_iff.mpr (List.mem_of_getElem? hq))
  exact hP i q hi
theorem va_D_nd {A : Nat → Prop} {ws : va_W} : va_D A ws ↔ (ws.map Prod.fst).Nodup ∧ ∀ q ∈ ws, A q.1 := by
  constructor
  · intro hD
    refine ⟨List.pairwise_iff_getElem.mpr ?_, fun q hq => ?_⟩
    · intro i j hi0 hj0 hij e
      have hi : i < ws.length := by rw [List.length_map] at hi0; exact hi0
      have hj : j < ws.length := by rw [List.length_map] at hj0; exact hj0
      rw [List.getElem_map, List.getElem_map] at e
      have := hD.1 i j ws[i] ws[j] (List.getElem?_eq_getElem hi) (List.getElem?_eq_getElem hj) e
      omega
    · obtain ⟨k, hk⟩ := List.getElem?_of_mem hq
      exact hD.2 k q hk
  · intro h
    refine ⟨fun i j p q hi hj hpq => ?_, fun k q hk => h.2 q (List.mem_of_getElem? hk)⟩
    have hli := (List.getElem?_eq_some_iff.mp hi).1
    have hlj := (List.getElem?_eq_some_iff.mp hj).1
    have hli2 : i < (ws.map Prod.fst).length := by rw [List.length_map]; exact hli
    have hlj2 : j < (ws.map Prod.fst).length := by rw [List.length_map]; exact hlj
    have ei : (ws.map Prod.fst)[i] = p.1 := by rw [List.getElem_map, (List.getElem?_eq_some_iff.mp hi).2]
    have ej : (ws.map Prod.fst)[j] = q.1 := by rw [List.getElem_map, (List.getElem?_eq_some_iff.mp hj).2]
    have hn := List.pairwise_iff_getElem.mp h.1
    rcases Nat.lt_trichotomy i j with c | c | c
    · exact absurd (ei.trans (hpq.trans ej.symm)) (hn i j hli2 hlj2 c)
    · exact c
    · exact absurd (ej.trans (hpq.symm.trans ei.symm)) (hn j i hlj2 hli2 c)
theorem va_D.perm {A : Nat → Prop} {ws ws' : va_W} (h : List.Perm ws ws') (hD : va_D A ws) : va_D A ws' := by
  have h1 := va_D_nd.mp hD
  exact va_D_nd.mpr ⟨(h.map Prod.fst).nodup_iff.mp h1.1, fun q hq => h1.2 q (h.mem_iff.mpr hq)⟩
section PROWS
variable {p : Program} {l : Launch} {e : Env} {R : Room} {s : State} {m : MethodId} {args : Array Value} {below : List Frame} {meth : Method} {c : Code} {H : Heap} {locs : List Loc} {Q : State → Prop}
variable {cc : ByteArray} {pc : Nat} {ls : Array Slot} {rest st0 : List Value} {G : va_G} {A : Nat → Prop} {tys : List (ClassId × FieldType)} {ws ws' wc wc' wr : va_W} {a : Array Value} {f : Int32}
theorem gp_i (h1 : List.Perm ws (wc ++ wr)) (h2 : List.Perm ws' (wc' ++ wr)) (hP : va_P G vwCl ws H) (hD : va_D A ws) (hS : va_S A s.heap H locs) (hA : ∀ q : Nat, s.heap.size ≤ q → A q) (hr : va_Run p l e R s m args below meth c H locs 0 0 0 0 (F0 m pc ls st0) rest (Qi G wc f wc' H.size a) (va_A wc H.size))
    (kk : ∀ (H1 : Heap) (locs1 : List Loc), va_P G vwCl ws' H1 → va_D A ws' → va_S A s.heap H1 locs1 → W p l e R s m args below meth c H1 locs1 0 0 Q (F0 m (pc + 3) ls (.int f :: rest))) : W p l e R s m args below meth c H locs 0 0 Q (F0 m pc ls st0) :=
  gm_i (wl := []) (wr := wr) (hP.perm h1) (hD.perm h1) hS hA hr (fun H1 locs1 q1 q2 q3 => kk H1 locs1 (va_P.perm h2.symm q1) (va_D.perm h2.symm q2) q3)
theorem gp_v (h1 : List.Perm ws (wc ++ wr)) (h2 : List.Perm ws' (wc' ++ wr)) (hP : va_P G vwCl ws H) (hD : va_D A ws) (hS : va_S A s.heap H locs) (hA : ∀ q : Nat, s.heap.size ≤ q → A q) (hr : va_Run p l e R s m args below meth c H locs 0 0 0 0 (F0 m pc ls st0) rest (Qv G wc wc' H.size a) (va_A wc H.size))
    (kk : ∀ (H1 : Heap) (locs1 : List Loc), va_P G vwCl ws' H1 → va_D A ws' → va_S A s.heap H1 locs1 → W p l e R s m args below meth c H1 locs1 0 0 Q (F0 m (pc + 3) ls rest)) : W p l e R s m args below meth c H locs 0 0 Q (F0 m pc ls st0) :=
  gm_v (wl := []) (wr := wr) (hP.perm h1) (hD.perm h1) hS hA hr (fun H1 locs1 q1 q2 q3 => kk H1 locs1 (va_P.perm h2.symm q1) (va_D.perm h2.symm q2) q3)
-- two modules side by side: the second changes
variable {ci : Nat} {fv : List (Bool × Nat)} {al : List (ClassId × Nat)} {h : Ad} {y : SR} {w1 : va_W}
theorem ap_at (i : Nat) : (w1 ++ ws)[w1.length + i]? = ws[i]? := by
  rw [List.getElem?_append_right (by omega), show w1.length + i - w1.length = i by omega]
theorem ap_set (i : Nat) (z : Nat × va_E) : (w1 ++ ws).set (w1.length + i) z = w1 ++ ws.set i z := by
  rw [List.set_append_right _ _ (by omega), show w1.length + i - w1.length = i by omega]
theorem cp_put (hx : p.tables.exec = Jvm.exec) (hb : c.code = cc) {own C host : String} {T : u_T} {N index : Nat} {Ts : List Cond} (hts : ∀ w ∈ Ts, w.before args s = true) (hin : ∀ w ∈ u_ws C T N, w ∈ Ts) (ty0 : Nat → FieldType) (hty : ∀ k, k < N → parseFieldDescriptor (T k).2.2.1 = some (ty0 k)) (hnm : ∀ a, a < N → ∀ b, b < N → a ≠ b → (T a).2.1 ≠ (T b).2.1) (hown : s.vm.findClass own = some m.cls) (hK : va_K G vwCl tys s) (hP : va_P G vwCl (w1 ++ wM ci fv al h y) H) (hD : va_D A (w1 ++ wM ci fv al h y)) (hS : va_S A s.heap H locs) (hc : vwCl[ci]? = some (C, T, N)) (k : Nat) (hk : k < N) (hlink : (Cond.fieldLinkNest own index C (T k).2.1 (T k).2.2.1 host).before args s = true) (hC : (T k).1 = C) (hfin : (T k).2.2.2 = false) {q : Nat} {v : Int32} (hq : fv[k]? = some (false, q)) (hu : ∀ j, fv[j]? = some (false, q) → j = k) (hn : narrow (ty0 k) (.int v) = .int v) (hfit : fits (ty0 k) (.int v) = true) (hdg : decode cc pc = .ok (.putfield index, 3))
    (kk : ∀ (H1 : Heap) (locs1 : List Loc), va_P G vwCl (w1 ++ wM ci fv al h (pS y q v)) H1 → va_D A (w1 ++ wM ci fv al h (pS y q v)) → va_S A s.heap H1 locs1 → W p l e R s m args below meth c H1 locs1 0 0 Q (F0 m (pc + 3) ls rest)) : W p l e R s m args below meth c H locs 0 0 Q (F0 m pc ls (.int v :: .ref (h 0) :: rest)) := by
  have hlen : k < (fv.map (mF h y.1)).length := by
    rw [List.length_map]
    exact (List.getElem?_eq_some_iff.mp hq).1
  refine va_putN (ref := C) hx hb hts hin ty0 hty hnm hown hK hP hD hS (w1.length + 0) (fs := fv.map (mF h y.1)) (by rw [ap_at]; rfl) hc k hk hlink (fun z hz => by rw [← hC]; exact hz) hfin (hty k hk) hn hfit hlen hdg (fun H1 locs1 hP1 hD1 hS1 => ?_)
  rw [ap_set, wM_objset v hq hu] at hP1 hD1
  exact kk H1 locs1 hP1 hD1 hS1
/-- an array of a module, the first n places of it taken from another's -/
def pC (x y : SR) (k n : Nat) : SR := (y.1, up y.2 k (va_cpy (x.2 k) (y.2 k) 0 0 n))
theorem cp_arr (hx : p.tables.exec = Jvm.exec) (hb : c.code = cc) (hml : c.maxLocals = ls.size) {own : String} {index : Nat} (hown : s.vm.findClass own = some m.cls) (hlink : (Cond.methodLink own index arraycopyName).before args s = true) (hnat : (Cond.native arraycopyName).before args s = true) (hstat : (Cond.static arraycopyName).before args s = true) (hini : (Cond.initialized "java/lang/System").before args s = true) (hK : va_K G vwCl tys s) {h1 : Ad} {x : SR} (hP : va_P G vwCl (wM ci fv al h1 x ++ wM ci fv al h y) H) (hD : va_D A (wM ci fv al h1 x ++ wM ci fv al h y)) (hS : va_S A s.heap H locs) (k : Nat) {cA : ClassId} {n : Nat} (ha : al[k]? = some (cA, n)) (ht : tys[0]? = some (cA, .int)) {N : Int32} (hN : N.toNatClampNeg = n) (hN0 : ¬ N < 0) (hfr : 1 ≤ R.frames) (hlo : (rest.map fun v => v.category).sum + (nativeFrameWords "java/lang/System" "arraycopy" 5 + 11) ≤ R.locals) (hdg : decode cc pc = .ok (.invokestatic index, 3))
    (kk : ∀ (H1 : Heap) (locs1 : List Loc), va_P G vwCl (wM ci fv al h1 x ++ wM ci fv al h (pC x y k n)) H1 → va_D A (wM ci fv al h1 x ++ wM ci fv al h (pC x y k n)) → va_S A s.heap H1 locs1 → W p l e R s m args below meth c H1 locs1 0 0 Q (F0 m (pc + 3) ls rest)) : W p l e R s m args below meth c H locs 0 0 Q (F0 m pc ls (.int N :: .int 0 :: .ref (h (k + 1)) :: .int 0 :: .ref (h1 (k + 1)) :: rest)) := by
  have e0 : (wM ci fv al h1 x ++ wM ci fv al h y)[k + 1]? = some (h1 (k + 1), .inl (cA, n, .inl (x.2 k))) := by
    rw [List.getElem?_append_left (List.getElem?_eq_some_iff.mp (wM_arr (ci := ci) (fv := fv) (h := h1) (x := x) ha)).1]
    exact wM_arr ha
  have e1 : (wM ci fv al h1 x ++ wM ci fv al h y)[(wM ci fv al h1 x).length + (k + 1)]? = some (h (k + 1), .inl (cA, n, .inl (y.2 k))) := by
    rw [ap_at]
    exact wM_arr ha
  refine va_copyi hx hb hml hown hlink hnat hstat hini hK hP hD hS (k + 1) ((wM ci fv al h1 x).length + (k + 1)) 0 0 e0 e1 ht ht rfl (by decide) (by decide) hN0 (by rw [hN]; exact Nat.le_of_eq (Nat.zero_add n)) (by rw [hN]; exact Nat.le_of_eq (Nat.zero_add n)) (fun i _ => rfl) hfr hlo hdg (fun H1 locs1 hP1 hD1 hS1 => ?_)
  rw [ap_set, wM_arrset _ ha, hN] at hP1 hD1
  exact kk H1 locs1 hP1 hD1 hS1
end PROWS
theorem va_P.left {G : va_G} {cl : List vw_C} {w1 w2 : va_W} {H : Heap} (h : va_P G cl (w1 ++ w2) H) : va_P G cl w1 H := fun k q hq => h k q (by rw [List.getElem?_append_left (List.getElem?_eq_some_iff.mp hq).1]; exact hq)
theorem va_P.right {G : va_G} {cl : List vw_C} {w1 w2 : va_W} {H : Heap} (h : va_P G cl (w1 ++ w2) H) : va_P G cl w2 H := fun k q hq => h (w1.length + k) q (by rw [ap_at]; exact hq)
def pX2_copy (x y : SR) : SR := (pC x (pC x (pC x (pC x (pC x (pC x (pC x (pC x (pC x (pC x (pS (pS (pS (pS (pS (pS (pS (pS y 0 (x.1 0)) 1 (x.1 1)) 2 (x.1 2)) 3 (x.1 3)) 4 (x.1 4)) 5 (x.1 5)) 6 (x.1 6)) 7 (x.1 7)) 0 7) 1 12) 2 12) 3 12) 4 12) 5 5) 6 5) 7 5) 8 5) 9 5)
set_option maxHeartbeats 2000000 in
set_option maxRecDepth 100000 in
theorem ctX2_copy (l : Launch) (G : va_G) (cI cC cZ cR : ClassId) (h1 h2 : Ad) (x y : SR) : Ct l yX2_copy wsX2_copy (rmz 1 40) G (TY cI cC cZ cR) [.ref (h1 0), .ref (h2 0)] (wSt cI h1 x ++ wSt cI h2 y) (Qv G (wSt cI h1 x ++ wSt cI h2 y) (wSt cI h1 x ++ wSt cI h2 (pX2_copy x y))) := by
  refine Ct.ofV (cc := cX2_copy) (maxL := 2) (ret := none) (by decide) rfl rfl ?_
  intro p e s m below meth c A ls E0 hP hD hS hl
  obtain ⟨hx, hb, hr, hml, hlocks, hts, hown, hK, hN, hA⟩ := E0
  have hl : lv_has ls 2 [(0, .ref (h1 0)), (1, .ref (h2 0))] := hl
  have hin : ∀ w ∈ wsX10, w ∈ wsX2_copy := fun w hw => List.mem_cons_of_mem _ (List.mem_append_right _ (hw))
  unfold pX2_copy
  refine lv_aload_n hx hb dX2_copy_0 rfl (lv_at hl 0 rfl) ?_
  refine lv_ifnull hx hb dX2_copy_1 ?_
  refine lv_aload_n hx hb dX2_copy_4 rfl (lv_at hl 1 rfl) ?_
  refine lv_ifnonnull (tgt := 9) hx hb dX2_copy_5 (by decide) ?_
  refine lv_aload_n hx hb dX2_copy_9 rfl (lv_at hl 1 rfl) ?_
  refine lv_aload_n hx hb dX2_copy_10 rfl (lv_at hl 0 rfl) ?_
  refine md_getN (ci := 1) (C := RX1) (T := TX1) (N := 18) (x := x) (v := (.int (x.1 0))) hx hb hts hin hown hK hP.left rfl 1 (by decide) (NWs.at hN 2 rfl) rfl rfl rfl dX2_copy_11 ?_
  refine cp_put (ci := 1) (C := RX1) (T := TX1) (N := 18) hx hb hts hin tyX1 tyX1_ok nmX1 hown hK hP hD hS rfl 1 (by decide) (NWs.at hN 2 rfl) rfl rfl (q := 0) rfl (fu (by decide)) rfl rfl dX2_copy_14 (fun H locs hP hD hS => ?_)
  refine lv_aload_n hx hb dX2_copy_17 rfl (lv_at hl 1 rfl) ?_
  refine lv_aload_n hx hb dX2_copy_18 rfl (lv_at hl 0 rfl) ?_
  refine md_getN (ci := 1) (C := RX1) (T := TX1) (N := 18) (x := x) (v := (.int (x.1 1))) hx hb hts hin hown hK hP.left rfl 2 (by decide) (NWs.at hN 3 rfl) rfl rfl rfl dX2_copy_19 ?_
  refine cp_put (ci := 1) (C := RX1) (T := TX1) (N := 18) hx hb hts hin tyX1 tyX1_ok nmX1 hown hK hP hD hS rfl 2 (by decide) (NWs.at hN 3 rfl) rfl rfl (q := 1) rfl (fu (by decide)) rfl rfl dX2_copy_22 (fun H locs hP hD hS => ?_)
  refine lv_aload_n hx hb dX2_copy_25 rfl (lv_at hl 1 rfl) ?_
  refine lv_aload_n hx hb dX2_copy_26 rfl (lv_at hl 0 rfl) ?_
  refine md_getN (ci := 1) (C := RX1) (T := TX1) (N := 18) (x := x) (v := (.int (x.1 2))) hx hb hts hin hown hK hP.left rfl 3 (by decide) (NWs.at hN 4 rfl) rfl rfl rfl dX2_copy_27 ?_
  refine cp_put (ci := 1) (C := RX1) (T := TX1) (N := 18) hx hb hts hin tyX1 tyX1_ok nmX1 hown hK hP hD hS rfl 3 (by decide) (NWs.at hN 4 rfl) rfl rfl (q := 2) rfl (fu (by decide)) rfl rfl dX2_copy_30 (fun H locs hP hD hS => ?_)
  refine lv_aload_n hx hb dX2_copy_33 rfl (lv_at hl 1 rfl) ?_
  refine lv_aload_n hx hb dX2_copy_34 rfl (lv_at hl 0 rfl) ?_
  refine md_getN (ci := 1) (C := RX1) (T := TX1) (N := 18) (x := x) (v := (.int (x.1 3))) hx hb hts hin hown hK hP.left rfl 8 (by decide) (NWs.at hN 9 rfl) rfl rfl rfl dX2_copy_35 ?_
  refine cp_put (ci := 1) (C := RX1) (T := TX1) (N := 18) hx hb hts hin tyX1 tyX1_ok nmX1 hown hK hP hD hS rfl 8 (by decide) (NWs.at hN 9 rfl) rfl rfl (q := 3) rfl (fu (by decide)) rfl rfl dX2_copy_38 (fun H locs hP hD hS => ?_)
  refine lv_aload_n hx hb dX2_copy_41 rfl (lv_at hl 1 rfl) ?_
  refine lv_aload_n hx hb dX2_copy_42 rfl (lv_at hl 0 rfl) ?_
  refine md_getN (ci := 1) (C := RX1) (T := TX1) (N := 18) (x := x) (v := (.int (x.1 4))) hx hb hts hin hown hK hP.left rfl 14 (by decide) (NWs.at hN 15 rfl) rfl rfl rfl dX2_copy_43 ?_
  refine cp_put (ci := 1) (C := RX1) (T := TX1) (N := 18) hx hb hts hin tyX1 tyX1_ok nmX1 hown hK hP hD hS rfl 14 (by decide) (NWs.at hN 15 rfl) rfl rfl (q := 4) rfl (fu (by decide)) rfl rfl dX2_copy_46 (fun H locs hP hD hS => ?_)
  refine lv_aload_n hx hb dX2_copy_49 rfl (lv_at hl 1 rfl) ?_
  refine lv_aload_n hx hb dX2_copy_50 rfl (lv_at hl 0 rfl) ?_
  refine md_getN (ci := 1) (C := RX1) (T := TX1) (N := 18) (x := x) (v := (.int (x.1 5))) hx hb hts hin hown hK hP.left rfl 15 (by decide) (NWs.at hN 16 rfl) rfl rfl rfl dX2_copy_51 ?_
  refine cp_put (ci := 1) (C := RX1) (T := TX1) (N := 18) hx hb hts hin tyX1 tyX1_ok nmX1 hown hK hP hD hS rfl 15 (by decide) (NWs.at hN 16 rfl) rfl rfl (q := 5) rfl (fu (by decide)) rfl rfl dX2_copy_54 (fun H locs hP hD hS => ?_)
  refine lv_aload_n hx hb dX2_copy_57 rfl (lv_at hl 1 rfl) ?_
  refine lv_aload_n hx hb dX2_copy_58 rfl (lv_at hl 0 rfl) ?_
  refine md_getN (ci := 1) (C := RX1) (T := TX1) (N := 18) (x := x) (v := (.int (x.1 6))) hx hb hts hin hown hK hP.left rfl 16 (by decide) (NWs.at hN 17 rfl) rfl rfl rfl dX2_copy_59 ?_
  refine cp_put (ci := 1) (C := RX1) (T := TX1) (N := 18) hx hb hts hin tyX1 tyX1_ok nmX1 hown hK hP hD hS rfl 16 (by decide) (NWs.at hN 17 rfl) rfl rfl (q := 6) rfl (fu (by decide)) rfl rfl dX2_copy_62 (fun H locs hP hD hS => ?_)
  refine lv_aload_n hx hb dX2_copy_65 rfl (lv_at hl 1 rfl) ?_
  refine lv_aload_n hx hb dX2_copy_66 rfl (lv_at hl 0 rfl) ?_
  refine md_getN (ci := 1) (C := RX1) (T := TX1) (N := 18) (x := x) (v := (.int (x.1 7))) hx hb hts hin hown hK hP.left rfl 17 (by decide) (NWs.at hN 18 rfl) rfl rfl rfl dX2_copy_67 ?_
  refine cp_put (ci := 1) (C := RX1) (T := TX1) (N := 18) hx hb hts hin tyX1 tyX1_ok nmX1 hown hK hP hD hS rfl 17 (by decide) (NWs.at hN 18 rfl) rfl rfl (q := 7) rfl (fu (by decide)) rfl rfl dX2_copy_70 (fun H locs hP hD hS => ?_)
  refine lv_aload_n hx hb dX2_copy_73 rfl (lv_at hl 0 rfl) ?_
  refine md_getN (ci := 1) (C := RX1) (T := TX1) (N := 18) (x := x) (v := (.ref (h1 1))) hx hb hts hin hown hK hP.left rfl 0 (by decide) (NWs.at hN 1 rfl) rfl rfl rfl dX2_copy_74 ?_
  refine lv_iconst (v := 0) hx hb dX2_copy_77 (by decide) ?_
  refine lv_aload_n hx hb dX2_copy_78 rfl (lv_at hl 1 rfl) ?_
  refine md_getN (ci := 1) (C := RX1) (T := TX1) (N := 18) (x := (pS (pS (pS (pS (pS (pS (pS (pS y 0 (x.1 0)) 1 (x.1 1)) 2 (x.1 2)) 3 (x.1 3)) 4 (x.1 4)) 5 (x.1 5)) 6 (x.1 6)) 7 (x.1 7))) (v := (.ref (h2 1))) hx hb hts hin hown hK hP.right rfl 0 (by decide) (NWs.at hN 1 rfl) rfl rfl rfl dX2_copy_79 ?_
  refine lv_iconst (v := 0) hx hb dX2_copy_82 (by decide) ?_
  refine lv_bipush (v := 7) hx hb dX2_copy_83 (by decide) ?_
  refine cp_arr hx hb (hml.trans hl.1.symm) hown (hts _ (List.mem_of_getElem? (i := 1) rfl)) (hts _ (List.mem_of_getElem? (i := 2) rfl)) (hts _ (List.mem_of_getElem? (i := 3) rfl)) (hts _ (List.mem_of_getElem? (i := 4) rfl)) hK hP hD hS 0 rfl rfl (n := 7) rfl (by decide) (Nat.le_of_ble_eq_true rfl) (Nat.le_of_ble_eq_true rfl) dX2_copy_85 (fun H locs hP hD hS => ?_)
  refine lv_aload_n hx hb dX2_copy_88 rfl (lv_at hl 0 rfl) ?_
  refine md_getN (ci := 1) (C := RX1) (T := TX1) (N := 18) (x := x) (v := (.ref (h1 2))) hx hb hts hin hown hK hP.left rfl 4 (by decide) (NWs.at hN 5 rfl) rfl rfl rfl dX2_copy_89 ?_
  refine lv_iconst (v := 0) hx hb dX2_copy_92 (by decide) ?_
  refine lv_aload_n hx hb dX2_copy_93 rfl (lv_at hl 1 rfl) ?_
  refine md_getN (ci := 1) (C := RX1) (T := TX1) (N := 18) (x := (pC x (pS (pS (pS (pS (pS (pS (pS (pS y 0 (x.1 0)) 1 (x.1 1)) 2 (x.1 2)) 3 (x.1 3)) 4 (x.1 4)) 5 (x.1 5)) 6 (x.1 6)) 7 (x.1 7)) 0 7)) (v := (.ref (h2 2))) hx hb hts hin hown hK hP.right rfl 4 (by decide) (NWs.at hN 5 rfl) rfl rfl rfl dX2_copy_94 ?_
  refine lv_iconst (v := 0) hx hb dX2_copy_97 (by decide) ?_
  refine lv_bipush (v := 12) hx hb dX2_copy_98 (by decide) ?_
  refine cp_arr hx hb (hml.trans hl.1.symm) hown (hts _ (List.mem_of_getElem? (i := 1) rfl)) (hts _ (List.mem_of_getElem? (i := 2) rfl)) (hts _ (List.mem_of_getElem? (i := 3) rfl)) (hts _ (List.mem_of_getElem? (i := 4) rfl)) hK hP hD hS 1 rfl rfl (n := 12) rfl (by decide) (Nat.le_of_ble_eq_true rfl) (Nat.le_of_ble_eq_true rfl) dX2_copy_100 (fun H locs hP hD hS => ?_)
  refine lv_aload_n hx hb dX2_copy_103 rfl (lv_at hl 0 rfl) ?_
  refine md_getN (ci := 1) (C := RX1) (T := TX1) (N := 18) (x := x) (v := (.ref (h1 3))) hx hb hts hin hown hK hP.left rfl 5 (by decide) (NWs.at hN 6 rfl) rfl rfl rfl dX2_copy_104 ?_
  refine lv_iconst (v := 0) hx hb dX2_copy_107 (by decide) ?_
  refine lv_aload_n hx hb dX2_copy_108 rfl (lv_at hl 1 rfl) ?_
  refine md_getN (ci := 1) (C := RX1) (T := TX1) (N := 18) (x := (pC x (pC x (pS (pS (pS (pS (pS (pS (pS (pS y 0 (x.1 0)) 1 (x.1 1)) 2 (x.1 2)) 3 (x.1 3)) 4 (x.1 4)) 5 (x.1 5)) 6 (x.1 6)) 7 (x.1 7)) 0 7) 1 12)) (v := (.ref (h2 3))) hx hb hts hin hown hK hP.right rfl 5 (by decide) (NWs.at hN 6 rfl) rfl rfl rfl dX2_copy_109 ?_
  refine lv_iconst (v := 0) hx hb dX2_copy_112 (by decide) ?_
  refine lv_bipush (v := 12) hx hb dX2_copy_113 (by decide) ?_
  refine cp_arr hx hb (hml.trans hl.1.symm) hown (hts _ (List.mem_of_getElem? (i := 1) rfl)) (hts _ (List.mem_of_getElem? (i := 2) rfl)) (hts _ (List.mem_of_getElem? (i := 3) rfl)) (hts _ (List.mem_of_getElem? (i := 4) rfl)) hK hP hD hS 2 rfl rfl (n := 12) rfl (by decide) (Nat.le_of_ble_eq_true rfl) (Nat.le_of_ble_eq_true rfl) dX2_copy_115 (fun H locs hP hD hS => ?_)
  refine lv_aload_n hx hb dX2_copy_118 rfl (lv_at hl 0 rfl) ?_
  refine md_getN (ci := 1) (C := RX1) (T := TX1) (N := 18) (x := x) (v := (.ref (h1 4))) hx hb hts hin hown hK hP.left rfl 6 (by decide) (NWs.at hN 7 rfl) rfl rfl rfl dX2_copy_119 ?_
  refine lv_iconst (v := 0) hx hb dX2_copy_122 (by decide) ?_
  refine lv_aload_n hx hb dX2_copy_123 rfl (lv_at hl 1 rfl) ?_
  refine md_getN (ci := 1) (C := RX1) (T := TX1) (N := 18) (x := (pC x (pC x (pC x (pS (pS (pS (pS (pS (pS (pS (pS y 0 (x.1 0)) 1 (x.1 1)) 2 (x.1 2)) 3 (x.1 3)) 4 (x.1 4)) 5 (x.1 5)) 6 (x.1 6)) 7 (x.1 7)) 0 7) 1 12) 2 12)) (v := (.ref (h2 4))) hx hb hts hin hown hK hP.right rfl 6 (by decide) (NWs.at hN 7 rfl) rfl rfl rfl dX2_copy_124 ?_
  refine lv_iconst (v := 0) hx hb dX2_copy_127 (by decide) ?_
  refine lv_bipush (v := 12) hx hb dX2_copy_128 (by decide) ?_
  refine cp_arr hx hb (hml.trans hl.1.symm) hown (hts _ (List.mem_of_getElem? (i := 1) rfl)) (hts _ (List.mem_of_getElem? (i := 2) rfl)) (hts _ (List.mem_of_getElem? (i := 3) rfl)) (hts _ (List.mem_of_getElem? (i := 4) rfl)) hK hP hD hS 3 rfl rfl (n := 12) rfl (by decide) (Nat.le_of_ble_eq_true rfl) (Nat.le_of_ble_eq_true rfl) dX2_copy_130 (fun H locs hP hD hS => ?_)
  refine lv_aload_n hx hb dX2_copy_133 rfl (lv_at hl 0 rfl) ?_
  refine md_getN (ci := 1) (C := RX1) (T := TX1) (N := 18) (x := x) (v := (.ref (h1 5))) hx hb hts hin hown hK hP.left rfl 7 (by decide) (NWs.at hN 8 rfl) rfl rfl rfl dX2_copy_134 ?_
  refine lv_iconst (v := 0) hx hb dX2_copy_137 (by decide) ?_
  refine lv_aload_n hx hb dX2_copy_138 rfl (lv_at hl 1 rfl) ?_
  refine md_getN (ci := 1) (C := RX1) (T := TX1) (N := 18) (x := (pC x (pC x (pC x (pC x (pS (pS (pS (pS (pS (pS (pS (pS y 0 (x.1 0)) 1 (x.1 1)) 2 (x.1 2)) 3 (x.1 3)) 4 (x.1 4)) 5 (x.1 5)) 6 (x.1 6)) 7 (x.1 7)) 0 7) 1 12) 2 12) 3 12)) (v := (.ref (h2 5))) hx hb hts hin hown hK hP.right rfl 7 (by decide) (NWs.at hN 8 rfl) rfl rfl rfl dX2_copy_139 ?_
  refine lv_iconst (v := 0) hx hb dX2_copy_142 (by decide) ?_
  refine lv_bipush (v := 12) hx hb dX2_copy_143 (by decide) ?_
  refine cp_arr hx hb (hml.trans hl.1.symm) hown (hts _ (List.mem_of_getElem? (i := 1) rfl)) (hts _ (List.mem_of_getElem? (i := 2) rfl)) (hts _ (List.mem_of_getElem? (i := 3) rfl)) (hts _ (List.mem_of_getElem? (i := 4) rfl)) hK hP hD hS 4 rfl rfl (n := 12) rfl (by decide) (Nat.le_of_ble_eq_true rfl) (Nat.le_of_ble_eq_true rfl) dX2_copy_145 (fun H locs hP hD hS => ?_)
  refine lv_aload_n hx hb dX2_copy_148 rfl (lv_at hl 0 rfl) ?_
  refine md_getN (ci := 1) (C := RX1) (T := TX1) (N := 18) (x := x) (v := (.ref (h1 6))) hx hb hts hin hown hK hP.left rfl 9 (by decide) (NWs.at hN 10 rfl) rfl rfl rfl dX2_copy_149 ?_
  refine lv_iconst (v := 0) hx hb dX2_copy_152 (by decide) ?_
  refine lv_aload_n hx hb dX2_copy_153 rfl (lv_at hl 1 rfl) ?_
  refine md_getN (ci := 1) (C := RX1) (T := TX1) (N := 18) (x := (pC x (pC x (pC x (pC x (pC x (pS (pS (pS (pS (pS (pS (pS (pS y 0 (x.1 0)) 1 (x.1 1)) 2 (x.1 2)) 3 (x.1 3)) 4 (x.1 4)) 5 (x.1 5)) 6 (x.1 6)) 7 (x.1 7)) 0 7) 1 12) 2 12) 3 12) 4 12)) (v := (.ref (h2 6))) hx hb hts hin hown hK hP.right rfl 9 (by decide) (NWs.at hN 10 rfl) rfl rfl rfl dX2_copy_154 ?_
  refine lv_iconst (v := 0) hx hb dX2_copy_157 (by decide) ?_
  refine lv_iconst (v := 5) hx hb dX2_copy_158 (by decide) ?_
  refine cp_arr hx hb (hml.trans hl.1.symm) hown (hts _ (List.mem_of_getElem? (i := 1) rfl)) (hts _ (List.mem_of_getElem? (i := 2) rfl)) (hts _ (List.mem_of_getElem? (i := 3) rfl)) (hts _ (List.mem_of_getElem? (i := 4) rfl)) hK hP hD hS 5 rfl rfl (n := 5) rfl (by decide) (Nat.le_of_ble_eq_true rfl) (Nat.le_of_ble_eq_true rfl) dX2_copy_159 (fun H locs hP hD hS => ?_)
  refine lv_aload_n hx hb dX2_copy_162 rfl (lv_at hl 0 rfl) ?_
  refine md_getN (ci := 1) (C := RX1) (T := TX1) (N := 18) (x := x) (v := (.ref (h1 7))) hx hb hts hin hown hK hP.left rfl 10 (by decide) (NWs.at hN 11 rfl) rfl rfl rfl dX2_copy_163 ?_
  refine lv_iconst (v := 0) hx hb dX2_copy_166 (by decide) ?_
  refine lv_aload_n hx hb dX2_copy_167 rfl (lv_at hl 1 rfl) ?_
  refine md_getN (ci := 1) (C := RX1) (T := TX1) (N := 18) (x := (pC x (pC x (pC x (pC x (pC x (pC x (pS (pS (pS (pS (pS (pS (pS (pS y 0 (x.1 0)) 1 (x.1 1)) 2 (x.1 2)) 3 (x.1 3)) 4 (x.1 4)) 5 (x.1 5)) 6 (x.1 6)) 7 (x.1 7)) 0 7) 1 12) 2 12) 3 12) 4 12) 5 5)) (v := (.ref (h2 7))) hx hb hts hin hown hK hP.right rfl 10 (by decide) (NWs.at hN 11 rfl) rfl rfl rfl dX2_copy_168 ?_
  refine lv_iconst (v := 0) hx hb dX2_copy_171 (by decide) ?_
  refine lv_iconst (v := 5) hx hb dX2_copy_172 (by decide) ?_
  refine cp_arr hx hb (hml.trans hl.1.symm) hown (hts _ (List.mem_of_getElem? (i := 1) rfl)) (hts _ (List.mem_of_getElem? (i := 2) rfl)) (hts _ (List.mem_of_getElem? (i := 3) rfl)) (hts _ (List.mem_of_getElem? (i := 4) rfl)) hK hP hD hS 6 rfl rfl (n := 5) rfl (by decide) (Nat.le_of_ble_eq_true rfl) (Nat.le_of_ble_eq_true rfl) dX2_copy_173 (fun H locs hP hD hS => ?_)
  refine lv_aload_n hx hb dX2_copy_176 rfl (lv_at hl 0 rfl) ?_
  refine md_getN (ci := 1) (C := RX1) (T := TX1) (N := 18) (x := x) (v := (.ref (h1 8))) hx hb hts hin hown hK hP.left rfl 11 (by decide) (NWs.at hN 12 rfl) rfl rfl rfl dX2_copy_177 ?_
  refine lv_iconst (v := 0) hx hb dX2_copy_180 (by decide) ?_
  refine lv_aload_n hx hb dX2_copy_181 rfl (lv_at hl 1 rfl) ?_
  refine md_getN (ci := 1) (C := RX1) (T := TX1) (N := 18) (x := (pC x (pC x (pC x (pC x (pC x (pC x (pC x (pS (pS (pS (pS (pS (pS (pS (pS y 0 (x.1 0)) 1 (x.1 1)) 2 (x.1 2)) 3 (x.1 3)) 4 (x.1 4)) 5 (x.1 5)) 6 (x.1 6)) 7 (x.1 7)) 0 7) 1 12) 2 12) 3 12) 4 12) 5 5) 6 5)) (v := (.ref (h2 8))) hx hb hts hin hown hK hP.right rfl 11 (by decide) (NWs.at hN 12 rfl) rfl rfl rfl dX2_copy_182 ?_
  refine lv_iconst (v := 0) hx hb dX2_copy_185 (by decide) ?_
  refine lv_iconst (v := 5) hx hb dX2_copy_186 (by decide) ?_
  refine cp_arr hx hb (hml.trans hl.1.symm) hown (hts _ (List.mem_of_getElem? (i := 1) rfl)) (hts _ (List.mem_of_getElem? (i := 2) rfl)) (hts _ (List.mem_of_getElem? (i := 3) rfl)) (hts _ (List.mem_of_getElem? (i := 4) rfl)) hK hP hD hS 7 rfl rfl (n := 5) rfl (by decide) (Nat.le_of_ble_eq_true rfl) (Nat.le_of_ble_eq_true rfl) dX2_copy_187 (fun H locs hP hD hS => ?_)
  refine lv_aload_n hx hb dX2_copy_190 rfl (lv_at hl 0 rfl) ?_
  refine md_getN (ci := 1) (C := RX1) (T := TX1) (N := 18) (x := x) (v := (.ref (h1 9))) hx hb hts hin hown hK hP.left rfl 12 (by decide) (NWs.at hN 13 rfl) rfl rfl rfl dX2_copy_191 ?_
  refine lv_iconst (v := 0) hx hb dX2_copy_194 (by decide) ?_
  refine lv_aload_n hx hb dX2_copy_195 rfl (lv_at hl 1 rfl) ?_
  refine md_getN (ci := 1) (C := RX1) (T := TX1) (N := 18) (x := (pC x (pC x (pC x (pC x (pC x (pC x (pC x (pC x (pS (pS (pS (pS (pS (pS (pS (pS y 0 (x.1 0)) 1 (x.1 1)) 2 (x.1 2)) 3 (x.1 3)) 4 (x.1 4)) 5 (x.1 5)) 6 (x.1 6)) 7 (x.1 7)) 0 7) 1 12) 2 12) 3 12) 4 12) 5 5) 6 5) 7 5)) (v := (.ref (h2 9))) hx hb hts hin hown hK hP.right rfl 12 (by decide) (NWs.at hN 13 rfl) rfl rfl rfl dX2_copy_196 ?_
  refine lv_iconst (v := 0) hx hb dX2_copy_199 (by decide) ?_
  refine lv_iconst (v := 5) hx hb dX2_copy_200 (by decide) ?_
  refine cp_arr hx hb (hml.trans hl.1.symm) hown (hts _ (List.mem_of_getElem? (i := 1) rfl)) (hts _ (List.mem_of_getElem? (i := 2) rfl)) (hts _ (List.mem_of_getElem? (i := 3) rfl)) (hts _ (List.mem_of_getElem? (i := 4) rfl)) hK hP hD hS 8 rfl rfl (n := 5) rfl (by decide) (Nat.le_of_ble_eq_true rfl) (Nat.le_of_ble_eq_true rfl) dX2_copy_201 (fun H locs hP hD hS => ?_)
  refine lv_aload_n hx hb dX2_copy_204 rfl (lv_at hl 0 rfl) ?_
  refine md_getN (ci := 1) (C := RX1) (T := TX1) (N := 18) (x := x) (v := (.ref (h1 10))) hx hb hts hin hown hK hP.left rfl 13 (by decide) (NWs.at hN 14 rfl) rfl rfl rfl dX2_copy_205 ?_
  refine lv_iconst (v := 0) hx hb dX2_copy_208 (by decide) ?_
  refine lv_aload_n hx hb dX2_copy_209 rfl (lv_at hl 1 rfl) ?_
  refine md_getN (ci := 1) (C := RX1) (T := TX1) (N := 18) (x := (pC x (pC x (pC x (pC x (pC x (pC x (pC x (pC x (pC x (pS (pS (pS (pS (pS (pS (pS (pS y 0 (x.1 0)) 1 (x.1 1)) 2 (x.1 2)) 3 (x.1 3)) 4 (x.1 4)) 5 (x.1 5)) 6 (x.1 6)) 7 (x.1 7)) 0 7) 1 12) 2 12) 3 12) 4 12) 5 5) 6 5) 7 5) 8 5)) (v := (.ref (h2 10))) hx hb hts hin hown hK hP.right rfl 13 (by decide) (NWs.at hN 14 rfl) rfl rfl rfl dX2_copy_210 ?_
  refine lv_iconst (v := 0) hx hb dX2_copy_213 (by decide) ?_
  refine lv_iconst (v := 5) hx hb dX2_copy_214 (by decide) ?_
  refine cp_arr hx hb (hml.trans hl.1.symm) hown (hts _ (List.mem_of_getElem? (i := 1) rfl)) (hts _ (List.mem_of_getElem? (i := 2) rfl)) (hts _ (List.mem_of_getElem? (i := 3) rfl)) (hts _ (List.mem_of_getElem? (i := 4) rfl)) hK hP hD hS 9 rfl rfl (n := 5) rfl (by decide) (Nat.le_of_ble_eq_true rfl) (Nat.le_of_ble_eq_true rfl) dX2_copy_215 (fun H locs hP hD hS => ?_)
  exact rt_v hx hb hr hlocks hP hD hS dX2_copy_218
