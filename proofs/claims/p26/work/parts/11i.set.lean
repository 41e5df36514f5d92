-- the three static rows of settings
def firstF : Nat → Int32 := fun j => [2, 20, 4, 3, 10, 60, 7].getD j 0
def leastF : Nat → Int32 := fun j => [0, 1, 1, 0, 0, 0, 1].getD j 0
def mostF : Nat → Int32 := fun j => [12, 50, 20, 20, 50, 100, 20].getD j 0
def STs (A : Nat → Prop) (U : State) (H : Heap) : Prop := ∃ t1 t2 t3 : Nat, va_Z "PianoCovers" "FIRST_SETTING" "[I" (.ref t1) A U H ∧ va_T .int t1 7 (fun j => .int (firstF j)) A U H ∧ va_Z "PianoCovers" "LEAST_SETTING" "[I" (.ref t2) A U H ∧ va_T .int t2 7 (fun j => .int (leastF j)) A U H ∧ va_Z "PianoCovers" "MOST_SETTING" "[I" (.ref t3) A U H ∧ va_T .int t3 7 (fun j => .int (mostF j)) A U H
theorem STs.moved {A : Nat → Prop} {u U : State} {H : Heap} (hv : u.vm.Alike U.vm) (h : STs A u H) : STs A U H := by
  obtain ⟨t1, t2, t3, h1, h2, h3, h4, h5, h6⟩ := h
  exact ⟨t1, t2, t3, h1.moved hv, h2.moved hv, h3.moved hv, h4.moved hv, h5.moved hv, h6.moved hv⟩
theorem STs.kept {A : Nat → Prop} {U : State} {H H1 : Heap} (h : STs A U H) (hq : ∀ a : Nat, a < H.size → ¬ A a → H1[a]? = H[a]?) : STs A U H1 := by
  obtain ⟨t1, t2, t3, h1, h2, h3, h4, h5, h6⟩ := h
  exact ⟨t1, t2, t3, h1.kept hq, h2.kept hq, h3.kept hq, h4.kept hq, h5.kept hq, h6.kept hq⟩
theorem STs.narrow {A B : Nat → Prop} {U : State} {H : Heap} (h : STs A U H) (hAB : ∀ q, B q → A q) : STs B U H := by
  obtain ⟨t1, t2, t3, h1, h2, h3, h4, h5, h6⟩ := h
  exact ⟨t1, t2, t3, h1.narrow hAB, h2.narrow hAB, h3.narrow hAB, h4.narrow hAB, h5.narrow hAB, h6.narrow hAB⟩
def CtS (l : Launch) (y : MethodName) (words : List Cond) (rm : Room) (G : va_G) (tys : List (ClassId × FieldType)) (args : List Value) (ws : va_W) (Q : Ends) : Prop := ∀ sz : Nat, Met l y words rm (va_Pc args (fun U => PreW G tys sz ws U ∧ STs (va_A ws sz) U U.heap)) (Q sz) 0 0 (va_A ws sz)
theorem PreS.blind {G : va_G} {tys : List (ClassId × FieldType)} {sz : Nat} {ws : va_W} {av : List Value} : FrameBlind (va_Pc av (fun U => PreW G tys sz ws U ∧ STs (va_A ws sz) U U.heap)) := fun a U g mk q => by
  obtain ⟨q0, qW, qS⟩ := q
  exact ⟨q0, (PreW.blind a U g mk ⟨rfl, qW⟩).2, STs.moved (u := U) (U := U.calling g mk a) (Vm.Alike.refl U.vm) qS⟩
theorem PreS.at {G : va_G} {tys : List (ClassId × FieldType)} {ws : va_W} {H : Heap} {s : State} {A : Nat → Prop} {locs : List Loc} (hST : STs A s s.heap) (hS : va_S A s.heap H locs) (hA : ∀ q : Nat, s.heap.size ≤ q → A q) (hP : va_P G vwCl ws H) (hK : va_K G vwCl tys s) (hD : va_D A ws) (hN : NWs s) (av : List Value) : ∀ U : State, U.heap = H → s.WarmedH U.vm → va_Pc av (fun U => PreW G tys H.size ws U ∧ STs (va_A ws H.size) U U.heap) av.toArray U := fun U hU hW =>
  ⟨rfl, (PreW.at hP hK hD hN av U hU hW).2, by rw [hU]; exact ((hST.kept hS.2.1).narrow (fr_in hD hS hA)).moved hW.alike⟩
theorem CtS.ofI {l : Launch} {y : MethodName} {words ws0 : List Cond} {rm : Room} {G : va_G} {tys : List (ClassId × FieldType)} {args : List Value} {ws ws' : va_W} {f : Int32} {cc : ByteArray} {maxL : Nat} {ret : Option FieldType} (hy : plainName y.cls = true) (hw : words = Cond.code y cc maxL ret :: ws0) (hlen : Nat.ble (lg_sl args).length maxL = true)
    (body : ∀ (p : Program) (e : Env) (s : State) (m : MethodId) (below : List Frame) (meth : Method) (c : Code) (A : Nat → Prop) (ls : Array Slot), En p s m meth c cc maxL ret words y.cls G tys args.toArray A → STs A s s.heap → va_P G vwCl ws s.heap → va_D A ws → va_S A s.heap s.heap [] → lv_has ls maxL (lv_args 0 args) →
      W p l e rm s m args.toArray below meth c s.heap [] 0 0 (MQ below (QiA G A f ws') args.toArray s 0 0 A) (F0 m 0 ls [])) : CtS l y words rm G tys args ws (Qi G ws f ws') := by
  intro sz
  refine Met.ofW (cc := cc) (maxL := maxL) (ret := ret) hy hw ?_
  intro p e s m args' below meth c s₁ B hml hv
  obtain ⟨rfl, ⟨hsz, hP, hK, hD0, hN⟩, hST⟩ := hv
  subst hsz
  have hD := hD0.self (sz := s.heap.size)
  show W p l e rm s m args.toArray below meth c s.heap [] 0 0 (MQ below (QiA G (va_A ws s.heap.size) f ws') args.toArray s 0 0 (va_A ws s.heap.size)) _
  generalize hAe : va_A ws s.heap.size = A at hD hST ⊢
  have hA : ∀ q : Nat, s.heap.size ≤ q → A q := fun q h => by rw [← hAe]; exact Or.inr h
  have hl := lv_entry args (n := maxL) (Nat.le_of_ble_eq_true hlen)
  rw [lg_entry_eq]
  generalize (lg_sl args ++ List.replicate (maxL - (lg_sl args).length) Slot.unset).toArray = ls at hl ⊢
  exact body p e s m below meth c A ls ⟨B.exec, B.bytes, B.returns, hml, B.notSynchronized, atoms_spec (ws := words) B.pre, findClass_of_methodNamed B.named, hK, hN, hA⟩ hST hP hD va_S.rf hl
theorem CtS.ofX {l : Launch} {y : MethodName} {words ws0 : List Cond} {rm : Room} {G : va_G} {tys : List (ClassId × FieldType)} {args : List Value} {ws : va_W} {w : (Nat → Ad) → va_W} {f : Int32} {cc : ByteArray} {maxL : Nat} {ret : Option FieldType} (hy : plainName y.cls = true) (hw : words = Cond.code y cc maxL ret :: ws0) (hlen : Nat.ble (lg_sl args).length maxL = true)
    (body : ∀ (p : Program) (e : Env) (s : State) (m : MethodId) (below : List Frame) (meth : Method) (c : Code) (A : Nat → Prop) (ls : Array Slot), En p s m meth c cc maxL ret words y.cls G tys args.toArray A → STs A s s.heap → va_P G vwCl ws s.heap → va_D A ws → va_S A s.heap s.heap [] → lv_has ls maxL (lv_args 0 args) →
      W p l e rm s m args.toArray below meth c s.heap [] 0 0 (MQ below (QxA G A f w) args.toArray s 0 0 A) (F0 m 0 ls [])) : CtS l y words rm G tys args ws (Qx G ws f w) := by
  intro sz
  refine Met.ofW (cc := cc) (maxL := maxL) (ret := ret) hy hw ?_
  intro p e s m args' below meth c s₁ B hml hv
  obtain ⟨rfl, ⟨hsz, hP, hK, hD0, hN⟩, hST⟩ := hv
  subst hsz
  have hD := hD0.self (sz := s.heap.size)
  show W p l e rm s m args.toArray below meth c s.heap [] 0 0 (MQ below (QxA G (va_A ws s.heap.size) f w) args.toArray s 0 0 (va_A ws s.heap.size)) _
  generalize hAe : va_A ws s.heap.size = A at hD hST ⊢
  have hA : ∀ q : Nat, s.heap.size ≤ q → A q := fun q h => by rw [← hAe]; exact Or.inr h
  have hl := lv_entry args (n := maxL) (Nat.le_of_ble_eq_true hlen)
  rw [lg_entry_eq]
  generalize (lg_sl args ++ List.replicate (maxL - (lg_sl args).length) Slot.unset).toArray = ls at hl ⊢
  exact body p e s m below meth c A ls ⟨B.exec, B.bytes, B.returns, hml, B.notSynchronized, atoms_spec (ws := words) B.pre, findClass_of_methodNamed B.named, hK, hN, hA⟩ hST hP hD va_S.rf hl
section XS
variable {p : Program} {l : Launch} {e : Env} {R : Room} {s : State} {m : MethodId} {args : Array Value} {below : List Frame} {meth : Method} {c : Code} {H : Heap} {locs : List Loc} {Q : State → Prop}
variable {cc : ByteArray} {pc : Nat} {ls : Array Slot} {rest st0 : List Value} {G : va_G} {A : Nat → Prop} {tys : List (ClassId × FieldType)}
variable {y : MethodName} {words : List Cond} {rm : Room} {Qe : Ends} {As : List Value} {Ts : List Cond} {own C : String} {nL n index maxL : Nat} {bytes : ByteArray} {ret : Option FieldType} {b : Addr} {wc : va_W}
theorem rn_VNS {host : String} {B : Nat → Prop} (hST : STs B s s.heap) (hS : va_S B s.heap H locs) (hA : ∀ q : Nat, s.heap.size ≤ q → B q) (S : CallFix p m c cc nL s args Ts own) (hM : CtS l y words rm G tys (.ref b :: As) wc Qe) (cw : va_CN R s args own index y host bytes maxL ret words rm 0 0 n ∧ (Cond.instanceMethod y).before args s = true ∧ (Cond.selects C y y).before args s = true) (hrecv : ∃ cell : Cell, H[b]? = some cell ∧ cell.vm.isStatics = false ∧ s.vm.findClass C = some cell.cls) (hK : va_K G vwCl tys s) (hP : va_P G vwCl wc H) (hD : va_D B wc) (hN : NWs s) (hn : As.length = n) (hsize : ls.size = nL) (hst : st0 = As.reverse ++ .ref b :: rest) (hW : (rest.map fun v => v.category).sum ≤ 8) (hdg : decode cc pc = .ok (.invokevirtual index, 3)) :
    va_Run p l e R s m args below meth c H locs 0 0 0 0 (F0 m pc ls st0) rest (Qe H.size (Value.ref b :: As).toArray) (va_A wc H.size) :=
  va_runVN S (hM H.size) cw ⟨PreS.blind, hrecv, PreS.at hST hS hA hP hK hD hN _⟩ rfl hn hsize hst (lv_room hW) hdg ⟨Nat.zero_le _, Nat.zero_le _⟩
theorem rn_VS {B : Nat → Prop} (hST : STs B s s.heap) (hS : va_S B s.heap H locs) (hA : ∀ q : Nat, s.heap.size ≤ q → B q) (S : CallFix p m c cc nL s args Ts own) (hM : CtS l y words rm G tys (.ref b :: As) wc Qe) (cw : CallW R s args own C index y bytes maxL ret words rm 0 0 n) (hrecv : ∃ cell : Cell, H[b]? = some cell ∧ cell.vm.isStatics = false ∧ s.vm.findClass C = some cell.cls) (hK : va_K G vwCl tys s) (hP : va_P G vwCl wc H) (hD : va_D B wc) (hN : NWs s) (hn : As.length = n) (hsize : ls.size = nL) (hst : st0 = As.reverse ++ .ref b :: rest) (hW : (rest.map fun v => v.category).sum ≤ 8) (hdg : decode cc pc = .ok (.invokevirtual index, 3)) :
    va_Run p l e R s m args below meth c H locs 0 0 0 0 (F0 m pc ls st0) rest (Qe H.size (Value.ref b :: As).toArray) (va_A wc H.size) :=
  va_runV S (hM H.size) cw ⟨PreS.blind, hrecv, PreS.at hST hS hA hP hK hD hN _⟩ rfl hn hsize hst (lv_room hW) hdg ⟨Nat.zero_le _, Nat.zero_le _⟩
end XS
def pX1_changeSetting (a1 : Int32) (a2 : Int32) (x : SR) : Int32 × SR := if a1 < 0 then (((-2) : Int32), x)
  else if a1 < 7 then if a2 < (leastF (ix a1)) then (((-2) : Int32), x)
      else if a2 ≤ (mostF (ix a1)) then (x.2 0 (ix a1), (pR x 0 a1 a2))
        else (((-2) : Int32), x)
    else (((-2) : Int32), x)
set_option maxHeartbeats 1000000 in
set_option maxRecDepth 100000 in
theorem ctX1_changeSetting (l : Launch) (G : va_G) (cI cC cZ cR : ClassId) (h : Ad) (x : SR) (a1 : Int32) (a2 : Int32) : CtS l yX1_changeSetting wsX1_changeSetting (rmz 0 0) G (TY cI cC cZ cR) [.ref (h 0), .int a1, .int a2] (wSt cI h x) (Qi G (wSt cI h x) (pX1_changeSetting a1 a2 x).1 (wSt cI h (pX1_changeSetting a1 a2 x).2)) := by
  refine CtS.ofI (cc := cX1_changeSetting) (maxL := 4) (ret := (some .int)) (by decide) rfl rfl ?_
  intro p e s m below meth c A ls E0 hST hP hD hS hl
  obtain ⟨t1, t2, t3, hz1, ha1, hz2, ha2, hz3, ha3⟩ := hST
  obtain ⟨hx, hb, hr, hml, hlocks, hts, hown, hK, hN, hA⟩ := E0
  have hl : lv_has ls 4 [(0, .ref (h 0)), (1, .int a1), (2, .int a2)] := hl
  have hin : ∀ w ∈ wsX10, w ∈ wsX1_changeSetting := fun w hw => List.mem_cons_of_mem _ (List.mem_append_right _ (hw))
  have k_9 : (Cond.fieldLink RX1 9 RX1 (TX1 0).2.1 (TX1 0).2.2.1).before ([.ref (h 0), .int a1, .int a2] : List Value).toArray s = true := hts _ (List.mem_of_getElem? (i := 1) rfl)
  generalize hres : pX1_changeSetting a1 a2 x = res
  refine lv_iload_n hx hb dX1_changeSetting_0 rfl (lv_at hl 1 rfl) ?_
  refine lv_if_lt (tgt := 10) hx hb dX1_changeSetting_1 (by decide) (fun c_1 => ?_) (fun c_1 => ?_)
  · have t_1 := i_lt (z := (Int32.toInt a1)) (w := (0)) c_1 rfl (by decide)
    refine lv_bipush (v := (-2)) hx hb dX1_changeSetting_10 (by decide) ?_
    exact rt_b hx hb hr hlocks hP hD hS rfl ((show pX1_changeSetting a1 a2 x = (((-2) : Int32), x) by rw [pX1_changeSetting, if_pos c_1]).symm.trans hres |>.symm) dX1_changeSetting_12
  · have t_1 := i_nlt (z := (Int32.toInt a1)) (w := (0)) c_1 rfl (by decide)
    refine lv_iload_n hx hb dX1_changeSetting_4 rfl (lv_at hl 1 rfl) ?_
    refine lv_bipush (v := 7) hx hb dX1_changeSetting_5 (by decide) ?_
    refine lv_icmp_lt (tgt := 13) hx hb dX1_changeSetting_7 (by decide) (fun c_2 => ?_) (fun c_2 => ?_)
    · have t_2 := i_lt (z := (Int32.toInt a1)) (w := (7)) c_2 rfl (by decide)
      refine lv_iload_n hx hb dX1_changeSetting_13 rfl (lv_at hl 2 rfl) ?_
      refine va_getsN hx hb hz2 hS hown (NWs.at hN 20 rfl) (fun _ hh => hh) dX1_changeSetting_14 ?_
      refine lv_iload_n hx hb dX1_changeSetting_17 rfl (lv_at hl 1 rfl) ?_
      refine va_ti hx hb ha2 hS (by first | with_reducible assumption | exact vp_in_iff.mpr ⟨by decide, by decide⟩ | exact vp_in_iff.mpr ⟨by omega, by omega⟩ | exact has_in (by with_reducible assumption)) (v := .int (leastF (ix a1))) rfl dX1_changeSetting_18 ?_
      refine lv_icmp_lt (tgt := 31) hx hb dX1_changeSetting_19 (by decide) (fun c_3 => ?_) (fun c_3 => ?_)
      · have t_3 := i_lt (z := (Int32.toInt a2)) (w := (Int32.toInt (leastF (ix a1)))) c_3 rfl rfl
        refine lv_bipush (v := (-2)) hx hb dX1_changeSetting_31 (by decide) ?_
        exact rt_b hx hb hr hlocks hP hD hS rfl ((show pX1_changeSetting a1 a2 x = (((-2) : Int32), x) by rw [pX1_changeSetting, if_neg c_1, if_pos c_2, if_pos c_3]).symm.trans hres |>.symm) dX1_changeSetting_33
      · have t_3 := i_nlt (z := (Int32.toInt a2)) (w := (Int32.toInt (leastF (ix a1)))) c_3 rfl rfl
        refine lv_iload_n hx hb dX1_changeSetting_22 rfl (lv_at hl 2 rfl) ?_
        refine va_getsN hx hb hz3 hS hown (NWs.at hN 21 rfl) (fun _ hh => hh) dX1_changeSetting_23 ?_
        refine lv_iload_n hx hb dX1_changeSetting_26 rfl (lv_at hl 1 rfl) ?_
        refine va_ti hx hb ha3 hS (by first | with_reducible assumption | exact vp_in_iff.mpr ⟨by decide, by decide⟩ | exact vp_in_iff.mpr ⟨by omega, by omega⟩ | exact has_in (by with_reducible assumption)) (v := .int (mostF (ix a1))) rfl dX1_changeSetting_27 ?_
        refine lv_icmp_le (tgt := 34) hx hb dX1_changeSetting_28 (by decide) (fun c_4 => ?_) (fun c_4 => ?_)
        · have t_4 := i_le (z := (Int32.toInt a2)) (w := (Int32.toInt (mostF (ix a1)))) c_4 rfl rfl
          refine lv_aload_n hx hb dX1_changeSetting_34 rfl (lv_at hl 0 rfl) ?_
          refine md_get (ci := 1) (C := RX1) (T := TX1) (N := 18) (v := .ref (h 1)) hx hb hts hin hown hK hP rfl 0 (by decide) k_9 rfl rfl rfl dX1_changeSetting_35 ?_
          refine lv_iload_n hx hb dX1_changeSetting_38 rfl (lv_at hl 1 rfl) ?_
          refine md_ia (v := x.2 0 (ix a1)) hx hb hK hP 0 0 rfl rfl (by first | with_reducible assumption | exact vp_in_iff.mpr ⟨by decide, by decide⟩ | exact vp_in_iff.mpr ⟨by omega, by omega⟩ | exact has_in (by with_reducible assumption)) rfl dX1_changeSetting_39 ?_
          refine lv_istore_n (lv' := [(3, .int (x.2 0 (ix a1))), (0, .ref (h 0)), (1, .int a1), (2, .int a2)]) hx hb dX1_changeSetting_40 rfl hl (by decide) rfl (fun ls hl => ?_)
          refine lv_aload_n hx hb dX1_changeSetting_41 rfl (lv_at hl 1 rfl) ?_
          refine md_get (ci := 1) (C := RX1) (T := TX1) (N := 18) (v := .ref (h 1)) hx hb hts hin hown hK hP rfl 0 (by decide) k_9 rfl rfl rfl dX1_changeSetting_42 ?_
          refine lv_iload_n hx hb dX1_changeSetting_45 rfl (lv_at hl 2 rfl) ?_
          refine lv_iload_n hx hb dX1_changeSetting_46 rfl (lv_at hl 3 rfl) ?_
          refine md_is hx hb hK hP hD hS 0 0 rfl rfl (by first | with_reducible assumption | exact vp_in_iff.mpr ⟨by decide, by decide⟩ | exact vp_in_iff.mpr ⟨by omega, by omega⟩ | exact has_in (by with_reducible assumption)) dX1_changeSetting_47 (fun H locs hP hD hS => ?_)
          refine lv_iload_n hx hb dX1_changeSetting_48 rfl (lv_at hl 0 rfl) ?_
          exact rt_b hx hb hr hlocks hP hD hS rfl ((show pX1_changeSetting a1 a2 x = (x.2 0 (ix a1), (pR x 0 a1 a2)) by rw [pX1_changeSetting, if_neg c_1, if_pos c_2, if_neg c_3, if_pos c_4]).symm.trans hres |>.symm) dX1_changeSetting_49
        · have t_4 := i_nle (z := (Int32.toInt a2)) (w := (Int32.toInt (mostF (ix a1)))) c_4 rfl rfl
          refine lv_bipush (v := (-2)) hx hb dX1_changeSetting_31 (by decide) ?_
          exact rt_b hx hb hr hlocks hP hD hS rfl ((show pX1_changeSetting a1 a2 x = (((-2) : Int32), x) by rw [pX1_changeSetting, if_neg c_1, if_pos c_2, if_neg c_3, if_neg c_4]).symm.trans hres |>.symm) dX1_changeSetting_33
    · have t_2 := i_nlt (z := (Int32.toInt a1)) (w := (7)) c_2 rfl (by decide)
      refine lv_bipush (v := (-2)) hx hb dX1_changeSetting_10 (by decide) ?_
      exact rt_b hx hb hr hlocks hP hD hS rfl ((show pX1_changeSetting a1 a2 x = (((-2) : Int32), x) by rw [pX1_changeSetting, if_neg c_1, if_neg c_2]).symm.trans hres |>.symm) dX1_changeSetting_12
def pX2_set (a1 : Int32) (a2 : Int32) (x : TV) : Int32 × TV := ((pX2_recorded ((pX1_changeSetting a1 a2 (x.1 0)).1) (tQ (tQ x 1 (pX2_copy (x.1 0) (x.1 1))) 0 ((pX1_changeSetting a1 a2 (x.1 0)).2))).1, (pX2_recorded ((pX1_changeSetting a1 a2 (x.1 0)).1) (tQ (tQ x 1 (pX2_copy (x.1 0) (x.1 1))) 0 ((pX1_changeSetting a1 a2 (x.1 0)).2))).2)
set_option maxHeartbeats 1000000 in
set_option maxRecDepth 100000 in
theorem ctX2_set (l : Launch) (G : va_G) (cI cC cZ cR : ClassId) (ho : Nat → Nat) (hh : Nat → Ad) (hp : Ad) (x : TV) (a1 : Int32) (a2 : Int32) : CtS l yX2_set wsX2_set (rmz 3 82) G (TY cI cC cZ cR) [.ref (ho 0), .int a1, .int a2] (wX cI cC cZ cR ho hh hp x) (Qx G (wX cI cC cZ cR ho hh hp x) (pX2_set a1 a2 x).1 (fun hh => (wX cI cC cZ cR ho hh hp (pX2_set a1 a2 x).2))) := by
  refine CtS.ofX (cc := cX2_set) (maxL := 3) (ret := (some .int)) (by decide) rfl rfl ?_
  intro p e s m below meth c A ls E0 hST hP hD hS hl
  obtain ⟨hx, hb, hr, hml, hlocks, hts, hown, hK, hN, hA⟩ := E0
  have hl : lv_has ls 3 [(0, .ref (ho 0)), (1, .int a1), (2, .int a2)] := hl
  have hin : ∀ w ∈ wsX20, w ∈ wsX2_set := fun w hw => List.mem_cons_of_mem _ (List.mem_append_left _ (List.mem_append_right _ (hw)))
  have hin1 : ∀ w ∈ wsX10, w ∈ wsX2_set := fun w hw => List.mem_cons_of_mem _ (List.mem_append_right _ (hw))
  have k_10 : (Cond.fieldLink RX2 10 RX2 (TX2 0).2.1 (TX2 0).2.2.1).before ([.ref (ho 0), .int a1, .int a2] : List Value).toArray s = true := hts _ (List.mem_of_getElem? (i := 1) rfl)
  have k_16 : (Cond.fieldLink RX2 16 RX2 (TX2 1).2.1 (TX2 1).2.2.1).before ([.ref (ho 0), .int a1, .int a2] : List Value).toArray s = true := hts _ (List.mem_of_getElem? (i := 2) rfl)
  generalize hres : pX2_set a1 a2 x = res
  refine lv_aload_n hx hb dX2_set_0 rfl (lv_at hl 0 rfl) ?_
  refine tx_get (v := .ref (hh 0 0)) hx hb hts hin hown hK hP 0 (by decide) k_10 rfl rfl dX2_set_1 ?_
  refine lv_aload_n hx hb dX2_set_4 rfl (lv_at hl 0 rfl) ?_
  refine tx_get (v := .ref (hh 1 0)) hx hb hts hin hown hK hP 1 (by decide) k_16 rfl rfl dX2_set_5 ?_
  refine gp_v (wX_2 (j := 0) (k := 1) (by decide) (by decide) (by decide)) (wX_2u (j := 0) (k := 1) (by decide) (by decide) (by decide)) hP hD hS hA (rn_S (As := [.ref (hh 0 0), .ref (hh 1 0)]) (rest := []) ⟨hx, hb, hml, hown, hts⟩ (ctX2_copy l G cI cC cZ cR (hh 0) (hh 1) (x.1 0) (x.1 1)) (va_cwS 2 hts gX2_set_X2_copy rfl rfl rfl (by decide +kernel) ⟨Nat.le_of_ble_eq_true rfl, Nat.le_of_ble_eq_true rfl⟩) hK (hP.perm (wX_2 (j := 0) (k := 1) (by decide) (by decide) (by decide))).left (va_D.leftD (hD.perm (wX_2 (j := 0) (k := 1) (by decide) (by decide) (by decide)))) hN rfl hl.1 rfl (Nat.le_of_ble_eq_true rfl) dX2_set_8) (fun H locs hP hD hS => ?_)
  refine lv_aload_n hx hb dX2_set_11 rfl (lv_at hl 0 rfl) ?_
  refine lv_aload_n hx hb dX2_set_12 rfl (lv_at hl 0 rfl) ?_
  refine tx_get (v := .ref (hh 0 0)) hx hb hts hin hown hK hP 0 (by decide) k_10 rfl rfl dX2_set_13 ?_
  refine lv_iload_n hx hb dX2_set_16 rfl (lv_at hl 1 rfl) ?_
  refine lv_iload_n hx hb dX2_set_17 rfl (lv_at hl 2 rfl) ?_
  refine gp_i (wX_1 (j := 0) (by decide)) (wX_1u (j := 0) (by decide)) hP hD hS hA (rn_VNS hST hS hA (As := [.int a1, .int a2]) (rest := [.ref (ho 0)]) ⟨hx, hb, hml, hown, hts⟩ (ctX1_changeSetting l G cI cC cZ cR (hh 0) (x.1 0) a1 a2) ⟨va_cnB 2 hts gX2_set_X1_changeSetting_n48 rfl rfl rfl (NWs.nw hN 24 rfl) (hts _ (List.mem_of_getElem? (i := 12) rfl)) (by decide +kernel) ⟨Nat.le_of_ble_eq_true rfl, Nat.le_of_ble_eq_true rfl⟩, (hts _ (List.mem_of_getElem? (i := 11) rfl)), (hts _ (List.mem_of_getElem? (i := 13) rfl))⟩ (md_recv hK (xblk (j := 0) hP (by decide)) rfl) hK (xblk (j := 0) hP (by decide)) (xblkD (j := 0) hD (by decide)) hN rfl hl.1 rfl (Nat.le_of_ble_eq_true rfl) dX2_set_18) (fun H locs hP hD hS => ?_)
  refine go_x hD hS hA (rn_V (As := [.int ((pX1_changeSetting a1 a2 (x.1 0)).1)]) (rest := []) ⟨hx, hb, hml, hown, hts⟩ (ctX2_recorded l G cI cC cZ cR ho hh hp (tQ (tQ x 1 (pX2_copy (x.1 0) (x.1 1))) 0 ((pX1_changeSetting a1 a2 (x.1 0)).2)) ((pX1_changeSetting a1 a2 (x.1 0)).1)) (cwV 1 hts gX2_set_X2_recorded rfl rfl rfl (by decide +kernel) ⟨Nat.le_of_ble_eq_true rfl, Nat.le_of_ble_eq_true rfl⟩) (tx_recv hK hP) hK hP hD hN rfl hl.1 rfl (Nat.le_of_ble_eq_true rfl) dX2_set_21) (fun hh1 H locs hP hD hS => ?_)
  exact rt_x (fun y hh => wX cI cC cZ cR ho hh hp y) hh1 hx hb hr hlocks hP hD hS rfl ((show pX2_set a1 a2 x = ((pX2_recorded ((pX1_changeSetting a1 a2 (x.1 0)).1) (tQ (tQ x 1 (pX2_copy (x.1 0) (x.1 1))) 0 ((pX1_changeSetting a1 a2 (x.1 0)).2))).1, (pX2_recorded ((pX1_changeSetting a1 a2 (x.1 0)).1) (tQ (tQ x 1 (pX2_copy (x.1 0) (x.1 1))) 0 ((pX1_changeSetting a1 a2 (x.1 0)).2))).2) by rw [pX2_set]).symm.trans hres |>.symm) dX2_set_24
