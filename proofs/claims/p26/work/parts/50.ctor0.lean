-- constructors: new cells of fixed classes, contracts that make cells
section NEW
variable {p : Program} {l : Launch} {e : Env} {R : Room} {s : State} {m : MethodId} {args : Array Value} {below : List Frame} {meth : Method} {c : Code} {H : Heap} {locs : List Loc} {cells slots : Nat} {Q : State → Prop}
variable {cc : ByteArray} {pc : Nat} {ls : Array Slot} {rest : List Value} {G : va_G} {A : Nat → Prop} {cI cC cZ cR cA : ClassId} {ws : va_W}
theorem cls_i (h : va_K G vwCl (TY cI cC cZ cR ++ [(cA, .int)]) s) : cA = cI := by
  have h1 : s.vm.findClass ("[" ++ (FieldType.int).toString) = some cI := (h.2 0 (cI, .int) rfl).2
  have h2 : s.vm.findClass ("[" ++ (FieldType.int).toString) = some cA := (h.2 4 (cA, .int) rfl).2
  exact Option.some.inj (h2.symm.trans h1)
theorem cls_c (h : va_K G vwCl (TY cI cC cZ cR ++ [(cA, .char)]) s) : cA = cC := by
  have h1 : s.vm.findClass ("[" ++ (FieldType.char).toString) = some cC := (h.2 1 (cC, .char) rfl).2
  have h2 : s.vm.findClass ("[" ++ (FieldType.char).toString) = some cA := (h.2 4 (cA, .char) rfl).2
  exact Option.some.inj (h2.symm.trans h1)
theorem cls_z (h : va_K G vwCl (TY cI cC cZ cR ++ [(cA, .boolean)]) s) : cA = cZ := by
  have h1 : s.vm.findClass ("[" ++ (FieldType.boolean).toString) = some cZ := (h.2 2 (cZ, .boolean) rfl).2
  have h2 : s.vm.findClass ("[" ++ (FieldType.boolean).toString) = some cA := (h.2 4 (cA, .boolean) rfl).2
  exact Option.some.inj (h2.symm.trans h1)
theorem cls_q (h : va_K G vwCl (TY cI cC cZ cR ++ [(cA, .object "PianoCovers$Street")]) s) : cA = cR := by
  obtain ⟨_, _, _, _, _, h1⟩ := (h.2 3 (cR, .object "PianoCovers$Street") rfl).2
  obtain ⟨_, _, _, _, _, h2⟩ := (h.2 4 (cA, .object "PianoCovers$Street") rfl).2
  exact Option.some.inj (h2.symm.trans h1)
theorem nw_i {n : Int32} {N : Nat} (hx : p.tables.exec = Jvm.exec) (hb : c.code = cc) (harr : (Cond.arrayClass .int).before args s = true) (hK : va_K G vwCl (TY cI cC cZ cR) s) (hP : va_P G vwCl ws H) (hD : va_D A ws) (hS : va_S A s.heap H locs) (hA : ∀ q : Nat, s.heap.size ≤ q → A q) (hn : ¬ n < 0) (hN : n.toNatClampNeg = N) (hby : N * componentBytes FieldType.int ≤ 536870912) (hcells : cells + 1 ≤ R.cells) (hslots : slots + N ≤ R.slots) (hdg : decode cc pc = .ok (.newarray .int, 2))
    (kk : ∀ (q : Nat) (H1 : Heap), va_P G vwCl (ws ++ [(q, .inl (cI, N, .inl (fun _ => 0)))]) H1 → va_D A (ws ++ [(q, .inl (cI, N, .inl (fun _ => 0)))]) → va_S A s.heap H1 locs → W p l e R s m args below meth c H1 locs (cells + 1) (slots + N) Q (F0 m (pc + 2) ls (.ref q :: rest))) : W p l e R s m args below meth c H locs cells slots Q (F0 m pc ls (.int n :: rest)) := by
  refine va_newa (atype := .int) (ty := .int) (N' := N) (a0 := (N, .inl (fun _ => 0))) hx hb harr rfl hK hP hD hS hA (fun _ => rfl) hn hN hby hcells hslots hdg (fun q cA H1 hK1 hP1 hD1 hS1 => ?_)
  have e := cls_i hK1
  rw [e] at hP1 hD1
  exact kk q H1 hP1 hD1 hS1
theorem nw_c {n : Int32} {N : Nat} (hx : p.tables.exec = Jvm.exec) (hb : c.code = cc) (harr : (Cond.arrayClass .char).before args s = true) (hK : va_K G vwCl (TY cI cC cZ cR) s) (hP : va_P G vwCl ws H) (hD : va_D A ws) (hS : va_S A s.heap H locs) (hA : ∀ q : Nat, s.heap.size ≤ q → A q) (hn : ¬ n < 0) (hN : n.toNatClampNeg = N) (hby : N * componentBytes FieldType.char ≤ 536870912) (hcells : cells + 1 ≤ R.cells) (hslots : slots + N ≤ R.slots) (hdg : decode cc pc = .ok (.newarray .char, 2))
    (kk : ∀ (q : Nat) (H1 : Heap), va_P G vwCl (ws ++ [(q, .inl (cC, N, .inl (fun _ => 0)))]) H1 → va_D A (ws ++ [(q, .inl (cC, N, .inl (fun _ => 0)))]) → va_S A s.heap H1 locs → W p l e R s m args below meth c H1 locs (cells + 1) (slots + N) Q (F0 m (pc + 2) ls (.ref q :: rest))) : W p l e R s m args below meth c H locs cells slots Q (F0 m pc ls (.int n :: rest)) := by
  refine va_newa (atype := .char) (ty := .char) (N' := N) (a0 := (N, .inl (fun _ => 0))) hx hb harr rfl hK hP hD hS hA (fun _ => rfl) hn hN hby hcells hslots hdg (fun q cA H1 hK1 hP1 hD1 hS1 => ?_)
  have e := cls_c hK1
  rw [e] at hP1 hD1
  exact kk q H1 hP1 hD1 hS1
theorem nw_b {n : Int32} {N : Nat} (hx : p.tables.exec = Jvm.exec) (hb : c.code = cc) (harr : (Cond.arrayClass .boolean).before args s = true) (hK : va_K G vwCl (TY cI cC cZ cR) s) (hP : va_P G vwCl ws H) (hD : va_D A ws) (hS : va_S A s.heap H locs) (hA : ∀ q : Nat, s.heap.size ≤ q → A q) (hn : ¬ n < 0) (hN : n.toNatClampNeg = N) (hby : N * componentBytes FieldType.boolean ≤ 536870912) (hcells : cells + 1 ≤ R.cells) (hslots : slots + N ≤ R.slots) (hdg : decode cc pc = .ok (.newarray .boolean, 2))
    (kk : ∀ (q : Nat) (H1 : Heap), va_P G vwCl (ws ++ [(q, .inl (cZ, N, .inl (fun _ => 0)))]) H1 → va_D A (ws ++ [(q, .inl (cZ, N, .inl (fun _ => 0)))]) → va_S A s.heap H1 locs → W p l e R s m args below meth c H1 locs (cells + 1) (slots + N) Q (F0 m (pc + 2) ls (.ref q :: rest))) : W p l e R s m args below meth c H locs cells slots Q (F0 m pc ls (.int n :: rest)) := by
  refine va_newa (atype := .boolean) (ty := .boolean) (N' := N) (a0 := (N, .inl (fun _ => 0))) hx hb harr rfl hK hP hD hS hA (fun _ => rfl) hn hN hby hcells hslots hdg (fun q cA H1 hK1 hP1 hD1 hS1 => ?_)
  have e := cls_z hK1
  rw [e] at hP1 hD1
  exact kk q H1 hP1 hD1 hS1
theorem nw_q {n : Int32} {N index : Nat} {own : String} (hx : p.tables.exec = Jvm.exec) (hb : c.code = cc) (hown : s.vm.findClass own = some m.cls) (hlink : (Cond.classLink own index RX1).before args s = true) (hO : va_AO RX1 s) (hK : va_K G vwCl (TY cI cC cZ cR) s) (hP : va_P G vwCl ws H) (hD : va_D A ws) (hS : va_S A s.heap H locs) (hA : ∀ q : Nat, s.heap.size ≤ q → A q) (hn : ¬ n < 0) (hN : n.toNatClampNeg = N) (hby : N * 4 ≤ 536870912) (hcells : cells + 1 ≤ R.cells) (hslots : slots + N ≤ R.slots) (hdg : decode cc pc = .ok (.anewarray index, 3))
    (kk : ∀ (q : Nat) (H1 : Heap), va_P G vwCl (ws ++ [(q, .inl (cR, N, .inr (.inr (.inr (.inr (fun _ => none))))))]) H1 → va_D A (ws ++ [(q, .inl (cR, N, .inr (.inr (.inr (.inr (fun _ => none))))))]) → va_S A s.heap H1 locs → W p l e R s m args below meth c H1 locs (cells + 1) (slots + N) Q (F0 m (pc + 3) ls (.ref q :: rest))) : W p l e R s m args below meth c H locs cells slots Q (F0 m pc ls (.int n :: rest)) := by
  refine va_newq (C := RX1) (N' := N) hx hb hown hlink hO hK hP hD hS hA hn hN hby hcells hslots hdg (fun q cA H1 hK1 hP1 hD1 hS1 => ?_)
  have e := cls_q hK1
  rw [e] at hP1 hD1
  exact kk q H1 hP1 hD1 hS1
/-- System.arraycopy out of a static row, from 0 to 0 -/
theorem cp_T {own : String} {index : Nat} {b0 n0 a n1 N : Nat} {f g : Nat → Int32} {c1 : ClassId} {n : Int32} {tys : List (ClassId × FieldType)} (hx : p.tables.exec = Jvm.exec) (hb : c.code = cc) (hml : c.maxLocals = ls.size) (hown : s.vm.findClass own = some m.cls) (hlink : (Cond.methodLink own index arraycopyName).before args s = true) (hnat : (Cond.native arraycopyName).before args s = true) (hstat : (Cond.static arraycopyName).before args s = true) (hini : (Cond.initialized "java/lang/System").before args s = true)
    (hK : va_K G vwCl tys s) (hP : va_P G vwCl ws H) (hD : va_D A ws) (hS : va_S A s.heap H locs) (hT : va_T .int b0 n0 (fun j => .int (f j)) A s s.heap) (q1 t1 : Nat) (ha1 : ws[q1]? = some (a, .inl (c1, n1, .inl g))) (ht1 : tys[t1]? = some (c1, .int)) (hN : n.toNatClampNeg = N) (hn : n.toInt = (N : Int)) (h4 : N ≤ n0) (h5 : N ≤ n1)
    (hframes : 1 ≤ R.frames) (hlocals : (rest.map fun v => v.category).sum + (nativeFrameWords "java/lang/System" "arraycopy" 5 + 11) ≤ R.locals) (hdg : decode cc pc = .ok (.invokestatic index, 3))
    (kk : ∀ (H1 : Heap) (locs1 : List Loc), va_P G vwCl (ws.set q1 (a, .inl (c1, n1, .inl (va_cpy f g 0 0 N)))) H1 → va_D A (ws.set q1 (a, .inl (c1, n1, .inl (va_cpy f g 0 0 N)))) → va_S A s.heap H1 locs1 → W p l e R s m args below meth c H1 locs1 cells slots Q (F0 m (pc + 3) ls rest)) : W p l e R s m args below meth c H locs cells slots Q (F0 m pc ls (.int n :: .int 0 :: .ref a :: .int 0 :: .ref b0 :: rest)) := by
  obtain ⟨src, x1, ⟨x2, kS, x3, cS, x4⟩, x5, x6, -, x7, x8⟩ := hT
  have hsrc : H[b0]? = some src := (hS.2.1 b0 (Array.getElem?_eq_some_iff.mp x1).1 x8).trans x1
  have hdst : H[a]? = some (vp_cell c1 (n1, .inl g)) := hP q1 _ ha1
  obtain ⟨-, kD, x9, cD, x10⟩ := (hK.2 t1 _ ht1).1 n1 (fun j => .int (g j))
  have z0 : (0 : Int32).toNatClampNeg = 0 := rfl
  have i0 : (0 : Int32).toInt = 0 := rfl
  have hsz : (vp_cell c1 (n1, .inl g)).slots.size = n1 := arrV_size c1 n1 _
  intro U hU X
  obtain ⟨vm', X', step⟩ := X.arraycopy hx hown hlink hnat hstat hini (src := b0) (dst := a) (cs := src) (cd := vp_cell c1 (n1, .inl g)) (srcPos := 0) (destPos := 0) (n := n) (by rw [hU]; exact hsrc) (by rw [hU]; exact hdst) x2 (fun _ h => by cases h) x5 (fun h => by cases h) x3 x9 x4 x10 (by simp [refKind]) (by decide) (by decide) (fun h => by
      have h1 := Int32.lt_iff_toInt_lt.mp h
      rw [hn, i0] at h1
      omega) (by rw [i0, hn]; omega) (by rw [i0, hn, hsz]; omega)
    (fun vm₁ _ i hi => by
      rw [hN] at hi
      have e : src.slots.getD ((0 : Int32).toNatClampNeg + i) .null = .int (f i) := by
        rw [z0, Nat.zero_add, Array.getD_eq_getD_getElem?, x7 i (by omega)]
        rfl
      rw [e]
      exact ⟨rfl, trivial⟩)
    (g := F0 m pc ls (.int n :: .int 0 :: .ref a :: .int 0 :: .ref b0 :: rest)) rfl (by rw [hml]) (rest := rest) rfl (by rw [hb]; exact hdg) hframes (by show 2 * 0 + _ + _ ≤ _; omega)
  have ec : copied src (vp_cell c1 (n1, .inl g)) 0 0 n = vp_cell c1 (n1, .inl (va_cpy f g 0 0 N)) := by
    have h := va_copiedX (n1 := n1) (dp := 0) (sp := 0) (n := N) (fun z => Value.int z) src c1 f g x7 (by omega)
    rw [← hN] at h ⊢
    exact h
  rw [ec] at X' step
  have hl : a < H.size := (Array.getElem?_eq_some_iff.mp hdst).1
  generalize hC : vp_cell c1 (n1, .inl (va_cpy f g 0 0 N)) = C at X' step
  have hh : ((U.setVm vm').setCell a C).heap = H.setIfInBounds a C := by
    rw [← hU]
    rfl
  have ho : ∀ q : Nat, q ≠ a → (H.setIfInBounds a C)[q]? = H[q]? := fun q hq => by simp [Array.getElem?_setIfInBounds, Ne.symm hq]
  have ha : (H.setIfInBounds a C)[a]? = some C := by simp [Array.getElem?_setIfInBounds, hl]
  have hS1 : va_S A s.heap (H.setIfInBounds a C) (locs ++ (src.stretch (0 : Int32).toNatClampNeg n.toNatClampNeg).zipIdx.map fun q => (⟨a, (0 : Int32).toNatClampNeg + q.2⟩ : Loc)) := by
    refine ⟨by simp only [Array.size_setIfInBounds]; exact hS.1, fun q g1 g2 => ?_, fun q hq => ?_⟩
    · rw [ho q (fun z => g2 (by rw [z]; exact hD.2 q1 _ ha1))]
      exact hS.2.1 q g1 g2
    · rcases List.mem_append.mp hq with h | h
      · exact hS.2.2 q h
      · obtain ⟨z, -, hz⟩ := List.mem_map.mp h
        rw [← hz]
        exact hD.2 q1 _ ha1
  have hP1 : va_P G vwCl (ws.set q1 (a, .inl (c1, n1, .inl (va_cpy f g 0 0 N)))) (H.setIfInBounds a C) := hP.set hD ha1 (show (H.setIfInBounds a C)[a]? = some (vp_cell c1 (n1, .inl (va_cpy f g 0 0 N))) by rw [hC]; exact ha) ho
  obtain ⟨t, a1, b1⟩ := kk _ _ hP1 (hD.set ha1) hS1 _ hh X'
  exact ⟨t, step t a1, b1⟩
end NEW
-- contracts that make cells
abbrev rmn (fr lo mc ms : Nat) : Room := { frames := fr, cells := mc, slots := ms, locals := lo }
def PreN (G : va_G) (tys : List (ClassId × FieldType)) (sz : Nat) (ws : va_W) (U : State) : Prop := (PreW G tys sz ws U ∧ STs (va_A ws sz) U U.heap) ∧ va_AO RX1 U
theorem PreN.blind {G : va_G} {tys : List (ClassId × FieldType)} {sz : Nat} {ws : va_W} {av : List Value} : FrameBlind (va_Pc av (PreN G tys sz ws)) := fun a U g mk q => by
  obtain ⟨q0, q1, q2⟩ := q
  have h := PreS.blind (av := av) a U g mk ⟨q0, q1⟩
  exact ⟨h.1, h.2, va_AO.moved (u := U) (U := U.calling g mk a) (Vm.Alike.refl U.vm) q2⟩
theorem PreN.at {G : va_G} {tys : List (ClassId × FieldType)} {ws : va_W} {H : Heap} {s : State} {A : Nat → Prop} {locs : List Loc} (hST : STs A s s.heap) (hO : va_AO RX1 s) (hS : va_S A s.heap H locs) (hA : ∀ q : Nat, s.heap.size ≤ q → A q) (hP : va_P G vwCl ws H) (hK : va_K G vwCl tys s) (hD : va_D A ws) (hN : NWs s) (av : List Value) : ∀ U : State, U.heap = H → s.WarmedH U.vm → va_Pc av (PreN G tys H.size ws) av.toArray U := fun U hU hW =>
  ⟨rfl, (PreS.at hST hS hA hP hK hD hN av U hU hW).2, va_AO.moved hW.alike hO⟩
def QnA {S : Type} (G : va_G) (A : Nat → Prop) (ok : S → Prop) (w : S → va_W) : Array Value → State → Outcome → State → Prop := va_Qv ok (fun u t => va_P G vwCl (w u) t.heap ∧ va_D A (w u)) A
def CtN {S : Type} (l : Launch) (y : MethodName) (words : List Cond) (rm : Room) (mc ms : Nat) (G : va_G) (tys : List (ClassId × FieldType)) (args : List Value) (ws : va_W) (ok : S → Prop) (w : S → va_W) : Prop := ∀ sz : Nat, Met l y words rm (va_Pc args (PreN G tys sz ws)) (QnA G (va_A ws sz) ok w) mc ms (va_A ws sz)
theorem CtN.of {S : Type} {l : Launch} {y : MethodName} {words ws0 : List Cond} {rm : Room} {mc ms : Nat} {G : va_G} {tys : List (ClassId × FieldType)} {args : List Value} {ws : va_W} {ok : S → Prop} {w : S → va_W} {cc : ByteArray} {maxL : Nat} (hy : plainName y.cls = true) (hw : words = Cond.code y cc maxL none :: ws0) (hlen : Nat.ble (lg_sl args).length maxL = true)
    (body : ∀ (p : Program) (e : Env) (s : State) (m : MethodId) (below : List Frame) (meth : Method) (c : Code) (A : Nat → Prop) (ls : Array Slot), En p s m meth c cc maxL none words y.cls G tys args.toArray A → STs A s s.heap → va_AO RX1 s → meth.name = y.name → va_P G vwCl ws s.heap → va_D A ws → va_S A s.heap s.heap [] → lv_has ls maxL (lv_args 0 args) →
      W p l e rm s m args.toArray below meth c s.heap [] 0 0 (MQ below (QnA G A ok w) args.toArray s mc ms A) (F0 m 0 ls [])) : CtN l y words rm mc ms G tys args ws ok w := by
  intro sz
  refine Met.ofW (cc := cc) (maxL := maxL) (ret := none) hy hw ?_
  intro p e s m args' below meth c s₁ B hml hv
  obtain ⟨rfl, ⟨⟨hsz, hP, hK, hD0, hN⟩, hST⟩, hO⟩ := hv
  subst hsz
  have hD := hD0.self (sz := s.heap.size)
  show W p l e rm s m args.toArray below meth c s.heap [] 0 0 (MQ below (QnA G (va_A ws s.heap.size) ok w) args.toArray s mc ms (va_A ws s.heap.size)) _
  generalize hAe : va_A ws s.heap.size = A at hD hST ⊢
  have hA : ∀ q : Nat, s.heap.size ≤ q → A q := fun q h => by rw [← hAe]; exact Or.inr h
  have hl := lv_entry args (n := maxL) (Nat.le_of_ble_eq_true hlen)
  rw [lg_entry_eq]
  generalize (lg_sl args ++ List.replicate (maxL - (lg_sl args).length) Slot.unset).toArray = ls at hl ⊢
  exact body p e s m below meth c A ls ⟨B.exec, B.bytes, B.returns, hml, B.notSynchronized, atoms_spec (ws := words) B.pre, findClass_of_methodNamed B.named, hK, hN, hA⟩ hST hO (name_of_methodNamed B.named B.method).1 hP hD va_S.rf hl
section NEND
variable {p : Program} {l : Launch} {e : Env} {R : Room} {s : State} {m : MethodId} {args : Array Value} {below : List Frame} {meth : Method} {c : Code} {H : Heap} {locs : List Loc} {cells slots : Nat}
variable {cc : ByteArray} {pc : Nat} {ls : Array Slot} {G : va_G} {A : Nat → Prop} {S : Type} {ok : S → Prop} {w : S → va_W}
theorem rt_n (u : S) (hu : ok u) (hx : p.tables.exec = Jvm.exec) (hb : c.code = cc) (hr : meth.sig.returnType = none) (hlocks : meth.locks = false) (hP : va_P G vwCl (w u) H) (hD : va_D A (w u)) (hS : va_S A s.heap H locs) (hdg : decode cc pc = .ok (.return_, 1)) : W p l e R s m args below meth c H locs cells slots (MQ below (QnA G A ok w) args s cells slots A) (F0 m pc ls []) :=
  W.vret hx hb hr (fun t ht _ => ⟨⟨u, rfl, hu, by rw [ht]; exact hP, hD⟩, hS.F ht⟩) hS.2.2 hdg hlocks
end NEND
/-- addresses, as a list tells them -/
def ad (as : List Nat) : Ad := fun k => as.getD k 0
-- what a constructor leaves
def stI : SR := (fun _ => 0, up (fun _ _ => 0) 0 (va_cpy firstF (fun _ => 0) 0 0 7))
def pdI : SR := (fun _ => 0, fun _ _ => 0)