-- calls out of the law: its own room, any cells and slots
abbrev AL (s : State) : Nat → Prop := fun q => s.heap.size ≤ q
def LX (p : Program) (s : State) (m : MethodId) (meth : Method) (c : Code) (b L : Nat) (xs : Nat → Int32) (G : va_G) (cI cC cZ cR : ClassId) : Prop :=
  p.tables.exec = Jvm.exec ∧ c.code = cL_law ∧ meth.sig.returnType = ret ∧ c.maxLocals = 4 ∧ s.vm.findClass RL = some m.cls ∧ (∀ w ∈ wsL_law, w.before #[Value.ref b] s = true) ∧ va_X b L xs s s.heap ∧ b < s.heap.size ∧ meth.locks = false ∧ va_K G vwCl (TY cI cC cZ cR) s ∧ NWs s ∧ STs (AL s) s s.heap ∧ va_AO RX1 s ∧ L ≤ 1536
section LROW
variable {p : Program} {l : Launch} {e : Env} {R : Room} {s : State} {m : MethodId} {args : Array Value} {below : List Frame} {meth : Method} {c : Code} {H : Heap} {locs : List Loc} {Q : State → Prop} {cells slots : Nat}
variable {cc : ByteArray} {pc : Nat} {ls : Array Slot} {rest st0 : List Value} {G : va_G} {A : Nat → Prop} {tys : List (ClassId × FieldType)} {ws : va_W} {a : Array Value}
variable {y : MethodName} {words : List Cond} {rm : Room} {Qe : Ends} {As : List Value} {Ts : List Cond} {own C : String} {nL n index maxL : Nat} {bytes : ByteArray} {ret : Option FieldType} {b : Addr} {wc wl wr : va_W}
theorem lr_V (S : CallFix p m c cc nL s args Ts own) (hM : Ct l y words rm G tys (.ref b :: As) wc Qe) (cw : CallW R s args own C index y bytes maxL ret words rm 0 0 n) (hrecv : ∃ cell : Cell, H[b]? = some cell ∧ cell.vm.isStatics = false ∧ s.vm.findClass C = some cell.cls) (hK : va_K G vwCl tys s) (hP : va_P G vwCl wc H) (hD : va_D A wc) (hN : NWs s) (hn : As.length = n) (hsize : ls.size = nL) (hst : st0 = As.reverse ++ .ref b :: rest) (hW : (rest.map fun v => v.category).sum ≤ 8) (hdg : decode cc pc = .ok (.invokevirtual index, 3)) (hc : cells ≤ R.cells) (hs : slots ≤ R.slots) :
    va_Run p l e R s m args below meth c H locs cells slots 0 0 (F0 m pc ls st0) rest (Qe H.size (Value.ref b :: As).toArray) (va_A wc H.size) :=
  va_runV S (hM H.size) cw ⟨PreW.blind, hrecv, PreW.at hP hK hD hN _⟩ rfl hn hsize hst (lv_room hW) hdg ⟨hc, hs⟩
theorem lr_VS (hST : STs A s s.heap) (S : CallFix p m c cc nL s args Ts own) (hM : CtS l y words rm G tys (.ref b :: As) wc Qe) (cw : CallW R s args own C index y bytes maxL ret words rm 0 0 n) (hrecv : ∃ cell : Cell, H[b]? = some cell ∧ cell.vm.isStatics = false ∧ s.vm.findClass C = some cell.cls) (hS : va_S A s.heap H locs) (hA : ∀ q : Nat, s.heap.size ≤ q → A q) (hK : va_K G vwCl tys s) (hP : va_P G vwCl wc H) (hD : va_D A wc) (hN : NWs s) (hn : As.length = n) (hsize : ls.size = nL) (hst : st0 = As.reverse ++ .ref b :: rest) (hW : (rest.map fun v => v.category).sum ≤ 8) (hdg : decode cc pc = .ok (.invokevirtual index, 3)) (hc : cells ≤ R.cells) (hs : slots ≤ R.slots) :
    va_Run p l e R s m args below meth c H locs cells slots 0 0 (F0 m pc ls st0) rest (Qe H.size (Value.ref b :: As).toArray) (va_A wc H.size) :=
  va_runV S (hM H.size) cw ⟨PreS.blind, hrecv, PreS.at hST hS hA hP hK hD hN _⟩ rfl hn hsize hst (lv_room hW) hdg ⟨hc, hs⟩
variable {cI cC cZ cR : ClassId} {ho : Nat → Nat} {hh : Nat → Ad} {hp h : Ad} {t t1 : TV} {x x1 : SR} {f : Int32}
theorem lX (hP : va_P G vwCl (wX cI cC cZ cR ho hh hp t ++ ws) H) : va_P G vwCl (wX cI cC cZ cR ho hh hp t) H := hP.left
theorem lXD (hD : va_D A (wX cI cC cZ cR ho hh hp t ++ ws)) : va_D A (wX cI cC cZ cR ho hh hp t) := hD.leftD
theorem lM (hP : va_P G vwCl (ws ++ wMo cI h x) H) : va_P G vwCl (wMo cI h x) H := va_P.midc (wl := ws) (wc := wMo cI h x) (wr := []) (by rw [List.append_nil]; exact hP)
theorem lMD (hD : va_D A (ws ++ wMo cI h x)) : va_D A (wMo cI h x) := va_D.midc (wl := ws) (wc := wMo cI h x) (wr := []) (by rw [List.append_nil]; exact hD)
/-- a call of the class, whose addresses stay -/
theorem lc_i (hP : va_P G vwCl (wX cI cC cZ cR ho hh hp t ++ ws) H) (hD : va_D A (wX cI cC cZ cR ho hh hp t ++ ws)) (hS : va_S A s.heap H locs) (hA : ∀ q : Nat, s.heap.size ≤ q → A q) (hr : va_Run p l e R s m args below meth c H locs cells slots 0 0 (F0 m pc ls st0) rest (Qi G (wX cI cC cZ cR ho hh hp t) f (wX cI cC cZ cR ho hh hp t1) H.size a) (va_A (wX cI cC cZ cR ho hh hp t) H.size))
    (kk : ∀ (hh1 : Nat → Ad) (H1 : Heap) (locs1 : List Loc), va_P G vwCl (wX cI cC cZ cR ho hh1 hp t1 ++ ws) H1 → va_D A (wX cI cC cZ cR ho hh1 hp t1 ++ ws) → va_S A s.heap H1 locs1 → W p l e R s m args below meth c H1 locs1 cells slots Q (F0 m (pc + 3) ls (.int f :: rest))) : W p l e R s m args below meth c H locs cells slots Q (F0 m pc ls st0) := by
  have hP' : va_P G vwCl ([] ++ (wX cI cC cZ cR ho hh hp t ++ ws)) H := hP
  have hD' : va_D A ([] ++ (wX cI cC cZ cR ho hh hp t ++ ws)) := hD
  have hF := fr_in hD'.midc hS hA
  refine va_calli (a := a) hr hS (fun q _ hq => hF q hq) hF (fun r u t H1 locs1 ht _ hw hB _ hk hS1 => ?_)
  obtain ⟨hP1, hD1⟩ := hB
  rw [ht] at hP1
  subst hw
  obtain ⟨h1, h2⟩ := fr_mid hP' hD' hF hk hP1 hD1
  exact kk hh H1 locs1 h1 h2 hS1
/-- a call of the class, whose addresses may change places -/
theorem lc_x (hP : va_P G vwCl (wX cI cC cZ cR ho hh hp t ++ ws) H) (hD : va_D A (wX cI cC cZ cR ho hh hp t ++ ws)) (hS : va_S A s.heap H locs) (hA : ∀ q : Nat, s.heap.size ≤ q → A q) (hr : va_Run p l e R s m args below meth c H locs cells slots 0 0 (F0 m pc ls st0) rest (Qx G (wX cI cC cZ cR ho hh hp t) f (fun hh => wX cI cC cZ cR ho hh hp t1) H.size a) (va_A (wX cI cC cZ cR ho hh hp t) H.size))
    (kk : ∀ (hh1 : Nat → Ad) (H1 : Heap) (locs1 : List Loc), va_P G vwCl (wX cI cC cZ cR ho hh1 hp t1 ++ ws) H1 → va_D A (wX cI cC cZ cR ho hh1 hp t1 ++ ws) → va_S A s.heap H1 locs1 → W p l e R s m args below meth c H1 locs1 cells slots Q (F0 m (pc + 3) ls (.int f :: rest))) : W p l e R s m args below meth c H locs cells slots Q (F0 m pc ls st0) := by
  have hP' : va_P G vwCl ([] ++ (wX cI cC cZ cR ho hh hp t ++ ws)) H := hP
  have hD' : va_D A ([] ++ (wX cI cC cZ cR ho hh hp t ++ ws)) := hD
  have hF := fr_in hD'.midc hS hA
  refine va_calli (a := a) hr hS (fun q _ hq => hF q hq) hF (fun r u t H1 locs1 ht _ hw hB _ hk hS1 => ?_)
  obtain ⟨hP1, hD1⟩ := hB
  rw [ht] at hP1
  subst hw
  obtain ⟨h1, h2⟩ := fr_mid hP' hD' hF hk hP1 hD1
  exact kk u H1 locs1 h1 h2 hS1
/-- a call of the model -/
theorem lc_m (hP : va_P G vwCl (ws ++ wMo cI h x) H) (hD : va_D A (ws ++ wMo cI h x)) (hS : va_S A s.heap H locs) (hA : ∀ q : Nat, s.heap.size ≤ q → A q) (hr : va_Run p l e R s m args below meth c H locs cells slots 0 0 (F0 m pc ls st0) rest (Qi G (wMo cI h x) f (wMo cI h x1) H.size a) (va_A (wMo cI h x) H.size))
    (kk : ∀ (H1 : Heap) (locs1 : List Loc), va_P G vwCl (ws ++ wMo cI h x1) H1 → va_D A (ws ++ wMo cI h x1) → va_S A s.heap H1 locs1 → W p l e R s m args below meth c H1 locs1 cells slots Q (F0 m (pc + 3) ls (.int f :: rest))) : W p l e R s m args below meth c H locs cells slots Q (F0 m pc ls st0) := by
  have hP' : va_P G vwCl (ws ++ (wMo cI h x ++ [])) H := by rw [List.append_nil]; exact hP
  have hD' : va_D A (ws ++ (wMo cI h x ++ [])) := by rw [List.append_nil]; exact hD
  have hF := fr_in hD'.midc hS hA
  refine va_calli (a := a) hr hS (fun q _ hq => hF q hq) hF (fun r u t H1 locs1 ht _ hw hB _ hk hS1 => ?_)
  obtain ⟨hP1, hD1⟩ := hB
  rw [ht] at hP1
  subst hw
  obtain ⟨h1, h2⟩ := fr_mid hP' hD' hF hk hP1 hD1
  rw [List.append_nil] at h1 h2
  exact kk H1 locs1 h1 h2 hS1
end LROW
/-- what stands behind the switch -/
def GO (p : Program) (l : Launch) (e : Env) (s : State) (m : MethodId) (below : List Frame) (meth : Method) (c : Code) (b : Nat) (G : va_G) (cI cC cZ cR : ClassId) (ho : Nat → Nat) (hp h : Ad) (cells slots : Nat) (Q : State → Prop) (v3 : Int32) : Prop :=
  ∀ (hh : Nat → Ad) (t : TV) (y : SR), RT t y → ∀ (H : Heap) (locs : List Loc) (ls : Array Slot), va_P G vwCl (wX cI cC cZ cR ho hh hp t ++ wMo cI h y) H → va_D (AL s) (wX cI cC cZ cR ho hh hp t ++ wMo cI h y) → va_S (AL s) s.heap H locs → lv_has ls 4 [(0, .ref b), (1, .ref (ho 0)), (2, .ref (h 0)), (3, .int v3)] → W p l e room_1 s m #[Value.ref b] below meth c H locs cells slots Q (F0 m 689 ls [])
