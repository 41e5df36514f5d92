-- the law's rows: q (12), pianos (60), keepers (25); the same three again as copies
abbrev alQ (cI : ClassId) : List (ClassId × Nat) := [(cI, 12), (cI, 60), (cI, 25)]
def wQ (cI : ClassId) (h : Ad) (x : SR) : va_W := mAs h x.2 0 (alQ cI)
theorem wQ_at {cI : ClassId} {h : Ad} {x : SR} {k : Nat} {q : ClassId × Nat} (hk : (alQ cI)[k]? = some q) : (wQ cI h x)[k]? = some (h (k + 1), .inl (q.1, q.2, .inl (x.2 k))) := by
  have e := mAs_get h x.2 (alQ cI) 0 k q hk
  rw [Nat.zero_add] at e
  exact e
theorem wQ_set {cI : ClassId} {h : Ad} {x : SR} {k : Nat} {q : ClassId × Nat} (g : Nat → Int32) (hk : (alQ cI)[k]? = some q) : (wQ cI h x).set k (h (k + 1), .inl (q.1, q.2, .inl g)) = wQ cI h (x.1, up x.2 k g) := by
  have e := mAs_set h x.2 g (alQ cI) 0 k q hk
  rw [Nat.zero_add] at e
  exact e
def wL (cI cC cZ cR : ClassId) (ho : Nat → Nat) (hh : Nat → Ad) (hp h h2 : Ad) (t : TV) (x y : SR) : va_W := wX cI cC cZ cR ho hh hp t ++ (wQ cI h x ++ wQ cI h2 y)
theorem e5_in {n : Nat} {v : Int32} (hv : vp_in v n) (hn : n < 1000 := by decide) : vp_in (5 * v) (5 * n) := by
  obtain ⟨a, b⟩ := vp_in_iff.mp hv
  have e : (5 * v).toInt = 5 * v.toInt := by
    rw [Int32.toInt_mul, show (5 : Int32).toInt = 5 from rfl, Int.bmod_eq_of_le] <;> omega
  exact vp_in_iff.mpr ⟨by omega, by omega⟩
theorem e5_add {n : Nat} {v c : Int32} (hv : vp_in v n) (hc : vp_in c 5) (hn : n < 1000 := by decide) : vp_in (5 * v + c) (5 * n) := by
  obtain ⟨a, b⟩ := vp_in_iff.mp hv
  obtain ⟨a2, b2⟩ := vp_in_iff.mp hc
  have e : (5 * v).toInt = 5 * v.toInt := by
    rw [Int32.toInt_mul, show (5 : Int32).toInt = 5 from rfl, Int.bmod_eq_of_le] <;> omega
  have e2 : (5 * v + c).toInt = 5 * v.toInt + c.toInt := by
    rw [Int32.toInt_add, e, Int.bmod_eq_of_le] <;> omega
  exact vp_in_iff.mpr ⟨by omega, by omega⟩
/-- a contract that reads the script -/
def CtP (l : Launch) (y : MethodName) (words : List Cond) (rm : Room) (G : va_G) (tys : List (ClassId × FieldType)) (args : List Value) (b L : Nat) (xs : Nat → Int32) (Q : Ends) : Prop := ∀ sz : Nat, Met l y words rm (va_Pc args (fun U => PreW G tys sz [] U ∧ va_T .int b L (fun j => .int (xs j)) (va_A [] sz) U U.heap)) (Q sz) 0 0 (va_A [] sz)
theorem PreP.blind {G : va_G} {tys : List (ClassId × FieldType)} {sz b L : Nat} {xs : Nat → Int32} {av : List Value} : FrameBlind (va_Pc av (fun U => PreW G tys sz [] U ∧ va_T .int b L (fun j => .int (xs j)) (va_A [] sz) U U.heap)) := fun a U g mk q => by
  obtain ⟨q0, qW, qS⟩ := q
  exact ⟨q0, (PreW.blind a U g mk ⟨rfl, qW⟩).2, va_T.moved (u := U) (U := U.calling g mk a) (Vm.Alike.refl U.vm) qS⟩
theorem PreP.at {G : va_G} {tys : List (ClassId × FieldType)} {b L : Nat} {xs : Nat → Int32} {H : Heap} {s : State} {A : Nat → Prop} {locs : List Loc} (hT : va_T .int b L (fun j => .int (xs j)) A s s.heap) (hS : va_S A s.heap H locs) (hA : ∀ q : Nat, s.heap.size ≤ q → A q) (hK : va_K G vwCl tys s) (hN : NWs s) (av : List Value) : ∀ U : State, U.heap = H → s.WarmedH U.vm → va_Pc av (fun U => PreW G tys H.size [] U ∧ va_T .int b L (fun j => .int (xs j)) (va_A [] H.size) U U.heap) av.toArray U := fun U hU hW =>
  ⟨rfl, (PreW.at nilP hK (nilD (A := A)) hN av U hU hW).2, by rw [hU]; exact ((hT.kept hS.2.1).narrow (fr_nil hS hA)).moved hW.alike⟩
theorem CtP.ofI {l : Launch} {y : MethodName} {words ws0 : List Cond} {rm : Room} {G : va_G} {tys : List (ClassId × FieldType)} {args : List Value} {b L : Nat} {xs : Nat → Int32} {f : Int32} {cc : ByteArray} {maxL : Nat} {ret : Option FieldType} (hy : plainName y.cls = true) (hw : words = Cond.code y cc maxL ret :: ws0) (hlen : Nat.ble (lg_sl args).length maxL = true)
    (body : ∀ (p : Program) (e : Env) (s : State) (m : MethodId) (below : List Frame) (meth : Method) (c : Code) (A : Nat → Prop) (ls : Array Slot), En p s m meth c cc maxL ret words y.cls G tys args.toArray A → va_T .int b L (fun j => .int (xs j)) A s s.heap → va_P G vwCl [] s.heap → va_D A [] → va_S A s.heap s.heap [] → lv_has ls maxL (lv_args 0 args) →
      W p l e rm s m args.toArray below meth c s.heap [] 0 0 (MQ below (QiA G A f []) args.toArray s 0 0 A) (F0 m 0 ls [])) : CtP l y words rm G tys args b L xs (Qi G [] f []) := by
  intro sz
  refine Met.ofW (cc := cc) (maxL := maxL) (ret := ret) hy hw ?_
  intro p e s m args' below meth c s₁ B hml hv
  obtain ⟨rfl, ⟨hsz, hP, hK, hD0, hN⟩, hT⟩ := hv
  subst hsz
  have hD := hD0.self (sz := s.heap.size)
  show W p l e rm s m args.toArray below meth c s.heap [] 0 0 (MQ below (QiA G (va_A [] s.heap.size) f []) args.toArray s 0 0 (va_A [] s.heap.size)) _
  generalize hAe : va_A [] s.heap.size = A at hD hT ⊢
  have hA : ∀ q : Nat, s.heap.size ≤ q → A q := fun q h => by rw [← hAe]; exact Or.inr h
  have hl := lv_entry args (n := maxL) (Nat.le_of_ble_eq_true hlen)
  rw [lg_entry_eq]
  generalize (lg_sl args ++ List.replicate (maxL - (lg_sl args).length) Slot.unset).toArray = ls at hl ⊢
  exact body p e s m below meth c A ls ⟨B.exec, B.bytes, B.returns, hml, B.notSynchronized, atoms_spec (ws := words) B.pre, findClass_of_methodNamed B.named, hK, hN, hA⟩ hT hP hD va_S.rf hl
section LAWR
variable {p : Program} {l : Launch} {e : Env} {R : Room} {s : State} {m : MethodId} {args : Array Value} {below : List Frame} {meth : Method} {c : Code} {H : Heap} {locs : List Loc} {Q : State → Prop} {cells slots : Nat}
variable {cc : ByteArray} {pc : Nat} {ls : Array Slot} {rest st0 : List Value} {G : va_G} {A : Nat → Prop} {tys : List (ClassId × FieldType)} {ws ws' wc wc' wl wr : va_W} {a : Array Value} {f : Int32}
variable {cI cC cZ cR : ClassId} {ho : Nat → Nat} {hh : Nat → Ad} {hp h h2 : Ad} {t t1 : TV} {x y : SR}
-- rows of the arrays
theorem lq_ld (wl wr : va_W) (hx : p.tables.exec = Jvm.exec) (hb : c.code = cc) (hK : va_K G vwCl (TY cI cC cZ cR) s) (hP : va_P G vwCl (wl ++ (wQ cI h x ++ wr)) H) (k : Nat) {n : Nat} (ha : (alQ cI)[k]? = some (cI, n)) {i v : Int32} (hin : vp_in i n) (hv : x.2 k (ix i) = v) (hdg : decode cc pc = .ok (.iaload, 1))
    (kk : W p l e R s m args below meth c H locs cells slots Q (F0 m (pc + 1) ls (.int v :: rest))) : W p l e R s m args below meth c H locs cells slots Q (F0 m pc ls (.int i :: .ref (h (k + 1)) :: rest)) := by
  subst hv
  have e1 := wQ_at (h := h) (x := x) ha
  have e2 : (wl ++ (wQ cI h x ++ wr))[wl.length + k]? = some (h (k + 1), .inl (cI, n, .inl (x.2 k))) := by
    rw [ap_at, List.getElem?_append_left (List.getElem?_eq_some_iff.mp e1).1]
    exact e1
  exact va_iald hx hb hK hP (wl.length + k) 0 e2 rfl hin hdg kk
theorem lq_st (wl wr : va_W) (hx : p.tables.exec = Jvm.exec) (hb : c.code = cc) (hK : va_K G vwCl (TY cI cC cZ cR) s) (hP : va_P G vwCl (wl ++ (wQ cI h x ++ wr)) H) (hD : va_D A (wl ++ (wQ cI h x ++ wr))) (hS : va_S A s.heap H locs) (k : Nat) {n : Nat} (ha : (alQ cI)[k]? = some (cI, n)) {i v : Int32} (hin : vp_in i n) (hdg : decode cc pc = .ok (.iastore, 1))
    (kk : ∀ (H1 : Heap) (locs1 : List Loc), va_P G vwCl (wl ++ (wQ cI h (pR x k i v) ++ wr)) H1 → va_D A (wl ++ (wQ cI h (pR x k i v) ++ wr)) → va_S A s.heap H1 locs1 → W p l e R s m args below meth c H1 locs1 cells slots Q (F0 m (pc + 1) ls rest)) : W p l e R s m args below meth c H locs cells slots Q (F0 m pc ls (.int v :: .int i :: .ref (h (k + 1)) :: rest)) := by
  have e1 := wQ_at (h := h) (x := x) ha
  have hk := (List.getElem?_eq_some_iff.mp e1).1
  have e2 : (wl ++ (wQ cI h x ++ wr))[wl.length + k]? = some (h (k + 1), .inl (cI, n, .inl (x.2 k))) := by
    rw [ap_at, List.getElem?_append_left hk]
    exact e1
  refine va_iast hx hb hK hP hD hS (wl.length + k) 0 e2 rfl hin hdg (fun H1 locs1 hP1 hD1 hS1 => ?_)
  rw [ap_set, List.set_append_left _ _ hk, wQ_set (upd (x.2 k) (ix i) v) ha] at hP1 hD1
  exact kk H1 locs1 hP1 hD1 hS1
theorem qa_ld (hx : p.tables.exec = Jvm.exec) (hb : c.code = cc) (hK : va_K G vwCl (TY cI cC cZ cR) s) (hP : va_P G vwCl (wQ cI h x) H) (k : Nat) {n : Nat} (ha : (alQ cI)[k]? = some (cI, n)) {i v : Int32} (hin : vp_in i n) (hv : x.2 k (ix i) = v) (hdg : decode cc pc = .ok (.iaload, 1))
    (kk : W p l e R s m args below meth c H locs cells slots Q (F0 m (pc + 1) ls (.int v :: rest))) : W p l e R s m args below meth c H locs cells slots Q (F0 m pc ls (.int i :: .ref (h (k + 1)) :: rest)) :=
  lq_ld [] [] hx hb hK (by rw [List.append_nil]; exact hP) k ha hin hv hdg kk
theorem qa_st (hx : p.tables.exec = Jvm.exec) (hb : c.code = cc) (hK : va_K G vwCl (TY cI cC cZ cR) s) (hP : va_P G vwCl (wQ cI h x) H) (hD : va_D A (wQ cI h x)) (hS : va_S A s.heap H locs) (k : Nat) {n : Nat} (ha : (alQ cI)[k]? = some (cI, n)) {i v : Int32} (hin : vp_in i n) (hdg : decode cc pc = .ok (.iastore, 1))
    (kk : ∀ (H1 : Heap) (locs1 : List Loc), va_P G vwCl (wQ cI h (pR x k i v)) H1 → va_D A (wQ cI h (pR x k i v)) → va_S A s.heap H1 locs1 → W p l e R s m args below meth c H1 locs1 cells slots Q (F0 m (pc + 1) ls rest)) : W p l e R s m args below meth c H locs cells slots Q (F0 m pc ls (.int v :: .int i :: .ref (h (k + 1)) :: rest)) := by
  refine lq_st [] [] hx hb hK (by rw [List.append_nil]; exact hP) (by rw [List.append_nil]; exact hD) hS k ha hin hdg (fun H1 locs1 hP1 hD1 hS1 => ?_)
  rw [List.append_nil] at hP1 hD1
  exact kk H1 locs1 hP1 hD1 hS1
theorem wL_as : wL cI cC cZ cR ho hh hp h h2 t x y = (wX cI cC cZ cR ho hh hp t ++ wQ cI h x) ++ (wQ cI h2 y ++ []) := by
  unfold wL
  rw [List.append_nil, List.append_assoc]
theorem la_ld1 (hx : p.tables.exec = Jvm.exec) (hb : c.code = cc) (hK : va_K G vwCl (TY cI cC cZ cR) s) (hP : va_P G vwCl (wL cI cC cZ cR ho hh hp h h2 t x y) H) (k : Nat) {n : Nat} (ha : (alQ cI)[k]? = some (cI, n)) {i v : Int32} (hin : vp_in i n) (hv : x.2 k (ix i) = v) (hdg : decode cc pc = .ok (.iaload, 1))
    (kk : W p l e R s m args below meth c H locs cells slots Q (F0 m (pc + 1) ls (.int v :: rest))) : W p l e R s m args below meth c H locs cells slots Q (F0 m pc ls (.int i :: .ref (h (k + 1)) :: rest)) :=
  lq_ld (wX cI cC cZ cR ho hh hp t) (wQ cI h2 y) hx hb hK hP k ha hin hv hdg kk
theorem la_st1 (hx : p.tables.exec = Jvm.exec) (hb : c.code = cc) (hK : va_K G vwCl (TY cI cC cZ cR) s) (hP : va_P G vwCl (wL cI cC cZ cR ho hh hp h h2 t x y) H) (hD : va_D A (wL cI cC cZ cR ho hh hp h h2 t x y)) (hS : va_S A s.heap H locs) (k : Nat) {n : Nat} (ha : (alQ cI)[k]? = some (cI, n)) {i v : Int32} (hin : vp_in i n) (hdg : decode cc pc = .ok (.iastore, 1))
    (kk : ∀ (H1 : Heap) (locs1 : List Loc), va_P G vwCl (wL cI cC cZ cR ho hh hp h h2 t (pR x k i v) y) H1 → va_D A (wL cI cC cZ cR ho hh hp h h2 t (pR x k i v) y) → va_S A s.heap H1 locs1 → W p l e R s m args below meth c H1 locs1 cells slots Q (F0 m (pc + 1) ls rest)) : W p l e R s m args below meth c H locs cells slots Q (F0 m pc ls (.int v :: .int i :: .ref (h (k + 1)) :: rest)) :=
  lq_st (wX cI cC cZ cR ho hh hp t) (wQ cI h2 y) hx hb hK hP hD hS k ha hin hdg kk
theorem la_ld2 (hx : p.tables.exec = Jvm.exec) (hb : c.code = cc) (hK : va_K G vwCl (TY cI cC cZ cR) s) (hP : va_P G vwCl (wL cI cC cZ cR ho hh hp h h2 t x y) H) (k : Nat) {n : Nat} (ha : (alQ cI)[k]? = some (cI, n)) {i v : Int32} (hin : vp_in i n) (hv : y.2 k (ix i) = v) (hdg : decode cc pc = .ok (.iaload, 1))
    (kk : W p l e R s m args below meth c H locs cells slots Q (F0 m (pc + 1) ls (.int v :: rest))) : W p l e R s m args below meth c H locs cells slots Q (F0 m pc ls (.int i :: .ref (h2 (k + 1)) :: rest)) :=
  lq_ld (wX cI cC cZ cR ho hh hp t ++ wQ cI h x) [] hx hb hK (by rw [← wL_as]; exact hP) k ha hin hv hdg kk
theorem la_st2 (hx : p.tables.exec = Jvm.exec) (hb : c.code = cc) (hK : va_K G vwCl (TY cI cC cZ cR) s) (hP : va_P G vwCl (wL cI cC cZ cR ho hh hp h h2 t x y) H) (hD : va_D A (wL cI cC cZ cR ho hh hp h h2 t x y)) (hS : va_S A s.heap H locs) (k : Nat) {n : Nat} (ha : (alQ cI)[k]? = some (cI, n)) {i v : Int32} (hin : vp_in i n) (hdg : decode cc pc = .ok (.iastore, 1))
    (kk : ∀ (H1 : Heap) (locs1 : List Loc), va_P G vwCl (wL cI cC cZ cR ho hh hp h h2 t x (pR y k i v)) H1 → va_D A (wL cI cC cZ cR ho hh hp h h2 t x (pR y k i v)) → va_S A s.heap H1 locs1 → W p l e R s m args below meth c H1 locs1 cells slots Q (F0 m (pc + 1) ls rest)) : W p l e R s m args below meth c H locs cells slots Q (F0 m pc ls (.int v :: .int i :: .ref (h2 (k + 1)) :: rest)) := by
  refine lq_st (wX cI cC cZ cR ho hh hp t ++ wQ cI h x) [] hx hb hK (by rw [← wL_as]; exact hP) (by rw [← wL_as]; exact hD) hS k ha hin hdg (fun H1 locs1 hP1 hD1 hS1 => ?_)
  rw [← wL_as] at hP1 hD1
  exact kk H1 locs1 hP1 hD1 hS1
-- the world's parts
theorem wL_X : List.Perm (wL cI cC cZ cR ho hh hp h h2 t x y) (wX cI cC cZ cR ho hh hp t ++ (wQ cI h x ++ wQ cI h2 y)) := List.Perm.refl _
theorem wL_1 : List.Perm (wL cI cC cZ cR ho hh hp h h2 t x y) (wQ cI h x ++ (wX cI cC cZ cR ho hh hp t ++ wQ cI h2 y)) := List.perm_append_comm_assoc _ _ _
theorem wL_2 : List.Perm (wL cI cC cZ cR ho hh hp h h2 t x y) (wQ cI h2 y ++ (wX cI cC cZ cR ho hh hp t ++ wQ cI h x)) := by
  rw [wL_as, List.append_nil]
  exact List.perm_append_comm
theorem xL (hP : va_P G vwCl (wL cI cC cZ cR ho hh hp h h2 t x y) H) : va_P G vwCl (wX cI cC cZ cR ho hh hp t) H := va_P.left hP
theorem xLD (hD : va_D A (wL cI cC cZ cR ho hh hp h h2 t x y)) : va_D A (wX cI cC cZ cR ho hh hp t) := va_D.leftD hD
-- calls: how it goes on
theorem gs_i (hD : va_D A ws) (hS : va_S A s.heap H locs) (hA : ∀ q : Nat, s.heap.size ≤ q → A q) (hr : va_Run p l e R s m args below meth c H locs cells slots 0 0 (F0 m pc ls st0) rest (Qi G ws f ws' H.size a) (va_A ws H.size))
    (kk : ∀ (H1 : Heap) (locs1 : List Loc), va_P G vwCl ws' H1 → va_D A ws' → va_S A s.heap H1 locs1 → W p l e R s m args below meth c H1 locs1 cells slots Q (F0 m (pc + 3) ls (.int f :: rest))) : W p l e R s m args below meth c H locs cells slots Q (F0 m pc ls st0) := by
  have hF := fr_in hD hS hA
  refine va_calli (a := a) hr hS (fun q _ hq => hF q hq) hF (fun r u t H1 locs1 ht _ hw hB _ _ hS1 => ?_)
  obtain ⟨hP1, hD1⟩ := hB
  rw [ht] at hP1
  subst hw
  exact kk H1 locs1 hP1 (hD1.weaken (fun k q _ hq => hF q.1 hq)) hS1
theorem gs_v (hD : va_D A ws) (hS : va_S A s.heap H locs) (hA : ∀ q : Nat, s.heap.size ≤ q → A q) (hr : va_Run p l e R s m args below meth c H locs cells slots 0 0 (F0 m pc ls st0) rest (Qv G ws ws' H.size a) (va_A ws H.size))
    (kk : ∀ (H1 : Heap) (locs1 : List Loc), va_P G vwCl ws' H1 → va_D A ws' → va_S A s.heap H1 locs1 → W p l e R s m args below meth c H1 locs1 cells slots Q (F0 m (pc + 3) ls rest)) : W p l e R s m args below meth c H locs cells slots Q (F0 m pc ls st0) := by
  have hF := fr_in hD hS hA
  refine va_callv (a := a) hr hS (fun q _ hq => hF q hq) hF (fun u t H1 locs1 ht _ hw hB _ _ hS1 => ?_)
  obtain ⟨hP1, hD1⟩ := hB
  rw [ht] at hP1
  exact kk H1 locs1 hP1 (hD1.weaken (fun k q _ hq => hF q.1 hq)) hS1
theorem gL_n (hP : va_P G vwCl ws H) (hD : va_D A ws) (hS : va_S A s.heap H locs) (hA : ∀ q : Nat, s.heap.size ≤ q → A q) (hr : va_Run p l e R s m args below meth c H locs cells slots 0 0 (F0 m pc ls st0) rest (Qi G [] f [] H.size a) (va_A [] H.size))
    (kk : ∀ (H1 : Heap) (locs1 : List Loc), va_P G vwCl ws H1 → va_D A ws → va_S A s.heap H1 locs1 → W p l e R s m args below meth c H1 locs1 cells slots Q (F0 m (pc + 3) ls (.int f :: rest))) : W p l e R s m args below meth c H locs cells slots Q (F0 m pc ls st0) := by
  have hF := fr_nil hS hA
  refine va_calli (a := a) hr hS (fun q _ hq => hF q hq) hF (fun r u t H1 locs1 ht _ hw hB _ hk hS1 => ?_)
  subst hw
  exact kk H1 locs1 (fr_keep hP hk) hD hS1
theorem gL_p (h1 : List.Perm ws (wc ++ wr)) (h2 : List.Perm ws' (wc' ++ wr)) (hP : va_P G vwCl ws H) (hD : va_D A ws) (hS : va_S A s.heap H locs) (hA : ∀ q : Nat, s.heap.size ≤ q → A q) (hr : va_Run p l e R s m args below meth c H locs cells slots 0 0 (F0 m pc ls st0) rest (Qi G wc f wc' H.size a) (va_A wc H.size))
    (kk : ∀ (H1 : Heap) (locs1 : List Loc), va_P G vwCl ws' H1 → va_D A ws' → va_S A s.heap H1 locs1 → W p l e R s m args below meth c H1 locs1 cells slots Q (F0 m (pc + 3) ls (.int f :: rest))) : W p l e R s m args below meth c H locs cells slots Q (F0 m pc ls st0) := by
  have hP' : va_P G vwCl ([] ++ (wc ++ wr)) H := hP.perm h1
  have hD' : va_D A ([] ++ (wc ++ wr)) := hD.perm h1
  have hF := fr_in hD'.midc hS hA
  refine va_calli (a := a) hr hS (fun q _ hq => hF q hq) hF (fun r u t H1 locs1 ht _ hw hB _ hk hS1 => ?_)
  obtain ⟨hP1, hD1⟩ := hB
  rw [ht] at hP1
  subst hw
  obtain ⟨q1, q2⟩ := fr_mid hP' hD' hF hk hP1 hD1
  exact kk H1 locs1 (va_P.perm h2.symm q1) (va_D.perm h2.symm q2) hS1
theorem gL_x {ws1 wc1 : (Nat → Ad) → va_W} (h1 : List.Perm ws (wc ++ wr)) (h2 : ∀ hh, List.Perm (ws1 hh) (wc1 hh ++ wr)) (hP : va_P G vwCl ws H) (hD : va_D A ws) (hS : va_S A s.heap H locs) (hA : ∀ q : Nat, s.heap.size ≤ q → A q) (hr : va_Run p l e R s m args below meth c H locs cells slots 0 0 (F0 m pc ls st0) rest (Qx G wc f wc1 H.size a) (va_A wc H.size))
    (kk : ∀ (hh : Nat → Ad) (H1 : Heap) (locs1 : List Loc), va_P G vwCl (ws1 hh) H1 → va_D A (ws1 hh) → va_S A s.heap H1 locs1 → W p l e R s m args below meth c H1 locs1 cells slots Q (F0 m (pc + 3) ls (.int f :: rest))) : W p l e R s m args below meth c H locs cells slots Q (F0 m pc ls st0) := by
  have hP' : va_P G vwCl ([] ++ (wc ++ wr)) H := hP.perm h1
  have hD' : va_D A ([] ++ (wc ++ wr)) := hD.perm h1
  have hF := fr_in hD'.midc hS hA
  refine va_calli (a := a) hr hS (fun q _ hq => hF q hq) hF (fun r u t H1 locs1 ht _ hw hB _ hk hS1 => ?_)
  obtain ⟨hP1, hD1⟩ := hB
  rw [ht] at hP1
  subst hw
  obtain ⟨q1, q2⟩ := fr_mid hP' hD' hF hk hP1 hD1
  exact kk u H1 locs1 (va_P.perm (h2 u).symm q1) (va_D.perm (h2 u).symm q2) hS1
variable {y0 : MethodName} {words : List Cond} {rm : Room} {Qe : Ends} {As : List Value} {Ts : List Cond} {own C : String} {nL n index maxL : Nat} {bytes : ByteArray} {ret : Option FieldType} {b : Addr}
theorem lr_S (S : CallFix p m c cc nL s args Ts own) (hM : Ct l y0 words rm G tys As wc Qe) (cw : CallB R s args own index y0 bytes maxL ret words rm 0 0 n ∧ (Cond.static y0).before args s = true) (hK : va_K G vwCl tys s) (hP : va_P G vwCl wc H) (hD : va_D A wc) (hN : NWs s) (hn : As.length = n) (hsize : ls.size = nL) (hst : st0 = As.reverse ++ rest) (hW : (rest.map fun v => v.category).sum ≤ 8) (hdg : decode cc pc = .ok (.invokestatic index, 3)) (hc : cells ≤ R.cells) (hs : slots ≤ R.slots) :
    va_Run p l e R s m args below meth c H locs cells slots 0 0 (F0 m pc ls st0) rest (Qe H.size As.toArray) (va_A wc H.size) :=
  va_runS S (hM H.size) cw ⟨PreW.blind, PreW.at hP hK hD hN _⟩ rfl hn hsize hst (lv_room hW) hdg ⟨hc, hs⟩
theorem lr_SP {L : Nat} {xs : Nat → Int32} (hT : va_T .int b L (fun j => .int (xs j)) A s s.heap) (hS : va_S A s.heap H locs) (hA : ∀ q : Nat, s.heap.size ≤ q → A q) (S : CallFix p m c cc nL s args Ts own) (hM : CtP l y0 words rm G tys As b L xs Qe) (cw : CallB R s args own index y0 bytes maxL ret words rm 0 0 n ∧ (Cond.static y0).before args s = true) (hK : va_K G vwCl tys s) (hN : NWs s) (hn : As.length = n) (hsize : ls.size = nL) (hst : st0 = As.reverse ++ rest) (hW : (rest.map fun v => v.category).sum ≤ 8) (hdg : decode cc pc = .ok (.invokestatic index, 3)) (hc : cells ≤ R.cells) (hs : slots ≤ R.slots) :
    va_Run p l e R s m args below meth c H locs cells slots 0 0 (F0 m pc ls st0) rest (Qe H.size As.toArray) (va_A [] H.size) :=
  va_runS S (hM H.size) cw ⟨PreP.blind, PreP.at hT hS hA hK hN _⟩ rfl hn hsize hst (lv_room hW) hdg ⟨hc, hs⟩
theorem lr_V (S : CallFix p m c cc nL s args Ts own) (hM : Ct l y0 words rm G tys (.ref b :: As) wc Qe) (cw : CallW R s args own C index y0 bytes maxL ret words rm 0 0 n) (hrecv : ∃ cell : Cell, H[b]? = some cell ∧ cell.vm.isStatics = false ∧ s.vm.findClass C = some cell.cls) (hK : va_K G vwCl tys s) (hP : va_P G vwCl wc H) (hD : va_D A wc) (hN : NWs s) (hn : As.length = n) (hsize : ls.size = nL) (hst : st0 = As.reverse ++ .ref b :: rest) (hW : (rest.map fun v => v.category).sum ≤ 8) (hdg : decode cc pc = .ok (.invokevirtual index, 3)) (hc : cells ≤ R.cells) (hs : slots ≤ R.slots) :
    va_Run p l e R s m args below meth c H locs cells slots 0 0 (F0 m pc ls st0) rest (Qe H.size (Value.ref b :: As).toArray) (va_A wc H.size) :=
  va_runV S (hM H.size) cw ⟨PreW.blind, hrecv, PreW.at hP hK hD hN _⟩ rfl hn hsize hst (lv_room hW) hdg ⟨hc, hs⟩
theorem lr_VS (hST : STs A s s.heap) (S : CallFix p m c cc nL s args Ts own) (hM : CtS l y0 words rm G tys (.ref b :: As) wc Qe) (cw : CallW R s args own C index y0 bytes maxL ret words rm 0 0 n) (hrecv : ∃ cell : Cell, H[b]? = some cell ∧ cell.vm.isStatics = false ∧ s.vm.findClass C = some cell.cls) (hS : va_S A s.heap H locs) (hA : ∀ q : Nat, s.heap.size ≤ q → A q) (hK : va_K G vwCl tys s) (hP : va_P G vwCl wc H) (hD : va_D A wc) (hN : NWs s) (hn : As.length = n) (hsize : ls.size = nL) (hst : st0 = As.reverse ++ .ref b :: rest) (hW : (rest.map fun v => v.category).sum ≤ 8) (hdg : decode cc pc = .ok (.invokevirtual index, 3)) (hc : cells ≤ R.cells) (hs : slots ≤ R.slots) :
    va_Run p l e R s m args below meth c H locs cells slots 0 0 (F0 m pc ls st0) rest (Qe H.size (Value.ref b :: As).toArray) (va_A wc H.size) :=
  va_runV S (hM H.size) cw ⟨PreS.blind, hrecv, PreS.at hST hS hA hP hK hD hN _⟩ rfl hn hsize hst (lv_room hW) hdg ⟨hc, hs⟩
-- ends
theorem rt_e {T : Type} {res leaf : T} {v : Int32} {rt : FieldType} (g : T → Int32) (w : T → va_W) (hx : p.tables.exec = Jvm.exec) (hb : c.code = cc) (hr : meth.sig.returnType = some rt) (hlocks : meth.locks = false) (hP : va_P G vwCl (w leaf) H) (hD : va_D A (w leaf)) (hS : va_S A s.heap H locs) (hn : narrow rt (.int v) = .int v) (e9 : res = leaf) (hv : v = g leaf) (hdg : decode cc pc = .ok (.ireturn, 1)) :
    W p l e R s m args below meth c H locs 0 0 (MQ below (QiA G A (g res) (w res)) args s 0 0 A) (F0 m pc ls [.int v]) := by
  subst e9
  exact rt_i hx hb hr hlocks hP hD hS hn hv hdg
theorem rt_ev {T : Type} {res leaf : T} (w : T → va_W) (hx : p.tables.exec = Jvm.exec) (hb : c.code = cc) (hr : meth.sig.returnType = none) (hlocks : meth.locks = false) (hP : va_P G vwCl (w leaf) H) (hD : va_D A (w leaf)) (hS : va_S A s.heap H locs) (e9 : res = leaf) (hdg : decode cc pc = .ok (.return_, 1)) :
    W p l e R s m args below meth c H locs 0 0 (MQ below (QvA G A (w res)) args s 0 0 A) (F0 m pc ls []) := by
  subst e9
  exact rt_v hx hb hr hlocks hP hD hS hdg
end LAWR
def inI (v : Int32) (a b : Int) : Prop := a ≤ Int32.toInt v ∧ Int32.toInt v ≤ b
theorem nI_mulN (a b : Nat) : nI a * nI b = nI (a * b) := by
  apply Int32.toBitVec_inj.mp
  apply BitVec.eq_of_toNat_eq
  show (BitVec.ofNat 32 a * BitVec.ofNat 32 b).toNat = (BitVec.ofNat 32 (a * b)).toNat
  simp [BitVec.toNat_mul, Nat.mul_mod]
theorem ix_nI {n : Nat} (h : n < 2147483648) : ix (nI n) = n := nI_clamp h
