/-! the base: words between nest mates, layouts of the modules, contracts and calls of one form -/
def nwl : List Cond := [
  .fieldLinkNest "PianoCovers$Street" 67 "PianoCovers" "FIRST_SETTING" "[I" "PianoCovers",
  .fieldLinkNest "PianoCovers" 118 "PianoCovers$Street" "settings" "[I" "PianoCovers",
  .fieldLinkNest "PianoCovers" 74 "PianoCovers$Street" "pianos" "I" "PianoCovers",
  .fieldLinkNest "PianoCovers" 127 "PianoCovers$Street" "lying" "I" "PianoCovers",
  .fieldLinkNest "PianoCovers" 124 "PianoCovers$Street" "covered" "I" "PianoCovers",
  .fieldLinkNest "PianoCovers" 81 "PianoCovers$Street" "pitch" "[I" "PianoCovers",
  .fieldLinkNest "PianoCovers" 85 "PianoCovers$Street" "damp" "[I" "PianoCovers",
  .fieldLinkNest "PianoCovers" 91 "PianoCovers$Street" "earned" "[I" "PianoCovers",
  .fieldLinkNest "PianoCovers" 94 "PianoCovers$Street" "rainedOn" "[I" "PianoCovers",
  .fieldLinkNest "PianoCovers" 100 "PianoCovers$Street" "keepers" "I" "PianoCovers",
  .fieldLinkNest "PianoCovers" 103 "PianoCovers$Street" "keeperAt" "[I" "PianoCovers",
  .fieldLinkNest "PianoCovers" 106 "PianoCovers$Street" "timesCovered" "[I" "PianoCovers",
  .fieldLinkNest "PianoCovers" 109 "PianoCovers$Street" "timesOpened" "[I" "PianoCovers",
  .fieldLinkNest "PianoCovers" 112 "PianoCovers$Street" "timesTuned" "[I" "PianoCovers",
  .fieldLinkNest "PianoCovers" 115 "PianoCovers$Street" "placesWent" "[I" "PianoCovers",
  .fieldLinkNest "PianoCovers" 136 "PianoCovers$Street" "rainHours" "I" "PianoCovers",
  .fieldLinkNest "PianoCovers" 121 "PianoCovers$Street" "hours" "I" "PianoCovers",
  .fieldLinkNest "PianoCovers" 130 "PianoCovers$Street" "coins" "I" "PianoCovers",
  .fieldLinkNest "PianoCovers" 133 "PianoCovers$Street" "stolen" "I" "PianoCovers",
  .fieldLinkNest "PianoCovers" 147 "PianoCovers$Pad" "length" "I" "PianoCovers",
  .fieldLinkNest "PianoCovers$Street" 76 "PianoCovers" "LEAST_SETTING" "[I" "PianoCovers",
  .fieldLinkNest "PianoCovers$Street" 79 "PianoCovers" "MOST_SETTING" "[I" "PianoCovers",
  .methodLinkNest "PianoCovers" 9 ⟨"PianoCovers$Street", "<init>", "()V"⟩ "PianoCovers",
  .methodLinkNest "PianoCovers" 39 ⟨"PianoCovers$Pad", "<init>", "()V"⟩ "PianoCovers",
  .methodLinkNest "PianoCovers" 48 ⟨"PianoCovers$Street", "changeSetting", "(II)I"⟩ "PianoCovers",
  .methodLinkNest "PianoCovers" 56 ⟨"PianoCovers$Street", "changeRain", "(I)I"⟩ "PianoCovers",
  .methodLinkNest "PianoCovers" 59 ⟨"PianoCovers$Street", "addPiano", "(II)I"⟩ "PianoCovers",
  .methodLinkNest "PianoCovers$Street" 83 ⟨"PianoCovers", "isPlace", "(I)Z"⟩ "PianoCovers",
  .methodLinkNest "PianoCovers$Street" 87 ⟨"PianoCovers", "has", "(II)Z"⟩ "PianoCovers",
  .methodLinkNest "PianoCovers" 62 ⟨"PianoCovers$Street", "removePiano", "(I)I"⟩ "PianoCovers",
  .methodLinkNest "PianoCovers" 65 ⟨"PianoCovers$Street", "hireKeeper", "(I)I"⟩ "PianoCovers",
  .methodLinkNest "PianoCovers" 68 ⟨"PianoCovers$Street", "layCover", "(I)I"⟩ "PianoCovers",
  .methodLinkNest "PianoCovers" 71 ⟨"PianoCovers$Street", "passCounted", "(I)I"⟩ "PianoCovers",
  .methodLinkNest "PianoCovers" 88 ⟨"PianoCovers$Street", "coverAt", "(I)I"⟩ "PianoCovers",
  .methodLinkNest "PianoCovers" 97 ⟨"PianoCovers$Street", "keepersAt", "(I)I"⟩ "PianoCovers",
  .methodLinkNest "PianoCovers" 139 ⟨"PianoCovers$Street", "rainIsAhead", "()Z"⟩ "PianoCovers",
  .methodLinkNest "PianoCovers" 143 ⟨"PianoCovers$Street", "rainsAfter", "(I)Z"⟩ "PianoCovers",
  .methodLinkNest "PianoCovers" 150 ⟨"PianoCovers$Street", "hoursUntilRain", "()I"⟩ "PianoCovers",
  .methodLinkNest "PianoCovers" 154 ⟨"PianoCovers$Street", "passHours", "(I)I"⟩ "PianoCovers",
  .methodLinkNest "PianoCovers" 160 ⟨"PianoCovers$Street", "addKeeper", "(I)V"⟩ "PianoCovers"]
def isNw : Cond → Bool
  | .fieldLinkNest .. => true
  | .methodLinkNest .. => true
  | _ => false
theorem nwl_ok : ∀ w ∈ nwl, isNw w = true := by decide +kernel
def NWs (U : State) : Prop := ∀ w ∈ nwl, va_Nw w U
theorem NWs.warm {s U : State} (hW : s.WarmedH U.vm) (h : NWs s) : NWs U := by
  intro w hw
  have hz := h w hw
  have hk := nwl_ok w hw
  cases w <;> first | exact va_Nw.warmF hW hz | exact va_Nw.warmM hW hz | exact absurd hk (by simp [isNw])
theorem NWs.same {u U : State} (hv : u.vm = U.vm) (h : NWs u) : NWs U := by
  intro w hw
  have hz := h w hw
  have hk := nwl_ok w hw
  cases w <;> first | exact va_Nw.same rfl hv hz | exact absurd hk (by simp [isNw])
theorem NWs.at {s : State} {args : Array Value} {w : Cond} (h : NWs s) (i : Nat) (hi : nwl[i]? = some w) : w.before args s = true := by
  have hw := List.mem_of_getElem? hi
  have hz := h w hw
  have hk := nwl_ok w hw
  cases w <;> first | exact va_Nw.use rfl hz | exact absurd hk (by simp [isNw])
theorem NWs.nw {s : State} {w : Cond} (h : NWs s) (i : Nat) (hi : nwl[i]? = some w) : va_Nw w s := h w (List.mem_of_getElem? hi)
-- functions that are changed at a place
def up {α : Type} (f : Nat → α) (k : Nat) (x : α) : Nat → α := fun j => if j = k then x else f j
theorem up_same {α : Type} (f : Nat → α) (k : Nat) (x : α) : up f k x k = x := if_pos rfl
theorem up_ne {α : Type} (f : Nat → α) {k j : Nat} (x : α) (h : j ≠ k) : up f k x j = f j := if_neg h
theorem up_upd (f : Nat → Int32) (k : Nat) (x : Int32) : upd f k x = up f k x := rfl
abbrev ix (i : Int32) : Nat := i.toNatClampNeg
/-- the logical shift of an int to the right -/
def ush (x y : Int32) : Int32 := (x.toUInt32 >>> (y.toUInt32 &&& Int32.toUInt32 31)).toInt32
def lush (x : Int64) (y : Int32) : Int64 := (x.toUInt64 >>> (y.toInt64.toUInt64 &&& Int64.toUInt64 63)).toInt64
def i2c (x : Int32) : Int32 := (x.toUInt32 % 65536).toInt32
def mx (x y : Int32) : Int32 := if x < y then y else x
def mn (x y : Int32) : Int32 := if y < x then y else x
-- the layouts: a module is an object and its arrays; fv: its fields in the order of the slots (true, k): array k; (false, k): number k; al: its arrays' classes and lengths
abbrev Ad := Nat → Nat
abbrev SV := Nat → Int32
abbrev RV := Nat → Nat → Int32
abbrev SR := SV × RV
/-- a module's number q becomes v; its array k becomes v at i -/
def pS (x : SR) (q : Nat) (v : Int32) : SR := (up x.1 q v, x.2)
def pR (x : SR) (k : Nat) (i v : Int32) : SR := (x.1, up x.2 k (up (x.2 k) (ix i) v))
def mF (h : Ad) (s : SV) (q : Bool × Nat) : Value := if q.1 = true then .ref (h (q.2 + 1)) else .int (s q.2)
def mA (h : Ad) (r : RV) (k : Nat) (q : ClassId × Nat) : Nat × va_E := (h (k + 1), .inl (q.1, q.2, .inl (r k)))
def mAs (h : Ad) (r : RV) : Nat → List (ClassId × Nat) → va_W
  | _, [] => []
  | k, q :: l => mA h r k q :: mAs h r (k + 1) l
def wM (ci : Nat) (fv : List (Bool × Nat)) (al : List (ClassId × Nat)) (h : Ad) (x : SR) : va_W := (h 0, .inr (ci, fv.map (mF h x.1))) :: mAs h x.2 0 al
theorem mAs_get (h : Ad) (r : RV) : ∀ (al : List (ClassId × Nat)) (k0 k : Nat) (q : ClassId × Nat), al[k]? = some q → (mAs h r k0 al)[k]? = some (mA h r (k0 + k) q)
  | [], k0, k, q, hk => by simp at hk
  | a :: l, k0, 0, q, hk => by
    rw [List.getElem?_cons_zero] at hk
    cases hk
    rfl
  | a :: l, k0, k + 1, q, hk => by
    rw [List.getElem?_cons_succ] at hk
    show (mAs h r (k0 + 1) l)[k]? = _
    rw [mAs_get h r l (k0 + 1) k q hk]
    rw [show k0 + 1 + k = k0 + (k + 1) by omega]
theorem mAs_off (h : Ad) (r : RV) (j : Nat) (g : Nat → Int32) : ∀ (al : List (ClassId × Nat)) (k0 : Nat), j < k0 → mAs h (up r j g) k0 al = mAs h r k0 al
  | [], _, _ => rfl
  | a :: l, k0, hj => by
    show mA h (up r j g) k0 a :: mAs h (up r j g) (k0 + 1) l = mA h r k0 a :: mAs h r (k0 + 1) l
    rw [mAs_off h r j g l (k0 + 1) (by omega)]
    unfold mA
    rw [up_ne r g (by omega)]
theorem mAs_set (h : Ad) (r : RV) (g : Nat → Int32) : ∀ (al : List (ClassId × Nat)) (k0 k : Nat) (q : ClassId × Nat), al[k]? = some q → (mAs h r k0 al).set k (h (k0 + k + 1), .inl (q.1, q.2, .inl g)) = mAs h (up r (k0 + k) g) k0 al
  | [], k0, k, q, hk => by simp at hk
  | a :: l, k0, 0, q, hk => by
    rw [List.getElem?_cons_zero] at hk
    cases hk
    show (h (k0 + 0 + 1), _) :: mAs h r (k0 + 1) l = mA h (up r (k0 + 0) g) k0 a :: mAs h (up r (k0 + 0) g) (k0 + 1) l
    rw [mAs_off h r (k0 + 0) g l (k0 + 1) (by omega)]
    unfold mA
    simp only [Nat.add_zero, up_same]
  | a :: l, k0, k + 1, q, hk => by
    rw [List.getElem?_cons_succ] at hk
    show mA h r k0 a :: (mAs h r (k0 + 1) l).set k (h (k0 + (k + 1) + 1), _) = mA h (up r (k0 + (k + 1)) g) k0 a :: mAs h (up r (k0 + (k + 1)) g) (k0 + 1) l
    have e := mAs_set h r g l (k0 + 1) k q hk
    rw [show k0 + 1 + k = k0 + (k + 1) by omega] at e
    rw [e]
    unfold mA
    rw [up_ne r g (by omega)]
theorem wM_arr {ci : Nat} {fv : List (Bool × Nat)} {al : List (ClassId × Nat)} {h : Ad} {x : SR} {k : Nat} {q : ClassId × Nat} (hk : al[k]? = some q) : (wM ci fv al h x)[k + 1]? = some (h (k + 1), .inl (q.1, q.2, .inl (x.2 k))) := by
  show (mAs h x.2 0 al)[k]? = _
  rw [mAs_get h x.2 al 0 k q hk, Nat.zero_add]
  rfl
theorem wM_arrset {ci : Nat} {fv : List (Bool × Nat)} {al : List (ClassId × Nat)} {h : Ad} {x : SR} {k : Nat} {q : ClassId × Nat} (g : Nat → Int32) (hk : al[k]? = some q) : (wM ci fv al h x).set (k + 1) (h (k + 1), .inl (q.1, q.2, .inl g)) = wM ci fv al h (x.1, up x.2 k g) := by
  show (h 0, _) :: (mAs h x.2 0 al).set k (h (k + 1), _) = (h 0, _) :: mAs h (up x.2 k g) 0 al
  have e := mAs_set h x.2 g al 0 k q hk
  rw [Nat.zero_add] at e
  rw [e]
theorem mF_set (h : Ad) (s : SV) (v : Int32) (q : Nat) : ∀ (fv : List (Bool × Nat)) (k : Nat), fv[k]? = some (false, q) → (∀ j, fv[j]? = some (false, q) → j = k) → (fv.map (mF h s)).set k (.int v) = fv.map (mF h (up s q v)) := by
  intro fv k hk hu
  apply List.ext_getElem?
  intro j
  by_cases hj : j = k
  · subst hj
    have hl : j < (fv.map (mF h s)).length := by
      rw [List.length_map]
      exact (List.getElem?_eq_some_iff.mp hk).1
    rw [List.getElem?_set_self hl, List.getElem?_map, hk]
    show some (Value.int v) = some (Value.int (up s q v q))
    rw [up_same]
  · rw [List.getElem?_set_ne (Ne.symm hj), List.getElem?_map, List.getElem?_map]
    cases hq : fv[j]? with
    | none => rfl
    | some e =>
      show some (mF h s e) = some (mF h (up s q v) e)
      unfold mF
      by_cases h1 : e.1 = true
      · rw [if_pos h1, if_pos h1]
      · rw [if_neg h1, if_neg h1]
        have h2 : e.2 ≠ q := by
          intro h3
          exact hj (hu j (by rw [hq, ← h3]; congr 1; exact Prod.ext (by cases he : e.1 <;> simp_all) rfl))
        rw [up_ne s v h2]
theorem wM_objset {ci : Nat} {fv : List (Bool × Nat)} {al : List (ClassId × Nat)} {h : Ad} {x : SR} {k q : Nat} (v : Int32) (hk : fv[k]? = some (false, q)) (hu : ∀ j, fv[j]? = some (false, q) → j = k) : (wM ci fv al h x).set 0 (h 0, .inr (ci, (fv.map (mF h x.1)).set k (.int v))) = wM ci fv al h (up x.1 q v, x.2) := by
  show (h 0, (Sum.inr (ci, (fv.map (mF h x.1)).set k (Value.int v)) : va_E)) :: mAs h x.2 0 al = _
  rw [mF_set h x.1 v q fv k hk hu]
  rfl
-- contracts of one form: the start, the two ends
def PreW (G : va_G) (tys : List (ClassId × FieldType)) (sz : Nat) (ws : va_W) (U : State) : Prop := U.heap.size = sz ∧ va_P G vwCl ws U.heap ∧ va_K G vwCl tys U ∧ va_D (fun _ => True) ws ∧ NWs U
theorem PreW.blind {G : va_G} {tys : List (ClassId × FieldType)} {sz : Nat} {ws : va_W} {av : List Value} : FrameBlind (va_Pc av (PreW G tys sz ws)) := fun a U g mk q => by
  obtain ⟨q0, q1, qP, qK, qD, qN⟩ := q
  exact ⟨q0, q1, qP, va_K.moved (u := U) (U := U.calling g mk a) (Vm.Alike.refl U.vm) qK, qD, NWs.same (u := U) (U := U.calling g mk a) rfl qN⟩
theorem PreW.at {G : va_G} {tys : List (ClassId × FieldType)} {ws : va_W} {H : Heap} {s : State} {A : Nat → Prop} (hP : va_P G vwCl ws H) (hK : va_K G vwCl tys s) (hD : va_D A ws) (hN : NWs s) (av : List Value) : ∀ U : State, U.heap = H → s.WarmedH U.vm → va_Pc av (PreW G tys H.size ws) av.toArray U := fun U hU hW => ⟨rfl, by rw [hU], by rw [hU]; exact hP, va_K.moved hW.alike hK, hD.weaken (fun _ _ _ _ => trivial), NWs.warm hW hN⟩
abbrev Ends : Type := Nat → Array Value → State → Outcome → State → Prop
def Ct (l : Launch) (y : MethodName) (words : List Cond) (rm : Room) (G : va_G) (tys : List (ClassId × FieldType)) (args : List Value) (ws : va_W) (Q : Ends) : Prop := ∀ sz : Nat, Met l y words rm (va_Pc args (PreW G tys sz ws)) (Q sz) 0 0 (va_A ws sz)
def QiA (G : va_G) (A : Nat → Prop) (f : Int32) (ws' : va_W) : Array Value → State → Outcome → State → Prop := va_Qi (fun r (_ : Unit) => r = f) (fun _ t => va_P G vwCl ws' t.heap ∧ va_D A ws') A
def QvA (G : va_G) (A : Nat → Prop) (ws' : va_W) : Array Value → State → Outcome → State → Prop := va_Qv (fun (_ : Unit) => True) (fun _ t => va_P G vwCl ws' t.heap ∧ va_D A ws') A
def Qi (G : va_G) (ws : va_W) (f : Int32) (ws' : va_W) : Ends := fun sz => QiA G (va_A ws sz) f ws'
def Qv (G : va_G) (ws : va_W) (ws' : va_W) : Ends := fun sz => QvA G (va_A ws sz) ws'
abbrev rmz (fr lo : Nat) : Room := { frames := fr, cells := 0, slots := 0, locals := lo }
/-- what holds at a method's entry, whatever its end -/
def En (p : Program) (s : State) (m : MethodId) (meth : Method) (c : Code) (cc : ByteArray) (maxL : Nat) (ret : Option FieldType) (words : List Cond) (own : String) (G : va_G) (tys : List (ClassId × FieldType)) (args : Array Value) (A : Nat → Prop) : Prop :=
  p.tables.exec = Jvm.exec ∧ c.code = cc ∧ meth.sig.returnType = ret ∧ c.maxLocals = maxL ∧ meth.locks = false ∧ (∀ w ∈ words, w.before args s = true) ∧ s.vm.findClass own = some m.cls ∧ va_K G vwCl tys s ∧ NWs s ∧ (∀ q : Nat, s.heap.size ≤ q → A q)
theorem Ct.ofI {l : Launch} {y : MethodName} {words ws0 : List Cond} {rm : Room} {G : va_G} {tys : List (ClassId × FieldType)} {args : List Value} {ws ws' : va_W} {f : Int32} {cc : ByteArray} {maxL : Nat} {ret : Option FieldType} (hy : plainName y.cls = true) (hw : words = Cond.code y cc maxL ret :: ws0) (hlen : Nat.ble (lg_sl args).length maxL = true)
    (body : ∀ (p : Program) (e : Env) (s : State) (m : MethodId) (below : List Frame) (meth : Method) (c : Code) (A : Nat → Prop) (ls : Array Slot), En p s m meth c cc maxL ret words y.cls G tys args.toArray A → va_P G vwCl ws s.heap → va_D A ws → va_S A s.heap s.heap [] → lv_has ls maxL (lv_args 0 args) →
      W p l e rm s m args.toArray below meth c s.heap [] 0 0 (MQ below (QiA G A f ws') args.toArray s 0 0 A) (F0 m 0 ls [])) : Ct l y words rm G tys args ws (Qi G ws f ws') := by
  intro sz
  refine Met.ofW (cc := cc) (maxL := maxL) (ret := ret) hy hw ?_
  intro p e s m args' below meth c s₁ B hml hv
  obtain ⟨rfl, hsz, hP, hK, hD0, hN⟩ := hv
  subst hsz
  have hD := hD0.self (sz := s.heap.size)
  show W p l e rm s m args.toArray below meth c s.heap [] 0 0 (MQ below (QiA G (va_A ws s.heap.size) f ws') args.toArray s 0 0 (va_A ws s.heap.size)) _
  generalize hAe : va_A ws s.heap.size = A at hD ⊢
  have hA : ∀ q : Nat, s.heap.size ≤ q → A q := fun q h => by rw [← hAe]; exact Or.inr h
  have hl := lv_entry args (n := maxL) (Nat.le_of_ble_eq_true hlen)
  rw [lg_entry_eq]
  generalize (lg_sl args ++ List.replicate (maxL - (lg_sl args).length) Slot.unset).toArray = ls at hl ⊢
  exact body p e s m below meth c A ls ⟨B.exec, B.bytes, B.returns, hml, B.notSynchronized, atoms_spec (ws := words) B.pre, findClass_of_methodNamed B.named, hK, hN, hA⟩ hP hD va_S.rf hl
theorem Ct.ofV {l : Launch} {y : MethodName} {words ws0 : List Cond} {rm : Room} {G : va_G} {tys : List (ClassId × FieldType)} {args : List Value} {ws ws' : va_W} {cc : ByteArray} {maxL : Nat} {ret : Option FieldType} (hy : plainName y.cls = true) (hw : words = Cond.code y cc maxL ret :: ws0) (hlen : Nat.ble (lg_sl args).length maxL = true)
    (body : ∀ (p : Program) (e : Env) (s : State) (m : MethodId) (below : List Frame) (meth : Method) (c : Code) (A : Nat → Prop) (ls : Array Slot), En p s m meth c cc maxL ret words y.cls G tys args.toArray A → va_P G vwCl ws s.heap → va_D A ws → va_S A s.heap s.heap [] → lv_has ls maxL (lv_args 0 args) →
      W p l e rm s m args.toArray below meth c s.heap [] 0 0 (MQ below (QvA G A ws') args.toArray s 0 0 A) (F0 m 0 ls [])) : Ct l y words rm G tys args ws (Qv G ws ws') := by
  intro sz
  refine Met.ofW (cc := cc) (maxL := maxL) (ret := ret) hy hw ?_
  intro p e s m args' below meth c s₁ B hml hv
  obtain ⟨rfl, hsz, hP, hK, hD0, hN⟩ := hv
  subst hsz
  have hD := hD0.self (sz := s.heap.size)
  show W p l e rm s m args.toArray below meth c s.heap [] 0 0 (MQ below (QvA G (va_A ws s.heap.size) ws') args.toArray s 0 0 (va_A ws s.heap.size)) _
  generalize hAe : va_A ws s.heap.size = A at hD ⊢
  have hA : ∀ q : Nat, s.heap.size ≤ q → A q := fun q h => by rw [← hAe]; exact Or.inr h
  have hl := lv_entry args (n := maxL) (Nat.le_of_ble_eq_true hlen)
  rw [lg_entry_eq]
  generalize (lg_sl args ++ List.replicate (maxL - (lg_sl args).length) Slot.unset).toArray = ls at hl ⊢
  exact body p e s m below meth c A ls ⟨B.exec, B.bytes, B.returns, hml, B.notSynchronized, atoms_spec (ws := words) B.pre, findClass_of_methodNamed B.named, hK, hN, hA⟩ hP hD va_S.rf hl
section ROWS
variable {p : Program} {l : Launch} {e : Env} {R : Room} {s : State} {m : MethodId} {args : Array Value} {below : List Frame} {meth : Method} {c : Code} {H : Heap} {locs : List Loc} {Q : State → Prop}
variable {cc : ByteArray} {pc : Nat} {ls : Array Slot} {rest st0 : List Value} {G : va_G} {A : Nat → Prop} {tys : List (ClassId × FieldType)} {ws ws' : va_W}
-- ends
theorem rt_i {f v : Int32} {rt : FieldType} (hx : p.tables.exec = Jvm.exec) (hb : c.code = cc) (hr : meth.sig.returnType = some rt) (hlocks : meth.locks = false) (hP : va_P G vwCl ws' H) (hD : va_D A ws') (hS : va_S A s.heap H locs) (hn : narrow rt (.int v) = .int v) (hv : v = f) (hdg : decode cc pc = .ok (.ireturn, 1)) :
    W p l e R s m args below meth c H locs 0 0 (MQ below (QiA G A f ws') args s 0 0 A) (F0 m pc ls [.int v]) :=
  W.zret hx hb hr hn (fun t ht _ => ⟨⟨v, (), rfl, hv, by rw [ht]; exact hP, hD⟩, hS.F ht⟩) hS.2.2 hdg hlocks
theorem rt_v (hx : p.tables.exec = Jvm.exec) (hb : c.code = cc) (hr : meth.sig.returnType = none) (hlocks : meth.locks = false) (hP : va_P G vwCl ws' H) (hD : va_D A ws') (hS : va_S A s.heap H locs) (hdg : decode cc pc = .ok (.return_, 1)) :
    W p l e R s m args below meth c H locs 0 0 (MQ below (QvA G A ws') args s 0 0 A) (F0 m pc ls []) :=
  W.vret hx hb hr (fun t ht _ => ⟨⟨(), rfl, trivial, by rw [ht]; exact hP, hD⟩, hS.F ht⟩) hS.2.2 hdg hlocks
-- a module's cells
variable {ci : Nat} {fv : List (Bool × Nat)} {al : List (ClassId × Nat)} {h : Ad} {x : SR}
theorem md_get (hx : p.tables.exec = Jvm.exec) (hb : c.code = cc) {own C : String} {T : u_T} {N index : Nat} {Ts : List Cond} (hts : ∀ w ∈ Ts, w.before args s = true) (hin : ∀ w ∈ u_ws C T N, w ∈ Ts) (hown : s.vm.findClass own = some m.cls) (hK : va_K G vwCl tys s) (hP : va_P G vwCl (wM ci fv al h x) H) (hc : vwCl[ci]? = some (C, T, N)) (k : Nat) (hk : k < N) (hlink : (Cond.fieldLink own index C (T k).2.1 (T k).2.2.1).before args s = true) (hC : (T k).1 = C) {q : Bool × Nat} {v : Value} (hq : fv[k]? = some q) (hv : mF h x.1 q = v) (hdg : decode cc pc = .ok (.getfield index, 3))
    (kk : W p l e R s m args below meth c H locs 0 0 Q (F0 m (pc + 3) ls (v :: rest))) : W p l e R s m args below meth c H locs 0 0 Q (F0 m pc ls (.ref (h 0) :: rest)) :=
  va_get (ref := C) hx hb hts hin hown hK hP 0 (fs := fv.map (mF h x.1)) rfl hc k hk hlink (fun z hz => by rw [← hC]; exact hz) (by rw [List.getElem?_map, hq, ← hv]; rfl) hdg kk
theorem md_getN (hx : p.tables.exec = Jvm.exec) (hb : c.code = cc) {own C host : String} {T : u_T} {N index : Nat} {Ts : List Cond} (hts : ∀ w ∈ Ts, w.before args s = true) (hin : ∀ w ∈ u_ws C T N, w ∈ Ts) (hown : s.vm.findClass own = some m.cls) (hK : va_K G vwCl tys s) (hP : va_P G vwCl (wM ci fv al h x) H) (hc : vwCl[ci]? = some (C, T, N)) (k : Nat) (hk : k < N) (hlink : (Cond.fieldLinkNest own index C (T k).2.1 (T k).2.2.1 host).before args s = true) (hC : (T k).1 = C) {q : Bool × Nat} {v : Value} (hq : fv[k]? = some q) (hv : mF h x.1 q = v) (hdg : decode cc pc = .ok (.getfield index, 3))
    (kk : W p l e R s m args below meth c H locs 0 0 Q (F0 m (pc + 3) ls (v :: rest))) : W p l e R s m args below meth c H locs 0 0 Q (F0 m pc ls (.ref (h 0) :: rest)) :=
  va_getN (ref := C) hx hb hts hin hown hK hP 0 (fs := fv.map (mF h x.1)) rfl hc k hk hlink (fun z hz => by rw [← hC]; exact hz) (by rw [List.getElem?_map, hq, ← hv]; rfl) hdg kk
theorem md_put (hx : p.tables.exec = Jvm.exec) (hb : c.code = cc) {own C : String} {T : u_T} {N index : Nat} {Ts : List Cond} (hts : ∀ w ∈ Ts, w.before args s = true) (hin : ∀ w ∈ u_ws C T N, w ∈ Ts) (ty0 : Nat → FieldType) (hty : ∀ k, k < N → parseFieldDescriptor (T k).2.2.1 = some (ty0 k)) (hnm : ∀ a, a < N → ∀ b, b < N → a ≠ b → (T a).2.1 ≠ (T b).2.1) (hown : s.vm.findClass own = some m.cls) (hK : va_K G vwCl tys s) (hP : va_P G vwCl (wM ci fv al h x) H) (hD : va_D A (wM ci fv al h x)) (hS : va_S A s.heap H locs) (hc : vwCl[ci]? = some (C, T, N)) (k : Nat) (hk : k < N) (hlink : (Cond.fieldLink own index C (T k).2.1 (T k).2.2.1).before args s = true) (hC : (T k).1 = C) (hfin : (T k).2.2.2 = false) {q : Nat} {v : Int32} (hq : fv[k]? = some (false, q)) (hu : ∀ j, fv[j]? = some (false, q) → j = k) (hn : narrow (ty0 k) (.int v) = .int v) (hfit : fits (ty0 k) (.int v) = true) (hdg : decode cc pc = .ok (.putfield index, 3))
    (kk : ∀ (H1 : Heap) (locs1 : List Loc), va_P G vwCl (wM ci fv al h (pS x q v)) H1 → va_D A (wM ci fv al h (pS x q v)) → va_S A s.heap H1 locs1 → W p l e R s m args below meth c H1 locs1 0 0 Q (F0 m (pc + 3) ls rest)) : W p l e R s m args below meth c H locs 0 0 Q (F0 m pc ls (.int v :: .ref (h 0) :: rest)) := by
  have hlen : k < (fv.map (mF h x.1)).length := by
    rw [List.length_map]
    exact (List.getElem?_eq_some_iff.mp hq).1
  refine va_put (ref := C) hx hb hts hin ty0 hty hnm hown hK hP hD hS 0 (fs := fv.map (mF h x.1)) rfl hc k hk hlink (fun z hz => by rw [← hC]; exact hz) hfin (hty k hk) hn hfit hlen hdg (fun H1 locs1 hP1 hD1 hS1 => ?_)
  rw [wM_objset v hq hu] at hP1 hD1
  exact kk H1 locs1 hP1 hD1 hS1
theorem md_ia (hx : p.tables.exec = Jvm.exec) (hb : c.code = cc) (hK : va_K G vwCl tys s) (hP : va_P G vwCl (wM ci fv al h x) H) (k t0 : Nat) {cA : ClassId} {n : Nat} (ha : al[k]? = some (cA, n)) (ht : tys[t0]? = some (cA, .int)) {i v : Int32} (hin : vp_in i n) (hv : x.2 k (ix i) = v) (hdg : decode cc pc = .ok (.iaload, 1))
    (kk : W p l e R s m args below meth c H locs 0 0 Q (F0 m (pc + 1) ls (.int v :: rest))) : W p l e R s m args below meth c H locs 0 0 Q (F0 m pc ls (.int i :: .ref (h (k + 1)) :: rest)) := by
  subst hv
  exact va_iald hx hb hK hP (k + 1) t0 (wM_arr ha) ht hin hdg kk
theorem md_ca (hx : p.tables.exec = Jvm.exec) (hb : c.code = cc) (hK : va_K G vwCl tys s) (hP : va_P G vwCl (wM ci fv al h x) H) (k t0 : Nat) {cA : ClassId} {n : Nat} (ha : al[k]? = some (cA, n)) (ht : tys[t0]? = some (cA, .char)) {i v : Int32} (hin : vp_in i n) (hv : x.2 k (ix i) = v) (hdg : decode cc pc = .ok (.caload, 1))
    (kk : W p l e R s m args below meth c H locs 0 0 Q (F0 m (pc + 1) ls (.int v :: rest))) : W p l e R s m args below meth c H locs 0 0 Q (F0 m pc ls (.int i :: .ref (h (k + 1)) :: rest)) := by
  subst hv
  exact va_cald hx hb hK hP (k + 1) t0 (wM_arr ha) ht hin hdg kk
theorem md_is (hx : p.tables.exec = Jvm.exec) (hb : c.code = cc) (hK : va_K G vwCl tys s) (hP : va_P G vwCl (wM ci fv al h x) H) (hD : va_D A (wM ci fv al h x)) (hS : va_S A s.heap H locs) (k t0 : Nat) {cA : ClassId} {n : Nat} (ha : al[k]? = some (cA, n)) (ht : tys[t0]? = some (cA, .int)) {i v : Int32} (hin : vp_in i n) (hdg : decode cc pc = .ok (.iastore, 1))
    (kk : ∀ (H1 : Heap) (locs1 : List Loc), va_P G vwCl (wM ci fv al h (pR x k i v)) H1 → va_D A (wM ci fv al h (pR x k i v)) → va_S A s.heap H1 locs1 → W p l e R s m args below meth c H1 locs1 0 0 Q (F0 m (pc + 1) ls rest)) : W p l e R s m args below meth c H locs 0 0 Q (F0 m pc ls (.int v :: .int i :: .ref (h (k + 1)) :: rest)) := by
  refine va_iast hx hb hK hP hD hS (k + 1) t0 (wM_arr ha) ht hin hdg (fun H1 locs1 hP1 hD1 hS1 => ?_)
  rw [wM_arrset (upd (x.2 k) (ix i) v) ha] at hP1 hD1
  exact kk H1 locs1 hP1 hD1 hS1
theorem md_cs (hx : p.tables.exec = Jvm.exec) (hb : c.code = cc) (hK : va_K G vwCl tys s) (hP : va_P G vwCl (wM ci fv al h x) H) (hD : va_D A (wM ci fv al h x)) (hS : va_S A s.heap H locs) (k t0 : Nat) {cA : ClassId} {n : Nat} (ha : al[k]? = some (cA, n)) (ht : tys[t0]? = some (cA, .char)) {i v : Int32} (hin : vp_in i n) (hdg : decode cc pc = .ok (.castore, 1))
    (kk : ∀ (H1 : Heap) (locs1 : List Loc), va_P G vwCl (wM ci fv al h (pR x k i (vp_nar .char v))) H1 → va_D A (wM ci fv al h (pR x k i (vp_nar .char v))) → va_S A s.heap H1 locs1 → W p l e R s m args below meth c H1 locs1 0 0 Q (F0 m (pc + 1) ls rest)) : W p l e R s m args below meth c H locs 0 0 Q (F0 m pc ls (.int v :: .int i :: .ref (h (k + 1)) :: rest)) := by
  refine va_cast hx hb hK hP hD hS (k + 1) t0 (wM_arr ha) ht hin hdg (fun H1 locs1 hP1 hD1 hS1 => ?_)
  rw [wM_arrset (upd (x.2 k) (ix i) (vp_nar .char v)) ha] at hP1 hD1
  exact kk H1 locs1 hP1 hD1 hS1
theorem md_recv {C : String} {T : u_T} {N : Nat} (hK : va_K G vwCl tys s) (hP : va_P G vwCl (wM ci fv al h x) H) (hc : vwCl[ci]? = some (C, T, N)) : ∃ cell : Cell, H[h 0]? = some cell ∧ cell.vm.isStatics = false ∧ s.vm.findClass C = some cell.cls := va_recv hK hP hc (q0 := 0) (fs := fv.map (mF h x.1)) rfl
-- calls: what is run
variable {y : MethodName} {words : List Cond} {rm : Room} {Qe : Ends} {As : List Value} {a : Array Value} {Ts : List Cond} {own C : String} {nL n index maxL : Nat} {bytes : ByteArray} {ret : Option FieldType} {b : Addr} {wc wc' wl wr : va_W} {f : Int32}
theorem rn_V (S : CallFix p m c cc nL s args Ts own) (hM : Ct l y words rm G tys (.ref b :: As) wc Qe) (cw : CallW R s args own C index y bytes maxL ret words rm 0 0 n) (hrecv : ∃ cell : Cell, H[b]? = some cell ∧ cell.vm.isStatics = false ∧ s.vm.findClass C = some cell.cls) (hK : va_K G vwCl tys s) (hP : va_P G vwCl wc H) (hD : va_D A wc) (hN : NWs s) (hn : As.length = n) (hsize : ls.size = nL) (hst : st0 = As.reverse ++ .ref b :: rest) (hW : (rest.map fun v => v.category).sum ≤ 8) (hdg : decode cc pc = .ok (.invokevirtual index, 3)) :
    va_Run p l e R s m args below meth c H locs 0 0 0 0 (F0 m pc ls st0) rest (Qe H.size (Value.ref b :: As).toArray) (va_A wc H.size) :=
  va_runV S (hM H.size) cw ⟨PreW.blind, hrecv, PreW.at hP hK hD hN _⟩ rfl hn hsize hst (lv_room hW) hdg ⟨Nat.zero_le _, Nat.zero_le _⟩
theorem rn_S (S : CallFix p m c cc nL s args Ts own) (hM : Ct l y words rm G tys As wc Qe) (cw : CallB R s args own index y bytes maxL ret words rm 0 0 n ∧ (Cond.static y).before args s = true) (hK : va_K G vwCl tys s) (hP : va_P G vwCl wc H) (hD : va_D A wc) (hN : NWs s) (hn : As.length = n) (hsize : ls.size = nL) (hst : st0 = As.reverse ++ rest) (hW : (rest.map fun v => v.category).sum ≤ 8) (hdg : decode cc pc = .ok (.invokestatic index, 3)) :
    va_Run p l e R s m args below meth c H locs 0 0 0 0 (F0 m pc ls st0) rest (Qe H.size As.toArray) (va_A wc H.size) :=
  va_runS S (hM H.size) cw ⟨PreW.blind, PreW.at hP hK hD hN _⟩ rfl hn hsize hst (lv_room hW) hdg ⟨Nat.zero_le _, Nat.zero_le _⟩
theorem rn_VN {host : String} (S : CallFix p m c cc nL s args Ts own) (hM : Ct l y words rm G tys (.ref b :: As) wc Qe) (cw : va_CN R s args own index y host bytes maxL ret words rm 0 0 n ∧ (Cond.instanceMethod y).before args s = true ∧ (Cond.selects C y y).before args s = true) (hrecv : ∃ cell : Cell, H[b]? = some cell ∧ cell.vm.isStatics = false ∧ s.vm.findClass C = some cell.cls) (hK : va_K G vwCl tys s) (hP : va_P G vwCl wc H) (hD : va_D A wc) (hN : NWs s) (hn : As.length = n) (hsize : ls.size = nL) (hst : st0 = As.reverse ++ .ref b :: rest) (hW : (rest.map fun v => v.category).sum ≤ 8) (hdg : decode cc pc = .ok (.invokevirtual index, 3)) :
    va_Run p l e R s m args below meth c H locs 0 0 0 0 (F0 m pc ls st0) rest (Qe H.size (Value.ref b :: As).toArray) (va_A wc H.size) :=
  va_runVN S (hM H.size) cw ⟨PreW.blind, hrecv, PreW.at hP hK hD hN _⟩ rfl hn hsize hst (lv_room hW) hdg ⟨Nat.zero_le _, Nat.zero_le _⟩
theorem rn_SN {host : String} (S : CallFix p m c cc nL s args Ts own) (hM : Ct l y words rm G tys As wc Qe) (cw : va_CN R s args own index y host bytes maxL ret words rm 0 0 n ∧ (Cond.static y).before args s = true ∧ True) (hK : va_K G vwCl tys s) (hP : va_P G vwCl wc H) (hD : va_D A wc) (hN : NWs s) (hn : As.length = n) (hsize : ls.size = nL) (hst : st0 = As.reverse ++ rest) (hW : (rest.map fun v => v.category).sum ≤ 8) (hdg : decode cc pc = .ok (.invokestatic index, 3)) :
    va_Run p l e R s m args below meth c H locs 0 0 0 0 (F0 m pc ls st0) rest (Qe H.size As.toArray) (va_A wc H.size) :=
  va_runSN S (hM H.size) cw ⟨PreW.blind, PreW.at hP hK hD hN _⟩ rfl hn hsize hst (lv_room hW) hdg ⟨Nat.zero_le _, Nat.zero_le _⟩
-- calls: how it goes on
theorem fr_in (hD : va_D A ws) (hS : va_S A s.heap H locs) (hA : ∀ q : Nat, s.heap.size ≤ q → A q) : ∀ q, va_A ws H.size q → A q := by
  intro q hq
  rcases hq with ⟨k, e, hk⟩ | hq
  · exact hD.2 k (q, e) hk
  · exact hA q (Nat.le_trans hS.1 hq)
theorem fr_nil (hS : va_S A s.heap H locs) (hA : ∀ q : Nat, s.heap.size ≤ q → A q) : ∀ q, va_A [] H.size q → A q := by
  intro q hq
  rcases hq with ⟨k, e, hk⟩ | hq
  · simp at hk
  · exact hA q (Nat.le_trans hS.1 hq)
theorem fr_keep {H1 : Heap} (hP : va_P G vwCl ws H) (hk : ∀ q : Nat, q < H.size → ¬ va_A [] H.size q → H1[q]? = H[q]?) : va_P G vwCl ws H1 := by
  refine hP.kept (fun k q hq => hk q.1 (hP k q hq).lt ?_)
  intro z
  rcases z with ⟨k2, e, h2⟩ | z
  · simp at h2
  · have := (hP k q hq).lt
    omega
theorem va_D.midc (hD : va_D A (wl ++ (wc ++ wr))) : va_D A wc := by
  refine ⟨fun i j p q hi hj hpq => ?_, fun k q hk => ?_⟩
  · have hi' : (wl ++ (wc ++ wr))[wl.length + i]? = some p := by
      rw [List.getElem?_append_right (by omega), show wl.length + i - wl.length = i by omega, List.getElem?_append_left (List.getElem?_eq_some_iff.mp hi).1]; exact hi
    have hj' : (wl ++ (wc ++ wr))[wl.length + j]? = some q := by
      rw [List.getElem?_append_right (by omega), show wl.length + j - wl.length = j by omega, List.getElem?_append_left (List.getElem?_eq_some_iff.mp hj).1]; exact hj
    have := hD.1 _ _ p q hi' hj' hpq
    omega
  · have hk' : (wl ++ (wc ++ wr))[wl.length + k]? = some q := by
      rw [List.getElem?_append_right (by omega), show wl.length + k - wl.length = k by omega, List.getElem?_append_left (List.getElem?_eq_some_iff.mp hk).1]; exact hk
    exact hD.2 _ q hk'
theorem va_P.midc (hP : va_P G vwCl (wl ++ (wc ++ wr)) H) : va_P G vwCl wc H := by
  intro k q hk
  refine hP (wl.length + k) q ?_
  rw [List.getElem?_append_right (by omega), show wl.length + k - wl.length = k by omega, List.getElem?_append_left (List.getElem?_eq_some_iff.mp hk).1]
  exact hk
theorem fr_mid {H1 : Heap} (hP : va_P G vwCl (wl ++ (wc ++ wr)) H) (hD : va_D A (wl ++ (wc ++ wr))) (hF : ∀ q, va_A wc H.size q → A q) (hk : ∀ q : Nat, q < H.size → ¬ va_A wc H.size q → H1[q]? = H[q]?) (hP1 : va_P G vwCl wc' H1) (hD1 : va_D (va_A wc H.size) wc') : va_P G vwCl (wl ++ (wc' ++ wr)) H1 ∧ va_D A (wl ++ (wc' ++ wr)) := by
  have hl : ∀ (i : Nat) (p : Nat × va_E), wl[i]? = some p → (wl ++ (wc ++ wr))[i]? = some p := fun i p hp => by
    rw [List.getElem?_append_left (List.getElem?_eq_some_iff.mp hp).1]; exact hp
  have hr : ∀ (i : Nat) (p : Nat × va_E), wr[i]? = some p → (wl ++ (wc ++ wr))[wl.length + (wc.length + i)]? = some p := fun i p hp => by
    rw [List.getElem?_append_right (by omega), show wl.length + (wc.length + i) - wl.length = wc.length + i by omega, List.getElem?_append_right (by omega), show wc.length + i - wc.length = i by omega]; exact hp
  have hc : ∀ (i : Nat) (p : Nat × va_E), wc[i]? = some p → (wl ++ (wc ++ wr))[wl.length + i]? = some p := fun i p hp => by
    rw [List.getElem?_append_right (by omega), show wl.length + i - wl.length = i by omega, List.getElem?_append_left (List.getElem?_eq_some_iff.mp hp).1]; exact hp
  have hLl : ∀ (i : Nat) (p : Nat × va_E), wl[i]? = some p → i < wl.length := fun i p hp => (List.getElem?_eq_some_iff.mp hp).1
  have hLc : ∀ (i : Nat) (p : Nat × va_E), wc[i]? = some p → i < wc.length := fun i p hp => (List.getElem?_eq_some_iff.mp hp).1
  have offl : ∀ (i : Nat) (p : Nat × va_E), wl[i]? = some p → p.1 < H.size ∧ ¬ va_A wc H.size p.1 := by
    intro i p hp
    refine ⟨(hP _ p (hl i p hp)).lt, fun z => ?_⟩
    rcases z with ⟨k, e, hk2⟩ | z
    · have := hD.1 _ _ _ _ (hl i p hp) (hc k _ hk2) rfl
      have := hLl i p hp
      omega
    · have := (hP _ p (hl i p hp)).lt
      omega
  have offr : ∀ (i : Nat) (p : Nat × va_E), wr[i]? = some p → p.1 < H.size ∧ ¬ va_A wc H.size p.1 := by
    intro i p hp
    refine ⟨(hP _ p (hr i p hp)).lt, fun z => ?_⟩
    rcases z with ⟨k, e, hk2⟩ | z
    · have := hD.1 _ _ _ _ (hr i p hp) (hc k _ hk2) rfl
      have := hLc k _ hk2
      omega
    · have := (hP _ p (hr i p hp)).lt
      omega
  have hDl : va_D A wl := by
    refine ⟨fun i j p q hi hj hpq => hD.1 i j p q (hl i p hi) (hl j q hj) hpq, fun k q hk2 => hD.2 k q (hl k q hk2)⟩
  have hDr : va_D A wr := by
    refine ⟨fun i j p q hi hj hpq => ?_, fun k q hk2 => hD.2 _ q (hr k q hk2)⟩
    have := hD.1 _ _ p q (hr i p hi) (hr j q hj) hpq
    omega
  refine ⟨va_P.app (fun k q hq => ?_) (va_P.app hP1 (fun k q hq => ?_)), va_D.app hDl (va_D.app (hD1.weaken (fun k q _ hq => hF q.1 hq)) hDr (fun i j p q hi hj hpq => ?_)) (fun i j p q hi hj hpq => ?_)⟩
  · exact (hP k q (hl k q hq)).kept (hk q.1 (offl k q hq).1 (offl k q hq).2)
  · exact (hP _ q (hr k q hq)).kept (hk q.1 (offr k q hq).1 (offr k q hq).2)
  · exact (offr j q hj).2 (by rw [← hpq]; exact hD1.2 i p hi)
  · rcases List.mem_append.mp (List.mem_of_getElem? hj) with hm | hm
    · obtain ⟨j2, hj2⟩ := List.getElem?_of_mem hm
      exact (offl i p hi).2 (by rw [hpq]; exact hD1.2 j2 q hj2)
    · obtain ⟨j2, hj2⟩ := List.getElem?_of_mem hm
      have := hD.1 _ _ _ _ (hl i p hi) (hr j2 q hj2) hpq
      have := hLl i p hi
      omega
theorem go_i (hD : va_D A ws) (hS : va_S A s.heap H locs) (hA : ∀ q : Nat, s.heap.size ≤ q → A q) (hr : va_Run p l e R s m args below meth c H locs 0 0 0 0 (F0 m pc ls st0) rest (Qi G ws f ws' H.size a) (va_A ws H.size))
    (kk : ∀ (H1 : Heap) (locs1 : List Loc), va_P G vwCl ws' H1 → va_D A ws' → va_S A s.heap H1 locs1 → W p l e R s m args below meth c H1 locs1 0 0 Q (F0 m (pc + 3) ls (.int f :: rest))) : W p l e R s m args below meth c H locs 0 0 Q (F0 m pc ls st0) := by
  have hF := fr_in hD hS hA
  refine va_calli (a := a) hr hS (fun q _ hq => hF q hq) hF (fun r u t H1 locs1 ht _ hw hB _ _ hS1 => ?_)
  obtain ⟨hP1, hD1⟩ := hB
  rw [ht] at hP1
  subst hw
  exact kk H1 locs1 hP1 (hD1.weaken (fun k q _ hq => hF q.1 hq)) hS1
theorem go_v (hD : va_D A ws) (hS : va_S A s.heap H locs) (hA : ∀ q : Nat, s.heap.size ≤ q → A q) (hr : va_Run p l e R s m args below meth c H locs 0 0 0 0 (F0 m pc ls st0) rest (Qv G ws ws' H.size a) (va_A ws H.size))
    (kk : ∀ (H1 : Heap) (locs1 : List Loc), va_P G vwCl ws' H1 → va_D A ws' → va_S A s.heap H1 locs1 → W p l e R s m args below meth c H1 locs1 0 0 Q (F0 m (pc + 3) ls rest)) : W p l e R s m args below meth c H locs 0 0 Q (F0 m pc ls st0) := by
  have hF := fr_in hD hS hA
  refine va_callv (a := a) hr hS (fun q _ hq => hF q hq) hF (fun u t H1 locs1 ht _ hw hB _ _ hS1 => ?_)
  obtain ⟨hP1, hD1⟩ := hB
  rw [ht] at hP1
  exact kk H1 locs1 hP1 (hD1.weaken (fun k q _ hq => hF q.1 hq)) hS1
theorem gn_i (hP : va_P G vwCl ws H) (hS : va_S A s.heap H locs) (hA : ∀ q : Nat, s.heap.size ≤ q → A q) (hr : va_Run p l e R s m args below meth c H locs 0 0 0 0 (F0 m pc ls st0) rest (Qi G [] f [] H.size a) (va_A [] H.size))
    (kk : ∀ (H1 : Heap) (locs1 : List Loc), va_P G vwCl ws H1 → va_S A s.heap H1 locs1 → W p l e R s m args below meth c H1 locs1 0 0 Q (F0 m (pc + 3) ls (.int f :: rest))) : W p l e R s m args below meth c H locs 0 0 Q (F0 m pc ls st0) := by
  have hF := fr_nil hS hA
  refine va_calli (a := a) hr hS (fun q _ hq => hF q hq) hF (fun r u t H1 locs1 ht _ hw hB _ hk hS1 => ?_)
  subst hw
  exact kk H1 locs1 (fr_keep hP hk) hS1
theorem gm_i (hP : va_P G vwCl (wl ++ (wc ++ wr)) H) (hD : va_D A (wl ++ (wc ++ wr))) (hS : va_S A s.heap H locs) (hA : ∀ q : Nat, s.heap.size ≤ q → A q) (hr : va_Run p l e R s m args below meth c H locs 0 0 0 0 (F0 m pc ls st0) rest (Qi G wc f wc' H.size a) (va_A wc H.size))
    (kk : ∀ (H1 : Heap) (locs1 : List Loc), va_P G vwCl (wl ++ (wc' ++ wr)) H1 → va_D A (wl ++ (wc' ++ wr)) → va_S A s.heap H1 locs1 → W p l e R s m args below meth c H1 locs1 0 0 Q (F0 m (pc + 3) ls (.int f :: rest))) : W p l e R s m args below meth c H locs 0 0 Q (F0 m pc ls st0) := by
  have hF := fr_in hD.midc hS hA
  refine va_calli (a := a) hr hS (fun q _ hq => hF q hq) hF (fun r u t H1 locs1 ht _ hw hB _ hk hS1 => ?_)
  obtain ⟨hP1, hD1⟩ := hB
  rw [ht] at hP1
  subst hw
  obtain ⟨h1, h2⟩ := fr_mid hP hD hF hk hP1 hD1
  exact kk H1 locs1 h1 h2 hS1
theorem gm_v (hP : va_P G vwCl (wl ++ (wc ++ wr)) H) (hD : va_D A (wl ++ (wc ++ wr))) (hS : va_S A s.heap H locs) (hA : ∀ q : Nat, s.heap.size ≤ q → A q) (hr : va_Run p l e R s m args below meth c H locs 0 0 0 0 (F0 m pc ls st0) rest (Qv G wc wc' H.size a) (va_A wc H.size))
    (kk : ∀ (H1 : Heap) (locs1 : List Loc), va_P G vwCl (wl ++ (wc' ++ wr)) H1 → va_D A (wl ++ (wc' ++ wr)) → va_S A s.heap H1 locs1 → W p l e R s m args below meth c H1 locs1 0 0 Q (F0 m (pc + 3) ls rest)) : W p l e R s m args below meth c H locs 0 0 Q (F0 m pc ls st0) := by
  have hF := fr_in hD.midc hS hA
  refine va_callv (a := a) hr hS (fun q _ hq => hF q hq) hF (fun u t H1 locs1 ht _ hw hB _ hk hS1 => ?_)
  obtain ⟨hP1, hD1⟩ := hB
  rw [ht] at hP1
  obtain ⟨h1, h2⟩ := fr_mid hP hD hF hk hP1 hD1
  exact kk H1 locs1 h1 h2 hS1
-- ends of the three kinds of a module's methods: it reads (an int), it changes (nothing returned), both
theorem rt_r {res v : Int32} {rt : FieldType} (hx : p.tables.exec = Jvm.exec) (hb : c.code = cc) (hr : meth.sig.returnType = some rt) (hlocks : meth.locks = false) (hP : va_P G vwCl ws H) (hD : va_D A ws) (hS : va_S A s.heap H locs) (hn : narrow rt (.int v) = .int v) (e9 : res = v) (hdg : decode cc pc = .ok (.ireturn, 1)) :
    W p l e R s m args below meth c H locs 0 0 (MQ below (QiA G A res ws) args s 0 0 A) (F0 m pc ls [.int v]) := rt_i hx hb hr hlocks hP hD hS hn e9.symm hdg
theorem rt_b {res : Int32 × SR} {v : Int32} {X : SR} {rt : FieldType} (hx : p.tables.exec = Jvm.exec) (hb : c.code = cc) (hr : meth.sig.returnType = some rt) (hlocks : meth.locks = false) (hP : va_P G vwCl (wM ci fv al h X) H) (hD : va_D A (wM ci fv al h X)) (hS : va_S A s.heap H locs) (hn : narrow rt (.int v) = .int v) (e9 : res = (v, X)) (hdg : decode cc pc = .ok (.ireturn, 1)) :
    W p l e R s m args below meth c H locs 0 0 (MQ below (QiA G A res.1 (wM ci fv al h res.2)) args s 0 0 A) (F0 m pc ls [.int v]) := by
  subst e9
  exact rt_i hx hb hr hlocks hP hD hS hn rfl hdg
theorem rt_s {res X : SR} (hx : p.tables.exec = Jvm.exec) (hb : c.code = cc) (hr : meth.sig.returnType = none) (hlocks : meth.locks = false) (hP : va_P G vwCl (wM ci fv al h X) H) (hD : va_D A (wM ci fv al h X)) (hS : va_S A s.heap H locs) (e9 : res = X) (hdg : decode cc pc = .ok (.return_, 1)) :
    W p l e R s m args below meth c H locs 0 0 (MQ below (QvA G A (wM ci fv al h res)) args s 0 0 A) (F0 m pc ls []) := by
  subst e9
  exact rt_v hx hb hr hlocks hP hD hS hdg
end ROWS
theorem nilP {G : va_G} {H : Heap} : va_P G vwCl [] H := fun k q h => by simp at h
theorem nilD {A : Nat → Prop} : va_D A [] := ⟨fun i j p q h => by simp at h, fun k q h => by simp at h⟩
theorem fu {fv : List (Bool × Nat)} {k q : Nat} (h : (List.range fv.length).all (fun j => !(fv[j]? == some (false, q)) || j == k) = true) : ∀ j, fv[j]? = some (false, q) → j = k := by
  intro j hj
  have hl : j < fv.length := (List.getElem?_eq_some_iff.mp hj).1
  have h1 := List.all_eq_true.mp h j (List.mem_range.mpr hl)
  rw [hj] at h1
  simpa using h1
-- comparisons of ints, as comparisons of their numbers
theorem i_lt {a b : Int32} {z w : Int} (h : a < b) (ha : a.toInt = z) (hb : b.toInt = w) : z < w := by rw [← ha, ← hb]; exact Int32.lt_iff_toInt_lt.mp h
theorem i_le {a b : Int32} {z w : Int} (h : a ≤ b) (ha : a.toInt = z) (hb : b.toInt = w) : z ≤ w := by rw [← ha, ← hb]; exact Int32.le_iff_toInt_le.mp h
theorem i_nlt {a b : Int32} {z w : Int} (h : ¬ a < b) (ha : a.toInt = z) (hb : b.toInt = w) : w ≤ z := by
  rw [← ha, ← hb]
  have h1 := mt Int32.lt_iff_toInt_lt.mpr h
  omega
theorem i_nle {a b : Int32} {z w : Int} (h : ¬ a ≤ b) (ha : a.toInt = z) (hb : b.toInt = w) : w < z := by
  rw [← ha, ← hb]
  have h1 := mt Int32.le_iff_toInt_le.mpr h
  omega
theorem i_add1 {a : Int32} (h : -2147483648 ≤ a.toInt) (h2 : a.toInt < 2147483647) : (a + 1).toInt = a.toInt + 1 := by
  rw [Int32.toInt_add, show (1 : Int32).toInt = 1 from rfl]
  rw [Int.bmod_eq_of_le] <;> omega
theorem i_sub1 {a : Int32} (h : -2147483648 < a.toInt) (h2 : a.toInt ≤ 2147483647) : (a + (-1)).toInt = a.toInt - 1 := by
  rw [Int32.toInt_add, show (-1 : Int32).toInt = -1 from rfl]
  rw [Int.bmod_eq_of_le] <;> omega
theorem i_min (a : Int32) : -2147483648 ≤ a.toInt := Int32.le_toInt a
theorem i_max (a : Int32) : a.toInt ≤ 2147483647 := by
  have := Int32.toInt_lt a
  omega
theorem nz_of {v : Int32} (h : v = 0 ∨ v = 1) : narrow .boolean (.int v) = .int v := by rcases h with rfl | rfl <;> rfl
-- the modules' layouts
def fvSt : List (Bool × Nat) := [(true, 0), (false, 0), (false, 1), (false, 2), (true, 1), (true, 2), (true, 3), (true, 4), (false, 3), (true, 5), (true, 6), (true, 7), (true, 8), (true, 9), (false, 4), (false, 5), (false, 6), (false, 7)]
def alSt (cI : ClassId) : List (ClassId × Nat) := [(cI, 7), (cI, 12), (cI, 12), (cI, 12), (cI, 12), (cI, 5), (cI, 5), (cI, 5), (cI, 5), (cI, 5)]
def fvPd : List (Bool × Nat) := [(true, 0), (false, 0), (false, 1), (false, 2), (false, 3), (false, 4), (false, 5), (false, 6)]
def alPd (cC : ClassId) : List (ClassId × Nat) := [(cC, 80)]
abbrev TY (cI cC cZ cR : ClassId) : List (ClassId × FieldType) := [(cI, .int), (cC, .char), (cZ, .boolean), (cR, .object "PianoCovers$Street")]
abbrev wSt (cI : ClassId) (h : Ad) (x : SR) : va_W := wM 1 fvSt (alSt cI) h x
abbrev wPd (cC : ClassId) (h : Ad) (x : SR) : va_W := wM 0 fvPd (alPd cC) h x
