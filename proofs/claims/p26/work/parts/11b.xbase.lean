-- the object PianoCovers: its streets (0 now, 1 before, 2 trial, 3 to 8 the history, 9 and 10 the slots), its pad, its numbers
abbrev TV : Type := (Nat → SR) × SR × Int32 × (Nat → Int32)
def tQ (t : TV) (j : Nat) (v : SR) : TV := (up t.1 j v, t.2)
def tP (t : TV) (v : SR) : TV := (t.1, v, t.2.2)
def tU (t : TV) (u : Int32) : TV := (t.1, t.2.1, u, t.2.2.2)
def tW (t : TV) (i v : Int32) : TV := (t.1, t.2.1, t.2.2.1, up t.2.2.2 (ix i) v)
def tpF (ho : Nat → Nat) (hh : Nat → Ad) (hp : Ad) (u : Int32) : List Value := [.ref (hh 0 0), .ref (hh 1 0), .ref (hh 2 0), .ref (ho 1), .int u, .ref (ho 2), .ref (ho 3), .ref (hp 0)]
def wTop (cZ cR : ClassId) (ho : Nat → Nat) (hh : Nat → Ad) (hp : Ad) (u : Int32) (sv : Nat → Int32) : va_W :=
  [(ho 0, .inr (2, tpF ho hh hp u)), (ho 1, .inl (cR, 6, .inr (.inr (.inr (.inr (fun i => some (hh (3 + i) 0))))))), (ho 2, .inl (cR, 2, .inr (.inr (.inr (.inr (fun i => some (hh (9 + i) 0))))))), (ho 3, .inl (cZ, 2, .inl sv))]
def wS0 (cI : ClassId) (hh : Nat → Ad) (Q : Nat → SR) (l : List Nat) : va_W := l.flatMap (fun j => wSt cI (hh j) (Q j))
def wX (cI cC cZ cR : ClassId) (ho : Nat → Nat) (hh : Nat → Ad) (hp : Ad) (t : TV) : va_W := wTop cZ cR ho hh hp t.2.2.1 t.2.2.2 ++ (wS0 cI hh t.1 (List.range 11) ++ wPd cC hp t.2.1)
def wR1 (cI cC cZ cR : ClassId) (ho : Nat → Nat) (hh : Nat → Ad) (hp : Ad) (t : TV) (j : Nat) : va_W := wTop cZ cR ho hh hp t.2.2.1 t.2.2.2 ++ (wS0 cI hh t.1 ((List.range 11).erase j) ++ wPd cC hp t.2.1)
def wR2 (cI cC cZ cR : ClassId) (ho : Nat → Nat) (hh : Nat → Ad) (hp : Ad) (t : TV) (j k : Nat) : va_W := wTop cZ cR ho hh hp t.2.2.1 t.2.2.2 ++ (wS0 cI hh t.1 (((List.range 11).erase j).erase k) ++ wPd cC hp t.2.1)
def wRP (cI cZ cR : ClassId) (ho : Nat → Nat) (hh : Nat → Ad) (hp : Ad) (t : TV) : va_W := wTop cZ cR ho hh hp t.2.2.1 t.2.2.2 ++ wS0 cI hh t.1 (List.range 11)
theorem wS0_up (cI : ClassId) (hh : Nat → Ad) (Q : Nat → SR) {j : Nat} (v : SR) : ∀ (l : List Nat), j ∉ l → wS0 cI hh (up Q j v) l = wS0 cI hh Q l
  | [], _ => rfl
  | a :: l, h => by
    have h1 : a ≠ j := fun e => h (by rw [e]; exact List.mem_cons_self)
    have h2 : j ∉ l := fun e => h (List.mem_cons_of_mem _ e)
    show wSt cI (hh a) (up Q j v a) ++ wS0 cI hh (up Q j v) l = wSt cI (hh a) (Q a) ++ wS0 cI hh Q l
    rw [wS0_up cI hh Q v l h2, up_ne Q v h1]
theorem wS0_perm (cI : ClassId) (hh : Nat → Ad) (Q : Nat → SR) {l l' : List Nat} (h : List.Perm l l') : List.Perm (wS0 cI hh Q l) (wS0 cI hh Q l') := h.flatMap_right _
theorem pm_1 (T F r P : va_W) : List.Perm (T ++ ((F ++ r) ++ P)) (F ++ (T ++ (r ++ P))) := by
  rw [List.append_assoc]
  exact List.perm_append_comm_assoc T F (r ++ P)
theorem ra_in {j : Nat} (h : j < 11) : j ∈ List.range 11 := List.mem_range.mpr h
theorem ra_no (j : Nat) : j ∉ (List.range 11).erase j := fun h => ((List.nodup_range).mem_erase_iff.mp h).1 rfl
theorem ra_in2 {j k : Nat} (h : k < 11) (hn : j ≠ k) : k ∈ (List.range 11).erase j := (List.nodup_range).mem_erase_iff.mpr ⟨Ne.symm hn, ra_in h⟩
theorem ra_no2 (j k : Nat) : k ∉ ((List.range 11).erase j).erase k := fun h => (((List.nodup_range).erase j).mem_erase_iff.mp h).1 rfl
theorem ra_no3 (j k : Nat) : j ∉ ((List.range 11).erase j).erase k := fun h => ra_no j (List.mem_of_mem_erase h)
section XW
variable {cI cC cZ cR : ClassId} {ho : Nat → Nat} {hh : Nat → Ad} {hp : Ad} {t : TV}
theorem wX_1 {j : Nat} (hj : j < 11) : List.Perm (wX cI cC cZ cR ho hh hp t) (wSt cI (hh j) (t.1 j) ++ wR1 cI cC cZ cR ho hh hp t j) := by
  have h1 := wS0_perm cI hh t.1 (List.perm_cons_erase (ra_in hj))
  have h2 : List.Perm (wX cI cC cZ cR ho hh hp t) (wTop cZ cR ho hh hp t.2.2.1 t.2.2.2 ++ ((wSt cI (hh j) (t.1 j) ++ wS0 cI hh t.1 ((List.range 11).erase j)) ++ wPd cC hp t.2.1)) := (h1.append_right _).append_left _
  exact h2.trans (pm_1 _ _ _ _)
theorem wX_1u {j : Nat} (hj : j < 11) {v : SR} : List.Perm (wX cI cC cZ cR ho hh hp (tQ t j v)) (wSt cI (hh j) v ++ wR1 cI cC cZ cR ho hh hp t j) := by
  have h := wX_1 (cI := cI) (cC := cC) (cZ := cZ) (cR := cR) (ho := ho) (hh := hh) (hp := hp) (t := tQ t j v) hj
  have e1 : (tQ t j v).1 j = v := up_same _ _ _
  have e2 : wR1 cI cC cZ cR ho hh hp (tQ t j v) j = wR1 cI cC cZ cR ho hh hp t j := by
    show wTop _ _ _ _ _ _ _ ++ (wS0 cI hh (up t.1 j v) _ ++ _) = wTop _ _ _ _ _ _ _ ++ (wS0 cI hh t.1 _ ++ _)
    rw [wS0_up cI hh t.1 v _ (ra_no j)]
    rfl
  rw [e1, e2] at h
  exact h
theorem wX_2 {j k : Nat} (hj : j < 11) (hk : k < 11) (hn : j ≠ k) : List.Perm (wX cI cC cZ cR ho hh hp t) ((wSt cI (hh j) (t.1 j) ++ wSt cI (hh k) (t.1 k)) ++ wR2 cI cC cZ cR ho hh hp t j k) := by
  have h1 := wS0_perm cI hh t.1 ((List.perm_cons_erase (ra_in hj)).trans ((List.perm_cons_erase (ra_in2 hk hn)).cons j))
  have e : wS0 cI hh t.1 (j :: k :: ((List.range 11).erase j).erase k) = (wSt cI (hh j) (t.1 j) ++ wSt cI (hh k) (t.1 k)) ++ wS0 cI hh t.1 (((List.range 11).erase j).erase k) := by
    show wSt cI (hh j) (t.1 j) ++ (wSt cI (hh k) (t.1 k) ++ wS0 cI hh t.1 _) = _
    rw [List.append_assoc]
  rw [e] at h1
  have h2 : List.Perm (wX cI cC cZ cR ho hh hp t) (wTop cZ cR ho hh hp t.2.2.1 t.2.2.2 ++ (((wSt cI (hh j) (t.1 j) ++ wSt cI (hh k) (t.1 k)) ++ wS0 cI hh t.1 (((List.range 11).erase j).erase k)) ++ wPd cC hp t.2.1)) := (h1.append_right _).append_left _
  exact h2.trans (pm_1 _ _ _ _)
theorem wX_2u {j k : Nat} (hj : j < 11) (hk : k < 11) (hn : j ≠ k) {v : SR} : List.Perm (wX cI cC cZ cR ho hh hp (tQ t k v)) ((wSt cI (hh j) (t.1 j) ++ wSt cI (hh k) v) ++ wR2 cI cC cZ cR ho hh hp t j k) := by
  have h := wX_2 (cI := cI) (cC := cC) (cZ := cZ) (cR := cR) (ho := ho) (hh := hh) (hp := hp) (t := tQ t k v) hj hk hn
  have e1 : (tQ t k v).1 k = v := up_same _ _ _
  have e3 : (tQ t k v).1 j = t.1 j := up_ne _ _ hn
  have e2 : wR2 cI cC cZ cR ho hh hp (tQ t k v) j k = wR2 cI cC cZ cR ho hh hp t j k := by
    show wTop _ _ _ _ _ _ _ ++ (wS0 cI hh (up t.1 k v) _ ++ _) = wTop _ _ _ _ _ _ _ ++ (wS0 cI hh t.1 _ ++ _)
    rw [wS0_up cI hh t.1 v _ (ra_no2 j k)]
    rfl
  rw [e1, e3, e2] at h
  exact h
theorem wX_P : List.Perm (wX cI cC cZ cR ho hh hp t) (wPd cC hp t.2.1 ++ wRP cI cZ cR ho hh hp t) := by
  unfold wX wRP
  rw [← List.append_assoc]
  exact List.perm_append_comm
theorem wX_Pu {v : SR} : List.Perm (wX cI cC cZ cR ho hh hp (tP t v)) (wPd cC hp v ++ wRP cI cZ cR ho hh hp t) := wX_P (t := tP t v)
variable {G : va_G} {H : Heap} {A : Nat → Prop}
theorem xblk {j : Nat} (hP : va_P G vwCl (wX cI cC cZ cR ho hh hp t) H) (hj : j < 11) : va_P G vwCl (wSt cI (hh j) (t.1 j)) H := (hP.perm (wX_1 hj)).left
theorem va_D.leftD {w1 w2 : va_W} (h : va_D A (w1 ++ w2)) : va_D A w1 := va_D.midc (wl := []) (wc := w1) (wr := w2) h
theorem xblkD {j : Nat} (hD : va_D A (wX cI cC cZ cR ho hh hp t)) (hj : j < 11) : va_D A (wSt cI (hh j) (t.1 j)) := (hD.perm (wX_1 hj)).leftD
theorem xblkP (hP : va_P G vwCl (wX cI cC cZ cR ho hh hp t) H) : va_P G vwCl (wPd cC hp t.2.1) H := (hP.perm wX_P).left
theorem xblkPD (hD : va_D A (wX cI cC cZ cR ho hh hp t)) : va_D A (wPd cC hp t.2.1) := (hD.perm wX_P).leftD
variable {p : Program} {l : Launch} {e : Env} {R : Room} {s : State} {m : MethodId} {args : Array Value} {below : List Frame} {meth : Method} {c : Code} {locs : List Loc} {Q : State → Prop}
variable {cc : ByteArray} {pc : Nat} {ls : Array Slot} {rest st0 : List Value} {tys : List (ClassId × FieldType)}
theorem tx_get (hx : p.tables.exec = Jvm.exec) (hb : c.code = cc) {own : String} {index : Nat} {Ts : List Cond} (hts : ∀ w ∈ Ts, w.before args s = true) (hin : ∀ w ∈ wsX20, w ∈ Ts) (hown : s.vm.findClass own = some m.cls) (hK : va_K G vwCl tys s) (hP : va_P G vwCl (wX cI cC cZ cR ho hh hp t) H) (k : Nat) (hk : k < 8) (hlink : (Cond.fieldLink own index RX2 (TX2 k).2.1 (TX2 k).2.2.1).before args s = true) (hC : (TX2 k).1 = RX2) {v : Value} (hv : (tpF ho hh hp t.2.2.1)[k]? = some v) (hdg : decode cc pc = .ok (.getfield index, 3))
    (kk : W p l e R s m args below meth c H locs 0 0 Q (F0 m (pc + 3) ls (v :: rest))) : W p l e R s m args below meth c H locs 0 0 Q (F0 m pc ls (.ref (ho 0) :: rest)) :=
  va_get (ref := RX2) (C := RX2) (T := TX2) (N := 8) hx hb hts hin hown hK hP 0 (fs := tpF ho hh hp t.2.2.1) rfl rfl k hk hlink (fun z hz => by rw [← hC]; exact hz) hv hdg kk
theorem tx_putU (hx : p.tables.exec = Jvm.exec) (hb : c.code = cc) {own : String} {index : Nat} {Ts : List Cond} (hts : ∀ w ∈ Ts, w.before args s = true) (hin : ∀ w ∈ wsX20, w ∈ Ts) (hown : s.vm.findClass own = some m.cls) (hK : va_K G vwCl tys s) (hP : va_P G vwCl (wX cI cC cZ cR ho hh hp t) H) (hD : va_D A (wX cI cC cZ cR ho hh hp t)) (hS : va_S A s.heap H locs) (hlink : (Cond.fieldLink own index RX2 (TX2 4).2.1 (TX2 4).2.2.1).before args s = true) {v : Int32} (hdg : decode cc pc = .ok (.putfield index, 3))
    (kk : ∀ (H1 : Heap) (locs1 : List Loc), va_P G vwCl (wX cI cC cZ cR ho hh hp (tU t v)) H1 → va_D A (wX cI cC cZ cR ho hh hp (tU t v)) → va_S A s.heap H1 locs1 → W p l e R s m args below meth c H1 locs1 0 0 Q (F0 m (pc + 3) ls rest)) : W p l e R s m args below meth c H locs 0 0 Q (F0 m pc ls (.int v :: .ref (ho 0) :: rest)) :=
  va_put (ref := RX2) (C := RX2) (T := TX2) (N := 8) hx hb hts hin tyX2 tyX2_ok nmX2 hown hK hP hD hS 0 (fs := tpF ho hh hp t.2.2.1) rfl rfl 4 (by decide) hlink (fun z hz => hz) rfl (tyX2_ok 4 (by decide)) rfl rfl (by decide : 4 < 8) hdg (fun H1 locs1 hP1 hD1 hS1 => kk H1 locs1 hP1 hD1 hS1)
theorem tx_aldh (hx : p.tables.exec = Jvm.exec) (hb : c.code = cc) (hK : va_K G vwCl (TY cI cC cZ cR) s) (hP : va_P G vwCl (wX cI cC cZ cR ho hh hp t) H) {i : Int32} (hin : vp_in i 6) (hdg : decode cc pc = .ok (.aaload, 1))
    (kk : W p l e R s m args below meth c H locs 0 0 Q (F0 m (pc + 1) ls (.ref (hh (3 + ix i) 0) :: rest))) : W p l e R s m args below meth c H locs 0 0 Q (F0 m pc ls (.int i :: .ref (ho 1) :: rest)) :=
  va_aldq hx hb hK hP 1 3 (f := fun i => some (hh (3 + i) 0)) rfl rfl hin hdg kk
theorem tx_alds (hx : p.tables.exec = Jvm.exec) (hb : c.code = cc) (hK : va_K G vwCl (TY cI cC cZ cR) s) (hP : va_P G vwCl (wX cI cC cZ cR ho hh hp t) H) {i : Int32} (hin : vp_in i 2) (hdg : decode cc pc = .ok (.aaload, 1))
    (kk : W p l e R s m args below meth c H locs 0 0 Q (F0 m (pc + 1) ls (.ref (hh (9 + ix i) 0) :: rest))) : W p l e R s m args below meth c H locs 0 0 Q (F0 m pc ls (.int i :: .ref (ho 2) :: rest)) :=
  va_aldq hx hb hK hP 2 3 (f := fun i => some (hh (9 + i) 0)) rfl rfl hin hdg kk
theorem tx_zld (hx : p.tables.exec = Jvm.exec) (hb : c.code = cc) (hK : va_K G vwCl (TY cI cC cZ cR) s) (hP : va_P G vwCl (wX cI cC cZ cR ho hh hp t) H) {i : Int32} (hin : vp_in i 2) (hdg : decode cc pc = .ok (.baload, 1))
    (kk : W p l e R s m args below meth c H locs 0 0 Q (F0 m (pc + 1) ls (.int (t.2.2.2 (ix i)) :: rest))) : W p l e R s m args below meth c H locs 0 0 Q (F0 m pc ls (.int i :: .ref (ho 3) :: rest)) :=
  va_zald hx hb hK hP 3 2 (f := t.2.2.2) rfl rfl hin hdg kk
theorem tx_zst (hx : p.tables.exec = Jvm.exec) (hb : c.code = cc) (hK : va_K G vwCl (TY cI cC cZ cR) s) (hP : va_P G vwCl (wX cI cC cZ cR ho hh hp t) H) (hD : va_D A (wX cI cC cZ cR ho hh hp t)) (hS : va_S A s.heap H locs) {i : Int32} (hin : vp_in i 2) (hdg : decode cc pc = .ok (.bastore, 1))
    (kk : ∀ (H1 : Heap) (locs1 : List Loc), va_P G vwCl (wX cI cC cZ cR ho hh hp (tW t i 1)) H1 → va_D A (wX cI cC cZ cR ho hh hp (tW t i 1)) → va_S A s.heap H1 locs1 → W p l e R s m args below meth c H1 locs1 0 0 Q (F0 m (pc + 1) ls rest)) : W p l e R s m args below meth c H locs 0 0 Q (F0 m pc ls (.int 1 :: .int i :: .ref (ho 3) :: rest)) :=
  va_zast hx hb hK hP hD hS 3 2 (f := t.2.2.2) rfl rfl hin hdg (fun H1 locs1 hP1 hD1 hS1 => kk H1 locs1 hP1 hD1 hS1)
theorem tx_recv (hK : va_K G vwCl tys s) (hP : va_P G vwCl (wX cI cC cZ cR ho hh hp t) H) : ∃ cell : Cell, H[ho 0]? = some cell ∧ cell.vm.isStatics = false ∧ s.vm.findClass RX2 = some cell.cls := va_recv hK hP (q := (RX2, TX2, 8)) (ci := 2) rfl (q0 := 0) (fs := tpF ho hh hp t.2.2.1) rfl
end XW
-- ends whose addresses may have changed places
def QxA (G : va_G) (A : Nat → Prop) (f : Int32) (w : (Nat → Ad) → va_W) : Array Value → State → Outcome → State → Prop := va_Qi (fun r (_ : Nat → Ad) => r = f) (fun hh t => va_P G vwCl (w hh) t.heap ∧ va_D A (w hh)) A
def Qx (G : va_G) (ws : va_W) (f : Int32) (w : (Nat → Ad) → va_W) : Ends := fun sz => QxA G (va_A ws sz) f w
theorem Ct.ofX {l : Launch} {y : MethodName} {words ws0 : List Cond} {rm : Room} {G : va_G} {tys : List (ClassId × FieldType)} {args : List Value} {ws : va_W} {w : (Nat → Ad) → va_W} {f : Int32} {cc : ByteArray} {maxL : Nat} {ret : Option FieldType} (hy : plainName y.cls = true) (hw : words = Cond.code y cc maxL ret :: ws0) (hlen : Nat.ble (lg_sl args).length maxL = true)
    (body : ∀ (p : Program) (e : Env) (s : State) (m : MethodId) (below : List Frame) (meth : Method) (c : Code) (A : Nat → Prop) (ls : Array Slot), En p s m meth c cc maxL ret words y.cls G tys args.toArray A → va_P G vwCl ws s.heap → va_D A ws → va_S A s.heap s.heap [] → lv_has ls maxL (lv_args 0 args) →
      W p l e rm s m args.toArray below meth c s.heap [] 0 0 (MQ below (QxA G A f w) args.toArray s 0 0 A) (F0 m 0 ls [])) : Ct l y words rm G tys args ws (Qx G ws f w) := by
  intro sz
  refine Met.ofW (cc := cc) (maxL := maxL) (ret := ret) hy hw ?_
  intro p e s m args' below meth c s₁ B hml hv
  obtain ⟨rfl, hsz, hP, hK, hD0, hN⟩ := hv
  subst hsz
  have hD := hD0.self (sz := s.heap.size)
  show W p l e rm s m args.toArray below meth c s.heap [] 0 0 (MQ below (QxA G (va_A ws s.heap.size) f w) args.toArray s 0 0 (va_A ws s.heap.size)) _
  generalize hAe : va_A ws s.heap.size = A at hD ⊢
  have hA : ∀ q : Nat, s.heap.size ≤ q → A q := fun q h => by rw [← hAe]; exact Or.inr h
  have hl := lv_entry args (n := maxL) (Nat.le_of_ble_eq_true hlen)
  rw [lg_entry_eq]
  generalize (lg_sl args ++ List.replicate (maxL - (lg_sl args).length) Slot.unset).toArray = ls at hl ⊢
  exact body p e s m below meth c A ls ⟨B.exec, B.bytes, B.returns, hml, B.notSynchronized, atoms_spec (ws := words) B.pre, findClass_of_methodNamed B.named, hK, hN, hA⟩ hP hD va_S.rf hl
section XE
variable {p : Program} {l : Launch} {e : Env} {R : Room} {s : State} {m : MethodId} {args : Array Value} {below : List Frame} {meth : Method} {c : Code} {H : Heap} {locs : List Loc} {Q : State → Prop}
variable {cc : ByteArray} {pc : Nat} {ls : Array Slot} {rest st0 : List Value} {G : va_G} {A : Nat → Prop} {ws : va_W} {a : Array Value} {f v : Int32} {T : Type} {w0 : (Nat → Ad) → va_W}
theorem rt_x {res : Int32 × T} {X : T} {rt : FieldType} (w : T → (Nat → Ad) → va_W) (hh : Nat → Ad) (hx : p.tables.exec = Jvm.exec) (hb : c.code = cc) (hr : meth.sig.returnType = some rt) (hlocks : meth.locks = false) (hP : va_P G vwCl (w X hh) H) (hD : va_D A (w X hh)) (hS : va_S A s.heap H locs) (hn : narrow rt (.int v) = .int v) (e9 : res = (v, X)) (hdg : decode cc pc = .ok (.ireturn, 1)) :
    W p l e R s m args below meth c H locs 0 0 (MQ below (QxA G A res.1 (w res.2)) args s 0 0 A) (F0 m pc ls [.int v]) := by
  subst e9
  exact W.zret hx hb hr hn (fun t ht _ => ⟨⟨v, hh, rfl, rfl, by rw [ht]; exact hP, hD⟩, hS.F ht⟩) hS.2.2 hdg hlocks
theorem rt_xb {res : Int32 × T} {X : T} {rt : FieldType} (w : T → (Nat → Ad) → va_W) (hh : Nat → Ad) (hx : p.tables.exec = Jvm.exec) (hb : c.code = cc) (hr : meth.sig.returnType = some rt) (hlocks : meth.locks = false) (hP : va_P G vwCl (w X hh) H) (hD : va_D A (w X hh)) (hS : va_S A s.heap H locs) (hn : narrow rt (.int v) = .int v) (e9 : res = (v, X)) (hdg : decode cc pc = .ok (.ireturn, 1)) :
    W p l e R s m args below meth c H locs 0 0 (MQ below (QiA G A res.1 (w res.2 hh)) args s 0 0 A) (F0 m pc ls [.int v]) := by
  subst e9
  exact rt_i hx hb hr hlocks hP hD hS hn rfl hdg
theorem rt_xv {res X : T} (w : T → va_W) (hx : p.tables.exec = Jvm.exec) (hb : c.code = cc) (hr : meth.sig.returnType = none) (hlocks : meth.locks = false) (hP : va_P G vwCl (w X) H) (hD : va_D A (w X)) (hS : va_S A s.heap H locs) (e9 : res = X) (hdg : decode cc pc = .ok (.return_, 1)) :
    W p l e R s m args below meth c H locs 0 0 (MQ below (QvA G A (w res)) args s 0 0 A) (F0 m pc ls []) := by
  subst e9
  exact rt_v hx hb hr hlocks hP hD hS hdg
theorem go_x (hD : va_D A ws) (hS : va_S A s.heap H locs) (hA : ∀ q : Nat, s.heap.size ≤ q → A q) (hr : va_Run p l e R s m args below meth c H locs 0 0 0 0 (F0 m pc ls st0) rest (Qx G ws f w0 H.size a) (va_A ws H.size))
    (kk : ∀ (hh : Nat → Ad) (H1 : Heap) (locs1 : List Loc), va_P G vwCl (w0 hh) H1 → va_D A (w0 hh) → va_S A s.heap H1 locs1 → W p l e R s m args below meth c H1 locs1 0 0 Q (F0 m (pc + 3) ls (.int f :: rest))) : W p l e R s m args below meth c H locs 0 0 Q (F0 m pc ls st0) := by
  have hF := fr_in hD hS hA
  refine va_calli (a := a) hr hS (fun q _ hq => hF q hq) hF (fun r u t H1 locs1 ht _ hw hB _ _ hS1 => ?_)
  obtain ⟨hP1, hD1⟩ := hB
  rw [ht] at hP1
  subst hw
  exact kk u H1 locs1 hP1 (hD1.weaken (fun k q _ hq => hF q.1 hq)) hS1
end XE
