-- dropOldest: the history's streets change places
def sg (k : Nat) : Nat := if k = 8 then 3 else if 3 ≤ k ∧ k < 8 then k + 1 else k
def rotA (hh : Nat → Ad) : Nat → Ad := fun k => hh (sg k)
def tD (t : TV) : TV := ((fun k => t.1 (sg k)), t.2.1, 5, t.2.2.2)
def pX2_dropOldest (t : TV) : TV := tD t
def wXf (cI cC cZ cR : ClassId) (ho : Nat → Nat) (hh : Nat → Ad) (hp : Ad) (t : TV) (f : Nat → Option Nat) : va_W :=
  (ho 0, .inr (2, tpF ho hh hp t.2.2.1)) :: (ho 1, .inl (cR, 6, .inr (.inr (.inr (.inr f))))) :: (ho 2, .inl (cR, 2, .inr (.inr (.inr (.inr (fun i => some (hh (9 + i) 0))))))) :: (ho 3, .inl (cZ, 2, .inl t.2.2.2)) :: (wS0 cI hh t.1 (List.range 11) ++ wPd cC hp t.2.1)
def h0 (hh : Nat → Ad) : Nat → Option Nat := fun i => some (hh (3 + i) 0)
theorem sg_hi {k : Nat} (h : 9 ≤ k) : sg k = k := by
  unfold sg
  rw [if_neg (show ¬ k = 8 by omega), if_neg (show ¬ (3 ≤ k ∧ k < 8) by omega)]
theorem wS0_sg (cI : ClassId) (hh : Nat → Ad) (Q : Nat → SR) : ∀ l : List Nat, wS0 cI (rotA hh) (fun k => Q (sg k)) l = wS0 cI hh Q (l.map sg)
  | [] => rfl
  | a :: l => by
    show wSt cI (hh (sg a)) (Q (sg a)) ++ wS0 cI (rotA hh) (fun k => Q (sg k)) l = wSt cI (hh (sg a)) (Q (sg a)) ++ wS0 cI hh Q (l.map sg)
    rw [wS0_sg cI hh Q l]
theorem sg_perm : List.Perm ((List.range 11).map sg) (List.range 11) := by decide
theorem rot_f (hh : Nat → Ad) : va_up (va_up (va_up (va_up (va_up (va_up (h0 hh) (ix 0) (some (hh 4 0))) (ix 1) (some (hh 5 0))) (ix 2) (some (hh 6 0))) (ix 3) (some (hh 7 0))) (ix 4) (some (hh 8 0))) (ix 5) (some (hh 3 0)) = fun i => some (rotA hh (3 + i) 0) := by
  funext i
  match i with
  | 0 => rfl
  | 1 => rfl
  | 2 => rfl
  | 3 => rfl
  | 4 => rfl
  | 5 => rfl
  | n + 6 =>
    have e : sg (3 + (n + 6)) = 3 + (n + 6) := sg_hi (by omega)
    show _ = some (hh (sg (3 + (n + 6))) 0)
    rw [e]
    have hne : ∀ (f : Nat → Option Nat) (k : Nat) (z : Option Nat), k < 6 → va_up f k z (n + 6) = f (n + 6) := fun f k z hk => va_up_ne f z (by omega)
    rw [hne _ _ _ (by decide), hne _ _ _ (by decide), hne _ _ _ (by decide), hne _ _ _ (by decide), hne _ _ _ (by decide), hne _ _ _ (by decide)]
    rfl
section XD
variable {cI cC cZ cR : ClassId} {ho : Nat → Nat} {hh : Nat → Ad} {hp : Ad} {t : TV} {f : Nat → Option Nat}
theorem rot_perm : List.Perm (wXf cI cC cZ cR ho hh hp (tU t 5) (fun i => some (rotA hh (3 + i) 0))) (wX cI cC cZ cR ho (rotA hh) hp (pX2_dropOldest t)) := by
  have e1 : (fun i : Nat => some (hh (9 + i) 0)) = fun i => some (rotA hh (9 + i) 0) := by
    funext i
    show _ = some (hh (sg (9 + i)) 0)
    rw [sg_hi (by omega)]
  have e2 : List.Perm (wS0 cI hh t.1 (List.range 11)) (wS0 cI (rotA hh) (fun k => t.1 (sg k)) (List.range 11)) := by
    rw [wS0_sg]
    exact wS0_perm cI hh t.1 sg_perm.symm
  show List.Perm ([(ho 0, .inr (2, tpF ho hh hp 5)), (ho 1, .inl (cR, 6, .inr (.inr (.inr (.inr (fun i => some (rotA hh (3 + i) 0))))))), (ho 2, .inl (cR, 2, .inr (.inr (.inr (.inr (fun i => some (hh (9 + i) 0))))))), (ho 3, .inl (cZ, 2, .inl t.2.2.2))] ++ (wS0 cI hh t.1 (List.range 11) ++ wPd cC hp t.2.1)) (wTop cZ cR ho (rotA hh) hp 5 t.2.2.2 ++ (wS0 cI (rotA hh) (fun k => t.1 (sg k)) (List.range 11) ++ wPd cC hp t.2.1))
  rw [e1]
  exact (e2.append_right _).append_left _
variable {G : va_G} {H : Heap} {A : Nat → Prop}
variable {p : Program} {l : Launch} {e : Env} {R : Room} {s : State} {m : MethodId} {args : Array Value} {below : List Frame} {meth : Method} {c : Code} {locs : List Loc} {Q : State → Prop}
variable {cc : ByteArray} {pc : Nat} {ls : Array Slot} {rest st0 : List Value} {tys : List (ClassId × FieldType)}
theorem tf_get (hx : p.tables.exec = Jvm.exec) (hb : c.code = cc) {own : String} {index : Nat} {Ts : List Cond} (hts : ∀ w ∈ Ts, w.before args s = true) (hin : ∀ w ∈ wsX20, w ∈ Ts) (hown : s.vm.findClass own = some m.cls) (hK : va_K G vwCl tys s) (hP : va_P G vwCl (wXf cI cC cZ cR ho hh hp t f) H) (hlink : (Cond.fieldLink own index RX2 (TX2 3).2.1 (TX2 3).2.2.1).before args s = true) (hdg : decode cc pc = .ok (.getfield index, 3))
    (kk : W p l e R s m args below meth c H locs 0 0 Q (F0 m (pc + 3) ls (.ref (ho 1) :: rest))) : W p l e R s m args below meth c H locs 0 0 Q (F0 m pc ls (.ref (ho 0) :: rest)) :=
  va_get (ref := RX2) (C := RX2) (T := TX2) (N := 8) hx hb hts hin hown hK hP 0 (fs := tpF ho hh hp t.2.2.1) rfl rfl 3 (by decide) hlink (fun z hz => hz) rfl hdg kk
theorem tf_put (hx : p.tables.exec = Jvm.exec) (hb : c.code = cc) {own : String} {index : Nat} {Ts : List Cond} (hts : ∀ w ∈ Ts, w.before args s = true) (hin : ∀ w ∈ wsX20, w ∈ Ts) (hown : s.vm.findClass own = some m.cls) (hK : va_K G vwCl tys s) (hP : va_P G vwCl (wXf cI cC cZ cR ho hh hp t f) H) (hD : va_D A (wXf cI cC cZ cR ho hh hp t f)) (hS : va_S A s.heap H locs) (hlink : (Cond.fieldLink own index RX2 (TX2 4).2.1 (TX2 4).2.2.1).before args s = true) {v : Int32} (hdg : decode cc pc = .ok (.putfield index, 3))
    (kk : ∀ (H1 : Heap) (locs1 : List Loc), va_P G vwCl (wXf cI cC cZ cR ho hh hp (tU t v) f) H1 → va_D A (wXf cI cC cZ cR ho hh hp (tU t v) f) → va_S A s.heap H1 locs1 → W p l e R s m args below meth c H1 locs1 0 0 Q (F0 m (pc + 3) ls rest)) : W p l e R s m args below meth c H locs 0 0 Q (F0 m pc ls (.int v :: .ref (ho 0) :: rest)) :=
  va_put (ref := RX2) (C := RX2) (T := TX2) (N := 8) hx hb hts hin tyX2 tyX2_ok nmX2 hown hK hP hD hS 0 (fs := tpF ho hh hp t.2.2.1) rfl rfl 4 (by decide) hlink (fun z hz => hz) rfl (tyX2_ok 4 (by decide)) rfl rfl (by decide : 4 < 8) hdg (fun H1 locs1 hP1 hD1 hS1 => kk H1 locs1 hP1 hD1 hS1)
theorem tf_ald (hx : p.tables.exec = Jvm.exec) (hb : c.code = cc) (hK : va_K G vwCl (TY cI cC cZ cR) s) (hP : va_P G vwCl (wXf cI cC cZ cR ho hh hp t f) H) {i : Int32} {b : Nat} (hin : vp_in i 6) (hv : f (ix i) = some b) (hdg : decode cc pc = .ok (.aaload, 1))
    (kk : W p l e R s m args below meth c H locs 0 0 Q (F0 m (pc + 1) ls (.ref b :: rest))) : W p l e R s m args below meth c H locs 0 0 Q (F0 m pc ls (.int i :: .ref (ho 1) :: rest)) := by
  refine va_aldq hx hb hK hP 1 3 (f := f) rfl rfl hin hdg ?_
  rw [show va_rf (f i.toNatClampNeg) = .ref b by rw [show f i.toNatClampNeg = some b from hv]; rfl]
  exact kk
theorem tf_ast (hx : p.tables.exec = Jvm.exec) (hb : c.code = cc) (hK : va_K G vwCl (TY cI cC cZ cR) s) (hP : va_P G vwCl (wXf cI cC cZ cR ho hh hp t f) H) (hD : va_D A (wXf cI cC cZ cR ho hh hp t f)) (hS : va_S A s.heap H locs) {i : Int32} (j : Nat) (hj : j < 11) (hin : vp_in i 6) (hdg : decode cc pc = .ok (.aastore, 1))
    (kk : ∀ (H1 : Heap) (locs1 : List Loc), va_P G vwCl (wXf cI cC cZ cR ho hh hp t (va_up f (ix i) (some (hh j 0)))) H1 → va_D A (wXf cI cC cZ cR ho hh hp t (va_up f (ix i) (some (hh j 0)))) → va_S A s.heap H1 locs1 → W p l e R s m args below meth c H1 locs1 0 0 Q (F0 m (pc + 1) ls rest)) : W p l e R s m args below meth c H locs 0 0 Q (F0 m pc ls (.ref (hh j 0) :: .int i :: .ref (ho 1) :: rest)) := by
  have hm : (hh j 0, (Sum.inr (1, fvSt.map (mF (hh j) (t.1 j).1)) : va_E)) ∈ wXf cI cC cZ cR ho hh hp t f := by
    refine List.mem_cons_of_mem _ (List.mem_cons_of_mem _ (List.mem_cons_of_mem _ (List.mem_cons_of_mem _ (List.mem_append_left _ ?_))))
    exact List.mem_flatMap.mpr ⟨j, ra_in hj, List.mem_cons_self⟩
  obtain ⟨qk, hqk⟩ := List.getElem?_of_mem hm
  exact va_astq hx hb hK hP hD hS 1 3 qk 1 (r := (RX1, TX1, 18)) (f := f) rfl rfl hqk rfl hin hdg (fun H1 locs1 hP1 hD1 hS1 => kk H1 locs1 hP1 hD1 hS1)
end XD
set_option maxHeartbeats 1000000 in
set_option maxRecDepth 100000 in
theorem ctX2_dropOldest (l : Launch) (G : va_G) (cI cC cZ cR : ClassId) (ho : Nat → Nat) (hh : Nat → Ad) (hp : Ad) (x : TV) : Ct l yX2_dropOldest wsX2_dropOldest (rmz 0 0) G (TY cI cC cZ cR) [.ref (ho 0)] (wX cI cC cZ cR ho hh hp x) (Qv G (wX cI cC cZ cR ho hh hp x) (wX cI cC cZ cR ho (rotA hh) hp (pX2_dropOldest x))) := by
  refine Ct.ofV (cc := cX2_dropOldest) (maxL := 3) (ret := none) (by decide) rfl rfl ?_
  intro p e s m below meth c A ls E0 hP hD hS hl
  obtain ⟨hx, hb, hr, hml, hlocks, hts, hown, hK, hN, hA⟩ := E0
  have hl : lv_has ls 3 [(0, .ref (ho 0))] := hl
  have hin : ∀ w ∈ wsX20, w ∈ wsX2_dropOldest := fun w hw => List.mem_cons_of_mem _ (List.mem_append_right _ (hw))
  have k_h : (Cond.fieldLink RX2 22 RX2 (TX2 3).2.1 (TX2 3).2.2.1).before ([.ref (ho 0)] : List Value).toArray s = true := hts _ (List.mem_of_getElem? (i := 1) rfl)
  have k_u : (Cond.fieldLink RX2 26 RX2 (TX2 4).2.1 (TX2 4).2.2.1).before ([.ref (ho 0)] : List Value).toArray s = true := hts _ (List.mem_of_getElem? (i := 2) rfl)
  have hP : va_P G vwCl (wXf cI cC cZ cR ho hh hp x (h0 hh)) s.heap := hP
  have hD : va_D A (wXf cI cC cZ cR ho hh hp x (h0 hh)) := hD
  refine lv_aload_n hx hb dX2_dropOldest_0 rfl (lv_at hl 0 rfl) ?_
  refine tf_get hx hb hts hin hown hK hP k_h dX2_dropOldest_1 ?_
  refine lv_iconst (v := 0) hx hb dX2_dropOldest_4 (by decide) ?_
  refine tf_ald (b := hh 3 0) hx hb hK hP (vp_in_iff.mpr ⟨by decide, by decide⟩) rfl dX2_dropOldest_5 ?_
  refine lv_astore_n (lv' := [(1, .ref (hh 3 0)), (0, .ref (ho 0))]) hx hb dX2_dropOldest_6 rfl hl (by decide) rfl (fun ls hl => ?_)
  refine lv_iconst (v := 1) hx hb dX2_dropOldest_7 (by decide) ?_
  refine lv_istore_n (lv' := [(2, .int 1), (1, .ref (hh 3 0)), (0, .ref (ho 0))]) hx hb dX2_dropOldest_8 rfl hl (by decide) rfl (fun ls hl => ?_)
  refine lv_iload_n hx hb dX2_dropOldest_9 rfl (lv_at hl 0 rfl) ?_
  refine lv_bipush (v := 6) hx hb dX2_dropOldest_10 (by decide) ?_
  refine lv_icmp_ge (tgt := 35) hx hb dX2_dropOldest_12 (by decide) (fun cz => absurd cz (by decide)) (fun cz => ?_)
  refine lv_aload_n hx hb dX2_dropOldest_15 rfl (lv_at hl 2 rfl) ?_
  refine tf_get hx hb hts hin hown hK hP k_h dX2_dropOldest_16 ?_
  refine lv_iload_n hx hb dX2_dropOldest_19 rfl (lv_at hl 0 rfl) ?_
  refine lv_iconst (v := 1) hx hb dX2_dropOldest_20 (by decide) ?_
  refine lv_isub hx hb dX2_dropOldest_21 ?_
  refine W.eq (g2 := F0 m 22 ls [.int 0, .ref (ho 1)]) rfl ?_
  refine lv_aload_n hx hb dX2_dropOldest_22 rfl (lv_at hl 2 rfl) ?_
  refine tf_get hx hb hts hin hown hK hP k_h dX2_dropOldest_23 ?_
  refine lv_iload_n hx hb dX2_dropOldest_26 rfl (lv_at hl 0 rfl) ?_
  refine tf_ald (b := hh 4 0) hx hb hK hP (vp_in_iff.mpr ⟨by decide, by decide⟩) rfl dX2_dropOldest_27 ?_
  refine tf_ast hx hb hK hP hD hS 4 (by decide) (vp_in_iff.mpr ⟨by decide, by decide⟩) dX2_dropOldest_28 (fun H locs hP hD hS => ?_)
  refine lv_iinc (v := 2) (lv' := [(2, .int 2), (1, .ref (hh 3 0)), (0, .ref (ho 0))]) hx hb dX2_dropOldest_29 hl (k := 0) rfl (by decide) (by decide) rfl (fun ls hl => ?_)
  refine lv_goto (tgt := 9) hx hb dX2_dropOldest_32 (by decide) ?_
  refine lv_iload_n hx hb dX2_dropOldest_9 rfl (lv_at hl 0 rfl) ?_
  refine lv_bipush (v := 6) hx hb dX2_dropOldest_10 (by decide) ?_
  refine lv_icmp_ge (tgt := 35) hx hb dX2_dropOldest_12 (by decide) (fun cz => absurd cz (by decide)) (fun cz => ?_)
  refine lv_aload_n hx hb dX2_dropOldest_15 rfl (lv_at hl 2 rfl) ?_
  refine tf_get hx hb hts hin hown hK hP k_h dX2_dropOldest_16 ?_
  refine lv_iload_n hx hb dX2_dropOldest_19 rfl (lv_at hl 0 rfl) ?_
  refine lv_iconst (v := 1) hx hb dX2_dropOldest_20 (by decide) ?_
  refine lv_isub hx hb dX2_dropOldest_21 ?_
  refine W.eq (g2 := F0 m 22 ls [.int 1, .ref (ho 1)]) rfl ?_
  refine lv_aload_n hx hb dX2_dropOldest_22 rfl (lv_at hl 2 rfl) ?_
  refine tf_get hx hb hts hin hown hK hP k_h dX2_dropOldest_23 ?_
  refine lv_iload_n hx hb dX2_dropOldest_26 rfl (lv_at hl 0 rfl) ?_
  refine tf_ald (b := hh 5 0) hx hb hK hP (vp_in_iff.mpr ⟨by decide, by decide⟩) rfl dX2_dropOldest_27 ?_
  refine tf_ast hx hb hK hP hD hS 5 (by decide) (vp_in_iff.mpr ⟨by decide, by decide⟩) dX2_dropOldest_28 (fun H locs hP hD hS => ?_)
  refine lv_iinc (v := 3) (lv' := [(2, .int 3), (1, .ref (hh 3 0)), (0, .ref (ho 0))]) hx hb dX2_dropOldest_29 hl (k := 0) rfl (by decide) (by decide) rfl (fun ls hl => ?_)
  refine lv_goto (tgt := 9) hx hb dX2_dropOldest_32 (by decide) ?_
  refine lv_iload_n hx hb dX2_dropOldest_9 rfl (lv_at hl 0 rfl) ?_
  refine lv_bipush (v := 6) hx hb dX2_dropOldest_10 (by decide) ?_
  refine lv_icmp_ge (tgt := 35) hx hb dX2_dropOldest_12 (by decide) (fun cz => absurd cz (by decide)) (fun cz => ?_)
  refine lv_aload_n hx hb dX2_dropOldest_15 rfl (lv_at hl 2 rfl) ?_
  refine tf_get hx hb hts hin hown hK hP k_h dX2_dropOldest_16 ?_
  refine lv_iload_n hx hb dX2_dropOldest_19 rfl (lv_at hl 0 rfl) ?_
  refine lv_iconst (v := 1) hx hb dX2_dropOldest_20 (by decide) ?_
  refine lv_isub hx hb dX2_dropOldest_21 ?_
  refine W.eq (g2 := F0 m 22 ls [.int 2, .ref (ho 1)]) rfl ?_
  refine lv_aload_n hx hb dX2_dropOldest_22 rfl (lv_at hl 2 rfl) ?_
  refine tf_get hx hb hts hin hown hK hP k_h dX2_dropOldest_23 ?_
  refine lv_iload_n hx hb dX2_dropOldest_26 rfl (lv_at hl 0 rfl) ?_
  refine tf_ald (b := hh 6 0) hx hb hK hP (vp_in_iff.mpr ⟨by decide, by decide⟩) rfl dX2_dropOldest_27 ?_
  refine tf_ast hx hb hK hP hD hS 6 (by decide) (vp_in_iff.mpr ⟨by decide, by decide⟩) dX2_dropOldest_28 (fun H locs hP hD hS => ?_)
  refine lv_iinc (v := 4) (lv' := [(2, .int 4), (1, .ref (hh 3 0)), (0, .ref (ho 0))]) hx hb dX2_dropOldest_29 hl (k := 0) rfl (by decide) (by decide) rfl (fun ls hl => ?_)
  refine lv_goto (tgt := 9) hx hb dX2_dropOldest_32 (by decide) ?_
  refine lv_iload_n hx hb dX2_dropOldest_9 rfl (lv_at hl 0 rfl) ?_
  refine lv_bipush (v := 6) hx hb dX2_dropOldest_10 (by decide) ?_
  refine lv_icmp_ge (tgt := 35) hx hb dX2_dropOldest_12 (by decide) (fun cz => absurd cz (by decide)) (fun cz => ?_)
  refine lv_aload_n hx hb dX2_dropOldest_15 rfl (lv_at hl 2 rfl) ?_
  refine tf_get hx hb hts hin hown hK hP k_h dX2_dropOldest_16 ?_
  refine lv_iload_n hx hb dX2_dropOldest_19 rfl (lv_at hl 0 rfl) ?_
  refine lv_iconst (v := 1) hx hb dX2_dropOldest_20 (by decide) ?_
  refine lv_isub hx hb dX2_dropOldest_21 ?_
  refine W.eq (g2 := F0 m 22 ls [.int 3, .ref (ho 1)]) rfl ?_
  refine lv_aload_n hx hb dX2_dropOldest_22 rfl (lv_at hl 2 rfl) ?_
  refine tf_get hx hb hts hin hown hK hP k_h dX2_dropOldest_23 ?_
  refine lv_iload_n hx hb dX2_dropOldest_26 rfl (lv_at hl 0 rfl) ?_
  refine tf_ald (b := hh 7 0) hx hb hK hP (vp_in_iff.mpr ⟨by decide, by decide⟩) rfl dX2_dropOldest_27 ?_
  refine tf_ast hx hb hK hP hD hS 7 (by decide) (vp_in_iff.mpr ⟨by decide, by decide⟩) dX2_dropOldest_28 (fun H locs hP hD hS => ?_)
  refine lv_iinc (v := 5) (lv' := [(2, .int 5), (1, .ref (hh 3 0)), (0, .ref (ho 0))]) hx hb dX2_dropOldest_29 hl (k := 0) rfl (by decide) (by decide) rfl (fun ls hl => ?_)
  refine lv_goto (tgt := 9) hx hb dX2_dropOldest_32 (by decide) ?_
  refine lv_iload_n hx hb dX2_dropOldest_9 rfl (lv_at hl 0 rfl) ?_
  refine lv_bipush (v := 6) hx hb dX2_dropOldest_10 (by decide) ?_
  refine lv_icmp_ge (tgt := 35) hx hb dX2_dropOldest_12 (by decide) (fun cz => absurd cz (by decide)) (fun cz => ?_)
  refine lv_aload_n hx hb dX2_dropOldest_15 rfl (lv_at hl 2 rfl) ?_
  refine tf_get hx hb hts hin hown hK hP k_h dX2_dropOldest_16 ?_
  refine lv_iload_n hx hb dX2_dropOldest_19 rfl (lv_at hl 0 rfl) ?_
  refine lv_iconst (v := 1) hx hb dX2_dropOldest_20 (by decide) ?_
  refine lv_isub hx hb dX2_dropOldest_21 ?_
  refine W.eq (g2 := F0 m 22 ls [.int 4, .ref (ho 1)]) rfl ?_
  refine lv_aload_n hx hb dX2_dropOldest_22 rfl (lv_at hl 2 rfl) ?_
  refine tf_get hx hb hts hin hown hK hP k_h dX2_dropOldest_23 ?_
  refine lv_iload_n hx hb dX2_dropOldest_26 rfl (lv_at hl 0 rfl) ?_
  refine tf_ald (b := hh 8 0) hx hb hK hP (vp_in_iff.mpr ⟨by decide, by decide⟩) rfl dX2_dropOldest_27 ?_
  refine tf_ast hx hb hK hP hD hS 8 (by decide) (vp_in_iff.mpr ⟨by decide, by decide⟩) dX2_dropOldest_28 (fun H locs hP hD hS => ?_)
  refine lv_iinc (v := 6) (lv' := [(2, .int 6), (1, .ref (hh 3 0)), (0, .ref (ho 0))]) hx hb dX2_dropOldest_29 hl (k := 0) rfl (by decide) (by decide) rfl (fun ls hl => ?_)
  refine lv_goto (tgt := 9) hx hb dX2_dropOldest_32 (by decide) ?_
  refine lv_iload_n hx hb dX2_dropOldest_9 rfl (lv_at hl 0 rfl) ?_
  refine lv_bipush (v := 6) hx hb dX2_dropOldest_10 (by decide) ?_
  refine lv_icmp_ge (tgt := 35) hx hb dX2_dropOldest_12 (by decide) (fun cz => ?_) (fun cz => absurd cz (by decide))
  refine lv_aload_n hx hb dX2_dropOldest_35 rfl (lv_at hl 2 rfl) ?_
  refine tf_get hx hb hts hin hown hK hP k_h dX2_dropOldest_36 ?_
  refine lv_iconst (v := 5) hx hb dX2_dropOldest_39 (by decide) ?_
  refine lv_aload_n hx hb dX2_dropOldest_40 rfl (lv_at hl 1 rfl) ?_
  refine tf_ast hx hb hK hP hD hS 3 (by decide) (vp_in_iff.mpr ⟨by decide, by decide⟩) dX2_dropOldest_41 (fun H locs hP hD hS => ?_)
  refine lv_aload_n hx hb dX2_dropOldest_42 rfl (lv_at hl 2 rfl) ?_
  refine lv_iconst (v := 5) hx hb dX2_dropOldest_43 (by decide) ?_
  refine tf_put hx hb hts hin hown hK hP hD hS k_u dX2_dropOldest_44 (fun H locs hP hD hS => ?_)
  rw [rot_f hh] at hP hD
  exact rt_v hx hb hr hlocks (hP.perm rot_perm) (hD.perm rot_perm) hS dX2_dropOldest_47
