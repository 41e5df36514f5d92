theorem nI_mulN (a b : Nat) : nI a * nI b = nI (a * b) := by
  apply Int32.toBitVec_inj.mp
  apply BitVec.eq_of_toNat_eq
  show (BitVec.ofNat 32 a * BitVec.ofNat 32 b).toNat = (BitVec.ofNat 32 (a * b)).toNat
  simp [BitVec.toNat_mul, Nat.mul_mod]
theorem ix_nI {n : Nat} (h : n < 2147483648) : ix (nI n) = n := nI_clamp h
theorem pp_nI (j k : Nat) : ((12 : Int32) + (6 * nI j)) + nI k = nI (12 + 6 * j + k) := by
  show (nI 12 + nI 6 * nI j) + nI k = _
  rw [nI_mulN, nI_add, nI_add]
theorem kp_nI (j k : Nat) : ((84 : Int32) + (5 * nI j)) + nI k = nI (84 + 5 * j + k) := by
  show (nI 84 + nI 5 * nI j) + nI k = _
  rw [nI_mulN, nI_add, nI_add]
theorem pp_in {p k : Int32} (hp : vp_in p 12) (hk : vp_in k 6) : vp_in (((12 : Int32) + (6 * p)) + k) 109 := by
  obtain ⟨j, hj, rfl⟩ := vp_in_of hp (by decide)
  obtain ⟨i, hi, rfl⟩ := vp_in_of hk (by decide)
  rw [pp_nI]
  exact vp_in_nI (by omega) (by decide)
theorem kp_in {p k : Int32} (hp : vp_in p 5) (hk : vp_in k 5) : vp_in (((84 : Int32) + (5 * p)) + k) 109 := by
  obtain ⟨j, hj, rfl⟩ := vp_in_of hp (by decide)
  obtain ⟨i, hi, rfl⟩ := vp_in_of hk (by decide)
  rw [kp_nI]
  exact vp_in_nI (by omega) (by decide)
theorem add_in {f v : Int32} {n : Nat} (h1 : 0 ≤ Int32.toInt f) (h2 : Int32.toInt f + 109 ≤ (n : Int)) (hn : n < 1000) (h3 : 0 ≤ Int32.toInt v) (h4 : Int32.toInt v < 109) : vp_in (f + v) n := by
  have e : (f + v).toInt = f.toInt + v.toInt := by
    rw [Int32.toInt_add, Int.bmod_eq_of_le] <;> omega
  exact vp_in_iff.mpr ⟨by omega, by omega⟩
def pX3_moves_L3 (k1 : Nat) (a2 : Int32) (k3 : Nat) (a4 : Int32) : Nat → Int32 → SR → SR
  | 0, v4, x => x
  | n + 1, v4, x => if 109 ≤ v4 then x
    else pX3_moves_L3 k1 a2 k3 a4 n (v4 + 1) (pR x k3 (a4 + v4) (x.2 k1 (ix (a2 + v4))))
def pX3_moves (k1 : Nat) (a2 : Int32) (k3 : Nat) (a4 : Int32) (x : SR) : SR := pX3_moves_L3 k1 a2 k3 a4 110 0 x
set_option maxHeartbeats 4000000 in
set_option maxRecDepth 100000 in
theorem ctX3_moves (l : Launch) (G : va_G) (cI cC cZ cR : ClassId) (h : Ad) (x : SR) (k1 : Nat) (a2 : Int32) (k3 : Nat) (a4 : Int32) (n_k1 : Nat) (n_k3 : Nat) (q_0 : (alMo cI)[k1]? = some (cI, n_k1)) (q_1 : (alMo cI)[k3]? = some (cI, n_k3)) (q_2 : 0 ≤ Int32.toInt a2) (q_3 : Int32.toInt a2 + 109 ≤ (n_k1 : Int)) (q_4 : 0 ≤ Int32.toInt a4) (q_5 : Int32.toInt a4 + 109 ≤ (n_k3 : Int)) (q_6 : n_k1 < 1000) (q_7 : n_k3 < 1000) : Ct l yX3_moves wsX3_moves (rmz 0 0) G (TY cI cC cZ cR) [.ref (h (k1 + 1)), .int a2, .ref (h (k3 + 1)), .int a4] (wMo cI h x) (Qv G (wMo cI h x) (wMo cI h (pX3_moves k1 a2 k3 a4 x))) := by
  refine Ct.ofV (cc := cX3_moves) (maxL := 5) (ret := none) (by decide) rfl rfl ?_
  intro p e s m below meth c A ls E0 hP hD hS hl
  obtain ⟨hx, hb, hr, hml, hlocks, hts, hown, hK, hN, hA⟩ := E0
  have hl : lv_has ls 5 [(0, .ref (h (k1 + 1))), (1, .int a2), (2, .ref (h (k3 + 1))), (3, .int a4)] := hl
  generalize hres : pX3_moves k1 a2 k3 a4 x = res
  have lp_3 : ∀ (n : Nat) (v4 : Int32) (x : SR), 0 ≤ Int32.toInt v4 → Int32.toInt v4 ≤ 109 → 109 - Int32.toInt v4 < (n : Int) → pX3_moves_L3 k1 a2 k3 a4 n v4 x = res → ∀ (H : Heap) (locs : List Loc) (ls : Array Slot), va_P G vwCl (wMo cI h x) H → va_D A (wMo cI h x) → va_S A s.heap H locs → lv_has ls 5 [(0, .ref (h (k1 + 1))), (1, .int a2), (2, .ref (h (k3 + 1))), (3, .int a4), (4, .int v4)] → W p l e (rmz 0 0) s m ([.ref (h (k1 + 1)), .int a2, .ref (h (k3 + 1)), .int a4] : List Value).toArray below meth c H locs 0 0 (MQ below (QvA G A (wMo cI h res)) ([.ref (h (k1 + 1)), .int a2, .ref (h (k3 + 1)), .int a4] : List Value).toArray s 0 0 A) (F0 m 3 ls []) := by
    intro n
    induction n with
    | zero =>
      intro v4 x g_0 g_1 hm
      exfalso; omega
    | succ n ih =>
      intro v4 x g_0 g_1 hm hq H locs ls hP hD hS hl
      refine lv_iload hx hb dX3_moves_3 (lv_at hl 4 rfl) ?_
      refine lv_bipush (v := 109) hx hb dX3_moves_5 (by decide) ?_
      refine lv_icmp_ge (tgt := 28) hx hb dX3_moves_7 (by decide) (fun c_1 => ?_) (fun c_1 => ?_)
      · have t_1 := i_le (z := (109)) (w := (Int32.toInt v4)) c_1 (by decide) rfl
        exact rt_s hx hb hr hlocks hP hD hS ((show pX3_moves_L3 k1 a2 k3 a4 (n + 1) v4 x = x by rw [pX3_moves_L3, if_pos c_1]).symm.trans hq |>.symm) dX3_moves_28
      · have t_1 := i_nle (z := (109)) (w := (Int32.toInt v4)) c_1 (by decide) rfl
        refine lv_aload_n hx hb dX3_moves_10 rfl (lv_at hl 2 rfl) ?_
        refine lv_iload_n hx hb dX3_moves_11 rfl (lv_at hl 3 rfl) ?_
        refine lv_iload hx hb dX3_moves_12 (lv_at hl 4 rfl) ?_
        refine lv_iadd hx hb dX3_moves_14 ?_
        refine lv_aload_n hx hb dX3_moves_15 rfl (lv_at hl 0 rfl) ?_
        refine lv_iload_n hx hb dX3_moves_16 rfl (lv_at hl 1 rfl) ?_
        refine lv_iload hx hb dX3_moves_17 (lv_at hl 4 rfl) ?_
        refine lv_iadd hx hb dX3_moves_19 ?_
        refine md_ia (v := x.2 k1 (ix (a2 + v4))) hx hb hK hP k1 0 q_0 rfl (by exact add_in q_2 q_3 q_6 (by assumption) (by omega)) rfl dX3_moves_20 ?_
        refine md_is hx hb hK hP hD hS k3 0 q_1 rfl (by exact add_in q_4 q_5 q_7 (by assumption) (by omega)) dX3_moves_21 (fun H locs hP hD hS => ?_)
        refine lv_iinc (v := (v4 + 1)) (lv' := [(4, .int (v4 + 1)), (0, .ref (h (k1 + 1))), (1, .int a2), (2, .ref (h (k3 + 1))), (3, .int a4)]) hx hb dX3_moves_22 hl (k := 4) rfl rfl (by decide) rfl (fun ls hl => ?_)
        have a_22 := i_add1 (a := v4) (by omega) (by omega)
        refine lv_goto (tgt := 3) hx hb dX3_moves_25 (by decide) ?_
        exact ih (v4 + 1) (pR x k3 (a4 + v4) (x.2 k1 (ix (a2 + v4)))) (by omega) (by omega) (by omega) ((show pX3_moves_L3 k1 a2 k3 a4 (n + 1) v4 x = pX3_moves_L3 k1 a2 k3 a4 n (v4 + 1) (pR x k3 (a4 + v4) (x.2 k1 (ix (a2 + v4)))) by rw [pX3_moves_L3, if_neg c_1]).symm.trans hq) _ _ _ hP hD hS (lv_sub hl [1, 2, 3, 4, 0] rfl)
  refine lv_iconst (v := 0) hx hb dX3_moves_0 (by decide) ?_
  refine lv_istore (lv' := [(4, .int 0), (0, .ref (h (k1 + 1))), (1, .int a2), (2, .ref (h (k3 + 1))), (3, .int a4)]) hx hb dX3_moves_1 hl (by decide) rfl (fun ls hl => ?_)
  exact lp_3 110 0 x (by first | decide | omega | assumption) (by first | decide | omega | assumption) (by decide) ((show pX3_moves k1 a2 k3 a4 x = pX3_moves_L3 k1 a2 k3 a4 110 0 x by rw [pX3_moves]).symm.trans hres) _ _ _ hP hD hS (lv_sub hl [1, 2, 3, 4, 0] rfl)
def pX3_within (a1 : Int32) (a2 : Int32) (a3 : Int32) : Int32 := if a1 < a2 then 0
  else if a3 < a1 then 0
    else 1
set_option maxHeartbeats 4000000 in
set_option maxRecDepth 100000 in
theorem ctX3_within (l : Launch) (G : va_G) (cI cC cZ cR : ClassId) (a1 : Int32) (a2 : Int32) (a3 : Int32) : Ct l yX3_within wsX3_within (rmz 0 0) G (TY cI cC cZ cR) [.int a1, .int a2, .int a3] [] (Qi G [] (pX3_within a1 a2 a3) []) := by
  refine Ct.ofI (cc := cX3_within) (maxL := 3) (ret := (some .boolean)) (by decide) rfl rfl ?_
  intro p e s m below meth c A ls E0 hP hD hS hl
  obtain ⟨hx, hb, hr, hml, hlocks, hts, hown, hK, hN, hA⟩ := E0
  have hl : lv_has ls 3 [(0, .int a1), (1, .int a2), (2, .int a3)] := hl
  generalize hres : pX3_within a1 a2 a3 = res
  refine lv_iload_n hx hb dX3_within_0 rfl (lv_at hl 0 rfl) ?_
  refine lv_iload_n hx hb dX3_within_1 rfl (lv_at hl 1 rfl) ?_
  refine lv_icmp_lt (tgt := 14) hx hb dX3_within_2 (by decide) (fun c_1 => ?_) (fun c_1 => ?_)
  · have t_1 := i_lt (z := (Int32.toInt a1)) (w := (Int32.toInt a2)) c_1 rfl rfl
    refine lv_iconst (v := 0) hx hb dX3_within_14 (by decide) ?_
    exact rt_r hx hb hr hlocks hP hD hS rfl ((show pX3_within a1 a2 a3 = 0 by rw [pX3_within, if_pos c_1]).symm.trans hres |>.symm) dX3_within_15
  · have t_1 := i_nlt (z := (Int32.toInt a1)) (w := (Int32.toInt a2)) c_1 rfl rfl
    refine lv_iload_n hx hb dX3_within_5 rfl (lv_at hl 0 rfl) ?_
    refine lv_iload_n hx hb dX3_within_6 rfl (lv_at hl 2 rfl) ?_
    refine lv_icmp_gt (tgt := 14) hx hb dX3_within_7 (by decide) (fun c_2 => ?_) (fun c_2 => ?_)
    · have t_2 := i_lt (z := (Int32.toInt a3)) (w := (Int32.toInt a1)) c_2 rfl rfl
      refine lv_iconst (v := 0) hx hb dX3_within_14 (by decide) ?_
      exact rt_r hx hb hr hlocks hP hD hS rfl ((show pX3_within a1 a2 a3 = 0 by rw [pX3_within, if_neg c_1, if_pos c_2]).symm.trans hres |>.symm) dX3_within_15
    · have t_2 := i_nlt (z := (Int32.toInt a3)) (w := (Int32.toInt a1)) c_2 rfl rfl
      refine lv_iconst (v := 1) hx hb dX3_within_10 (by decide) ?_
      refine lv_goto (tgt := 15) hx hb dX3_within_11 (by decide) ?_
      exact rt_r hx hb hr hlocks hP hD hS rfl ((show pX3_within a1 a2 a3 = 1 by rw [pX3_within, if_neg c_1, if_neg c_2]).symm.trans hres |>.symm) dX3_within_15
def pX3_size (a1 : Int32) : Int32 := if 0 ≤ a1 then a1
  else (-a1)
set_option maxHeartbeats 4000000 in
set_option maxRecDepth 100000 in
theorem ctX3_size (l : Launch) (G : va_G) (cI cC cZ cR : ClassId) (a1 : Int32) : Ct l yX3_size wsX3_size (rmz 0 0) G (TY cI cC cZ cR) [.int a1] [] (Qi G [] (pX3_size a1) []) := by
  refine Ct.ofI (cc := cX3_size) (maxL := 1) (ret := (some .int)) (by decide) rfl rfl ?_
  intro p e s m below meth c A ls E0 hP hD hS hl
  obtain ⟨hx, hb, hr, hml, hlocks, hts, hown, hK, hN, hA⟩ := E0
  have hl : lv_has ls 1 [(0, .int a1)] := hl
  generalize hres : pX3_size a1 = res
  refine lv_iload_n hx hb dX3_size_0 rfl (lv_at hl 0 rfl) ?_
  refine lv_if_ge (tgt := 9) hx hb dX3_size_1 (by decide) (fun c_1 => ?_) (fun c_1 => ?_)
  · have t_1 := i_le (z := (0)) (w := (Int32.toInt a1)) c_1 (by decide) rfl
    refine lv_iload_n hx hb dX3_size_9 rfl (lv_at hl 0 rfl) ?_
    exact rt_r hx hb hr hlocks hP hD hS rfl ((show pX3_size a1 = a1 by rw [pX3_size, if_pos c_1]).symm.trans hres |>.symm) dX3_size_10
  · have t_1 := i_nle (z := (0)) (w := (Int32.toInt a1)) c_1 (by decide) rfl
    refine lv_iload_n hx hb dX3_size_4 rfl (lv_at hl 0 rfl) ?_
    refine lv_ineg hx hb dX3_size_5 ?_
    refine lv_goto (tgt := 10) hx hb dX3_size_6 (by decide) ?_
    exact rt_r hx hb hr hlocks hP hD hS rfl ((show pX3_size a1 = (-a1) by rw [pX3_size, if_neg c_1]).symm.trans hres |>.symm) dX3_size_10
def pX3_held (a1 : Int32) : Int32 := if 0 ≤ a1 then if a1 ≤ 100 then a1
    else 100
  else 0
set_option maxHeartbeats 4000000 in
set_option maxRecDepth 100000 in
theorem ctX3_held (l : Launch) (G : va_G) (cI cC cZ cR : ClassId) (a1 : Int32) : Ct l yX3_held wsX3_held (rmz 0 0) G (TY cI cC cZ cR) [.int a1] [] (Qi G [] (pX3_held a1) []) := by
  refine Ct.ofI (cc := cX3_held) (maxL := 1) (ret := (some .int)) (by decide) rfl rfl ?_
  intro p e s m below meth c A ls E0 hP hD hS hl
  obtain ⟨hx, hb, hr, hml, hlocks, hts, hown, hK, hN, hA⟩ := E0
  have hl : lv_has ls 1 [(0, .int a1)] := hl
  generalize hres : pX3_held a1 = res
  refine lv_iload_n hx hb dX3_held_0 rfl (lv_at hl 0 rfl) ?_
  refine lv_if_ge (tgt := 8) hx hb dX3_held_1 (by decide) (fun c_1 => ?_) (fun c_1 => ?_)
  · have t_1 := i_le (z := (0)) (w := (Int32.toInt a1)) c_1 (by decide) rfl
    refine lv_iload_n hx hb dX3_held_8 rfl (lv_at hl 0 rfl) ?_
    refine lv_bipush (v := 100) hx hb dX3_held_9 (by decide) ?_
    refine lv_icmp_le (tgt := 19) hx hb dX3_held_11 (by decide) (fun c_2 => ?_) (fun c_2 => ?_)
    · have t_2 := i_le (z := (Int32.toInt a1)) (w := (100)) c_2 rfl (by decide)
      refine lv_iload_n hx hb dX3_held_19 rfl (lv_at hl 0 rfl) ?_
      exact rt_r hx hb hr hlocks hP hD hS rfl ((show pX3_held a1 = a1 by rw [pX3_held, if_pos c_1, if_pos c_2]).symm.trans hres |>.symm) dX3_held_20
    · have t_2 := i_nle (z := (Int32.toInt a1)) (w := (100)) c_2 rfl (by decide)
      refine lv_bipush (v := 100) hx hb dX3_held_14 (by decide) ?_
      refine lv_goto (tgt := 20) hx hb dX3_held_16 (by decide) ?_
      exact rt_r hx hb hr hlocks hP hD hS rfl ((show pX3_held a1 = 100 by rw [pX3_held, if_pos c_1, if_neg c_2]).symm.trans hres |>.symm) dX3_held_20
  · have t_1 := i_nle (z := (0)) (w := (Int32.toInt a1)) c_1 (by decide) rfl
    refine lv_iconst (v := 0) hx hb dX3_held_4 (by decide) ?_
    refine lv_goto (tgt := 20) hx hb dX3_held_5 (by decide) ?_
    exact rt_r hx hb hr hlocks hP hD hS rfl ((show pX3_held a1 = 0 by rw [pX3_held, if_neg c_1]).symm.trans hres |>.symm) dX3_held_20
def pX3_pianoPart (a1 : Int32) (a2 : Int32) (x : SR) : Int32 := x.2 0 (ix ((12 + (6 * a1)) + a2))
set_option maxHeartbeats 4000000 in
set_option maxRecDepth 100000 in
theorem ctX3_pianoPart (l : Launch) (G : va_G) (cI cC cZ cR : ClassId) (h : Ad) (x : SR) (a1 : Int32) (a2 : Int32) (q_0 : vp_in a1 12) (q_1 : vp_in a2 6) : Ct l yX3_pianoPart wsX3_pianoPart (rmz 0 0) G (TY cI cC cZ cR) [.ref (h 0), .int a1, .int a2] (wMo cI h x) (Qi G (wMo cI h x) (pX3_pianoPart a1 a2 x) (wMo cI h x)) := by
  refine Ct.ofI (cc := cX3_pianoPart) (maxL := 3) (ret := (some .int)) (by decide) rfl rfl ?_
  intro p e s m below meth c A ls E0 hP hD hS hl
  obtain ⟨hx, hb, hr, hml, hlocks, hts, hown, hK, hN, hA⟩ := E0
  have hl : lv_has ls 3 [(0, .ref (h 0)), (1, .int a1), (2, .int a2)] := hl
  have hin : ∀ w ∈ wsX30, w ∈ wsX3_pianoPart := fun w hw => List.mem_cons_of_mem _ (List.mem_append_right _ (hw))
  have k_7 : (Cond.fieldLink RX3 7 RX3 (TX3 0).2.1 (TX3 0).2.2.1).before ([.ref (h 0), .int a1, .int a2] : List Value).toArray s = true := hts _ (List.mem_of_getElem? (i := 1) rfl)
  generalize hres : pX3_pianoPart a1 a2 x = res
  refine lv_aload_n hx hb dX3_pianoPart_0 rfl (lv_at hl 0 rfl) ?_
  refine md_get (ci := 3) (C := RX3) (T := TX3) (N := 13) (v := .ref (h 1)) hx hb hts hin hown hK hP rfl 0 (by decide) k_7 rfl rfl rfl dX3_pianoPart_1 ?_
  refine lv_bipush (v := 12) hx hb dX3_pianoPart_4 (by decide) ?_
  refine lv_bipush (v := 6) hx hb dX3_pianoPart_6 (by decide) ?_
  refine lv_iload_n hx hb dX3_pianoPart_8 rfl (lv_at hl 1 rfl) ?_
  refine lv_imul hx hb dX3_pianoPart_9 ?_
  refine lv_iadd hx hb dX3_pianoPart_10 ?_
  refine lv_iload_n hx hb dX3_pianoPart_11 rfl (lv_at hl 2 rfl) ?_
  refine lv_iadd hx hb dX3_pianoPart_12 ?_
  refine md_ia (v := x.2 0 (ix ((12 + (6 * a1)) + a2))) hx hb hK hP 0 0 rfl rfl (by exact pp_in q_0 q_1) rfl dX3_pianoPart_13 ?_
  exact rt_r hx hb hr hlocks hP hD hS rfl ((show pX3_pianoPart a1 a2 x = x.2 0 (ix ((12 + (6 * a1)) + a2)) by rw [pX3_pianoPart]).symm.trans hres |>.symm) dX3_pianoPart_14
def pX3_setPiano (a1 : Int32) (a2 : Int32) (a3 : Int32) (x : SR) : SR := (pR x 0 ((12 + (6 * a1)) + a2) a3)
set_option maxHeartbeats 4000000 in
set_option maxRecDepth 100000 in
theorem ctX3_setPiano (l : Launch) (G : va_G) (cI cC cZ cR : ClassId) (h : Ad) (x : SR) (a1 : Int32) (a2 : Int32) (a3 : Int32) (q_0 : vp_in a1 12) (q_1 : vp_in a2 6) : Ct l yX3_setPiano wsX3_setPiano (rmz 0 0) G (TY cI cC cZ cR) [.ref (h 0), .int a1, .int a2, .int a3] (wMo cI h x) (Qv G (wMo cI h x) (wMo cI h (pX3_setPiano a1 a2 a3 x))) := by
  refine Ct.ofV (cc := cX3_setPiano) (maxL := 4) (ret := none) (by decide) rfl rfl ?_
  intro p e s m below meth c A ls E0 hP hD hS hl
  obtain ⟨hx, hb, hr, hml, hlocks, hts, hown, hK, hN, hA⟩ := E0
  have hl : lv_has ls 4 [(0, .ref (h 0)), (1, .int a1), (2, .int a2), (3, .int a3)] := hl
  have hin : ∀ w ∈ wsX30, w ∈ wsX3_setPiano := fun w hw => List.mem_cons_of_mem _ (List.mem_append_right _ (hw))
  have k_7 : (Cond.fieldLink RX3 7 RX3 (TX3 0).2.1 (TX3 0).2.2.1).before ([.ref (h 0), .int a1, .int a2, .int a3] : List Value).toArray s = true := hts _ (List.mem_of_getElem? (i := 1) rfl)
  generalize hres : pX3_setPiano a1 a2 a3 x = res
  refine lv_aload_n hx hb dX3_setPiano_0 rfl (lv_at hl 0 rfl) ?_
  refine md_get (ci := 3) (C := RX3) (T := TX3) (N := 13) (v := .ref (h 1)) hx hb hts hin hown hK hP rfl 0 (by decide) k_7 rfl rfl rfl dX3_setPiano_1 ?_
  refine lv_bipush (v := 12) hx hb dX3_setPiano_4 (by decide) ?_
  refine lv_bipush (v := 6) hx hb dX3_setPiano_6 (by decide) ?_
  refine lv_iload_n hx hb dX3_setPiano_8 rfl (lv_at hl 1 rfl) ?_
  refine lv_imul hx hb dX3_setPiano_9 ?_
  refine lv_iadd hx hb dX3_setPiano_10 ?_
  refine lv_iload_n hx hb dX3_setPiano_11 rfl (lv_at hl 2 rfl) ?_
  refine lv_iadd hx hb dX3_setPiano_12 ?_
  refine lv_iload_n hx hb dX3_setPiano_13 rfl (lv_at hl 3 rfl) ?_
  refine md_is hx hb hK hP hD hS 0 0 rfl rfl (by exact pp_in q_0 q_1) dX3_setPiano_14 (fun H locs hP hD hS => ?_)
  exact rt_s hx hb hr hlocks hP hD hS ((show pX3_setPiano a1 a2 a3 x = (pR x 0 ((12 + (6 * a1)) + a2) a3) by rw [pX3_setPiano]).symm.trans hres |>.symm) dX3_setPiano_15
def pX3_keeperPart (a1 : Int32) (a2 : Int32) (x : SR) : Int32 := x.2 0 (ix ((84 + (5 * a1)) + a2))
set_option maxHeartbeats 4000000 in
set_option maxRecDepth 100000 in
theorem ctX3_keeperPart (l : Launch) (G : va_G) (cI cC cZ cR : ClassId) (h : Ad) (x : SR) (a1 : Int32) (a2 : Int32) (q_0 : vp_in a1 5) (q_1 : vp_in a2 5) : Ct l yX3_keeperPart wsX3_keeperPart (rmz 0 0) G (TY cI cC cZ cR) [.ref (h 0), .int a1, .int a2] (wMo cI h x) (Qi G (wMo cI h x) (pX3_keeperPart a1 a2 x) (wMo cI h x)) := by
  refine Ct.ofI (cc := cX3_keeperPart) (maxL := 3) (ret := (some .int)) (by decide) rfl rfl ?_
  intro p e s m below meth c A ls E0 hP hD hS hl
  obtain ⟨hx, hb, hr, hml, hlocks, hts, hown, hK, hN, hA⟩ := E0
  have hl : lv_has ls 3 [(0, .ref (h 0)), (1, .int a1), (2, .int a2)] := hl
  have hin : ∀ w ∈ wsX30, w ∈ wsX3_keeperPart := fun w hw => List.mem_cons_of_mem _ (List.mem_append_right _ (hw))
  have k_7 : (Cond.fieldLink RX3 7 RX3 (TX3 0).2.1 (TX3 0).2.2.1).before ([.ref (h 0), .int a1, .int a2] : List Value).toArray s = true := hts _ (List.mem_of_getElem? (i := 1) rfl)
  generalize hres : pX3_keeperPart a1 a2 x = res
  refine lv_aload_n hx hb dX3_keeperPart_0 rfl (lv_at hl 0 rfl) ?_
  refine md_get (ci := 3) (C := RX3) (T := TX3) (N := 13) (v := .ref (h 1)) hx hb hts hin hown hK hP rfl 0 (by decide) k_7 rfl rfl rfl dX3_keeperPart_1 ?_
  refine lv_bipush (v := 84) hx hb dX3_keeperPart_4 (by decide) ?_
  refine lv_iconst (v := 5) hx hb dX3_keeperPart_6 (by decide) ?_
  refine lv_iload_n hx hb dX3_keeperPart_7 rfl (lv_at hl 1 rfl) ?_
  refine lv_imul hx hb dX3_keeperPart_8 ?_
  refine lv_iadd hx hb dX3_keeperPart_9 ?_
  refine lv_iload_n hx hb dX3_keeperPart_10 rfl (lv_at hl 2 rfl) ?_
  refine lv_iadd hx hb dX3_keeperPart_11 ?_
  refine md_ia (v := x.2 0 (ix ((84 + (5 * a1)) + a2))) hx hb hK hP 0 0 rfl rfl (by exact kp_in q_0 q_1) rfl dX3_keeperPart_12 ?_
  exact rt_r hx hb hr hlocks hP hD hS rfl ((show pX3_keeperPart a1 a2 x = x.2 0 (ix ((84 + (5 * a1)) + a2)) by rw [pX3_keeperPart]).symm.trans hres |>.symm) dX3_keeperPart_13
def pX3_adds (a1 : Int32) (a2 : Int32) (a3 : Int32) (x : SR) : SR := (pR x 0 ((84 + (5 * a1)) + a2) ((x.2 0 (ix ((84 + (5 * a1)) + a2))) + a3))
set_option maxHeartbeats 4000000 in
set_option maxRecDepth 100000 in
theorem ctX3_adds (l : Launch) (G : va_G) (cI cC cZ cR : ClassId) (h : Ad) (x : SR) (a1 : Int32) (a2 : Int32) (a3 : Int32) (q_0 : vp_in a1 5) (q_1 : vp_in a2 5) : Ct l yX3_adds wsX3_adds (rmz 0 0) G (TY cI cC cZ cR) [.ref (h 0), .int a1, .int a2, .int a3] (wMo cI h x) (Qv G (wMo cI h x) (wMo cI h (pX3_adds a1 a2 a3 x))) := by
  refine Ct.ofV (cc := cX3_adds) (maxL := 4) (ret := none) (by decide) rfl rfl ?_
  intro p e s m below meth c A ls E0 hP hD hS hl
  obtain ⟨hx, hb, hr, hml, hlocks, hts, hown, hK, hN, hA⟩ := E0
  have hl : lv_has ls 4 [(0, .ref (h 0)), (1, .int a1), (2, .int a2), (3, .int a3)] := hl
  have hin : ∀ w ∈ wsX30, w ∈ wsX3_adds := fun w hw => List.mem_cons_of_mem _ (List.mem_append_right _ (hw))
  have k_7 : (Cond.fieldLink RX3 7 RX3 (TX3 0).2.1 (TX3 0).2.2.1).before ([.ref (h 0), .int a1, .int a2, .int a3] : List Value).toArray s = true := hts _ (List.mem_of_getElem? (i := 1) rfl)
  generalize hres : pX3_adds a1 a2 a3 x = res
  refine lv_aload_n hx hb dX3_adds_0 rfl (lv_at hl 0 rfl) ?_
  refine md_get (ci := 3) (C := RX3) (T := TX3) (N := 13) (v := .ref (h 1)) hx hb hts hin hown hK hP rfl 0 (by decide) k_7 rfl rfl rfl dX3_adds_1 ?_
  refine lv_bipush (v := 84) hx hb dX3_adds_4 (by decide) ?_
  refine lv_iconst (v := 5) hx hb dX3_adds_6 (by decide) ?_
  refine lv_iload_n hx hb dX3_adds_7 rfl (lv_at hl 1 rfl) ?_
  refine lv_imul hx hb dX3_adds_8 ?_
  refine lv_iadd hx hb dX3_adds_9 ?_
  refine lv_iload_n hx hb dX3_adds_10 rfl (lv_at hl 2 rfl) ?_
  refine lv_iadd hx hb dX3_adds_11 ?_
  refine lv_dup2_11 hx hb dX3_adds_12 rfl rfl ?_
  refine md_ia (v := x.2 0 (ix ((84 + (5 * a1)) + a2))) hx hb hK hP 0 0 rfl rfl (by exact kp_in q_0 q_1) rfl dX3_adds_13 ?_
  refine lv_iload_n hx hb dX3_adds_14 rfl (lv_at hl 3 rfl) ?_
  refine lv_iadd hx hb dX3_adds_15 ?_
  refine md_is hx hb hK hP hD hS 0 0 rfl rfl (by exact kp_in q_0 q_1) dX3_adds_16 (fun H locs hP hD hS => ?_)
  exact rt_s hx hb hr hlocks hP hD hS ((show pX3_adds a1 a2 a3 x = (pR x 0 ((84 + (5 * a1)) + a2) ((x.2 0 (ix ((84 + (5 * a1)) + a2))) + a3)) by rw [pX3_adds]).symm.trans hres |>.symm) dX3_adds_17
theorem within_b (a1 a2 a3 : Int32) : pX3_within a1 a2 a3 = 0 ∨ pX3_within a1 a2 a3 = 1 := by
  rw [pX3_within]
  by_cases d_28 : a1 < a2
  · rw [if_pos d_28]
    first | with_reducible exact Or.inl rfl | with_reducible exact Or.inr rfl
  · rw [if_neg d_28]
    by_cases d_29 : a3 < a1
    · rw [if_pos d_29]
      first | with_reducible exact Or.inl rfl | with_reducible exact Or.inr rfl
    · rw [if_neg d_29]
      first | with_reducible exact Or.inl rfl | with_reducible exact Or.inr rfl
def pX3_isPlace (a1 : Int32) : Int32 := (pX3_within a1 0 11)
set_option maxHeartbeats 4000000 in
set_option maxRecDepth 100000 in
theorem ctX3_isPlace (l : Launch) (G : va_G) (cI cC cZ cR : ClassId) (a1 : Int32) : Ct l yX3_isPlace wsX3_isPlace (rmz 1 22) G (TY cI cC cZ cR) [.int a1] [] (Qi G [] (pX3_isPlace a1) []) := by
  refine Ct.ofI (cc := cX3_isPlace) (maxL := 1) (ret := (some .boolean)) (by decide) rfl rfl ?_
  intro p e s m below meth c A ls E0 hP hD hS hl
  obtain ⟨hx, hb, hr, hml, hlocks, hts, hown, hK, hN, hA⟩ := E0
  have hl : lv_has ls 1 [(0, .int a1)] := hl
  generalize hres : pX3_isPlace a1 = res
  refine lv_iload_n hx hb dX3_isPlace_0 rfl (lv_at hl 0 rfl) ?_
  refine lv_iconst (v := 0) hx hb dX3_isPlace_1 (by decide) ?_
  refine lv_bipush (v := 11) hx hb dX3_isPlace_2 (by decide) ?_
  refine gn_i hP hS hA (rn_S (As := [.int a1, .int 0, .int 11]) (rest := []) ⟨hx, hb, hml, hown, hts⟩ (ctX3_within l G cI cC cZ cR a1 0 11) (va_cwS 3 hts gX3_isPlace_X3_within rfl rfl rfl (by decide +kernel) ⟨Nat.le_of_ble_eq_true rfl, Nat.le_of_ble_eq_true rfl⟩) hK nilP (nilD (A := A)) hN rfl hl.1 rfl (Nat.le_of_ble_eq_true rfl) dX3_isPlace_4) (fun H locs hP hS => ?_)
  exact rt_r hx hb hr hlocks hP hD hS (nz_of (within_b _ _ _)) ((show pX3_isPlace a1 = (pX3_within a1 0 11) by rw [pX3_isPlace]).symm.trans hres |>.symm) dX3_isPlace_7
theorem within_in {a b c : Int32} (h : ¬ pX3_within a b c = 0) : Int32.toInt b ≤ Int32.toInt a ∧ Int32.toInt a ≤ Int32.toInt c := by
  rw [pX3_within] at h
  by_cases h1 : a < b
  · rw [if_pos h1] at h
    exact absurd rfl h
  · rw [if_neg h1] at h
    by_cases h2 : c < a
    · rw [if_pos h2] at h
      exact absurd rfl h
    · exact ⟨i_nlt h1 rfl rfl, i_nlt h2 rfl rfl⟩
theorem isPlace3_in {p : Int32} (h : ¬ pX3_isPlace p = 0) : vp_in p 12 := by
  have h1 := within_in h
  have h2 := h1.1
  have h3 := h1.2
  rw [show Int32.toInt 0 = 0 from rfl] at h2
  rw [show Int32.toInt 11 = 11 from rfl] at h3
  exact vp_in_iff.mpr ⟨by omega, by omega⟩
def pX3_isPiano (a1 : Int32) (x : SR) : Int32 := if (pX3_isPlace a1) = 0 then 0
  else if (pX3_pianoPart a1 0 x) = 1 then 1
    else 0
set_option maxHeartbeats 4000000 in
set_option maxRecDepth 100000 in
theorem ctX3_isPiano (l : Launch) (G : va_G) (cI cC cZ cR : ClassId) (h : Ad) (x : SR) (a1 : Int32) : Ct l yX3_isPiano wsX3_isPiano (rmz 2 42) G (TY cI cC cZ cR) [.ref (h 0), .int a1] (wMo cI h x) (Qi G (wMo cI h x) (pX3_isPiano a1 x) (wMo cI h x)) := by
  refine Ct.ofI (cc := cX3_isPiano) (maxL := 2) (ret := (some .boolean)) (by decide) rfl rfl ?_
  intro p e s m below meth c A ls E0 hP hD hS hl
  obtain ⟨hx, hb, hr, hml, hlocks, hts, hown, hK, hN, hA⟩ := E0
  have hl : lv_has ls 2 [(0, .ref (h 0)), (1, .int a1)] := hl
  have hin : ∀ w ∈ wsX30, w ∈ wsX3_isPiano := fun w hw => List.mem_cons_of_mem _ (List.mem_append_right _ (hw))
  generalize hres : pX3_isPiano a1 x = res
  refine lv_iload_n hx hb dX3_isPiano_0 rfl (lv_at hl 1 rfl) ?_
  refine gn_i hP hS hA (rn_S (As := [.int a1]) (rest := []) ⟨hx, hb, hml, hown, hts⟩ (ctX3_isPlace l G cI cC cZ cR a1) (va_cwS 1 hts gX3_isPiano_X3_isPlace rfl rfl rfl (by decide +kernel) ⟨Nat.le_of_ble_eq_true rfl, Nat.le_of_ble_eq_true rfl⟩) hK nilP (nilD (A := A)) hN rfl hl.1 rfl (Nat.le_of_ble_eq_true rfl) dX3_isPiano_1) (fun H locs hP hS => ?_)
  refine lv_if_eq (tgt := 21) hx hb dX3_isPiano_4 (by decide) (fun c_1 => ?_) (fun c_1 => ?_)
  · refine lv_iconst (v := 0) hx hb dX3_isPiano_21 (by decide) ?_
    exact rt_r hx hb hr hlocks hP hD hS rfl ((show pX3_isPiano a1 x = 0 by rw [pX3_isPiano, if_pos c_1]).symm.trans hres |>.symm) dX3_isPiano_22
  · refine lv_aload_n hx hb dX3_isPiano_7 rfl (lv_at hl 0 rfl) ?_
    refine lv_iload_n hx hb dX3_isPiano_8 rfl (lv_at hl 1 rfl) ?_
    refine lv_iconst (v := 0) hx hb dX3_isPiano_9 (by decide) ?_
    refine go_i hD hS hA (rn_V (As := [.int a1, .int 0]) (rest := []) ⟨hx, hb, hml, hown, hts⟩ (ctX3_pianoPart l G cI cC cZ cR h x a1 0 (by first | assumption | exact vp_in_iff.mpr ⟨by decide, by decide⟩ | exact vp_in_iff.mpr ⟨by omega, by omega⟩ | exact isPlace_in (by assumption) | exact has_in (by assumption) | exact isPlace3_in (by assumption)) (by first | assumption | exact vp_in_iff.mpr ⟨by decide, by decide⟩ | exact vp_in_iff.mpr ⟨by omega, by omega⟩ | exact isPlace_in (by assumption) | exact has_in (by assumption) | exact isPlace3_in (by assumption))) (cwV 2 hts gX3_isPiano_X3_pianoPart rfl rfl rfl (by decide +kernel) ⟨Nat.le_of_ble_eq_true rfl, Nat.le_of_ble_eq_true rfl⟩) (md_recv hK hP rfl) hK hP hD hN rfl hl.1 rfl (Nat.le_of_ble_eq_true rfl) dX3_isPiano_10) (fun H locs hP hD hS => ?_)
    refine lv_iconst (v := 1) hx hb dX3_isPiano_13 (by decide) ?_
    refine lv_icmp_ne (tgt := 21) hx hb dX3_isPiano_14 (by decide) (fun c_2 => ?_) (fun c_2 => ?_)
    · refine lv_iconst (v := 0) hx hb dX3_isPiano_21 (by decide) ?_
      exact rt_r hx hb hr hlocks hP hD hS rfl ((show pX3_isPiano a1 x = 0 by rw [pX3_isPiano, if_neg c_1, if_neg c_2]).symm.trans hres |>.symm) dX3_isPiano_22
    · refine lv_iconst (v := 1) hx hb dX3_isPiano_17 (by decide) ?_
      refine lv_goto (tgt := 22) hx hb dX3_isPiano_18 (by decide) ?_
      exact rt_r hx hb hr hlocks hP hD hS rfl ((show pX3_isPiano a1 x = 1 by rw [pX3_isPiano, if_neg c_1, if_pos c_2]).symm.trans hres |>.symm) dX3_isPiano_22
theorem isPiano_in {p : Int32} {x : SR} (h : ¬ pX3_isPiano p x = 0) : vp_in p 12 := by
  rw [pX3_isPiano] at h
  by_cases h1 : pX3_isPlace p = 0
  · rw [if_pos h1] at h
    exact absurd rfl h
  · exact isPlace3_in h1
def pX3_isOpen (a1 : Int32) (x : SR) : Int32 := if (pX3_isPiano a1 x) = 0 then 0
  else if (pX3_pianoPart a1 3 x) = 2 then 0
    else 1
set_option maxHeartbeats 4000000 in
set_option maxRecDepth 100000 in
theorem ctX3_isOpen (l : Launch) (G : va_G) (cI cC cZ cR : ClassId) (h : Ad) (x : SR) (a1 : Int32) : Ct l yX3_isOpen wsX3_isOpen (rmz 3 63) G (TY cI cC cZ cR) [.ref (h 0), .int a1] (wMo cI h x) (Qi G (wMo cI h x) (pX3_isOpen a1 x) (wMo cI h x)) := by
  refine Ct.ofI (cc := cX3_isOpen) (maxL := 2) (ret := (some .boolean)) (by decide) rfl rfl ?_
  intro p e s m below meth c A ls E0 hP hD hS hl
  obtain ⟨hx, hb, hr, hml, hlocks, hts, hown, hK, hN, hA⟩ := E0
  have hl : lv_has ls 2 [(0, .ref (h 0)), (1, .int a1)] := hl
  have hin : ∀ w ∈ wsX30, w ∈ wsX3_isOpen := fun w hw => List.mem_cons_of_mem _ (List.mem_append_right _ (hw))
  generalize hres : pX3_isOpen a1 x = res
  refine lv_aload_n hx hb dX3_isOpen_0 rfl (lv_at hl 0 rfl) ?_
  refine lv_iload_n hx hb dX3_isOpen_1 rfl (lv_at hl 1 rfl) ?_
  refine go_i hD hS hA (rn_V (As := [.int a1]) (rest := []) ⟨hx, hb, hml, hown, hts⟩ (ctX3_isPiano l G cI cC cZ cR h x a1) (cwV 1 hts gX3_isOpen_X3_isPiano rfl rfl rfl (by decide +kernel) ⟨Nat.le_of_ble_eq_true rfl, Nat.le_of_ble_eq_true rfl⟩) (md_recv hK hP rfl) hK hP hD hN rfl hl.1 rfl (Nat.le_of_ble_eq_true rfl) dX3_isOpen_2) (fun H locs hP hD hS => ?_)
  refine lv_if_eq (tgt := 22) hx hb dX3_isOpen_5 (by decide) (fun c_1 => ?_) (fun c_1 => ?_)
  · refine lv_iconst (v := 0) hx hb dX3_isOpen_22 (by decide) ?_
    exact rt_r hx hb hr hlocks hP hD hS rfl ((show pX3_isOpen a1 x = 0 by rw [pX3_isOpen, if_pos c_1]).symm.trans hres |>.symm) dX3_isOpen_23
  · refine lv_aload_n hx hb dX3_isOpen_8 rfl (lv_at hl 0 rfl) ?_
    refine lv_iload_n hx hb dX3_isOpen_9 rfl (lv_at hl 1 rfl) ?_
    refine lv_iconst (v := 3) hx hb dX3_isOpen_10 (by decide) ?_
    refine go_i hD hS hA (rn_V (As := [.int a1, .int 3]) (rest := []) ⟨hx, hb, hml, hown, hts⟩ (ctX3_pianoPart l G cI cC cZ cR h x a1 3 (by first | assumption | exact vp_in_iff.mpr ⟨by decide, by decide⟩ | exact vp_in_iff.mpr ⟨by omega, by omega⟩ | exact isPlace_in (by assumption) | exact has_in (by assumption) | exact isPlace3_in (by assumption) | exact isPiano_in (by assumption)) (by first | assumption | exact vp_in_iff.mpr ⟨by decide, by decide⟩ | exact vp_in_iff.mpr ⟨by omega, by omega⟩ | exact isPlace_in (by assumption) | exact has_in (by assumption) | exact isPlace3_in (by assumption) | exact isPiano_in (by assumption))) (cwV 2 hts gX3_isOpen_X3_pianoPart rfl rfl rfl (by decide +kernel) ⟨Nat.le_of_ble_eq_true rfl, Nat.le_of_ble_eq_true rfl⟩) (md_recv hK hP rfl) hK hP hD hN rfl hl.1 rfl (Nat.le_of_ble_eq_true rfl) dX3_isOpen_11) (fun H locs hP hD hS => ?_)
    refine lv_iconst (v := 2) hx hb dX3_isOpen_14 (by decide) ?_
    refine lv_icmp_eq (tgt := 22) hx hb dX3_isOpen_15 (by decide) (fun c_2 => ?_) (fun c_2 => ?_)
    · refine lv_iconst (v := 0) hx hb dX3_isOpen_22 (by decide) ?_
      exact rt_r hx hb hr hlocks hP hD hS rfl ((show pX3_isOpen a1 x = 0 by rw [pX3_isOpen, if_neg c_1, if_pos c_2]).symm.trans hres |>.symm) dX3_isOpen_23
    · refine lv_iconst (v := 1) hx hb dX3_isOpen_18 (by decide) ?_
      refine lv_goto (tgt := 23) hx hb dX3_isOpen_19 (by decide) ?_
      exact rt_r hx hb hr hlocks hP hD hS rfl ((show pX3_isOpen a1 x = 1 by rw [pX3_isOpen, if_neg c_1, if_neg c_2]).symm.trans hres |>.symm) dX3_isOpen_23
theorem isOpen_in {p : Int32} {x : SR} (h : ¬ pX3_isOpen p x = 0) : vp_in p 12 := by
  rw [pX3_isOpen] at h
  by_cases h1 : pX3_isPiano p x = 0
  · rw [if_pos h1] at h
    exact absurd rfl h
  · exact isPiano_in h1
