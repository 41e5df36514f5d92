def pL_copy_L3 : Nat → Int32 → SR → SR → (SR)
  | 0, v6, zq, zk => zk
  | n + 1, v6, zq, zk => if 12 ≤ v6 then zk
    else pL_copy_L3 n (v6 + 1) zq (pR zk 0 v6 (zq.2 0 (ix v6)))
def pL_copy_E3 (xq : SR) (xk : SR) : SR := pL_copy_L3 13 0 xq xk
def pL_copy_L27 : Nat → Int32 → SR → SR → (SR)
  | 0, v6, zq, zk => zk
  | n + 1, v6, zq, zk => if 60 ≤ v6 then zk
    else pL_copy_L27 n (v6 + 1) zq (pR zk 1 v6 (zq.2 1 (ix v6)))
def pL_copy_E27 (xq : SR) (xk : SR) : SR := pL_copy_L27 61 0 xq (pL_copy_E3 xq xk)
def pL_copy_L52 : Nat → Int32 → SR → SR → (SR)
  | 0, v6, zq, zk => zk
  | n + 1, v6, zq, zk => if 25 ≤ v6 then zk
    else pL_copy_L52 n (v6 + 1) zq (pR zk 2 v6 (zq.2 2 (ix v6)))
def pL_copy_E52 (xq : SR) (xk : SR) : SR := pL_copy_L52 26 0 xq (pL_copy_E27 xq xk)
def pL_copy (xq : SR) (xk : SR) : SR := (pL_copy_E52 xq xk)
theorem and_nn (a : Int32) : 0 ≤ Int32.toInt (a &&& 2147483647) := by
  show 0 ≤ (a &&& 2147483647).toBitVec.toInt
  apply BitVec.toInt_nonneg_of_msb_false
  rw [Int32.toBitVec_and, BitVec.msb_and, show (2147483647 : Int32).toBitVec.msb = false from rfl, Bool.and_false]
theorem low_in (a : Int32) {n : Int32} (hn : 0 < Int32.toInt n) : 0 ≤ Int32.toInt (pL_low a n) ∧ Int32.toInt (pL_low a n) < Int32.toInt n := by
  rw [pL_low]
  have h0 := and_nn a
  generalize (a &&& 2147483647) = x at h0 ⊢
  have hx := i_max x
  have hm := i_max n
  have hne : n ≠ -1 := fun q => by
    rw [q] at hn
    exact absurd hn (by decide)
  have e1 : Int32.toInt (x / n) = Int32.toInt x / Int32.toInt n := by
    rw [Int32.toInt_div_of_ne_right _ _ hne, Int.tdiv_eq_ediv_of_nonneg h0]
  have b1 : 0 ≤ Int32.toInt x / Int32.toInt n := Int.ediv_nonneg h0 (by omega)
  have b2 : Int32.toInt x / Int32.toInt n * Int32.toInt n ≤ Int32.toInt x := Int.ediv_mul_le _ (by omega)
  have b3 := Int.lt_ediv_add_one_mul_self (Int32.toInt x) hn
  rw [Int.add_mul, Int.one_mul] at b3
  have b4 : 0 ≤ Int32.toInt x / Int32.toInt n * Int32.toInt n := Int.mul_nonneg b1 (by omega)
  have e2 : Int32.toInt (x / n * n) = Int32.toInt x / Int32.toInt n * Int32.toInt n := by
    rw [Int32.toInt_mul, e1, Int.bmod_eq_of_le] <;> omega
  rw [t_sub (by rw [e2]; omega), e2]
  omega
theorem lo1_in {a2 : Int32} : 1 ≤ Int32.toInt (1 + pL_low a2 48) ∧ Int32.toInt (1 + pL_low a2 48) ≤ 48 := by
  have h := low_in a2 (n := 48) (by decide)
  have e1 : Int32.toInt 1 = 1 := rfl
  have e48 : Int32.toInt 48 = 48 := rfl
  rw [e48] at h
  rw [t_add (by rw [e1]; omega), e1]
  omega
theorem lo12_in {a : Int32} : 0 ≤ Int32.toInt (pL_low a 12) ∧ Int32.toInt (pL_low a 12) < 12 := low_in a (n := 12) (by decide)
theorem copy_L3 (x : SR) : ∀ (n i : Nat) (y : SR), i ≤ 12 → 12 - i < n → ∀ j k, (pL_copy_L3 n (nI i) x y).2 j k = if j = 0 ∧ i ≤ k ∧ k < 12 then x.2 0 k else y.2 j k := by
  intro n
  induction n with
  | zero => intro i y h1 h2; omega
  | succ n ih =>
    intro i y h1 h2 j k
    rw [pL_copy_L3]
    by_cases c : i = 12
    · subst c
      rw [if_pos (show (12 : Int32) ≤ nI 12 by decide), if_neg (fun z => by omega)]
    · have hi : i < 12 := by omega
      rw [if_neg (show ¬ (12 : Int32) ≤ nI i by rw [show (12 : Int32) = nI 12 from rfl, nI_leI (by omega) (by omega)]; omega), nI_1, ih (i + 1) _ (by omega) (by omega)]
      by_cases c2 : j = 0 ∧ i + 1 ≤ k ∧ k < 12
      · rw [if_pos c2, if_pos ⟨c2.1, by omega, c2.2.2⟩]
      · rw [if_neg c2]
        by_cases c3 : j = 0 ∧ k = i
        · obtain ⟨rfl, rfl⟩ := c3
          rw [if_pos ⟨rfl, Nat.le_refl _, hi⟩, pR_sm, ix_nI (by omega), up_same]
        · rw [if_neg (fun z => by omega), pR_off (by rw [ix_nI (by omega)]; omega)]
theorem copy_L27 (x : SR) : ∀ (n i : Nat) (y : SR), i ≤ 60 → 60 - i < n → ∀ j k, (pL_copy_L27 n (nI i) x y).2 j k = if j = 1 ∧ i ≤ k ∧ k < 60 then x.2 1 k else y.2 j k := by
  intro n
  induction n with
  | zero => intro i y h1 h2; omega
  | succ n ih =>
    intro i y h1 h2 j k
    rw [pL_copy_L27]
    by_cases c : i = 60
    · subst c
      rw [if_pos (show (60 : Int32) ≤ nI 60 by decide), if_neg (fun z => by omega)]
    · have hi : i < 60 := by omega
      rw [if_neg (show ¬ (60 : Int32) ≤ nI i by rw [show (60 : Int32) = nI 60 from rfl, nI_leI (by omega) (by omega)]; omega), nI_1, ih (i + 1) _ (by omega) (by omega)]
      by_cases c2 : j = 1 ∧ i + 1 ≤ k ∧ k < 60
      · rw [if_pos c2, if_pos ⟨c2.1, by omega, c2.2.2⟩]
      · rw [if_neg c2]
        by_cases c3 : j = 1 ∧ k = i
        · obtain ⟨rfl, rfl⟩ := c3
          rw [if_pos ⟨rfl, Nat.le_refl _, hi⟩, pR_sm, ix_nI (by omega), up_same]
        · rw [if_neg (fun z => by omega), pR_off (by rw [ix_nI (by omega)]; omega)]
theorem copy_L52 (x : SR) : ∀ (n i : Nat) (y : SR), i ≤ 25 → 25 - i < n → ∀ j k, (pL_copy_L52 n (nI i) x y).2 j k = if j = 2 ∧ i ≤ k ∧ k < 25 then x.2 2 k else y.2 j k := by
  intro n
  induction n with
  | zero => intro i y h1 h2; omega
  | succ n ih =>
    intro i y h1 h2 j k
    rw [pL_copy_L52]
    by_cases c : i = 25
    · subst c
      rw [if_pos (show (25 : Int32) ≤ nI 25 by decide), if_neg (fun z => by omega)]
    · have hi : i < 25 := by omega
      rw [if_neg (show ¬ (25 : Int32) ≤ nI i by rw [show (25 : Int32) = nI 25 from rfl, nI_leI (by omega) (by omega)]; omega), nI_1, ih (i + 1) _ (by omega) (by omega)]
      by_cases c2 : j = 2 ∧ i + 1 ≤ k ∧ k < 25
      · rw [if_pos c2, if_pos ⟨c2.1, by omega, c2.2.2⟩]
      · rw [if_neg c2]
        by_cases c3 : j = 2 ∧ k = i
        · obtain ⟨rfl, rfl⟩ := c3
          rw [if_pos ⟨rfl, Nat.le_refl _, hi⟩, pR_sm, ix_nI (by omega), up_same]
        · rw [if_neg (fun z => by omega), pR_off (by rw [ix_nI (by omega)]; omega)]
theorem copy_x (x y : SR) (j k : Nat) : (pL_copy x y).2 j k = if j = 2 ∧ k < 25 then x.2 2 k else if j = 1 ∧ k < 60 then x.2 1 k else if j = 0 ∧ k < 12 then x.2 0 k else y.2 j k := by
  rw [pL_copy, pL_copy_E52, ← nI_0, copy_L52 x 26 0 _ (by decide) (by decide), pL_copy_E27, ← nI_0, copy_L27 x 61 0 _ (by decide) (by decide), pL_copy_E3, ← nI_0, copy_L3 x 13 0 _ (by decide) (by decide)]
  simp only [Nat.zero_le, true_and]
theorem copy_0 (x y : SR) {k : Nat} (h : k < 12) : (pL_copy x y).2 0 k = x.2 0 k := by
  rw [copy_x, if_neg (fun z => absurd z.1 (by decide)), if_neg (fun z => absurd z.1 (by decide)), if_pos ⟨rfl, h⟩]
theorem copy_1 (x y : SR) {k : Nat} (h : k < 60) : (pL_copy x y).2 1 k = x.2 1 k := by
  rw [copy_x, if_neg (fun z => absurd z.1 (by decide)), if_pos ⟨rfl, h⟩]
theorem copy_2 (x y : SR) {k : Nat} (h : k < 25) : (pL_copy x y).2 2 k = x.2 2 k := by
  rw [copy_x, if_pos ⟨rfl, h⟩]
theorem HQ_copy {B : Int} {x y : SR} (h : HQ B x) : HQ B (pL_copy x y) := by
  unfold HQ at h ⊢
  rw [copy_0 x y (show ix 11 < 12 by decide), copy_0 x y (show ix 6 < 12 by decide), copy_0 x y (show ix 0 < 12 by decide), copy_0 x y (show ix 7 < 12 by decide)]
  refine ⟨h.1, h.2.1, h.2.2.1, h.2.2.2.1, fun k hk => ?_⟩
  rw [copy_2 x y (by omega)]
  exact h.2.2.2.2 k hk
theorem HQ_copy0 {B : Int} {x y : SR} (h : HQ B x) : HQ (B + Int32.toInt 0) (pL_copy x y) := (HQ_copy h).mono (by rw [show Int32.toInt 0 = 0 from rfl]; omega)
theorem HQ_more {B : Int} {x y : SR} {v : Int32} (h : HQ B x) (h4 : Int32.toInt (x.2 0 (ix 11)) ≤ 4) (hv : 0 ≤ Int32.toInt v) (hv2 : Int32.toInt v ≤ 11) : HQ B (pR (pR (pL_copy x y) 2 (5 * (x.2 0 (ix 11))) v) 0 11 (((pL_copy x y).2 0 (ix 11)) + 1)) := by
  obtain ⟨a, b, c, d, e⟩ := HQ.k1 (HQ_copy (y := y) h) (v := x.2 0 (ix 11)) (w := v) h.1.1 (by omega) ⟨hv, hv2⟩
  rw [copy_0 x y (show ix 11 < 12 by decide)]
  unfold HQ
  rw [pR_sm, pR_or (show (2 : Nat) ≠ 0 by decide), up_same, up_ne _ _ (show ix 6 ≠ ix 11 by decide), up_ne _ _ (show ix 0 ≠ ix 11 by decide), up_ne _ _ (show ix 7 ≠ ix 11 by decide)]
  have h0 := h.1.1
  rw [i_add1 (by omega) (by omega)]
  exact ⟨by omega, b, c, d, e⟩
theorem HQ_more0 {B : Int} {x y : SR} {v : Int32} (h : HQ B x) (h4 : Int32.toInt (x.2 0 (ix 11)) ≤ 4) (hv : 0 ≤ Int32.toInt v) (hv2 : Int32.toInt v ≤ 11) : HQ (B + Int32.toInt 0) (pR (pR (pL_copy x y) 2 (5 * (x.2 0 (ix 11))) v) 0 11 (((pL_copy x y).2 0 (ix 11)) + 1)) := (HQ_more h h4 hv hv2).mono (by rw [show Int32.toInt 0 = 0 from rfl]; omega)
theorem dn_lo {a b : Int} (h : b = a - 1) (h0 : 0 ≤ a) : -1 ≤ b := by omega
theorem dn_hi {a b c : Int} (h : b = a - 1) (h1 : a ≤ c) : b ≤ c := by omega
theorem dn_m {a b : Int} {n : Nat} (h : b = a - 1) (h1 : a + 1 < ((n + 1 : Nat) : Int)) : b + 1 < (n : Int) := by omega
section RTW
variable {p : Program} {l : Launch} {e : Env} {R : Room} {s : State} {m : MethodId} {args : Array Value} {below : List Frame} {meth : Method} {c : Code} {H : Heap} {locs : List Loc}
variable {cc : ByteArray} {pc : Nat} {ls : Array Slot} {G : va_G} {A : Nat → Prop} {cI cC cZ cR : ClassId} {ho : Nat → Nat} {hh : Nat → Ad} {hp h h2 : Ad} {xq : SR}
theorem rt_w {v : Int32} {t : TV} {k : SR} {res : Int32 × TV × SR} {rt : FieldType} (e9 : res = (v, t, k)) (hx : p.tables.exec = Jvm.exec) (hb : c.code = cc) (hr : meth.sig.returnType = some rt) (hlocks : meth.locks = false) (hP : va_P G vwCl (wL cI cC cZ cR ho hh hp h h2 t xq k) H) (hD : va_D A (wL cI cC cZ cR ho hh hp h h2 t xq k)) (hS : va_S A s.heap H locs) (hn : narrow rt (.int v) = .int v) (hdg : decode cc pc = .ok (.ireturn, 1)) :
    W p l e R s m args below meth c H locs 0 0 (MQ below (QiA G A res.1 (wL cI cC cZ cR ho hh hp h h2 res.2.1 xq res.2.2)) args s 0 0 A) (F0 m pc ls [.int v]) := by
  subst e9
  exact rt_i hx hb hr hlocks hP hD hS hn rfl hdg
end RTW

set_option maxHeartbeats 8000000 in
set_option maxRecDepth 100000 in
theorem ctL_copy (l : Launch) (G : va_G) (cI cC cZ cR : ClassId) (ho : Nat → Nat) (hh : Nat → Ad) (hp h h2 : Ad) (xt : TV) (xq xk : SR) : Ct l yL_copy wsL_copy (rmz 0 0) G (TY cI cC cZ cR) [.ref (h 1), .ref (h 2), .ref (h 3), .ref (h2 1), .ref (h2 2), .ref (h2 3)] (wL cI cC cZ cR ho hh hp h h2 xt xq xk) (Qv G (wL cI cC cZ cR ho hh hp h h2 xt xq xk) (wL cI cC cZ cR ho hh hp h h2 xt xq (pL_copy xq xk))) := by
  refine Ct.ofV (cc := cL_copy) (maxL := 7) (ret := none) (by decide) rfl rfl ?_
  intro p e s m below meth c A ls E0 hP hD hS hl
  obtain ⟨hx, hb, hr, hml, hlocks, hts, hown, hK, hN, hA⟩ := E0
  have hl : lv_has ls 7 [(0, .ref (h 1)), (1, .ref (h 2)), (2, .ref (h 3)), (3, .ref (h2 1)), (4, .ref (h2 2)), (5, .ref (h2 3))] := hl
  have lp_3 : ∀ (n : Nat) (v6 : Int32) (zt : TV) (zq : SR) (zk : SR), 0 ≤ Int32.toInt v6 → Int32.toInt v6 ≤ 12 → 12 - Int32.toInt v6 < (n : Int) → (∀ t : SR, t = pL_copy_L3 n v6 zq zk → ∀ (H : Heap) (locs : List Loc) (ls : Array Slot), va_P G vwCl (wL cI cC cZ cR ho hh hp h h2 zt zq t) H → va_D A (wL cI cC cZ cR ho hh hp h h2 zt zq t) → va_S A s.heap H locs → lv_has ls 7 [(0, .ref (h 1)), (1, .ref (h 2)), (2, .ref (h 3)), (3, .ref (h2 1)), (4, .ref (h2 2)), (5, .ref (h2 3))] → W p l e (rmz 0 0) s m ([.ref (h 1), .ref (h 2), .ref (h 3), .ref (h2 1), .ref (h2 2), .ref (h2 3)] : List Value).toArray below meth c H locs 0 0 (MQ below (QvA G A (wL cI cC cZ cR ho hh hp h h2 xt xq (pL_copy xq xk))) ([.ref (h 1), .ref (h 2), .ref (h 3), .ref (h2 1), .ref (h2 2), .ref (h2 3)] : List Value).toArray s 0 0 A) (F0 m 24 ls [])) → ∀ (H : Heap) (locs : List Loc) (ls : Array Slot), va_P G vwCl (wL cI cC cZ cR ho hh hp h h2 zt zq zk) H → va_D A (wL cI cC cZ cR ho hh hp h h2 zt zq zk) → va_S A s.heap H locs → lv_has ls 7 [(0, .ref (h 1)), (1, .ref (h 2)), (2, .ref (h 3)), (3, .ref (h2 1)), (4, .ref (h2 2)), (5, .ref (h2 3)), (6, .int v6)] → W p l e (rmz 0 0) s m ([.ref (h 1), .ref (h 2), .ref (h 3), .ref (h2 1), .ref (h2 2), .ref (h2 3)] : List Value).toArray below meth c H locs 0 0 (MQ below (QvA G A (wL cI cC cZ cR ho hh hp h h2 xt xq (pL_copy xq xk))) ([.ref (h 1), .ref (h 2), .ref (h 3), .ref (h2 1), .ref (h2 2), .ref (h2 3)] : List Value).toArray s 0 0 A) (F0 m 3 ls []) := by
    intro n
    induction n with
    | zero =>
      intro v6 zt zq zk g_0 g_1 hm
      exfalso; omega
    | succ n ih =>
      intro v6 zt zq zk g_0 g_1 hm hKK H locs ls hP hD hS hl
      refine lv_iload hx hb dL_copy_3 (lv_at hl 6 rfl) ?_
      refine lv_bipush (v := 12) hx hb dL_copy_5 (by decide) ?_
      refine lv_icmp_ge (tgt := 24) hx hb dL_copy_7 (by decide) (fun c_1 => ?_) (fun c_1 => ?_)
      · have t_1 := i_le (z := (12)) (w := (Int32.toInt v6)) c_1 (by decide) rfl
        exact hKK zk (show pL_copy_L3 (n + 1) v6 zq zk = zk by rw [pL_copy_L3, if_pos c_1]).symm _ _ _ hP hD hS (lv_sub hl [0, 1, 2, 3, 4, 5] rfl)
      · have t_1 := i_nle (z := (12)) (w := (Int32.toInt v6)) c_1 (by decide) rfl
        refine lv_aload_n hx hb dL_copy_10 rfl (lv_at hl 3 rfl) ?_
        refine lv_iload hx hb dL_copy_11 (lv_at hl 6 rfl) ?_
        refine lv_aload_n hx hb dL_copy_13 rfl (lv_at hl 0 rfl) ?_
        refine lv_iload hx hb dL_copy_14 (lv_at hl 6 rfl) ?_
        refine la_ld1 (v := zq.2 0 (ix v6)) hx hb hK hP 0 rfl (by first | with_reducible assumption | exact vp_in_iff.mpr ⟨by decide, by decide⟩ | exact vp_in_iff.mpr ⟨by omega, by omega⟩) rfl dL_copy_16 ?_
        refine la_st2 hx hb hK hP hD hS 0 rfl (by first | with_reducible assumption | exact vp_in_iff.mpr ⟨by decide, by decide⟩ | exact vp_in_iff.mpr ⟨by omega, by omega⟩) dL_copy_17 (fun H locs hP hD hS => ?_)
        refine lv_iinc (v := (v6 + 1)) (lv' := [(6, .int (v6 + 1)), (0, .ref (h 1)), (1, .ref (h 2)), (2, .ref (h 3)), (3, .ref (h2 1)), (4, .ref (h2 2)), (5, .ref (h2 3))]) hx hb dL_copy_18 hl (k := 6) rfl rfl (by decide) rfl (fun ls hl => ?_)
        have a_18 := i_add1 (a := v6) (by omega) (by omega)
        refine lv_goto (tgt := 3) hx hb dL_copy_21 (by decide) ?_
        exact ih (v6 + 1) zt zq (pR zk 0 v6 (zq.2 0 (ix v6))) (by omega) (by omega) (by omega) (fun t et => hKK t (et.trans (show pL_copy_L3 (n + 1) v6 zq zk = pL_copy_L3 n (v6 + 1) zq (pR zk 0 v6 (zq.2 0 (ix v6))) by rw [pL_copy_L3, if_neg c_1]).symm)) _ _ _ hP hD hS (lv_sub hl [1, 2, 3, 4, 5, 6, 0] rfl)
  have lp_27 : ∀ (n : Nat) (v6 : Int32) (zt : TV) (zq : SR) (zk : SR), 0 ≤ Int32.toInt v6 → Int32.toInt v6 ≤ 60 → 60 - Int32.toInt v6 < (n : Int) → (∀ t : SR, t = pL_copy_L27 n v6 zq zk → ∀ (H : Heap) (locs : List Loc) (ls : Array Slot), va_P G vwCl (wL cI cC cZ cR ho hh hp h h2 zt zq t) H → va_D A (wL cI cC cZ cR ho hh hp h h2 zt zq t) → va_S A s.heap H locs → lv_has ls 7 [(0, .ref (h 1)), (1, .ref (h 2)), (2, .ref (h 3)), (3, .ref (h2 1)), (4, .ref (h2 2)), (5, .ref (h2 3))] → W p l e (rmz 0 0) s m ([.ref (h 1), .ref (h 2), .ref (h 3), .ref (h2 1), .ref (h2 2), .ref (h2 3)] : List Value).toArray below meth c H locs 0 0 (MQ below (QvA G A (wL cI cC cZ cR ho hh hp h h2 xt xq (pL_copy xq xk))) ([.ref (h 1), .ref (h 2), .ref (h 3), .ref (h2 1), .ref (h2 2), .ref (h2 3)] : List Value).toArray s 0 0 A) (F0 m 49 ls [])) → ∀ (H : Heap) (locs : List Loc) (ls : Array Slot), va_P G vwCl (wL cI cC cZ cR ho hh hp h h2 zt zq zk) H → va_D A (wL cI cC cZ cR ho hh hp h h2 zt zq zk) → va_S A s.heap H locs → lv_has ls 7 [(0, .ref (h 1)), (1, .ref (h 2)), (2, .ref (h 3)), (3, .ref (h2 1)), (4, .ref (h2 2)), (5, .ref (h2 3)), (6, .int v6)] → W p l e (rmz 0 0) s m ([.ref (h 1), .ref (h 2), .ref (h 3), .ref (h2 1), .ref (h2 2), .ref (h2 3)] : List Value).toArray below meth c H locs 0 0 (MQ below (QvA G A (wL cI cC cZ cR ho hh hp h h2 xt xq (pL_copy xq xk))) ([.ref (h 1), .ref (h 2), .ref (h 3), .ref (h2 1), .ref (h2 2), .ref (h2 3)] : List Value).toArray s 0 0 A) (F0 m 27 ls []) := by
    intro n
    induction n with
    | zero =>
      intro v6 zt zq zk g_0 g_1 hm
      exfalso; omega
    | succ n ih =>
      intro v6 zt zq zk g_0 g_1 hm hKK H locs ls hP hD hS hl
      refine lv_iload hx hb dL_copy_27 (lv_at hl 6 rfl) ?_
      refine lv_bipush (v := 60) hx hb dL_copy_29 (by decide) ?_
      refine lv_icmp_ge (tgt := 49) hx hb dL_copy_31 (by decide) (fun c_2 => ?_) (fun c_2 => ?_)
      · have t_2 := i_le (z := (60)) (w := (Int32.toInt v6)) c_2 (by decide) rfl
        exact hKK zk (show pL_copy_L27 (n + 1) v6 zq zk = zk by rw [pL_copy_L27, if_pos c_2]).symm _ _ _ hP hD hS (lv_sub hl [0, 1, 2, 3, 4, 5] rfl)
      · have t_2 := i_nle (z := (60)) (w := (Int32.toInt v6)) c_2 (by decide) rfl
        refine lv_aload hx hb dL_copy_34 (lv_at hl 4 rfl) ?_
        refine lv_iload hx hb dL_copy_36 (lv_at hl 6 rfl) ?_
        refine lv_aload_n hx hb dL_copy_38 rfl (lv_at hl 1 rfl) ?_
        refine lv_iload hx hb dL_copy_39 (lv_at hl 6 rfl) ?_
        refine la_ld1 (v := zq.2 1 (ix v6)) hx hb hK hP 1 rfl (by first | with_reducible assumption | exact vp_in_iff.mpr ⟨by decide, by decide⟩ | exact vp_in_iff.mpr ⟨by omega, by omega⟩) rfl dL_copy_41 ?_
        refine la_st2 hx hb hK hP hD hS 1 rfl (by first | with_reducible assumption | exact vp_in_iff.mpr ⟨by decide, by decide⟩ | exact vp_in_iff.mpr ⟨by omega, by omega⟩) dL_copy_42 (fun H locs hP hD hS => ?_)
        refine lv_iinc (v := (v6 + 1)) (lv' := [(6, .int (v6 + 1)), (0, .ref (h 1)), (1, .ref (h 2)), (2, .ref (h 3)), (3, .ref (h2 1)), (4, .ref (h2 2)), (5, .ref (h2 3))]) hx hb dL_copy_43 hl (k := 6) rfl rfl (by decide) rfl (fun ls hl => ?_)
        have a_43 := i_add1 (a := v6) (by omega) (by omega)
        refine lv_goto (tgt := 27) hx hb dL_copy_46 (by decide) ?_
        exact ih (v6 + 1) zt zq (pR zk 1 v6 (zq.2 1 (ix v6))) (by omega) (by omega) (by omega) (fun t et => hKK t (et.trans (show pL_copy_L27 (n + 1) v6 zq zk = pL_copy_L27 n (v6 + 1) zq (pR zk 1 v6 (zq.2 1 (ix v6))) by rw [pL_copy_L27, if_neg c_2]).symm)) _ _ _ hP hD hS (lv_sub hl [1, 2, 3, 4, 5, 6, 0] rfl)
  have lp_52 : ∀ (n : Nat) (v6 : Int32) (zt : TV) (zq : SR) (zk : SR), 0 ≤ Int32.toInt v6 → Int32.toInt v6 ≤ 25 → 25 - Int32.toInt v6 < (n : Int) → (∀ t : SR, t = pL_copy_L52 n v6 zq zk → ∀ (H : Heap) (locs : List Loc) (ls : Array Slot), va_P G vwCl (wL cI cC cZ cR ho hh hp h h2 zt zq t) H → va_D A (wL cI cC cZ cR ho hh hp h h2 zt zq t) → va_S A s.heap H locs → lv_has ls 7 [(0, .ref (h 1)), (1, .ref (h 2)), (2, .ref (h 3)), (3, .ref (h2 1)), (4, .ref (h2 2)), (5, .ref (h2 3))] → W p l e (rmz 0 0) s m ([.ref (h 1), .ref (h 2), .ref (h 3), .ref (h2 1), .ref (h2 2), .ref (h2 3)] : List Value).toArray below meth c H locs 0 0 (MQ below (QvA G A (wL cI cC cZ cR ho hh hp h h2 xt xq (pL_copy xq xk))) ([.ref (h 1), .ref (h 2), .ref (h 3), .ref (h2 1), .ref (h2 2), .ref (h2 3)] : List Value).toArray s 0 0 A) (F0 m 74 ls [])) → ∀ (H : Heap) (locs : List Loc) (ls : Array Slot), va_P G vwCl (wL cI cC cZ cR ho hh hp h h2 zt zq zk) H → va_D A (wL cI cC cZ cR ho hh hp h h2 zt zq zk) → va_S A s.heap H locs → lv_has ls 7 [(0, .ref (h 1)), (1, .ref (h 2)), (2, .ref (h 3)), (3, .ref (h2 1)), (4, .ref (h2 2)), (5, .ref (h2 3)), (6, .int v6)] → W p l e (rmz 0 0) s m ([.ref (h 1), .ref (h 2), .ref (h 3), .ref (h2 1), .ref (h2 2), .ref (h2 3)] : List Value).toArray below meth c H locs 0 0 (MQ below (QvA G A (wL cI cC cZ cR ho hh hp h h2 xt xq (pL_copy xq xk))) ([.ref (h 1), .ref (h 2), .ref (h 3), .ref (h2 1), .ref (h2 2), .ref (h2 3)] : List Value).toArray s 0 0 A) (F0 m 52 ls []) := by
    intro n
    induction n with
    | zero =>
      intro v6 zt zq zk g_0 g_1 hm
      exfalso; omega
    | succ n ih =>
      intro v6 zt zq zk g_0 g_1 hm hKK H locs ls hP hD hS hl
      refine lv_iload hx hb dL_copy_52 (lv_at hl 6 rfl) ?_
      refine lv_bipush (v := 25) hx hb dL_copy_54 (by decide) ?_
      refine lv_icmp_ge (tgt := 74) hx hb dL_copy_56 (by decide) (fun c_3 => ?_) (fun c_3 => ?_)
      · have t_3 := i_le (z := (25)) (w := (Int32.toInt v6)) c_3 (by decide) rfl
        exact hKK zk (show pL_copy_L52 (n + 1) v6 zq zk = zk by rw [pL_copy_L52, if_pos c_3]).symm _ _ _ hP hD hS (lv_sub hl [0, 1, 2, 3, 4, 5] rfl)
      · have t_3 := i_nle (z := (25)) (w := (Int32.toInt v6)) c_3 (by decide) rfl
        refine lv_aload hx hb dL_copy_59 (lv_at hl 5 rfl) ?_
        refine lv_iload hx hb dL_copy_61 (lv_at hl 6 rfl) ?_
        refine lv_aload_n hx hb dL_copy_63 rfl (lv_at hl 2 rfl) ?_
        refine lv_iload hx hb dL_copy_64 (lv_at hl 6 rfl) ?_
        refine la_ld1 (v := zq.2 2 (ix v6)) hx hb hK hP 2 rfl (by first | with_reducible assumption | exact vp_in_iff.mpr ⟨by decide, by decide⟩ | exact vp_in_iff.mpr ⟨by omega, by omega⟩) rfl dL_copy_66 ?_
        refine la_st2 hx hb hK hP hD hS 2 rfl (by first | with_reducible assumption | exact vp_in_iff.mpr ⟨by decide, by decide⟩ | exact vp_in_iff.mpr ⟨by omega, by omega⟩) dL_copy_67 (fun H locs hP hD hS => ?_)
        refine lv_iinc (v := (v6 + 1)) (lv' := [(6, .int (v6 + 1)), (0, .ref (h 1)), (1, .ref (h 2)), (2, .ref (h 3)), (3, .ref (h2 1)), (4, .ref (h2 2)), (5, .ref (h2 3))]) hx hb dL_copy_68 hl (k := 6) rfl rfl (by decide) rfl (fun ls hl => ?_)
        have a_68 := i_add1 (a := v6) (by omega) (by omega)
        refine lv_goto (tgt := 52) hx hb dL_copy_71 (by decide) ?_
        exact ih (v6 + 1) zt zq (pR zk 2 v6 (zq.2 2 (ix v6))) (by omega) (by omega) (by omega) (fun t et => hKK t (et.trans (show pL_copy_L52 (n + 1) v6 zq zk = pL_copy_L52 n (v6 + 1) zq (pR zk 2 v6 (zq.2 2 (ix v6))) by rw [pL_copy_L52, if_neg c_3]).symm)) _ _ _ hP hD hS (lv_sub hl [1, 2, 3, 4, 5, 6, 0] rfl)
  refine lv_iconst (v := 0) hx hb dL_copy_0 (by decide) ?_
  refine lv_istore (lv' := [(6, .int 0), (0, .ref (h 1)), (1, .ref (h 2)), (2, .ref (h 3)), (3, .ref (h2 1)), (4, .ref (h2 2)), (5, .ref (h2 3))]) hx hb dL_copy_1 hl (by decide) rfl (fun ls hl => ?_)
  refine lp_3 13 0 xt xq xk (by first | decide | omega | assumption) (by first | decide | omega | assumption) (by decide) (fun t et H locs ls hP hD hS hl => ?_) _ _ _ hP hD hS (lv_sub hl [1, 2, 3, 4, 5, 6, 0] rfl)
  have et2 : t = (pL_copy_E3 xq xk) := et
  clear et
  subst et2
  refine lv_iconst (v := 0) hx hb dL_copy_24 (by decide) ?_
  refine lv_istore (lv' := [(6, .int 0), (0, .ref (h 1)), (1, .ref (h 2)), (2, .ref (h 3)), (3, .ref (h2 1)), (4, .ref (h2 2)), (5, .ref (h2 3))]) hx hb dL_copy_25 hl (by decide) rfl (fun ls hl => ?_)
  refine lp_27 61 0 xt xq (pL_copy_E3 xq xk) (by first | decide | omega | assumption) (by first | decide | omega | assumption) (by decide) (fun t et H locs ls hP hD hS hl => ?_) _ _ _ hP hD hS (lv_sub hl [1, 2, 3, 4, 5, 6, 0] rfl)
  have et2 : t = (pL_copy_E27 xq xk) := et
  clear et
  subst et2
  refine lv_iconst (v := 0) hx hb dL_copy_49 (by decide) ?_
  refine lv_istore (lv' := [(6, .int 0), (0, .ref (h 1)), (1, .ref (h 2)), (2, .ref (h 3)), (3, .ref (h2 1)), (4, .ref (h2 2)), (5, .ref (h2 3))]) hx hb dL_copy_50 hl (by decide) rfl (fun ls hl => ?_)
  refine lp_52 26 0 xt xq (pL_copy_E27 xq xk) (by first | decide | omega | assumption) (by first | decide | omega | assumption) (by decide) (fun t et H locs ls hP hD hS hl => ?_) _ _ _ hP hD hS (lv_sub hl [1, 2, 3, 4, 5, 6, 0] rfl)
  have et2 : t = (pL_copy_E52 xq xk) := et
  clear et
  subst et2
  exact rt_ev (fun r => (wL cI cC cZ cR ho hh hp h h2 xt xq r)) hx hb hr hlocks hP hD hS (show pL_copy xq xk = (pL_copy_E52 xq xk) by rw [pL_copy]) dL_copy_74
def pL_would_L29 (w8 : Int32) : Nat → Int32 → SR → (SR)
  | 0, v10, zk => zk
  | n + 1, v10, zk => if w8 ≤ v10 then zk
    else pL_would_L29 w8 n (v10 + 1) ((pL_hour zk).2)
def pL_would_E29 (a2 : Int32) (xq : SR) (xk : SR) : SR := pL_would_L29 (1 + (pL_low a2 48)) 49 0 (pL_copy xq xk)
def pL_would_J92s0 (v10 : Int32) (zq : SR) (zk : SR) : Int32 := if (zk.2 1 (ix ((5 * v10) + 4))) ≤ (zq.2 1 (ix ((5 * v10) + 4))) then 0
  else (1 <<< (v10 &&& 31))
def pL_would_L55 : Nat → Int32 → Int32 → SR → SR → (Int32)
  | 0, v9, v10, zq, zk => v9
  | n + 1, v9, v10, zq, zk => if 12 ≤ v10 then v9
    else pL_would_L55 n (v9 ||| (pL_would_J92s0 v10 zq zk)) (v10 + 1) zq zk
def pL_would_E55 (a2 : Int32) (xq : SR) (xk : SR) : Int32 := pL_would_L55 13 0 0 xq (pL_would_E29 a2 xq xk)
def pL_would_L140 (w10 : Int32) : Nat → Int32 → SR → SR → (Int32 × SR)
  | 0, v11, zq, zk => (v11, zk)
  | n + 1, v11, zq, zk => if (zq.2 1 (ix (5 * w10))) < 0 then (v11, zk)
    else if (zk.2 1 (ix ((5 * w10) + 2))) = 2 then (v11, zk)
      else if 97 ≤ v11 then (v11, zk)
        else pL_would_L140 w10 n (v11 + 1) zq ((pL_hour zk).2)
def pL_would_E140 (a2 : Int32) (xq : SR) (xk : SR) : Int32 × SR := pL_would_L140 (pL_low (a2 >>> ((5 : Int32) &&& 31)) 12) 98 0 xq (pL_copy xq (pL_would_E29 a2 xq xk))
def pL_would_J218s0 (a2 : Int32) (xq : SR) (xk : SR) : Int32 := if 0 ≤ (xq.2 1 (ix (5 * (pL_low (a2 >>> ((5 : Int32) &&& 31)) 12)))) then if ((pL_would_E140 a2 xq xk).1) ≤ 96 then ((pL_would_E140 a2 xq xk).1)
    else (-6)
  else (-1)
def pL_would_L277 (w8 : Int32) : Nat → Int32 → Int32 → SR → (Int32 × SR)
  | 0, v15, v16, zk => (v15, zk)
  | n + 1, v15, v16, zk => if w8 ≤ v16 then (v15, zk)
    else pL_would_L277 w8 n (v15 + ((pL_hour zk).1)) (v16 + 1) ((pL_hour zk).2)
def pL_would_E277 (w8 : Int32) (v14 : Int32) (zq : SR) (zk : SR) : Int32 × SR := pL_would_L277 w8 49 0 0 (pR (pR (pL_copy zq zk) 2 (5 * (zq.2 0 (ix 11))) v14) 0 11 (((pL_copy zq zk).2 0 (ix 11)) + 1))
def pL_would_J322v12 (w8 : Int32) (v12 : Int32) (v13 : Int32) (v14 : Int32) (zq : SR) (zk : SR) : Int32 := if v13 ≤ ((pL_would_E277 w8 v14 zq zk).1) then v14
  else v12
def pL_would_J322v13 (w8 : Int32) (v13 : Int32) (v14 : Int32) (zq : SR) (zk : SR) : Int32 := if v13 ≤ ((pL_would_E277 w8 v14 zq zk).1) then ((pL_would_E277 w8 v14 zq zk).1)
  else v13
def pL_would_L233 (w8 : Int32) : Nat → Int32 → Int32 → Int32 → SR → SR → (Int32 × Int32 × SR)
  | 0, v12, v13, v14, zq, zk => (v12, v13, zk)
  | n + 1, v12, v13, v14, zq, zk => if v14 < 0 then (v12, v13, zk)
    else pL_would_L233 w8 n (pL_would_J322v12 w8 v12 v13 v14 zq zk) (pL_would_J322v13 w8 v13 v14 zq zk) (v14 + (-1)) zq ((pL_would_E277 w8 v14 zq zk).2)
def pL_would_E233 (a2 : Int32) (xq : SR) (xk : SR) : Int32 × Int32 × SR := pL_would_L233 (1 + (pL_low a2 48)) 13 0 (-1) 11 xq ((pL_would_E140 a2 xq xk).2)
def pL_would (a2 : Int32) (xt : TV) (xq : SR) (xk : SR) : Int32 × TV × SR := if ((pX2_willBeWet (1 + (pL_low a2 48)) xt).1) = (pL_would_E55 a2 xq xk) then if ((pX2_coveredIn (pL_low (a2 >>> ((5 : Int32) &&& 31)) 12) ((pX2_willBeWet (1 + (pL_low a2 48)) xt).2)).1) = (pL_would_J218s0 a2 xq xk) then if ((pX2_bestPlace (1 + (pL_low a2 48)) 0 ((pX2_coveredIn (pL_low (a2 >>> ((5 : Int32) &&& 31)) 12) ((pX2_willBeWet (1 + (pL_low a2 48)) xt).2)).2)).1) = ((pL_would_E233 a2 xq xk).1) then if ((pX2_bestPlace (1 + (pL_low a2 48)) 1 ((pX2_bestPlace (1 + (pL_low a2 48)) 0 ((pX2_coveredIn (pL_low (a2 >>> ((5 : Int32) &&& 31)) 12) ((pX2_willBeWet (1 + (pL_low a2 48)) xt).2)).2)).2)).1) = ((pL_would_E233 a2 xq xk).2.1) then ((1 : Int32), (pX2_bestPlace (1 + (pL_low a2 48)) 1 ((pX2_bestPlace (1 + (pL_low a2 48)) 0 ((pX2_coveredIn (pL_low (a2 >>> ((5 : Int32) &&& 31)) 12) ((pX2_willBeWet (1 + (pL_low a2 48)) xt).2)).2)).2)).2, ((pL_would_E233 a2 xq xk).2.2))
        else ((0 : Int32), (pX2_bestPlace (1 + (pL_low a2 48)) 1 ((pX2_bestPlace (1 + (pL_low a2 48)) 0 ((pX2_coveredIn (pL_low (a2 >>> ((5 : Int32) &&& 31)) 12) ((pX2_willBeWet (1 + (pL_low a2 48)) xt).2)).2)).2)).2, ((pL_would_E233 a2 xq xk).2.2))
      else ((0 : Int32), (pX2_bestPlace (1 + (pL_low a2 48)) 0 ((pX2_coveredIn (pL_low (a2 >>> ((5 : Int32) &&& 31)) 12) ((pX2_willBeWet (1 + (pL_low a2 48)) xt).2)).2)).2, ((pL_would_E233 a2 xq xk).2.2))
    else ((0 : Int32), (pX2_coveredIn (pL_low (a2 >>> ((5 : Int32) &&& 31)) 12) ((pX2_willBeWet (1 + (pL_low a2 48)) xt).2)).2, ((pL_would_E140 a2 xq xk).2))
  else ((0 : Int32), (pX2_willBeWet (1 + (pL_low a2 48)) xt).2, (pL_would_E29 a2 xq xk))
