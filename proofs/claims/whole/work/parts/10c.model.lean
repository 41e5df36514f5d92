-- what the hours leave as it is: every array but the state, every number but 'chosen', and of the state the settings 0 and 6 and the keepers
def KP (x y : SR) : Prop := (∀ k, k ≠ 0 → y.2 k = x.2 k) ∧ (∀ q, q ≠ 2 → y.1 q = x.1 q) ∧ y.2 0 (ix 0) = x.2 0 (ix 0) ∧ y.2 0 (ix 6) = x.2 0 (ix 6) ∧ y.2 0 (ix 11) = x.2 0 (ix 11)
def MIa (f : Nat → Int32) : Prop := Int32.toInt (f (ix 0)) ≤ 12 ∧ 1 ≤ Int32.toInt (f (ix 6)) ∧ 0 ≤ Int32.toInt (f (ix 11)) ∧ Int32.toInt (f (ix 11)) ≤ 5
def MI (x : SR) : Prop := MIa (x.2 0)
theorem KP.rf (x : SR) : KP x x := ⟨fun _ _ => rfl, fun _ _ => rfl, rfl, rfl, rfl⟩
theorem KP.tr {x y z : SR} (h1 : KP x y) (h2 : KP y z) : KP x z := ⟨fun k hk => (h2.1 k hk).trans (h1.1 k hk), fun q hq => (h2.2.1 q hq).trans (h1.2.1 q hq), h2.2.2.1.trans h1.2.2.1, h2.2.2.2.1.trans h1.2.2.2.1, h2.2.2.2.2.trans h1.2.2.2.2⟩
theorem MI.of {x y : SR} (h : KP x y) (m : MI x) : MI y := by
  obtain ⟨-, -, h3, h4, h5⟩ := h
  unfold MI MIa at m ⊢
  rw [h3, h4, h5]
  exact m
theorem KP_S (x : SR) (v : Int32) : KP x (pS x 2 v) := ⟨fun _ _ => rfl, fun q hq => up_ne x.1 v hq, rfl, rfl, rfl⟩
theorem KP_R {x : SR} {i v : Int32} (h : ix i ≠ 0 ∧ ix i ≠ 6 ∧ ix i ≠ 11) : KP x (pR x 0 i v) :=
  ⟨fun k hk => up_ne x.2 _ hk, fun _ _ => rfl, up_ne (x.2 0) v (fun e => h.1 e.symm), up_ne (x.2 0) v (fun e => h.2.1 e.symm), up_ne (x.2 0) v (fun e => h.2.2 e.symm)⟩
theorem pp_ge {p k : Int32} (hp : vp_in p 12) (hk : vp_in k 6) : 12 ≤ ix (((12 : Int32) + (6 * p)) + k) := by
  obtain ⟨j, hj, rfl⟩ := vp_in_of hp (by decide)
  obtain ⟨i, hi, rfl⟩ := vp_in_of hk (by decide)
  rw [pp_nI, ix_nI (by omega)]
  omega
theorem kp_ge {p k : Int32} (hp : vp_in p 5) (hk : vp_in k 5) : 84 ≤ ix (((84 : Int32) + (5 * p)) + k) := by
  obtain ⟨j, hj, rfl⟩ := vp_in_of hp (by decide)
  obtain ⟨i, hi, rfl⟩ := vp_in_of hk (by decide)
  rw [kp_nI, ix_nI (by omega)]
  omega
theorem li_in {z : Int32} {n : Nat} (h : (decide (0 ≤ Int32.toInt z) && decide (Int32.toInt z < (n : Int))) = true) : vp_in z n := by
  rw [Bool.and_eq_true, decide_eq_true_eq, decide_eq_true_eq] at h
  exact vp_in_iff.mpr h
theorem setPiano_K {p k v : Int32} {x : SR} (hp : vp_in p 12) (hk : vp_in k 6) : KP x (pX3_setPiano p k v x) := by
  rw [pX3_setPiano]
  have := pp_ge hp hk
  exact KP_R ⟨by omega, by omega, by omega⟩
theorem adds_K {p k v : Int32} {x : SR} (hp : vp_in p 5) (hk : vp_in k 5) : KP x (pX3_adds p k v x) := by
  rw [pX3_adds]
  have := kp_ge hp hk
  exact KP_R ⟨by omega, by omega, by omega⟩
theorem nearest3_L (a1 a2 : Int32) (x : SR) : ∀ (n : Nat) (v3 v4 : Int32), (v3 = -6 ∨ vp_in v3 12) → 0 ≤ Int32.toInt v4 → Int32.toInt v4 ≤ 12 → (pX3_nearest_L6 a1 a2 n v3 v4 x = -6 ∨ vp_in (pX3_nearest_L6 a1 a2 n v3 v4 x) 12) := by
  intro n
  induction n with
  | zero => intro v3 v4 h3 h4 h5; rw [pX3_nearest_L6]; exact Or.inr (li_in (by decide))
  | succ n ih =>
    intro v3 v4 h3 h4 h5
    rw [pX3_nearest_L6]
    by_cases d_30 : 12 ≤ v4
    · rw [if_pos d_30]
      exact h3
    · rw [if_neg d_30]
      by_cases d_31 : (pX3_isWanted v4 a2 x) = 0
      · rw [if_pos d_31]
        have t9 := i_nle (z := 12) (w := Int32.toInt v4) (show ¬ (12 : Int32) ≤ v4 by assumption) (by decide) rfl; have a9 := i_add1 (a := v4) (by omega) (by omega); exact ih _ _ h3 (by omega) (by omega)
      · rw [if_neg d_31]
        by_cases d_32 : v3 = (-6)
        · rw [if_pos d_32]
          have t9 := i_nle (z := 12) (w := Int32.toInt v4) (show ¬ (12 : Int32) ≤ v4 by assumption) (by decide) rfl; have a9 := i_add1 (a := v4) (by omega) (by omega); exact ih _ _ (Or.inr (vp_in_iff.mpr ⟨by omega, by omega⟩)) (by omega) (by omega)
        · rw [if_neg d_32]
          by_cases d_33 : (pX3_size (v3 - (pX3_keeperPart a1 0 x))) ≤ (pX3_size (v4 - (pX3_keeperPart a1 0 x)))
          · rw [if_pos d_33]
            have t9 := i_nle (z := 12) (w := Int32.toInt v4) (show ¬ (12 : Int32) ≤ v4 by assumption) (by decide) rfl; have a9 := i_add1 (a := v4) (by omega) (by omega); exact ih _ _ h3 (by omega) (by omega)
          · rw [if_neg d_33]
            have t9 := i_nle (z := 12) (w := Int32.toInt v4) (show ¬ (12 : Int32) ≤ v4 by assumption) (by decide) rfl; have a9 := i_add1 (a := v4) (by omega) (by omega); exact ih _ _ (Or.inr (vp_in_iff.mpr ⟨by omega, by omega⟩)) (by omega) (by omega)
theorem nearest3_in {a1 a2 : Int32} {x : SR} (h : ¬ pX3_nearest a1 a2 x = -6) : vp_in (pX3_nearest a1 a2 x) 12 := by
  rw [pX3_nearest] at h ⊢
  exact (nearest3_L a1 a2 x 13 (-6) 0 (Or.inl rfl) (by decide) (by decide)).resolve_left h
def pX3_does (a1 : Int32) (a2 : Int32) (a3 : Int32) (x : SR) : SR := if (pX3_keeperPart a1 0 x) = a2 then if 3 ≤ a3 then (pX3_adds a1 3 1 (pX3_setPiano a2 1 (pX3_held ((pX3_pianoPart a2 1 x) + 10)) x))
    else if a3 = 1 then (pX3_adds a1 1 1 (pX3_setPiano a2 3 (3 - a3) x))
      else (pX3_adds a1 2 1 (pX3_setPiano a2 3 (3 - a3) x))
  else if a2 ≤ (pX3_keeperPart a1 0 x) then (pX3_adds a1 4 1 (pX3_adds a1 0 (-1) x))
    else (pX3_adds a1 4 1 (pX3_adds a1 0 1 x))
set_option maxHeartbeats 4000000 in
set_option maxRecDepth 100000 in
theorem ctX3_does (l : Launch) (G : va_G) (cI cC cZ cR : ClassId) (h : Ad) (x : SR) (a1 : Int32) (a2 : Int32) (a3 : Int32) (q_0 : vp_in a1 5) (q_1 : vp_in a2 12) : Ct l yX3_does wsX3_does (rmz 1 23) G (TY cI cC cZ cR) [.ref (h 0), .int a1, .int a2, .int a3] (wMo cI h x) (Qv G (wMo cI h x) (wMo cI h (pX3_does a1 a2 a3 x))) := by
  refine Ct.ofV (cc := cX3_does) (maxL := 4) (ret := none) (by decide) rfl rfl ?_
  intro p e s m below meth c A ls E0 hP hD hS hl
  obtain ⟨hx, hb, hr, hml, hlocks, hts, hown, hK, hN, hA⟩ := E0
  have hl : lv_has ls 4 [(0, .ref (h 0)), (1, .int a1), (2, .int a2), (3, .int a3)] := hl
  have hin : ∀ w ∈ wsX30, w ∈ wsX3_does := fun w hw => List.mem_cons_of_mem _ (List.mem_append_right _ (hw))
  generalize hres : pX3_does a1 a2 a3 x = res
  refine lv_aload_n hx hb dX3_does_0 rfl (lv_at hl 0 rfl) ?_
  refine lv_iload_n hx hb dX3_does_1 rfl (lv_at hl 1 rfl) ?_
  refine lv_iconst (v := 0) hx hb dX3_does_2 (by decide) ?_
  refine go_i hD hS hA (rn_V (As := [.int a1, .int 0]) (rest := []) ⟨hx, hb, hml, hown, hts⟩ (ctX3_keeperPart l G cI cC cZ cR h x a1 0 (by first | with_reducible assumption | exact vp_in_iff.mpr ⟨by decide, by decide⟩ | exact vp_in_iff.mpr ⟨by omega, by omega⟩ | exact isPlace_in (by with_reducible assumption) | exact has_in (by with_reducible assumption) | exact isPlace3_in (by with_reducible assumption) | exact isPiano_in (by with_reducible assumption) | exact isOpen_in (by with_reducible assumption) | exact nearest3_in (by with_reducible assumption)) (by first | with_reducible assumption | exact vp_in_iff.mpr ⟨by decide, by decide⟩ | exact vp_in_iff.mpr ⟨by omega, by omega⟩ | exact isPlace_in (by with_reducible assumption) | exact has_in (by with_reducible assumption) | exact isPlace3_in (by with_reducible assumption) | exact isPiano_in (by with_reducible assumption) | exact isOpen_in (by with_reducible assumption) | exact nearest3_in (by with_reducible assumption))) (cwV 2 hts gX3_does_X3_keeperPart rfl rfl rfl (by decide +kernel) ⟨Nat.le_of_ble_eq_true rfl, Nat.le_of_ble_eq_true rfl⟩) (md_recv hK hP rfl) hK hP hD hN rfl hl.1 rfl (Nat.le_of_ble_eq_true rfl) dX3_does_3) (fun H locs hP hD hS => ?_)
  refine lv_iload_n hx hb dX3_does_6 rfl (lv_at hl 2 rfl) ?_
  refine lv_icmp_eq (tgt := 41) hx hb dX3_does_7 (by decide) (fun c_1 => ?_) (fun c_1 => ?_)
  · refine lv_iload_n hx hb dX3_does_41 rfl (lv_at hl 3 rfl) ?_
    refine lv_iconst (v := 3) hx hb dX3_does_42 (by decide) ?_
    refine lv_icmp_ge (tgt := 74) hx hb dX3_does_43 (by decide) (fun c_2 => ?_) (fun c_2 => ?_)
    · have t_2 := i_le (z := (3)) (w := (Int32.toInt a3)) c_2 (by decide) rfl
      refine lv_aload_n hx hb dX3_does_74 rfl (lv_at hl 0 rfl) ?_
      refine lv_iload_n hx hb dX3_does_75 rfl (lv_at hl 2 rfl) ?_
      refine lv_iconst (v := 1) hx hb dX3_does_76 (by decide) ?_
      refine lv_aload_n hx hb dX3_does_77 rfl (lv_at hl 0 rfl) ?_
      refine lv_iload_n hx hb dX3_does_78 rfl (lv_at hl 2 rfl) ?_
      refine lv_iconst (v := 1) hx hb dX3_does_79 (by decide) ?_
      refine go_i hD hS hA (rn_V (As := [.int a2, .int 1]) (rest := [.int 1, .int a2, .ref (h 0)]) ⟨hx, hb, hml, hown, hts⟩ (ctX3_pianoPart l G cI cC cZ cR h x a2 1 (by first | with_reducible assumption | exact vp_in_iff.mpr ⟨by decide, by decide⟩ | exact vp_in_iff.mpr ⟨by omega, by omega⟩ | exact isPlace_in (by with_reducible assumption) | exact has_in (by with_reducible assumption) | exact isPlace3_in (by with_reducible assumption) | exact isPiano_in (by with_reducible assumption) | exact isOpen_in (by with_reducible assumption) | exact nearest3_in (by with_reducible assumption)) (by first | with_reducible assumption | exact vp_in_iff.mpr ⟨by decide, by decide⟩ | exact vp_in_iff.mpr ⟨by omega, by omega⟩ | exact isPlace_in (by with_reducible assumption) | exact has_in (by with_reducible assumption) | exact isPlace3_in (by with_reducible assumption) | exact isPiano_in (by with_reducible assumption) | exact isOpen_in (by with_reducible assumption) | exact nearest3_in (by with_reducible assumption))) (cwV 2 hts gX3_does_X3_pianoPart rfl rfl rfl (by decide +kernel) ⟨Nat.le_of_ble_eq_true rfl, Nat.le_of_ble_eq_true rfl⟩) (md_recv hK hP rfl) hK hP hD hN rfl hl.1 rfl (Nat.le_of_ble_eq_true rfl) dX3_does_80) (fun H locs hP hD hS => ?_)
      refine lv_bipush (v := 10) hx hb dX3_does_83 (by decide) ?_
      refine lv_iadd hx hb dX3_does_85 ?_
      refine gn_i hP hS hA (rn_S (As := [.int ((pX3_pianoPart a2 1 x) + 10)]) (rest := [.int 1, .int a2, .ref (h 0)]) ⟨hx, hb, hml, hown, hts⟩ (ctX3_held l G cI cC cZ cR ((pX3_pianoPart a2 1 x) + 10)) (va_cwS 1 hts gX3_does_X3_held rfl rfl rfl (by decide +kernel) ⟨Nat.le_of_ble_eq_true rfl, Nat.le_of_ble_eq_true rfl⟩) hK nilP (nilD (A := A)) hN rfl hl.1 rfl (Nat.le_of_ble_eq_true rfl) dX3_does_86) (fun H locs hP hS => ?_)
      refine go_v hD hS hA (rn_V (As := [.int a2, .int 1, .int (pX3_held ((pX3_pianoPart a2 1 x) + 10))]) (rest := []) ⟨hx, hb, hml, hown, hts⟩ (ctX3_setPiano l G cI cC cZ cR h x a2 1 (pX3_held ((pX3_pianoPart a2 1 x) + 10)) (by first | with_reducible assumption | exact vp_in_iff.mpr ⟨by decide, by decide⟩ | exact vp_in_iff.mpr ⟨by omega, by omega⟩ | exact isPlace_in (by with_reducible assumption) | exact has_in (by with_reducible assumption) | exact isPlace3_in (by with_reducible assumption) | exact isPiano_in (by with_reducible assumption) | exact isOpen_in (by with_reducible assumption) | exact nearest3_in (by with_reducible assumption)) (by first | with_reducible assumption | exact vp_in_iff.mpr ⟨by decide, by decide⟩ | exact vp_in_iff.mpr ⟨by omega, by omega⟩ | exact isPlace_in (by with_reducible assumption) | exact has_in (by with_reducible assumption) | exact isPlace3_in (by with_reducible assumption) | exact isPiano_in (by with_reducible assumption) | exact isOpen_in (by with_reducible assumption) | exact nearest3_in (by with_reducible assumption))) (cwV 3 hts gX3_does_X3_setPiano rfl rfl rfl (by decide +kernel) ⟨Nat.le_of_ble_eq_true rfl, Nat.le_of_ble_eq_true rfl⟩) (md_recv hK hP rfl) hK hP hD hN rfl hl.1 rfl (Nat.le_of_ble_eq_true rfl) dX3_does_89) (fun H locs hP hD hS => ?_)
      refine lv_aload_n hx hb dX3_does_92 rfl (lv_at hl 0 rfl) ?_
      refine lv_iload_n hx hb dX3_does_93 rfl (lv_at hl 1 rfl) ?_
      refine lv_iconst (v := 3) hx hb dX3_does_94 (by decide) ?_
      refine lv_iconst (v := 1) hx hb dX3_does_95 (by decide) ?_
      refine go_v hD hS hA (rn_V (As := [.int a1, .int 3, .int 1]) (rest := []) ⟨hx, hb, hml, hown, hts⟩ (ctX3_adds l G cI cC cZ cR h (pX3_setPiano a2 1 (pX3_held ((pX3_pianoPart a2 1 x) + 10)) x) a1 3 1 (by first | with_reducible assumption | exact vp_in_iff.mpr ⟨by decide, by decide⟩ | exact vp_in_iff.mpr ⟨by omega, by omega⟩ | exact isPlace_in (by with_reducible assumption) | exact has_in (by with_reducible assumption) | exact isPlace3_in (by with_reducible assumption) | exact isPiano_in (by with_reducible assumption) | exact isOpen_in (by with_reducible assumption) | exact nearest3_in (by with_reducible assumption)) (by first | with_reducible assumption | exact vp_in_iff.mpr ⟨by decide, by decide⟩ | exact vp_in_iff.mpr ⟨by omega, by omega⟩ | exact isPlace_in (by with_reducible assumption) | exact has_in (by with_reducible assumption) | exact isPlace3_in (by with_reducible assumption) | exact isPiano_in (by with_reducible assumption) | exact isOpen_in (by with_reducible assumption) | exact nearest3_in (by with_reducible assumption))) (cwV 3 hts gX3_does_X3_adds rfl rfl rfl (by decide +kernel) ⟨Nat.le_of_ble_eq_true rfl, Nat.le_of_ble_eq_true rfl⟩) (md_recv hK hP rfl) hK hP hD hN rfl hl.1 rfl (Nat.le_of_ble_eq_true rfl) dX3_does_96) (fun H locs hP hD hS => ?_)
      exact rt_s hx hb hr hlocks hP hD hS ((show pX3_does a1 a2 a3 x = (pX3_adds a1 3 1 (pX3_setPiano a2 1 (pX3_held ((pX3_pianoPart a2 1 x) + 10)) x)) by rw [pX3_does, if_pos c_1, if_pos c_2]).symm.trans hres |>.symm) dX3_does_99
    · have t_2 := i_nle (z := (3)) (w := (Int32.toInt a3)) c_2 (by decide) rfl
      refine lv_aload_n hx hb dX3_does_46 rfl (lv_at hl 0 rfl) ?_
      refine lv_iload_n hx hb dX3_does_47 rfl (lv_at hl 2 rfl) ?_
      refine lv_iconst (v := 3) hx hb dX3_does_48 (by decide) ?_
      refine lv_iconst (v := 3) hx hb dX3_does_49 (by decide) ?_
      refine lv_iload_n hx hb dX3_does_50 rfl (lv_at hl 3 rfl) ?_
      refine lv_isub hx hb dX3_does_51 ?_
      refine go_v hD hS hA (rn_V (As := [.int a2, .int 3, .int (3 - a3)]) (rest := []) ⟨hx, hb, hml, hown, hts⟩ (ctX3_setPiano l G cI cC cZ cR h x a2 3 (3 - a3) (by first | with_reducible assumption | exact vp_in_iff.mpr ⟨by decide, by decide⟩ | exact vp_in_iff.mpr ⟨by omega, by omega⟩ | exact isPlace_in (by with_reducible assumption) | exact has_in (by with_reducible assumption) | exact isPlace3_in (by with_reducible assumption) | exact isPiano_in (by with_reducible assumption) | exact isOpen_in (by with_reducible assumption) | exact nearest3_in (by with_reducible assumption)) (by first | with_reducible assumption | exact vp_in_iff.mpr ⟨by decide, by decide⟩ | exact vp_in_iff.mpr ⟨by omega, by omega⟩ | exact isPlace_in (by with_reducible assumption) | exact has_in (by with_reducible assumption) | exact isPlace3_in (by with_reducible assumption) | exact isPiano_in (by with_reducible assumption) | exact isOpen_in (by with_reducible assumption) | exact nearest3_in (by with_reducible assumption))) (cwV 3 hts gX3_does_X3_setPiano rfl rfl rfl (by decide +kernel) ⟨Nat.le_of_ble_eq_true rfl, Nat.le_of_ble_eq_true rfl⟩) (md_recv hK hP rfl) hK hP hD hN rfl hl.1 rfl (Nat.le_of_ble_eq_true rfl) dX3_does_52) (fun H locs hP hD hS => ?_)
      refine lv_aload_n hx hb dX3_does_55 rfl (lv_at hl 0 rfl) ?_
      refine lv_iload_n hx hb dX3_does_56 rfl (lv_at hl 1 rfl) ?_
      refine lv_iload_n hx hb dX3_does_57 rfl (lv_at hl 3 rfl) ?_
      refine lv_iconst (v := 1) hx hb dX3_does_58 (by decide) ?_
      refine lv_icmp_ne (tgt := 66) hx hb dX3_does_59 (by decide) (fun c_3 => ?_) (fun c_3 => ?_)
      · refine lv_iconst (v := 2) hx hb dX3_does_66 (by decide) ?_
        refine lv_iconst (v := 1) hx hb dX3_does_67 (by decide) ?_
        refine go_v hD hS hA (rn_V (As := [.int a1, .int 2, .int 1]) (rest := []) ⟨hx, hb, hml, hown, hts⟩ (ctX3_adds l G cI cC cZ cR h (pX3_setPiano a2 3 (3 - a3) x) a1 2 1 (by first | with_reducible assumption | exact vp_in_iff.mpr ⟨by decide, by decide⟩ | exact vp_in_iff.mpr ⟨by omega, by omega⟩ | exact isPlace_in (by with_reducible assumption) | exact has_in (by with_reducible assumption) | exact isPlace3_in (by with_reducible assumption) | exact isPiano_in (by with_reducible assumption) | exact isOpen_in (by with_reducible assumption) | exact nearest3_in (by with_reducible assumption)) (by first | with_reducible assumption | exact vp_in_iff.mpr ⟨by decide, by decide⟩ | exact vp_in_iff.mpr ⟨by omega, by omega⟩ | exact isPlace_in (by with_reducible assumption) | exact has_in (by with_reducible assumption) | exact isPlace3_in (by with_reducible assumption) | exact isPiano_in (by with_reducible assumption) | exact isOpen_in (by with_reducible assumption) | exact nearest3_in (by with_reducible assumption))) (cwV 3 hts gX3_does_X3_adds rfl rfl rfl (by decide +kernel) ⟨Nat.le_of_ble_eq_true rfl, Nat.le_of_ble_eq_true rfl⟩) (md_recv hK hP rfl) hK hP hD hN rfl hl.1 rfl (Nat.le_of_ble_eq_true rfl) dX3_does_68) (fun H locs hP hD hS => ?_)
        refine lv_goto (tgt := 99) hx hb dX3_does_71 (by decide) ?_
        exact rt_s hx hb hr hlocks hP hD hS ((show pX3_does a1 a2 a3 x = (pX3_adds a1 2 1 (pX3_setPiano a2 3 (3 - a3) x)) by rw [pX3_does, if_pos c_1, if_neg c_2, if_neg c_3]).symm.trans hres |>.symm) dX3_does_99
      · refine lv_iconst (v := 1) hx hb dX3_does_62 (by decide) ?_
        refine lv_goto (tgt := 67) hx hb dX3_does_63 (by decide) ?_
        refine lv_iconst (v := 1) hx hb dX3_does_67 (by decide) ?_
        refine go_v hD hS hA (rn_V (As := [.int a1, .int 1, .int 1]) (rest := []) ⟨hx, hb, hml, hown, hts⟩ (ctX3_adds l G cI cC cZ cR h (pX3_setPiano a2 3 (3 - a3) x) a1 1 1 (by first | with_reducible assumption | exact vp_in_iff.mpr ⟨by decide, by decide⟩ | exact vp_in_iff.mpr ⟨by omega, by omega⟩ | exact isPlace_in (by with_reducible assumption) | exact has_in (by with_reducible assumption) | exact isPlace3_in (by with_reducible assumption) | exact isPiano_in (by with_reducible assumption) | exact isOpen_in (by with_reducible assumption) | exact nearest3_in (by with_reducible assumption)) (by first | with_reducible assumption | exact vp_in_iff.mpr ⟨by decide, by decide⟩ | exact vp_in_iff.mpr ⟨by omega, by omega⟩ | exact isPlace_in (by with_reducible assumption) | exact has_in (by with_reducible assumption) | exact isPlace3_in (by with_reducible assumption) | exact isPiano_in (by with_reducible assumption) | exact isOpen_in (by with_reducible assumption) | exact nearest3_in (by with_reducible assumption))) (cwV 3 hts gX3_does_X3_adds rfl rfl rfl (by decide +kernel) ⟨Nat.le_of_ble_eq_true rfl, Nat.le_of_ble_eq_true rfl⟩) (md_recv hK hP rfl) hK hP hD hN rfl hl.1 rfl (Nat.le_of_ble_eq_true rfl) dX3_does_68) (fun H locs hP hD hS => ?_)
        refine lv_goto (tgt := 99) hx hb dX3_does_71 (by decide) ?_
        exact rt_s hx hb hr hlocks hP hD hS ((show pX3_does a1 a2 a3 x = (pX3_adds a1 1 1 (pX3_setPiano a2 3 (3 - a3) x)) by rw [pX3_does, if_pos c_1, if_neg c_2, if_pos c_3]).symm.trans hres |>.symm) dX3_does_99
  · refine lv_aload_n hx hb dX3_does_10 rfl (lv_at hl 0 rfl) ?_
    refine lv_iload_n hx hb dX3_does_11 rfl (lv_at hl 1 rfl) ?_
    refine lv_iconst (v := 0) hx hb dX3_does_12 (by decide) ?_
    refine lv_aload_n hx hb dX3_does_13 rfl (lv_at hl 0 rfl) ?_
    refine lv_iload_n hx hb dX3_does_14 rfl (lv_at hl 1 rfl) ?_
    refine lv_iconst (v := 0) hx hb dX3_does_15 (by decide) ?_
    refine go_i hD hS hA (rn_V (As := [.int a1, .int 0]) (rest := [.int 0, .int a1, .ref (h 0)]) ⟨hx, hb, hml, hown, hts⟩ (ctX3_keeperPart l G cI cC cZ cR h x a1 0 (by first | with_reducible assumption | exact vp_in_iff.mpr ⟨by decide, by decide⟩ | exact vp_in_iff.mpr ⟨by omega, by omega⟩ | exact isPlace_in (by with_reducible assumption) | exact has_in (by with_reducible assumption) | exact isPlace3_in (by with_reducible assumption) | exact isPiano_in (by with_reducible assumption) | exact isOpen_in (by with_reducible assumption) | exact nearest3_in (by with_reducible assumption)) (by first | with_reducible assumption | exact vp_in_iff.mpr ⟨by decide, by decide⟩ | exact vp_in_iff.mpr ⟨by omega, by omega⟩ | exact isPlace_in (by with_reducible assumption) | exact has_in (by with_reducible assumption) | exact isPlace3_in (by with_reducible assumption) | exact isPiano_in (by with_reducible assumption) | exact isOpen_in (by with_reducible assumption) | exact nearest3_in (by with_reducible assumption))) (cwV 2 hts gX3_does_X3_keeperPart rfl rfl rfl (by decide +kernel) ⟨Nat.le_of_ble_eq_true rfl, Nat.le_of_ble_eq_true rfl⟩) (md_recv hK hP rfl) hK hP hD hN rfl hl.1 rfl (Nat.le_of_ble_eq_true rfl) dX3_does_16) (fun H locs hP hD hS => ?_)
    refine lv_iload_n hx hb dX3_does_19 rfl (lv_at hl 2 rfl) ?_
    refine lv_icmp_ge (tgt := 27) hx hb dX3_does_20 (by decide) (fun c_4 => ?_) (fun c_4 => ?_)
    · have t_4 := i_le (z := (Int32.toInt a2)) (w := (Int32.toInt (pX3_keeperPart a1 0 x))) c_4 rfl rfl
      refine lv_iconst (v := (-1)) hx hb dX3_does_27 (by decide) ?_
      refine go_v hD hS hA (rn_V (As := [.int a1, .int 0, .int (-1)]) (rest := []) ⟨hx, hb, hml, hown, hts⟩ (ctX3_adds l G cI cC cZ cR h x a1 0 (-1) (by first | with_reducible assumption | exact vp_in_iff.mpr ⟨by decide, by decide⟩ | exact vp_in_iff.mpr ⟨by omega, by omega⟩ | exact isPlace_in (by with_reducible assumption) | exact has_in (by with_reducible assumption) | exact isPlace3_in (by with_reducible assumption) | exact isPiano_in (by with_reducible assumption) | exact isOpen_in (by with_reducible assumption) | exact nearest3_in (by with_reducible assumption)) (by first | with_reducible assumption | exact vp_in_iff.mpr ⟨by decide, by decide⟩ | exact vp_in_iff.mpr ⟨by omega, by omega⟩ | exact isPlace_in (by with_reducible assumption) | exact has_in (by with_reducible assumption) | exact isPlace3_in (by with_reducible assumption) | exact isPiano_in (by with_reducible assumption) | exact isOpen_in (by with_reducible assumption) | exact nearest3_in (by with_reducible assumption))) (cwV 3 hts gX3_does_X3_adds rfl rfl rfl (by decide +kernel) ⟨Nat.le_of_ble_eq_true rfl, Nat.le_of_ble_eq_true rfl⟩) (md_recv hK hP rfl) hK hP hD hN rfl hl.1 rfl (Nat.le_of_ble_eq_true rfl) dX3_does_28) (fun H locs hP hD hS => ?_)
      refine lv_aload_n hx hb dX3_does_31 rfl (lv_at hl 0 rfl) ?_
      refine lv_iload_n hx hb dX3_does_32 rfl (lv_at hl 1 rfl) ?_
      refine lv_iconst (v := 4) hx hb dX3_does_33 (by decide) ?_
      refine lv_iconst (v := 1) hx hb dX3_does_34 (by decide) ?_
      refine go_v hD hS hA (rn_V (As := [.int a1, .int 4, .int 1]) (rest := []) ⟨hx, hb, hml, hown, hts⟩ (ctX3_adds l G cI cC cZ cR h (pX3_adds a1 0 (-1) x) a1 4 1 (by first | with_reducible assumption | exact vp_in_iff.mpr ⟨by decide, by decide⟩ | exact vp_in_iff.mpr ⟨by omega, by omega⟩ | exact isPlace_in (by with_reducible assumption) | exact has_in (by with_reducible assumption) | exact isPlace3_in (by with_reducible assumption) | exact isPiano_in (by with_reducible assumption) | exact isOpen_in (by with_reducible assumption) | exact nearest3_in (by with_reducible assumption)) (by first | with_reducible assumption | exact vp_in_iff.mpr ⟨by decide, by decide⟩ | exact vp_in_iff.mpr ⟨by omega, by omega⟩ | exact isPlace_in (by with_reducible assumption) | exact has_in (by with_reducible assumption) | exact isPlace3_in (by with_reducible assumption) | exact isPiano_in (by with_reducible assumption) | exact isOpen_in (by with_reducible assumption) | exact nearest3_in (by with_reducible assumption))) (cwV 3 hts gX3_does_X3_adds rfl rfl rfl (by decide +kernel) ⟨Nat.le_of_ble_eq_true rfl, Nat.le_of_ble_eq_true rfl⟩) (md_recv hK hP rfl) hK hP hD hN rfl hl.1 rfl (Nat.le_of_ble_eq_true rfl) dX3_does_35) (fun H locs hP hD hS => ?_)
      refine lv_goto (tgt := 99) hx hb dX3_does_38 (by decide) ?_
      exact rt_s hx hb hr hlocks hP hD hS ((show pX3_does a1 a2 a3 x = (pX3_adds a1 4 1 (pX3_adds a1 0 (-1) x)) by rw [pX3_does, if_neg c_1, if_pos c_4]).symm.trans hres |>.symm) dX3_does_99
    · have t_4 := i_nle (z := (Int32.toInt a2)) (w := (Int32.toInt (pX3_keeperPart a1 0 x))) c_4 rfl rfl
      refine lv_iconst (v := 1) hx hb dX3_does_23 (by decide) ?_
      refine lv_goto (tgt := 28) hx hb dX3_does_24 (by decide) ?_
      refine go_v hD hS hA (rn_V (As := [.int a1, .int 0, .int 1]) (rest := []) ⟨hx, hb, hml, hown, hts⟩ (ctX3_adds l G cI cC cZ cR h x a1 0 1 (by first | with_reducible assumption | exact vp_in_iff.mpr ⟨by decide, by decide⟩ | exact vp_in_iff.mpr ⟨by omega, by omega⟩ | exact isPlace_in (by with_reducible assumption) | exact has_in (by with_reducible assumption) | exact isPlace3_in (by with_reducible assumption) | exact isPiano_in (by with_reducible assumption) | exact isOpen_in (by with_reducible assumption) | exact nearest3_in (by with_reducible assumption)) (by first | with_reducible assumption | exact vp_in_iff.mpr ⟨by decide, by decide⟩ | exact vp_in_iff.mpr ⟨by omega, by omega⟩ | exact isPlace_in (by with_reducible assumption) | exact has_in (by with_reducible assumption) | exact isPlace3_in (by with_reducible assumption) | exact isPiano_in (by with_reducible assumption) | exact isOpen_in (by with_reducible assumption) | exact nearest3_in (by with_reducible assumption))) (cwV 3 hts gX3_does_X3_adds rfl rfl rfl (by decide +kernel) ⟨Nat.le_of_ble_eq_true rfl, Nat.le_of_ble_eq_true rfl⟩) (md_recv hK hP rfl) hK hP hD hN rfl hl.1 rfl (Nat.le_of_ble_eq_true rfl) dX3_does_28) (fun H locs hP hD hS => ?_)
      refine lv_aload_n hx hb dX3_does_31 rfl (lv_at hl 0 rfl) ?_
      refine lv_iload_n hx hb dX3_does_32 rfl (lv_at hl 1 rfl) ?_
      refine lv_iconst (v := 4) hx hb dX3_does_33 (by decide) ?_
      refine lv_iconst (v := 1) hx hb dX3_does_34 (by decide) ?_
      refine go_v hD hS hA (rn_V (As := [.int a1, .int 4, .int 1]) (rest := []) ⟨hx, hb, hml, hown, hts⟩ (ctX3_adds l G cI cC cZ cR h (pX3_adds a1 0 1 x) a1 4 1 (by first | with_reducible assumption | exact vp_in_iff.mpr ⟨by decide, by decide⟩ | exact vp_in_iff.mpr ⟨by omega, by omega⟩ | exact isPlace_in (by with_reducible assumption) | exact has_in (by with_reducible assumption) | exact isPlace3_in (by with_reducible assumption) | exact isPiano_in (by with_reducible assumption) | exact isOpen_in (by with_reducible assumption) | exact nearest3_in (by with_reducible assumption)) (by first | with_reducible assumption | exact vp_in_iff.mpr ⟨by decide, by decide⟩ | exact vp_in_iff.mpr ⟨by omega, by omega⟩ | exact isPlace_in (by with_reducible assumption) | exact has_in (by with_reducible assumption) | exact isPlace3_in (by with_reducible assumption) | exact isPiano_in (by with_reducible assumption) | exact isOpen_in (by with_reducible assumption) | exact nearest3_in (by with_reducible assumption))) (cwV 3 hts gX3_does_X3_adds rfl rfl rfl (by decide +kernel) ⟨Nat.le_of_ble_eq_true rfl, Nat.le_of_ble_eq_true rfl⟩) (md_recv hK hP rfl) hK hP hD hN rfl hl.1 rfl (Nat.le_of_ble_eq_true rfl) dX3_does_35) (fun H locs hP hD hS => ?_)
      refine lv_goto (tgt := 99) hx hb dX3_does_38 (by decide) ?_
      exact rt_s hx hb hr hlocks hP hD hS ((show pX3_does a1 a2 a3 x = (pX3_adds a1 4 1 (pX3_adds a1 0 1 x)) by rw [pX3_does, if_neg c_1, if_neg c_4]).symm.trans hres |>.symm) dX3_does_99
theorem does_K {a1 a2 a3 : Int32} {x : SR} (hk : vp_in a1 5) (hp : vp_in a2 12) : KP x (pX3_does a1 a2 a3 x) := by
  rw [pX3_does]
  by_cases d_34 : (pX3_keeperPart a1 0 x) = a2
  · rw [if_pos d_34]
    by_cases d_35 : 3 ≤ a3
    · rw [if_pos d_35]
      exact (setPiano_K hp (li_in (by decide))).tr (adds_K hk (li_in (by decide)))
    · rw [if_neg d_35]
      by_cases d_36 : a3 = 1
      · rw [if_pos d_36]
        exact (setPiano_K hp (li_in (by decide))).tr (adds_K hk (li_in (by decide)))
      · rw [if_neg d_36]
        exact (setPiano_K hp (li_in (by decide))).tr (adds_K hk (li_in (by decide)))
  · rw [if_neg d_34]
    by_cases d_37 : a2 ≤ (pX3_keeperPart a1 0 x)
    · rw [if_pos d_37]
      exact (adds_K hk (li_in (by decide))).tr (adds_K hk (li_in (by decide)))
    · rw [if_neg d_37]
      exact (adds_K hk (li_in (by decide))).tr (adds_K hk (li_in (by decide)))
def pX3_keeperGoes (a1 : Int32) (a2 : Int32) (x : SR) : SR := if a2 = 0 then if (pX3_nearest a1 2 x) = (-6) then if (pX3_nearest a1 3 x) = (-6) then x
      else (pX3_does a1 (pX3_nearest a1 3 x) 3 (pS x 2 ((x.1 2) ||| (1 <<< ((pX3_nearest a1 3 x) &&& 31)))))
    else (pX3_does a1 (pX3_nearest a1 2 x) 2 (pS x 2 ((x.1 2) ||| (1 <<< ((pX3_nearest a1 2 x) &&& 31)))))
  else if (pX3_nearest a1 1 x) = (-6) then if (pX3_nearest a1 3 x) = (-6) then x
      else (pX3_does a1 (pX3_nearest a1 3 x) 3 (pS x 2 ((x.1 2) ||| (1 <<< ((pX3_nearest a1 3 x) &&& 31)))))
    else (pX3_does a1 (pX3_nearest a1 1 x) 1 (pS x 2 ((x.1 2) ||| (1 <<< ((pX3_nearest a1 1 x) &&& 31)))))
set_option maxHeartbeats 4000000 in
set_option maxRecDepth 100000 in
theorem ctX3_keeperGoes (l : Launch) (G : va_G) (cI cC cZ cR : ClassId) (h : Ad) (x : SR) (a1 : Int32) (a2 : Int32) (q_0 : vp_in a1 5) : Ct l yX3_keeperGoes wsX3_keeperGoes (rmz 6 131) G (TY cI cC cZ cR) [.ref (h 0), .int a1, .int a2] (wMo cI h x) (Qv G (wMo cI h x) (wMo cI h (pX3_keeperGoes a1 a2 x))) := by
  refine Ct.ofV (cc := cX3_keeperGoes) (maxL := 5) (ret := none) (by decide) rfl rfl ?_
  intro p e s m below meth c A ls E0 hP hD hS hl
  obtain ⟨hx, hb, hr, hml, hlocks, hts, hown, hK, hN, hA⟩ := E0
  have hl : lv_has ls 5 [(0, .ref (h 0)), (1, .int a1), (2, .int a2)] := hl
  have hin : ∀ w ∈ wsX30, w ∈ wsX3_keeperGoes := fun w hw => List.mem_cons_of_mem _ (List.mem_append_right _ (hw))
  have k_57 : (Cond.fieldLink RX3 57 RX3 (TX3 8).2.1 (TX3 8).2.2.1).before ([.ref (h 0), .int a1, .int a2] : List Value).toArray s = true := hts _ (List.mem_of_getElem? (i := 1) rfl)
  generalize hres : pX3_keeperGoes a1 a2 x = res
  refine lv_iload_n hx hb dX3_keeperGoes_0 rfl (lv_at hl 2 rfl) ?_
  refine lv_if_eq (tgt := 8) hx hb dX3_keeperGoes_1 (by decide) (fun c_1 => ?_) (fun c_1 => ?_)
  · refine lv_iconst (v := 2) hx hb dX3_keeperGoes_8 (by decide) ?_
    refine lv_istore_n (lv' := [(3, .int 2), (0, .ref (h 0)), (1, .int a1), (2, .int a2)]) hx hb dX3_keeperGoes_9 rfl hl (by decide) rfl (fun ls hl => ?_)
    refine lv_aload_n hx hb dX3_keeperGoes_10 rfl (lv_at hl 1 rfl) ?_
    refine lv_iload_n hx hb dX3_keeperGoes_11 rfl (lv_at hl 2 rfl) ?_
    refine lv_iload_n hx hb dX3_keeperGoes_12 rfl (lv_at hl 0 rfl) ?_
    refine go_i hD hS hA (rn_V (As := [.int a1, .int 2]) (rest := []) ⟨hx, hb, hml, hown, hts⟩ (ctX3_nearest l G cI cC cZ cR h x a1 2 (by first | with_reducible assumption | exact vp_in_iff.mpr ⟨by decide, by decide⟩ | exact vp_in_iff.mpr ⟨by omega, by omega⟩ | exact isPlace_in (by with_reducible assumption) | exact has_in (by with_reducible assumption) | exact isPlace3_in (by with_reducible assumption) | exact isPiano_in (by with_reducible assumption) | exact isOpen_in (by with_reducible assumption) | exact nearest3_in (by with_reducible assumption))) (cwV 2 hts gX3_keeperGoes_X3_nearest rfl rfl rfl (by decide +kernel) ⟨Nat.le_of_ble_eq_true rfl, Nat.le_of_ble_eq_true rfl⟩) (md_recv hK hP rfl) hK hP hD hN rfl hl.1 rfl (Nat.le_of_ble_eq_true rfl) dX3_keeperGoes_13) (fun H locs hP hD hS => ?_)
    refine lv_istore (lv' := [(4, .int (pX3_nearest a1 2 x)), (3, .int 2), (0, .ref (h 0)), (1, .int a1), (2, .int a2)]) hx hb dX3_keeperGoes_16 hl (by decide) rfl (fun ls hl => ?_)
    refine lv_iload hx hb dX3_keeperGoes_18 (lv_at hl 0 rfl) ?_
    refine lv_bipush (v := (-6)) hx hb dX3_keeperGoes_20 (by decide) ?_
    refine lv_icmp_ne (tgt := 35) hx hb dX3_keeperGoes_22 (by decide) (fun c_2 => ?_) (fun c_2 => ?_)
    · refine lv_iload hx hb dX3_keeperGoes_35 (lv_at hl 0 rfl) ?_
      refine lv_bipush (v := (-6)) hx hb dX3_keeperGoes_37 (by decide) ?_
      refine lv_icmp_eq (tgt := 63) hx hb dX3_keeperGoes_39 (by decide) (fun cz => absurd cz c_2) (fun cz => ?_)
      refine lv_aload_n hx hb dX3_keeperGoes_42 rfl (lv_at hl 2 rfl) ?_
      refine lv_dup hx hb dX3_keeperGoes_43 rfl ?_
      refine md_get (ci := 3) (C := RX3) (T := TX3) (N := 13) (v := .int (x.1 2)) hx hb hts hin hown hK hP rfl 8 (by decide) k_57 rfl rfl rfl dX3_keeperGoes_44 ?_
      refine lv_iconst (v := 1) hx hb dX3_keeperGoes_47 (by decide) ?_
      refine lv_iload hx hb dX3_keeperGoes_48 (lv_at hl 0 rfl) ?_
      refine lv_ishl hx hb dX3_keeperGoes_50 ?_
      refine lv_ior hx hb dX3_keeperGoes_51 ?_
      refine md_put (ci := 3) (C := RX3) (T := TX3) (N := 13) hx hb hts hin tyX3 tyX3_ok nmX3 hown hK hP hD hS rfl 8 (by decide) k_57 rfl rfl (q := 2) rfl (fu (by decide)) rfl rfl dX3_keeperGoes_52 (fun H locs hP hD hS => ?_)
      refine lv_aload_n hx hb dX3_keeperGoes_55 rfl (lv_at hl 2 rfl) ?_
      refine lv_iload_n hx hb dX3_keeperGoes_56 rfl (lv_at hl 3 rfl) ?_
      refine lv_iload hx hb dX3_keeperGoes_57 (lv_at hl 0 rfl) ?_
      refine lv_iload_n hx hb dX3_keeperGoes_59 rfl (lv_at hl 1 rfl) ?_
      refine go_v hD hS hA (rn_V (As := [.int a1, .int (pX3_nearest a1 2 x), .int 2]) (rest := []) ⟨hx, hb, hml, hown, hts⟩ (ctX3_does l G cI cC cZ cR h (pS x 2 ((x.1 2) ||| (1 <<< ((pX3_nearest a1 2 x) &&& 31)))) a1 (pX3_nearest a1 2 x) 2 (by exact q_0) (by exact nearest3_in (by with_reducible assumption))) (cwV 3 hts gX3_keeperGoes_X3_does rfl rfl rfl (by decide +kernel) ⟨Nat.le_of_ble_eq_true rfl, Nat.le_of_ble_eq_true rfl⟩) (md_recv hK hP rfl) hK hP hD hN rfl hl.1 rfl (Nat.le_of_ble_eq_true rfl) dX3_keeperGoes_60) (fun H locs hP hD hS => ?_)
      exact rt_s hx hb hr hlocks hP hD hS ((show pX3_keeperGoes a1 a2 x = (pX3_does a1 (pX3_nearest a1 2 x) 2 (pS x 2 ((x.1 2) ||| (1 <<< ((pX3_nearest a1 2 x) &&& 31))))) by rw [pX3_keeperGoes, if_pos c_1, if_neg c_2]).symm.trans hres |>.symm) dX3_keeperGoes_63
    · refine lv_iconst (v := 3) hx hb dX3_keeperGoes_25 (by decide) ?_
      refine lv_istore_n (lv' := [(3, .int 3), (4, .int (pX3_nearest a1 2 x)), (0, .ref (h 0)), (1, .int a1), (2, .int a2)]) hx hb dX3_keeperGoes_26 rfl hl (by decide) rfl (fun ls hl => ?_)
      refine lv_aload_n hx hb dX3_keeperGoes_27 rfl (lv_at hl 2 rfl) ?_
      refine lv_iload_n hx hb dX3_keeperGoes_28 rfl (lv_at hl 3 rfl) ?_
      refine lv_iload_n hx hb dX3_keeperGoes_29 rfl (lv_at hl 0 rfl) ?_
      refine go_i hD hS hA (rn_V (As := [.int a1, .int 3]) (rest := []) ⟨hx, hb, hml, hown, hts⟩ (ctX3_nearest l G cI cC cZ cR h x a1 3 (by first | with_reducible assumption | exact vp_in_iff.mpr ⟨by decide, by decide⟩ | exact vp_in_iff.mpr ⟨by omega, by omega⟩ | exact isPlace_in (by with_reducible assumption) | exact has_in (by with_reducible assumption) | exact isPlace3_in (by with_reducible assumption) | exact isPiano_in (by with_reducible assumption) | exact isOpen_in (by with_reducible assumption) | exact nearest3_in (by with_reducible assumption))) (cwV 2 hts gX3_keeperGoes_X3_nearest rfl rfl rfl (by decide +kernel) ⟨Nat.le_of_ble_eq_true rfl, Nat.le_of_ble_eq_true rfl⟩) (md_recv hK hP rfl) hK hP hD hN rfl hl.1 rfl (Nat.le_of_ble_eq_true rfl) dX3_keeperGoes_30) (fun H locs hP hD hS => ?_)
      refine lv_istore (lv' := [(4, .int (pX3_nearest a1 3 x)), (3, .int 3), (0, .ref (h 0)), (1, .int a1), (2, .int a2)]) hx hb dX3_keeperGoes_33 hl (by decide) rfl (fun ls hl => ?_)
      refine lv_iload hx hb dX3_keeperGoes_35 (lv_at hl 0 rfl) ?_
      refine lv_bipush (v := (-6)) hx hb dX3_keeperGoes_37 (by decide) ?_
      refine lv_icmp_eq (tgt := 63) hx hb dX3_keeperGoes_39 (by decide) (fun c_3 => ?_) (fun c_3 => ?_)
      · exact rt_s hx hb hr hlocks hP hD hS ((show pX3_keeperGoes a1 a2 x = x by rw [pX3_keeperGoes, if_pos c_1, if_pos c_2, if_pos c_3]).symm.trans hres |>.symm) dX3_keeperGoes_63
      · refine lv_aload_n hx hb dX3_keeperGoes_42 rfl (lv_at hl 2 rfl) ?_
        refine lv_dup hx hb dX3_keeperGoes_43 rfl ?_
        refine md_get (ci := 3) (C := RX3) (T := TX3) (N := 13) (v := .int (x.1 2)) hx hb hts hin hown hK hP rfl 8 (by decide) k_57 rfl rfl rfl dX3_keeperGoes_44 ?_
        refine lv_iconst (v := 1) hx hb dX3_keeperGoes_47 (by decide) ?_
        refine lv_iload hx hb dX3_keeperGoes_48 (lv_at hl 0 rfl) ?_
        refine lv_ishl hx hb dX3_keeperGoes_50 ?_
        refine lv_ior hx hb dX3_keeperGoes_51 ?_
        refine md_put (ci := 3) (C := RX3) (T := TX3) (N := 13) hx hb hts hin tyX3 tyX3_ok nmX3 hown hK hP hD hS rfl 8 (by decide) k_57 rfl rfl (q := 2) rfl (fu (by decide)) rfl rfl dX3_keeperGoes_52 (fun H locs hP hD hS => ?_)
        refine lv_aload_n hx hb dX3_keeperGoes_55 rfl (lv_at hl 2 rfl) ?_
        refine lv_iload_n hx hb dX3_keeperGoes_56 rfl (lv_at hl 3 rfl) ?_
        refine lv_iload hx hb dX3_keeperGoes_57 (lv_at hl 0 rfl) ?_
        refine lv_iload_n hx hb dX3_keeperGoes_59 rfl (lv_at hl 1 rfl) ?_
        refine go_v hD hS hA (rn_V (As := [.int a1, .int (pX3_nearest a1 3 x), .int 3]) (rest := []) ⟨hx, hb, hml, hown, hts⟩ (ctX3_does l G cI cC cZ cR h (pS x 2 ((x.1 2) ||| (1 <<< ((pX3_nearest a1 3 x) &&& 31)))) a1 (pX3_nearest a1 3 x) 3 (by exact q_0) (by exact nearest3_in (by with_reducible assumption))) (cwV 3 hts gX3_keeperGoes_X3_does rfl rfl rfl (by decide +kernel) ⟨Nat.le_of_ble_eq_true rfl, Nat.le_of_ble_eq_true rfl⟩) (md_recv hK hP rfl) hK hP hD hN rfl hl.1 rfl (Nat.le_of_ble_eq_true rfl) dX3_keeperGoes_60) (fun H locs hP hD hS => ?_)
        exact rt_s hx hb hr hlocks hP hD hS ((show pX3_keeperGoes a1 a2 x = (pX3_does a1 (pX3_nearest a1 3 x) 3 (pS x 2 ((x.1 2) ||| (1 <<< ((pX3_nearest a1 3 x) &&& 31))))) by rw [pX3_keeperGoes, if_pos c_1, if_pos c_2, if_neg c_3]).symm.trans hres |>.symm) dX3_keeperGoes_63
  · refine lv_iconst (v := 1) hx hb dX3_keeperGoes_4 (by decide) ?_
    refine lv_goto (tgt := 9) hx hb dX3_keeperGoes_5 (by decide) ?_
    refine lv_istore_n (lv' := [(3, .int 1), (0, .ref (h 0)), (1, .int a1), (2, .int a2)]) hx hb dX3_keeperGoes_9 rfl hl (by decide) rfl (fun ls hl => ?_)
    refine lv_aload_n hx hb dX3_keeperGoes_10 rfl (lv_at hl 1 rfl) ?_
    refine lv_iload_n hx hb dX3_keeperGoes_11 rfl (lv_at hl 2 rfl) ?_
    refine lv_iload_n hx hb dX3_keeperGoes_12 rfl (lv_at hl 0 rfl) ?_
    refine go_i hD hS hA (rn_V (As := [.int a1, .int 1]) (rest := []) ⟨hx, hb, hml, hown, hts⟩ (ctX3_nearest l G cI cC cZ cR h x a1 1 (by first | with_reducible assumption | exact vp_in_iff.mpr ⟨by decide, by decide⟩ | exact vp_in_iff.mpr ⟨by omega, by omega⟩ | exact isPlace_in (by with_reducible assumption) | exact has_in (by with_reducible assumption) | exact isPlace3_in (by with_reducible assumption) | exact isPiano_in (by with_reducible assumption) | exact isOpen_in (by with_reducible assumption) | exact nearest3_in (by with_reducible assumption))) (cwV 2 hts gX3_keeperGoes_X3_nearest rfl rfl rfl (by decide +kernel) ⟨Nat.le_of_ble_eq_true rfl, Nat.le_of_ble_eq_true rfl⟩) (md_recv hK hP rfl) hK hP hD hN rfl hl.1 rfl (Nat.le_of_ble_eq_true rfl) dX3_keeperGoes_13) (fun H locs hP hD hS => ?_)
    refine lv_istore (lv' := [(4, .int (pX3_nearest a1 1 x)), (3, .int 1), (0, .ref (h 0)), (1, .int a1), (2, .int a2)]) hx hb dX3_keeperGoes_16 hl (by decide) rfl (fun ls hl => ?_)
    refine lv_iload hx hb dX3_keeperGoes_18 (lv_at hl 0 rfl) ?_
    refine lv_bipush (v := (-6)) hx hb dX3_keeperGoes_20 (by decide) ?_
    refine lv_icmp_ne (tgt := 35) hx hb dX3_keeperGoes_22 (by decide) (fun c_4 => ?_) (fun c_4 => ?_)
    · refine lv_iload hx hb dX3_keeperGoes_35 (lv_at hl 0 rfl) ?_
      refine lv_bipush (v := (-6)) hx hb dX3_keeperGoes_37 (by decide) ?_
      refine lv_icmp_eq (tgt := 63) hx hb dX3_keeperGoes_39 (by decide) (fun cz => absurd cz c_4) (fun cz => ?_)
      refine lv_aload_n hx hb dX3_keeperGoes_42 rfl (lv_at hl 2 rfl) ?_
      refine lv_dup hx hb dX3_keeperGoes_43 rfl ?_
      refine md_get (ci := 3) (C := RX3) (T := TX3) (N := 13) (v := .int (x.1 2)) hx hb hts hin hown hK hP rfl 8 (by decide) k_57 rfl rfl rfl dX3_keeperGoes_44 ?_
      refine lv_iconst (v := 1) hx hb dX3_keeperGoes_47 (by decide) ?_
      refine lv_iload hx hb dX3_keeperGoes_48 (lv_at hl 0 rfl) ?_
      refine lv_ishl hx hb dX3_keeperGoes_50 ?_
      refine lv_ior hx hb dX3_keeperGoes_51 ?_
      refine md_put (ci := 3) (C := RX3) (T := TX3) (N := 13) hx hb hts hin tyX3 tyX3_ok nmX3 hown hK hP hD hS rfl 8 (by decide) k_57 rfl rfl (q := 2) rfl (fu (by decide)) rfl rfl dX3_keeperGoes_52 (fun H locs hP hD hS => ?_)
      refine lv_aload_n hx hb dX3_keeperGoes_55 rfl (lv_at hl 2 rfl) ?_
      refine lv_iload_n hx hb dX3_keeperGoes_56 rfl (lv_at hl 3 rfl) ?_
      refine lv_iload hx hb dX3_keeperGoes_57 (lv_at hl 0 rfl) ?_
      refine lv_iload_n hx hb dX3_keeperGoes_59 rfl (lv_at hl 1 rfl) ?_
      refine go_v hD hS hA (rn_V (As := [.int a1, .int (pX3_nearest a1 1 x), .int 1]) (rest := []) ⟨hx, hb, hml, hown, hts⟩ (ctX3_does l G cI cC cZ cR h (pS x 2 ((x.1 2) ||| (1 <<< ((pX3_nearest a1 1 x) &&& 31)))) a1 (pX3_nearest a1 1 x) 1 (by exact q_0) (by exact nearest3_in (by with_reducible assumption))) (cwV 3 hts gX3_keeperGoes_X3_does rfl rfl rfl (by decide +kernel) ⟨Nat.le_of_ble_eq_true rfl, Nat.le_of_ble_eq_true rfl⟩) (md_recv hK hP rfl) hK hP hD hN rfl hl.1 rfl (Nat.le_of_ble_eq_true rfl) dX3_keeperGoes_60) (fun H locs hP hD hS => ?_)
      exact rt_s hx hb hr hlocks hP hD hS ((show pX3_keeperGoes a1 a2 x = (pX3_does a1 (pX3_nearest a1 1 x) 1 (pS x 2 ((x.1 2) ||| (1 <<< ((pX3_nearest a1 1 x) &&& 31))))) by rw [pX3_keeperGoes, if_neg c_1, if_neg c_4]).symm.trans hres |>.symm) dX3_keeperGoes_63
    · refine lv_iconst (v := 3) hx hb dX3_keeperGoes_25 (by decide) ?_
      refine lv_istore_n (lv' := [(3, .int 3), (4, .int (pX3_nearest a1 1 x)), (0, .ref (h 0)), (1, .int a1), (2, .int a2)]) hx hb dX3_keeperGoes_26 rfl hl (by decide) rfl (fun ls hl => ?_)
      refine lv_aload_n hx hb dX3_keeperGoes_27 rfl (lv_at hl 2 rfl) ?_
      refine lv_iload_n hx hb dX3_keeperGoes_28 rfl (lv_at hl 3 rfl) ?_
      refine lv_iload_n hx hb dX3_keeperGoes_29 rfl (lv_at hl 0 rfl) ?_
      refine go_i hD hS hA (rn_V (As := [.int a1, .int 3]) (rest := []) ⟨hx, hb, hml, hown, hts⟩ (ctX3_nearest l G cI cC cZ cR h x a1 3 (by first | with_reducible assumption | exact vp_in_iff.mpr ⟨by decide, by decide⟩ | exact vp_in_iff.mpr ⟨by omega, by omega⟩ | exact isPlace_in (by with_reducible assumption) | exact has_in (by with_reducible assumption) | exact isPlace3_in (by with_reducible assumption) | exact isPiano_in (by with_reducible assumption) | exact isOpen_in (by with_reducible assumption) | exact nearest3_in (by with_reducible assumption))) (cwV 2 hts gX3_keeperGoes_X3_nearest rfl rfl rfl (by decide +kernel) ⟨Nat.le_of_ble_eq_true rfl, Nat.le_of_ble_eq_true rfl⟩) (md_recv hK hP rfl) hK hP hD hN rfl hl.1 rfl (Nat.le_of_ble_eq_true rfl) dX3_keeperGoes_30) (fun H locs hP hD hS => ?_)
      refine lv_istore (lv' := [(4, .int (pX3_nearest a1 3 x)), (3, .int 3), (0, .ref (h 0)), (1, .int a1), (2, .int a2)]) hx hb dX3_keeperGoes_33 hl (by decide) rfl (fun ls hl => ?_)
      refine lv_iload hx hb dX3_keeperGoes_35 (lv_at hl 0 rfl) ?_
      refine lv_bipush (v := (-6)) hx hb dX3_keeperGoes_37 (by decide) ?_
      refine lv_icmp_eq (tgt := 63) hx hb dX3_keeperGoes_39 (by decide) (fun c_5 => ?_) (fun c_5 => ?_)
      · exact rt_s hx hb hr hlocks hP hD hS ((show pX3_keeperGoes a1 a2 x = x by rw [pX3_keeperGoes, if_neg c_1, if_pos c_4, if_pos c_5]).symm.trans hres |>.symm) dX3_keeperGoes_63
      · refine lv_aload_n hx hb dX3_keeperGoes_42 rfl (lv_at hl 2 rfl) ?_
        refine lv_dup hx hb dX3_keeperGoes_43 rfl ?_
        refine md_get (ci := 3) (C := RX3) (T := TX3) (N := 13) (v := .int (x.1 2)) hx hb hts hin hown hK hP rfl 8 (by decide) k_57 rfl rfl rfl dX3_keeperGoes_44 ?_
        refine lv_iconst (v := 1) hx hb dX3_keeperGoes_47 (by decide) ?_
        refine lv_iload hx hb dX3_keeperGoes_48 (lv_at hl 0 rfl) ?_
        refine lv_ishl hx hb dX3_keeperGoes_50 ?_
        refine lv_ior hx hb dX3_keeperGoes_51 ?_
        refine md_put (ci := 3) (C := RX3) (T := TX3) (N := 13) hx hb hts hin tyX3 tyX3_ok nmX3 hown hK hP hD hS rfl 8 (by decide) k_57 rfl rfl (q := 2) rfl (fu (by decide)) rfl rfl dX3_keeperGoes_52 (fun H locs hP hD hS => ?_)
        refine lv_aload_n hx hb dX3_keeperGoes_55 rfl (lv_at hl 2 rfl) ?_
        refine lv_iload_n hx hb dX3_keeperGoes_56 rfl (lv_at hl 3 rfl) ?_
        refine lv_iload hx hb dX3_keeperGoes_57 (lv_at hl 0 rfl) ?_
        refine lv_iload_n hx hb dX3_keeperGoes_59 rfl (lv_at hl 1 rfl) ?_
        refine go_v hD hS hA (rn_V (As := [.int a1, .int (pX3_nearest a1 3 x), .int 3]) (rest := []) ⟨hx, hb, hml, hown, hts⟩ (ctX3_does l G cI cC cZ cR h (pS x 2 ((x.1 2) ||| (1 <<< ((pX3_nearest a1 3 x) &&& 31)))) a1 (pX3_nearest a1 3 x) 3 (by exact q_0) (by exact nearest3_in (by with_reducible assumption))) (cwV 3 hts gX3_keeperGoes_X3_does rfl rfl rfl (by decide +kernel) ⟨Nat.le_of_ble_eq_true rfl, Nat.le_of_ble_eq_true rfl⟩) (md_recv hK hP rfl) hK hP hD hN rfl hl.1 rfl (Nat.le_of_ble_eq_true rfl) dX3_keeperGoes_60) (fun H locs hP hD hS => ?_)
        exact rt_s hx hb hr hlocks hP hD hS ((show pX3_keeperGoes a1 a2 x = (pX3_does a1 (pX3_nearest a1 3 x) 3 (pS x 2 ((x.1 2) ||| (1 <<< ((pX3_nearest a1 3 x) &&& 31))))) by rw [pX3_keeperGoes, if_neg c_1, if_pos c_4, if_neg c_5]).symm.trans hres |>.symm) dX3_keeperGoes_63
theorem keeperGoes_K {a1 a2 : Int32} {x : SR} (hk : vp_in a1 5) : KP x (pX3_keeperGoes a1 a2 x) := by
  rw [pX3_keeperGoes]
  by_cases d_38 : a2 = 0
  · rw [if_pos d_38]
    by_cases d_39 : (pX3_nearest a1 2 x) = (-6)
    · rw [if_pos d_39]
      by_cases d_40 : (pX3_nearest a1 3 x) = (-6)
      · rw [if_pos d_40]
        exact KP.rf _
      · rw [if_neg d_40]
        exact (KP_S _ _).tr (does_K hk (nearest3_in (by with_reducible assumption)))
    · rw [if_neg d_39]
      exact (KP_S _ _).tr (does_K hk (nearest3_in (by with_reducible assumption)))
  · rw [if_neg d_38]
    by_cases d_41 : (pX3_nearest a1 1 x) = (-6)
    · rw [if_pos d_41]
      by_cases d_42 : (pX3_nearest a1 3 x) = (-6)
      · rw [if_pos d_42]
        exact KP.rf _
      · rw [if_neg d_42]
        exact (KP_S _ _).tr (does_K hk (nearest3_in (by with_reducible assumption)))
    · rw [if_neg d_41]
      exact (KP_S _ _).tr (does_K hk (nearest3_in (by with_reducible assumption)))
