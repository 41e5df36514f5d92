-- the law from its entry
def yI : SR := (fun _ => 0, fun _ _ => 0)
def q0I : Nat → Int32 := (pR (pR (pR (pR (pR (pR (pR yI 0 0 2) 0 1 20) 0 2 4) 0 3 3) 0 4 10) 0 5 60) 0 6 7).2 0
theorem L78_r {r : Nat} (hr : r ≠ 1) : ∀ (n : Nat) (v : Int32) (x : SR), (pL_law_L78 n v x).2 r = x.2 r := by
  intro n
  induction n with
  | zero => intro v x; rw [pL_law_L78]
  | succ n ih =>
    intro v x
    rw [pL_law_L78]
    split
    · rfl
    · rw [ih, pR_or hr]
theorem L78_1 : ∀ (n i : Nat) (x : SR), i ≤ 12 → 12 - i < n → ∀ p, p < 12 → (p < i → x.2 1 (5 * p) = -1) → (pL_law_L78 n (nI i) x).2 1 (5 * p) = -1 := by
  intro n
  induction n with
  | zero => intro i x h1 h2; omega
  | succ n ih =>
    intro i x h1 h2 p hp hx
    rw [pL_law_L78]
    by_cases c : i = 12
    · subst c
      rw [if_pos (show (12 : Int32) ≤ nI 12 by decide)]
      exact hx hp
    · have hi : i < 12 := by omega
      rw [if_neg (lt12 hi).2, nI_1]
      refine ih (i + 1) _ (by omega) (by omega) p hp (fun l => ?_)
      rw [pR_sm, ix5 (by omega)]
      by_cases e : p = i
      · rw [e, up_same]
      · rw [up_ne _ _ (by omega)]
        exact hx (by omega)
theorem E78_0 : (pL_law_E78 yI).2 0 = q0I := by
  rw [pL_law_E78, L78_r (by decide)]
  rfl
theorem E78_2 : (pL_law_E78 yI).2 2 = fun _ => 0 := by
  rw [pL_law_E78, L78_r (by decide), pR_or (by decide), pR_or (by decide), pR_or (by decide), pR_or (by decide), pR_or (by decide), pR_or (by decide), pR_or (by decide)]
  rfl
theorem E78_1 {p : Nat} (hp : p < 12) : (pL_law_E78 yI).2 1 (5 * p) = -1 := by
  rw [pL_law_E78, ← nI_0]
  exact L78_1 13 0 _ (by decide) (by decide) p hp (fun h => by omega)
theorem set_0 : ∀ j, j < 7 → stI.2 0 j = q0I j := by decide +kernel
theorem q0I_z : ∀ j, j < 12 → 7 ≤ j → q0I j = 0 := by decide +kernel
theorem RQ_0 : RQ 0 0 (tI.1 0) (pL_law_E78 yI) := by
  show RQ 0 0 stI (pL_law_E78 yI)
  have z0 : Int32.toInt 0 = 0 := rfl
  have q11 : q0I 11 = 0 := q0I_z 11 (by decide) (by decide)
  refine ⟨⟨fun j hj => ?_, ?_, ?_, ?_, ?_, ?_, ?_⟩, ?_, fun p hp => ?_, ⟨?_, fun k hk => ?_⟩, fun q _ i _ => b_0 i⟩
  · rw [E78_0]
    exact set_0 j hj
  · rw [E78_0, q0I_z 7 (by decide) (by decide)]
    rfl
  · rw [E78_0, q0I_z 8 (by decide) (by decide)]
    rfl
  · rw [E78_0, q0I_z 9 (by decide) (by decide)]
    rfl
  · rw [E78_0, q0I_z 10 (by decide) (by decide)]
    rfl
  · rw [E78_0, q11]
    rfl
  · show inI 0 0 0
    exact ⟨by decide, by decide⟩
  · rw [E78_0]
    unfold SOK inI
    decide +kernel
  · have e : ∀ q, bt (stI.1 q) p = false := fun q => b_0 p
    exact ⟨fun q => absurd ((e 0).symm.trans q) (by decide), fun _ => E78_1 hp, fun q => absurd ((e 1).symm.trans q) (by decide), fun q => absurd ((e 2).symm.trans q) (by decide)⟩
  · rw [E78_0, q11]
    exact ⟨by decide, by decide⟩
  · rw [E78_0, E78_2, q11, z0]
    exact ⟨show inI 0 0 11 from ⟨by decide, by decide⟩, fun h => by omega, fun _ j _ _ => rfl⟩
theorem q11_0 : Int32.toInt ((pL_law_E78 yI).2 0 (ix 11)) ≤ 4 := by
  rw [E78_0, show ix 11 = 11 from rfl, q0I_z 11 (by decide) (by decide)]
  decide
theorem fsX2_ok : ∀ j, j < 8 → defaultValue (tyX2 j) = vp_V fsX2 j := by
  intro j hj
  rcases (show j = 0 ∨ j = 1 ∨ j = 2 ∨ j = 3 ∨ j = 4 ∨ j = 5 ∨ j = 6 ∨ j = 7 by omega) with rfl | rfl | rfl | rfl | rfl | rfl | rfl | rfl <;> rfl
theorem T_of {s : State} {b L : Nat} {xs : Nat → Int32} (h : va_X b L xs s s.heap) (hbl : b < s.heap.size) : va_T .int b L (fun j => .int (xs j)) (AL s) s s.heap := by
  obtain ⟨cell, h1, h2, h3, h4, h5⟩ := h
  exact ⟨cell, h1, h2, h3, by omega, by rw [h4], h5, Nat.not_le.mpr hbl⟩
theorem nw_in : ∀ w ∈ nwl, w ∈ lw_tbl := by
  show ∀ w ∈ [.fieldLinkNest "PianoCovers$Street" 67 "PianoCovers" "FIRST_SETTING" "[I" "PianoCovers", .fieldLinkNest "PianoCovers" 118 "PianoCovers$Street" "settings" "[I" "PianoCovers", .fieldLinkNest "PianoCovers" 74 "PianoCovers$Street" "pianos" "I" "PianoCovers", .fieldLinkNest "PianoCovers" 127 "PianoCovers$Street" "lying" "I" "PianoCovers", .fieldLinkNest "PianoCovers" 124 "PianoCovers$Street" "covered" "I" "PianoCovers", .fieldLinkNest "PianoCovers" 81 "PianoCovers$Street" "pitch" "[I" "PianoCovers", .fieldLinkNest "PianoCovers" 85 "PianoCovers$Street" "damp" "[I" "PianoCovers", .fieldLinkNest "PianoCovers" 91 "PianoCovers$Street" "earned" "[I" "PianoCovers", .fieldLinkNest "PianoCovers" 94 "PianoCovers$Street" "rainedOn" "[I" "PianoCovers", .fieldLinkNest "PianoCovers" 100 "PianoCovers$Street" "keepers" "I" "PianoCovers", .fieldLinkNest "PianoCovers" 103 "PianoCovers$Street" "keeperAt" "[I" "PianoCovers", .fieldLinkNest "PianoCovers" 106 "PianoCovers$Street" "timesCovered" "[I" "PianoCovers", .fieldLinkNest "PianoCovers" 109 "PianoCovers$Street" "timesOpened" "[I" "PianoCovers", .fieldLinkNest "PianoCovers" 112 "PianoCovers$Street" "timesTuned" "[I" "PianoCovers", .fieldLinkNest "PianoCovers" 115 "PianoCovers$Street" "placesWent" "[I" "PianoCovers", .fieldLinkNest "PianoCovers" 136 "PianoCovers$Street" "rainHours" "I" "PianoCovers", .fieldLinkNest "PianoCovers" 121 "PianoCovers$Street" "hours" "I" "PianoCovers", .fieldLinkNest "PianoCovers" 130 "PianoCovers$Street" "coins" "I" "PianoCovers", .fieldLinkNest "PianoCovers" 133 "PianoCovers$Street" "stolen" "I" "PianoCovers", .fieldLinkNest "PianoCovers" 147 "PianoCovers$Pad" "length" "I" "PianoCovers", .fieldLinkNest "PianoCovers$Street" 76 "PianoCovers" "LEAST_SETTING" "[I" "PianoCovers", .fieldLinkNest "PianoCovers$Street" 79 "PianoCovers" "MOST_SETTING" "[I" "PianoCovers", .methodLinkNest "PianoCovers" 9 ⟨"PianoCovers$Street", "<init>", "()V"⟩ "PianoCovers", .methodLinkNest "PianoCovers" 39 ⟨"PianoCovers$Pad", "<init>", "()V"⟩ "PianoCovers", .methodLinkNest "PianoCovers" 48 ⟨"PianoCovers$Street", "changeSetting", "(II)I"⟩ "PianoCovers", .methodLinkNest "PianoCovers" 56 ⟨"PianoCovers$Street", "changeRain", "(I)I"⟩ "PianoCovers", .methodLinkNest "PianoCovers" 59 ⟨"PianoCovers$Street", "addPiano", "(II)I"⟩ "PianoCovers", .methodLinkNest "PianoCovers$Street" 83 ⟨"PianoCovers", "isPlace", "(I)Z"⟩ "PianoCovers", .methodLinkNest "PianoCovers$Street" 87 ⟨"PianoCovers", "has", "(II)Z"⟩ "PianoCovers", .methodLinkNest "PianoCovers" 62 ⟨"PianoCovers$Street", "removePiano", "(I)I"⟩ "PianoCovers", .methodLinkNest "PianoCovers" 65 ⟨"PianoCovers$Street", "hireKeeper", "(I)I"⟩ "PianoCovers", .methodLinkNest "PianoCovers" 68 ⟨"PianoCovers$Street", "layCover", "(I)I"⟩ "PianoCovers", .methodLinkNest "PianoCovers" 71 ⟨"PianoCovers$Street", "passCounted", "(I)I"⟩ "PianoCovers", .methodLinkNest "PianoCovers" 88 ⟨"PianoCovers$Street", "coverAt", "(I)I"⟩ "PianoCovers", .methodLinkNest "PianoCovers" 97 ⟨"PianoCovers$Street", "keepersAt", "(I)I"⟩ "PianoCovers", .methodLinkNest "PianoCovers" 139 ⟨"PianoCovers$Street", "rainIsAhead", "()Z"⟩ "PianoCovers", .methodLinkNest "PianoCovers" 143 ⟨"PianoCovers$Street", "rainsAfter", "(I)Z"⟩ "PianoCovers", .methodLinkNest "PianoCovers" 150 ⟨"PianoCovers$Street", "hoursUntilRain", "()I"⟩ "PianoCovers", .methodLinkNest "PianoCovers" 154 ⟨"PianoCovers$Street", "passHours", "(I)I"⟩ "PianoCovers", .methodLinkNest "PianoCovers" 160 ⟨"PianoCovers$Street", "addKeeper", "(I)V"⟩ "PianoCovers"], w ∈ lw_tbl
  exact List.forall_mem_cons.mpr ⟨(List.mem_append_right _ (List.mem_of_getElem? (i := 21) (by decide +kernel))), List.forall_mem_cons.mpr ⟨(List.mem_append_right _ (List.mem_of_getElem? (i := 27) (by decide +kernel))), List.forall_mem_cons.mpr ⟨(List.mem_append_right _ (List.mem_of_getElem? (i := 29) (by decide +kernel))), List.forall_mem_cons.mpr ⟨(List.mem_append_right _ (List.mem_of_getElem? (i := 31) (by decide +kernel))), List.forall_mem_cons.mpr ⟨(List.mem_append_right _ (List.mem_of_getElem? (i := 33) (by decide +kernel))), List.forall_mem_cons.mpr ⟨(List.mem_append_right _ (List.mem_of_getElem? (i := 35) (by decide +kernel))), List.forall_mem_cons.mpr ⟨(List.mem_append_right _ (List.mem_of_getElem? (i := 37) (by decide +kernel))), List.forall_mem_cons.mpr ⟨(List.mem_append_right _ (List.mem_of_getElem? (i := 39) (by decide +kernel))), List.forall_mem_cons.mpr ⟨(List.mem_append_right _ (List.mem_of_getElem? (i := 41) (by decide +kernel))), List.forall_mem_cons.mpr ⟨(List.mem_append_right _ (List.mem_of_getElem? (i := 43) (by decide +kernel))), List.forall_mem_cons.mpr ⟨(List.mem_append_right _ (List.mem_of_getElem? (i := 45) (by decide +kernel))), List.forall_mem_cons.mpr ⟨(List.mem_append_right _ (List.mem_of_getElem? (i := 47) (by decide +kernel))), List.forall_mem_cons.mpr ⟨(List.mem_append_right _ (List.mem_of_getElem? (i := 49) (by decide +kernel))), List.forall_mem_cons.mpr ⟨(List.mem_append_right _ (List.mem_of_getElem? (i := 51) (by decide +kernel))), List.forall_mem_cons.mpr ⟨(List.mem_append_right _ (List.mem_of_getElem? (i := 53) (by decide +kernel))), List.forall_mem_cons.mpr ⟨(List.mem_append_right _ (List.mem_of_getElem? (i := 55) (by decide +kernel))), List.forall_mem_cons.mpr ⟨(List.mem_append_right _ (List.mem_of_getElem? (i := 57) (by decide +kernel))), List.forall_mem_cons.mpr ⟨(List.mem_append_right _ (List.mem_of_getElem? (i := 59) (by decide +kernel))), List.forall_mem_cons.mpr ⟨(List.mem_append_right _ (List.mem_of_getElem? (i := 61) (by decide +kernel))), List.forall_mem_cons.mpr ⟨(List.mem_append_right _ (List.mem_of_getElem? (i := 109) (by decide +kernel))), List.forall_mem_cons.mpr ⟨(List.mem_append_right _ (List.mem_of_getElem? (i := 172) (by decide +kernel))), List.forall_mem_cons.mpr ⟨(List.mem_append_right _ (List.mem_of_getElem? (i := 174) (by decide +kernel))), List.forall_mem_cons.mpr ⟨(List.mem_append_right _ (List.mem_of_getElem? (i := 17) (by decide +kernel))), List.forall_mem_cons.mpr ⟨(List.mem_append_right _ (List.mem_of_getElem? (i := 103) (by decide +kernel))), List.forall_mem_cons.mpr ⟨(List.mem_append_right _ (List.mem_of_getElem? (i := 168) (by decide +kernel))), List.forall_mem_cons.mpr ⟨(List.mem_append_right _ (List.mem_of_getElem? (i := 188) (by decide +kernel))), List.forall_mem_cons.mpr ⟨(List.mem_append_right _ (List.mem_of_getElem? (i := 197) (by decide +kernel))), List.forall_mem_cons.mpr ⟨(List.mem_append_right _ (List.mem_of_getElem? (i := 201) (by decide +kernel))), List.forall_mem_cons.mpr ⟨(List.mem_append_right _ (List.mem_of_getElem? (i := 204) (by decide +kernel))), List.forall_mem_cons.mpr ⟨(List.mem_append_right _ (List.mem_of_getElem? (i := 217) (by decide +kernel))), List.forall_mem_cons.mpr ⟨(List.mem_append_right _ (List.mem_of_getElem? (i := 225) (by decide +kernel))), List.forall_mem_cons.mpr ⟨(List.mem_append_right _ (List.mem_of_getElem? (i := 237) (by decide +kernel))), List.forall_mem_cons.mpr ⟨(List.mem_append_right _ (List.mem_of_getElem? (i := 245) (by decide +kernel))), List.forall_mem_cons.mpr ⟨(List.mem_append_right _ (List.mem_of_getElem? (i := 347) (by decide +kernel))), List.forall_mem_cons.mpr ⟨(List.mem_append_right _ (List.mem_of_getElem? (i := 351) (by decide +kernel))), List.forall_mem_cons.mpr ⟨(List.mem_append_right _ (List.mem_of_getElem? (i := 356) (by decide +kernel))), List.forall_mem_cons.mpr ⟨(List.mem_append_right _ (List.mem_of_getElem? (i := 365) (by decide +kernel))), List.forall_mem_cons.mpr ⟨(List.mem_append_right _ (List.mem_of_getElem? (i := 374) (by decide +kernel))), List.forall_mem_cons.mpr ⟨(List.mem_append_right _ (List.mem_of_getElem? (i := 388) (by decide +kernel))), List.forall_mem_cons.mpr ⟨(List.mem_append_right _ (List.mem_of_getElem? (i := 401) (by decide +kernel))), fun _ h => absurd h List.not_mem_nil⟩⟩⟩⟩⟩⟩⟩⟩⟩⟩⟩⟩⟩⟩⟩⟩⟩⟩⟩⟩⟩⟩⟩⟩⟩⟩⟩⟩⟩⟩⟩⟩⟩⟩⟩⟩⟩⟩⟩⟩
theorem nw_start {s : State} {args : Array Value} (hts : ∀ w ∈ lw_tbl, w.before args s = true) : NWs s := by
  intro w hw
  have hz := hts w (nw_in w hw)
  have hk := nwl_ok w hw
  cases w <;> first | exact va_Nw.of rfl hz | exact absurd hk (by simp [isNw])
theorem st_start {s : State} {b : Nat} (hts : ∀ w ∈ lw_tbl, w.before #[Value.ref b] s = true) (hgv : (Jvm.Cond.and given_1 narrow_1).before #[Value.ref b] s = true) : STs (AL s) s s.heap := by
  have hs := flat_of_before _ hgv
  have hA0 : ∀ a : Nat, a < s.heap.size → ¬ AL s a := fun a h => Nat.not_le.mpr h
  have hini : (Cond.initialized "PianoCovers").before #[Value.ref b] s = true := hts _ (List.mem_append_right _ (List.mem_of_getElem? (i := 1) (by decide +kernel)))
  have ha1 : (Cond.arrayOf (.static "PianoCovers" "FIRST_SETTING" "[I") .int).before #[Value.ref b] s = true := hs _ (by decide +kernel)
  have hl1 : (Cond.eq (.length (.static "PianoCovers" "FIRST_SETTING" "[I")) (.int 7)).before #[Value.ref b] s = true := hs _ (by decide +kernel)
  have h1_0 : (Cond.eq (.elem (.static "PianoCovers" "FIRST_SETTING" "[I") (.int 0)) (.int 2)).before #[Value.ref b] s = true := hs _ (by decide +kernel)
  have h1_1 : (Cond.eq (.elem (.static "PianoCovers" "FIRST_SETTING" "[I") (.int 1)) (.int 20)).before #[Value.ref b] s = true := hs _ (by decide +kernel)
  have h1_2 : (Cond.eq (.elem (.static "PianoCovers" "FIRST_SETTING" "[I") (.int 2)) (.int 4)).before #[Value.ref b] s = true := hs _ (by decide +kernel)
  have h1_3 : (Cond.eq (.elem (.static "PianoCovers" "FIRST_SETTING" "[I") (.int 3)) (.int 3)).before #[Value.ref b] s = true := hs _ (by decide +kernel)
  have h1_4 : (Cond.eq (.elem (.static "PianoCovers" "FIRST_SETTING" "[I") (.int 4)) (.int 10)).before #[Value.ref b] s = true := hs _ (by decide +kernel)
  have h1_5 : (Cond.eq (.elem (.static "PianoCovers" "FIRST_SETTING" "[I") (.int 5)) (.int 60)).before #[Value.ref b] s = true := hs _ (by decide +kernel)
  have h1_6 : (Cond.eq (.elem (.static "PianoCovers" "FIRST_SETTING" "[I") (.int 6)) (.int 7)).before #[Value.ref b] s = true := hs _ (by decide +kernel)
  obtain ⟨t1, et1, hT1⟩ := va_Tof (tm := (.static "PianoCovers" "FIRST_SETTING" "[I")) (ty := .int) (N := 7) (f := fun j => .int (firstF j)) (A := AL s) (by decide) ha1 (va_eqt hl1) (fun j hj => by
    rcases (show j = 0 ∨ j = 1 ∨ j = 2 ∨ j = 3 ∨ j = 4 ∨ j = 5 ∨ j = 6 by omega) with rfl | rfl | rfl | rfl | rfl | rfl | rfl
    · exact va_eqt h1_0
    · exact va_eqt h1_1
    · exact va_eqt h1_2
    · exact va_eqt h1_3
    · exact va_eqt h1_4
    · exact va_eqt h1_5
    · exact va_eqt h1_6) hA0
  have hz1 := va_Zref (hts _ (List.mem_append_right _ (List.mem_of_getElem? (i := 22) (by decide +kernel)))) hini et1 hA0
  have ha2 : (Cond.arrayOf (.static "PianoCovers" "LEAST_SETTING" "[I") .int).before #[Value.ref b] s = true := hs _ (by decide +kernel)
  have hl2 : (Cond.eq (.length (.static "PianoCovers" "LEAST_SETTING" "[I")) (.int 7)).before #[Value.ref b] s = true := hs _ (by decide +kernel)
  have h2_0 : (Cond.eq (.elem (.static "PianoCovers" "LEAST_SETTING" "[I") (.int 0)) (.int 0)).before #[Value.ref b] s = true := hs _ (by decide +kernel)
  have h2_1 : (Cond.eq (.elem (.static "PianoCovers" "LEAST_SETTING" "[I") (.int 1)) (.int 1)).before #[Value.ref b] s = true := hs _ (by decide +kernel)
  have h2_2 : (Cond.eq (.elem (.static "PianoCovers" "LEAST_SETTING" "[I") (.int 2)) (.int 1)).before #[Value.ref b] s = true := hs _ (by decide +kernel)
  have h2_3 : (Cond.eq (.elem (.static "PianoCovers" "LEAST_SETTING" "[I") (.int 3)) (.int 0)).before #[Value.ref b] s = true := hs _ (by decide +kernel)
  have h2_4 : (Cond.eq (.elem (.static "PianoCovers" "LEAST_SETTING" "[I") (.int 4)) (.int 0)).before #[Value.ref b] s = true := hs _ (by decide +kernel)
  have h2_5 : (Cond.eq (.elem (.static "PianoCovers" "LEAST_SETTING" "[I") (.int 5)) (.int 0)).before #[Value.ref b] s = true := hs _ (by decide +kernel)
  have h2_6 : (Cond.eq (.elem (.static "PianoCovers" "LEAST_SETTING" "[I") (.int 6)) (.int 1)).before #[Value.ref b] s = true := hs _ (by decide +kernel)
  obtain ⟨t2, et2, hT2⟩ := va_Tof (tm := (.static "PianoCovers" "LEAST_SETTING" "[I")) (ty := .int) (N := 7) (f := fun j => .int (leastF j)) (A := AL s) (by decide) ha2 (va_eqt hl2) (fun j hj => by
    rcases (show j = 0 ∨ j = 1 ∨ j = 2 ∨ j = 3 ∨ j = 4 ∨ j = 5 ∨ j = 6 by omega) with rfl | rfl | rfl | rfl | rfl | rfl | rfl
    · exact va_eqt h2_0
    · exact va_eqt h2_1
    · exact va_eqt h2_2
    · exact va_eqt h2_3
    · exact va_eqt h2_4
    · exact va_eqt h2_5
    · exact va_eqt h2_6) hA0
  have hz2 := va_Zref (hts _ (List.mem_append_right _ (List.mem_of_getElem? (i := 173) (by decide +kernel)))) hini et2 hA0
  have ha3 : (Cond.arrayOf (.static "PianoCovers" "MOST_SETTING" "[I") .int).before #[Value.ref b] s = true := hs _ (by decide +kernel)
  have hl3 : (Cond.eq (.length (.static "PianoCovers" "MOST_SETTING" "[I")) (.int 7)).before #[Value.ref b] s = true := hs _ (by decide +kernel)
  have h3_0 : (Cond.eq (.elem (.static "PianoCovers" "MOST_SETTING" "[I") (.int 0)) (.int 12)).before #[Value.ref b] s = true := hs _ (by decide +kernel)
  have h3_1 : (Cond.eq (.elem (.static "PianoCovers" "MOST_SETTING" "[I") (.int 1)) (.int 50)).before #[Value.ref b] s = true := hs _ (by decide +kernel)
  have h3_2 : (Cond.eq (.elem (.static "PianoCovers" "MOST_SETTING" "[I") (.int 2)) (.int 20)).before #[Value.ref b] s = true := hs _ (by decide +kernel)
  have h3_3 : (Cond.eq (.elem (.static "PianoCovers" "MOST_SETTING" "[I") (.int 3)) (.int 20)).before #[Value.ref b] s = true := hs _ (by decide +kernel)
  have h3_4 : (Cond.eq (.elem (.static "PianoCovers" "MOST_SETTING" "[I") (.int 4)) (.int 50)).before #[Value.ref b] s = true := hs _ (by decide +kernel)
  have h3_5 : (Cond.eq (.elem (.static "PianoCovers" "MOST_SETTING" "[I") (.int 5)) (.int 100)).before #[Value.ref b] s = true := hs _ (by decide +kernel)
  have h3_6 : (Cond.eq (.elem (.static "PianoCovers" "MOST_SETTING" "[I") (.int 6)) (.int 20)).before #[Value.ref b] s = true := hs _ (by decide +kernel)
  obtain ⟨t3, et3, hT3⟩ := va_Tof (tm := (.static "PianoCovers" "MOST_SETTING" "[I")) (ty := .int) (N := 7) (f := fun j => .int (mostF j)) (A := AL s) (by decide) ha3 (va_eqt hl3) (fun j hj => by
    rcases (show j = 0 ∨ j = 1 ∨ j = 2 ∨ j = 3 ∨ j = 4 ∨ j = 5 ∨ j = 6 by omega) with rfl | rfl | rfl | rfl | rfl | rfl | rfl
    · exact va_eqt h3_0
    · exact va_eqt h3_1
    · exact va_eqt h3_2
    · exact va_eqt h3_3
    · exact va_eqt h3_4
    · exact va_eqt h3_5
    · exact va_eqt h3_6) hA0
  have hz3 := va_Zref (hts _ (List.mem_append_right _ (List.mem_of_getElem? (i := 175) (by decide +kernel)))) hini et3 hA0
  exact ⟨t1, t2, t3, hz1, hT1, hz2, hT2, hz3, hT3⟩
-- the array classes
theorem ao_start {s : State} {b : Nat} (hts : ∀ w ∈ lw_tbl, w.before #[Value.ref b] s = true) : va_AO RX1 s := va_AO.of (hts (.arrayOver (.object RX1)) (List.mem_append_right _ (List.mem_of_getElem? (i := 100) (by decide +kernel))))
theorem ac_one {s : State} {args : Array Value} {ty : FieldType} (h : (Cond.arrayClass ty).before args s = true) (ho : ∀ C, ty ≠ .object C) : ∃ cA, ArrOfT s cA ty ∧ va_RA s cA ty := by
  obtain ⟨cA, kA, comp, h1, h2, h3⟩ := Cond.arrayClass_spec h
  refine ⟨cA, fun n z => ⟨fun k h => (by cases h), kA, h2, comp, h3⟩, ?_⟩
  cases ty with
  | object C => exact absurd rfl (ho C)
  | _ => exact h1
theorem ac_obj {s : State} (h : va_AO RX1 s) : ∃ cA, ArrOfT s cA (.object "PianoCovers$Street") ∧ va_RA s cA (.object "PianoCovers$Street") := by
  obtain ⟨comp, cA, kA, h1, -, h3, h4, h5⟩ := Cond.arrayOver_spec (args := #[]) h
  exact ⟨cA, fun n z => ⟨fun k h => (by cases h), kA, h3, comp, h4⟩, kA, comp, h3, h4, h1, h5⟩
set_option maxHeartbeats 4000000 in
set_option maxRecDepth 100000 in
theorem whole_start {p : Program} {e : Env} {s : State} {m : MethodId} {below : List Frame} {meth : Method} {c : Code} (l : Launch) (hflags : l.flags = flags0) {b L : Nat} {xs : Nat → Int32} (hL : L ≤ 260) (C0 : lw_At p s m meth c b L xs) : W p l e room_1 s m #[Value.ref b] below meth c s.heap [] 0 0 (lw_Z below #[Value.ref b] s) (entryFrame m ([Value.ref b] : List Value).toArray 18) := by
  obtain ⟨hx, hb, hr, hml, hown0, hts0, hX, hbl, hlocks, hgv⟩ := id C0
  have hown : s.vm.findClass RL = some m.cls := hown0
  have hb : c.code = cL_law := hb
  have hts : ∀ w ∈ wsL_law, w.before #[Value.ref b] s = true := fun w hw => hts0 w (wsL_law_in w hw)
  have hA : ∀ q : Nat, s.heap.size ≤ q → AL s q := fun _ z => z
  have hN : NWs s := nw_start hts0
  have hST : STs (AL s) s s.heap := st_start hts0 hgv
  have hO : va_AO RX1 s := ao_start hts0
  obtain ⟨c0, i0, k0⟩ := u_known (C := RX0) (T := TX0) (N := 8) (n := 8) hts inlX0 (hts _ (List.mem_of_getElem? (i := 23) (by decide +kernel)))
  obtain ⟨c1, i1, k1⟩ := u_known (C := RX1) (T := TX1) (N := 18) (n := 18) hts inlX1 (hts _ (List.mem_of_getElem? (i := 12) (by decide +kernel)))
  obtain ⟨c2, i2, k2⟩ := u_known (C := RX2) (T := TX2) (N := 8) (n := 8) hts inlX2 (hts _ (List.mem_of_getElem? (i := 1) (by decide +kernel)))
  obtain ⟨cI, aI⟩ := ac_one (ty := .int) (hts _ (List.mem_of_getElem? (i := 3) (by decide +kernel))) (fun C h => by cases h)
  obtain ⟨cC, aC⟩ := ac_one (ty := .char) (hts _ (List.mem_of_getElem? (i := 54) (by decide +kernel))) (fun C h => by cases h)
  obtain ⟨cZ, aZ⟩ := ac_one (ty := .boolean) (hts _ (List.mem_of_getElem? (i := 20) (by decide +kernel))) (fun C h => by cases h)
  obtain ⟨cR, aR⟩ := ac_obj hO
  obtain ⟨G, hK⟩ : ∃ G : va_G, va_K G vwCl (TY cI cC cZ cR) s := by
    refine ⟨(fun k => if k = 0 then c0 else if k = 1 then c1 else c2, fun k => if k = 0 then i0 else if k = 1 then i1 else i2), fun k q hq => ?_, fun k q hq => ?_⟩
    · match k, hq with
      | 0, hq => cases hq; exact k0
      | 1, hq => cases hq; exact k1
      | 2, hq => cases hq; exact k2
      | k + 3, hq => simp [vwCl] at hq
    · match k, hq with
      | 0, hq => cases hq; exact aI
      | 1, hq => cases hq; exact aC
      | 2, hq => cases hq; exact aZ
      | 3, hq => cases hq; exact aR
      | k + 4, hq => simp at hq
  have hS : va_S (AL s) s.heap s.heap [] := va_S.rf
  have hP : va_P G vwCl [] s.heap := nilP
  have hD : va_D (AL s) [] := nilD
  have hl := lv_entry ([.ref b]) (n := 18) (Nat.le_of_ble_eq_true rfl)
  rw [lg_entry_eq]
  generalize (lg_sl ([.ref b]) ++ List.replicate (18 - (lg_sl ([.ref b])).length) Slot.unset).toArray = ls at hl ⊢
  have hl : lv_has ls 18 [(0, .ref b)] := hl
  -- the class
  refine va_new (ci := 2) (fs := fsX2) (C := RX2) (T := TX2) (N := 8) hx hb hts inlX2 tyX2 tyX2_ok hown (hts _ (List.mem_of_getElem? (i := 0) (by decide +kernel))) (hts _ (List.mem_of_getElem? (i := 1) (by decide +kernel))) (hts _ (List.mem_of_getElem? (i := 2) (by decide +kernel))) hK hP hD hS hA rfl fsX2_ok (Nat.le_of_ble_eq_true rfl) (Nat.le_of_ble_eq_true rfl) dL_law_0 (fun o H hP hD hS => ?_)
  refine W.widen (k := 1) (n := 8) (by omega) (by omega) ?_
  refine lv_dup hx hb dL_law_3 rfl ?_
  have hP' : va_P G vwCl ([] ++ ([(o, .inr (2, fsX2))] ++ [])) H := hP
  have hD' : va_D (AL s) ([] ++ ([(o, .inr (2, fsX2))] ++ [])) := hD
  have hF := fr_in hD'.midc hS hA
  refine va_callv (va_runI (As := []) (rest := [.ref o]) ⟨hx, hb, hml, hown, hts⟩ (ctX2_init l G cI cC cZ cR o H.size) (cwI 0 hts gL_law_X2_init rfl rfl rfl (hts _ (List.mem_of_getElem? (i := 2) (by decide +kernel))) (hts _ (List.mem_of_getElem? (i := 5) (by decide +kernel))) (hts _ (List.mem_of_getElem? (i := 6) (by decide +kernel))) rfl (by decide +kernel) ⟨Nat.le_of_ble_eq_true rfl, Nat.le_of_ble_eq_true rfl⟩) ⟨PreN.blind, PreN.at hST hO hS hA hP'.midc hK hD'.midc hN _⟩ rfl rfl hl.1 rfl (lv_room (Nat.le_of_ble_eq_true rfl)) dL_law_4 ⟨Nat.le_of_ble_eq_true rfl, Nat.le_of_ble_eq_true rfl⟩) hS (fun q _ h => hF q h) hF (fun u t H1 locs ht _ hu hB _ hk hS => ?_)
  obtain ⟨ho, hh, hp⟩ := u
  obtain ⟨hP1, hD1⟩ := hB
  rw [ht] at hP1
  obtain ⟨gP, gD⟩ := fr_mid hP' hD' hF hk hP1 hD1
  rw [List.append_nil] at gP gD
  have hu : ho 0 = o := hu
  subst hu
  have hP : va_P G vwCl (wX cI cC cZ cR ho hh hp tI) H1 := gP
  have hD : va_D (AL s) (wX cI cC cZ cR ho hh hp tI) := gD
  refine W.widen (k := 127) (n := 1184) (by omega) (by omega) ?_
  refine lv_astore_n (lv' := [(1, .ref (ho 0)), (0, .ref b)]) hx hb dL_law_7 rfl hl (by decide) rfl (fun ls hl => ?_)
  have hT : va_T .int b L (fun j => .int (xs j)) (AL s) s s.heap := T_of hX hbl
  refine lv_bipush (v := 12) hx hb dL_law_8 (by decide) ?_
  refine nw_i (N := 12) hx hb (hts _ (List.mem_of_getElem? (i := 3) (by decide +kernel))) hK hP hD hS hA (by decide) (by decide) (by decide) (Nat.le_of_ble_eq_true rfl) (Nat.le_of_ble_eq_true rfl) dL_law_10 (fun w1 H hP hD hS => ?_)
  refine W.widen (k := 128) (n := 1196) (by omega) (by omega) ?_
  refine lv_astore_n (lv' := [(2, .ref w1), (1, .ref (ho 0)), (0, .ref b)]) hx hb dL_law_12 rfl hl (by decide) rfl (fun ls hl => ?_)
  refine lv_bipush (v := 60) hx hb dL_law_13 (by decide) ?_
  refine nw_i (N := 60) hx hb (hts _ (List.mem_of_getElem? (i := 3) (by decide +kernel))) hK hP hD hS hA (by decide) (by decide) (by decide) (Nat.le_of_ble_eq_true rfl) (Nat.le_of_ble_eq_true rfl) dL_law_15 (fun w2 H hP hD hS => ?_)
  refine W.widen (k := 129) (n := 1256) (by omega) (by omega) ?_
  rw [List.append_assoc] at hP hD
  refine lv_astore_n (lv' := [(3, .ref w2), (2, .ref w1), (1, .ref (ho 0)), (0, .ref b)]) hx hb dL_law_17 rfl hl (by decide) rfl (fun ls hl => ?_)
  refine lv_bipush (v := 25) hx hb dL_law_18 (by decide) ?_
  refine nw_i (N := 25) hx hb (hts _ (List.mem_of_getElem? (i := 3) (by decide +kernel))) hK hP hD hS hA (by decide) (by decide) (by decide) (Nat.le_of_ble_eq_true rfl) (Nat.le_of_ble_eq_true rfl) dL_law_20 (fun w3 H hP hD hS => ?_)
  refine W.widen (k := 130) (n := 1281) (by omega) (by omega) ?_
  rw [List.append_assoc] at hP hD
  refine lv_astore (lv' := [(4, .ref w3), (3, .ref w2), (2, .ref w1), (1, .ref (ho 0)), (0, .ref b)]) hx hb dL_law_22 hl (by decide) rfl (fun ls hl => ?_)
  refine lv_bipush (v := 12) hx hb dL_law_24 (by decide) ?_
  refine nw_i (N := 12) hx hb (hts _ (List.mem_of_getElem? (i := 3) (by decide +kernel))) hK hP hD hS hA (by decide) (by decide) (by decide) (Nat.le_of_ble_eq_true rfl) (Nat.le_of_ble_eq_true rfl) dL_law_26 (fun w4 H hP hD hS => ?_)
  refine W.widen (k := 131) (n := 1293) (by omega) (by omega) ?_
  rw [List.append_assoc] at hP hD
  refine lv_astore (lv' := [(5, .ref w4), (4, .ref w3), (3, .ref w2), (2, .ref w1), (1, .ref (ho 0)), (0, .ref b)]) hx hb dL_law_28 hl (by decide) rfl (fun ls hl => ?_)
  refine lv_bipush (v := 60) hx hb dL_law_30 (by decide) ?_
  refine nw_i (N := 60) hx hb (hts _ (List.mem_of_getElem? (i := 3) (by decide +kernel))) hK hP hD hS hA (by decide) (by decide) (by decide) (Nat.le_of_ble_eq_true rfl) (Nat.le_of_ble_eq_true rfl) dL_law_32 (fun w5 H hP hD hS => ?_)
  refine W.widen (k := 132) (n := 1353) (by omega) (by omega) ?_
  rw [List.append_assoc] at hP hD
  refine lv_astore (lv' := [(6, .ref w5), (5, .ref w4), (4, .ref w3), (3, .ref w2), (2, .ref w1), (1, .ref (ho 0)), (0, .ref b)]) hx hb dL_law_34 hl (by decide) rfl (fun ls hl => ?_)
  refine lv_bipush (v := 25) hx hb dL_law_36 (by decide) ?_
  refine nw_i (N := 25) hx hb (hts _ (List.mem_of_getElem? (i := 3) (by decide +kernel))) hK hP hD hS hA (by decide) (by decide) (by decide) (Nat.le_of_ble_eq_true rfl) (Nat.le_of_ble_eq_true rfl) dL_law_38 (fun w6 H hP hD hS => ?_)
  refine W.widen (k := 133) (n := 1378) (by omega) (by omega) ?_
  rw [List.append_assoc] at hP hD
  refine lv_astore (lv' := [(7, .ref w6), (6, .ref w5), (5, .ref w4), (4, .ref w3), (3, .ref w2), (2, .ref w1), (1, .ref (ho 0)), (0, .ref b)]) hx hb dL_law_40 hl (by decide) rfl (fun ls hl => ?_)
  have hP : va_P G vwCl (wL cI cC cZ cR ho hh hp (ad [0, w1, w2, w3]) (ad [0, w4, w5, w6]) tI yI yI) H := hP
  have hD : va_D (AL s) (wL cI cC cZ cR ho hh hp (ad [0, w1, w2, w3]) (ad [0, w4, w5, w6]) tI yI yI) := hD
  refine W.widen (k := 600000) (n := 7302250) (by omega) (by omega) ?_
  exact law_main ⟨hx, hb, hr, hml, hown, hts, hT, hlocks, hK, hN, hST, hL⟩ hh tI yI yI RQ_0.hq q11_0 (law_1 L xs yI RQ_0 q11_0) H _ ls hP hD hS (lv_sub hl [7, 6, 5, 4, 3, 2, 1, 0] rfl)
