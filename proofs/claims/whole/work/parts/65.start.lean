-- the law from its entry
theorem moI_0 {j : Nat} (h : 7 ≤ j) : moI.2 0 j = 0 := by
  show up (up (up (up (up (up (up (fun _ => (0 : Int32)) 0 2) 1 20) 2 4) 3 3) 4 10) 5 60) 6 7 j = 0
  rw [up_ne _ _ (show j ≠ 6 by omega), up_ne _ _ (show j ≠ 5 by omega), up_ne _ _ (show j ≠ 4 by omega), up_ne _ _ (show j ≠ 3 by omega), up_ne _ _ (show j ≠ 2 by omega), up_ne _ _ (show j ≠ 1 by omega), up_ne _ _ (show j ≠ 0 by omega)]
theorem set_0 : ∀ j, j < 7 → stI.2 0 j = moI.2 0 j := by decide +kernel
theorem RT_0 : RT tI moI := by
  have m7 : moI.2 0 7 = 0 := moI_0 (by decide)
  have m8 : moI.2 0 8 = 0 := moI_0 (by decide)
  have m9 : moI.2 0 9 = 0 := moI_0 (by decide)
  have m10 : moI.2 0 10 = 0 := moI_0 (by decide)
  have m11 : moI.2 0 11 = 0 := moI_0 (by decide)
  have z0 : Int32.toInt 0 = 0 := rfl
  have hS : RS stI (moI.2 0) := by
    refine ⟨⟨set_0, m7.symm, m8.symm, m9.symm, m10.symm, m11.symm⟩, ?_, fun p hp => ?_, ⟨?_, fun k hk => ?_⟩, fun q _ i _ => b_0 i⟩
    · unfold SOK inI
      decide +kernel
    · have e : ∀ q, bt (stI.1 q) p = false := fun q => b_0 p
      unfold RP
      rw [e 0, e 1, e 2, moI_0 (show 7 ≤ 12 + 6 * p by omega), moI_0 (show 7 ≤ 12 + 6 * p + 3 by omega), moI_0 (show 7 ≤ 12 + 6 * p + 5 by omega)]
      refine ⟨rfl, rfl, fun z => absurd z (by decide), fun z => absurd z (by decide), fun z => absurd z (by decide), fun _ => rfl⟩
    · rw [m11]
      unfold inI
      decide +kernel
    · rw [m11, z0] at hk
      omega
  refine ⟨⟨hS, by rw [m11]; decide +kernel, by rw [m8]; unfold inI; decide +kernel⟩, ⟨rfl, ?_, fun k hk => ?_⟩, fun s _ => ⟨rfl, fun z => absurd rfl z⟩, rfl, ?_, fun j hj => ?_, fun k => ?_, ?_⟩
  · show inI 0 0 6
    unfold inI
    decide +kernel
  · have hk' : (k : Int) < Int32.toInt 0 := hk
    rw [z0] at hk'
    omega
  · show inI 0 0 80
    unfold inI
    decide +kernel
  · have hj' : (j : Int) < Int32.toInt 0 := hj
    rw [z0] at hj'
    omega
  · show isCh 0
    unfold isCh
    decide +kernel
  · show inI 0 0 81
    unfold inI
    decide +kernel
theorem fsX2_ok : ∀ j, j < 8 → defaultValue (tyX2 j) = vp_V fsX2 j := by
  intro j hj
  rcases (show j = 0 ∨ j = 1 ∨ j = 2 ∨ j = 3 ∨ j = 4 ∨ j = 5 ∨ j = 6 ∨ j = 7 by omega) with rfl | rfl | rfl | rfl | rfl | rfl | rfl | rfl <;> rfl
theorem fsX3_ok : ∀ j, j < 13 → defaultValue (tyX3 j) = vp_V fsX3 j := by
  intro j hj
  rcases (show j = 0 ∨ j = 1 ∨ j = 2 ∨ j = 3 ∨ j = 4 ∨ j = 5 ∨ j = 6 ∨ j = 7 ∨ j = 8 ∨ j = 9 ∨ j = 10 ∨ j = 11 ∨ j = 12 by omega) with rfl | rfl | rfl | rfl | rfl | rfl | rfl | rfl | rfl | rfl | rfl | rfl | rfl <;> rfl
theorem nw_in : ∀ w ∈ nwl, w ∈ lw_tbl := by
  show ∀ w ∈ [.fieldLinkNest "PianoCovers$Street" 67 "PianoCovers" "FIRST_SETTING" "[I" "PianoCovers", .fieldLinkNest "PianoCovers" 118 "PianoCovers$Street" "settings" "[I" "PianoCovers", .fieldLinkNest "PianoCovers" 74 "PianoCovers$Street" "pianos" "I" "PianoCovers", .fieldLinkNest "PianoCovers" 127 "PianoCovers$Street" "lying" "I" "PianoCovers", .fieldLinkNest "PianoCovers" 124 "PianoCovers$Street" "covered" "I" "PianoCovers", .fieldLinkNest "PianoCovers" 81 "PianoCovers$Street" "pitch" "[I" "PianoCovers", .fieldLinkNest "PianoCovers" 85 "PianoCovers$Street" "damp" "[I" "PianoCovers", .fieldLinkNest "PianoCovers" 91 "PianoCovers$Street" "earned" "[I" "PianoCovers", .fieldLinkNest "PianoCovers" 94 "PianoCovers$Street" "rainedOn" "[I" "PianoCovers", .fieldLinkNest "PianoCovers" 100 "PianoCovers$Street" "keepers" "I" "PianoCovers", .fieldLinkNest "PianoCovers" 103 "PianoCovers$Street" "keeperAt" "[I" "PianoCovers", .fieldLinkNest "PianoCovers" 106 "PianoCovers$Street" "timesCovered" "[I" "PianoCovers", .fieldLinkNest "PianoCovers" 109 "PianoCovers$Street" "timesOpened" "[I" "PianoCovers", .fieldLinkNest "PianoCovers" 112 "PianoCovers$Street" "timesTuned" "[I" "PianoCovers", .fieldLinkNest "PianoCovers" 115 "PianoCovers$Street" "placesWent" "[I" "PianoCovers", .fieldLinkNest "PianoCovers" 136 "PianoCovers$Street" "rainHours" "I" "PianoCovers", .fieldLinkNest "PianoCovers" 121 "PianoCovers$Street" "hours" "I" "PianoCovers", .fieldLinkNest "PianoCovers" 130 "PianoCovers$Street" "coins" "I" "PianoCovers", .fieldLinkNest "PianoCovers" 133 "PianoCovers$Street" "stolen" "I" "PianoCovers", .fieldLinkNest "PianoCovers" 147 "PianoCovers$Pad" "length" "I" "PianoCovers", .fieldLinkNest "PianoCovers" 197 "PianoCovers$Pad" "kind" "C" "PianoCovers", .fieldLinkNest "PianoCovers" 201 "PianoCovers$Pad" "number" "I" "PianoCovers", .fieldLinkNest "PianoCovers" 204 "PianoCovers$Pad" "cover" "I" "PianoCovers", .fieldLinkNest "PianoCovers" 207 "PianoCovers$Pad" "hours" "I" "PianoCovers", .fieldLinkNest "PianoCovers" 187 "PianoCovers$Pad" "more" "Z" "PianoCovers", .fieldLinkNest "PianoCovers$Street" 76 "PianoCovers" "LEAST_SETTING" "[I" "PianoCovers", .fieldLinkNest "PianoCovers$Street" 79 "PianoCovers" "MOST_SETTING" "[I" "PianoCovers", .methodLinkNest "PianoCovers" 9 ⟨"PianoCovers$Street", "<init>", "()V"⟩ "PianoCovers", .methodLinkNest "PianoCovers" 39 ⟨"PianoCovers$Pad", "<init>", "()V"⟩ "PianoCovers", .methodLinkNest "PianoCovers" 48 ⟨"PianoCovers$Street", "changeSetting", "(II)I"⟩ "PianoCovers", .methodLinkNest "PianoCovers" 56 ⟨"PianoCovers$Street", "changeRain", "(I)I"⟩ "PianoCovers", .methodLinkNest "PianoCovers" 59 ⟨"PianoCovers$Street", "addPiano", "(II)I"⟩ "PianoCovers", .methodLinkNest "PianoCovers$Street" 83 ⟨"PianoCovers", "isPlace", "(I)Z"⟩ "PianoCovers", .methodLinkNest "PianoCovers$Street" 87 ⟨"PianoCovers", "has", "(II)Z"⟩ "PianoCovers", .methodLinkNest "PianoCovers" 62 ⟨"PianoCovers$Street", "removePiano", "(I)I"⟩ "PianoCovers", .methodLinkNest "PianoCovers" 65 ⟨"PianoCovers$Street", "hireKeeper", "(I)I"⟩ "PianoCovers", .methodLinkNest "PianoCovers" 68 ⟨"PianoCovers$Street", "layCover", "(I)I"⟩ "PianoCovers", .methodLinkNest "PianoCovers" 71 ⟨"PianoCovers$Street", "passCounted", "(I)I"⟩ "PianoCovers", .methodLinkNest "PianoCovers" 88 ⟨"PianoCovers$Street", "coverAt", "(I)I"⟩ "PianoCovers", .methodLinkNest "PianoCovers" 97 ⟨"PianoCovers$Street", "keepersAt", "(I)I"⟩ "PianoCovers", .methodLinkNest "PianoCovers" 139 ⟨"PianoCovers$Street", "rainIsAhead", "()Z"⟩ "PianoCovers", .methodLinkNest "PianoCovers" 143 ⟨"PianoCovers$Street", "rainsAfter", "(I)Z"⟩ "PianoCovers", .methodLinkNest "PianoCovers" 150 ⟨"PianoCovers$Street", "hoursUntilRain", "()I"⟩ "PianoCovers", .methodLinkNest "PianoCovers" 154 ⟨"PianoCovers$Street", "passHours", "(I)I"⟩ "PianoCovers", .methodLinkNest "PianoCovers" 160 ⟨"PianoCovers$Street", "addKeeper", "(I)V"⟩ "PianoCovers", .methodLinkNest "PianoCovers" 170 ⟨"PianoCovers$Pad", "append", "(C)V"⟩ "PianoCovers", .methodLinkNest "PianoCovers" 178 ⟨"PianoCovers$Pad", "clear", "()V"⟩ "PianoCovers", .methodLinkNest "PianoCovers" 181 ⟨"PianoCovers$Pad", "findFault", "()I"⟩ "PianoCovers", .methodLinkNest "PianoCovers" 184 ⟨"PianoCovers$Pad", "rewind", "()V"⟩ "PianoCovers", .methodLinkNest "PianoCovers" 191 ⟨"PianoCovers$Pad", "readOrder", "()Z"⟩ "PianoCovers"], w ∈ lw_tbl
  exact List.forall_mem_cons.mpr ⟨(List.mem_append_right _ (List.mem_of_getElem? (i := 22) (by decide +kernel))), List.forall_mem_cons.mpr ⟨(List.mem_append_right _ (List.mem_of_getElem? (i := 28) (by decide +kernel))), List.forall_mem_cons.mpr ⟨(List.mem_append_right _ (List.mem_of_getElem? (i := 30) (by decide +kernel))), List.forall_mem_cons.mpr ⟨(List.mem_append_right _ (List.mem_of_getElem? (i := 32) (by decide +kernel))), List.forall_mem_cons.mpr ⟨(List.mem_append_right _ (List.mem_of_getElem? (i := 34) (by decide +kernel))), List.forall_mem_cons.mpr ⟨(List.mem_append_right _ (List.mem_of_getElem? (i := 36) (by decide +kernel))), List.forall_mem_cons.mpr ⟨(List.mem_append_right _ (List.mem_of_getElem? (i := 38) (by decide +kernel))), List.forall_mem_cons.mpr ⟨(List.mem_append_right _ (List.mem_of_getElem? (i := 40) (by decide +kernel))), List.forall_mem_cons.mpr ⟨(List.mem_append_right _ (List.mem_of_getElem? (i := 42) (by decide +kernel))), List.forall_mem_cons.mpr ⟨(List.mem_append_right _ (List.mem_of_getElem? (i := 44) (by decide +kernel))), List.forall_mem_cons.mpr ⟨(List.mem_append_right _ (List.mem_of_getElem? (i := 46) (by decide +kernel))), List.forall_mem_cons.mpr ⟨(List.mem_append_right _ (List.mem_of_getElem? (i := 48) (by decide +kernel))), List.forall_mem_cons.mpr ⟨(List.mem_append_right _ (List.mem_of_getElem? (i := 50) (by decide +kernel))), List.forall_mem_cons.mpr ⟨(List.mem_append_right _ (List.mem_of_getElem? (i := 52) (by decide +kernel))), List.forall_mem_cons.mpr ⟨(List.mem_append_right _ (List.mem_of_getElem? (i := 54) (by decide +kernel))), List.forall_mem_cons.mpr ⟨(List.mem_append_right _ (List.mem_of_getElem? (i := 56) (by decide +kernel))), List.forall_mem_cons.mpr ⟨(List.mem_append_right _ (List.mem_of_getElem? (i := 58) (by decide +kernel))), List.forall_mem_cons.mpr ⟨(List.mem_append_right _ (List.mem_of_getElem? (i := 60) (by decide +kernel))), List.forall_mem_cons.mpr ⟨(List.mem_append_right _ (List.mem_of_getElem? (i := 62) (by decide +kernel))), List.forall_mem_cons.mpr ⟨(List.mem_append_right _ (List.mem_of_getElem? (i := 110) (by decide +kernel))), List.forall_mem_cons.mpr ⟨(List.mem_append_right _ (List.mem_of_getElem? (i := 113) (by decide +kernel))), List.forall_mem_cons.mpr ⟨(List.mem_append_right _ (List.mem_of_getElem? (i := 115) (by decide +kernel))), List.forall_mem_cons.mpr ⟨(List.mem_append_right _ (List.mem_of_getElem? (i := 117) (by decide +kernel))), List.forall_mem_cons.mpr ⟨(List.mem_append_right _ (List.mem_of_getElem? (i := 119) (by decide +kernel))), List.forall_mem_cons.mpr ⟨(List.mem_append_right _ (List.mem_of_getElem? (i := 121) (by decide +kernel))), List.forall_mem_cons.mpr ⟨(List.mem_append_right _ (List.mem_of_getElem? (i := 178) (by decide +kernel))), List.forall_mem_cons.mpr ⟨(List.mem_append_right _ (List.mem_of_getElem? (i := 180) (by decide +kernel))), List.forall_mem_cons.mpr ⟨(List.mem_append_right _ (List.mem_of_getElem? (i := 18) (by decide +kernel))), List.forall_mem_cons.mpr ⟨(List.mem_append_right _ (List.mem_of_getElem? (i := 104) (by decide +kernel))), List.forall_mem_cons.mpr ⟨(List.mem_append_right _ (List.mem_of_getElem? (i := 174) (by decide +kernel))), List.forall_mem_cons.mpr ⟨(List.mem_append_right _ (List.mem_of_getElem? (i := 194) (by decide +kernel))), List.forall_mem_cons.mpr ⟨(List.mem_append_right _ (List.mem_of_getElem? (i := 203) (by decide +kernel))), List.forall_mem_cons.mpr ⟨(List.mem_append_right _ (List.mem_of_getElem? (i := 207) (by decide +kernel))), List.forall_mem_cons.mpr ⟨(List.mem_append_right _ (List.mem_of_getElem? (i := 210) (by decide +kernel))), List.forall_mem_cons.mpr ⟨(List.mem_append_right _ (List.mem_of_getElem? (i := 223) (by decide +kernel))), List.forall_mem_cons.mpr ⟨(List.mem_append_right _ (List.mem_of_getElem? (i := 231) (by decide +kernel))), List.forall_mem_cons.mpr ⟨(List.mem_append_right _ (List.mem_of_getElem? (i := 243) (by decide +kernel))), List.forall_mem_cons.mpr ⟨(List.mem_append_right _ (List.mem_of_getElem? (i := 251) (by decide +kernel))), List.forall_mem_cons.mpr ⟨(List.mem_append_right _ (List.mem_of_getElem? (i := 329) (by decide +kernel))), List.forall_mem_cons.mpr ⟨(List.mem_append_right _ (List.mem_of_getElem? (i := 333) (by decide +kernel))), List.forall_mem_cons.mpr ⟨(List.mem_append_right _ (List.mem_of_getElem? (i := 342) (by decide +kernel))), List.forall_mem_cons.mpr ⟨(List.mem_append_right _ (List.mem_of_getElem? (i := 343) (by decide +kernel))), List.forall_mem_cons.mpr ⟨(List.mem_append_right _ (List.mem_of_getElem? (i := 356) (by decide +kernel))), List.forall_mem_cons.mpr ⟨(List.mem_append_right _ (List.mem_of_getElem? (i := 364) (by decide +kernel))), List.forall_mem_cons.mpr ⟨(List.mem_append_right _ (List.mem_of_getElem? (i := 377) (by decide +kernel))), List.forall_mem_cons.mpr ⟨(List.mem_append_right _ (List.mem_of_getElem? (i := 388) (by decide +kernel))), List.forall_mem_cons.mpr ⟨(List.mem_append_right _ (List.mem_of_getElem? (i := 396) (by decide +kernel))), List.forall_mem_cons.mpr ⟨(List.mem_append_right _ (List.mem_of_getElem? (i := 404) (by decide +kernel))), List.forall_mem_cons.mpr ⟨(List.mem_append_right _ (List.mem_of_getElem? (i := 443) (by decide +kernel))), List.forall_mem_cons.mpr ⟨(List.mem_append_right _ (List.mem_of_getElem? (i := 444) (by decide +kernel))), fun _ h => absurd h List.not_mem_nil⟩⟩⟩⟩⟩⟩⟩⟩⟩⟩⟩⟩⟩⟩⟩⟩⟩⟩⟩⟩⟩⟩⟩⟩⟩⟩⟩⟩⟩⟩⟩⟩⟩⟩⟩⟩⟩⟩⟩⟩⟩⟩⟩⟩⟩⟩⟩⟩⟩⟩
theorem nw_start {s : State} {args : Array Value} (hts : ∀ w ∈ lw_tbl, w.before args s = true) : NWs s := by
  intro w hw
  have hz := hts w (nw_in w hw)
  have hk := nwl_ok w hw
  cases w <;> first | exact va_Nw.of rfl hz | exact absurd hk (by simp [isNw])
theorem st_start {s : State} {b : Nat} (hts : ∀ w ∈ lw_tbl, w.before #[Value.ref b] s = true) (hgv : (Jvm.Cond.and given_1 narrow_1).before #[Value.ref b] s = true) : STs (AL s) s s.heap := by
  have hs := flat_of_before _ hgv
  have hA0 : ∀ a : Nat, a < s.heap.size → ¬ AL s a := fun a h => Nat.not_le.mpr h
  have hini : (Cond.initialized "PianoCovers").before #[Value.ref b] s = true := hts _ (List.mem_append_right _ (List.mem_of_getElem? (i := 1) (by decide +kernel)))
  have ha1 : (Cond.arrayOf (.static "PianoCovers" "FIRST_SETTING" "[I") .int).before #[Value.ref b] s = true := hs _ (by decide +kernel)
  have hl1 : (Cond.eq (.length (.static "PianoCovers" "FIRST_SETTING" "[I")) (.int 7)).before #[Value.ref b] s = true := hs _ (by decide +kernel)
  have h1_0 : (Cond.eq (.elem (.static "PianoCovers" "FIRST_SETTING" "[I") (.int 0)) (.int 2)).before #[Value.ref b] s = true := hs _ (by decide +kernel)
  have h1_1 : (Cond.eq (.elem (.static "PianoCovers" "FIRST_SETTING" "[I") (.int 1)) (.int 20)).before #[Value.ref b] s = true := hs _ (by decide +kernel)
  have h1_2 : (Cond.eq (.elem (.static "PianoCovers" "FIRST_SETTING" "[I") (.int 2)) (.int 4)).before #[Value.ref b] s = true := hs _ (by decide +kernel)
  have h1_3 : (Cond.eq (.elem (.static "PianoCovers" "FIRST_SETTING" "[I") (.int 3)) (.int 3)).before #[Value.ref b] s = true := hs _ (by decide +kernel)
  have h1_4 : (Cond.eq (.elem (.static "PianoCovers" "FIRST_SETTING" "[I") (.int 4)) (.int 10)).before #[Value.ref b] s = true := hs _ (by decide +kernel)
  have h1_5 : (Cond.eq (.elem (.static "PianoCovers" "FIRST_SETTING" "[I") (.int 5)) (.int 60)).before #[Value.ref b] s = true := hs _ (by decide +kernel)
  have h1_6 : (Cond.eq (.elem (.static "PianoCovers" "FIRST_SETTING" "[I") (.int 6)) (.int 7)).before #[Value.ref b] s = true := hs _ (by decide +kernel)
  obtain ⟨t1, et1, hT1⟩ := va_Tof (tm := (.static "PianoCovers" "FIRST_SETTING" "[I")) (ty := .int) (N := 7) (f := fun j => .int (firstF j)) (A := AL s) (by decide) ha1 (va_eqt hl1) (fun j hj => by
    rcases (show j = 0 ∨ j = 1 ∨ j = 2 ∨ j = 3 ∨ j = 4 ∨ j = 5 ∨ j = 6 by omega) with rfl | rfl | rfl | rfl | rfl | rfl | rfl
    · exact va_eqt h1_0
    · exact va_eqt h1_1
    · exact va_eqt h1_2
    · exact va_eqt h1_3
    · exact va_eqt h1_4
    · exact va_eqt h1_5
    · exact va_eqt h1_6) hA0
  have hz1 := va_Zref (hts _ (List.mem_append_right _ (List.mem_of_getElem? (i := 23) (by decide +kernel)))) hini et1 hA0
  have ha2 : (Cond.arrayOf (.static "PianoCovers" "LEAST_SETTING" "[I") .int).before #[Value.ref b] s = true := hs _ (by decide +kernel)
  have hl2 : (Cond.eq (.length (.static "PianoCovers" "LEAST_SETTING" "[I")) (.int 7)).before #[Value.ref b] s = true := hs _ (by decide +kernel)
  have h2_0 : (Cond.eq (.elem (.static "PianoCovers" "LEAST_SETTING" "[I") (.int 0)) (.int 0)).before #[Value.ref b] s = true := hs _ (by decide +kernel)
  have h2_1 : (Cond.eq (.elem (.static "PianoCovers" "LEAST_SETTING" "[I") (.int 1)) (.int 1)).before #[Value.ref b] s = true := hs _ (by decide +kernel)
  have h2_2 : (Cond.eq (.elem (.static "PianoCovers" "LEAST_SETTING" "[I") (.int 2)) (.int 1)).before #[Value.ref b] s = true := hs _ (by decide +kernel)
  have h2_3 : (Cond.eq (.elem (.static "PianoCovers" "LEAST_SETTING" "[I") (.int 3)) (.int 0)).before #[Value.ref b] s = true := hs _ (by decide +kernel)
  have h2_4 : (Cond.eq (.elem (.static "PianoCovers" "LEAST_SETTING" "[I") (.int 4)) (.int 0)).before #[Value.ref b] s = true := hs _ (by decide +kernel)
  have h2_5 : (Cond.eq (.elem (.static "PianoCovers" "LEAST_SETTING" "[I") (.int 5)) (.int 0)).before #[Value.ref b] s = true := hs _ (by decide +kernel)
  have h2_6 : (Cond.eq (.elem (.static "PianoCovers" "LEAST_SETTING" "[I") (.int 6)) (.int 1)).before #[Value.ref b] s = true := hs _ (by decide +kernel)
  obtain ⟨t2, et2, hT2⟩ := va_Tof (tm := (.static "PianoCovers" "LEAST_SETTING" "[I")) (ty := .int) (N := 7) (f := fun j => .int (leastF j)) (A := AL s) (by decide) ha2 (va_eqt hl2) (fun j hj => by
    rcases (show j = 0 ∨ j = 1 ∨ j = 2 ∨ j = 3 ∨ j = 4 ∨ j = 5 ∨ j = 6 by omega) with rfl | rfl | rfl | rfl | rfl | rfl | rfl
    · exact va_eqt h2_0
    · exact va_eqt h2_1
    · exact va_eqt h2_2
    · exact va_eqt h2_3
    · exact va_eqt h2_4
    · exact va_eqt h2_5
    · exact va_eqt h2_6) hA0
  have hz2 := va_Zref (hts _ (List.mem_append_right _ (List.mem_of_getElem? (i := 179) (by decide +kernel)))) hini et2 hA0
  have ha3 : (Cond.arrayOf (.static "PianoCovers" "MOST_SETTING" "[I") .int).before #[Value.ref b] s = true := hs _ (by decide +kernel)
  have hl3 : (Cond.eq (.length (.static "PianoCovers" "MOST_SETTING" "[I")) (.int 7)).before #[Value.ref b] s = true := hs _ (by decide +kernel)
  have h3_0 : (Cond.eq (.elem (.static "PianoCovers" "MOST_SETTING" "[I") (.int 0)) (.int 12)).before #[Value.ref b] s = true := hs _ (by decide +kernel)
  have h3_1 : (Cond.eq (.elem (.static "PianoCovers" "MOST_SETTING" "[I") (.int 1)) (.int 50)).before #[Value.ref b] s = true := hs _ (by decide +kernel)
  have h3_2 : (Cond.eq (.elem (.static "PianoCovers" "MOST_SETTING" "[I") (.int 2)) (.int 20)).before #[Value.ref b] s = true := hs _ (by decide +kernel)
  have h3_3 : (Cond.eq (.elem (.static "PianoCovers" "MOST_SETTING" "[I") (.int 3)) (.int 20)).before #[Value.ref b] s = true := hs _ (by decide +kernel)
  have h3_4 : (Cond.eq (.elem (.static "PianoCovers" "MOST_SETTING" "[I") (.int 4)) (.int 50)).before #[Value.ref b] s = true := hs _ (by decide +kernel)
  have h3_5 : (Cond.eq (.elem (.static "PianoCovers" "MOST_SETTING" "[I") (.int 5)) (.int 100)).before #[Value.ref b] s = true := hs _ (by decide +kernel)
  have h3_6 : (Cond.eq (.elem (.static "PianoCovers" "MOST_SETTING" "[I") (.int 6)) (.int 20)).before #[Value.ref b] s = true := hs _ (by decide +kernel)
  obtain ⟨t3, et3, hT3⟩ := va_Tof (tm := (.static "PianoCovers" "MOST_SETTING" "[I")) (ty := .int) (N := 7) (f := fun j => .int (mostF j)) (A := AL s) (by decide) ha3 (va_eqt hl3) (fun j hj => by
    rcases (show j = 0 ∨ j = 1 ∨ j = 2 ∨ j = 3 ∨ j = 4 ∨ j = 5 ∨ j = 6 by omega) with rfl | rfl | rfl | rfl | rfl | rfl | rfl
    · exact va_eqt h3_0
    · exact va_eqt h3_1
    · exact va_eqt h3_2
    · exact va_eqt h3_3
    · exact va_eqt h3_4
    · exact va_eqt h3_5
    · exact va_eqt h3_6) hA0
  have hz3 := va_Zref (hts _ (List.mem_append_right _ (List.mem_of_getElem? (i := 181) (by decide +kernel)))) hini et3 hA0
  exact ⟨t1, t2, t3, hz1, hT1, hz2, hT2, hz3, hT3⟩
-- the array classes
theorem ao_start {s : State} {b : Nat} (hts : ∀ w ∈ lw_tbl, w.before #[Value.ref b] s = true) : va_AO RX1 s := va_AO.of (hts (.arrayOver (.object RX1)) (List.mem_append_right _ (List.mem_of_getElem? (i := 101) (by decide +kernel))))
theorem ac_one {s : State} {args : Array Value} {ty : FieldType} (h : (Cond.arrayClass ty).before args s = true) (ho : ∀ C, ty ≠ .object C) : ∃ cA, ArrOfT s cA ty ∧ va_RA s cA ty := by
  obtain ⟨cA, kA, comp, h1, h2, h3⟩ := Cond.arrayClass_spec h
  refine ⟨cA, fun n z => ⟨fun k h => (by cases h), kA, h2, comp, h3⟩, ?_⟩
  cases ty with
  | object C => exact absurd rfl (ho C)
  | _ => exact h1
theorem ac_obj {s : State} (h : va_AO RX1 s) : ∃ cA, ArrOfT s cA (.object "PianoCovers$Street") ∧ va_RA s cA (.object "PianoCovers$Street") := by
  obtain ⟨comp, cA, kA, h1, -, h3, h4, h5⟩ := Cond.arrayOver_spec (args := #[]) h
  exact ⟨cA, fun n z => ⟨fun k h => (by cases h), kA, h3, comp, h4⟩, kA, comp, h3, h4, h1, h5⟩
set_option maxHeartbeats 4000000 in
set_option maxRecDepth 100000 in
theorem whole_start {p : Program} {e : Env} {s : State} {m : MethodId} {below : List Frame} {meth : Method} {c : Code} (l : Launch) (hflags : l.flags = flags0) {b L : Nat} {xs : Nat → Int32} (hL : L ≤ 1536) (C0 : lw_At p s m meth c b L xs) : W p l e room_1 s m #[Value.ref b] below meth c s.heap [] 0 0 (lw_Z below #[Value.ref b] s) (entryFrame m ([Value.ref b] : List Value).toArray 4) := by
  obtain ⟨hx, hb, hr, hml, hown0, hts0, hX, hbl, hlocks, hgv⟩ := id C0
  have hown : s.vm.findClass RL = some m.cls := hown0
  have hb : c.code = cL_law := hb
  have hts : ∀ w ∈ wsL_law, w.before #[Value.ref b] s = true := fun w hw => hts0 w (wsL_law_in w hw)
  have hA : ∀ q : Nat, s.heap.size ≤ q → AL s q := fun _ z => z
  have hN : NWs s := nw_start hts0
  have hST : STs (AL s) s s.heap := st_start hts0 hgv
  have hO : va_AO RX1 s := ao_start hts0
  obtain ⟨c0, i0, k0⟩ := u_known (C := RX0) (T := TX0) (N := 8) (n := 8) hts inlX0 (hts _ (List.mem_of_getElem? (i := 25) (by decide +kernel)))
  obtain ⟨c1, i1, k1⟩ := u_known (C := RX1) (T := TX1) (N := 18) (n := 18) hts inlX1 (hts _ (List.mem_of_getElem? (i := 14) (by decide +kernel)))
  obtain ⟨c2, i2, k2⟩ := u_known (C := RX2) (T := TX2) (N := 8) (n := 8) hts inlX2 (hts _ (List.mem_of_getElem? (i := 1) (by decide +kernel)))
  obtain ⟨c3, i3, k3⟩ := u_known (C := RX3) (T := TX3) (N := 13) (n := 13) hts inlX3 (hts _ (List.mem_of_getElem? (i := 4) (by decide +kernel)))
  obtain ⟨cI, aI⟩ := ac_one (ty := .int) (hts _ (List.mem_of_getElem? (i := 31) (by decide +kernel))) (fun C h => by cases h)
  obtain ⟨cC, aC⟩ := ac_one (ty := .char) (hts _ (List.mem_of_getElem? (i := 57) (by decide +kernel))) (fun C h => by cases h)
  obtain ⟨cZ, aZ⟩ := ac_one (ty := .boolean) (hts _ (List.mem_of_getElem? (i := 22) (by decide +kernel))) (fun C h => by cases h)
  obtain ⟨cR, aR⟩ := ac_obj hO
  obtain ⟨G, hK⟩ : ∃ G : va_G, va_K G vwCl (TY cI cC cZ cR) s := by
    refine ⟨(fun k => if k = 0 then c0 else if k = 1 then c1 else if k = 2 then c2 else c3, fun k => if k = 0 then i0 else if k = 1 then i1 else if k = 2 then i2 else i3), fun k q hq => ?_, fun k q hq => ?_⟩
    · match k, hq with
      | 0, hq => cases hq; exact k0
      | 1, hq => cases hq; exact k1
      | 2, hq => cases hq; exact k2
      | 3, hq => cases hq; exact k3
      | k + 4, hq => simp [vwCl] at hq
    · match k, hq with
      | 0, hq => cases hq; exact aI
      | 1, hq => cases hq; exact aC
      | 2, hq => cases hq; exact aZ
      | 3, hq => cases hq; exact aR
      | k + 4, hq => simp at hq
  have hS : va_S (AL s) s.heap s.heap [] := va_S.rf
  have hP : va_P G vwCl [] s.heap := nilP
  have hD : va_D (AL s) [] := nilD
  have hl := lv_entry ([.ref b]) (n := 4) (Nat.le_of_ble_eq_true rfl)
  rw [lg_entry_eq]
  generalize (lg_sl ([.ref b]) ++ List.replicate (4 - (lg_sl ([.ref b])).length) Slot.unset).toArray = ls at hl ⊢
  have hl : lv_has ls 4 [(0, .ref b)] := hl
  -- the class
  refine va_new (ci := 2) (fs := fsX2) (C := RX2) (T := TX2) (N := 8) hx hb hts inlX2 tyX2 tyX2_ok hown (hts _ (List.mem_of_getElem? (i := 0) (by decide +kernel))) (hts _ (List.mem_of_getElem? (i := 1) (by decide +kernel))) (hts _ (List.mem_of_getElem? (i := 2) (by decide +kernel))) hK hP hD hS hA rfl fsX2_ok (Nat.le_of_ble_eq_true rfl) (Nat.le_of_ble_eq_true rfl) dL_law_0 (fun o H hP hD hS => ?_)
  refine W.widen (k := 1) (n := 8) (by omega) (by omega) ?_
  refine lv_dup hx hb dL_law_3 rfl ?_
  have hP' : va_P G vwCl ([] ++ ([(o, .inr (2, fsX2))] ++ [])) H := hP
  have hD' : va_D (AL s) ([] ++ ([(o, .inr (2, fsX2))] ++ [])) := hD
  have hF := fr_in hD'.midc hS hA
  refine va_callv (va_runI (As := []) (rest := [.ref o]) ⟨hx, hb, hml, hown, hts⟩ (ctX2_init l G cI cC cZ cR o H.size) (cwI 0 hts gL_law_X2_init rfl rfl rfl (hts _ (List.mem_of_getElem? (i := 2) (by decide +kernel))) (hts _ (List.mem_of_getElem? (i := 7) (by decide +kernel))) (hts _ (List.mem_of_getElem? (i := 8) (by decide +kernel))) rfl (by decide +kernel) ⟨Nat.le_of_ble_eq_true rfl, Nat.le_of_ble_eq_true rfl⟩) ⟨PreN.blind, PreN.at hST hO hS hA hP'.midc hK hD'.midc hN _⟩ rfl rfl hl.1 rfl (lv_room (Nat.le_of_ble_eq_true rfl)) dL_law_4 ⟨Nat.le_of_ble_eq_true rfl, Nat.le_of_ble_eq_true rfl⟩) hS (fun q _ h => hF q h) hF (fun u t H1 locs ht _ hu hB _ hk hS => ?_)
  obtain ⟨ho, hh, hp⟩ := u
  obtain ⟨hP1, hD1⟩ := hB
  rw [ht] at hP1
  obtain ⟨gP, gD⟩ := fr_mid hP' hD' hF hk hP1 hD1
  rw [List.append_nil] at gP gD
  have hu : ho 0 = o := hu
  subst hu
  have hP : va_P G vwCl (wX cI cC cZ cR ho hh hp tI) H1 := gP
  have hD : va_D (AL s) (wX cI cC cZ cR ho hh hp tI) := gD
  refine W.widen (k := 127) (n := 1184) (by omega) (by omega) ?_
  refine lv_astore_n (lv' := [(1, .ref (ho 0)), (0, .ref b)]) hx hb dL_law_7 rfl hl (by decide) rfl (fun ls hl => ?_)
  -- the model
  refine va_new (ci := 3) (fs := fsX3) (C := RX3) (T := TX3) (N := 13) hx hb hts inlX3 tyX3 tyX3_ok hown (hts _ (List.mem_of_getElem? (i := 3) (by decide +kernel))) (hts _ (List.mem_of_getElem? (i := 4) (by decide +kernel))) (hts _ (List.mem_of_getElem? (i := 5) (by decide +kernel))) hK hP hD hS hA rfl fsX3_ok (Nat.le_of_ble_eq_true rfl) (Nat.le_of_ble_eq_true rfl) dL_law_8 (fun o3 H hP hD hS => ?_)
  refine W.widen (k := 128) (n := 1197) (by omega) (by omega) ?_
  refine lv_dup hx hb dL_law_11 rfl ?_
  have hP' : va_P G vwCl (wX cI cC cZ cR ho hh hp tI ++ ([(o3, .inr (3, fsX3))] ++ [])) H := hP
  have hD' : va_D (AL s) (wX cI cC cZ cR ho hh hp tI ++ ([(o3, .inr (3, fsX3))] ++ [])) := hD
  have hF := fr_in hD'.midc hS hA
  refine va_callv (va_runI (As := []) (rest := [.ref o3]) ⟨hx, hb, hml, hown, hts⟩ (ctX3_init l G cI cC cZ cR o3 H.size) (cwI 0 hts gL_law_X3_init rfl rfl rfl (hts _ (List.mem_of_getElem? (i := 5) (by decide +kernel))) (hts _ (List.mem_of_getElem? (i := 66) (by decide +kernel))) (hts _ (List.mem_of_getElem? (i := 67) (by decide +kernel))) rfl (by decide +kernel) ⟨Nat.le_of_ble_eq_true rfl, Nat.le_of_ble_eq_true rfl⟩) ⟨PreN.blind, PreN.at hST hO hS hA hP'.midc hK hD'.midc hN _⟩ rfl rfl hl.1 rfl (lv_room (Nat.le_of_ble_eq_true rfl)) dL_law_12 ⟨Nat.le_of_ble_eq_true rfl, Nat.le_of_ble_eq_true rfl⟩) hS (fun q _ h => hF q h) hF (fun h t H1 locs ht _ hu hB _ hk hS => ?_)
  obtain ⟨hP1, hD1⟩ := hB
  rw [ht] at hP1
  obtain ⟨gP, gD⟩ := fr_mid hP' hD' hF hk hP1 hD1
  rw [List.append_nil] at gP gD
  have hu : h 0 = o3 := hu
  subst hu
  have hP : va_P G vwCl (wX cI cC cZ cR ho hh hp tI ++ wMo cI h moI) H1 := gP
  have hD : va_D (AL s) (wX cI cC cZ cR ho hh hp tI ++ wMo cI h moI) := gD
  refine W.widen (k := 134) (n := 2369) (by omega) (by omega) ?_
  refine lv_astore_n (lv' := [(2, .ref (h 0)), (1, .ref (ho 0)), (0, .ref b)]) hx hb dL_law_15 rfl hl (by decide) rfl (fun ls hl => ?_)
  refine lv_iconst (v := 0) hx hb dL_law_16 (by decide) ?_
  refine lv_istore_n (lv' := [(3, .int 0), (2, .ref (h 0)), (1, .ref (ho 0)), (0, .ref b)]) hx hb dL_law_17 rfl hl (by decide) rfl (fun ls hl => ?_)
  exact law_loop ⟨hx, hb, hr, hml, hown, hts, hX, hbl, hlocks, hK, hN, hST, hO, hL⟩ (L + 1) 0 hh tI moI RT_0 (Nat.zero_le _) (by omega) _ _ ls hP hD hS (by rw [nI_0]; exact lv_sub hl [3, 2, 1, 0] rfl)
