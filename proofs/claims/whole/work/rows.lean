section
-- ===== PART A: goes FIRST, ahead of the names: the tables' words, and 'selects' of the private methods out of them =====
/-- a private method of a class that the tables say can be made, by its rows of tables_1 -/
def lw_okq (q : MethodName × Nat) : Prop := (q.1.cls ≠ "java/lang/invoke/MethodHandle" ∧ q.1.cls ≠ "java/lang/invoke/VarHandle") ∧ Cond.instantiable q.1.cls q.2 ∈ tables_1 ∧ Cond.privateMethod q.1 ∈ tables_1 ∧ Cond.instanceMethod q.1 ∈ tables_1
theorem lw_p0 : lw_okq (⟨"PianoCovers$Street", "changeSetting", "(II)I"⟩, 18) := ⟨⟨by decide +kernel, by decide +kernel⟩, List.mem_of_getElem? (i := 17) (by decide +kernel), List.mem_of_getElem? (i := 175) (by decide +kernel), List.mem_of_getElem? (i := 176) (by decide +kernel)⟩
theorem lw_p1 : lw_okq (⟨"PianoCovers", "recorded", "(I)I"⟩, 8) := ⟨⟨by decide +kernel, by decide +kernel⟩, List.mem_of_getElem? (i := 9) (by decide +kernel), List.mem_of_getElem? (i := 183) (by decide +kernel), List.mem_of_getElem? (i := 184) (by decide +kernel)⟩
theorem lw_p2 : lw_okq (⟨"PianoCovers", "dropOldest", "()V"⟩, 8) := ⟨⟨by decide +kernel, by decide +kernel⟩, List.mem_of_getElem? (i := 9) (by decide +kernel), List.mem_of_getElem? (i := 187) (by decide +kernel), List.mem_of_getElem? (i := 188) (by decide +kernel)⟩
theorem lw_p3 : lw_okq (⟨"PianoCovers$Street", "changeRain", "(I)I"⟩, 18) := ⟨⟨by decide +kernel, by decide +kernel⟩, List.mem_of_getElem? (i := 17) (by decide +kernel), List.mem_of_getElem? (i := 195) (by decide +kernel), List.mem_of_getElem? (i := 196) (by decide +kernel)⟩
theorem lw_p4 : lw_okq (⟨"PianoCovers$Street", "addPiano", "(II)I"⟩, 18) := ⟨⟨by decide +kernel, by decide +kernel⟩, List.mem_of_getElem? (i := 17) (by decide +kernel), List.mem_of_getElem? (i := 204) (by decide +kernel), List.mem_of_getElem? (i := 205) (by decide +kernel)⟩
theorem lw_p5 : lw_okq (⟨"PianoCovers$Street", "removePiano", "(I)I"⟩, 18) := ⟨⟨by decide +kernel, by decide +kernel⟩, List.mem_of_getElem? (i := 17) (by decide +kernel), List.mem_of_getElem? (i := 224) (by decide +kernel), List.mem_of_getElem? (i := 225) (by decide +kernel)⟩
theorem lw_p6 : lw_okq (⟨"PianoCovers$Street", "hireKeeper", "(I)I"⟩, 18) := ⟨⟨by decide +kernel, by decide +kernel⟩, List.mem_of_getElem? (i := 17) (by decide +kernel), List.mem_of_getElem? (i := 232) (by decide +kernel), List.mem_of_getElem? (i := 233) (by decide +kernel)⟩
theorem lw_p7 : lw_okq (⟨"PianoCovers$Street", "addKeeper", "(I)V"⟩, 18) := ⟨⟨by decide +kernel, by decide +kernel⟩, List.mem_of_getElem? (i := 17) (by decide +kernel), List.mem_of_getElem? (i := 236) (by decide +kernel), List.mem_of_getElem? (i := 237) (by decide +kernel)⟩
theorem lw_p8 : lw_okq (⟨"PianoCovers$Street", "layCover", "(I)I"⟩, 18) := ⟨⟨by decide +kernel, by decide +kernel⟩, List.mem_of_getElem? (i := 17) (by decide +kernel), List.mem_of_getElem? (i := 244) (by decide +kernel), List.mem_of_getElem? (i := 245) (by decide +kernel)⟩
theorem lw_p9 : lw_okq (⟨"PianoCovers$Street", "passCounted", "(I)I"⟩, 18) := ⟨⟨by decide +kernel, by decide +kernel⟩, List.mem_of_getElem? (i := 17) (by decide +kernel), List.mem_of_getElem? (i := 252) (by decide +kernel), List.mem_of_getElem? (i := 253) (by decide +kernel)⟩
theorem lw_p10 : lw_okq (⟨"PianoCovers$Street", "passHours", "(I)I"⟩, 18) := ⟨⟨by decide +kernel, by decide +kernel⟩, List.mem_of_getElem? (i := 17) (by decide +kernel), List.mem_of_getElem? (i := 256) (by decide +kernel), List.mem_of_getElem? (i := 257) (by decide +kernel)⟩
theorem lw_p11 : lw_okq (⟨"PianoCovers$Street", "letKeepersAct", "()V"⟩, 18) := ⟨⟨by decide +kernel, by decide +kernel⟩, List.mem_of_getElem? (i := 17) (by decide +kernel), List.mem_of_getElem? (i := 260) (by decide +kernel), List.mem_of_getElem? (i := 261) (by decide +kernel)⟩
theorem lw_p12 : lw_okq (⟨"PianoCovers$Street", "rainIsAhead", "()Z"⟩, 18) := ⟨⟨by decide +kernel, by decide +kernel⟩, List.mem_of_getElem? (i := 17) (by decide +kernel), List.mem_of_getElem? (i := 264) (by decide +kernel), List.mem_of_getElem? (i := 265) (by decide +kernel)⟩
theorem lw_p13 : lw_okq (⟨"PianoCovers$Street", "rainsAfter", "(I)Z"⟩, 18) := ⟨⟨by decide +kernel, by decide +kernel⟩, List.mem_of_getElem? (i := 17) (by decide +kernel), List.mem_of_getElem? (i := 268) (by decide +kernel), List.mem_of_getElem? (i := 269) (by decide +kernel)⟩
theorem lw_p14 : lw_okq (⟨"PianoCovers$Street", "outOfTune", "()I"⟩, 18) := ⟨⟨by decide +kernel, by decide +kernel⟩, List.mem_of_getElem? (i := 17) (by decide +kernel), List.mem_of_getElem? (i := 275) (by decide +kernel), List.mem_of_getElem? (i := 276) (by decide +kernel)⟩
theorem lw_p15 : lw_okq (⟨"PianoCovers$Street", "openOnes", "()I"⟩, 18) := ⟨⟨by decide +kernel, by decide +kernel⟩, List.mem_of_getElem? (i := 17) (by decide +kernel), List.mem_of_getElem? (i := 279) (by decide +kernel), List.mem_of_getElem? (i := 280) (by decide +kernel)⟩
def lw_privs_1 : List (MethodName × Nat) := [(⟨"PianoCovers$Street", "changeSetting", "(II)I"⟩, 18), (⟨"PianoCovers", "recorded", "(I)I"⟩, 8), (⟨"PianoCovers", "dropOldest", "()V"⟩, 8), (⟨"PianoCovers$Street", "changeRain", "(I)I"⟩, 18), (⟨"PianoCovers$Street", "addPiano", "(II)I"⟩, 18), (⟨"PianoCovers$Street", "removePiano", "(I)I"⟩, 18), (⟨"PianoCovers$Street", "hireKeeper", "(I)I"⟩, 18), (⟨"PianoCovers$Street", "addKeeper", "(I)V"⟩, 18), (⟨"PianoCovers$Street", "layCover", "(I)I"⟩, 18), (⟨"PianoCovers$Street", "passCounted", "(I)I"⟩, 18), (⟨"PianoCovers$Street", "passHours", "(I)I"⟩, 18), (⟨"PianoCovers$Street", "letKeepersAct", "()V"⟩, 18), (⟨"PianoCovers$Street", "rainIsAhead", "()Z"⟩, 18), (⟨"PianoCovers$Street", "rainsAfter", "(I)Z"⟩, 18), (⟨"PianoCovers$Street", "outOfTune", "()I"⟩, 18), (⟨"PianoCovers$Street", "openOnes", "()I"⟩, 18)]
theorem lw_r1 : ∀ q ∈ lw_privs_1, lw_okq q := List.forall_mem_cons.mpr ⟨lw_p0, List.forall_mem_cons.mpr ⟨lw_p1, List.forall_mem_cons.mpr ⟨lw_p2, List.forall_mem_cons.mpr ⟨lw_p3, List.forall_mem_cons.mpr ⟨lw_p4, List.forall_mem_cons.mpr ⟨lw_p5, List.forall_mem_cons.mpr ⟨lw_p6, List.forall_mem_cons.mpr ⟨lw_p7, List.forall_mem_cons.mpr ⟨lw_p8, List.forall_mem_cons.mpr ⟨lw_p9, List.forall_mem_cons.mpr ⟨lw_p10, List.forall_mem_cons.mpr ⟨lw_p11, List.forall_mem_cons.mpr ⟨lw_p12, List.forall_mem_cons.mpr ⟨lw_p13, List.forall_mem_cons.mpr ⟨lw_p14, List.forall_mem_cons.mpr ⟨lw_p15, fun _ h => absurd h List.not_mem_nil⟩⟩⟩⟩⟩⟩⟩⟩⟩⟩⟩⟩⟩⟩⟩⟩
theorem lw_p16 : lw_okq (⟨"PianoCovers$Street", "goTowards", "(II)V"⟩, 18) := ⟨⟨by decide +kernel, by decide +kernel⟩, List.mem_of_getElem? (i := 17) (by decide +kernel), List.mem_of_getElem? (i := 283) (by decide +kernel), List.mem_of_getElem? (i := 284) (by decide +kernel)⟩
theorem lw_p17 : lw_okq (⟨"PianoCovers$Street", "tune", "(II)V"⟩, 18) := ⟨⟨by decide +kernel, by decide +kernel⟩, List.mem_of_getElem? (i := 17) (by decide +kernel), List.mem_of_getElem? (i := 287) (by decide +kernel), List.mem_of_getElem? (i := 288) (by decide +kernel)⟩
theorem lw_p18 : lw_okq (⟨"PianoCovers$Street", "putCoverOn", "(II)V"⟩, 18) := ⟨⟨by decide +kernel, by decide +kernel⟩, List.mem_of_getElem? (i := 17) (by decide +kernel), List.mem_of_getElem? (i := 294) (by decide +kernel), List.mem_of_getElem? (i := 295) (by decide +kernel)⟩
theorem lw_p19 : lw_okq (⟨"PianoCovers$Street", "takeCoverOff", "(II)V"⟩, 18) := ⟨⟨by decide +kernel, by decide +kernel⟩, List.mem_of_getElem? (i := 17) (by decide +kernel), List.mem_of_getElem? (i := 298) (by decide +kernel), List.mem_of_getElem? (i := 299) (by decide +kernel)⟩
theorem lw_p20 : lw_okq (⟨"PianoCovers$Street", "letRainFall", "()V"⟩, 18) := ⟨⟨by decide +kernel, by decide +kernel⟩, List.mem_of_getElem? (i := 17) (by decide +kernel), List.mem_of_getElem? (i := 302) (by decide +kernel), List.mem_of_getElem? (i := 303) (by decide +kernel)⟩
theorem lw_p21 : lw_okq (⟨"PianoCovers$Street", "letPianosDry", "()V"⟩, 18) := ⟨⟨by decide +kernel, by decide +kernel⟩, List.mem_of_getElem? (i := 17) (by decide +kernel), List.mem_of_getElem? (i := 309) (by decide +kernel), List.mem_of_getElem? (i := 310) (by decide +kernel)⟩
theorem lw_p22 : lw_okq (⟨"PianoCovers$Street", "letPianosBePlayed", "()V"⟩, 18) := ⟨⟨by decide +kernel, by decide +kernel⟩, List.mem_of_getElem? (i := 17) (by decide +kernel), List.mem_of_getElem? (i := 313) (by decide +kernel), List.mem_of_getElem? (i := 314) (by decide +kernel)⟩
theorem lw_p23 : lw_okq (⟨"PianoCovers$Street", "letThievesCome", "()V"⟩, 18) := ⟨⟨by decide +kernel, by decide +kernel⟩, List.mem_of_getElem? (i := 17) (by decide +kernel), List.mem_of_getElem? (i := 317) (by decide +kernel), List.mem_of_getElem? (i := 318) (by decide +kernel)⟩
theorem lw_p24 : lw_okq (⟨"PianoCovers$Street", "keepersAt", "(I)I"⟩, 18) := ⟨⟨by decide +kernel, by decide +kernel⟩, List.mem_of_getElem? (i := 17) (by decide +kernel), List.mem_of_getElem? (i := 321) (by decide +kernel), List.mem_of_getElem? (i := 322) (by decide +kernel)⟩
theorem lw_p25 : lw_okq (⟨"PianoCovers$Street", "coverAt", "(I)I"⟩, 18) := ⟨⟨by decide +kernel, by decide +kernel⟩, List.mem_of_getElem? (i := 17) (by decide +kernel), List.mem_of_getElem? (i := 330) (by decide +kernel), List.mem_of_getElem? (i := 331) (by decide +kernel)⟩
theorem lw_p26 : lw_okq (⟨"PianoCovers$Street", "hoursUntilRain", "()I"⟩, 18) := ⟨⟨by decide +kernel, by decide +kernel⟩, List.mem_of_getElem? (i := 17) (by decide +kernel), List.mem_of_getElem? (i := 357) (by decide +kernel), List.mem_of_getElem? (i := 358) (by decide +kernel)⟩
theorem lw_p27 : lw_okq (⟨"PianoCovers", "coinsWithOneMoreAt", "(II)I"⟩, 8) := ⟨⟨by decide +kernel, by decide +kernel⟩, List.mem_of_getElem? (i := 9) (by decide +kernel), List.mem_of_getElem? (i := 374) (by decide +kernel), List.mem_of_getElem? (i := 375) (by decide +kernel)⟩
theorem lw_p28 : lw_okq (⟨"PianoCovers$Pad", "append", "(C)V"⟩, 8) := ⟨⟨by decide +kernel, by decide +kernel⟩, List.mem_of_getElem? (i := 103) (by decide +kernel), List.mem_of_getElem? (i := 389) (by decide +kernel), List.mem_of_getElem? (i := 390) (by decide +kernel)⟩
theorem lw_p29 : lw_okq (⟨"PianoCovers$Pad", "clear", "()V"⟩, 8) := ⟨⟨by decide +kernel, by decide +kernel⟩, List.mem_of_getElem? (i := 103) (by decide +kernel), List.mem_of_getElem? (i := 397) (by decide +kernel), List.mem_of_getElem? (i := 398) (by decide +kernel)⟩
theorem lw_p30 : lw_okq (⟨"PianoCovers$Pad", "findFault", "()I"⟩, 8) := ⟨⟨by decide +kernel, by decide +kernel⟩, List.mem_of_getElem? (i := 103) (by decide +kernel), List.mem_of_getElem? (i := 405) (by decide +kernel), List.mem_of_getElem? (i := 406) (by decide +kernel)⟩
theorem lw_p31 : lw_okq (⟨"PianoCovers$Pad", "rewind", "()V"⟩, 8) := ⟨⟨by decide +kernel, by decide +kernel⟩, List.mem_of_getElem? (i := 103) (by decide +kernel), List.mem_of_getElem? (i := 409) (by decide +kernel), List.mem_of_getElem? (i := 410) (by decide +kernel)⟩
def lw_privs_2 : List (MethodName × Nat) := [(⟨"PianoCovers$Street", "goTowards", "(II)V"⟩, 18), (⟨"PianoCovers$Street", "tune", "(II)V"⟩, 18), (⟨"PianoCovers$Street", "putCoverOn", "(II)V"⟩, 18), (⟨"PianoCovers$Street", "takeCoverOff", "(II)V"⟩, 18), (⟨"PianoCovers$Street", "letRainFall", "()V"⟩, 18), (⟨"PianoCovers$Street", "letPianosDry", "()V"⟩, 18), (⟨"PianoCovers$Street", "letPianosBePlayed", "()V"⟩, 18), (⟨"PianoCovers$Street", "letThievesCome", "()V"⟩, 18), (⟨"PianoCovers$Street", "keepersAt", "(I)I"⟩, 18), (⟨"PianoCovers$Street", "coverAt", "(I)I"⟩, 18), (⟨"PianoCovers$Street", "hoursUntilRain", "()I"⟩, 18), (⟨"PianoCovers", "coinsWithOneMoreAt", "(II)I"⟩, 8), (⟨"PianoCovers$Pad", "append", "(C)V"⟩, 8), (⟨"PianoCovers$Pad", "clear", "()V"⟩, 8), (⟨"PianoCovers$Pad", "findFault", "()I"⟩, 8), (⟨"PianoCovers$Pad", "rewind", "()V"⟩, 8)]
theorem lw_r2 : ∀ q ∈ lw_privs_2, lw_okq q := List.forall_mem_cons.mpr ⟨lw_p16, List.forall_mem_cons.mpr ⟨lw_p17, List.forall_mem_cons.mpr ⟨lw_p18, List.forall_mem_cons.mpr ⟨lw_p19, List.forall_mem_cons.mpr ⟨lw_p20, List.forall_mem_cons.mpr ⟨lw_p21, List.forall_mem_cons.mpr ⟨lw_p22, List.forall_mem_cons.mpr ⟨lw_p23, List.forall_mem_cons.mpr ⟨lw_p24, List.forall_mem_cons.mpr ⟨lw_p25, List.forall_mem_cons.mpr ⟨lw_p26, List.forall_mem_cons.mpr ⟨lw_p27, List.forall_mem_cons.mpr ⟨lw_p28, List.forall_mem_cons.mpr ⟨lw_p29, List.forall_mem_cons.mpr ⟨lw_p30, List.forall_mem_cons.mpr ⟨lw_p31, fun _ h => absurd h List.not_mem_nil⟩⟩⟩⟩⟩⟩⟩⟩⟩⟩⟩⟩⟩⟩⟩⟩
theorem lw_p32 : lw_okq (⟨"PianoCovers$Pad", "readOrder", "()Z"⟩, 8) := ⟨⟨by decide +kernel, by decide +kernel⟩, List.mem_of_getElem? (i := 103) (by decide +kernel), List.mem_of_getElem? (i := 413) (by decide +kernel), List.mem_of_getElem? (i := 414) (by decide +kernel)⟩
theorem lw_p33 : lw_okq (⟨"PianoCovers$Pad", "next", "()C"⟩, 8) := ⟨⟨by decide +kernel, by decide +kernel⟩, List.mem_of_getElem? (i := 103) (by decide +kernel), List.mem_of_getElem? (i := 417) (by decide +kernel), List.mem_of_getElem? (i := 418) (by decide +kernel)⟩
theorem lw_p34 : lw_okq (⟨"PianoCovers$Pad", "readBody", "()Z"⟩, 8) := ⟨⟨by decide +kernel, by decide +kernel⟩, List.mem_of_getElem? (i := 103) (by decide +kernel), List.mem_of_getElem? (i := 421) (by decide +kernel), List.mem_of_getElem? (i := 422) (by decide +kernel)⟩
theorem lw_p35 : lw_okq (⟨"PianoCovers$Pad", "readNumber", "(I)Z"⟩, 8) := ⟨⟨by decide +kernel, by decide +kernel⟩, List.mem_of_getElem? (i := 103) (by decide +kernel), List.mem_of_getElem? (i := 425) (by decide +kernel), List.mem_of_getElem? (i := 426) (by decide +kernel)⟩
theorem lw_p36 : lw_okq (⟨"PianoCovers$Pad", "skip", "(C)Z"⟩, 8) := ⟨⟨by decide +kernel, by decide +kernel⟩, List.mem_of_getElem? (i := 103) (by decide +kernel), List.mem_of_getElem? (i := 432) (by decide +kernel), List.mem_of_getElem? (i := 433) (by decide +kernel)⟩
theorem lw_p37 : lw_okq (⟨"PianoCovers$Pad", "readHours", "()Z"⟩, 8) := ⟨⟨by decide +kernel, by decide +kernel⟩, List.mem_of_getElem? (i := 103) (by decide +kernel), List.mem_of_getElem? (i := 436) (by decide +kernel), List.mem_of_getElem? (i := 437) (by decide +kernel)⟩
theorem lw_p38 : lw_okq (⟨"PianoCovers", "answerToOrder", "()I"⟩, 8) := ⟨⟨by decide +kernel, by decide +kernel⟩, List.mem_of_getElem? (i := 9) (by decide +kernel), List.mem_of_getElem? (i := 446) (by decide +kernel), List.mem_of_getElem? (i := 447) (by decide +kernel)⟩
theorem lw_p39 : lw_okq (⟨"PianoCoversModel", "record", "()V"⟩, 13) := ⟨⟨by decide +kernel, by decide +kernel⟩, List.mem_of_getElem? (i := 463) (by decide +kernel), List.mem_of_getElem? (i := 519) (by decide +kernel), List.mem_of_getElem? (i := 520) (by decide +kernel)⟩
theorem lw_p40 : lw_okq (⟨"PianoCoversModel", "whyNoPiano", "(II)I"⟩, 13) := ⟨⟨by decide +kernel, by decide +kernel⟩, List.mem_of_getElem? (i := 463) (by decide +kernel), List.mem_of_getElem? (i := 535) (by decide +kernel), List.mem_of_getElem? (i := 536) (by decide +kernel)⟩
theorem lw_p41 : lw_okq (⟨"PianoCoversModel", "isPiano", "(I)Z"⟩, 13) := ⟨⟨by decide +kernel, by decide +kernel⟩, List.mem_of_getElem? (i := 463) (by decide +kernel), List.mem_of_getElem? (i := 542) (by decide +kernel), List.mem_of_getElem? (i := 543) (by decide +kernel)⟩
theorem lw_p42 : lw_okq (⟨"PianoCoversModel", "pianoPart", "(II)I"⟩, 13) := ⟨⟨by decide +kernel, by decide +kernel⟩, List.mem_of_getElem? (i := 463) (by decide +kernel), List.mem_of_getElem? (i := 546) (by decide +kernel), List.mem_of_getElem? (i := 547) (by decide +kernel)⟩
theorem lw_p43 : lw_okq (⟨"PianoCoversModel", "pianoComes", "(II)V"⟩, 13) := ⟨⟨by decide +kernel, by decide +kernel⟩, List.mem_of_getElem? (i := 463) (by decide +kernel), List.mem_of_getElem? (i := 550) (by decide +kernel), List.mem_of_getElem? (i := 551) (by decide +kernel)⟩
theorem lw_p44 : lw_okq (⟨"PianoCoversModel", "setPiano", "(III)V"⟩, 13) := ⟨⟨by decide +kernel, by decide +kernel⟩, List.mem_of_getElem? (i := 463) (by decide +kernel), List.mem_of_getElem? (i := 554) (by decide +kernel), List.mem_of_getElem? (i := 555) (by decide +kernel)⟩
theorem lw_p45 : lw_okq (⟨"PianoCoversModel", "pianosThere", "()I"⟩, 13) := ⟨⟨by decide +kernel, by decide +kernel⟩, List.mem_of_getElem? (i := 463) (by decide +kernel), List.mem_of_getElem? (i := 558) (by decide +kernel), List.mem_of_getElem? (i := 559) (by decide +kernel)⟩
theorem lw_p46 : lw_okq (⟨"PianoCoversModel", "whyNoKeeper", "(I)I"⟩, 13) := ⟨⟨by decide +kernel, by decide +kernel⟩, List.mem_of_getElem? (i := 463) (by decide +kernel), List.mem_of_getElem? (i := 570) (by decide +kernel), List.mem_of_getElem? (i := 571) (by decide +kernel)⟩
theorem lw_p47 : lw_okq (⟨"PianoCoversModel", "keeperComes", "(I)I"⟩, 13) := ⟨⟨by decide +kernel, by decide +kernel⟩, List.mem_of_getElem? (i := 463) (by decide +kernel), List.mem_of_getElem? (i := 574) (by decide +kernel), List.mem_of_getElem? (i := 575) (by decide +kernel)⟩
def lw_privs_3 : List (MethodName × Nat) := [(⟨"PianoCovers$Pad", "readOrder", "()Z"⟩, 8), (⟨"PianoCovers$Pad", "next", "()C"⟩, 8), (⟨"PianoCovers$Pad", "readBody", "()Z"⟩, 8), (⟨"PianoCovers$Pad", "readNumber", "(I)Z"⟩, 8), (⟨"PianoCovers$Pad", "skip", "(C)Z"⟩, 8), (⟨"PianoCovers$Pad", "readHours", "()Z"⟩, 8), (⟨"PianoCovers", "answerToOrder", "()I"⟩, 8), (⟨"PianoCoversModel", "record", "()V"⟩, 13), (⟨"PianoCoversModel", "whyNoPiano", "(II)I"⟩, 13), (⟨"PianoCoversModel", "isPiano", "(I)Z"⟩, 13), (⟨"PianoCoversModel", "pianoPart", "(II)I"⟩, 13), (⟨"PianoCoversModel", "pianoComes", "(II)V"⟩, 13), (⟨"PianoCoversModel", "setPiano", "(III)V"⟩, 13), (⟨"PianoCoversModel", "pianosThere", "()I"⟩, 13), (⟨"PianoCoversModel", "whyNoKeeper", "(I)I"⟩, 13), (⟨"PianoCoversModel", "keeperComes", "(I)I"⟩, 13)]
theorem lw_r3 : ∀ q ∈ lw_privs_3, lw_okq q := List.forall_mem_cons.mpr ⟨lw_p32, List.forall_mem_cons.mpr ⟨lw_p33, List.forall_mem_cons.mpr ⟨lw_p34, List.forall_mem_cons.mpr ⟨lw_p35, List.forall_mem_cons.mpr ⟨lw_p36, List.forall_mem_cons.mpr ⟨lw_p37, List.forall_mem_cons.mpr ⟨lw_p38, List.forall_mem_cons.mpr ⟨lw_p39, List.forall_mem_cons.mpr ⟨lw_p40, List.forall_mem_cons.mpr ⟨lw_p41, List.forall_mem_cons.mpr ⟨lw_p42, List.forall_mem_cons.mpr ⟨lw_p43, List.forall_mem_cons.mpr ⟨lw_p44, List.forall_mem_cons.mpr ⟨lw_p45, List.forall_mem_cons.mpr ⟨lw_p46, List.forall_mem_cons.mpr ⟨lw_p47, fun _ h => absurd h List.not_mem_nil⟩⟩⟩⟩⟩⟩⟩⟩⟩⟩⟩⟩⟩⟩⟩⟩
theorem lw_p48 : lw_okq (⟨"PianoCoversModel", "whyNoCover", "(I)I"⟩, 13) := ⟨⟨by decide +kernel, by decide +kernel⟩, List.mem_of_getElem? (i := 463) (by decide +kernel), List.mem_of_getElem? (i := 582) (by decide +kernel), List.mem_of_getElem? (i := 583) (by decide +kernel)⟩
theorem lw_p49 : lw_okq (⟨"PianoCoversModel", "withCovers", "()I"⟩, 13) := ⟨⟨by decide +kernel, by decide +kernel⟩, List.mem_of_getElem? (i := 463) (by decide +kernel), List.mem_of_getElem? (i := 586) (by decide +kernel), List.mem_of_getElem? (i := 587) (by decide +kernel)⟩
theorem lw_p50 : lw_okq (⟨"PianoCoversModel", "whyNotPassed", "(I)I"⟩, 13) := ⟨⟨by decide +kernel, by decide +kernel⟩, List.mem_of_getElem? (i := 463) (by decide +kernel), List.mem_of_getElem? (i := 594) (by decide +kernel), List.mem_of_getElem? (i := 595) (by decide +kernel)⟩
theorem lw_p51 : lw_okq (⟨"PianoCoversModel", "passes", "(I)I"⟩, 13) := ⟨⟨by decide +kernel, by decide +kernel⟩, List.mem_of_getElem? (i := 463) (by decide +kernel), List.mem_of_getElem? (i := 598) (by decide +kernel), List.mem_of_getElem? (i := 599) (by decide +kernel)⟩
theorem lw_p52 : lw_okq (⟨"PianoCoversModel", "hour", "()V"⟩, 13) := ⟨⟨by decide +kernel, by decide +kernel⟩, List.mem_of_getElem? (i := 463) (by decide +kernel), List.mem_of_getElem? (i := 602) (by decide +kernel), List.mem_of_getElem? (i := 603) (by decide +kernel)⟩
theorem lw_p53 : lw_okq (⟨"PianoCoversModel", "rainsIn", "(I)Z"⟩, 13) := ⟨⟨by decide +kernel, by decide +kernel⟩, List.mem_of_getElem? (i := 463) (by decide +kernel), List.mem_of_getElem? (i := 606) (by decide +kernel), List.mem_of_getElem? (i := 607) (by decide +kernel)⟩
theorem lw_p54 : lw_okq (⟨"PianoCoversModel", "keepersGo", "()V"⟩, 13) := ⟨⟨by decide +kernel, by decide +kernel⟩, List.mem_of_getElem? (i := 463) (by decide +kernel), List.mem_of_getElem? (i := 610) (by decide +kernel), List.mem_of_getElem? (i := 611) (by decide +kernel)⟩
theorem lw_p55 : lw_okq (⟨"PianoCoversModel", "isRainAhead", "()Z"⟩, 13) := ⟨⟨by decide +kernel, by decide +kernel⟩, List.mem_of_getElem? (i := 463) (by decide +kernel), List.mem_of_getElem? (i := 614) (by decide +kernel), List.mem_of_getElem? (i := 615) (by decide +kernel)⟩
theorem lw_p56 : lw_okq (⟨"PianoCoversModel", "keeperGoes", "(IZ)V"⟩, 13) := ⟨⟨by decide +kernel, by decide +kernel⟩, List.mem_of_getElem? (i := 463) (by decide +kernel), List.mem_of_getElem? (i := 618) (by decide +kernel), List.mem_of_getElem? (i := 619) (by decide +kernel)⟩
theorem lw_p57 : lw_okq (⟨"PianoCoversModel", "nearest", "(II)I"⟩, 13) := ⟨⟨by decide +kernel, by decide +kernel⟩, List.mem_of_getElem? (i := 463) (by decide +kernel), List.mem_of_getElem? (i := 622) (by decide +kernel), List.mem_of_getElem? (i := 623) (by decide +kernel)⟩
theorem lw_p58 : lw_okq (⟨"PianoCoversModel", "isWanted", "(II)Z"⟩, 13) := ⟨⟨by decide +kernel, by decide +kernel⟩, List.mem_of_getElem? (i := 463) (by decide +kernel), List.mem_of_getElem? (i := 626) (by decide +kernel), List.mem_of_getElem? (i := 627) (by decide +kernel)⟩
theorem lw_p59 : lw_okq (⟨"PianoCoversModel", "isOpen", "(I)Z"⟩, 13) := ⟨⟨by decide +kernel, by decide +kernel⟩, List.mem_of_getElem? (i := 463) (by decide +kernel), List.mem_of_getElem? (i := 630) (by decide +kernel), List.mem_of_getElem? (i := 631) (by decide +kernel)⟩
theorem lw_p60 : lw_okq (⟨"PianoCoversModel", "keeperPart", "(II)I"⟩, 13) := ⟨⟨by decide +kernel, by decide +kernel⟩, List.mem_of_getElem? (i := 463) (by decide +kernel), List.mem_of_getElem? (i := 634) (by decide +kernel), List.mem_of_getElem? (i := 635) (by decide +kernel)⟩
theorem lw_p61 : lw_okq (⟨"PianoCoversModel", "does", "(III)V"⟩, 13) := ⟨⟨by decide +kernel, by decide +kernel⟩, List.mem_of_getElem? (i := 463) (by decide +kernel), List.mem_of_getElem? (i := 641) (by decide +kernel), List.mem_of_getElem? (i := 642) (by decide +kernel)⟩
theorem lw_p62 : lw_okq (⟨"PianoCoversModel", "adds", "(III)V"⟩, 13) := ⟨⟨by decide +kernel, by decide +kernel⟩, List.mem_of_getElem? (i := 463) (by decide +kernel), List.mem_of_getElem? (i := 645) (by decide +kernel), List.mem_of_getElem? (i := 646) (by decide +kernel)⟩
theorem lw_p63 : lw_okq (⟨"PianoCoversModel", "rainsOn", "(I)V"⟩, 13) := ⟨⟨by decide +kernel, by decide +kernel⟩, List.mem_of_getElem? (i := 463) (by decide +kernel), List.mem_of_getElem? (i := 652) (by decide +kernel), List.mem_of_getElem? (i := 653) (by decide +kernel)⟩
def lw_privs_4 : List (MethodName × Nat) := [(⟨"PianoCoversModel", "whyNoCover", "(I)I"⟩, 13), (⟨"PianoCoversModel", "withCovers", "()I"⟩, 13), (⟨"PianoCoversModel", "whyNotPassed", "(I)I"⟩, 13), (⟨"PianoCoversModel", "passes", "(I)I"⟩, 13), (⟨"PianoCoversModel", "hour", "()V"⟩, 13), (⟨"PianoCoversModel", "rainsIn", "(I)Z"⟩, 13), (⟨"PianoCoversModel", "keepersGo", "()V"⟩, 13), (⟨"PianoCoversModel", "isRainAhead", "()Z"⟩, 13), (⟨"PianoCoversModel", "keeperGoes", "(IZ)V"⟩, 13), (⟨"PianoCoversModel", "nearest", "(II)I"⟩, 13), (⟨"PianoCoversModel", "isWanted", "(II)Z"⟩, 13), (⟨"PianoCoversModel", "isOpen", "(I)Z"⟩, 13), (⟨"PianoCoversModel", "keeperPart", "(II)I"⟩, 13), (⟨"PianoCoversModel", "does", "(III)V"⟩, 13), (⟨"PianoCoversModel", "adds", "(III)V"⟩, 13), (⟨"PianoCoversModel", "rainsOn", "(I)V"⟩, 13)]
theorem lw_r4 : ∀ q ∈ lw_privs_4, lw_okq q := List.forall_mem_cons.mpr ⟨lw_p48, List.forall_mem_cons.mpr ⟨lw_p49, List.forall_mem_cons.mpr ⟨lw_p50, List.forall_mem_cons.mpr ⟨lw_p51, List.forall_mem_cons.mpr ⟨lw_p52, List.forall_mem_cons.mpr ⟨lw_p53, List.forall_mem_cons.mpr ⟨lw_p54, List.forall_mem_cons.mpr ⟨lw_p55, List.forall_mem_cons.mpr ⟨lw_p56, List.forall_mem_cons.mpr ⟨lw_p57, List.forall_mem_cons.mpr ⟨lw_p58, List.forall_mem_cons.mpr ⟨lw_p59, List.forall_mem_cons.mpr ⟨lw_p60, List.forall_mem_cons.mpr ⟨lw_p61, List.forall_mem_cons.mpr ⟨lw_p62, List.forall_mem_cons.mpr ⟨lw_p63, fun _ h => absurd h List.not_mem_nil⟩⟩⟩⟩⟩⟩⟩⟩⟩⟩⟩⟩⟩⟩⟩⟩
theorem lw_p64 : lw_okq (⟨"PianoCoversModel", "dries", "(II)V"⟩, 13) := ⟨⟨by decide +kernel, by decide +kernel⟩, List.mem_of_getElem? (i := 463) (by decide +kernel), List.mem_of_getElem? (i := 656) (by decide +kernel), List.mem_of_getElem? (i := 657) (by decide +kernel)⟩
theorem lw_p65 : lw_okq (⟨"PianoCoversModel", "thieves", "()V"⟩, 13) := ⟨⟨by decide +kernel, by decide +kernel⟩, List.mem_of_getElem? (i := 463) (by decide +kernel), List.mem_of_getElem? (i := 660) (by decide +kernel), List.mem_of_getElem? (i := 661) (by decide +kernel)⟩
theorem lw_p66 : lw_okq (⟨"PianoCoversModel", "keepersAt", "(I)I"⟩, 13) := ⟨⟨by decide +kernel, by decide +kernel⟩, List.mem_of_getElem? (i := 463) (by decide +kernel), List.mem_of_getElem? (i := 664) (by decide +kernel), List.mem_of_getElem? (i := 665) (by decide +kernel)⟩
theorem lw_p67 : lw_okq (⟨"PianoCoversModel", "pianosWith", "(I)I"⟩, 13) := ⟨⟨by decide +kernel, by decide +kernel⟩, List.mem_of_getElem? (i := 463) (by decide +kernel), List.mem_of_getElem? (i := 680) (by decide +kernel), List.mem_of_getElem? (i := 681) (by decide +kernel)⟩
theorem lw_p68 : lw_okq (⟨"PianoCoversModel", "worth", "(I)I"⟩, 13) := ⟨⟨by decide +kernel, by decide +kernel⟩, List.mem_of_getElem? (i := 463) (by decide +kernel), List.mem_of_getElem? (i := 688) (by decide +kernel), List.mem_of_getElem? (i := 689) (by decide +kernel)⟩
theorem lw_p69 : lw_okq (⟨"PianoCoversModel", "findFault", "()I"⟩, 13) := ⟨⟨by decide +kernel, by decide +kernel⟩, List.mem_of_getElem? (i := 463) (by decide +kernel), List.mem_of_getElem? (i := 725) (by decide +kernel), List.mem_of_getElem? (i := 726) (by decide +kernel)⟩
theorem lw_p70 : lw_okq (⟨"PianoCoversModel", "readsOrder", "()Z"⟩, 13) := ⟨⟨by decide +kernel, by decide +kernel⟩, List.mem_of_getElem? (i := 463) (by decide +kernel), List.mem_of_getElem? (i := 729) (by decide +kernel), List.mem_of_getElem? (i := 730) (by decide +kernel)⟩
theorem lw_p71 : lw_okq (⟨"PianoCoversModel", "character", "(I)I"⟩, 13) := ⟨⟨by decide +kernel, by decide +kernel⟩, List.mem_of_getElem? (i := 463) (by decide +kernel), List.mem_of_getElem? (i := 733) (by decide +kernel), List.mem_of_getElem? (i := 734) (by decide +kernel)⟩
theorem lw_p72 : lw_okq (⟨"PianoCoversModel", "takesNumber", "()Z"⟩, 13) := ⟨⟨by decide +kernel, by decide +kernel⟩, List.mem_of_getElem? (i := 463) (by decide +kernel), List.mem_of_getElem? (i := 737) (by decide +kernel), List.mem_of_getElem? (i := 738) (by decide +kernel)⟩
theorem lw_p73 : lw_okq (⟨"PianoCoversModel", "takeNumber", "(I)I"⟩, 13) := ⟨⟨by decide +kernel, by decide +kernel⟩, List.mem_of_getElem? (i := 463) (by decide +kernel), List.mem_of_getElem? (i := 741) (by decide +kernel), List.mem_of_getElem? (i := 742) (by decide +kernel)⟩
theorem lw_p74 : lw_okq (⟨"PianoCoversModel", "isDigit", "()Z"⟩, 13) := ⟨⟨by decide +kernel, by decide +kernel⟩, List.mem_of_getElem? (i := 463) (by decide +kernel), List.mem_of_getElem? (i := 745) (by decide +kernel), List.mem_of_getElem? (i := 746) (by decide +kernel)⟩
theorem lw_p75 : lw_okq (⟨"PianoCoversModel", "isNext", "(I)Z"⟩, 13) := ⟨⟨by decide +kernel, by decide +kernel⟩, List.mem_of_getElem? (i := 463) (by decide +kernel), List.mem_of_getElem? (i := 749) (by decide +kernel), List.mem_of_getElem? (i := 750) (by decide +kernel)⟩
theorem lw_p76 : lw_okq (⟨"PianoCoversModel", "takesHours", "()Z"⟩, 13) := ⟨⟨by decide +kernel, by decide +kernel⟩, List.mem_of_getElem? (i := 463) (by decide +kernel), List.mem_of_getElem? (i := 753) (by decide +kernel), List.mem_of_getElem? (i := 754) (by decide +kernel)⟩
theorem lw_p77 : lw_okq (⟨"PianoCoversModel", "whyNotDone", "()I"⟩, 13) := ⟨⟨by decide +kernel, by decide +kernel⟩, List.mem_of_getElem? (i := 463) (by decide +kernel), List.mem_of_getElem? (i := 761) (by decide +kernel), List.mem_of_getElem? (i := 762) (by decide +kernel)⟩
theorem lw_p78 : lw_okq (⟨"PianoCoversModel", "doesOrder", "()V"⟩, 13) := ⟨⟨by decide +kernel, by decide +kernel⟩, List.mem_of_getElem? (i := 463) (by decide +kernel), List.mem_of_getElem? (i := 765) (by decide +kernel), List.mem_of_getElem? (i := 766) (by decide +kernel)⟩
def lw_privs_5 : List (MethodName × Nat) := [(⟨"PianoCoversModel", "dries", "(II)V"⟩, 13), (⟨"PianoCoversModel", "thieves", "()V"⟩, 13), (⟨"PianoCoversModel", "keepersAt", "(I)I"⟩, 13), (⟨"PianoCoversModel", "pianosWith", "(I)I"⟩, 13), (⟨"PianoCoversModel", "worth", "(I)I"⟩, 13), (⟨"PianoCoversModel", "findFault", "()I"⟩, 13), (⟨"PianoCoversModel", "readsOrder", "()Z"⟩, 13), (⟨"PianoCoversModel", "character", "(I)I"⟩, 13), (⟨"PianoCoversModel", "takesNumber", "()Z"⟩, 13), (⟨"PianoCoversModel", "takeNumber", "(I)I"⟩, 13), (⟨"PianoCoversModel", "isDigit", "()Z"⟩, 13), (⟨"PianoCoversModel", "isNext", "(I)Z"⟩, 13), (⟨"PianoCoversModel", "takesHours", "()Z"⟩, 13), (⟨"PianoCoversModel", "whyNotDone", "()I"⟩, 13), (⟨"PianoCoversModel", "doesOrder", "()V"⟩, 13)]
theorem lw_r5 : ∀ q ∈ lw_privs_5, lw_okq q := List.forall_mem_cons.mpr ⟨lw_p64, List.forall_mem_cons.mpr ⟨lw_p65, List.forall_mem_cons.mpr ⟨lw_p66, List.forall_mem_cons.mpr ⟨lw_p67, List.forall_mem_cons.mpr ⟨lw_p68, List.forall_mem_cons.mpr ⟨lw_p69, List.forall_mem_cons.mpr ⟨lw_p70, List.forall_mem_cons.mpr ⟨lw_p71, List.forall_mem_cons.mpr ⟨lw_p72, List.forall_mem_cons.mpr ⟨lw_p73, List.forall_mem_cons.mpr ⟨lw_p74, List.forall_mem_cons.mpr ⟨lw_p75, List.forall_mem_cons.mpr ⟨lw_p76, List.forall_mem_cons.mpr ⟨lw_p77, List.forall_mem_cons.mpr ⟨lw_p78, fun _ h => absurd h List.not_mem_nil⟩⟩⟩⟩⟩⟩⟩⟩⟩⟩⟩⟩⟩⟩⟩
def lw_privs : List (MethodName × Nat) := lw_privs_1 ++ (lw_privs_2 ++ (lw_privs_3 ++ (lw_privs_4 ++ (lw_privs_5))))
def lw_tbl : List Cond := k2_sels lw_privs ++ tables_1
theorem lw_privs_ok : ∀ q ∈ lw_privs, lw_okq q := by
  show ∀ q ∈ lw_privs_1 ++ (lw_privs_2 ++ (lw_privs_3 ++ (lw_privs_4 ++ (lw_privs_5)))), lw_okq q
  exact List.forall_mem_append.mpr ⟨lw_r1, List.forall_mem_append.mpr ⟨lw_r2, List.forall_mem_append.mpr ⟨lw_r3, List.forall_mem_append.mpr ⟨lw_r4, lw_r5⟩⟩⟩⟩
end
section
/-! ===== BEGIN words of one list among another's, by their places ===== -/
theorem goodIn_r {big : List Cond} (ws : List Cond) (ps : List Nat) (hp : ws = ps.filterMap (fun i => big[i]?)) (h : ws.all goodWord = true) : GoodIn big ws := by
  intro w hw
  have h1 := List.all_eq_true.mp h w hw
  rw [hp] at hw
  obtain ⟨i, -, hi⟩ := List.mem_filterMap.mp hw
  have hm : w ∈ big := by first | exact List.mem_of_getElem? hi | exact List.getElem?_mem hi
  exact ⟨hm, good_of_word h1⟩
theorem goodIn_app {big a b : List Cond} (ha : GoodIn big a) (hb : GoodIn big b) : GoodIn big (a ++ b) := fun w h => (List.mem_append.mp h).elim (ha w) (hb w)
theorem goodIn_ca {big a b : List Cond} {c : Cond} (ha : GoodIn big (c :: a)) (hb : GoodIn big b) : GoodIn big (c :: (a ++ b)) := fun w h => (List.mem_cons.mp h).elim (fun e => ha w (List.mem_cons.mpr (Or.inl e))) (fun h => (List.mem_append.mp h).elim (fun h => ha w (List.mem_cons.mpr (Or.inr h))) (hb w))
theorem goodIn_sub {big ws : List Cond} (hm : ∀ w ∈ ws, w ∈ big) (h : ws.all goodWord = true) : GoodIn big ws := fun w hw => ⟨hm w hw, good_of_word (List.all_eq_true.mp h w hw)⟩
/-! ===== END ===== -/

/-! ===== BEGIN printed: names, fields, word lists, decode rows ===== -/
def RX0 : String := "PianoCovers$Pad"
def TX0 : u_T := fun k => match k with
  | 0 => ("PianoCovers$Pad", "text", "[C", true)
  | 1 => ("PianoCovers$Pad", "length", "I", false)
  | 2 => ("PianoCovers$Pad", "at", "I", false)
  | 3 => ("PianoCovers$Pad", "kind", "C", false)
  | 4 => ("PianoCovers$Pad", "number", "I", false)
  | 5 => ("PianoCovers$Pad", "cover", "I", false)
  | 6 => ("PianoCovers$Pad", "hours", "I", false)
  | _ => ("PianoCovers$Pad", "more", "Z", false)
def tyX0 : Nat → FieldType := fun k => match k with
  | 0 => .array .char
  | 1 => .int
  | 2 => .int
  | 3 => .char
  | 4 => .int
  | 5 => .int
  | 6 => .int
  | _ => .boolean
abbrev wsX00 : List Cond := u_ws RX0 TX0 8
theorem nmX0 : ∀ a, a < 8 → ∀ b, b < 8 → a ≠ b → (TX0 a).2.1 ≠ (TX0 b).2.1 := by decide +kernel
theorem tyX0_ok : ∀ k, k < 8 → parseFieldDescriptor (TX0 k).2.2.1 = some (tyX0 k) := by decide +kernel
abbrev cX0_init : ByteArray := prog_2_method_1_code
def yX0_init : MethodName := ⟨RX0, "<init>", "()V"⟩
abbrev cX0_append : ByteArray := prog_2_method_2_code
def yX0_append : MethodName := ⟨RX0, "append", "(C)V"⟩
abbrev cX0_clear : ByteArray := prog_2_method_3_code
def yX0_clear : MethodName := ⟨RX0, "clear", "()V"⟩
abbrev cX0_rewind : ByteArray := prog_2_method_4_code
def yX0_rewind : MethodName := ⟨RX0, "rewind", "()V"⟩
abbrev cX0_findFault : ByteArray := prog_2_method_5_code
def yX0_findFault : MethodName := ⟨RX0, "findFault", "()I"⟩
abbrev cX0_readOrder : ByteArray := prog_2_method_6_code
def yX0_readOrder : MethodName := ⟨RX0, "readOrder", "()Z"⟩
abbrev cX0_readBody : ByteArray := prog_2_method_7_code
def yX0_readBody : MethodName := ⟨RX0, "readBody", "()Z"⟩
abbrev cX0_readHours : ByteArray := prog_2_method_8_code
def yX0_readHours : MethodName := ⟨RX0, "readHours", "()Z"⟩
abbrev cX0_readNumber : ByteArray := prog_2_method_9_code
def yX0_readNumber : MethodName := ⟨RX0, "readNumber", "(I)Z"⟩
abbrev cX0_isDigit : ByteArray := prog_2_method_10_code
def yX0_isDigit : MethodName := ⟨RX0, "isDigit", "(C)Z"⟩
abbrev cX0_skip : ByteArray := prog_2_method_11_code
def yX0_skip : MethodName := ⟨RX0, "skip", "(C)Z"⟩
abbrev cX0_next : ByteArray := prog_2_method_12_code
def yX0_next : MethodName := ⟨RX0, "next", "()C"⟩
def RX1 : String := "PianoCovers$Street"
def TX1 : u_T := fun k => match k with
  | 0 => ("PianoCovers$Street", "settings", "[I", true)
  | 1 => ("PianoCovers$Street", "pianos", "I", false)
  | 2 => ("PianoCovers$Street", "lying", "I", false)
  | 3 => ("PianoCovers$Street", "covered", "I", false)
  | 4 => ("PianoCovers$Street", "pitch", "[I", true)
  | 5 => ("PianoCovers$Street", "damp", "[I", true)
  | 6 => ("PianoCovers$Street", "earned", "[I", true)
  | 7 => ("PianoCovers$Street", "rainedOn", "[I", true)
  | 8 => ("PianoCovers$Street", "keepers", "I", false)
  | 9 => ("PianoCovers$Street", "keeperAt", "[I", true)
  | 10 => ("PianoCovers$Street", "timesCovered", "[I", true)
  | 11 => ("PianoCovers$Street", "timesOpened", "[I", true)
  | 12 => ("PianoCovers$Street", "timesTuned", "[I", true)
  | 13 => ("PianoCovers$Street", "placesWent", "[I", true)
  | 14 => ("PianoCovers$Street", "rainHours", "I", false)
  | 15 => ("PianoCovers$Street", "hours", "I", false)
  | 16 => ("PianoCovers$Street", "coins", "I", false)
  | _ => ("PianoCovers$Street", "stolen", "I", false)
def tyX1 : Nat → FieldType := fun k => match k with
  | 0 => .array .int
  | 1 => .int
  | 2 => .int
  | 3 => .int
  | 4 => .array .int
  | 5 => .array .int
  | 6 => .array .int
  | 7 => .array .int
  | 8 => .int
  | 9 => .array .int
  | 10 => .array .int
  | 11 => .array .int
  | 12 => .array .int
  | 13 => .array .int
  | 14 => .int
  | 15 => .int
  | 16 => .int
  | _ => .int
abbrev wsX10 : List Cond := u_ws RX1 TX1 18
theorem nmX1 : ∀ a, a < 18 → ∀ b, b < 18 → a ≠ b → (TX1 a).2.1 ≠ (TX1 b).2.1 := by decide +kernel
theorem tyX1_ok : ∀ k, k < 18 → parseFieldDescriptor (TX1 k).2.2.1 = some (tyX1 k) := by decide +kernel
abbrev cX1_init : ByteArray := prog_3_method_1_code
def yX1_init : MethodName := ⟨RX1, "<init>", "()V"⟩
abbrev cX1_changeSetting : ByteArray := prog_3_method_2_code
def yX1_changeSetting : MethodName := ⟨RX1, "changeSetting", "(II)I"⟩
abbrev cX1_changeRain : ByteArray := prog_3_method_3_code
def yX1_changeRain : MethodName := ⟨RX1, "changeRain", "(I)I"⟩
abbrev cX1_addPiano : ByteArray := prog_3_method_4_code
def yX1_addPiano : MethodName := ⟨RX1, "addPiano", "(II)I"⟩
abbrev cX1_removePiano : ByteArray := prog_3_method_5_code
def yX1_removePiano : MethodName := ⟨RX1, "removePiano", "(I)I"⟩
abbrev cX1_hireKeeper : ByteArray := prog_3_method_6_code
def yX1_hireKeeper : MethodName := ⟨RX1, "hireKeeper", "(I)I"⟩
abbrev cX1_addKeeper : ByteArray := prog_3_method_7_code
def yX1_addKeeper : MethodName := ⟨RX1, "addKeeper", "(I)V"⟩
abbrev cX1_layCover : ByteArray := prog_3_method_8_code
def yX1_layCover : MethodName := ⟨RX1, "layCover", "(I)I"⟩
abbrev cX1_passCounted : ByteArray := prog_3_method_9_code
def yX1_passCounted : MethodName := ⟨RX1, "passCounted", "(I)I"⟩
abbrev cX1_coverAt : ByteArray := prog_3_method_10_code
def yX1_coverAt : MethodName := ⟨RX1, "coverAt", "(I)I"⟩
abbrev cX1_keepersAt : ByteArray := prog_3_method_11_code
def yX1_keepersAt : MethodName := ⟨RX1, "keepersAt", "(I)I"⟩
abbrev cX1_rainsAfter : ByteArray := prog_3_method_12_code
def yX1_rainsAfter : MethodName := ⟨RX1, "rainsAfter", "(I)Z"⟩
abbrev cX1_hoursUntilRain : ByteArray := prog_3_method_13_code
def yX1_hoursUntilRain : MethodName := ⟨RX1, "hoursUntilRain", "()I"⟩
abbrev cX1_rainIsAhead : ByteArray := prog_3_method_14_code
def yX1_rainIsAhead : MethodName := ⟨RX1, "rainIsAhead", "()Z"⟩
abbrev cX1_passHours : ByteArray := prog_3_method_15_code
def yX1_passHours : MethodName := ⟨RX1, "passHours", "(I)I"⟩
abbrev cX1_letKeepersAct : ByteArray := prog_3_method_16_code
def yX1_letKeepersAct : MethodName := ⟨RX1, "letKeepersAct", "()V"⟩
abbrev cX1_nearest : ByteArray := prog_3_method_17_code
def yX1_nearest : MethodName := ⟨RX1, "nearest", "(II)I"⟩
abbrev cX1_outOfTune : ByteArray := prog_3_method_18_code
def yX1_outOfTune : MethodName := ⟨RX1, "outOfTune", "()I"⟩
abbrev cX1_openOnes : ByteArray := prog_3_method_19_code
def yX1_openOnes : MethodName := ⟨RX1, "openOnes", "()I"⟩
abbrev cX1_goTowards : ByteArray := prog_3_method_20_code
def yX1_goTowards : MethodName := ⟨RX1, "goTowards", "(II)V"⟩
abbrev cX1_tune : ByteArray := prog_3_method_21_code
def yX1_tune : MethodName := ⟨RX1, "tune", "(II)V"⟩
abbrev cX1_putCoverOn : ByteArray := prog_3_method_22_code
def yX1_putCoverOn : MethodName := ⟨RX1, "putCoverOn", "(II)V"⟩
abbrev cX1_takeCoverOff : ByteArray := prog_3_method_23_code
def yX1_takeCoverOff : MethodName := ⟨RX1, "takeCoverOff", "(II)V"⟩
abbrev cX1_letRainFall : ByteArray := prog_3_method_24_code
def yX1_letRainFall : MethodName := ⟨RX1, "letRainFall", "()V"⟩
abbrev cX1_letPianosDry : ByteArray := prog_3_method_25_code
def yX1_letPianosDry : MethodName := ⟨RX1, "letPianosDry", "()V"⟩
abbrev cX1_letPianosBePlayed : ByteArray := prog_3_method_26_code
def yX1_letPianosBePlayed : MethodName := ⟨RX1, "letPianosBePlayed", "()V"⟩
abbrev cX1_letThievesCome : ByteArray := prog_3_method_27_code
def yX1_letThievesCome : MethodName := ⟨RX1, "letThievesCome", "()V"⟩
def RX2 : String := "PianoCovers"
def TX2 : u_T := fun k => match k with
  | 0 => ("PianoCovers", "now", "LPianoCovers$Street;", true)
  | 1 => ("PianoCovers", "before", "LPianoCovers$Street;", true)
  | 2 => ("PianoCovers", "trial", "LPianoCovers$Street;", true)
  | 3 => ("PianoCovers", "history", "[LPianoCovers$Street;", true)
  | 4 => ("PianoCovers", "undoable", "I", false)
  | 5 => ("PianoCovers", "slots", "[LPianoCovers$Street;", true)
  | 6 => ("PianoCovers", "saved", "[Z", true)
  | _ => ("PianoCovers", "pad", "LPianoCovers$Pad;", true)
def tyX2 : Nat → FieldType := fun k => match k with
  | 0 => .object "PianoCovers$Street"
  | 1 => .object "PianoCovers$Street"
  | 2 => .object "PianoCovers$Street"
  | 3 => .array (.object "PianoCovers$Street")
  | 4 => .int
  | 5 => .array (.object "PianoCovers$Street")
  | 6 => .array .boolean
  | _ => .object "PianoCovers$Pad"
abbrev wsX20 : List Cond := u_ws RX2 TX2 8
theorem nmX2 : ∀ a, a < 8 → ∀ b, b < 8 → a ≠ b → (TX2 a).2.1 ≠ (TX2 b).2.1 := by decide +kernel
theorem tyX2_ok : ∀ k, k < 8 → parseFieldDescriptor (TX2 k).2.2.1 = some (tyX2 k) := by decide +kernel
abbrev cX2_init : ByteArray := prog_1_method_1_code
def yX2_init : MethodName := ⟨RX2, "<init>", "()V"⟩
abbrev cX2_set : ByteArray := prog_1_method_2_code
def yX2_set : MethodName := ⟨RX2, "set", "(II)I"⟩
abbrev cX2_rain : ByteArray := prog_1_method_3_code
def yX2_rain : MethodName := ⟨RX2, "rain", "(I)I"⟩
abbrev cX2_piano : ByteArray := prog_1_method_4_code
def yX2_piano : MethodName := ⟨RX2, "piano", "(II)I"⟩
abbrev cX2_take : ByteArray := prog_1_method_5_code
def yX2_take : MethodName := ⟨RX2, "take", "(I)I"⟩
abbrev cX2_keeper : ByteArray := prog_1_method_6_code
def yX2_keeper : MethodName := ⟨RX2, "keeper", "(I)I"⟩
abbrev cX2_cover : ByteArray := prog_1_method_7_code
def yX2_cover : MethodName := ⟨RX2, "cover", "(I)I"⟩
abbrev cX2_pass : ByteArray := prog_1_method_8_code
def yX2_pass : MethodName := ⟨RX2, "pass", "(I)I"⟩
abbrev cX2_of : ByteArray := prog_1_method_9_code
def yX2_of : MethodName := ⟨RX2, "of", "(II)I"⟩
abbrev cX2_ofKeeper : ByteArray := prog_1_method_10_code
def yX2_ofKeeper : MethodName := ⟨RX2, "ofKeeper", "(II)I"⟩
abbrev cX2_count : ByteArray := prog_1_method_11_code
def yX2_count : MethodName := ⟨RX2, "count", "(I)I"⟩
abbrev cX2_worst : ByteArray := prog_1_method_12_code
def yX2_worst : MethodName := ⟨RX2, "worst", "()I"⟩
abbrev cX2_why : ByteArray := prog_1_method_13_code
def yX2_why : MethodName := ⟨RX2, "why", "(I)I"⟩
abbrev cX2_rainIn : ByteArray := prog_1_method_14_code
def yX2_rainIn : MethodName := ⟨RX2, "rainIn", "()I"⟩
abbrev cX2_coveredIn : ByteArray := prog_1_method_15_code
def yX2_coveredIn : MethodName := ⟨RX2, "coveredIn", "(I)I"⟩
abbrev cX2_willBeWet : ByteArray := prog_1_method_16_code
def yX2_willBeWet : MethodName := ⟨RX2, "willBeWet", "(I)I"⟩
abbrev cX2_bestPlace : ByteArray := prog_1_method_17_code
def yX2_bestPlace : MethodName := ⟨RX2, "bestPlace", "(II)I"⟩
abbrev cX2_coinsWithOneMoreAt : ByteArray := prog_1_method_18_code
def yX2_coinsWithOneMoreAt : MethodName := ⟨RX2, "coinsWithOneMoreAt", "(II)I"⟩
abbrev cX2_put : ByteArray := prog_1_method_19_code
def yX2_put : MethodName := ⟨RX2, "put", "(J)I"⟩
abbrev cX2_charactersIn : ByteArray := prog_1_method_20_code
def yX2_charactersIn : MethodName := ⟨RX2, "charactersIn", "(J)I"⟩
abbrev cX2_wipe : ByteArray := prog_1_method_21_code
def yX2_wipe : MethodName := ⟨RX2, "wipe", "()I"⟩
abbrev cX2_fault : ByteArray := prog_1_method_22_code
def yX2_fault : MethodName := ⟨RX2, "fault", "()I"⟩
abbrev cX2_carryOut : ByteArray := prog_1_method_23_code
def yX2_carryOut : MethodName := ⟨RX2, "carryOut", "()I"⟩
abbrev cX2_answerToOrder : ByteArray := prog_1_method_24_code
def yX2_answerToOrder : MethodName := ⟨RX2, "answerToOrder", "()I"⟩
abbrev cX2_undo : ByteArray := prog_1_method_25_code
def yX2_undo : MethodName := ⟨RX2, "undo", "()I"⟩
abbrev cX2_save : ByteArray := prog_1_method_26_code
def yX2_save : MethodName := ⟨RX2, "save", "(I)I"⟩
abbrev cX2_restore : ByteArray := prog_1_method_27_code
def yX2_restore : MethodName := ⟨RX2, "restore", "(I)I"⟩
abbrev cX2_recorded : ByteArray := prog_1_method_28_code
def yX2_recorded : MethodName := ⟨RX2, "recorded", "(I)I"⟩
abbrev cX2_dropOldest : ByteArray := prog_1_method_29_code
def yX2_dropOldest : MethodName := ⟨RX2, "dropOldest", "()V"⟩
abbrev cX2_isPlace : ByteArray := prog_1_method_30_code
def yX2_isPlace : MethodName := ⟨RX2, "isPlace", "(I)Z"⟩
abbrev cX2_has : ByteArray := prog_1_method_31_code
def yX2_has : MethodName := ⟨RX2, "has", "(II)Z"⟩
abbrev cX2_copy : ByteArray := prog_1_method_32_code
def yX2_copy : MethodName := ⟨RX2, "copy", "(LPianoCovers$Street;LPianoCovers$Street;)V"⟩
def RX3 : String := "PianoCoversModel"
def TX3 : u_T := fun k => match k with
  | 0 => ("PianoCoversModel", "state", "[I", true)
  | 1 => ("PianoCoversModel", "kept", "[I", true)
  | 2 => ("PianoCoversModel", "history", "[I", true)
  | 3 => ("PianoCoversModel", "recorded", "I", false)
  | 4 => ("PianoCoversModel", "slots", "[I", true)
  | 5 => ("PianoCoversModel", "isSaved", "[I", true)
  | 6 => ("PianoCoversModel", "pad", "[I", true)
  | 7 => ("PianoCoversModel", "padLength", "I", false)
  | 8 => ("PianoCoversModel", "chosen", "I", false)
  | 9 => ("PianoCoversModel", "at", "I", false)
  | 10 => ("PianoCoversModel", "letter", "I", false)
  | 11 => ("PianoCoversModel", "number", "I", false)
  | _ => ("PianoCoversModel", "hasCover", "Z", false)
def tyX3 : Nat → FieldType := fun k => match k with
  | 0 => .array .int
  | 1 => .array .int
  | 2 => .array .int
  | 3 => .int
  | 4 => .array .int
  | 5 => .array .int
  | 6 => .array .int
  | 7 => .int
  | 8 => .int
  | 9 => .int
  | 10 => .int
  | 11 => .int
  | _ => .boolean
abbrev wsX30 : List Cond := u_ws RX3 TX3 13
theorem nmX3 : ∀ a, a < 13 → ∀ b, b < 13 → a ≠ b → (TX3 a).2.1 ≠ (TX3 b).2.1 := by decide +kernel
theorem tyX3_ok : ∀ k, k < 13 → parseFieldDescriptor (TX3 k).2.2.1 = some (tyX3 k) := by decide +kernel
abbrev cX3_init : ByteArray := prog_5_method_1_code
def yX3_init : MethodName := ⟨RX3, "<init>", "()V"⟩
abbrev cX3_moves : ByteArray := prog_5_method_3_code
def yX3_moves : MethodName := ⟨RX3, "moves", "([II[II)V"⟩
abbrev cX3_within : ByteArray := prog_5_method_4_code
def yX3_within : MethodName := ⟨RX3, "within", "(III)Z"⟩
abbrev cX3_size : ByteArray := prog_5_method_5_code
def yX3_size : MethodName := ⟨RX3, "size", "(I)I"⟩
abbrev cX3_held : ByteArray := prog_5_method_6_code
def yX3_held : MethodName := ⟨RX3, "held", "(I)I"⟩
abbrev cX3_record : ByteArray := prog_5_method_7_code
def yX3_record : MethodName := ⟨RX3, "record", "()V"⟩
abbrev cX3_pianoPart : ByteArray := prog_5_method_8_code
def yX3_pianoPart : MethodName := ⟨RX3, "pianoPart", "(II)I"⟩
abbrev cX3_setPiano : ByteArray := prog_5_method_9_code
def yX3_setPiano : MethodName := ⟨RX3, "setPiano", "(III)V"⟩
abbrev cX3_keeperPart : ByteArray := prog_5_method_10_code
def yX3_keeperPart : MethodName := ⟨RX3, "keeperPart", "(II)I"⟩
abbrev cX3_adds : ByteArray := prog_5_method_11_code
def yX3_adds : MethodName := ⟨RX3, "adds", "(III)V"⟩
abbrev cX3_isPlace : ByteArray := prog_5_method_12_code
def yX3_isPlace : MethodName := ⟨RX3, "isPlace", "(I)Z"⟩
abbrev cX3_isPiano : ByteArray := prog_5_method_13_code
def yX3_isPiano : MethodName := ⟨RX3, "isPiano", "(I)Z"⟩
abbrev cX3_isOpen : ByteArray := prog_5_method_14_code
def yX3_isOpen : MethodName := ⟨RX3, "isOpen", "(I)Z"⟩
abbrev cX3_rainsIn : ByteArray := prog_5_method_15_code
def yX3_rainsIn : MethodName := ⟨RX3, "rainsIn", "(I)Z"⟩
abbrev cX3_isRainAhead : ByteArray := prog_5_method_16_code
def yX3_isRainAhead : MethodName := ⟨RX3, "isRainAhead", "()Z"⟩
abbrev cX3_keepersAt : ByteArray := prog_5_method_17_code
def yX3_keepersAt : MethodName := ⟨RX3, "keepersAt", "(I)I"⟩
abbrev cX3_pianosThere : ByteArray := prog_5_method_18_code
def yX3_pianosThere : MethodName := ⟨RX3, "pianosThere", "()I"⟩
abbrev cX3_isWanted : ByteArray := prog_5_method_19_code
def yX3_isWanted : MethodName := ⟨RX3, "isWanted", "(II)Z"⟩
abbrev cX3_nearest : ByteArray := prog_5_method_20_code
def yX3_nearest : MethodName := ⟨RX3, "nearest", "(II)I"⟩
abbrev cX3_does : ByteArray := prog_5_method_21_code
def yX3_does : MethodName := ⟨RX3, "does", "(III)V"⟩
abbrev cX3_keeperGoes : ByteArray := prog_5_method_22_code
def yX3_keeperGoes : MethodName := ⟨RX3, "keeperGoes", "(IZ)V"⟩
abbrev cX3_keepersGo : ByteArray := prog_5_method_23_code
def yX3_keepersGo : MethodName := ⟨RX3, "keepersGo", "()V"⟩
abbrev cX3_rainsOn : ByteArray := prog_5_method_24_code
def yX3_rainsOn : MethodName := ⟨RX3, "rainsOn", "(I)V"⟩
abbrev cX3_dries : ByteArray := prog_5_method_25_code
def yX3_dries : MethodName := ⟨RX3, "dries", "(II)V"⟩
abbrev cX3_thieves : ByteArray := prog_5_method_26_code
def yX3_thieves : MethodName := ⟨RX3, "thieves", "()V"⟩
abbrev cX3_hour : ByteArray := prog_5_method_27_code
def yX3_hour : MethodName := ⟨RX3, "hour", "()V"⟩
abbrev cX3_passes : ByteArray := prog_5_method_28_code
def yX3_passes : MethodName := ⟨RX3, "passes", "(I)I"⟩
abbrev cX3_isValue : ByteArray := prog_5_method_29_code
def yX3_isValue : MethodName := ⟨RX3, "isValue", "(II)Z"⟩
abbrev cX3_set : ByteArray := prog_5_method_30_code
def yX3_set : MethodName := ⟨RX3, "set", "(II)I"⟩
abbrev cX3_rain : ByteArray := prog_5_method_31_code
def yX3_rain : MethodName := ⟨RX3, "rain", "(I)I"⟩
abbrev cX3_whyNoPiano : ByteArray := prog_5_method_32_code
def yX3_whyNoPiano : MethodName := ⟨RX3, "whyNoPiano", "(II)I"⟩
abbrev cX3_pianoComes : ByteArray := prog_5_method_33_code
def yX3_pianoComes : MethodName := ⟨RX3, "pianoComes", "(II)V"⟩
abbrev cX3_piano : ByteArray := prog_5_method_34_code
def yX3_piano : MethodName := ⟨RX3, "piano", "(II)I"⟩
abbrev cX3_take : ByteArray := prog_5_method_35_code
def yX3_take : MethodName := ⟨RX3, "take", "(I)I"⟩
abbrev cX3_whyNoKeeper : ByteArray := prog_5_method_36_code
def yX3_whyNoKeeper : MethodName := ⟨RX3, "whyNoKeeper", "(I)I"⟩
abbrev cX3_keeperComes : ByteArray := prog_5_method_37_code
def yX3_keeperComes : MethodName := ⟨RX3, "keeperComes", "(I)I"⟩
abbrev cX3_keeper : ByteArray := prog_5_method_38_code
def yX3_keeper : MethodName := ⟨RX3, "keeper", "(I)I"⟩
abbrev cX3_whyNoCover : ByteArray := prog_5_method_39_code
def yX3_whyNoCover : MethodName := ⟨RX3, "whyNoCover", "(I)I"⟩
abbrev cX3_withCovers : ByteArray := prog_5_method_40_code
def yX3_withCovers : MethodName := ⟨RX3, "withCovers", "()I"⟩
abbrev cX3_cover : ByteArray := prog_5_method_41_code
def yX3_cover : MethodName := ⟨RX3, "cover", "(I)I"⟩
abbrev cX3_whyNotPassed : ByteArray := prog_5_method_42_code
def yX3_whyNotPassed : MethodName := ⟨RX3, "whyNotPassed", "(I)I"⟩
abbrev cX3_pass : ByteArray := prog_5_method_43_code
def yX3_pass : MethodName := ⟨RX3, "pass", "(I)I"⟩
abbrev cX3_of : ByteArray := prog_5_method_44_code
def yX3_of : MethodName := ⟨RX3, "of", "(II)I"⟩
abbrev cX3_ofKeeper : ByteArray := prog_5_method_45_code
def yX3_ofKeeper : MethodName := ⟨RX3, "ofKeeper", "(II)I"⟩
abbrev cX3_pianosWith : ByteArray := prog_5_method_46_code
def yX3_pianosWith : MethodName := ⟨RX3, "pianosWith", "(I)I"⟩
abbrev cX3_count : ByteArray := prog_5_method_47_code
def yX3_count : MethodName := ⟨RX3, "count", "(I)I"⟩
abbrev cX3_worth : ByteArray := prog_5_method_48_code
def yX3_worth : MethodName := ⟨RX3, "worth", "(I)I"⟩
abbrev cX3_worst : ByteArray := prog_5_method_49_code
def yX3_worst : MethodName := ⟨RX3, "worst", "()I"⟩
abbrev cX3_why : ByteArray := prog_5_method_50_code
def yX3_why : MethodName := ⟨RX3, "why", "(I)I"⟩
abbrev cX3_rainIn : ByteArray := prog_5_method_51_code
def yX3_rainIn : MethodName := ⟨RX3, "rainIn", "()I"⟩
abbrev cX3_coveredIn : ByteArray := prog_5_method_52_code
def yX3_coveredIn : MethodName := ⟨RX3, "coveredIn", "(I)I"⟩
abbrev cX3_willBeWet : ByteArray := prog_5_method_53_code
def yX3_willBeWet : MethodName := ⟨RX3, "willBeWet", "(I)I"⟩
abbrev cX3_bestPlace : ByteArray := prog_5_method_54_code
def yX3_bestPlace : MethodName := ⟨RX3, "bestPlace", "(II)I"⟩
abbrev cX3_put : ByteArray := prog_5_method_55_code
def yX3_put : MethodName := ⟨RX3, "put", "(J)I"⟩
abbrev cX3_wipe : ByteArray := prog_5_method_56_code
def yX3_wipe : MethodName := ⟨RX3, "wipe", "()I"⟩
abbrev cX3_character : ByteArray := prog_5_method_57_code
def yX3_character : MethodName := ⟨RX3, "character", "(I)I"⟩
abbrev cX3_isNext : ByteArray := prog_5_method_58_code
def yX3_isNext : MethodName := ⟨RX3, "isNext", "(I)Z"⟩
abbrev cX3_isDigit : ByteArray := prog_5_method_59_code
def yX3_isDigit : MethodName := ⟨RX3, "isDigit", "()Z"⟩
abbrev cX3_takeNumber : ByteArray := prog_5_method_60_code
def yX3_takeNumber : MethodName := ⟨RX3, "takeNumber", "(I)I"⟩
abbrev cX3_takesNumber : ByteArray := prog_5_method_61_code
def yX3_takesNumber : MethodName := ⟨RX3, "takesNumber", "()Z"⟩
abbrev cX3_takesHours : ByteArray := prog_5_method_62_code
def yX3_takesHours : MethodName := ⟨RX3, "takesHours", "()Z"⟩
abbrev cX3_readsOrder : ByteArray := prog_5_method_63_code
def yX3_readsOrder : MethodName := ⟨RX3, "readsOrder", "()Z"⟩
abbrev cX3_findFault : ByteArray := prog_5_method_64_code
def yX3_findFault : MethodName := ⟨RX3, "findFault", "()I"⟩
abbrev cX3_fault : ByteArray := prog_5_method_65_code
def yX3_fault : MethodName := ⟨RX3, "fault", "()I"⟩
abbrev cX3_whyNotDone : ByteArray := prog_5_method_66_code
def yX3_whyNotDone : MethodName := ⟨RX3, "whyNotDone", "()I"⟩
abbrev cX3_doesOrder : ByteArray := prog_5_method_67_code
def yX3_doesOrder : MethodName := ⟨RX3, "doesOrder", "()V"⟩
abbrev cX3_carryOut : ByteArray := prog_5_method_68_code
def yX3_carryOut : MethodName := ⟨RX3, "carryOut", "()I"⟩
abbrev cX3_undo : ByteArray := prog_5_method_69_code
def yX3_undo : MethodName := ⟨RX3, "undo", "()I"⟩
abbrev cX3_save : ByteArray := prog_5_method_70_code
def yX3_save : MethodName := ⟨RX3, "save", "(I)I"⟩
abbrev cX3_restore : ByteArray := prog_5_method_71_code
def yX3_restore : MethodName := ⟨RX3, "restore", "(I)I"⟩
def RJ6 : String := "java/lang/Integer"
def TJ6 : u_T := fun k => match k with
  | _ => ("", "", "", false)
def tyJ6 : Nat → FieldType := fun k => match k with
  | _ => .int
abbrev wsJ60 : List Cond := u_ws RJ6 TJ6 0
theorem nmJ6 : ∀ a, a < 0 → ∀ b, b < 0 → a ≠ b → (TJ6 a).2.1 ≠ (TJ6 b).2.1 := by decide +kernel
theorem tyJ6_ok : ∀ k, k < 0 → parseFieldDescriptor (TJ6 k).2.2.1 = some (tyJ6 k) := by decide +kernel
abbrev cJ6_bitCount_0f7a4 : ByteArray := prog_6_method_49_code
def yJ6_bitCount_0f7a4 : MethodName := ⟨RJ6, "bitCount", "(I)I"⟩
def RJ9 : String := "java/lang/Math"
def TJ9 : u_T := fun k => match k with
  | _ => ("", "", "", false)
def tyJ9 : Nat → FieldType := fun k => match k with
  | _ => .int
abbrev wsJ90 : List Cond := u_ws RJ9 TJ9 0
theorem nmJ9 : ∀ a, a < 0 → ∀ b, b < 0 → a ≠ b → (TJ9 a).2.1 ≠ (TJ9 b).2.1 := by decide +kernel
theorem tyJ9_ok : ∀ k, k < 0 → parseFieldDescriptor (TJ9 k).2.2.1 = some (tyJ9 k) := by decide +kernel
abbrev cJ9_max_7cf53 : ByteArray := prog_7_method_65_code
def yJ9_max_7cf53 : MethodName := ⟨RJ9, "max", "(II)I"⟩
abbrev cJ9_min_7cf53 : ByteArray := prog_7_method_69_code
def yJ9_min_7cf53 : MethodName := ⟨RJ9, "min", "(II)I"⟩
def RJ10 : String := "java/lang/System"
def TJ10 : u_T := fun k => match k with
  | _ => ("", "", "", false)
def tyJ10 : Nat → FieldType := fun k => match k with
  | _ => .int
abbrev wsJ100 : List Cond := u_ws RJ10 TJ10 0
theorem nmJ10 : ∀ a, a < 0 → ∀ b, b < 0 → a ≠ b → (TJ10 a).2.1 ≠ (TJ10 b).2.1 := by decide +kernel
theorem tyJ10_ok : ∀ k, k < 0 → parseFieldDescriptor (TJ10 k).2.2.1 = some (tyJ10 k) := by decide +kernel
def RL : String := "PianoCoversLaw"
abbrev cL_law : ByteArray := code
def yL_law : MethodName := ⟨RL, "law", "([I)Z"⟩
def wsX0_init : List Cond := .code yX0_init cX0_init 1 none :: ([.methodLink RX0 3 objectInit, .instanceMethod objectInit, .code objectInit ⟨#[0xb1]⟩ 1 none, .arrayClass .char, .fieldLink RX0 9 "PianoCovers$Pad" "text" "[C", .fieldLink RX0 15 "PianoCovers$Pad" "length" "I", .fieldLink RX0 19 "PianoCovers$Pad" "at" "I", .fieldLink RX0 22 "PianoCovers$Pad" "kind" "C", .fieldLink RX0 26 "PianoCovers$Pad" "number" "I", .fieldLink RX0 29 "PianoCovers$Pad" "cover" "I", .fieldLink RX0 32 "PianoCovers$Pad" "hours" "I", .fieldLink RX0 35 "PianoCovers$Pad" "more" "Z"] ++ wsX00)
def wsX0_append : List Cond := .code yX0_append cX0_append 2 none :: ([.fieldLink RX0 15 "PianoCovers$Pad" "length" "I", .fieldLink RX0 9 "PianoCovers$Pad" "text" "[C"] ++ wsX00)
def wsX0_clear : List Cond := .code yX0_clear cX0_clear 1 none :: ([.fieldLink RX0 15 "PianoCovers$Pad" "length" "I"] ++ wsX00)
def wsX0_rewind : List Cond := .code yX0_rewind cX0_rewind 1 none :: ([.fieldLink RX0 19 "PianoCovers$Pad" "at" "I", .fieldLink RX0 35 "PianoCovers$Pad" "more" "Z"] ++ wsX00)
def wsX0_next : List Cond := .code yX0_next cX0_next 1 (some .char) :: ([.fieldLink RX0 19 "PianoCovers$Pad" "at" "I", .fieldLink RX0 15 "PianoCovers$Pad" "length" "I", .fieldLink RX0 9 "PianoCovers$Pad" "text" "[C"] ++ wsX00)
def wsX0_isDigit : List Cond := .code yX0_isDigit cX0_isDigit 1 (some .boolean) :: ([])
def wsX0_readNumber : List Cond := .code yX0_readNumber cX0_readNumber 3 (some .boolean) :: ([.fieldLink RX0 26 "PianoCovers$Pad" "number" "I", .fieldLink RX0 19 "PianoCovers$Pad" "at" "I", .methodLink RX0 46 yX0_next, .instanceMethod yX0_next, .selects RX0 yX0_next yX0_next, .initialized RX0, .code yX0_next cX0_next 1 (some .char), .fieldLink RX0 15 "PianoCovers$Pad" "length" "I", .fieldLink RX0 9 "PianoCovers$Pad" "text" "[C", .methodLink RX0 64 yX0_isDigit, .static yX0_isDigit, .code yX0_isDigit cX0_isDigit 1 (some .boolean)] ++ wsX00)
def wsX0_skip : List Cond := .code yX0_skip cX0_skip 2 (some .boolean) :: ([.fieldLink RX0 19 "PianoCovers$Pad" "at" "I", .methodLink RX0 46 yX0_next, .instanceMethod yX0_next, .selects RX0 yX0_next yX0_next, .initialized RX0, .code yX0_next cX0_next 1 (some .char), .fieldLink RX0 15 "PianoCovers$Pad" "length" "I", .fieldLink RX0 9 "PianoCovers$Pad" "text" "[C"] ++ wsX00)
def wsX0_readHours : List Cond := .code yX0_readHours cX0_readHours 2 (some .boolean) :: ([.fieldLink RX0 32 "PianoCovers$Pad" "hours" "I", .fieldLink RX0 26 "PianoCovers$Pad" "number" "I", .methodLink RX0 57 yX0_readNumber, .instanceMethod yX0_readNumber, .selects RX0 yX0_readNumber yX0_readNumber, .initialized RX0, .code yX0_readNumber cX0_readNumber 3 (some .boolean), .fieldLink RX0 19 "PianoCovers$Pad" "at" "I", .methodLink RX0 46 yX0_next, .instanceMethod yX0_next, .selects RX0 yX0_next yX0_next, .code yX0_next cX0_next 1 (some .char), .fieldLink RX0 15 "PianoCovers$Pad" "length" "I", .fieldLink RX0 9 "PianoCovers$Pad" "text" "[C", .methodLink RX0 64 yX0_isDigit, .static yX0_isDigit, .code yX0_isDigit cX0_isDigit 1 (some .boolean), .methodLink RX0 53 yX0_skip, .instanceMethod yX0_skip, .selects RX0 yX0_skip yX0_skip, .code yX0_skip cX0_skip 2 (some .boolean)] ++ wsX00)
def wsX0_readBody_r1 : List Cond := [Cond.fieldLink RX0 22 "PianoCovers$Pad" "kind" "C", Cond.fieldLink RX0 19 "PianoCovers$Pad" "at" "I", Cond.fieldLink RX0 29 "PianoCovers$Pad" "cover" "I", Cond.methodLink RX0 57 yX0_readNumber, Cond.instanceMethod yX0_readNumber, Cond.selects RX0 yX0_readNumber yX0_readNumber, Cond.initialized RX0, Cond.code yX0_readNumber cX0_readNumber 3 (some .boolean), Cond.fieldLink RX0 26 "PianoCovers$Pad" "number" "I", Cond.methodLink RX0 46 yX0_next, Cond.instanceMethod yX0_next, Cond.selects RX0 yX0_next yX0_next, Cond.code yX0_next cX0_next 1 (some .char), Cond.fieldLink RX0 15 "PianoCovers$Pad" "length" "I", Cond.fieldLink RX0 9 "PianoCovers$Pad" "text" "[C", Cond.methodLink RX0 64 yX0_isDigit, Cond.static yX0_isDigit, Cond.code yX0_isDigit cX0_isDigit 1 (some .boolean), Cond.methodLink RX0 53 yX0_skip, Cond.instanceMethod yX0_skip, Cond.selects RX0 yX0_skip yX0_skip, Cond.code yX0_skip cX0_skip 2 (some .boolean), Cond.methodLink RX0 61 yX0_readHours, Cond.instanceMethod yX0_readHours]
def wsX0_readBody_r2 : List Cond := [Cond.selects RX0 yX0_readHours yX0_readHours, Cond.code yX0_readHours cX0_readHours 2 (some .boolean), Cond.fieldLink RX0 32 "PianoCovers$Pad" "hours" "I"]
def wsX0_readBody : List Cond := .code yX0_readBody cX0_readBody 1 (some .boolean) :: ((wsX0_readBody_r1 ++ wsX0_readBody_r2) ++ wsX00)
def wsX0_readOrder_r1 : List Cond := [Cond.fieldLink RX0 26 "PianoCovers$Pad" "number" "I", Cond.fieldLink RX0 29 "PianoCovers$Pad" "cover" "I", Cond.fieldLink RX0 32 "PianoCovers$Pad" "hours" "I", Cond.fieldLink RX0 35 "PianoCovers$Pad" "more" "Z", Cond.fieldLink RX0 22 "PianoCovers$Pad" "kind" "C", Cond.fieldLink RX0 19 "PianoCovers$Pad" "at" "I", Cond.fieldLink RX0 15 "PianoCovers$Pad" "length" "I", Cond.methodLink RX0 46 yX0_next, Cond.instanceMethod yX0_next, Cond.selects RX0 yX0_next yX0_next, Cond.initialized RX0, Cond.code yX0_next cX0_next 1 (some .char), Cond.fieldLink RX0 9 "PianoCovers$Pad" "text" "[C", Cond.methodLink RX0 50 yX0_readBody, Cond.instanceMethod yX0_readBody, Cond.selects RX0 yX0_readBody yX0_readBody, Cond.code yX0_readBody cX0_readBody 1 (some .boolean), Cond.methodLink RX0 57 yX0_readNumber, Cond.instanceMethod yX0_readNumber, Cond.selects RX0 yX0_readNumber yX0_readNumber, Cond.code yX0_readNumber cX0_readNumber 3 (some .boolean), Cond.methodLink RX0 64 yX0_isDigit, Cond.static yX0_isDigit, Cond.code yX0_isDigit cX0_isDigit 1 (some .boolean)]
def wsX0_readOrder_r2 : List Cond := [Cond.methodLink RX0 53 yX0_skip, Cond.instanceMethod yX0_skip, Cond.selects RX0 yX0_skip yX0_skip, Cond.code yX0_skip cX0_skip 2 (some .boolean), Cond.methodLink RX0 61 yX0_readHours, Cond.instanceMethod yX0_readHours, Cond.selects RX0 yX0_readHours yX0_readHours, Cond.code yX0_readHours cX0_readHours 2 (some .boolean)]
def wsX0_readOrder : List Cond := .code yX0_readOrder cX0_readOrder 1 (some .boolean) :: ((wsX0_readOrder_r1 ++ wsX0_readOrder_r2) ++ wsX00)
def wsX0_findFault_r1 : List Cond := [Cond.fieldLink RX0 35 "PianoCovers$Pad" "more" "Z", Cond.fieldLink RX0 19 "PianoCovers$Pad" "at" "I", Cond.methodLink RX0 39 yX0_rewind, Cond.instanceMethod yX0_rewind, Cond.selects RX0 yX0_rewind yX0_rewind, Cond.initialized RX0, Cond.code yX0_rewind cX0_rewind 1 none, Cond.methodLink RX0 42 yX0_readOrder, Cond.instanceMethod yX0_readOrder, Cond.selects RX0 yX0_readOrder yX0_readOrder, Cond.code yX0_readOrder cX0_readOrder 1 (some .boolean), Cond.fieldLink RX0 26 "PianoCovers$Pad" "number" "I", Cond.fieldLink RX0 29 "PianoCovers$Pad" "cover" "I", Cond.fieldLink RX0 32 "PianoCovers$Pad" "hours" "I", Cond.fieldLink RX0 22 "PianoCovers$Pad" "kind" "C", Cond.fieldLink RX0 15 "PianoCovers$Pad" "length" "I", Cond.methodLink RX0 46 yX0_next, Cond.instanceMethod yX0_next, Cond.selects RX0 yX0_next yX0_next, Cond.code yX0_next cX0_next 1 (some .char), Cond.fieldLink RX0 9 "PianoCovers$Pad" "text" "[C", Cond.methodLink RX0 50 yX0_readBody, Cond.instanceMethod yX0_readBody, Cond.selects RX0 yX0_readBody yX0_readBody]
def wsX0_findFault_r2 : List Cond := [Cond.code yX0_readBody cX0_readBody 1 (some .boolean), Cond.methodLink RX0 57 yX0_readNumber, Cond.instanceMethod yX0_readNumber, Cond.selects RX0 yX0_readNumber yX0_readNumber, Cond.code yX0_readNumber cX0_readNumber 3 (some .boolean), Cond.methodLink RX0 64 yX0_isDigit, Cond.static yX0_isDigit, Cond.code yX0_isDigit cX0_isDigit 1 (some .boolean), Cond.methodLink RX0 53 yX0_skip, Cond.instanceMethod yX0_skip, Cond.selects RX0 yX0_skip yX0_skip, Cond.code yX0_skip cX0_skip 2 (some .boolean), Cond.methodLink RX0 61 yX0_readHours, Cond.instanceMethod yX0_readHours, Cond.selects RX0 yX0_readHours yX0_readHours, Cond.code yX0_readHours cX0_readHours 2 (some .boolean)]
def wsX0_findFault : List Cond := .code yX0_findFault cX0_findFault 2 (some .int) :: ((wsX0_findFault_r1 ++ wsX0_findFault_r2) ++ wsX00)
def wsX1_init_r1 : List Cond := [Cond.methodLink RX1 3 objectInit, Cond.instanceMethod objectInit, Cond.code objectInit ⟨#[0xb1]⟩ 1 none, Cond.arrayClass .int, Cond.fieldLink RX1 9 "PianoCovers$Street" "settings" "[I", Cond.fieldLink RX1 15 "PianoCovers$Street" "pianos" "I", Cond.fieldLink RX1 19 "PianoCovers$Street" "lying" "I", Cond.fieldLink RX1 22 "PianoCovers$Street" "covered" "I", Cond.fieldLink RX1 25 "PianoCovers$Street" "pitch" "[I", Cond.fieldLink RX1 28 "PianoCovers$Street" "damp" "[I", Cond.fieldLink RX1 31 "PianoCovers$Street" "earned" "[I", Cond.fieldLink RX1 34 "PianoCovers$Street" "rainedOn" "[I", Cond.fieldLink RX1 37 "PianoCovers$Street" "keepers" "I", Cond.fieldLink RX1 40 "PianoCovers$Street" "keeperAt" "[I", Cond.fieldLink RX1 43 "PianoCovers$Street" "timesCovered" "[I", Cond.fieldLink RX1 46 "PianoCovers$Street" "timesOpened" "[I", Cond.fieldLink RX1 49 "PianoCovers$Street" "timesTuned" "[I", Cond.fieldLink RX1 52 "PianoCovers$Street" "placesWent" "[I", Cond.fieldLink RX1 55 "PianoCovers$Street" "rainHours" "I", Cond.fieldLink RX1 58 "PianoCovers$Street" "hours" "I", Cond.fieldLink RX1 61 "PianoCovers$Street" "coins" "I", Cond.fieldLink RX1 64 "PianoCovers$Street" "stolen" "I", Cond.methodLink RX1 70 arraycopyName, Cond.native arraycopyName]
def wsX1_init_r2 : List Cond := [Cond.static arraycopyName, Cond.initialized "java/lang/System"]
def wsX1_init : List Cond := .code yX1_init cX1_init 1 none :: ((wsX1_init_r1 ++ wsX1_init_r2) ++ wsX10)
def wsX1_changeSetting : List Cond := .code yX1_changeSetting cX1_changeSetting 4 (some .int) :: ([.fieldLink RX1 9 "PianoCovers$Street" "settings" "[I"] ++ wsX10)
def wsX1_changeRain : List Cond := .code yX1_changeRain cX1_changeRain 3 (some .int) :: ([.constant RX1 82 (16777215), .fieldLink RX1 55 "PianoCovers$Street" "rainHours" "I"] ++ wsX10)
def wsX2_isPlace : List Cond := .code yX2_isPlace cX2_isPlace 1 (some .boolean) :: ([])
def wsX2_has : List Cond := .code yX2_has cX2_has 2 (some .boolean) :: ([])
def wsJ6_bitCount_0f7a4 : List Cond := .code yJ6_bitCount_0f7a4 cJ6_bitCount_0f7a4 1 (some .int) :: ([.constant RJ6 265 (1431655765), .constant RJ6 266 (858993459), .constant RJ6 267 (252645135)])
def wsX1_addPiano : List Cond := .code yX1_addPiano cX1_addPiano 3 (some .int) :: ([.fieldLink RX1 15 "PianoCovers$Street" "pianos" "I", .fieldLink RX1 19 "PianoCovers$Street" "lying" "I", .fieldLink RX1 25 "PianoCovers$Street" "pitch" "[I", .fieldLink RX1 28 "PianoCovers$Street" "damp" "[I", .fieldLink RX1 31 "PianoCovers$Street" "earned" "[I", .fieldLink RX1 34 "PianoCovers$Street" "rainedOn" "[I", .static yX2_isPlace, .initialized RX2, .code yX2_isPlace cX2_isPlace 1 (some .boolean), .static yX2_has, .code yX2_has cX2_has 2 (some .boolean), .methodLink RX1 91 yJ6_bitCount_0f7a4, .static yJ6_bitCount_0f7a4, .initialized RJ6, .code yJ6_bitCount_0f7a4 cJ6_bitCount_0f7a4 1 (some .int), .constant RJ6 265 (1431655765), .constant RJ6 266 (858993459), .constant RJ6 267 (252645135)] ++ wsX10)
def wsX1_removePiano : List Cond := .code yX1_removePiano cX1_removePiano 3 (some .int) :: ([.fieldLink RX1 15 "PianoCovers$Street" "pianos" "I", .fieldLink RX1 19 "PianoCovers$Street" "lying" "I", .fieldLink RX1 22 "PianoCovers$Street" "covered" "I", .static yX2_has, .initialized RX2, .code yX2_has cX2_has 2 (some .boolean), .methodLink RX1 91 yJ6_bitCount_0f7a4, .static yJ6_bitCount_0f7a4, .initialized RJ6, .code yJ6_bitCount_0f7a4 cJ6_bitCount_0f7a4 1 (some .int), .constant RJ6 265 (1431655765), .constant RJ6 266 (858993459), .constant RJ6 267 (252645135)] ++ wsX10)
def wsX1_addKeeper : List Cond := .code yX1_addKeeper cX1_addKeeper 2 none :: ([.fieldLink RX1 37 "PianoCovers$Street" "keepers" "I", .fieldLink RX1 40 "PianoCovers$Street" "keeperAt" "[I", .fieldLink RX1 43 "PianoCovers$Street" "timesCovered" "[I", .fieldLink RX1 46 "PianoCovers$Street" "timesOpened" "[I", .fieldLink RX1 49 "PianoCovers$Street" "timesTuned" "[I", .fieldLink RX1 52 "PianoCovers$Street" "placesWent" "[I"] ++ wsX10)
def wsX1_hireKeeper : List Cond := .code yX1_hireKeeper cX1_hireKeeper 2 (some .int) :: ([.fieldLink RX1 37 "PianoCovers$Street" "keepers" "I", .static yX2_isPlace, .initialized RX2, .code yX2_isPlace cX2_isPlace 1 (some .boolean), .methodLink RX1 97 yX1_addKeeper, .instanceMethod yX1_addKeeper, .selects RX1 yX1_addKeeper yX1_addKeeper, .initialized RX1, .code yX1_addKeeper cX1_addKeeper 2 none, .fieldLink RX1 40 "PianoCovers$Street" "keeperAt" "[I", .fieldLink RX1 43 "PianoCovers$Street" "timesCovered" "[I", .fieldLink RX1 46 "PianoCovers$Street" "timesOpened" "[I", .fieldLink RX1 49 "PianoCovers$Street" "timesTuned" "[I", .fieldLink RX1 52 "PianoCovers$Street" "placesWent" "[I"] ++ wsX10)
def wsX1_layCover : List Cond := .code yX1_layCover cX1_layCover 2 (some .int) :: ([.fieldLink RX1 15 "PianoCovers$Street" "pianos" "I", .fieldLink RX1 19 "PianoCovers$Street" "lying" "I", .fieldLink RX1 22 "PianoCovers$Street" "covered" "I", .static yX2_has, .initialized RX2, .code yX2_has cX2_has 2 (some .boolean), .methodLink RX1 91 yJ6_bitCount_0f7a4, .static yJ6_bitCount_0f7a4, .initialized RJ6, .code yJ6_bitCount_0f7a4 cJ6_bitCount_0f7a4 1 (some .int), .constant RJ6 265 (1431655765), .constant RJ6 266 (858993459), .constant RJ6 267 (252645135)] ++ wsX10)
def wsX1_rainsAfter : List Cond := .code yX1_rainsAfter cX1_rainsAfter 2 (some .boolean) :: ([.fieldLink RX1 55 "PianoCovers$Street" "rainHours" "I", .fieldLink RX1 58 "PianoCovers$Street" "hours" "I"] ++ wsX10)
def wsX1_rainIsAhead : List Cond := .code yX1_rainIsAhead cX1_rainIsAhead 2 (some .boolean) :: ([.fieldLink RX1 9 "PianoCovers$Street" "settings" "[I", .methodLink RX1 104 yX1_rainsAfter, .instanceMethod yX1_rainsAfter, .selects RX1 yX1_rainsAfter yX1_rainsAfter, .initialized RX1, .code yX1_rainsAfter cX1_rainsAfter 2 (some .boolean), .fieldLink RX1 55 "PianoCovers$Street" "rainHours" "I", .fieldLink RX1 58 "PianoCovers$Street" "hours" "I"] ++ wsX10)
def wsX1_nearest : List Cond := .code yX1_nearest cX1_nearest 3 (some .int) :: ([.static yX2_has, .initialized RX2, .code yX2_has cX2_has 2 (some .boolean)])
def wsX1_openOnes : List Cond := .code yX1_openOnes cX1_openOnes 1 (some .int) :: ([.fieldLink RX1 15 "PianoCovers$Street" "pianos" "I", .fieldLink RX1 22 "PianoCovers$Street" "covered" "I"] ++ wsX10)
def wsX1_outOfTune : List Cond := .code yX1_outOfTune cX1_outOfTune 3 (some .int) :: ([.fieldLink RX1 25 "PianoCovers$Street" "pitch" "[I", .fieldLink RX1 9 "PianoCovers$Street" "settings" "[I", .methodLink RX1 147 yX1_openOnes, .instanceMethod yX1_openOnes, .selects RX1 yX1_openOnes yX1_openOnes, .initialized RX1, .code yX1_openOnes cX1_openOnes 1 (some .int), .fieldLink RX1 15 "PianoCovers$Street" "pianos" "I", .fieldLink RX1 22 "PianoCovers$Street" "covered" "I", .static yX2_has, .initialized RX2, .code yX2_has cX2_has 2 (some .boolean)] ++ wsX10)
def wsX1_goTowards : List Cond := .code yX1_goTowards cX1_goTowards 3 none :: ([.fieldLink RX1 40 "PianoCovers$Street" "keeperAt" "[I", .fieldLink RX1 52 "PianoCovers$Street" "placesWent" "[I"] ++ wsX10)
def wsX1_tune : List Cond := .code yX1_tune cX1_tune 3 none :: ([.fieldLink RX1 25 "PianoCovers$Street" "pitch" "[I", .methodLink RX1 150 Lib.Math.min.name, .static Lib.Math.min.name, .initialized "java/lang/Math", .code Lib.Math.min.name Lib.Math.min.code 2 (some .int), .fieldLink RX1 49 "PianoCovers$Street" "timesTuned" "[I"] ++ wsX10)
def wsX1_putCoverOn : List Cond := .code yX1_putCoverOn cX1_putCoverOn 3 none :: ([.fieldLink RX1 19 "PianoCovers$Street" "lying" "I", .fieldLink RX1 22 "PianoCovers$Street" "covered" "I", .fieldLink RX1 43 "PianoCovers$Street" "timesCovered" "[I"] ++ wsX10)
def wsX1_takeCoverOff : List Cond := .code yX1_takeCoverOff cX1_takeCoverOff 3 none :: ([.fieldLink RX1 22 "PianoCovers$Street" "covered" "I", .fieldLink RX1 19 "PianoCovers$Street" "lying" "I", .fieldLink RX1 46 "PianoCovers$Street" "timesOpened" "[I"] ++ wsX10)
def wsX1_letKeepersAct_r1 : List Cond := [Cond.fieldLink RX1 37 "PianoCovers$Street" "keepers" "I", Cond.fieldLink RX1 19 "PianoCovers$Street" "lying" "I", Cond.fieldLink RX1 22 "PianoCovers$Street" "covered" "I", Cond.fieldLink RX1 40 "PianoCovers$Street" "keeperAt" "[I", Cond.methodLink RX1 122 yX1_rainIsAhead, Cond.instanceMethod yX1_rainIsAhead, Cond.selects RX1 yX1_rainIsAhead yX1_rainIsAhead, Cond.initialized RX1, Cond.code yX1_rainIsAhead cX1_rainIsAhead 2 (some .boolean), Cond.fieldLink RX1 9 "PianoCovers$Street" "settings" "[I", Cond.methodLink RX1 104 yX1_rainsAfter, Cond.instanceMethod yX1_rainsAfter, Cond.selects RX1 yX1_rainsAfter yX1_rainsAfter, Cond.code yX1_rainsAfter cX1_rainsAfter 2 (some .boolean), Cond.fieldLink RX1 55 "PianoCovers$Street" "rainHours" "I", Cond.fieldLink RX1 58 "PianoCovers$Street" "hours" "I", Cond.methodLink RX1 126 yX1_nearest, Cond.static yX1_nearest, Cond.code yX1_nearest cX1_nearest 3 (some .int), Cond.static yX2_has, Cond.initialized RX2, Cond.code yX2_has cX2_has 2 (some .boolean), Cond.methodLink RX1 130 yX1_outOfTune, Cond.instanceMethod yX1_outOfTune]
def wsX1_letKeepersAct_r2 : List Cond := [Cond.selects RX1 yX1_outOfTune yX1_outOfTune, Cond.code yX1_outOfTune cX1_outOfTune 3 (some .int), Cond.fieldLink RX1 25 "PianoCovers$Street" "pitch" "[I", Cond.methodLink RX1 147 yX1_openOnes, Cond.instanceMethod yX1_openOnes, Cond.selects RX1 yX1_openOnes yX1_openOnes, Cond.code yX1_openOnes cX1_openOnes 1 (some .int), Cond.fieldLink RX1 15 "PianoCovers$Street" "pianos" "I", Cond.methodLink RX1 134 yX1_goTowards, Cond.instanceMethod yX1_goTowards, Cond.selects RX1 yX1_goTowards yX1_goTowards, Cond.code yX1_goTowards cX1_goTowards 3 none, Cond.fieldLink RX1 52 "PianoCovers$Street" "placesWent" "[I", Cond.methodLink RX1 138 yX1_tune, Cond.instanceMethod yX1_tune, Cond.selects RX1 yX1_tune yX1_tune, Cond.code yX1_tune cX1_tune 3 none, Cond.methodLink RX1 150 Lib.Math.min.name, Cond.static Lib.Math.min.name, Cond.initialized "java/lang/Math", Cond.code Lib.Math.min.name Lib.Math.min.code 2 (some .int), Cond.fieldLink RX1 49 "PianoCovers$Street" "timesTuned" "[I", Cond.methodLink RX1 141 yX1_putCoverOn, Cond.instanceMethod yX1_putCoverOn]
def wsX1_letKeepersAct_r3 : List Cond := [Cond.selects RX1 yX1_putCoverOn yX1_putCoverOn, Cond.code yX1_putCoverOn cX1_putCoverOn 3 none, Cond.fieldLink RX1 43 "PianoCovers$Street" "timesCovered" "[I", Cond.methodLink RX1 144 yX1_takeCoverOff, Cond.instanceMethod yX1_takeCoverOff, Cond.selects RX1 yX1_takeCoverOff yX1_takeCoverOff, Cond.code yX1_takeCoverOff cX1_takeCoverOff 3 none, Cond.fieldLink RX1 46 "PianoCovers$Street" "timesOpened" "[I"]
def wsX1_letKeepersAct : List Cond := .code yX1_letKeepersAct cX1_letKeepersAct 6 none :: ((wsX1_letKeepersAct_r1 ++ (wsX1_letKeepersAct_r2 ++ wsX1_letKeepersAct_r3)) ++ wsX10)
def wsX1_letRainFall : List Cond := .code yX1_letRainFall cX1_letRainFall 2 none :: ([.fieldLink RX1 28 "PianoCovers$Street" "damp" "[I", .fieldLink RX1 9 "PianoCovers$Street" "settings" "[I", .methodLink RX1 150 Lib.Math.min.name, .static Lib.Math.min.name, .initialized "java/lang/Math", .code Lib.Math.min.name Lib.Math.min.code 2 (some .int), .fieldLink RX1 25 "PianoCovers$Street" "pitch" "[I", .methodLink RX1 155 Lib.Math.max.name, .static Lib.Math.max.name, .code Lib.Math.max.name Lib.Math.max.code 2 (some .int), .fieldLink RX1 34 "PianoCovers$Street" "rainedOn" "[I", .methodLink RX1 147 yX1_openOnes, .instanceMethod yX1_openOnes, .selects RX1 yX1_openOnes yX1_openOnes, .initialized RX1, .code yX1_openOnes cX1_openOnes 1 (some .int), .fieldLink RX1 15 "PianoCovers$Street" "pianos" "I", .fieldLink RX1 22 "PianoCovers$Street" "covered" "I", .static yX2_has, .initialized RX2, .code yX2_has cX2_has 2 (some .boolean)] ++ wsX10)
def wsX1_letPianosDry : List Cond := .code yX1_letPianosDry cX1_letPianosDry 2 none :: ([.fieldLink RX1 28 "PianoCovers$Street" "damp" "[I", .fieldLink RX1 9 "PianoCovers$Street" "settings" "[I", .methodLink RX1 155 Lib.Math.max.name, .static Lib.Math.max.name, .initialized "java/lang/Math", .code Lib.Math.max.name Lib.Math.max.code 2 (some .int), .methodLink RX1 147 yX1_openOnes, .instanceMethod yX1_openOnes, .selects RX1 yX1_openOnes yX1_openOnes, .initialized RX1, .code yX1_openOnes cX1_openOnes 1 (some .int), .fieldLink RX1 15 "PianoCovers$Street" "pianos" "I", .fieldLink RX1 22 "PianoCovers$Street" "covered" "I", .static yX2_has, .initialized RX2, .code yX2_has cX2_has 2 (some .boolean)] ++ wsX10)
def wsX1_letPianosBePlayed : List Cond := .code yX1_letPianosBePlayed cX1_letPianosBePlayed 4 none :: ([.fieldLink RX1 58 "PianoCovers$Street" "hours" "I", .fieldLink RX1 28 "PianoCovers$Street" "damp" "[I", .fieldLink RX1 9 "PianoCovers$Street" "settings" "[I", .fieldLink RX1 25 "PianoCovers$Street" "pitch" "[I", .fieldLink RX1 31 "PianoCovers$Street" "earned" "[I", .fieldLink RX1 61 "PianoCovers$Street" "coins" "I", .methodLink RX1 155 Lib.Math.max.name, .static Lib.Math.max.name, .initialized "java/lang/Math", .code Lib.Math.max.name Lib.Math.max.code 2 (some .int), .methodLink RX1 147 yX1_openOnes, .instanceMethod yX1_openOnes, .selects RX1 yX1_openOnes yX1_openOnes, .initialized RX1, .code yX1_openOnes cX1_openOnes 1 (some .int), .fieldLink RX1 15 "PianoCovers$Street" "pianos" "I", .fieldLink RX1 22 "PianoCovers$Street" "covered" "I", .static yX2_has, .initialized RX2, .code yX2_has cX2_has 2 (some .boolean)] ++ wsX10)
def wsX1_keepersAt : List Cond := .code yX1_keepersAt cX1_keepersAt 4 (some .int) :: ([.fieldLink RX1 37 "PianoCovers$Street" "keepers" "I", .fieldLink RX1 40 "PianoCovers$Street" "keeperAt" "[I"] ++ wsX10)
def wsX1_letThievesCome : List Cond := .code yX1_letThievesCome cX1_letThievesCome 6 none :: ([.fieldLink RX1 58 "PianoCovers$Street" "hours" "I", .fieldLink RX1 9 "PianoCovers$Street" "settings" "[I", .fieldLink RX1 19 "PianoCovers$Street" "lying" "I", .fieldLink RX1 64 "PianoCovers$Street" "stolen" "I", .static yX2_has, .initialized RX2, .code yX2_has cX2_has 2 (some .boolean), .methodLink RX1 158 yX1_keepersAt, .instanceMethod yX1_keepersAt, .selects RX1 yX1_keepersAt yX1_keepersAt, .initialized RX1, .code yX1_keepersAt cX1_keepersAt 4 (some .int), .fieldLink RX1 37 "PianoCovers$Street" "keepers" "I", .fieldLink RX1 40 "PianoCovers$Street" "keeperAt" "[I"] ++ wsX10)
def wsX1_passHours_r1 : List Cond := [Cond.fieldLink RX1 61 "PianoCovers$Street" "coins" "I", Cond.fieldLink RX1 58 "PianoCovers$Street" "hours" "I", Cond.methodLink RX1 107 yX1_letKeepersAct, Cond.instanceMethod yX1_letKeepersAct, Cond.selects RX1 yX1_letKeepersAct yX1_letKeepersAct, Cond.initialized RX1, Cond.code yX1_letKeepersAct cX1_letKeepersAct 6 none, Cond.fieldLink RX1 37 "PianoCovers$Street" "keepers" "I", Cond.fieldLink RX1 19 "PianoCovers$Street" "lying" "I", Cond.fieldLink RX1 22 "PianoCovers$Street" "covered" "I", Cond.fieldLink RX1 40 "PianoCovers$Street" "keeperAt" "[I", Cond.methodLink RX1 122 yX1_rainIsAhead, Cond.instanceMethod yX1_rainIsAhead, Cond.selects RX1 yX1_rainIsAhead yX1_rainIsAhead, Cond.code yX1_rainIsAhead cX1_rainIsAhead 2 (some .boolean), Cond.fieldLink RX1 9 "PianoCovers$Street" "settings" "[I", Cond.methodLink RX1 104 yX1_rainsAfter, Cond.instanceMethod yX1_rainsAfter, Cond.selects RX1 yX1_rainsAfter yX1_rainsAfter, Cond.code yX1_rainsAfter cX1_rainsAfter 2 (some .boolean), Cond.fieldLink RX1 55 "PianoCovers$Street" "rainHours" "I", Cond.methodLink RX1 126 yX1_nearest, Cond.static yX1_nearest, Cond.code yX1_nearest cX1_nearest 3 (some .int)]
def wsX1_passHours_r2 : List Cond := [Cond.static yX2_has, Cond.initialized RX2, Cond.code yX2_has cX2_has 2 (some .boolean), Cond.methodLink RX1 130 yX1_outOfTune, Cond.instanceMethod yX1_outOfTune, Cond.selects RX1 yX1_outOfTune yX1_outOfTune, Cond.code yX1_outOfTune cX1_outOfTune 3 (some .int), Cond.fieldLink RX1 25 "PianoCovers$Street" "pitch" "[I", Cond.methodLink RX1 147 yX1_openOnes, Cond.instanceMethod yX1_openOnes, Cond.selects RX1 yX1_openOnes yX1_openOnes, Cond.code yX1_openOnes cX1_openOnes 1 (some .int), Cond.fieldLink RX1 15 "PianoCovers$Street" "pianos" "I", Cond.methodLink RX1 134 yX1_goTowards, Cond.instanceMethod yX1_goTowards, Cond.selects RX1 yX1_goTowards yX1_goTowards, Cond.code yX1_goTowards cX1_goTowards 3 none, Cond.fieldLink RX1 52 "PianoCovers$Street" "placesWent" "[I", Cond.methodLink RX1 138 yX1_tune, Cond.instanceMethod yX1_tune, Cond.selects RX1 yX1_tune yX1_tune, Cond.code yX1_tune cX1_tune 3 none, Cond.methodLink RX1 150 Lib.Math.min.name, Cond.static Lib.Math.min.name]
def wsX1_passHours_r3 : List Cond := [Cond.initialized "java/lang/Math", Cond.code Lib.Math.min.name Lib.Math.min.code 2 (some .int), Cond.fieldLink RX1 49 "PianoCovers$Street" "timesTuned" "[I", Cond.methodLink RX1 141 yX1_putCoverOn, Cond.instanceMethod yX1_putCoverOn, Cond.selects RX1 yX1_putCoverOn yX1_putCoverOn, Cond.code yX1_putCoverOn cX1_putCoverOn 3 none, Cond.fieldLink RX1 43 "PianoCovers$Street" "timesCovered" "[I", Cond.methodLink RX1 144 yX1_takeCoverOff, Cond.instanceMethod yX1_takeCoverOff, Cond.selects RX1 yX1_takeCoverOff yX1_takeCoverOff, Cond.code yX1_takeCoverOff cX1_takeCoverOff 3 none, Cond.fieldLink RX1 46 "PianoCovers$Street" "timesOpened" "[I", Cond.methodLink RX1 110 yX1_letRainFall, Cond.instanceMethod yX1_letRainFall, Cond.selects RX1 yX1_letRainFall yX1_letRainFall, Cond.code yX1_letRainFall cX1_letRainFall 2 none, Cond.fieldLink RX1 28 "PianoCovers$Street" "damp" "[I", Cond.methodLink RX1 155 Lib.Math.max.name, Cond.static Lib.Math.max.name, Cond.code Lib.Math.max.name Lib.Math.max.code 2 (some .int), Cond.fieldLink RX1 34 "PianoCovers$Street" "rainedOn" "[I", Cond.methodLink RX1 113 yX1_letPianosDry, Cond.instanceMethod yX1_letPianosDry]
def wsX1_passHours_r4 : List Cond := [Cond.selects RX1 yX1_letPianosDry yX1_letPianosDry, Cond.code yX1_letPianosDry cX1_letPianosDry 2 none, Cond.methodLink RX1 116 yX1_letPianosBePlayed, Cond.instanceMethod yX1_letPianosBePlayed, Cond.selects RX1 yX1_letPianosBePlayed yX1_letPianosBePlayed, Cond.code yX1_letPianosBePlayed cX1_letPianosBePlayed 4 none, Cond.fieldLink RX1 31 "PianoCovers$Street" "earned" "[I", Cond.methodLink RX1 119 yX1_letThievesCome, Cond.instanceMethod yX1_letThievesCome, Cond.selects RX1 yX1_letThievesCome yX1_letThievesCome, Cond.code yX1_letThievesCome cX1_letThievesCome 6 none, Cond.fieldLink RX1 64 "PianoCovers$Street" "stolen" "I", Cond.methodLink RX1 158 yX1_keepersAt, Cond.instanceMethod yX1_keepersAt, Cond.selects RX1 yX1_keepersAt yX1_keepersAt, Cond.code yX1_keepersAt cX1_keepersAt 4 (some .int)]
def wsX1_passHours : List Cond := .code yX1_passHours cX1_passHours 4 (some .int) :: ((wsX1_passHours_r1 ++ (wsX1_passHours_r2 ++ (wsX1_passHours_r3 ++ wsX1_passHours_r4))) ++ wsX10)
def wsX1_passCounted_r1 : List Cond := [Cond.fieldLink RX1 58 "PianoCovers$Street" "hours" "I", Cond.methodLink RX1 101 yX1_passHours, Cond.instanceMethod yX1_passHours, Cond.selects RX1 yX1_passHours yX1_passHours, Cond.initialized RX1, Cond.code yX1_passHours cX1_passHours 4 (some .int), Cond.fieldLink RX1 61 "PianoCovers$Street" "coins" "I", Cond.methodLink RX1 107 yX1_letKeepersAct, Cond.instanceMethod yX1_letKeepersAct, Cond.selects RX1 yX1_letKeepersAct yX1_letKeepersAct, Cond.code yX1_letKeepersAct cX1_letKeepersAct 6 none, Cond.fieldLink RX1 37 "PianoCovers$Street" "keepers" "I", Cond.fieldLink RX1 19 "PianoCovers$Street" "lying" "I", Cond.fieldLink RX1 22 "PianoCovers$Street" "covered" "I", Cond.fieldLink RX1 40 "PianoCovers$Street" "keeperAt" "[I", Cond.methodLink RX1 122 yX1_rainIsAhead, Cond.instanceMethod yX1_rainIsAhead, Cond.selects RX1 yX1_rainIsAhead yX1_rainIsAhead, Cond.code yX1_rainIsAhead cX1_rainIsAhead 2 (some .boolean), Cond.fieldLink RX1 9 "PianoCovers$Street" "settings" "[I", Cond.methodLink RX1 104 yX1_rainsAfter, Cond.instanceMethod yX1_rainsAfter, Cond.selects RX1 yX1_rainsAfter yX1_rainsAfter, Cond.code yX1_rainsAfter cX1_rainsAfter 2 (some .boolean)]
def wsX1_passCounted_r2 : List Cond := [Cond.fieldLink RX1 55 "PianoCovers$Street" "rainHours" "I", Cond.methodLink RX1 126 yX1_nearest, Cond.static yX1_nearest, Cond.code yX1_nearest cX1_nearest 3 (some .int), Cond.static yX2_has, Cond.initialized RX2, Cond.code yX2_has cX2_has 2 (some .boolean), Cond.methodLink RX1 130 yX1_outOfTune, Cond.instanceMethod yX1_outOfTune, Cond.selects RX1 yX1_outOfTune yX1_outOfTune, Cond.code yX1_outOfTune cX1_outOfTune 3 (some .int), Cond.fieldLink RX1 25 "PianoCovers$Street" "pitch" "[I", Cond.methodLink RX1 147 yX1_openOnes, Cond.instanceMethod yX1_openOnes, Cond.selects RX1 yX1_openOnes yX1_openOnes, Cond.code yX1_openOnes cX1_openOnes 1 (some .int), Cond.fieldLink RX1 15 "PianoCovers$Street" "pianos" "I", Cond.methodLink RX1 134 yX1_goTowards, Cond.instanceMethod yX1_goTowards, Cond.selects RX1 yX1_goTowards yX1_goTowards, Cond.code yX1_goTowards cX1_goTowards 3 none, Cond.fieldLink RX1 52 "PianoCovers$Street" "placesWent" "[I", Cond.methodLink RX1 138 yX1_tune, Cond.instanceMethod yX1_tune]
def wsX1_passCounted_r3 : List Cond := [Cond.selects RX1 yX1_tune yX1_tune, Cond.code yX1_tune cX1_tune 3 none, Cond.methodLink RX1 150 Lib.Math.min.name, Cond.static Lib.Math.min.name, Cond.initialized "java/lang/Math", Cond.code Lib.Math.min.name Lib.Math.min.code 2 (some .int), Cond.fieldLink RX1 49 "PianoCovers$Street" "timesTuned" "[I", Cond.methodLink RX1 141 yX1_putCoverOn, Cond.instanceMethod yX1_putCoverOn, Cond.selects RX1 yX1_putCoverOn yX1_putCoverOn, Cond.code yX1_putCoverOn cX1_putCoverOn 3 none, Cond.fieldLink RX1 43 "PianoCovers$Street" "timesCovered" "[I", Cond.methodLink RX1 144 yX1_takeCoverOff, Cond.instanceMethod yX1_takeCoverOff, Cond.selects RX1 yX1_takeCoverOff yX1_takeCoverOff, Cond.code yX1_takeCoverOff cX1_takeCoverOff 3 none, Cond.fieldLink RX1 46 "PianoCovers$Street" "timesOpened" "[I", Cond.methodLink RX1 110 yX1_letRainFall, Cond.instanceMethod yX1_letRainFall, Cond.selects RX1 yX1_letRainFall yX1_letRainFall, Cond.code yX1_letRainFall cX1_letRainFall 2 none, Cond.fieldLink RX1 28 "PianoCovers$Street" "damp" "[I", Cond.methodLink RX1 155 Lib.Math.max.name, Cond.static Lib.Math.max.name]
def wsX1_passCounted_r4 : List Cond := [Cond.code Lib.Math.max.name Lib.Math.max.code 2 (some .int), Cond.fieldLink RX1 34 "PianoCovers$Street" "rainedOn" "[I", Cond.methodLink RX1 113 yX1_letPianosDry, Cond.instanceMethod yX1_letPianosDry, Cond.selects RX1 yX1_letPianosDry yX1_letPianosDry, Cond.code yX1_letPianosDry cX1_letPianosDry 2 none, Cond.methodLink RX1 116 yX1_letPianosBePlayed, Cond.instanceMethod yX1_letPianosBePlayed, Cond.selects RX1 yX1_letPianosBePlayed yX1_letPianosBePlayed, Cond.code yX1_letPianosBePlayed cX1_letPianosBePlayed 4 none, Cond.fieldLink RX1 31 "PianoCovers$Street" "earned" "[I", Cond.methodLink RX1 119 yX1_letThievesCome, Cond.instanceMethod yX1_letThievesCome, Cond.selects RX1 yX1_letThievesCome yX1_letThievesCome, Cond.code yX1_letThievesCome cX1_letThievesCome 6 none, Cond.fieldLink RX1 64 "PianoCovers$Street" "stolen" "I", Cond.methodLink RX1 158 yX1_keepersAt, Cond.instanceMethod yX1_keepersAt, Cond.selects RX1 yX1_keepersAt yX1_keepersAt, Cond.code yX1_keepersAt cX1_keepersAt 4 (some .int)]
def wsX1_passCounted : List Cond := .code yX1_passCounted cX1_passCounted 2 (some .int) :: ((wsX1_passCounted_r1 ++ (wsX1_passCounted_r2 ++ (wsX1_passCounted_r3 ++ wsX1_passCounted_r4))) ++ wsX10)
def wsX1_coverAt : List Cond := .code yX1_coverAt cX1_coverAt 2 (some .int) :: ([.fieldLink RX1 22 "PianoCovers$Street" "covered" "I", .fieldLink RX1 19 "PianoCovers$Street" "lying" "I", .static yX2_has, .initialized RX2, .code yX2_has cX2_has 2 (some .boolean)] ++ wsX10)
def wsX1_hoursUntilRain : List Cond := .code yX1_hoursUntilRain cX1_hoursUntilRain 2 (some .int) :: ([.methodLink RX1 104 yX1_rainsAfter, .instanceMethod yX1_rainsAfter, .selects RX1 yX1_rainsAfter yX1_rainsAfter, .initialized RX1, .code yX1_rainsAfter cX1_rainsAfter 2 (some .boolean), .fieldLink RX1 55 "PianoCovers$Street" "rainHours" "I", .fieldLink RX1 58 "PianoCovers$Street" "hours" "I"] ++ wsX10)
def wsX2_init_r1 : List Cond := [Cond.methodLink RX2 1 objectInit, Cond.instanceMethod objectInit, Cond.code objectInit ⟨#[0xb1]⟩ 1 none, Cond.classLink RX2 7 RX1, Cond.instantiable RX1 18, Cond.initialized RX1, Cond.fieldLink RX2 10 "PianoCovers" "now" "LPianoCovers$Street;", Cond.fieldLink RX2 16 "PianoCovers" "before" "LPianoCovers$Street;", Cond.fieldLink RX2 19 "PianoCovers" "trial" "LPianoCovers$Street;", Cond.fieldLink RX2 22 "PianoCovers" "history" "[LPianoCovers$Street;", Cond.fieldLink RX2 26 "PianoCovers" "undoable" "I", Cond.fieldLink RX2 30 "PianoCovers" "slots" "[LPianoCovers$Street;", Cond.arrayClass .boolean, Cond.fieldLink RX2 33 "PianoCovers" "saved" "[Z", Cond.classLink RX2 37 RX0, Cond.instantiable RX0 8, Cond.initialized RX0, Cond.fieldLink RX2 40 "PianoCovers" "pad" "LPianoCovers$Pad;", Cond.instanceMethod yX1_init, Cond.code yX1_init cX1_init 1 none, Cond.methodLink RX1 3 objectInit, Cond.arrayClass .int, Cond.fieldLink RX1 9 "PianoCovers$Street" "settings" "[I", Cond.fieldLink RX1 15 "PianoCovers$Street" "pianos" "I"]
def wsX2_init_r2 : List Cond := [Cond.fieldLink RX1 19 "PianoCovers$Street" "lying" "I", Cond.fieldLink RX1 22 "PianoCovers$Street" "covered" "I", Cond.fieldLink RX1 25 "PianoCovers$Street" "pitch" "[I", Cond.fieldLink RX1 28 "PianoCovers$Street" "damp" "[I", Cond.fieldLink RX1 31 "PianoCovers$Street" "earned" "[I", Cond.fieldLink RX1 34 "PianoCovers$Street" "rainedOn" "[I", Cond.fieldLink RX1 37 "PianoCovers$Street" "keepers" "I", Cond.fieldLink RX1 40 "PianoCovers$Street" "keeperAt" "[I", Cond.fieldLink RX1 43 "PianoCovers$Street" "timesCovered" "[I", Cond.fieldLink RX1 46 "PianoCovers$Street" "timesOpened" "[I", Cond.fieldLink RX1 49 "PianoCovers$Street" "timesTuned" "[I", Cond.fieldLink RX1 52 "PianoCovers$Street" "placesWent" "[I", Cond.fieldLink RX1 55 "PianoCovers$Street" "rainHours" "I", Cond.fieldLink RX1 58 "PianoCovers$Street" "hours" "I", Cond.fieldLink RX1 61 "PianoCovers$Street" "coins" "I", Cond.fieldLink RX1 64 "PianoCovers$Street" "stolen" "I", Cond.methodLink RX1 70 arraycopyName, Cond.native arraycopyName, Cond.static arraycopyName, Cond.initialized "java/lang/System", Cond.instanceMethod yX0_init, Cond.code yX0_init cX0_init 1 none, Cond.methodLink RX0 3 objectInit, Cond.arrayClass .char]
def wsX2_init_r3 : List Cond := [Cond.fieldLink RX0 9 "PianoCovers$Pad" "text" "[C", Cond.fieldLink RX0 15 "PianoCovers$Pad" "length" "I", Cond.fieldLink RX0 19 "PianoCovers$Pad" "at" "I", Cond.fieldLink RX0 22 "PianoCovers$Pad" "kind" "C", Cond.fieldLink RX0 26 "PianoCovers$Pad" "number" "I", Cond.fieldLink RX0 29 "PianoCovers$Pad" "cover" "I", Cond.fieldLink RX0 32 "PianoCovers$Pad" "hours" "I", Cond.fieldLink RX0 35 "PianoCovers$Pad" "more" "Z"]
def wsX2_init : List Cond := .code yX2_init cX2_init 2 none :: ((wsX2_init_r1 ++ (wsX2_init_r2 ++ wsX2_init_r3)) ++ wsX10 ++ wsX20 ++ wsX00)
def wsX2_copy : List Cond := .code yX2_copy cX2_copy 2 none :: ([.methodLink RX2 216 arraycopyName, .native arraycopyName, .static arraycopyName, .initialized "java/lang/System"] ++ wsX10)
def wsX2_dropOldest : List Cond := .code yX2_dropOldest cX2_dropOldest 3 none :: ([.fieldLink RX2 22 "PianoCovers" "history" "[LPianoCovers$Street;", .fieldLink RX2 26 "PianoCovers" "undoable" "I"] ++ wsX20)
def wsX2_recorded : List Cond := .code yX2_recorded cX2_recorded 2 (some .int) :: ([.fieldLink RX2 26 "PianoCovers" "undoable" "I", .fieldLink RX2 16 "PianoCovers" "before" "LPianoCovers$Street;", .fieldLink RX2 22 "PianoCovers" "history" "[LPianoCovers$Street;", .methodLink RX2 213 yX2_dropOldest, .instanceMethod yX2_dropOldest, .selects RX2 yX2_dropOldest yX2_dropOldest, .initialized RX2, .code yX2_dropOldest cX2_dropOldest 3 none, .methodLink RX2 44 yX2_copy, .static yX2_copy, .code yX2_copy cX2_copy 2 none, .methodLink RX2 216 arraycopyName, .native arraycopyName, .static arraycopyName, .initialized "java/lang/System"] ++ wsX20 ++ wsX10)
def wsX2_set_r1 : List Cond := [Cond.fieldLink RX2 10 "PianoCovers" "now" "LPianoCovers$Street;", Cond.fieldLink RX2 16 "PianoCovers" "before" "LPianoCovers$Street;", Cond.methodLink RX2 44 yX2_copy, Cond.static yX2_copy, Cond.initialized RX2, Cond.code yX2_copy cX2_copy 2 none, Cond.methodLink RX2 216 arraycopyName, Cond.native arraycopyName, Cond.static arraycopyName, Cond.initialized "java/lang/System", Cond.instanceMethod yX1_changeSetting, Cond.initialized RX1, Cond.selects RX1 yX1_changeSetting yX1_changeSetting, Cond.code yX1_changeSetting cX1_changeSetting 4 (some .int), Cond.fieldLink RX1 9 "PianoCovers$Street" "settings" "[I", Cond.methodLink RX2 52 yX2_recorded, Cond.instanceMethod yX2_recorded, Cond.selects RX2 yX2_recorded yX2_recorded, Cond.code yX2_recorded cX2_recorded 2 (some .int), Cond.fieldLink RX2 26 "PianoCovers" "undoable" "I", Cond.fieldLink RX2 22 "PianoCovers" "history" "[LPianoCovers$Street;", Cond.methodLink RX2 213 yX2_dropOldest, Cond.instanceMethod yX2_dropOldest, Cond.selects RX2 yX2_dropOldest yX2_dropOldest]
def wsX2_set_r2 : List Cond := [Cond.code yX2_dropOldest cX2_dropOldest 3 none]
def wsX2_set : List Cond := .code yX2_set cX2_set 3 (some .int) :: ((wsX2_set_r1 ++ wsX2_set_r2) ++ wsX20 ++ wsX10)
def wsX2_rain_r1 : List Cond := [Cond.fieldLink RX2 10 "PianoCovers" "now" "LPianoCovers$Street;", Cond.fieldLink RX2 16 "PianoCovers" "before" "LPianoCovers$Street;", Cond.methodLink RX2 44 yX2_copy, Cond.static yX2_copy, Cond.initialized RX2, Cond.code yX2_copy cX2_copy 2 none, Cond.methodLink RX2 216 arraycopyName, Cond.native arraycopyName, Cond.static arraycopyName, Cond.initialized "java/lang/System", Cond.instanceMethod yX1_changeRain, Cond.initialized RX1, Cond.selects RX1 yX1_changeRain yX1_changeRain, Cond.code yX1_changeRain cX1_changeRain 3 (some .int), Cond.constant RX1 82 (16777215), Cond.fieldLink RX1 55 "PianoCovers$Street" "rainHours" "I", Cond.methodLink RX2 52 yX2_recorded, Cond.instanceMethod yX2_recorded, Cond.selects RX2 yX2_recorded yX2_recorded, Cond.code yX2_recorded cX2_recorded 2 (some .int), Cond.fieldLink RX2 26 "PianoCovers" "undoable" "I", Cond.fieldLink RX2 22 "PianoCovers" "history" "[LPianoCovers$Street;", Cond.methodLink RX2 213 yX2_dropOldest, Cond.instanceMethod yX2_dropOldest]
def wsX2_rain_r2 : List Cond := [Cond.selects RX2 yX2_dropOldest yX2_dropOldest, Cond.code yX2_dropOldest cX2_dropOldest 3 none]
def wsX2_rain : List Cond := .code yX2_rain cX2_rain 2 (some .int) :: ((wsX2_rain_r1 ++ wsX2_rain_r2) ++ wsX20 ++ wsX10)
def wsX2_piano_r1 : List Cond := [Cond.fieldLink RX2 10 "PianoCovers" "now" "LPianoCovers$Street;", Cond.fieldLink RX2 16 "PianoCovers" "before" "LPianoCovers$Street;", Cond.methodLink RX2 44 yX2_copy, Cond.static yX2_copy, Cond.initialized RX2, Cond.code yX2_copy cX2_copy 2 none, Cond.methodLink RX2 216 arraycopyName, Cond.native arraycopyName, Cond.static arraycopyName, Cond.initialized "java/lang/System", Cond.instanceMethod yX1_addPiano, Cond.initialized RX1, Cond.selects RX1 yX1_addPiano yX1_addPiano, Cond.code yX1_addPiano cX1_addPiano 3 (some .int), Cond.fieldLink RX1 15 "PianoCovers$Street" "pianos" "I", Cond.fieldLink RX1 19 "PianoCovers$Street" "lying" "I", Cond.fieldLink RX1 25 "PianoCovers$Street" "pitch" "[I", Cond.fieldLink RX1 28 "PianoCovers$Street" "damp" "[I", Cond.fieldLink RX1 31 "PianoCovers$Street" "earned" "[I", Cond.fieldLink RX1 34 "PianoCovers$Street" "rainedOn" "[I", Cond.static yX2_isPlace, Cond.code yX2_isPlace cX2_isPlace 1 (some .boolean), Cond.static yX2_has, Cond.code yX2_has cX2_has 2 (some .boolean)]
def wsX2_piano_r2 : List Cond := [Cond.methodLink RX1 91 yJ6_bitCount_0f7a4, Cond.static yJ6_bitCount_0f7a4, Cond.initialized RJ6, Cond.code yJ6_bitCount_0f7a4 cJ6_bitCount_0f7a4 1 (some .int), Cond.constant RJ6 265 (1431655765), Cond.constant RJ6 266 (858993459), Cond.constant RJ6 267 (252645135), Cond.methodLink RX2 52 yX2_recorded, Cond.instanceMethod yX2_recorded, Cond.selects RX2 yX2_recorded yX2_recorded, Cond.code yX2_recorded cX2_recorded 2 (some .int), Cond.fieldLink RX2 26 "PianoCovers" "undoable" "I", Cond.fieldLink RX2 22 "PianoCovers" "history" "[LPianoCovers$Street;", Cond.methodLink RX2 213 yX2_dropOldest, Cond.instanceMethod yX2_dropOldest, Cond.selects RX2 yX2_dropOldest yX2_dropOldest, Cond.code yX2_dropOldest cX2_dropOldest 3 none]
def wsX2_piano : List Cond := .code yX2_piano cX2_piano 3 (some .int) :: ((wsX2_piano_r1 ++ wsX2_piano_r2) ++ wsX20 ++ wsX10)
def wsX2_take_r1 : List Cond := [Cond.fieldLink RX2 10 "PianoCovers" "now" "LPianoCovers$Street;", Cond.fieldLink RX2 16 "PianoCovers" "before" "LPianoCovers$Street;", Cond.methodLink RX2 44 yX2_copy, Cond.static yX2_copy, Cond.initialized RX2, Cond.code yX2_copy cX2_copy 2 none, Cond.methodLink RX2 216 arraycopyName, Cond.native arraycopyName, Cond.static arraycopyName, Cond.initialized "java/lang/System", Cond.instanceMethod yX1_removePiano, Cond.initialized RX1, Cond.selects RX1 yX1_removePiano yX1_removePiano, Cond.code yX1_removePiano cX1_removePiano 3 (some .int), Cond.fieldLink RX1 15 "PianoCovers$Street" "pianos" "I", Cond.fieldLink RX1 19 "PianoCovers$Street" "lying" "I", Cond.fieldLink RX1 22 "PianoCovers$Street" "covered" "I", Cond.static yX2_has, Cond.code yX2_has cX2_has 2 (some .boolean), Cond.methodLink RX1 91 yJ6_bitCount_0f7a4, Cond.static yJ6_bitCount_0f7a4, Cond.initialized RJ6, Cond.code yJ6_bitCount_0f7a4 cJ6_bitCount_0f7a4 1 (some .int), Cond.constant RJ6 265 (1431655765)]
def wsX2_take_r2 : List Cond := [Cond.constant RJ6 266 (858993459), Cond.constant RJ6 267 (252645135), Cond.methodLink RX2 52 yX2_recorded, Cond.instanceMethod yX2_recorded, Cond.selects RX2 yX2_recorded yX2_recorded, Cond.code yX2_recorded cX2_recorded 2 (some .int), Cond.fieldLink RX2 26 "PianoCovers" "undoable" "I", Cond.fieldLink RX2 22 "PianoCovers" "history" "[LPianoCovers$Street;", Cond.methodLink RX2 213 yX2_dropOldest, Cond.instanceMethod yX2_dropOldest, Cond.selects RX2 yX2_dropOldest yX2_dropOldest, Cond.code yX2_dropOldest cX2_dropOldest 3 none]
def wsX2_take : List Cond := .code yX2_take cX2_take 2 (some .int) :: ((wsX2_take_r1 ++ wsX2_take_r2) ++ wsX20 ++ wsX10)
def wsX2_keeper_r1 : List Cond := [Cond.fieldLink RX2 10 "PianoCovers" "now" "LPianoCovers$Street;", Cond.fieldLink RX2 16 "PianoCovers" "before" "LPianoCovers$Street;", Cond.methodLink RX2 44 yX2_copy, Cond.static yX2_copy, Cond.initialized RX2, Cond.code yX2_copy cX2_copy 2 none, Cond.methodLink RX2 216 arraycopyName, Cond.native arraycopyName, Cond.static arraycopyName, Cond.initialized "java/lang/System", Cond.instanceMethod yX1_hireKeeper, Cond.initialized RX1, Cond.selects RX1 yX1_hireKeeper yX1_hireKeeper, Cond.code yX1_hireKeeper cX1_hireKeeper 2 (some .int), Cond.fieldLink RX1 37 "PianoCovers$Street" "keepers" "I", Cond.static yX2_isPlace, Cond.code yX2_isPlace cX2_isPlace 1 (some .boolean), Cond.methodLink RX1 97 yX1_addKeeper, Cond.instanceMethod yX1_addKeeper, Cond.selects RX1 yX1_addKeeper yX1_addKeeper, Cond.code yX1_addKeeper cX1_addKeeper 2 none, Cond.fieldLink RX1 40 "PianoCovers$Street" "keeperAt" "[I", Cond.fieldLink RX1 43 "PianoCovers$Street" "timesCovered" "[I", Cond.fieldLink RX1 46 "PianoCovers$Street" "timesOpened" "[I"]
def wsX2_keeper_r2 : List Cond := [Cond.fieldLink RX1 49 "PianoCovers$Street" "timesTuned" "[I", Cond.fieldLink RX1 52 "PianoCovers$Street" "placesWent" "[I", Cond.methodLink RX2 52 yX2_recorded, Cond.instanceMethod yX2_recorded, Cond.selects RX2 yX2_recorded yX2_recorded, Cond.code yX2_recorded cX2_recorded 2 (some .int), Cond.fieldLink RX2 26 "PianoCovers" "undoable" "I", Cond.fieldLink RX2 22 "PianoCovers" "history" "[LPianoCovers$Street;", Cond.methodLink RX2 213 yX2_dropOldest, Cond.instanceMethod yX2_dropOldest, Cond.selects RX2 yX2_dropOldest yX2_dropOldest, Cond.code yX2_dropOldest cX2_dropOldest 3 none]
def wsX2_keeper : List Cond := .code yX2_keeper cX2_keeper 2 (some .int) :: ((wsX2_keeper_r1 ++ wsX2_keeper_r2) ++ wsX20 ++ wsX10)
def wsX2_cover_r1 : List Cond := [Cond.fieldLink RX2 10 "PianoCovers" "now" "LPianoCovers$Street;", Cond.fieldLink RX2 16 "PianoCovers" "before" "LPianoCovers$Street;", Cond.methodLink RX2 44 yX2_copy, Cond.static yX2_copy, Cond.initialized RX2, Cond.code yX2_copy cX2_copy 2 none, Cond.methodLink RX2 216 arraycopyName, Cond.native arraycopyName, Cond.static arraycopyName, Cond.initialized "java/lang/System", Cond.instanceMethod yX1_layCover, Cond.initialized RX1, Cond.selects RX1 yX1_layCover yX1_layCover, Cond.code yX1_layCover cX1_layCover 2 (some .int), Cond.fieldLink RX1 15 "PianoCovers$Street" "pianos" "I", Cond.fieldLink RX1 19 "PianoCovers$Street" "lying" "I", Cond.fieldLink RX1 22 "PianoCovers$Street" "covered" "I", Cond.static yX2_has, Cond.code yX2_has cX2_has 2 (some .boolean), Cond.methodLink RX1 91 yJ6_bitCount_0f7a4, Cond.static yJ6_bitCount_0f7a4, Cond.initialized RJ6, Cond.code yJ6_bitCount_0f7a4 cJ6_bitCount_0f7a4 1 (some .int), Cond.constant RJ6 265 (1431655765)]
def wsX2_cover_r2 : List Cond := [Cond.constant RJ6 266 (858993459), Cond.constant RJ6 267 (252645135), Cond.methodLink RX2 52 yX2_recorded, Cond.instanceMethod yX2_recorded, Cond.selects RX2 yX2_recorded yX2_recorded, Cond.code yX2_recorded cX2_recorded 2 (some .int), Cond.fieldLink RX2 26 "PianoCovers" "undoable" "I", Cond.fieldLink RX2 22 "PianoCovers" "history" "[LPianoCovers$Street;", Cond.methodLink RX2 213 yX2_dropOldest, Cond.instanceMethod yX2_dropOldest, Cond.selects RX2 yX2_dropOldest yX2_dropOldest, Cond.code yX2_dropOldest cX2_dropOldest 3 none]
def wsX2_cover : List Cond := .code yX2_cover cX2_cover 2 (some .int) :: ((wsX2_cover_r1 ++ wsX2_cover_r2) ++ wsX20 ++ wsX10)
def wsX2_pass_r1 : List Cond := [Cond.fieldLink RX2 10 "PianoCovers" "now" "LPianoCovers$Street;", Cond.fieldLink RX2 16 "PianoCovers" "before" "LPianoCovers$Street;", Cond.methodLink RX2 44 yX2_copy, Cond.static yX2_copy, Cond.initialized RX2, Cond.code yX2_copy cX2_copy 2 none, Cond.methodLink RX2 216 arraycopyName, Cond.native arraycopyName, Cond.static arraycopyName, Cond.initialized "java/lang/System", Cond.instanceMethod yX1_passCounted, Cond.initialized RX1, Cond.selects RX1 yX1_passCounted yX1_passCounted, Cond.code yX1_passCounted cX1_passCounted 2 (some .int), Cond.fieldLink RX1 58 "PianoCovers$Street" "hours" "I", Cond.methodLink RX1 101 yX1_passHours, Cond.instanceMethod yX1_passHours, Cond.selects RX1 yX1_passHours yX1_passHours, Cond.code yX1_passHours cX1_passHours 4 (some .int), Cond.fieldLink RX1 61 "PianoCovers$Street" "coins" "I", Cond.methodLink RX1 107 yX1_letKeepersAct, Cond.instanceMethod yX1_letKeepersAct, Cond.selects RX1 yX1_letKeepersAct yX1_letKeepersAct, Cond.code yX1_letKeepersAct cX1_letKeepersAct 6 none]
def wsX2_pass_r2 : List Cond := [Cond.fieldLink RX1 37 "PianoCovers$Street" "keepers" "I", Cond.fieldLink RX1 19 "PianoCovers$Street" "lying" "I", Cond.fieldLink RX1 22 "PianoCovers$Street" "covered" "I", Cond.fieldLink RX1 40 "PianoCovers$Street" "keeperAt" "[I", Cond.methodLink RX1 122 yX1_rainIsAhead, Cond.instanceMethod yX1_rainIsAhead, Cond.selects RX1 yX1_rainIsAhead yX1_rainIsAhead, Cond.code yX1_rainIsAhead cX1_rainIsAhead 2 (some .boolean), Cond.fieldLink RX1 9 "PianoCovers$Street" "settings" "[I", Cond.methodLink RX1 104 yX1_rainsAfter, Cond.instanceMethod yX1_rainsAfter, Cond.selects RX1 yX1_rainsAfter yX1_rainsAfter, Cond.code yX1_rainsAfter cX1_rainsAfter 2 (some .boolean), Cond.fieldLink RX1 55 "PianoCovers$Street" "rainHours" "I", Cond.methodLink RX1 126 yX1_nearest, Cond.static yX1_nearest, Cond.code yX1_nearest cX1_nearest 3 (some .int), Cond.static yX2_has, Cond.code yX2_has cX2_has 2 (some .boolean), Cond.methodLink RX1 130 yX1_outOfTune, Cond.instanceMethod yX1_outOfTune, Cond.selects RX1 yX1_outOfTune yX1_outOfTune, Cond.code yX1_outOfTune cX1_outOfTune 3 (some .int), Cond.fieldLink RX1 25 "PianoCovers$Street" "pitch" "[I"]
def wsX2_pass_r3 : List Cond := [Cond.methodLink RX1 147 yX1_openOnes, Cond.instanceMethod yX1_openOnes, Cond.selects RX1 yX1_openOnes yX1_openOnes, Cond.code yX1_openOnes cX1_openOnes 1 (some .int), Cond.fieldLink RX1 15 "PianoCovers$Street" "pianos" "I", Cond.methodLink RX1 134 yX1_goTowards, Cond.instanceMethod yX1_goTowards, Cond.selects RX1 yX1_goTowards yX1_goTowards, Cond.code yX1_goTowards cX1_goTowards 3 none, Cond.fieldLink RX1 52 "PianoCovers$Street" "placesWent" "[I", Cond.methodLink RX1 138 yX1_tune, Cond.instanceMethod yX1_tune, Cond.selects RX1 yX1_tune yX1_tune, Cond.code yX1_tune cX1_tune 3 none, Cond.methodLink RX1 150 Lib.Math.min.name, Cond.static Lib.Math.min.name, Cond.initialized "java/lang/Math", Cond.code Lib.Math.min.name Lib.Math.min.code 2 (some .int), Cond.fieldLink RX1 49 "PianoCovers$Street" "timesTuned" "[I", Cond.methodLink RX1 141 yX1_putCoverOn, Cond.instanceMethod yX1_putCoverOn, Cond.selects RX1 yX1_putCoverOn yX1_putCoverOn, Cond.code yX1_putCoverOn cX1_putCoverOn 3 none, Cond.fieldLink RX1 43 "PianoCovers$Street" "timesCovered" "[I"]
def wsX2_pass_r4 : List Cond := [Cond.methodLink RX1 144 yX1_takeCoverOff, Cond.instanceMethod yX1_takeCoverOff, Cond.selects RX1 yX1_takeCoverOff yX1_takeCoverOff, Cond.code yX1_takeCoverOff cX1_takeCoverOff 3 none, Cond.fieldLink RX1 46 "PianoCovers$Street" "timesOpened" "[I", Cond.methodLink RX1 110 yX1_letRainFall, Cond.instanceMethod yX1_letRainFall, Cond.selects RX1 yX1_letRainFall yX1_letRainFall, Cond.code yX1_letRainFall cX1_letRainFall 2 none, Cond.fieldLink RX1 28 "PianoCovers$Street" "damp" "[I", Cond.methodLink RX1 155 Lib.Math.max.name, Cond.static Lib.Math.max.name, Cond.code Lib.Math.max.name Lib.Math.max.code 2 (some .int), Cond.fieldLink RX1 34 "PianoCovers$Street" "rainedOn" "[I", Cond.methodLink RX1 113 yX1_letPianosDry, Cond.instanceMethod yX1_letPianosDry, Cond.selects RX1 yX1_letPianosDry yX1_letPianosDry, Cond.code yX1_letPianosDry cX1_letPianosDry 2 none, Cond.methodLink RX1 116 yX1_letPianosBePlayed, Cond.instanceMethod yX1_letPianosBePlayed, Cond.selects RX1 yX1_letPianosBePlayed yX1_letPianosBePlayed, Cond.code yX1_letPianosBePlayed cX1_letPianosBePlayed 4 none, Cond.fieldLink RX1 31 "PianoCovers$Street" "earned" "[I", Cond.methodLink RX1 119 yX1_letThievesCome]
def wsX2_pass_r5 : List Cond := [Cond.instanceMethod yX1_letThievesCome, Cond.selects RX1 yX1_letThievesCome yX1_letThievesCome, Cond.code yX1_letThievesCome cX1_letThievesCome 6 none, Cond.fieldLink RX1 64 "PianoCovers$Street" "stolen" "I", Cond.methodLink RX1 158 yX1_keepersAt, Cond.instanceMethod yX1_keepersAt, Cond.selects RX1 yX1_keepersAt yX1_keepersAt, Cond.code yX1_keepersAt cX1_keepersAt 4 (some .int), Cond.methodLink RX2 52 yX2_recorded, Cond.instanceMethod yX2_recorded, Cond.selects RX2 yX2_recorded yX2_recorded, Cond.code yX2_recorded cX2_recorded 2 (some .int), Cond.fieldLink RX2 26 "PianoCovers" "undoable" "I", Cond.fieldLink RX2 22 "PianoCovers" "history" "[LPianoCovers$Street;", Cond.methodLink RX2 213 yX2_dropOldest, Cond.instanceMethod yX2_dropOldest, Cond.selects RX2 yX2_dropOldest yX2_dropOldest, Cond.code yX2_dropOldest cX2_dropOldest 3 none]
def wsX2_pass : List Cond := .code yX2_pass cX2_pass 2 (some .int) :: ((wsX2_pass_r1 ++ (wsX2_pass_r2 ++ (wsX2_pass_r3 ++ (wsX2_pass_r4 ++ wsX2_pass_r5)))) ++ wsX20 ++ wsX10)
def wsX2_of : List Cond := .code yX2_of cX2_of 3 (some .int) :: ([.fieldLink RX2 10 "PianoCovers" "now" "LPianoCovers$Street;", .methodLink RX2 77 yX2_has, .static yX2_has, .initialized RX2, .code yX2_has cX2_has 2 (some .boolean), .instanceMethod yX1_coverAt, .initialized RX1, .selects RX1 yX1_coverAt yX1_coverAt, .code yX1_coverAt cX1_coverAt 2 (some .int), .fieldLink RX1 22 "PianoCovers$Street" "covered" "I", .fieldLink RX1 19 "PianoCovers$Street" "lying" "I", .instanceMethod yX1_keepersAt, .selects RX1 yX1_keepersAt yX1_keepersAt, .code yX1_keepersAt cX1_keepersAt 4 (some .int), .fieldLink RX1 37 "PianoCovers$Street" "keepers" "I", .fieldLink RX1 40 "PianoCovers$Street" "keeperAt" "[I"] ++ wsX20 ++ wsX10)
def wsX2_ofKeeper : List Cond := .code yX2_ofKeeper cX2_ofKeeper 3 (some .int) :: ([.fieldLink RX2 10 "PianoCovers" "now" "LPianoCovers$Street;"] ++ wsX20 ++ wsX10)
def wsX2_count : List Cond := .code yX2_count cX2_count 2 (some .int) :: ([.fieldLink RX2 10 "PianoCovers" "now" "LPianoCovers$Street;", .fieldLink RX2 40 "PianoCovers" "pad" "LPianoCovers$Pad;", .fieldLink RX2 26 "PianoCovers" "undoable" "I", .instanceMethod yX1_rainIsAhead, .initialized RX1, .selects RX1 yX1_rainIsAhead yX1_rainIsAhead, .code yX1_rainIsAhead cX1_rainIsAhead 2 (some .boolean), .fieldLink RX1 9 "PianoCovers$Street" "settings" "[I", .methodLink RX1 104 yX1_rainsAfter, .instanceMethod yX1_rainsAfter, .selects RX1 yX1_rainsAfter yX1_rainsAfter, .code yX1_rainsAfter cX1_rainsAfter 2 (some .boolean), .fieldLink RX1 55 "PianoCovers$Street" "rainHours" "I", .fieldLink RX1 58 "PianoCovers$Street" "hours" "I"] ++ wsX20 ++ wsX10 ++ wsX00)
def wsX2_worst : List Cond := .code yX2_worst cX2_worst 5 (some .int) :: ([.fieldLink RX2 10 "PianoCovers" "now" "LPianoCovers$Street;", .methodLink RX2 77 yX2_has, .static yX2_has, .initialized RX2, .code yX2_has cX2_has 2 (some .boolean)] ++ wsX20 ++ wsX10)
def wsX2_why : List Cond := .code yX2_why cX2_why 2 (some .int) :: ([.fieldLink RX2 10 "PianoCovers" "now" "LPianoCovers$Street;", .methodLink RX2 77 yX2_has, .static yX2_has, .initialized RX2, .code yX2_has cX2_has 2 (some .boolean), .instanceMethod yX1_rainIsAhead, .initialized RX1, .selects RX1 yX1_rainIsAhead yX1_rainIsAhead, .code yX1_rainIsAhead cX1_rainIsAhead 2 (some .boolean), .fieldLink RX1 9 "PianoCovers$Street" "settings" "[I", .methodLink RX1 104 yX1_rainsAfter, .instanceMethod yX1_rainsAfter, .selects RX1 yX1_rainsAfter yX1_rainsAfter, .code yX1_rainsAfter cX1_rainsAfter 2 (some .boolean), .fieldLink RX1 55 "PianoCovers$Street" "rainHours" "I", .fieldLink RX1 58 "PianoCovers$Street" "hours" "I", .instanceMethod yX1_keepersAt, .selects RX1 yX1_keepersAt yX1_keepersAt, .code yX1_keepersAt cX1_keepersAt 4 (some .int), .fieldLink RX1 37 "PianoCovers$Street" "keepers" "I", .fieldLink RX1 40 "PianoCovers$Street" "keeperAt" "[I"] ++ wsX20 ++ wsX10)
def wsX2_rainIn : List Cond := .code yX2_rainIn cX2_rainIn 1 (some .int) :: ([.fieldLink RX2 10 "PianoCovers" "now" "LPianoCovers$Street;", .instanceMethod yX1_hoursUntilRain, .initialized RX1, .selects RX1 yX1_hoursUntilRain yX1_hoursUntilRain, .code yX1_hoursUntilRain cX1_hoursUntilRain 2 (some .int), .methodLink RX1 104 yX1_rainsAfter, .instanceMethod yX1_rainsAfter, .selects RX1 yX1_rainsAfter yX1_rainsAfter, .code yX1_rainsAfter cX1_rainsAfter 2 (some .boolean), .fieldLink RX1 55 "PianoCovers$Street" "rainHours" "I", .fieldLink RX1 58 "PianoCovers$Street" "hours" "I"] ++ wsX20 ++ wsX10)
def wsX2_coveredIn_r1 : List Cond := [Cond.fieldLink RX2 10 "PianoCovers" "now" "LPianoCovers$Street;", Cond.fieldLink RX2 19 "PianoCovers" "trial" "LPianoCovers$Street;", Cond.methodLink RX2 77 yX2_has, Cond.static yX2_has, Cond.initialized RX2, Cond.code yX2_has cX2_has 2 (some .boolean), Cond.methodLink RX2 44 yX2_copy, Cond.static yX2_copy, Cond.code yX2_copy cX2_copy 2 none, Cond.methodLink RX2 216 arraycopyName, Cond.native arraycopyName, Cond.static arraycopyName, Cond.initialized "java/lang/System", Cond.instanceMethod yX1_passHours, Cond.initialized RX1, Cond.selects RX1 yX1_passHours yX1_passHours, Cond.code yX1_passHours cX1_passHours 4 (some .int), Cond.fieldLink RX1 61 "PianoCovers$Street" "coins" "I", Cond.fieldLink RX1 58 "PianoCovers$Street" "hours" "I", Cond.methodLink RX1 107 yX1_letKeepersAct, Cond.instanceMethod yX1_letKeepersAct, Cond.selects RX1 yX1_letKeepersAct yX1_letKeepersAct, Cond.code yX1_letKeepersAct cX1_letKeepersAct 6 none, Cond.fieldLink RX1 37 "PianoCovers$Street" "keepers" "I"]
def wsX2_coveredIn_r2 : List Cond := [Cond.fieldLink RX1 19 "PianoCovers$Street" "lying" "I", Cond.fieldLink RX1 22 "PianoCovers$Street" "covered" "I", Cond.fieldLink RX1 40 "PianoCovers$Street" "keeperAt" "[I", Cond.methodLink RX1 122 yX1_rainIsAhead, Cond.instanceMethod yX1_rainIsAhead, Cond.selects RX1 yX1_rainIsAhead yX1_rainIsAhead, Cond.code yX1_rainIsAhead cX1_rainIsAhead 2 (some .boolean), Cond.fieldLink RX1 9 "PianoCovers$Street" "settings" "[I", Cond.methodLink RX1 104 yX1_rainsAfter, Cond.instanceMethod yX1_rainsAfter, Cond.selects RX1 yX1_rainsAfter yX1_rainsAfter, Cond.code yX1_rainsAfter cX1_rainsAfter 2 (some .boolean), Cond.fieldLink RX1 55 "PianoCovers$Street" "rainHours" "I", Cond.methodLink RX1 126 yX1_nearest, Cond.static yX1_nearest, Cond.code yX1_nearest cX1_nearest 3 (some .int), Cond.methodLink RX1 130 yX1_outOfTune, Cond.instanceMethod yX1_outOfTune, Cond.selects RX1 yX1_outOfTune yX1_outOfTune, Cond.code yX1_outOfTune cX1_outOfTune 3 (some .int), Cond.fieldLink RX1 25 "PianoCovers$Street" "pitch" "[I", Cond.methodLink RX1 147 yX1_openOnes, Cond.instanceMethod yX1_openOnes, Cond.selects RX1 yX1_openOnes yX1_openOnes]
def wsX2_coveredIn_r3 : List Cond := [Cond.code yX1_openOnes cX1_openOnes 1 (some .int), Cond.fieldLink RX1 15 "PianoCovers$Street" "pianos" "I", Cond.methodLink RX1 134 yX1_goTowards, Cond.instanceMethod yX1_goTowards, Cond.selects RX1 yX1_goTowards yX1_goTowards, Cond.code yX1_goTowards cX1_goTowards 3 none, Cond.fieldLink RX1 52 "PianoCovers$Street" "placesWent" "[I", Cond.methodLink RX1 138 yX1_tune, Cond.instanceMethod yX1_tune, Cond.selects RX1 yX1_tune yX1_tune, Cond.code yX1_tune cX1_tune 3 none, Cond.methodLink RX1 150 Lib.Math.min.name, Cond.static Lib.Math.min.name, Cond.initialized "java/lang/Math", Cond.code Lib.Math.min.name Lib.Math.min.code 2 (some .int), Cond.fieldLink RX1 49 "PianoCovers$Street" "timesTuned" "[I", Cond.methodLink RX1 141 yX1_putCoverOn, Cond.instanceMethod yX1_putCoverOn, Cond.selects RX1 yX1_putCoverOn yX1_putCoverOn, Cond.code yX1_putCoverOn cX1_putCoverOn 3 none, Cond.fieldLink RX1 43 "PianoCovers$Street" "timesCovered" "[I", Cond.methodLink RX1 144 yX1_takeCoverOff, Cond.instanceMethod yX1_takeCoverOff, Cond.selects RX1 yX1_takeCoverOff yX1_takeCoverOff]
def wsX2_coveredIn_r4 : List Cond := [Cond.code yX1_takeCoverOff cX1_takeCoverOff 3 none, Cond.fieldLink RX1 46 "PianoCovers$Street" "timesOpened" "[I", Cond.methodLink RX1 110 yX1_letRainFall, Cond.instanceMethod yX1_letRainFall, Cond.selects RX1 yX1_letRainFall yX1_letRainFall, Cond.code yX1_letRainFall cX1_letRainFall 2 none, Cond.fieldLink RX1 28 "PianoCovers$Street" "damp" "[I", Cond.methodLink RX1 155 Lib.Math.max.name, Cond.static Lib.Math.max.name, Cond.code Lib.Math.max.name Lib.Math.max.code 2 (some .int), Cond.fieldLink RX1 34 "PianoCovers$Street" "rainedOn" "[I", Cond.methodLink RX1 113 yX1_letPianosDry, Cond.instanceMethod yX1_letPianosDry, Cond.selects RX1 yX1_letPianosDry yX1_letPianosDry, Cond.code yX1_letPianosDry cX1_letPianosDry 2 none, Cond.methodLink RX1 116 yX1_letPianosBePlayed, Cond.instanceMethod yX1_letPianosBePlayed, Cond.selects RX1 yX1_letPianosBePlayed yX1_letPianosBePlayed, Cond.code yX1_letPianosBePlayed cX1_letPianosBePlayed 4 none, Cond.fieldLink RX1 31 "PianoCovers$Street" "earned" "[I", Cond.methodLink RX1 119 yX1_letThievesCome, Cond.instanceMethod yX1_letThievesCome, Cond.selects RX1 yX1_letThievesCome yX1_letThievesCome, Cond.code yX1_letThievesCome cX1_letThievesCome 6 none]
def wsX2_coveredIn_r5 : List Cond := [Cond.fieldLink RX1 64 "PianoCovers$Street" "stolen" "I", Cond.methodLink RX1 158 yX1_keepersAt, Cond.instanceMethod yX1_keepersAt, Cond.selects RX1 yX1_keepersAt yX1_keepersAt, Cond.code yX1_keepersAt cX1_keepersAt 4 (some .int)]
def wsX2_coveredIn : List Cond := .code yX2_coveredIn cX2_coveredIn 3 (some .int) :: ((wsX2_coveredIn_r1 ++ (wsX2_coveredIn_r2 ++ (wsX2_coveredIn_r3 ++ (wsX2_coveredIn_r4 ++ wsX2_coveredIn_r5)))) ++ wsX20 ++ wsX10)
def wsX2_willBeWet_r1 : List Cond := [Cond.fieldLink RX2 10 "PianoCovers" "now" "LPianoCovers$Street;", Cond.fieldLink RX2 19 "PianoCovers" "trial" "LPianoCovers$Street;", Cond.methodLink RX2 44 yX2_copy, Cond.static yX2_copy, Cond.initialized RX2, Cond.code yX2_copy cX2_copy 2 none, Cond.methodLink RX2 216 arraycopyName, Cond.native arraycopyName, Cond.static arraycopyName, Cond.initialized "java/lang/System", Cond.instanceMethod yX1_passHours, Cond.initialized RX1, Cond.selects RX1 yX1_passHours yX1_passHours, Cond.code yX1_passHours cX1_passHours 4 (some .int), Cond.fieldLink RX1 61 "PianoCovers$Street" "coins" "I", Cond.fieldLink RX1 58 "PianoCovers$Street" "hours" "I", Cond.methodLink RX1 107 yX1_letKeepersAct, Cond.instanceMethod yX1_letKeepersAct, Cond.selects RX1 yX1_letKeepersAct yX1_letKeepersAct, Cond.code yX1_letKeepersAct cX1_letKeepersAct 6 none, Cond.fieldLink RX1 37 "PianoCovers$Street" "keepers" "I", Cond.fieldLink RX1 19 "PianoCovers$Street" "lying" "I", Cond.fieldLink RX1 22 "PianoCovers$Street" "covered" "I", Cond.fieldLink RX1 40 "PianoCovers$Street" "keeperAt" "[I"]
def wsX2_willBeWet_r2 : List Cond := [Cond.methodLink RX1 122 yX1_rainIsAhead, Cond.instanceMethod yX1_rainIsAhead, Cond.selects RX1 yX1_rainIsAhead yX1_rainIsAhead, Cond.code yX1_rainIsAhead cX1_rainIsAhead 2 (some .boolean), Cond.fieldLink RX1 9 "PianoCovers$Street" "settings" "[I", Cond.methodLink RX1 104 yX1_rainsAfter, Cond.instanceMethod yX1_rainsAfter, Cond.selects RX1 yX1_rainsAfter yX1_rainsAfter, Cond.code yX1_rainsAfter cX1_rainsAfter 2 (some .boolean), Cond.fieldLink RX1 55 "PianoCovers$Street" "rainHours" "I", Cond.methodLink RX1 126 yX1_nearest, Cond.static yX1_nearest, Cond.code yX1_nearest cX1_nearest 3 (some .int), Cond.static yX2_has, Cond.code yX2_has cX2_has 2 (some .boolean), Cond.methodLink RX1 130 yX1_outOfTune, Cond.instanceMethod yX1_outOfTune, Cond.selects RX1 yX1_outOfTune yX1_outOfTune, Cond.code yX1_outOfTune cX1_outOfTune 3 (some .int), Cond.fieldLink RX1 25 "PianoCovers$Street" "pitch" "[I", Cond.methodLink RX1 147 yX1_openOnes, Cond.instanceMethod yX1_openOnes, Cond.selects RX1 yX1_openOnes yX1_openOnes, Cond.code yX1_openOnes cX1_openOnes 1 (some .int)]
def wsX2_willBeWet_r3 : List Cond := [Cond.fieldLink RX1 15 "PianoCovers$Street" "pianos" "I", Cond.methodLink RX1 134 yX1_goTowards, Cond.instanceMethod yX1_goTowards, Cond.selects RX1 yX1_goTowards yX1_goTowards, Cond.code yX1_goTowards cX1_goTowards 3 none, Cond.fieldLink RX1 52 "PianoCovers$Street" "placesWent" "[I", Cond.methodLink RX1 138 yX1_tune, Cond.instanceMethod yX1_tune, Cond.selects RX1 yX1_tune yX1_tune, Cond.code yX1_tune cX1_tune 3 none, Cond.methodLink RX1 150 Lib.Math.min.name, Cond.static Lib.Math.min.name, Cond.initialized "java/lang/Math", Cond.code Lib.Math.min.name Lib.Math.min.code 2 (some .int), Cond.fieldLink RX1 49 "PianoCovers$Street" "timesTuned" "[I", Cond.methodLink RX1 141 yX1_putCoverOn, Cond.instanceMethod yX1_putCoverOn, Cond.selects RX1 yX1_putCoverOn yX1_putCoverOn, Cond.code yX1_putCoverOn cX1_putCoverOn 3 none, Cond.fieldLink RX1 43 "PianoCovers$Street" "timesCovered" "[I", Cond.methodLink RX1 144 yX1_takeCoverOff, Cond.instanceMethod yX1_takeCoverOff, Cond.selects RX1 yX1_takeCoverOff yX1_takeCoverOff, Cond.code yX1_takeCoverOff cX1_takeCoverOff 3 none]
def wsX2_willBeWet_r4 : List Cond := [Cond.fieldLink RX1 46 "PianoCovers$Street" "timesOpened" "[I", Cond.methodLink RX1 110 yX1_letRainFall, Cond.instanceMethod yX1_letRainFall, Cond.selects RX1 yX1_letRainFall yX1_letRainFall, Cond.code yX1_letRainFall cX1_letRainFall 2 none, Cond.fieldLink RX1 28 "PianoCovers$Street" "damp" "[I", Cond.methodLink RX1 155 Lib.Math.max.name, Cond.static Lib.Math.max.name, Cond.code Lib.Math.max.name Lib.Math.max.code 2 (some .int), Cond.fieldLink RX1 34 "PianoCovers$Street" "rainedOn" "[I", Cond.methodLink RX1 113 yX1_letPianosDry, Cond.instanceMethod yX1_letPianosDry, Cond.selects RX1 yX1_letPianosDry yX1_letPianosDry, Cond.code yX1_letPianosDry cX1_letPianosDry 2 none, Cond.methodLink RX1 116 yX1_letPianosBePlayed, Cond.instanceMethod yX1_letPianosBePlayed, Cond.selects RX1 yX1_letPianosBePlayed yX1_letPianosBePlayed, Cond.code yX1_letPianosBePlayed cX1_letPianosBePlayed 4 none, Cond.fieldLink RX1 31 "PianoCovers$Street" "earned" "[I", Cond.methodLink RX1 119 yX1_letThievesCome, Cond.instanceMethod yX1_letThievesCome, Cond.selects RX1 yX1_letThievesCome yX1_letThievesCome, Cond.code yX1_letThievesCome cX1_letThievesCome 6 none, Cond.fieldLink RX1 64 "PianoCovers$Street" "stolen" "I"]
def wsX2_willBeWet_r5 : List Cond := [Cond.methodLink RX1 158 yX1_keepersAt, Cond.instanceMethod yX1_keepersAt, Cond.selects RX1 yX1_keepersAt yX1_keepersAt, Cond.code yX1_keepersAt cX1_keepersAt 4 (some .int)]
def wsX2_willBeWet : List Cond := .code yX2_willBeWet cX2_willBeWet 4 (some .int) :: ((wsX2_willBeWet_r1 ++ (wsX2_willBeWet_r2 ++ (wsX2_willBeWet_r3 ++ (wsX2_willBeWet_r4 ++ wsX2_willBeWet_r5)))) ++ wsX20 ++ wsX10)
def wsX2_coinsWithOneMoreAt_r1 : List Cond := [Cond.fieldLink RX2 10 "PianoCovers" "now" "LPianoCovers$Street;", Cond.fieldLink RX2 19 "PianoCovers" "trial" "LPianoCovers$Street;", Cond.methodLink RX2 44 yX2_copy, Cond.static yX2_copy, Cond.initialized RX2, Cond.code yX2_copy cX2_copy 2 none, Cond.methodLink RX2 216 arraycopyName, Cond.native arraycopyName, Cond.static arraycopyName, Cond.initialized "java/lang/System", Cond.instanceMethod yX1_addKeeper, Cond.initialized RX1, Cond.selects RX1 yX1_addKeeper yX1_addKeeper, Cond.code yX1_addKeeper cX1_addKeeper 2 none, Cond.fieldLink RX1 37 "PianoCovers$Street" "keepers" "I", Cond.fieldLink RX1 40 "PianoCovers$Street" "keeperAt" "[I", Cond.fieldLink RX1 43 "PianoCovers$Street" "timesCovered" "[I", Cond.fieldLink RX1 46 "PianoCovers$Street" "timesOpened" "[I", Cond.fieldLink RX1 49 "PianoCovers$Street" "timesTuned" "[I", Cond.fieldLink RX1 52 "PianoCovers$Street" "placesWent" "[I", Cond.instanceMethod yX1_passHours, Cond.selects RX1 yX1_passHours yX1_passHours, Cond.code yX1_passHours cX1_passHours 4 (some .int), Cond.fieldLink RX1 61 "PianoCovers$Street" "coins" "I"]
def wsX2_coinsWithOneMoreAt_r2 : List Cond := [Cond.fieldLink RX1 58 "PianoCovers$Street" "hours" "I", Cond.methodLink RX1 107 yX1_letKeepersAct, Cond.instanceMethod yX1_letKeepersAct, Cond.selects RX1 yX1_letKeepersAct yX1_letKeepersAct, Cond.code yX1_letKeepersAct cX1_letKeepersAct 6 none, Cond.fieldLink RX1 19 "PianoCovers$Street" "lying" "I", Cond.fieldLink RX1 22 "PianoCovers$Street" "covered" "I", Cond.methodLink RX1 122 yX1_rainIsAhead, Cond.instanceMethod yX1_rainIsAhead, Cond.selects RX1 yX1_rainIsAhead yX1_rainIsAhead, Cond.code yX1_rainIsAhead cX1_rainIsAhead 2 (some .boolean), Cond.fieldLink RX1 9 "PianoCovers$Street" "settings" "[I", Cond.methodLink RX1 104 yX1_rainsAfter, Cond.instanceMethod yX1_rainsAfter, Cond.selects RX1 yX1_rainsAfter yX1_rainsAfter, Cond.code yX1_rainsAfter cX1_rainsAfter 2 (some .boolean), Cond.fieldLink RX1 55 "PianoCovers$Street" "rainHours" "I", Cond.methodLink RX1 126 yX1_nearest, Cond.static yX1_nearest, Cond.code yX1_nearest cX1_nearest 3 (some .int), Cond.static yX2_has, Cond.code yX2_has cX2_has 2 (some .boolean), Cond.methodLink RX1 130 yX1_outOfTune, Cond.instanceMethod yX1_outOfTune]
def wsX2_coinsWithOneMoreAt_r3 : List Cond := [Cond.selects RX1 yX1_outOfTune yX1_outOfTune, Cond.code yX1_outOfTune cX1_outOfTune 3 (some .int), Cond.fieldLink RX1 25 "PianoCovers$Street" "pitch" "[I", Cond.methodLink RX1 147 yX1_openOnes, Cond.instanceMethod yX1_openOnes, Cond.selects RX1 yX1_openOnes yX1_openOnes, Cond.code yX1_openOnes cX1_openOnes 1 (some .int), Cond.fieldLink RX1 15 "PianoCovers$Street" "pianos" "I", Cond.methodLink RX1 134 yX1_goTowards, Cond.instanceMethod yX1_goTowards, Cond.selects RX1 yX1_goTowards yX1_goTowards, Cond.code yX1_goTowards cX1_goTowards 3 none, Cond.methodLink RX1 138 yX1_tune, Cond.instanceMethod yX1_tune, Cond.selects RX1 yX1_tune yX1_tune, Cond.code yX1_tune cX1_tune 3 none, Cond.methodLink RX1 150 Lib.Math.min.name, Cond.static Lib.Math.min.name, Cond.initialized "java/lang/Math", Cond.code Lib.Math.min.name Lib.Math.min.code 2 (some .int), Cond.methodLink RX1 141 yX1_putCoverOn, Cond.instanceMethod yX1_putCoverOn, Cond.selects RX1 yX1_putCoverOn yX1_putCoverOn, Cond.code yX1_putCoverOn cX1_putCoverOn 3 none]
def wsX2_coinsWithOneMoreAt_r4 : List Cond := [Cond.methodLink RX1 144 yX1_takeCoverOff, Cond.instanceMethod yX1_takeCoverOff, Cond.selects RX1 yX1_takeCoverOff yX1_takeCoverOff, Cond.code yX1_takeCoverOff cX1_takeCoverOff 3 none, Cond.methodLink RX1 110 yX1_letRainFall, Cond.instanceMethod yX1_letRainFall, Cond.selects RX1 yX1_letRainFall yX1_letRainFall, Cond.code yX1_letRainFall cX1_letRainFall 2 none, Cond.fieldLink RX1 28 "PianoCovers$Street" "damp" "[I", Cond.methodLink RX1 155 Lib.Math.max.name, Cond.static Lib.Math.max.name, Cond.code Lib.Math.max.name Lib.Math.max.code 2 (some .int), Cond.fieldLink RX1 34 "PianoCovers$Street" "rainedOn" "[I", Cond.methodLink RX1 113 yX1_letPianosDry, Cond.instanceMethod yX1_letPianosDry, Cond.selects RX1 yX1_letPianosDry yX1_letPianosDry, Cond.code yX1_letPianosDry cX1_letPianosDry 2 none, Cond.methodLink RX1 116 yX1_letPianosBePlayed, Cond.instanceMethod yX1_letPianosBePlayed, Cond.selects RX1 yX1_letPianosBePlayed yX1_letPianosBePlayed, Cond.code yX1_letPianosBePlayed cX1_letPianosBePlayed 4 none, Cond.fieldLink RX1 31 "PianoCovers$Street" "earned" "[I", Cond.methodLink RX1 119 yX1_letThievesCome, Cond.instanceMethod yX1_letThievesCome]
def wsX2_coinsWithOneMoreAt_r5 : List Cond := [Cond.selects RX1 yX1_letThievesCome yX1_letThievesCome, Cond.code yX1_letThievesCome cX1_letThievesCome 6 none, Cond.fieldLink RX1 64 "PianoCovers$Street" "stolen" "I", Cond.methodLink RX1 158 yX1_keepersAt, Cond.instanceMethod yX1_keepersAt, Cond.selects RX1 yX1_keepersAt yX1_keepersAt, Cond.code yX1_keepersAt cX1_keepersAt 4 (some .int)]
def wsX2_coinsWithOneMoreAt : List Cond := .code yX2_coinsWithOneMoreAt cX2_coinsWithOneMoreAt 3 (some .int) :: ((wsX2_coinsWithOneMoreAt_r1 ++ (wsX2_coinsWithOneMoreAt_r2 ++ (wsX2_coinsWithOneMoreAt_r3 ++ (wsX2_coinsWithOneMoreAt_r4 ++ wsX2_coinsWithOneMoreAt_r5)))) ++ wsX20 ++ wsX10)
def wsX2_bestPlace_r1 : List Cond := [Cond.methodLink RX2 157 yX2_coinsWithOneMoreAt, Cond.instanceMethod yX2_coinsWithOneMoreAt, Cond.selects RX2 yX2_coinsWithOneMoreAt yX2_coinsWithOneMoreAt, Cond.initialized RX2, Cond.code yX2_coinsWithOneMoreAt cX2_coinsWithOneMoreAt 3 (some .int), Cond.fieldLink RX2 10 "PianoCovers" "now" "LPianoCovers$Street;", Cond.fieldLink RX2 19 "PianoCovers" "trial" "LPianoCovers$Street;", Cond.methodLink RX2 44 yX2_copy, Cond.static yX2_copy, Cond.code yX2_copy cX2_copy 2 none, Cond.methodLink RX2 216 arraycopyName, Cond.native arraycopyName, Cond.static arraycopyName, Cond.initialized "java/lang/System", Cond.instanceMethod yX1_addKeeper, Cond.initialized RX1, Cond.selects RX1 yX1_addKeeper yX1_addKeeper, Cond.code yX1_addKeeper cX1_addKeeper 2 none, Cond.fieldLink RX1 37 "PianoCovers$Street" "keepers" "I", Cond.fieldLink RX1 40 "PianoCovers$Street" "keeperAt" "[I", Cond.fieldLink RX1 43 "PianoCovers$Street" "timesCovered" "[I", Cond.fieldLink RX1 46 "PianoCovers$Street" "timesOpened" "[I", Cond.fieldLink RX1 49 "PianoCovers$Street" "timesTuned" "[I", Cond.fieldLink RX1 52 "PianoCovers$Street" "placesWent" "[I"]
def wsX2_bestPlace_r2 : List Cond := [Cond.instanceMethod yX1_passHours, Cond.selects RX1 yX1_passHours yX1_passHours, Cond.code yX1_passHours cX1_passHours 4 (some .int), Cond.fieldLink RX1 61 "PianoCovers$Street" "coins" "I", Cond.fieldLink RX1 58 "PianoCovers$Street" "hours" "I", Cond.methodLink RX1 107 yX1_letKeepersAct, Cond.instanceMethod yX1_letKeepersAct, Cond.selects RX1 yX1_letKeepersAct yX1_letKeepersAct, Cond.code yX1_letKeepersAct cX1_letKeepersAct 6 none, Cond.fieldLink RX1 19 "PianoCovers$Street" "lying" "I", Cond.fieldLink RX1 22 "PianoCovers$Street" "covered" "I", Cond.methodLink RX1 122 yX1_rainIsAhead, Cond.instanceMethod yX1_rainIsAhead, Cond.selects RX1 yX1_rainIsAhead yX1_rainIsAhead, Cond.code yX1_rainIsAhead cX1_rainIsAhead 2 (some .boolean), Cond.fieldLink RX1 9 "PianoCovers$Street" "settings" "[I", Cond.methodLink RX1 104 yX1_rainsAfter, Cond.instanceMethod yX1_rainsAfter, Cond.selects RX1 yX1_rainsAfter yX1_rainsAfter, Cond.code yX1_rainsAfter cX1_rainsAfter 2 (some .boolean), Cond.fieldLink RX1 55 "PianoCovers$Street" "rainHours" "I", Cond.methodLink RX1 126 yX1_nearest, Cond.static yX1_nearest, Cond.code yX1_nearest cX1_nearest 3 (some .int)]
def wsX2_bestPlace_r3 : List Cond := [Cond.static yX2_has, Cond.code yX2_has cX2_has 2 (some .boolean), Cond.methodLink RX1 130 yX1_outOfTune, Cond.instanceMethod yX1_outOfTune, Cond.selects RX1 yX1_outOfTune yX1_outOfTune, Cond.code yX1_outOfTune cX1_outOfTune 3 (some .int), Cond.fieldLink RX1 25 "PianoCovers$Street" "pitch" "[I", Cond.methodLink RX1 147 yX1_openOnes, Cond.instanceMethod yX1_openOnes, Cond.selects RX1 yX1_openOnes yX1_openOnes, Cond.code yX1_openOnes cX1_openOnes 1 (some .int), Cond.fieldLink RX1 15 "PianoCovers$Street" "pianos" "I", Cond.methodLink RX1 134 yX1_goTowards, Cond.instanceMethod yX1_goTowards, Cond.selects RX1 yX1_goTowards yX1_goTowards, Cond.code yX1_goTowards cX1_goTowards 3 none, Cond.methodLink RX1 138 yX1_tune, Cond.instanceMethod yX1_tune, Cond.selects RX1 yX1_tune yX1_tune, Cond.code yX1_tune cX1_tune 3 none, Cond.methodLink RX1 150 Lib.Math.min.name, Cond.static Lib.Math.min.name, Cond.initialized "java/lang/Math", Cond.code Lib.Math.min.name Lib.Math.min.code 2 (some .int)]
def wsX2_bestPlace_r4 : List Cond := [Cond.methodLink RX1 141 yX1_putCoverOn, Cond.instanceMethod yX1_putCoverOn, Cond.selects RX1 yX1_putCoverOn yX1_putCoverOn, Cond.code yX1_putCoverOn cX1_putCoverOn 3 none, Cond.methodLink RX1 144 yX1_takeCoverOff, Cond.instanceMethod yX1_takeCoverOff, Cond.selects RX1 yX1_takeCoverOff yX1_takeCoverOff, Cond.code yX1_takeCoverOff cX1_takeCoverOff 3 none, Cond.methodLink RX1 110 yX1_letRainFall, Cond.instanceMethod yX1_letRainFall, Cond.selects RX1 yX1_letRainFall yX1_letRainFall, Cond.code yX1_letRainFall cX1_letRainFall 2 none, Cond.fieldLink RX1 28 "PianoCovers$Street" "damp" "[I", Cond.methodLink RX1 155 Lib.Math.max.name, Cond.static Lib.Math.max.name, Cond.code Lib.Math.max.name Lib.Math.max.code 2 (some .int), Cond.fieldLink RX1 34 "PianoCovers$Street" "rainedOn" "[I", Cond.methodLink RX1 113 yX1_letPianosDry, Cond.instanceMethod yX1_letPianosDry, Cond.selects RX1 yX1_letPianosDry yX1_letPianosDry, Cond.code yX1_letPianosDry cX1_letPianosDry 2 none, Cond.methodLink RX1 116 yX1_letPianosBePlayed, Cond.instanceMethod yX1_letPianosBePlayed, Cond.selects RX1 yX1_letPianosBePlayed yX1_letPianosBePlayed]
def wsX2_bestPlace_r5 : List Cond := [Cond.code yX1_letPianosBePlayed cX1_letPianosBePlayed 4 none, Cond.fieldLink RX1 31 "PianoCovers$Street" "earned" "[I", Cond.methodLink RX1 119 yX1_letThievesCome, Cond.instanceMethod yX1_letThievesCome, Cond.selects RX1 yX1_letThievesCome yX1_letThievesCome, Cond.code yX1_letThievesCome cX1_letThievesCome 6 none, Cond.fieldLink RX1 64 "PianoCovers$Street" "stolen" "I", Cond.methodLink RX1 158 yX1_keepersAt, Cond.instanceMethod yX1_keepersAt, Cond.selects RX1 yX1_keepersAt yX1_keepersAt, Cond.code yX1_keepersAt cX1_keepersAt 4 (some .int)]
def wsX2_bestPlace : List Cond := .code yX2_bestPlace cX2_bestPlace 7 (some .int) :: ((wsX2_bestPlace_r1 ++ (wsX2_bestPlace_r2 ++ (wsX2_bestPlace_r3 ++ (wsX2_bestPlace_r4 ++ wsX2_bestPlace_r5)))) ++ wsX20 ++ wsX10)
def wsX2_charactersIn : List Cond := .code yX2_charactersIn cX2_charactersIn 7 (some .int) :: ([.constantLong RX2 168 (255), .constantLong RX2 174 (33), .constantLong RX2 176 (126)])
def wsX2_put : List Cond := .code yX2_put cX2_put 5 (some .int) :: ([.fieldLink RX2 40 "PianoCovers" "pad" "LPianoCovers$Pad;", .constantLong RX2 168 (255), .methodLink RX2 164 yX2_charactersIn, .static yX2_charactersIn, .initialized RX2, .code yX2_charactersIn cX2_charactersIn 7 (some .int), .constantLong RX2 174 (33), .constantLong RX2 176 (126), .instanceMethod yX0_append, .initialized RX0, .selects RX0 yX0_append yX0_append, .code yX0_append cX0_append 2 none, .fieldLink RX0 15 "PianoCovers$Pad" "length" "I", .fieldLink RX0 9 "PianoCovers$Pad" "text" "[C"] ++ wsX20 ++ wsX00)
def wsX2_wipe : List Cond := .code yX2_wipe cX2_wipe 2 (some .int) :: ([.fieldLink RX2 40 "PianoCovers" "pad" "LPianoCovers$Pad;", .instanceMethod yX0_clear, .initialized RX0, .selects RX0 yX0_clear yX0_clear, .code yX0_clear cX0_clear 1 none, .fieldLink RX0 15 "PianoCovers$Pad" "length" "I"] ++ wsX20 ++ wsX00)
def wsX2_fault_r1 : List Cond := [Cond.fieldLink RX2 40 "PianoCovers" "pad" "LPianoCovers$Pad;", Cond.instanceMethod yX0_findFault, Cond.initialized RX0, Cond.selects RX0 yX0_findFault yX0_findFault, Cond.code yX0_findFault cX0_findFault 2 (some .int), Cond.fieldLink RX0 35 "PianoCovers$Pad" "more" "Z", Cond.fieldLink RX0 19 "PianoCovers$Pad" "at" "I", Cond.methodLink RX0 39 yX0_rewind, Cond.instanceMethod yX0_rewind, Cond.selects RX0 yX0_rewind yX0_rewind, Cond.code yX0_rewind cX0_rewind 1 none, Cond.methodLink RX0 42 yX0_readOrder, Cond.instanceMethod yX0_readOrder, Cond.selects RX0 yX0_readOrder yX0_readOrder, Cond.code yX0_readOrder cX0_readOrder 1 (some .boolean), Cond.fieldLink RX0 26 "PianoCovers$Pad" "number" "I", Cond.fieldLink RX0 29 "PianoCovers$Pad" "cover" "I", Cond.fieldLink RX0 32 "PianoCovers$Pad" "hours" "I", Cond.fieldLink RX0 22 "PianoCovers$Pad" "kind" "C", Cond.fieldLink RX0 15 "PianoCovers$Pad" "length" "I", Cond.methodLink RX0 46 yX0_next, Cond.instanceMethod yX0_next, Cond.selects RX0 yX0_next yX0_next, Cond.code yX0_next cX0_next 1 (some .char)]
def wsX2_fault_r2 : List Cond := [Cond.fieldLink RX0 9 "PianoCovers$Pad" "text" "[C", Cond.methodLink RX0 50 yX0_readBody, Cond.instanceMethod yX0_readBody, Cond.selects RX0 yX0_readBody yX0_readBody, Cond.code yX0_readBody cX0_readBody 1 (some .boolean), Cond.methodLink RX0 57 yX0_readNumber, Cond.instanceMethod yX0_readNumber, Cond.selects RX0 yX0_readNumber yX0_readNumber, Cond.code yX0_readNumber cX0_readNumber 3 (some .boolean), Cond.methodLink RX0 64 yX0_isDigit, Cond.static yX0_isDigit, Cond.code yX0_isDigit cX0_isDigit 1 (some .boolean), Cond.methodLink RX0 53 yX0_skip, Cond.instanceMethod yX0_skip, Cond.selects RX0 yX0_skip yX0_skip, Cond.code yX0_skip cX0_skip 2 (some .boolean), Cond.methodLink RX0 61 yX0_readHours, Cond.instanceMethod yX0_readHours, Cond.selects RX0 yX0_readHours yX0_readHours, Cond.code yX0_readHours cX0_readHours 2 (some .boolean)]
def wsX2_fault : List Cond := .code yX2_fault cX2_fault 1 (some .int) :: ((wsX2_fault_r1 ++ wsX2_fault_r2) ++ wsX20 ++ wsX00)
def wsX2_answerToOrder_r1 : List Cond := [Cond.fieldLink RX2 40 "PianoCovers" "pad" "LPianoCovers$Pad;", Cond.fieldLink RX2 10 "PianoCovers" "now" "LPianoCovers$Street;", Cond.instanceMethod yX1_addPiano, Cond.initialized RX1, Cond.selects RX1 yX1_addPiano yX1_addPiano, Cond.code yX1_addPiano cX1_addPiano 3 (some .int), Cond.fieldLink RX1 15 "PianoCovers$Street" "pianos" "I", Cond.fieldLink RX1 19 "PianoCovers$Street" "lying" "I", Cond.fieldLink RX1 25 "PianoCovers$Street" "pitch" "[I", Cond.fieldLink RX1 28 "PianoCovers$Street" "damp" "[I", Cond.fieldLink RX1 31 "PianoCovers$Street" "earned" "[I", Cond.fieldLink RX1 34 "PianoCovers$Street" "rainedOn" "[I", Cond.static yX2_isPlace, Cond.initialized RX2, Cond.code yX2_isPlace cX2_isPlace 1 (some .boolean), Cond.static yX2_has, Cond.code yX2_has cX2_has 2 (some .boolean), Cond.methodLink RX1 91 yJ6_bitCount_0f7a4, Cond.static yJ6_bitCount_0f7a4, Cond.initialized RJ6, Cond.code yJ6_bitCount_0f7a4 cJ6_bitCount_0f7a4 1 (some .int), Cond.constant RJ6 265 (1431655765), Cond.constant RJ6 266 (858993459), Cond.constant RJ6 267 (252645135)]
def wsX2_answerToOrder_r2 : List Cond := [Cond.instanceMethod yX1_hireKeeper, Cond.selects RX1 yX1_hireKeeper yX1_hireKeeper, Cond.code yX1_hireKeeper cX1_hireKeeper 2 (some .int), Cond.fieldLink RX1 37 "PianoCovers$Street" "keepers" "I", Cond.methodLink RX1 97 yX1_addKeeper, Cond.instanceMethod yX1_addKeeper, Cond.selects RX1 yX1_addKeeper yX1_addKeeper, Cond.code yX1_addKeeper cX1_addKeeper 2 none, Cond.fieldLink RX1 40 "PianoCovers$Street" "keeperAt" "[I", Cond.fieldLink RX1 43 "PianoCovers$Street" "timesCovered" "[I", Cond.fieldLink RX1 46 "PianoCovers$Street" "timesOpened" "[I", Cond.fieldLink RX1 49 "PianoCovers$Street" "timesTuned" "[I", Cond.fieldLink RX1 52 "PianoCovers$Street" "placesWent" "[I", Cond.instanceMethod yX1_layCover, Cond.selects RX1 yX1_layCover yX1_layCover, Cond.code yX1_layCover cX1_layCover 2 (some .int), Cond.fieldLink RX1 22 "PianoCovers$Street" "covered" "I", Cond.instanceMethod yX1_changeRain, Cond.selects RX1 yX1_changeRain yX1_changeRain, Cond.code yX1_changeRain cX1_changeRain 3 (some .int), Cond.constant RX1 82 (16777215), Cond.fieldLink RX1 55 "PianoCovers$Street" "rainHours" "I", Cond.instanceMethod yX1_passCounted, Cond.selects RX1 yX1_passCounted yX1_passCounted]
def wsX2_answerToOrder_r3 : List Cond := [Cond.code yX1_passCounted cX1_passCounted 2 (some .int), Cond.fieldLink RX1 58 "PianoCovers$Street" "hours" "I", Cond.methodLink RX1 101 yX1_passHours, Cond.instanceMethod yX1_passHours, Cond.selects RX1 yX1_passHours yX1_passHours, Cond.code yX1_passHours cX1_passHours 4 (some .int), Cond.fieldLink RX1 61 "PianoCovers$Street" "coins" "I", Cond.methodLink RX1 107 yX1_letKeepersAct, Cond.instanceMethod yX1_letKeepersAct, Cond.selects RX1 yX1_letKeepersAct yX1_letKeepersAct, Cond.code yX1_letKeepersAct cX1_letKeepersAct 6 none, Cond.methodLink RX1 122 yX1_rainIsAhead, Cond.instanceMethod yX1_rainIsAhead, Cond.selects RX1 yX1_rainIsAhead yX1_rainIsAhead, Cond.code yX1_rainIsAhead cX1_rainIsAhead 2 (some .boolean), Cond.fieldLink RX1 9 "PianoCovers$Street" "settings" "[I", Cond.methodLink RX1 104 yX1_rainsAfter, Cond.instanceMethod yX1_rainsAfter, Cond.selects RX1 yX1_rainsAfter yX1_rainsAfter, Cond.code yX1_rainsAfter cX1_rainsAfter 2 (some .boolean), Cond.methodLink RX1 126 yX1_nearest, Cond.static yX1_nearest, Cond.code yX1_nearest cX1_nearest 3 (some .int), Cond.methodLink RX1 130 yX1_outOfTune]
def wsX2_answerToOrder_r4 : List Cond := [Cond.instanceMethod yX1_outOfTune, Cond.selects RX1 yX1_outOfTune yX1_outOfTune, Cond.code yX1_outOfTune cX1_outOfTune 3 (some .int), Cond.methodLink RX1 147 yX1_openOnes, Cond.instanceMethod yX1_openOnes, Cond.selects RX1 yX1_openOnes yX1_openOnes, Cond.code yX1_openOnes cX1_openOnes 1 (some .int), Cond.methodLink RX1 134 yX1_goTowards, Cond.instanceMethod yX1_goTowards, Cond.selects RX1 yX1_goTowards yX1_goTowards, Cond.code yX1_goTowards cX1_goTowards 3 none, Cond.methodLink RX1 138 yX1_tune, Cond.instanceMethod yX1_tune, Cond.selects RX1 yX1_tune yX1_tune, Cond.code yX1_tune cX1_tune 3 none, Cond.methodLink RX1 150 Lib.Math.min.name, Cond.static Lib.Math.min.name, Cond.initialized "java/lang/Math", Cond.code Lib.Math.min.name Lib.Math.min.code 2 (some .int), Cond.methodLink RX1 141 yX1_putCoverOn, Cond.instanceMethod yX1_putCoverOn, Cond.selects RX1 yX1_putCoverOn yX1_putCoverOn, Cond.code yX1_putCoverOn cX1_putCoverOn 3 none, Cond.methodLink RX1 144 yX1_takeCoverOff]
def wsX2_answerToOrder_r5 : List Cond := [Cond.instanceMethod yX1_takeCoverOff, Cond.selects RX1 yX1_takeCoverOff yX1_takeCoverOff, Cond.code yX1_takeCoverOff cX1_takeCoverOff 3 none, Cond.methodLink RX1 110 yX1_letRainFall, Cond.instanceMethod yX1_letRainFall, Cond.selects RX1 yX1_letRainFall yX1_letRainFall, Cond.code yX1_letRainFall cX1_letRainFall 2 none, Cond.methodLink RX1 155 Lib.Math.max.name, Cond.static Lib.Math.max.name, Cond.code Lib.Math.max.name Lib.Math.max.code 2 (some .int), Cond.methodLink RX1 113 yX1_letPianosDry, Cond.instanceMethod yX1_letPianosDry, Cond.selects RX1 yX1_letPianosDry yX1_letPianosDry, Cond.code yX1_letPianosDry cX1_letPianosDry 2 none, Cond.methodLink RX1 116 yX1_letPianosBePlayed, Cond.instanceMethod yX1_letPianosBePlayed, Cond.selects RX1 yX1_letPianosBePlayed yX1_letPianosBePlayed, Cond.code yX1_letPianosBePlayed cX1_letPianosBePlayed 4 none, Cond.methodLink RX1 119 yX1_letThievesCome, Cond.instanceMethod yX1_letThievesCome, Cond.selects RX1 yX1_letThievesCome yX1_letThievesCome, Cond.code yX1_letThievesCome cX1_letThievesCome 6 none, Cond.fieldLink RX1 64 "PianoCovers$Street" "stolen" "I", Cond.methodLink RX1 158 yX1_keepersAt]
def wsX2_answerToOrder_r6 : List Cond := [Cond.instanceMethod yX1_keepersAt, Cond.selects RX1 yX1_keepersAt yX1_keepersAt, Cond.code yX1_keepersAt cX1_keepersAt 4 (some .int)]
def wsX2_answerToOrder : List Cond := .code yX2_answerToOrder cX2_answerToOrder 1 (some .int) :: ((wsX2_answerToOrder_r1 ++ (wsX2_answerToOrder_r2 ++ (wsX2_answerToOrder_r3 ++ (wsX2_answerToOrder_r4 ++ (wsX2_answerToOrder_r5 ++ wsX2_answerToOrder_r6))))) ++ wsX20 ++ wsX00 ++ wsX10)
def wsX2_carryOut_r1 : List Cond := [Cond.fieldLink RX2 40 "PianoCovers" "pad" "LPianoCovers$Pad;", Cond.fieldLink RX2 10 "PianoCovers" "now" "LPianoCovers$Street;", Cond.fieldLink RX2 16 "PianoCovers" "before" "LPianoCovers$Street;", Cond.instanceMethod yX0_findFault, Cond.initialized RX0, Cond.selects RX0 yX0_findFault yX0_findFault, Cond.code yX0_findFault cX0_findFault 2 (some .int), Cond.fieldLink RX0 35 "PianoCovers$Pad" "more" "Z", Cond.fieldLink RX0 19 "PianoCovers$Pad" "at" "I", Cond.methodLink RX0 39 yX0_rewind, Cond.instanceMethod yX0_rewind, Cond.selects RX0 yX0_rewind yX0_rewind, Cond.code yX0_rewind cX0_rewind 1 none, Cond.methodLink RX0 42 yX0_readOrder, Cond.instanceMethod yX0_readOrder, Cond.selects RX0 yX0_readOrder yX0_readOrder, Cond.code yX0_readOrder cX0_readOrder 1 (some .boolean), Cond.fieldLink RX0 26 "PianoCovers$Pad" "number" "I", Cond.fieldLink RX0 29 "PianoCovers$Pad" "cover" "I", Cond.fieldLink RX0 32 "PianoCovers$Pad" "hours" "I", Cond.fieldLink RX0 22 "PianoCovers$Pad" "kind" "C", Cond.fieldLink RX0 15 "PianoCovers$Pad" "length" "I", Cond.methodLink RX0 46 yX0_next, Cond.instanceMethod yX0_next]
def wsX2_carryOut_r2 : List Cond := [Cond.selects RX0 yX0_next yX0_next, Cond.code yX0_next cX0_next 1 (some .char), Cond.fieldLink RX0 9 "PianoCovers$Pad" "text" "[C", Cond.methodLink RX0 50 yX0_readBody, Cond.instanceMethod yX0_readBody, Cond.selects RX0 yX0_readBody yX0_readBody, Cond.code yX0_readBody cX0_readBody 1 (some .boolean), Cond.methodLink RX0 57 yX0_readNumber, Cond.instanceMethod yX0_readNumber, Cond.selects RX0 yX0_readNumber yX0_readNumber, Cond.code yX0_readNumber cX0_readNumber 3 (some .boolean), Cond.methodLink RX0 64 yX0_isDigit, Cond.static yX0_isDigit, Cond.code yX0_isDigit cX0_isDigit 1 (some .boolean), Cond.methodLink RX0 53 yX0_skip, Cond.instanceMethod yX0_skip, Cond.selects RX0 yX0_skip yX0_skip, Cond.code yX0_skip cX0_skip 2 (some .boolean), Cond.methodLink RX0 61 yX0_readHours, Cond.instanceMethod yX0_readHours, Cond.selects RX0 yX0_readHours yX0_readHours, Cond.code yX0_readHours cX0_readHours 2 (some .boolean), Cond.methodLink RX2 44 yX2_copy, Cond.static yX2_copy]
def wsX2_carryOut_r3 : List Cond := [Cond.initialized RX2, Cond.code yX2_copy cX2_copy 2 none, Cond.methodLink RX2 216 arraycopyName, Cond.native arraycopyName, Cond.static arraycopyName, Cond.initialized "java/lang/System", Cond.methodLink RX2 194 yX2_answerToOrder, Cond.instanceMethod yX2_answerToOrder, Cond.selects RX2 yX2_answerToOrder yX2_answerToOrder, Cond.code yX2_answerToOrder cX2_answerToOrder 1 (some .int), Cond.instanceMethod yX1_addPiano, Cond.initialized RX1, Cond.selects RX1 yX1_addPiano yX1_addPiano, Cond.code yX1_addPiano cX1_addPiano 3 (some .int), Cond.fieldLink RX1 15 "PianoCovers$Street" "pianos" "I", Cond.fieldLink RX1 19 "PianoCovers$Street" "lying" "I", Cond.fieldLink RX1 25 "PianoCovers$Street" "pitch" "[I", Cond.fieldLink RX1 28 "PianoCovers$Street" "damp" "[I", Cond.fieldLink RX1 31 "PianoCovers$Street" "earned" "[I", Cond.fieldLink RX1 34 "PianoCovers$Street" "rainedOn" "[I", Cond.static yX2_isPlace, Cond.code yX2_isPlace cX2_isPlace 1 (some .boolean), Cond.static yX2_has, Cond.code yX2_has cX2_has 2 (some .boolean)]
def wsX2_carryOut_r4 : List Cond := [Cond.methodLink RX1 91 yJ6_bitCount_0f7a4, Cond.static yJ6_bitCount_0f7a4, Cond.initialized RJ6, Cond.code yJ6_bitCount_0f7a4 cJ6_bitCount_0f7a4 1 (some .int), Cond.constant RJ6 265 (1431655765), Cond.constant RJ6 266 (858993459), Cond.constant RJ6 267 (252645135), Cond.instanceMethod yX1_hireKeeper, Cond.selects RX1 yX1_hireKeeper yX1_hireKeeper, Cond.code yX1_hireKeeper cX1_hireKeeper 2 (some .int), Cond.fieldLink RX1 37 "PianoCovers$Street" "keepers" "I", Cond.methodLink RX1 97 yX1_addKeeper, Cond.instanceMethod yX1_addKeeper, Cond.selects RX1 yX1_addKeeper yX1_addKeeper, Cond.code yX1_addKeeper cX1_addKeeper 2 none, Cond.fieldLink RX1 40 "PianoCovers$Street" "keeperAt" "[I", Cond.fieldLink RX1 43 "PianoCovers$Street" "timesCovered" "[I", Cond.fieldLink RX1 46 "PianoCovers$Street" "timesOpened" "[I", Cond.fieldLink RX1 49 "PianoCovers$Street" "timesTuned" "[I", Cond.fieldLink RX1 52 "PianoCovers$Street" "placesWent" "[I", Cond.instanceMethod yX1_layCover, Cond.selects RX1 yX1_layCover yX1_layCover, Cond.code yX1_layCover cX1_layCover 2 (some .int), Cond.fieldLink RX1 22 "PianoCovers$Street" "covered" "I"]
def wsX2_carryOut_r5 : List Cond := [Cond.instanceMethod yX1_changeRain, Cond.selects RX1 yX1_changeRain yX1_changeRain, Cond.code yX1_changeRain cX1_changeRain 3 (some .int), Cond.constant RX1 82 (16777215), Cond.fieldLink RX1 55 "PianoCovers$Street" "rainHours" "I", Cond.instanceMethod yX1_passCounted, Cond.selects RX1 yX1_passCounted yX1_passCounted, Cond.code yX1_passCounted cX1_passCounted 2 (some .int), Cond.fieldLink RX1 58 "PianoCovers$Street" "hours" "I", Cond.methodLink RX1 101 yX1_passHours, Cond.instanceMethod yX1_passHours, Cond.selects RX1 yX1_passHours yX1_passHours, Cond.code yX1_passHours cX1_passHours 4 (some .int), Cond.fieldLink RX1 61 "PianoCovers$Street" "coins" "I", Cond.methodLink RX1 107 yX1_letKeepersAct, Cond.instanceMethod yX1_letKeepersAct, Cond.selects RX1 yX1_letKeepersAct yX1_letKeepersAct, Cond.code yX1_letKeepersAct cX1_letKeepersAct 6 none, Cond.methodLink RX1 122 yX1_rainIsAhead, Cond.instanceMethod yX1_rainIsAhead, Cond.selects RX1 yX1_rainIsAhead yX1_rainIsAhead, Cond.code yX1_rainIsAhead cX1_rainIsAhead 2 (some .boolean), Cond.fieldLink RX1 9 "PianoCovers$Street" "settings" "[I", Cond.methodLink RX1 104 yX1_rainsAfter]
def wsX2_carryOut_r6 : List Cond := [Cond.instanceMethod yX1_rainsAfter, Cond.selects RX1 yX1_rainsAfter yX1_rainsAfter, Cond.code yX1_rainsAfter cX1_rainsAfter 2 (some .boolean), Cond.methodLink RX1 126 yX1_nearest, Cond.static yX1_nearest, Cond.code yX1_nearest cX1_nearest 3 (some .int), Cond.methodLink RX1 130 yX1_outOfTune, Cond.instanceMethod yX1_outOfTune, Cond.selects RX1 yX1_outOfTune yX1_outOfTune, Cond.code yX1_outOfTune cX1_outOfTune 3 (some .int), Cond.methodLink RX1 147 yX1_openOnes, Cond.instanceMethod yX1_openOnes, Cond.selects RX1 yX1_openOnes yX1_openOnes, Cond.code yX1_openOnes cX1_openOnes 1 (some .int), Cond.methodLink RX1 134 yX1_goTowards, Cond.instanceMethod yX1_goTowards, Cond.selects RX1 yX1_goTowards yX1_goTowards, Cond.code yX1_goTowards cX1_goTowards 3 none, Cond.methodLink RX1 138 yX1_tune, Cond.instanceMethod yX1_tune, Cond.selects RX1 yX1_tune yX1_tune, Cond.code yX1_tune cX1_tune 3 none, Cond.methodLink RX1 150 Lib.Math.min.name, Cond.static Lib.Math.min.name]
def wsX2_carryOut_r7 : List Cond := [Cond.initialized "java/lang/Math", Cond.code Lib.Math.min.name Lib.Math.min.code 2 (some .int), Cond.methodLink RX1 141 yX1_putCoverOn, Cond.instanceMethod yX1_putCoverOn, Cond.selects RX1 yX1_putCoverOn yX1_putCoverOn, Cond.code yX1_putCoverOn cX1_putCoverOn 3 none, Cond.methodLink RX1 144 yX1_takeCoverOff, Cond.instanceMethod yX1_takeCoverOff, Cond.selects RX1 yX1_takeCoverOff yX1_takeCoverOff, Cond.code yX1_takeCoverOff cX1_takeCoverOff 3 none, Cond.methodLink RX1 110 yX1_letRainFall, Cond.instanceMethod yX1_letRainFall, Cond.selects RX1 yX1_letRainFall yX1_letRainFall, Cond.code yX1_letRainFall cX1_letRainFall 2 none, Cond.methodLink RX1 155 Lib.Math.max.name, Cond.static Lib.Math.max.name, Cond.code Lib.Math.max.name Lib.Math.max.code 2 (some .int), Cond.methodLink RX1 113 yX1_letPianosDry, Cond.instanceMethod yX1_letPianosDry, Cond.selects RX1 yX1_letPianosDry yX1_letPianosDry, Cond.code yX1_letPianosDry cX1_letPianosDry 2 none, Cond.methodLink RX1 116 yX1_letPianosBePlayed, Cond.instanceMethod yX1_letPianosBePlayed, Cond.selects RX1 yX1_letPianosBePlayed yX1_letPianosBePlayed]
def wsX2_carryOut_r8 : List Cond := [Cond.code yX1_letPianosBePlayed cX1_letPianosBePlayed 4 none, Cond.methodLink RX1 119 yX1_letThievesCome, Cond.instanceMethod yX1_letThievesCome, Cond.selects RX1 yX1_letThievesCome yX1_letThievesCome, Cond.code yX1_letThievesCome cX1_letThievesCome 6 none, Cond.fieldLink RX1 64 "PianoCovers$Street" "stolen" "I", Cond.methodLink RX1 158 yX1_keepersAt, Cond.instanceMethod yX1_keepersAt, Cond.selects RX1 yX1_keepersAt yX1_keepersAt, Cond.code yX1_keepersAt cX1_keepersAt 4 (some .int), Cond.instanceMethod yX0_clear, Cond.selects RX0 yX0_clear yX0_clear, Cond.code yX0_clear cX0_clear 1 none, Cond.methodLink RX2 52 yX2_recorded, Cond.instanceMethod yX2_recorded, Cond.selects RX2 yX2_recorded yX2_recorded, Cond.code yX2_recorded cX2_recorded 2 (some .int), Cond.fieldLink RX2 26 "PianoCovers" "undoable" "I", Cond.fieldLink RX2 22 "PianoCovers" "history" "[LPianoCovers$Street;", Cond.methodLink RX2 213 yX2_dropOldest, Cond.instanceMethod yX2_dropOldest, Cond.selects RX2 yX2_dropOldest yX2_dropOldest, Cond.code yX2_dropOldest cX2_dropOldest 3 none]
def wsX2_carryOut : List Cond := .code yX2_carryOut cX2_carryOut 2 (some .int) :: ((wsX2_carryOut_r1 ++ (wsX2_carryOut_r2 ++ (wsX2_carryOut_r3 ++ (wsX2_carryOut_r4 ++ (wsX2_carryOut_r5 ++ (wsX2_carryOut_r6 ++ (wsX2_carryOut_r7 ++ wsX2_carryOut_r8))))))) ++ wsX20 ++ wsX00 ++ wsX10)
def wsX2_undo : List Cond := .code yX2_undo cX2_undo 1 (some .int) :: ([.fieldLink RX2 26 "PianoCovers" "undoable" "I", .fieldLink RX2 22 "PianoCovers" "history" "[LPianoCovers$Street;", .fieldLink RX2 10 "PianoCovers" "now" "LPianoCovers$Street;", .methodLink RX2 44 yX2_copy, .static yX2_copy, .initialized RX2, .code yX2_copy cX2_copy 2 none, .methodLink RX2 216 arraycopyName, .native arraycopyName, .static arraycopyName, .initialized "java/lang/System"] ++ wsX20 ++ wsX10)
def wsX2_save : List Cond := .code yX2_save cX2_save 2 (some .int) :: ([.fieldLink RX2 10 "PianoCovers" "now" "LPianoCovers$Street;", .fieldLink RX2 30 "PianoCovers" "slots" "[LPianoCovers$Street;", .fieldLink RX2 33 "PianoCovers" "saved" "[Z", .methodLink RX2 44 yX2_copy, .static yX2_copy, .initialized RX2, .code yX2_copy cX2_copy 2 none, .methodLink RX2 216 arraycopyName, .native arraycopyName, .static arraycopyName, .initialized "java/lang/System", .methodLink RX2 208 yJ6_bitCount_0f7a4, .static yJ6_bitCount_0f7a4, .initialized RJ6, .code yJ6_bitCount_0f7a4 cJ6_bitCount_0f7a4 1 (some .int), .constant RJ6 265 (1431655765), .constant RJ6 266 (858993459), .constant RJ6 267 (252645135)] ++ wsX20 ++ wsX10)
def wsX2_restore_r1 : List Cond := [Cond.fieldLink RX2 33 "PianoCovers" "saved" "[Z", Cond.fieldLink RX2 10 "PianoCovers" "now" "LPianoCovers$Street;", Cond.fieldLink RX2 16 "PianoCovers" "before" "LPianoCovers$Street;", Cond.fieldLink RX2 30 "PianoCovers" "slots" "[LPianoCovers$Street;", Cond.methodLink RX2 44 yX2_copy, Cond.static yX2_copy, Cond.initialized RX2, Cond.code yX2_copy cX2_copy 2 none, Cond.methodLink RX2 216 arraycopyName, Cond.native arraycopyName, Cond.static arraycopyName, Cond.initialized "java/lang/System", Cond.methodLink RX2 208 yJ6_bitCount_0f7a4, Cond.static yJ6_bitCount_0f7a4, Cond.initialized RJ6, Cond.code yJ6_bitCount_0f7a4 cJ6_bitCount_0f7a4 1 (some .int), Cond.constant RJ6 265 (1431655765), Cond.constant RJ6 266 (858993459), Cond.constant RJ6 267 (252645135), Cond.methodLink RX2 52 yX2_recorded, Cond.instanceMethod yX2_recorded, Cond.selects RX2 yX2_recorded yX2_recorded, Cond.code yX2_recorded cX2_recorded 2 (some .int), Cond.fieldLink RX2 26 "PianoCovers" "undoable" "I"]
def wsX2_restore_r2 : List Cond := [Cond.fieldLink RX2 22 "PianoCovers" "history" "[LPianoCovers$Street;", Cond.methodLink RX2 213 yX2_dropOldest, Cond.instanceMethod yX2_dropOldest, Cond.selects RX2 yX2_dropOldest yX2_dropOldest, Cond.code yX2_dropOldest cX2_dropOldest 3 none]
def wsX2_restore : List Cond := .code yX2_restore cX2_restore 2 (some .int) :: ((wsX2_restore_r1 ++ wsX2_restore_r2) ++ wsX20 ++ wsX10)
def wsX3_init : List Cond := .code yX3_init cX3_init 1 none :: ([.methodLink RX3 1 objectInit, .instanceMethod objectInit, .code objectInit ⟨#[0xb1]⟩ 1 none, .arrayClass .int, .fieldLink RX3 7 "PianoCoversModel" "state" "[I", .fieldLink RX3 13 "PianoCoversModel" "kept" "[I", .fieldLink RX3 16 "PianoCoversModel" "history" "[I", .fieldLink RX3 19 "PianoCoversModel" "slots" "[I", .fieldLink RX3 22 "PianoCoversModel" "isSaved" "[I", .fieldLink RX3 25 "PianoCoversModel" "pad" "[I"] ++ wsX30)
def wsX3_moves : List Cond := .code yX3_moves cX3_moves 5 none :: ([])
def wsX3_within : List Cond := .code yX3_within cX3_within 3 (some .boolean) :: ([])
def wsX3_size : List Cond := .code yX3_size cX3_size 1 (some .int) :: ([])
def wsX3_held : List Cond := .code yX3_held cX3_held 1 (some .int) :: ([])
def wsX3_record : List Cond := .code yX3_record cX3_record 2 none :: ([.fieldLink RX3 28 "PianoCoversModel" "recorded" "I", .fieldLink RX3 16 "PianoCoversModel" "history" "[I", .fieldLink RX3 7 "PianoCoversModel" "state" "[I", .methodLink RX3 32 yX3_moves, .static yX3_moves, .initialized RX3, .code yX3_moves cX3_moves 5 none] ++ wsX30)
def wsX3_pianoPart : List Cond := .code yX3_pianoPart cX3_pianoPart 3 (some .int) :: ([.fieldLink RX3 7 "PianoCoversModel" "state" "[I"] ++ wsX30)
def wsX3_setPiano : List Cond := .code yX3_setPiano cX3_setPiano 4 none :: ([.fieldLink RX3 7 "PianoCoversModel" "state" "[I"] ++ wsX30)
def wsX3_keeperPart : List Cond := .code yX3_keeperPart cX3_keeperPart 3 (some .int) :: ([.fieldLink RX3 7 "PianoCoversModel" "state" "[I"] ++ wsX30)
def wsX3_adds : List Cond := .code yX3_adds cX3_adds 4 none :: ([.fieldLink RX3 7 "PianoCoversModel" "state" "[I"] ++ wsX30)
def wsX3_isPlace : List Cond := .code yX3_isPlace cX3_isPlace 1 (some .boolean) :: ([.methodLink RX3 36 yX3_within, .static yX3_within, .initialized RX3, .code yX3_within cX3_within 3 (some .boolean)])
def wsX3_isPiano : List Cond := .code yX3_isPiano cX3_isPiano 2 (some .boolean) :: ([.methodLink RX3 40 yX3_isPlace, .static yX3_isPlace, .initialized RX3, .code yX3_isPlace cX3_isPlace 1 (some .boolean), .methodLink RX3 36 yX3_within, .static yX3_within, .code yX3_within cX3_within 3 (some .boolean), .methodLink RX3 44 yX3_pianoPart, .instanceMethod yX3_pianoPart, .selects RX3 yX3_pianoPart yX3_pianoPart, .code yX3_pianoPart cX3_pianoPart 3 (some .int), .fieldLink RX3 7 "PianoCoversModel" "state" "[I"] ++ wsX30)
def wsX3_isOpen : List Cond := .code yX3_isOpen cX3_isOpen 2 (some .boolean) :: ([.methodLink RX3 48 yX3_isPiano, .instanceMethod yX3_isPiano, .selects RX3 yX3_isPiano yX3_isPiano, .initialized RX3, .code yX3_isPiano cX3_isPiano 2 (some .boolean), .methodLink RX3 40 yX3_isPlace, .static yX3_isPlace, .code yX3_isPlace cX3_isPlace 1 (some .boolean), .methodLink RX3 36 yX3_within, .static yX3_within, .code yX3_within cX3_within 3 (some .boolean), .methodLink RX3 44 yX3_pianoPart, .instanceMethod yX3_pianoPart, .selects RX3 yX3_pianoPart yX3_pianoPart, .code yX3_pianoPart cX3_pianoPart 3 (some .int), .fieldLink RX3 7 "PianoCoversModel" "state" "[I"] ++ wsX30)
def wsX3_rainsIn : List Cond := .code yX3_rainsIn cX3_rainsIn 2 (some .boolean) :: ([.fieldLink RX3 7 "PianoCoversModel" "state" "[I"] ++ wsX30)
def wsX3_isRainAhead : List Cond := .code yX3_isRainAhead cX3_isRainAhead 3 (some .boolean) :: ([.fieldLink RX3 7 "PianoCoversModel" "state" "[I", .methodLink RX3 51 yX3_rainsIn, .instanceMethod yX3_rainsIn, .selects RX3 yX3_rainsIn yX3_rainsIn, .initialized RX3, .code yX3_rainsIn cX3_rainsIn 2 (some .boolean)] ++ wsX30)
def wsX3_keepersAt : List Cond := .code yX3_keepersAt cX3_keepersAt 4 (some .int) :: ([.fieldLink RX3 7 "PianoCoversModel" "state" "[I", .methodLink RX3 54 yX3_keeperPart, .instanceMethod yX3_keeperPart, .selects RX3 yX3_keeperPart yX3_keeperPart, .initialized RX3, .code yX3_keeperPart cX3_keeperPart 3 (some .int)] ++ wsX30)
def wsX3_pianosThere : List Cond := .code yX3_pianosThere cX3_pianosThere 3 (some .int) :: ([.methodLink RX3 44 yX3_pianoPart, .instanceMethod yX3_pianoPart, .selects RX3 yX3_pianoPart yX3_pianoPart, .initialized RX3, .code yX3_pianoPart cX3_pianoPart 3 (some .int), .fieldLink RX3 7 "PianoCoversModel" "state" "[I"] ++ wsX30)
def wsX3_isWanted : List Cond := .code yX3_isWanted cX3_isWanted 3 (some .boolean) :: ([.fieldLink RX3 57 "PianoCoversModel" "chosen" "I", .fieldLink RX3 7 "PianoCoversModel" "state" "[I", .methodLink RX3 48 yX3_isPiano, .instanceMethod yX3_isPiano, .selects RX3 yX3_isPiano yX3_isPiano, .initialized RX3, .code yX3_isPiano cX3_isPiano 2 (some .boolean), .methodLink RX3 40 yX3_isPlace, .static yX3_isPlace, .code yX3_isPlace cX3_isPlace 1 (some .boolean), .methodLink RX3 36 yX3_within, .static yX3_within, .code yX3_within cX3_within 3 (some .boolean), .methodLink RX3 44 yX3_pianoPart, .instanceMethod yX3_pianoPart, .selects RX3 yX3_pianoPart yX3_pianoPart, .code yX3_pianoPart cX3_pianoPart 3 (some .int), .methodLink RX3 60 yX3_isOpen, .instanceMethod yX3_isOpen, .selects RX3 yX3_isOpen yX3_isOpen, .code yX3_isOpen cX3_isOpen 2 (some .boolean)] ++ wsX30)
def wsX3_nearest_r1 : List Cond := [Cond.methodLink RX3 63 yX3_isWanted, Cond.instanceMethod yX3_isWanted, Cond.selects RX3 yX3_isWanted yX3_isWanted, Cond.initialized RX3, Cond.code yX3_isWanted cX3_isWanted 3 (some .boolean), Cond.fieldLink RX3 57 "PianoCoversModel" "chosen" "I", Cond.fieldLink RX3 7 "PianoCoversModel" "state" "[I", Cond.methodLink RX3 48 yX3_isPiano, Cond.instanceMethod yX3_isPiano, Cond.selects RX3 yX3_isPiano yX3_isPiano, Cond.code yX3_isPiano cX3_isPiano 2 (some .boolean), Cond.methodLink RX3 40 yX3_isPlace, Cond.static yX3_isPlace, Cond.code yX3_isPlace cX3_isPlace 1 (some .boolean), Cond.methodLink RX3 36 yX3_within, Cond.static yX3_within, Cond.code yX3_within cX3_within 3 (some .boolean), Cond.methodLink RX3 44 yX3_pianoPart, Cond.instanceMethod yX3_pianoPart, Cond.selects RX3 yX3_pianoPart yX3_pianoPart, Cond.code yX3_pianoPart cX3_pianoPart 3 (some .int), Cond.methodLink RX3 60 yX3_isOpen, Cond.instanceMethod yX3_isOpen, Cond.selects RX3 yX3_isOpen yX3_isOpen]
def wsX3_nearest_r2 : List Cond := [Cond.code yX3_isOpen cX3_isOpen 2 (some .boolean), Cond.methodLink RX3 54 yX3_keeperPart, Cond.instanceMethod yX3_keeperPart, Cond.selects RX3 yX3_keeperPart yX3_keeperPart, Cond.code yX3_keeperPart cX3_keeperPart 3 (some .int), Cond.methodLink RX3 67 yX3_size, Cond.static yX3_size, Cond.code yX3_size cX3_size 1 (some .int)]
def wsX3_nearest : List Cond := .code yX3_nearest cX3_nearest 6 (some .int) :: ((wsX3_nearest_r1 ++ wsX3_nearest_r2) ++ wsX30)
def wsX3_does : List Cond := .code yX3_does cX3_does 4 none :: ([.methodLink RX3 54 yX3_keeperPart, .instanceMethod yX3_keeperPart, .selects RX3 yX3_keeperPart yX3_keeperPart, .initialized RX3, .code yX3_keeperPart cX3_keeperPart 3 (some .int), .fieldLink RX3 7 "PianoCoversModel" "state" "[I", .methodLink RX3 71 yX3_adds, .instanceMethod yX3_adds, .selects RX3 yX3_adds yX3_adds, .code yX3_adds cX3_adds 4 none, .methodLink RX3 75 yX3_setPiano, .instanceMethod yX3_setPiano, .selects RX3 yX3_setPiano yX3_setPiano, .code yX3_setPiano cX3_setPiano 4 none, .methodLink RX3 44 yX3_pianoPart, .instanceMethod yX3_pianoPart, .selects RX3 yX3_pianoPart yX3_pianoPart, .code yX3_pianoPart cX3_pianoPart 3 (some .int), .methodLink RX3 78 yX3_held, .static yX3_held, .code yX3_held cX3_held 1 (some .int)] ++ wsX30)
def wsX3_keeperGoes_r1 : List Cond := [Cond.fieldLink RX3 57 "PianoCoversModel" "chosen" "I", Cond.methodLink RX3 81 yX3_nearest, Cond.instanceMethod yX3_nearest, Cond.selects RX3 yX3_nearest yX3_nearest, Cond.initialized RX3, Cond.code yX3_nearest cX3_nearest 6 (some .int), Cond.methodLink RX3 63 yX3_isWanted, Cond.instanceMethod yX3_isWanted, Cond.selects RX3 yX3_isWanted yX3_isWanted, Cond.code yX3_isWanted cX3_isWanted 3 (some .boolean), Cond.fieldLink RX3 7 "PianoCoversModel" "state" "[I", Cond.methodLink RX3 48 yX3_isPiano, Cond.instanceMethod yX3_isPiano, Cond.selects RX3 yX3_isPiano yX3_isPiano, Cond.code yX3_isPiano cX3_isPiano 2 (some .boolean), Cond.methodLink RX3 40 yX3_isPlace, Cond.static yX3_isPlace, Cond.code yX3_isPlace cX3_isPlace 1 (some .boolean), Cond.methodLink RX3 36 yX3_within, Cond.static yX3_within, Cond.code yX3_within cX3_within 3 (some .boolean), Cond.methodLink RX3 44 yX3_pianoPart, Cond.instanceMethod yX3_pianoPart, Cond.selects RX3 yX3_pianoPart yX3_pianoPart]
def wsX3_keeperGoes_r2 : List Cond := [Cond.code yX3_pianoPart cX3_pianoPart 3 (some .int), Cond.methodLink RX3 60 yX3_isOpen, Cond.instanceMethod yX3_isOpen, Cond.selects RX3 yX3_isOpen yX3_isOpen, Cond.code yX3_isOpen cX3_isOpen 2 (some .boolean), Cond.methodLink RX3 54 yX3_keeperPart, Cond.instanceMethod yX3_keeperPart, Cond.selects RX3 yX3_keeperPart yX3_keeperPart, Cond.code yX3_keeperPart cX3_keeperPart 3 (some .int), Cond.methodLink RX3 67 yX3_size, Cond.static yX3_size, Cond.code yX3_size cX3_size 1 (some .int), Cond.methodLink RX3 84 yX3_does, Cond.instanceMethod yX3_does, Cond.selects RX3 yX3_does yX3_does, Cond.code yX3_does cX3_does 4 none, Cond.methodLink RX3 71 yX3_adds, Cond.instanceMethod yX3_adds, Cond.selects RX3 yX3_adds yX3_adds, Cond.code yX3_adds cX3_adds 4 none, Cond.methodLink RX3 75 yX3_setPiano, Cond.instanceMethod yX3_setPiano, Cond.selects RX3 yX3_setPiano yX3_setPiano, Cond.code yX3_setPiano cX3_setPiano 4 none]
def wsX3_keeperGoes_r3 : List Cond := [Cond.methodLink RX3 78 yX3_held, Cond.static yX3_held, Cond.code yX3_held cX3_held 1 (some .int)]
def wsX3_keeperGoes : List Cond := .code yX3_keeperGoes cX3_keeperGoes 5 none :: ((wsX3_keeperGoes_r1 ++ (wsX3_keeperGoes_r2 ++ wsX3_keeperGoes_r3)) ++ wsX30)
def wsX3_keepersGo_r1 : List Cond := [Cond.fieldLink RX3 57 "PianoCoversModel" "chosen" "I", Cond.fieldLink RX3 7 "PianoCoversModel" "state" "[I", Cond.methodLink RX3 87 yX3_isRainAhead, Cond.instanceMethod yX3_isRainAhead, Cond.selects RX3 yX3_isRainAhead yX3_isRainAhead, Cond.initialized RX3, Cond.code yX3_isRainAhead cX3_isRainAhead 3 (some .boolean), Cond.methodLink RX3 51 yX3_rainsIn, Cond.instanceMethod yX3_rainsIn, Cond.selects RX3 yX3_rainsIn yX3_rainsIn, Cond.code yX3_rainsIn cX3_rainsIn 2 (some .boolean), Cond.methodLink RX3 91 yX3_keeperGoes, Cond.instanceMethod yX3_keeperGoes, Cond.selects RX3 yX3_keeperGoes yX3_keeperGoes, Cond.code yX3_keeperGoes cX3_keeperGoes 5 none, Cond.methodLink RX3 81 yX3_nearest, Cond.instanceMethod yX3_nearest, Cond.selects RX3 yX3_nearest yX3_nearest, Cond.code yX3_nearest cX3_nearest 6 (some .int), Cond.methodLink RX3 63 yX3_isWanted, Cond.instanceMethod yX3_isWanted, Cond.selects RX3 yX3_isWanted yX3_isWanted, Cond.code yX3_isWanted cX3_isWanted 3 (some .boolean), Cond.methodLink RX3 48 yX3_isPiano]
def wsX3_keepersGo_r2 : List Cond := [Cond.instanceMethod yX3_isPiano, Cond.selects RX3 yX3_isPiano yX3_isPiano, Cond.code yX3_isPiano cX3_isPiano 2 (some .boolean), Cond.methodLink RX3 40 yX3_isPlace, Cond.static yX3_isPlace, Cond.code yX3_isPlace cX3_isPlace 1 (some .boolean), Cond.methodLink RX3 36 yX3_within, Cond.static yX3_within, Cond.code yX3_within cX3_within 3 (some .boolean), Cond.methodLink RX3 44 yX3_pianoPart, Cond.instanceMethod yX3_pianoPart, Cond.selects RX3 yX3_pianoPart yX3_pianoPart, Cond.code yX3_pianoPart cX3_pianoPart 3 (some .int), Cond.methodLink RX3 60 yX3_isOpen, Cond.instanceMethod yX3_isOpen, Cond.selects RX3 yX3_isOpen yX3_isOpen, Cond.code yX3_isOpen cX3_isOpen 2 (some .boolean), Cond.methodLink RX3 54 yX3_keeperPart, Cond.instanceMethod yX3_keeperPart, Cond.selects RX3 yX3_keeperPart yX3_keeperPart, Cond.code yX3_keeperPart cX3_keeperPart 3 (some .int), Cond.methodLink RX3 67 yX3_size, Cond.static yX3_size, Cond.code yX3_size cX3_size 1 (some .int)]
def wsX3_keepersGo_r3 : List Cond := [Cond.methodLink RX3 84 yX3_does, Cond.instanceMethod yX3_does, Cond.selects RX3 yX3_does yX3_does, Cond.code yX3_does cX3_does 4 none, Cond.methodLink RX3 71 yX3_adds, Cond.instanceMethod yX3_adds, Cond.selects RX3 yX3_adds yX3_adds, Cond.code yX3_adds cX3_adds 4 none, Cond.methodLink RX3 75 yX3_setPiano, Cond.instanceMethod yX3_setPiano, Cond.selects RX3 yX3_setPiano yX3_setPiano, Cond.code yX3_setPiano cX3_setPiano 4 none, Cond.methodLink RX3 78 yX3_held, Cond.static yX3_held, Cond.code yX3_held cX3_held 1 (some .int)]
def wsX3_keepersGo : List Cond := .code yX3_keepersGo cX3_keepersGo 3 none :: ((wsX3_keepersGo_r1 ++ (wsX3_keepersGo_r2 ++ wsX3_keepersGo_r3)) ++ wsX30)
def wsX3_rainsOn : List Cond := .code yX3_rainsOn cX3_rainsOn 2 none :: ([.fieldLink RX3 7 "PianoCoversModel" "state" "[I", .methodLink RX3 44 yX3_pianoPart, .instanceMethod yX3_pianoPart, .selects RX3 yX3_pianoPart yX3_pianoPart, .initialized RX3, .code yX3_pianoPart cX3_pianoPart 3 (some .int), .methodLink RX3 78 yX3_held, .static yX3_held, .code yX3_held cX3_held 1 (some .int), .methodLink RX3 75 yX3_setPiano, .instanceMethod yX3_setPiano, .selects RX3 yX3_setPiano yX3_setPiano, .code yX3_setPiano cX3_setPiano 4 none] ++ wsX30)
def wsX3_dries : List Cond := .code yX3_dries cX3_dries 4 none :: ([.fieldLink RX3 7 "PianoCoversModel" "state" "[I", .methodLink RX3 44 yX3_pianoPart, .instanceMethod yX3_pianoPart, .selects RX3 yX3_pianoPart yX3_pianoPart, .initialized RX3, .code yX3_pianoPart cX3_pianoPart 3 (some .int), .methodLink RX3 78 yX3_held, .static yX3_held, .code yX3_held cX3_held 1 (some .int), .methodLink RX3 75 yX3_setPiano, .instanceMethod yX3_setPiano, .selects RX3 yX3_setPiano yX3_setPiano, .code yX3_setPiano cX3_setPiano 4 none, .methodLink RX3 36 yX3_within, .static yX3_within, .code yX3_within cX3_within 3 (some .boolean)] ++ wsX30)
def wsX3_thieves_r1 : List Cond := [Cond.fieldLink RX3 7 "PianoCoversModel" "state" "[I", Cond.methodLink RX3 48 yX3_isPiano, Cond.instanceMethod yX3_isPiano, Cond.selects RX3 yX3_isPiano yX3_isPiano, Cond.initialized RX3, Cond.code yX3_isPiano cX3_isPiano 2 (some .boolean), Cond.methodLink RX3 40 yX3_isPlace, Cond.static yX3_isPlace, Cond.code yX3_isPlace cX3_isPlace 1 (some .boolean), Cond.methodLink RX3 36 yX3_within, Cond.static yX3_within, Cond.code yX3_within cX3_within 3 (some .boolean), Cond.methodLink RX3 44 yX3_pianoPart, Cond.instanceMethod yX3_pianoPart, Cond.selects RX3 yX3_pianoPart yX3_pianoPart, Cond.code yX3_pianoPart cX3_pianoPart 3 (some .int), Cond.methodLink RX3 95 yX3_keepersAt, Cond.instanceMethod yX3_keepersAt, Cond.selects RX3 yX3_keepersAt yX3_keepersAt, Cond.code yX3_keepersAt cX3_keepersAt 4 (some .int), Cond.methodLink RX3 54 yX3_keeperPart, Cond.instanceMethod yX3_keeperPart, Cond.selects RX3 yX3_keeperPart yX3_keeperPart, Cond.code yX3_keeperPart cX3_keeperPart 3 (some .int)]
def wsX3_thieves_r2 : List Cond := [Cond.methodLink RX3 75 yX3_setPiano, Cond.instanceMethod yX3_setPiano, Cond.selects RX3 yX3_setPiano yX3_setPiano, Cond.code yX3_setPiano cX3_setPiano 4 none]
def wsX3_thieves : List Cond := .code yX3_thieves cX3_thieves 3 none :: ((wsX3_thieves_r1 ++ wsX3_thieves_r2) ++ wsX30)
def wsX3_hour_r1 : List Cond := [Cond.fieldLink RX3 7 "PianoCoversModel" "state" "[I", Cond.methodLink RX3 51 yX3_rainsIn, Cond.instanceMethod yX3_rainsIn, Cond.selects RX3 yX3_rainsIn yX3_rainsIn, Cond.initialized RX3, Cond.code yX3_rainsIn cX3_rainsIn 2 (some .boolean), Cond.methodLink RX3 98 yX3_keepersGo, Cond.instanceMethod yX3_keepersGo, Cond.selects RX3 yX3_keepersGo yX3_keepersGo, Cond.code yX3_keepersGo cX3_keepersGo 3 none, Cond.fieldLink RX3 57 "PianoCoversModel" "chosen" "I", Cond.methodLink RX3 87 yX3_isRainAhead, Cond.instanceMethod yX3_isRainAhead, Cond.selects RX3 yX3_isRainAhead yX3_isRainAhead, Cond.code yX3_isRainAhead cX3_isRainAhead 3 (some .boolean), Cond.methodLink RX3 91 yX3_keeperGoes, Cond.instanceMethod yX3_keeperGoes, Cond.selects RX3 yX3_keeperGoes yX3_keeperGoes, Cond.code yX3_keeperGoes cX3_keeperGoes 5 none, Cond.methodLink RX3 81 yX3_nearest, Cond.instanceMethod yX3_nearest, Cond.selects RX3 yX3_nearest yX3_nearest, Cond.code yX3_nearest cX3_nearest 6 (some .int), Cond.methodLink RX3 63 yX3_isWanted]
def wsX3_hour_r2 : List Cond := [Cond.instanceMethod yX3_isWanted, Cond.selects RX3 yX3_isWanted yX3_isWanted, Cond.code yX3_isWanted cX3_isWanted 3 (some .boolean), Cond.methodLink RX3 48 yX3_isPiano, Cond.instanceMethod yX3_isPiano, Cond.selects RX3 yX3_isPiano yX3_isPiano, Cond.code yX3_isPiano cX3_isPiano 2 (some .boolean), Cond.methodLink RX3 40 yX3_isPlace, Cond.static yX3_isPlace, Cond.code yX3_isPlace cX3_isPlace 1 (some .boolean), Cond.methodLink RX3 36 yX3_within, Cond.static yX3_within, Cond.code yX3_within cX3_within 3 (some .boolean), Cond.methodLink RX3 44 yX3_pianoPart, Cond.instanceMethod yX3_pianoPart, Cond.selects RX3 yX3_pianoPart yX3_pianoPart, Cond.code yX3_pianoPart cX3_pianoPart 3 (some .int), Cond.methodLink RX3 60 yX3_isOpen, Cond.instanceMethod yX3_isOpen, Cond.selects RX3 yX3_isOpen yX3_isOpen, Cond.code yX3_isOpen cX3_isOpen 2 (some .boolean), Cond.methodLink RX3 54 yX3_keeperPart, Cond.instanceMethod yX3_keeperPart, Cond.selects RX3 yX3_keeperPart yX3_keeperPart]
def wsX3_hour_r3 : List Cond := [Cond.code yX3_keeperPart cX3_keeperPart 3 (some .int), Cond.methodLink RX3 67 yX3_size, Cond.static yX3_size, Cond.code yX3_size cX3_size 1 (some .int), Cond.methodLink RX3 84 yX3_does, Cond.instanceMethod yX3_does, Cond.selects RX3 yX3_does yX3_does, Cond.code yX3_does cX3_does 4 none, Cond.methodLink RX3 71 yX3_adds, Cond.instanceMethod yX3_adds, Cond.selects RX3 yX3_adds yX3_adds, Cond.code yX3_adds cX3_adds 4 none, Cond.methodLink RX3 75 yX3_setPiano, Cond.instanceMethod yX3_setPiano, Cond.selects RX3 yX3_setPiano yX3_setPiano, Cond.code yX3_setPiano cX3_setPiano 4 none, Cond.methodLink RX3 78 yX3_held, Cond.static yX3_held, Cond.code yX3_held cX3_held 1 (some .int), Cond.methodLink RX3 101 yX3_rainsOn, Cond.instanceMethod yX3_rainsOn, Cond.selects RX3 yX3_rainsOn yX3_rainsOn, Cond.code yX3_rainsOn cX3_rainsOn 2 none, Cond.methodLink RX3 105 yX3_dries]
def wsX3_hour_r4 : List Cond := [Cond.instanceMethod yX3_dries, Cond.selects RX3 yX3_dries yX3_dries, Cond.code yX3_dries cX3_dries 4 none, Cond.methodLink RX3 109 yX3_thieves, Cond.instanceMethod yX3_thieves, Cond.selects RX3 yX3_thieves yX3_thieves, Cond.code yX3_thieves cX3_thieves 3 none, Cond.methodLink RX3 95 yX3_keepersAt, Cond.instanceMethod yX3_keepersAt, Cond.selects RX3 yX3_keepersAt yX3_keepersAt, Cond.code yX3_keepersAt cX3_keepersAt 4 (some .int)]
def wsX3_hour : List Cond := .code yX3_hour cX3_hour 4 none :: ((wsX3_hour_r1 ++ (wsX3_hour_r2 ++ (wsX3_hour_r3 ++ wsX3_hour_r4))) ++ wsX30)
def wsX3_passes_r1 : List Cond := [Cond.fieldLink RX3 7 "PianoCoversModel" "state" "[I", Cond.methodLink RX3 112 yX3_hour, Cond.instanceMethod yX3_hour, Cond.selects RX3 yX3_hour yX3_hour, Cond.initialized RX3, Cond.code yX3_hour cX3_hour 4 none, Cond.methodLink RX3 51 yX3_rainsIn, Cond.instanceMethod yX3_rainsIn, Cond.selects RX3 yX3_rainsIn yX3_rainsIn, Cond.code yX3_rainsIn cX3_rainsIn 2 (some .boolean), Cond.methodLink RX3 98 yX3_keepersGo, Cond.instanceMethod yX3_keepersGo, Cond.selects RX3 yX3_keepersGo yX3_keepersGo, Cond.code yX3_keepersGo cX3_keepersGo 3 none, Cond.fieldLink RX3 57 "PianoCoversModel" "chosen" "I", Cond.methodLink RX3 87 yX3_isRainAhead, Cond.instanceMethod yX3_isRainAhead, Cond.selects RX3 yX3_isRainAhead yX3_isRainAhead, Cond.code yX3_isRainAhead cX3_isRainAhead 3 (some .boolean), Cond.methodLink RX3 91 yX3_keeperGoes, Cond.instanceMethod yX3_keeperGoes, Cond.selects RX3 yX3_keeperGoes yX3_keeperGoes, Cond.code yX3_keeperGoes cX3_keeperGoes 5 none, Cond.methodLink RX3 81 yX3_nearest]
def wsX3_passes_r2 : List Cond := [Cond.instanceMethod yX3_nearest, Cond.selects RX3 yX3_nearest yX3_nearest, Cond.code yX3_nearest cX3_nearest 6 (some .int), Cond.methodLink RX3 63 yX3_isWanted, Cond.instanceMethod yX3_isWanted, Cond.selects RX3 yX3_isWanted yX3_isWanted, Cond.code yX3_isWanted cX3_isWanted 3 (some .boolean), Cond.methodLink RX3 48 yX3_isPiano, Cond.instanceMethod yX3_isPiano, Cond.selects RX3 yX3_isPiano yX3_isPiano, Cond.code yX3_isPiano cX3_isPiano 2 (some .boolean), Cond.methodLink RX3 40 yX3_isPlace, Cond.static yX3_isPlace, Cond.code yX3_isPlace cX3_isPlace 1 (some .boolean), Cond.methodLink RX3 36 yX3_within, Cond.static yX3_within, Cond.code yX3_within cX3_within 3 (some .boolean), Cond.methodLink RX3 44 yX3_pianoPart, Cond.instanceMethod yX3_pianoPart, Cond.selects RX3 yX3_pianoPart yX3_pianoPart, Cond.code yX3_pianoPart cX3_pianoPart 3 (some .int), Cond.methodLink RX3 60 yX3_isOpen, Cond.instanceMethod yX3_isOpen, Cond.selects RX3 yX3_isOpen yX3_isOpen]
def wsX3_passes_r3 : List Cond := [Cond.code yX3_isOpen cX3_isOpen 2 (some .boolean), Cond.methodLink RX3 54 yX3_keeperPart, Cond.instanceMethod yX3_keeperPart, Cond.selects RX3 yX3_keeperPart yX3_keeperPart, Cond.code yX3_keeperPart cX3_keeperPart 3 (some .int), Cond.methodLink RX3 67 yX3_size, Cond.static yX3_size, Cond.code yX3_size cX3_size 1 (some .int), Cond.methodLink RX3 84 yX3_does, Cond.instanceMethod yX3_does, Cond.selects RX3 yX3_does yX3_does, Cond.code yX3_does cX3_does 4 none, Cond.methodLink RX3 71 yX3_adds, Cond.instanceMethod yX3_adds, Cond.selects RX3 yX3_adds yX3_adds, Cond.code yX3_adds cX3_adds 4 none, Cond.methodLink RX3 75 yX3_setPiano, Cond.instanceMethod yX3_setPiano, Cond.selects RX3 yX3_setPiano yX3_setPiano, Cond.code yX3_setPiano cX3_setPiano 4 none, Cond.methodLink RX3 78 yX3_held, Cond.static yX3_held, Cond.code yX3_held cX3_held 1 (some .int), Cond.methodLink RX3 101 yX3_rainsOn]
def wsX3_passes_r4 : List Cond := [Cond.instanceMethod yX3_rainsOn, Cond.selects RX3 yX3_rainsOn yX3_rainsOn, Cond.code yX3_rainsOn cX3_rainsOn 2 none, Cond.methodLink RX3 105 yX3_dries, Cond.instanceMethod yX3_dries, Cond.selects RX3 yX3_dries yX3_dries, Cond.code yX3_dries cX3_dries 4 none, Cond.methodLink RX3 109 yX3_thieves, Cond.instanceMethod yX3_thieves, Cond.selects RX3 yX3_thieves yX3_thieves, Cond.code yX3_thieves cX3_thieves 3 none, Cond.methodLink RX3 95 yX3_keepersAt, Cond.instanceMethod yX3_keepersAt, Cond.selects RX3 yX3_keepersAt yX3_keepersAt, Cond.code yX3_keepersAt cX3_keepersAt 4 (some .int)]
def wsX3_passes : List Cond := .code yX3_passes cX3_passes 4 (some .int) :: ((wsX3_passes_r1 ++ (wsX3_passes_r2 ++ (wsX3_passes_r3 ++ wsX3_passes_r4))) ++ wsX30)
def wsX3_isValue : List Cond := .code yX3_isValue cX3_isValue 2 (some .boolean) :: ([.methodLink RX3 36 yX3_within, .static yX3_within, .initialized RX3, .code yX3_within cX3_within 3 (some .boolean)])
def wsX3_set : List Cond := .code yX3_set cX3_set 4 (some .int) :: ([.fieldLink RX3 7 "PianoCoversModel" "state" "[I", .methodLink RX3 115 yX3_isValue, .static yX3_isValue, .initialized RX3, .code yX3_isValue cX3_isValue 2 (some .boolean), .methodLink RX3 36 yX3_within, .static yX3_within, .code yX3_within cX3_within 3 (some .boolean), .methodLink RX3 118 yX3_record, .instanceMethod yX3_record, .selects RX3 yX3_record yX3_record, .code yX3_record cX3_record 2 none, .fieldLink RX3 28 "PianoCoversModel" "recorded" "I", .fieldLink RX3 16 "PianoCoversModel" "history" "[I", .methodLink RX3 32 yX3_moves, .static yX3_moves, .code yX3_moves cX3_moves 5 none] ++ wsX30)
def wsX3_rain : List Cond := .code yX3_rain cX3_rain 3 (some .int) :: ([.constant RX3 121 (16777215), .fieldLink RX3 7 "PianoCoversModel" "state" "[I", .methodLink RX3 36 yX3_within, .static yX3_within, .initialized RX3, .code yX3_within cX3_within 3 (some .boolean), .methodLink RX3 118 yX3_record, .instanceMethod yX3_record, .selects RX3 yX3_record yX3_record, .code yX3_record cX3_record 2 none, .fieldLink RX3 28 "PianoCoversModel" "recorded" "I", .fieldLink RX3 16 "PianoCoversModel" "history" "[I", .methodLink RX3 32 yX3_moves, .static yX3_moves, .code yX3_moves cX3_moves 5 none] ++ wsX30)
def wsX3_whyNoPiano : List Cond := .code yX3_whyNoPiano cX3_whyNoPiano 3 (some .int) :: ([.methodLink RX3 40 yX3_isPlace, .static yX3_isPlace, .initialized RX3, .code yX3_isPlace cX3_isPlace 1 (some .boolean), .methodLink RX3 36 yX3_within, .static yX3_within, .code yX3_within cX3_within 3 (some .boolean), .methodLink RX3 48 yX3_isPiano, .instanceMethod yX3_isPiano, .selects RX3 yX3_isPiano yX3_isPiano, .code yX3_isPiano cX3_isPiano 2 (some .boolean), .methodLink RX3 44 yX3_pianoPart, .instanceMethod yX3_pianoPart, .selects RX3 yX3_pianoPart yX3_pianoPart, .code yX3_pianoPart cX3_pianoPart 3 (some .int), .fieldLink RX3 7 "PianoCoversModel" "state" "[I"] ++ wsX30)
def wsX3_pianoComes : List Cond := .code yX3_pianoComes cX3_pianoComes 3 none :: ([.methodLink RX3 75 yX3_setPiano, .instanceMethod yX3_setPiano, .selects RX3 yX3_setPiano yX3_setPiano, .initialized RX3, .code yX3_setPiano cX3_setPiano 4 none, .fieldLink RX3 7 "PianoCoversModel" "state" "[I"] ++ wsX30)
def wsX3_piano_r1 : List Cond := [Cond.methodLink RX3 122 yX3_whyNoPiano, Cond.instanceMethod yX3_whyNoPiano, Cond.selects RX3 yX3_whyNoPiano yX3_whyNoPiano, Cond.initialized RX3, Cond.code yX3_whyNoPiano cX3_whyNoPiano 3 (some .int), Cond.methodLink RX3 40 yX3_isPlace, Cond.static yX3_isPlace, Cond.code yX3_isPlace cX3_isPlace 1 (some .boolean), Cond.methodLink RX3 36 yX3_within, Cond.static yX3_within, Cond.code yX3_within cX3_within 3 (some .boolean), Cond.methodLink RX3 48 yX3_isPiano, Cond.instanceMethod yX3_isPiano, Cond.selects RX3 yX3_isPiano yX3_isPiano, Cond.code yX3_isPiano cX3_isPiano 2 (some .boolean), Cond.methodLink RX3 44 yX3_pianoPart, Cond.instanceMethod yX3_pianoPart, Cond.selects RX3 yX3_pianoPart yX3_pianoPart, Cond.code yX3_pianoPart cX3_pianoPart 3 (some .int), Cond.fieldLink RX3 7 "PianoCoversModel" "state" "[I", Cond.methodLink RX3 118 yX3_record, Cond.instanceMethod yX3_record, Cond.selects RX3 yX3_record yX3_record, Cond.code yX3_record cX3_record 2 none]
def wsX3_piano_r2 : List Cond := [Cond.fieldLink RX3 28 "PianoCoversModel" "recorded" "I", Cond.fieldLink RX3 16 "PianoCoversModel" "history" "[I", Cond.methodLink RX3 32 yX3_moves, Cond.static yX3_moves, Cond.code yX3_moves cX3_moves 5 none, Cond.methodLink RX3 125 yX3_pianoComes, Cond.instanceMethod yX3_pianoComes, Cond.selects RX3 yX3_pianoComes yX3_pianoComes, Cond.code yX3_pianoComes cX3_pianoComes 3 none, Cond.methodLink RX3 75 yX3_setPiano, Cond.instanceMethod yX3_setPiano, Cond.selects RX3 yX3_setPiano yX3_setPiano, Cond.code yX3_setPiano cX3_setPiano 4 none, Cond.methodLink RX3 128 yX3_pianosThere, Cond.instanceMethod yX3_pianosThere, Cond.selects RX3 yX3_pianosThere yX3_pianosThere, Cond.code yX3_pianosThere cX3_pianosThere 3 (some .int)]
def wsX3_piano : List Cond := .code yX3_piano cX3_piano 4 (some .int) :: ((wsX3_piano_r1 ++ wsX3_piano_r2) ++ wsX30)
def wsX3_take_r1 : List Cond := [Cond.methodLink RX3 48 yX3_isPiano, Cond.instanceMethod yX3_isPiano, Cond.selects RX3 yX3_isPiano yX3_isPiano, Cond.initialized RX3, Cond.code yX3_isPiano cX3_isPiano 2 (some .boolean), Cond.methodLink RX3 40 yX3_isPlace, Cond.static yX3_isPlace, Cond.code yX3_isPlace cX3_isPlace 1 (some .boolean), Cond.methodLink RX3 36 yX3_within, Cond.static yX3_within, Cond.code yX3_within cX3_within 3 (some .boolean), Cond.methodLink RX3 44 yX3_pianoPart, Cond.instanceMethod yX3_pianoPart, Cond.selects RX3 yX3_pianoPart yX3_pianoPart, Cond.code yX3_pianoPart cX3_pianoPart 3 (some .int), Cond.fieldLink RX3 7 "PianoCoversModel" "state" "[I", Cond.methodLink RX3 118 yX3_record, Cond.instanceMethod yX3_record, Cond.selects RX3 yX3_record yX3_record, Cond.code yX3_record cX3_record 2 none, Cond.fieldLink RX3 28 "PianoCoversModel" "recorded" "I", Cond.fieldLink RX3 16 "PianoCoversModel" "history" "[I", Cond.methodLink RX3 32 yX3_moves, Cond.static yX3_moves]
def wsX3_take_r2 : List Cond := [Cond.code yX3_moves cX3_moves 5 none, Cond.methodLink RX3 75 yX3_setPiano, Cond.instanceMethod yX3_setPiano, Cond.selects RX3 yX3_setPiano yX3_setPiano, Cond.code yX3_setPiano cX3_setPiano 4 none, Cond.methodLink RX3 128 yX3_pianosThere, Cond.instanceMethod yX3_pianosThere, Cond.selects RX3 yX3_pianosThere yX3_pianosThere, Cond.code yX3_pianosThere cX3_pianosThere 3 (some .int)]
def wsX3_take : List Cond := .code yX3_take cX3_take 3 (some .int) :: ((wsX3_take_r1 ++ wsX3_take_r2) ++ wsX30)
def wsX3_whyNoKeeper : List Cond := .code yX3_whyNoKeeper cX3_whyNoKeeper 2 (some .int) :: ([.fieldLink RX3 7 "PianoCoversModel" "state" "[I", .methodLink RX3 40 yX3_isPlace, .static yX3_isPlace, .initialized RX3, .code yX3_isPlace cX3_isPlace 1 (some .boolean), .methodLink RX3 36 yX3_within, .static yX3_within, .code yX3_within cX3_within 3 (some .boolean)] ++ wsX30)
def wsX3_keeperComes : List Cond := .code yX3_keeperComes cX3_keeperComes 4 (some .int) :: ([.fieldLink RX3 7 "PianoCoversModel" "state" "[I"] ++ wsX30)
def wsX3_keeper_r1 : List Cond := [Cond.methodLink RX3 132 yX3_whyNoKeeper, Cond.instanceMethod yX3_whyNoKeeper, Cond.selects RX3 yX3_whyNoKeeper yX3_whyNoKeeper, Cond.initialized RX3, Cond.code yX3_whyNoKeeper cX3_whyNoKeeper 2 (some .int), Cond.fieldLink RX3 7 "PianoCoversModel" "state" "[I", Cond.methodLink RX3 40 yX3_isPlace, Cond.static yX3_isPlace, Cond.code yX3_isPlace cX3_isPlace 1 (some .boolean), Cond.methodLink RX3 36 yX3_within, Cond.static yX3_within, Cond.code yX3_within cX3_within 3 (some .boolean), Cond.methodLink RX3 118 yX3_record, Cond.instanceMethod yX3_record, Cond.selects RX3 yX3_record yX3_record, Cond.code yX3_record cX3_record 2 none, Cond.fieldLink RX3 28 "PianoCoversModel" "recorded" "I", Cond.fieldLink RX3 16 "PianoCoversModel" "history" "[I", Cond.methodLink RX3 32 yX3_moves, Cond.static yX3_moves, Cond.code yX3_moves cX3_moves 5 none, Cond.methodLink RX3 135 yX3_keeperComes, Cond.instanceMethod yX3_keeperComes, Cond.selects RX3 yX3_keeperComes yX3_keeperComes]
def wsX3_keeper_r2 : List Cond := [Cond.code yX3_keeperComes cX3_keeperComes 4 (some .int)]
def wsX3_keeper : List Cond := .code yX3_keeper cX3_keeper 3 (some .int) :: ((wsX3_keeper_r1 ++ wsX3_keeper_r2) ++ wsX30)
def wsX3_whyNoCover : List Cond := .code yX3_whyNoCover cX3_whyNoCover 2 (some .int) :: ([.methodLink RX3 48 yX3_isPiano, .instanceMethod yX3_isPiano, .selects RX3 yX3_isPiano yX3_isPiano, .initialized RX3, .code yX3_isPiano cX3_isPiano 2 (some .boolean), .methodLink RX3 40 yX3_isPlace, .static yX3_isPlace, .code yX3_isPlace cX3_isPlace 1 (some .boolean), .methodLink RX3 36 yX3_within, .static yX3_within, .code yX3_within cX3_within 3 (some .boolean), .methodLink RX3 44 yX3_pianoPart, .instanceMethod yX3_pianoPart, .selects RX3 yX3_pianoPart yX3_pianoPart, .code yX3_pianoPart cX3_pianoPart 3 (some .int), .fieldLink RX3 7 "PianoCoversModel" "state" "[I"] ++ wsX30)
def wsX3_withCovers : List Cond := .code yX3_withCovers cX3_withCovers 3 (some .int) :: ([.methodLink RX3 48 yX3_isPiano, .instanceMethod yX3_isPiano, .selects RX3 yX3_isPiano yX3_isPiano, .initialized RX3, .code yX3_isPiano cX3_isPiano 2 (some .boolean), .methodLink RX3 40 yX3_isPlace, .static yX3_isPlace, .code yX3_isPlace cX3_isPlace 1 (some .boolean), .methodLink RX3 36 yX3_within, .static yX3_within, .code yX3_within cX3_within 3 (some .boolean), .methodLink RX3 44 yX3_pianoPart, .instanceMethod yX3_pianoPart, .selects RX3 yX3_pianoPart yX3_pianoPart, .code yX3_pianoPart cX3_pianoPart 3 (some .int), .fieldLink RX3 7 "PianoCoversModel" "state" "[I"] ++ wsX30)
def wsX3_cover_r1 : List Cond := [Cond.methodLink RX3 138 yX3_whyNoCover, Cond.instanceMethod yX3_whyNoCover, Cond.selects RX3 yX3_whyNoCover yX3_whyNoCover, Cond.initialized RX3, Cond.code yX3_whyNoCover cX3_whyNoCover 2 (some .int), Cond.methodLink RX3 48 yX3_isPiano, Cond.instanceMethod yX3_isPiano, Cond.selects RX3 yX3_isPiano yX3_isPiano, Cond.code yX3_isPiano cX3_isPiano 2 (some .boolean), Cond.methodLink RX3 40 yX3_isPlace, Cond.static yX3_isPlace, Cond.code yX3_isPlace cX3_isPlace 1 (some .boolean), Cond.methodLink RX3 36 yX3_within, Cond.static yX3_within, Cond.code yX3_within cX3_within 3 (some .boolean), Cond.methodLink RX3 44 yX3_pianoPart, Cond.instanceMethod yX3_pianoPart, Cond.selects RX3 yX3_pianoPart yX3_pianoPart, Cond.code yX3_pianoPart cX3_pianoPart 3 (some .int), Cond.fieldLink RX3 7 "PianoCoversModel" "state" "[I", Cond.methodLink RX3 118 yX3_record, Cond.instanceMethod yX3_record, Cond.selects RX3 yX3_record yX3_record, Cond.code yX3_record cX3_record 2 none]
def wsX3_cover_r2 : List Cond := [Cond.fieldLink RX3 28 "PianoCoversModel" "recorded" "I", Cond.fieldLink RX3 16 "PianoCoversModel" "history" "[I", Cond.methodLink RX3 32 yX3_moves, Cond.static yX3_moves, Cond.code yX3_moves cX3_moves 5 none, Cond.methodLink RX3 75 yX3_setPiano, Cond.instanceMethod yX3_setPiano, Cond.selects RX3 yX3_setPiano yX3_setPiano, Cond.code yX3_setPiano cX3_setPiano 4 none, Cond.methodLink RX3 141 yX3_withCovers, Cond.instanceMethod yX3_withCovers, Cond.selects RX3 yX3_withCovers yX3_withCovers, Cond.code yX3_withCovers cX3_withCovers 3 (some .int)]
def wsX3_cover : List Cond := .code yX3_cover cX3_cover 3 (some .int) :: ((wsX3_cover_r1 ++ wsX3_cover_r2) ++ wsX30)
def wsX3_whyNotPassed : List Cond := .code yX3_whyNotPassed cX3_whyNotPassed 2 (some .int) :: ([.fieldLink RX3 7 "PianoCoversModel" "state" "[I", .methodLink RX3 36 yX3_within, .static yX3_within, .initialized RX3, .code yX3_within cX3_within 3 (some .boolean)] ++ wsX30)
def wsX3_pass_r1 : List Cond := [Cond.methodLink RX3 144 yX3_whyNotPassed, Cond.instanceMethod yX3_whyNotPassed, Cond.selects RX3 yX3_whyNotPassed yX3_whyNotPassed, Cond.initialized RX3, Cond.code yX3_whyNotPassed cX3_whyNotPassed 2 (some .int), Cond.fieldLink RX3 7 "PianoCoversModel" "state" "[I", Cond.methodLink RX3 36 yX3_within, Cond.static yX3_within, Cond.code yX3_within cX3_within 3 (some .boolean), Cond.methodLink RX3 118 yX3_record, Cond.instanceMethod yX3_record, Cond.selects RX3 yX3_record yX3_record, Cond.code yX3_record cX3_record 2 none, Cond.fieldLink RX3 28 "PianoCoversModel" "recorded" "I", Cond.fieldLink RX3 16 "PianoCoversModel" "history" "[I", Cond.methodLink RX3 32 yX3_moves, Cond.static yX3_moves, Cond.code yX3_moves cX3_moves 5 none, Cond.methodLink RX3 147 yX3_passes, Cond.instanceMethod yX3_passes, Cond.selects RX3 yX3_passes yX3_passes, Cond.code yX3_passes cX3_passes 4 (some .int), Cond.methodLink RX3 112 yX3_hour, Cond.instanceMethod yX3_hour]
def wsX3_pass_r2 : List Cond := [Cond.selects RX3 yX3_hour yX3_hour, Cond.code yX3_hour cX3_hour 4 none, Cond.methodLink RX3 51 yX3_rainsIn, Cond.instanceMethod yX3_rainsIn, Cond.selects RX3 yX3_rainsIn yX3_rainsIn, Cond.code yX3_rainsIn cX3_rainsIn 2 (some .boolean), Cond.methodLink RX3 98 yX3_keepersGo, Cond.instanceMethod yX3_keepersGo, Cond.selects RX3 yX3_keepersGo yX3_keepersGo, Cond.code yX3_keepersGo cX3_keepersGo 3 none, Cond.fieldLink RX3 57 "PianoCoversModel" "chosen" "I", Cond.methodLink RX3 87 yX3_isRainAhead, Cond.instanceMethod yX3_isRainAhead, Cond.selects RX3 yX3_isRainAhead yX3_isRainAhead, Cond.code yX3_isRainAhead cX3_isRainAhead 3 (some .boolean), Cond.methodLink RX3 91 yX3_keeperGoes, Cond.instanceMethod yX3_keeperGoes, Cond.selects RX3 yX3_keeperGoes yX3_keeperGoes, Cond.code yX3_keeperGoes cX3_keeperGoes 5 none, Cond.methodLink RX3 81 yX3_nearest, Cond.instanceMethod yX3_nearest, Cond.selects RX3 yX3_nearest yX3_nearest, Cond.code yX3_nearest cX3_nearest 6 (some .int), Cond.methodLink RX3 63 yX3_isWanted]
def wsX3_pass_r3 : List Cond := [Cond.instanceMethod yX3_isWanted, Cond.selects RX3 yX3_isWanted yX3_isWanted, Cond.code yX3_isWanted cX3_isWanted 3 (some .boolean), Cond.methodLink RX3 48 yX3_isPiano, Cond.instanceMethod yX3_isPiano, Cond.selects RX3 yX3_isPiano yX3_isPiano, Cond.code yX3_isPiano cX3_isPiano 2 (some .boolean), Cond.methodLink RX3 40 yX3_isPlace, Cond.static yX3_isPlace, Cond.code yX3_isPlace cX3_isPlace 1 (some .boolean), Cond.methodLink RX3 44 yX3_pianoPart, Cond.instanceMethod yX3_pianoPart, Cond.selects RX3 yX3_pianoPart yX3_pianoPart, Cond.code yX3_pianoPart cX3_pianoPart 3 (some .int), Cond.methodLink RX3 60 yX3_isOpen, Cond.instanceMethod yX3_isOpen, Cond.selects RX3 yX3_isOpen yX3_isOpen, Cond.code yX3_isOpen cX3_isOpen 2 (some .boolean), Cond.methodLink RX3 54 yX3_keeperPart, Cond.instanceMethod yX3_keeperPart, Cond.selects RX3 yX3_keeperPart yX3_keeperPart, Cond.code yX3_keeperPart cX3_keeperPart 3 (some .int), Cond.methodLink RX3 67 yX3_size, Cond.static yX3_size]
def wsX3_pass_r4 : List Cond := [Cond.code yX3_size cX3_size 1 (some .int), Cond.methodLink RX3 84 yX3_does, Cond.instanceMethod yX3_does, Cond.selects RX3 yX3_does yX3_does, Cond.code yX3_does cX3_does 4 none, Cond.methodLink RX3 71 yX3_adds, Cond.instanceMethod yX3_adds, Cond.selects RX3 yX3_adds yX3_adds, Cond.code yX3_adds cX3_adds 4 none, Cond.methodLink RX3 75 yX3_setPiano, Cond.instanceMethod yX3_setPiano, Cond.selects RX3 yX3_setPiano yX3_setPiano, Cond.code yX3_setPiano cX3_setPiano 4 none, Cond.methodLink RX3 78 yX3_held, Cond.static yX3_held, Cond.code yX3_held cX3_held 1 (some .int), Cond.methodLink RX3 101 yX3_rainsOn, Cond.instanceMethod yX3_rainsOn, Cond.selects RX3 yX3_rainsOn yX3_rainsOn, Cond.code yX3_rainsOn cX3_rainsOn 2 none, Cond.methodLink RX3 105 yX3_dries, Cond.instanceMethod yX3_dries, Cond.selects RX3 yX3_dries yX3_dries, Cond.code yX3_dries cX3_dries 4 none]
def wsX3_pass_r5 : List Cond := [Cond.methodLink RX3 109 yX3_thieves, Cond.instanceMethod yX3_thieves, Cond.selects RX3 yX3_thieves yX3_thieves, Cond.code yX3_thieves cX3_thieves 3 none, Cond.methodLink RX3 95 yX3_keepersAt, Cond.instanceMethod yX3_keepersAt, Cond.selects RX3 yX3_keepersAt yX3_keepersAt, Cond.code yX3_keepersAt cX3_keepersAt 4 (some .int)]
def wsX3_pass : List Cond := .code yX3_pass cX3_pass 3 (some .int) :: ((wsX3_pass_r1 ++ (wsX3_pass_r2 ++ (wsX3_pass_r3 ++ (wsX3_pass_r4 ++ wsX3_pass_r5)))) ++ wsX30)
def wsX3_of : List Cond := .code yX3_of cX3_of 3 (some .int) :: ([.methodLink RX3 48 yX3_isPiano, .instanceMethod yX3_isPiano, .selects RX3 yX3_isPiano yX3_isPiano, .initialized RX3, .code yX3_isPiano cX3_isPiano 2 (some .boolean), .methodLink RX3 40 yX3_isPlace, .static yX3_isPlace, .code yX3_isPlace cX3_isPlace 1 (some .boolean), .methodLink RX3 36 yX3_within, .static yX3_within, .code yX3_within cX3_within 3 (some .boolean), .methodLink RX3 44 yX3_pianoPart, .instanceMethod yX3_pianoPart, .selects RX3 yX3_pianoPart yX3_pianoPart, .code yX3_pianoPart cX3_pianoPart 3 (some .int), .fieldLink RX3 7 "PianoCoversModel" "state" "[I", .methodLink RX3 95 yX3_keepersAt, .instanceMethod yX3_keepersAt, .selects RX3 yX3_keepersAt yX3_keepersAt, .code yX3_keepersAt cX3_keepersAt 4 (some .int), .methodLink RX3 54 yX3_keeperPart, .instanceMethod yX3_keeperPart, .selects RX3 yX3_keeperPart yX3_keeperPart, .code yX3_keeperPart cX3_keeperPart 3 (some .int)] ++ wsX30)
def wsX3_ofKeeper : List Cond := .code yX3_ofKeeper cX3_ofKeeper 3 (some .int) :: ([.fieldLink RX3 7 "PianoCoversModel" "state" "[I", .methodLink RX3 36 yX3_within, .static yX3_within, .initialized RX3, .code yX3_within cX3_within 3 (some .boolean), .methodLink RX3 54 yX3_keeperPart, .instanceMethod yX3_keeperPart, .selects RX3 yX3_keeperPart yX3_keeperPart, .code yX3_keeperPart cX3_keeperPart 3 (some .int)] ++ wsX30)
def wsX3_pianosWith : List Cond := .code yX3_pianosWith cX3_pianosWith 4 (some .int) :: ([.methodLink RX3 48 yX3_isPiano, .instanceMethod yX3_isPiano, .selects RX3 yX3_isPiano yX3_isPiano, .initialized RX3, .code yX3_isPiano cX3_isPiano 2 (some .boolean), .methodLink RX3 40 yX3_isPlace, .static yX3_isPlace, .code yX3_isPlace cX3_isPlace 1 (some .boolean), .methodLink RX3 36 yX3_within, .static yX3_within, .code yX3_within cX3_within 3 (some .boolean), .methodLink RX3 44 yX3_pianoPart, .instanceMethod yX3_pianoPart, .selects RX3 yX3_pianoPart yX3_pianoPart, .code yX3_pianoPart cX3_pianoPart 3 (some .int), .fieldLink RX3 7 "PianoCoversModel" "state" "[I"] ++ wsX30)
def wsX3_count_r1 : List Cond := [Cond.fieldLink RX3 7 "PianoCoversModel" "state" "[I", Cond.fieldLink RX3 153 "PianoCoversModel" "padLength" "I", Cond.fieldLink RX3 28 "PianoCoversModel" "recorded" "I", Cond.methodLink RX3 36 yX3_within, Cond.static yX3_within, Cond.initialized RX3, Cond.code yX3_within cX3_within 3 (some .boolean), Cond.methodLink RX3 150 yX3_pianosWith, Cond.instanceMethod yX3_pianosWith, Cond.selects RX3 yX3_pianosWith yX3_pianosWith, Cond.code yX3_pianosWith cX3_pianosWith 4 (some .int), Cond.methodLink RX3 48 yX3_isPiano, Cond.instanceMethod yX3_isPiano, Cond.selects RX3 yX3_isPiano yX3_isPiano, Cond.code yX3_isPiano cX3_isPiano 2 (some .boolean), Cond.methodLink RX3 40 yX3_isPlace, Cond.static yX3_isPlace, Cond.code yX3_isPlace cX3_isPlace 1 (some .boolean), Cond.methodLink RX3 44 yX3_pianoPart, Cond.instanceMethod yX3_pianoPart, Cond.selects RX3 yX3_pianoPart yX3_pianoPart, Cond.code yX3_pianoPart cX3_pianoPart 3 (some .int), Cond.methodLink RX3 87 yX3_isRainAhead, Cond.instanceMethod yX3_isRainAhead]
def wsX3_count_r2 : List Cond := [Cond.selects RX3 yX3_isRainAhead yX3_isRainAhead, Cond.code yX3_isRainAhead cX3_isRainAhead 3 (some .boolean), Cond.methodLink RX3 51 yX3_rainsIn, Cond.instanceMethod yX3_rainsIn, Cond.selects RX3 yX3_rainsIn yX3_rainsIn, Cond.code yX3_rainsIn cX3_rainsIn 2 (some .boolean)]
def wsX3_count : List Cond := .code yX3_count cX3_count 2 (some .int) :: ((wsX3_count_r1 ++ wsX3_count_r2) ++ wsX30)
def wsX3_worth : List Cond := .code yX3_worth cX3_worth 2 (some .int) :: ([.methodLink RX3 44 yX3_pianoPart, .instanceMethod yX3_pianoPart, .selects RX3 yX3_pianoPart yX3_pianoPart, .initialized RX3, .code yX3_pianoPart cX3_pianoPart 3 (some .int), .fieldLink RX3 7 "PianoCoversModel" "state" "[I"] ++ wsX30)
def wsX3_worst : List Cond := .code yX3_worst cX3_worst 3 (some .int) :: ([.methodLink RX3 48 yX3_isPiano, .instanceMethod yX3_isPiano, .selects RX3 yX3_isPiano yX3_isPiano, .initialized RX3, .code yX3_isPiano cX3_isPiano 2 (some .boolean), .methodLink RX3 40 yX3_isPlace, .static yX3_isPlace, .code yX3_isPlace cX3_isPlace 1 (some .boolean), .methodLink RX3 36 yX3_within, .static yX3_within, .code yX3_within cX3_within 3 (some .boolean), .methodLink RX3 44 yX3_pianoPart, .instanceMethod yX3_pianoPart, .selects RX3 yX3_pianoPart yX3_pianoPart, .code yX3_pianoPart cX3_pianoPart 3 (some .int), .fieldLink RX3 7 "PianoCoversModel" "state" "[I", .methodLink RX3 156 yX3_worth, .instanceMethod yX3_worth, .selects RX3 yX3_worth yX3_worth, .code yX3_worth cX3_worth 2 (some .int)] ++ wsX30)
def wsX3_why_r1 : List Cond := [Cond.fieldLink RX3 7 "PianoCoversModel" "state" "[I", Cond.methodLink RX3 48 yX3_isPiano, Cond.instanceMethod yX3_isPiano, Cond.selects RX3 yX3_isPiano yX3_isPiano, Cond.initialized RX3, Cond.code yX3_isPiano cX3_isPiano 2 (some .boolean), Cond.methodLink RX3 40 yX3_isPlace, Cond.static yX3_isPlace, Cond.code yX3_isPlace cX3_isPlace 1 (some .boolean), Cond.methodLink RX3 36 yX3_within, Cond.static yX3_within, Cond.code yX3_within cX3_within 3 (some .boolean), Cond.methodLink RX3 44 yX3_pianoPart, Cond.instanceMethod yX3_pianoPart, Cond.selects RX3 yX3_pianoPart yX3_pianoPart, Cond.code yX3_pianoPart cX3_pianoPart 3 (some .int), Cond.methodLink RX3 87 yX3_isRainAhead, Cond.instanceMethod yX3_isRainAhead, Cond.selects RX3 yX3_isRainAhead yX3_isRainAhead, Cond.code yX3_isRainAhead cX3_isRainAhead 3 (some .boolean), Cond.methodLink RX3 51 yX3_rainsIn, Cond.instanceMethod yX3_rainsIn, Cond.selects RX3 yX3_rainsIn yX3_rainsIn, Cond.code yX3_rainsIn cX3_rainsIn 2 (some .boolean)]
def wsX3_why_r2 : List Cond := [Cond.methodLink RX3 95 yX3_keepersAt, Cond.instanceMethod yX3_keepersAt, Cond.selects RX3 yX3_keepersAt yX3_keepersAt, Cond.code yX3_keepersAt cX3_keepersAt 4 (some .int), Cond.methodLink RX3 54 yX3_keeperPart, Cond.instanceMethod yX3_keeperPart, Cond.selects RX3 yX3_keeperPart yX3_keeperPart, Cond.code yX3_keeperPart cX3_keeperPart 3 (some .int)]
def wsX3_why : List Cond := .code yX3_why cX3_why 2 (some .int) :: ((wsX3_why_r1 ++ wsX3_why_r2) ++ wsX30)
def wsX3_rainIn : List Cond := .code yX3_rainIn cX3_rainIn 3 (some .int) :: ([.methodLink RX3 51 yX3_rainsIn, .instanceMethod yX3_rainsIn, .selects RX3 yX3_rainsIn yX3_rainsIn, .initialized RX3, .code yX3_rainsIn cX3_rainsIn 2 (some .boolean), .fieldLink RX3 7 "PianoCoversModel" "state" "[I"] ++ wsX30)
def wsX3_coveredIn_r1 : List Cond := [Cond.fieldLink RX3 7 "PianoCoversModel" "state" "[I", Cond.fieldLink RX3 13 "PianoCoversModel" "kept" "[I", Cond.methodLink RX3 48 yX3_isPiano, Cond.instanceMethod yX3_isPiano, Cond.selects RX3 yX3_isPiano yX3_isPiano, Cond.initialized RX3, Cond.code yX3_isPiano cX3_isPiano 2 (some .boolean), Cond.methodLink RX3 40 yX3_isPlace, Cond.static yX3_isPlace, Cond.code yX3_isPlace cX3_isPlace 1 (some .boolean), Cond.methodLink RX3 36 yX3_within, Cond.static yX3_within, Cond.code yX3_within cX3_within 3 (some .boolean), Cond.methodLink RX3 44 yX3_pianoPart, Cond.instanceMethod yX3_pianoPart, Cond.selects RX3 yX3_pianoPart yX3_pianoPart, Cond.code yX3_pianoPart cX3_pianoPart 3 (some .int), Cond.methodLink RX3 32 yX3_moves, Cond.static yX3_moves, Cond.code yX3_moves cX3_moves 5 none, Cond.methodLink RX3 112 yX3_hour, Cond.instanceMethod yX3_hour, Cond.selects RX3 yX3_hour yX3_hour, Cond.code yX3_hour cX3_hour 4 none]
def wsX3_coveredIn_r2 : List Cond := [Cond.methodLink RX3 51 yX3_rainsIn, Cond.instanceMethod yX3_rainsIn, Cond.selects RX3 yX3_rainsIn yX3_rainsIn, Cond.code yX3_rainsIn cX3_rainsIn 2 (some .boolean), Cond.methodLink RX3 98 yX3_keepersGo, Cond.instanceMethod yX3_keepersGo, Cond.selects RX3 yX3_keepersGo yX3_keepersGo, Cond.code yX3_keepersGo cX3_keepersGo 3 none, Cond.fieldLink RX3 57 "PianoCoversModel" "chosen" "I", Cond.methodLink RX3 87 yX3_isRainAhead, Cond.instanceMethod yX3_isRainAhead, Cond.selects RX3 yX3_isRainAhead yX3_isRainAhead, Cond.code yX3_isRainAhead cX3_isRainAhead 3 (some .boolean), Cond.methodLink RX3 91 yX3_keeperGoes, Cond.instanceMethod yX3_keeperGoes, Cond.selects RX3 yX3_keeperGoes yX3_keeperGoes, Cond.code yX3_keeperGoes cX3_keeperGoes 5 none, Cond.methodLink RX3 81 yX3_nearest, Cond.instanceMethod yX3_nearest, Cond.selects RX3 yX3_nearest yX3_nearest, Cond.code yX3_nearest cX3_nearest 6 (some .int), Cond.methodLink RX3 63 yX3_isWanted, Cond.instanceMethod yX3_isWanted, Cond.selects RX3 yX3_isWanted yX3_isWanted]
def wsX3_coveredIn_r3 : List Cond := [Cond.code yX3_isWanted cX3_isWanted 3 (some .boolean), Cond.methodLink RX3 60 yX3_isOpen, Cond.instanceMethod yX3_isOpen, Cond.selects RX3 yX3_isOpen yX3_isOpen, Cond.code yX3_isOpen cX3_isOpen 2 (some .boolean), Cond.methodLink RX3 54 yX3_keeperPart, Cond.instanceMethod yX3_keeperPart, Cond.selects RX3 yX3_keeperPart yX3_keeperPart, Cond.code yX3_keeperPart cX3_keeperPart 3 (some .int), Cond.methodLink RX3 67 yX3_size, Cond.static yX3_size, Cond.code yX3_size cX3_size 1 (some .int), Cond.methodLink RX3 84 yX3_does, Cond.instanceMethod yX3_does, Cond.selects RX3 yX3_does yX3_does, Cond.code yX3_does cX3_does 4 none, Cond.methodLink RX3 71 yX3_adds, Cond.instanceMethod yX3_adds, Cond.selects RX3 yX3_adds yX3_adds, Cond.code yX3_adds cX3_adds 4 none, Cond.methodLink RX3 75 yX3_setPiano, Cond.instanceMethod yX3_setPiano, Cond.selects RX3 yX3_setPiano yX3_setPiano, Cond.code yX3_setPiano cX3_setPiano 4 none]
def wsX3_coveredIn_r4 : List Cond := [Cond.methodLink RX3 78 yX3_held, Cond.static yX3_held, Cond.code yX3_held cX3_held 1 (some .int), Cond.methodLink RX3 101 yX3_rainsOn, Cond.instanceMethod yX3_rainsOn, Cond.selects RX3 yX3_rainsOn yX3_rainsOn, Cond.code yX3_rainsOn cX3_rainsOn 2 none, Cond.methodLink RX3 105 yX3_dries, Cond.instanceMethod yX3_dries, Cond.selects RX3 yX3_dries yX3_dries, Cond.code yX3_dries cX3_dries 4 none, Cond.methodLink RX3 109 yX3_thieves, Cond.instanceMethod yX3_thieves, Cond.selects RX3 yX3_thieves yX3_thieves, Cond.code yX3_thieves cX3_thieves 3 none, Cond.methodLink RX3 95 yX3_keepersAt, Cond.instanceMethod yX3_keepersAt, Cond.selects RX3 yX3_keepersAt yX3_keepersAt, Cond.code yX3_keepersAt cX3_keepersAt 4 (some .int)]
def wsX3_coveredIn : List Cond := .code yX3_coveredIn cX3_coveredIn 4 (some .int) :: ((wsX3_coveredIn_r1 ++ (wsX3_coveredIn_r2 ++ (wsX3_coveredIn_r3 ++ wsX3_coveredIn_r4))) ++ wsX30)
def wsX3_willBeWet_r1 : List Cond := [Cond.fieldLink RX3 7 "PianoCoversModel" "state" "[I", Cond.fieldLink RX3 13 "PianoCoversModel" "kept" "[I", Cond.methodLink RX3 36 yX3_within, Cond.static yX3_within, Cond.initialized RX3, Cond.code yX3_within cX3_within 3 (some .boolean), Cond.methodLink RX3 32 yX3_moves, Cond.static yX3_moves, Cond.code yX3_moves cX3_moves 5 none, Cond.methodLink RX3 147 yX3_passes, Cond.instanceMethod yX3_passes, Cond.selects RX3 yX3_passes yX3_passes, Cond.code yX3_passes cX3_passes 4 (some .int), Cond.methodLink RX3 112 yX3_hour, Cond.instanceMethod yX3_hour, Cond.selects RX3 yX3_hour yX3_hour, Cond.code yX3_hour cX3_hour 4 none, Cond.methodLink RX3 51 yX3_rainsIn, Cond.instanceMethod yX3_rainsIn, Cond.selects RX3 yX3_rainsIn yX3_rainsIn, Cond.code yX3_rainsIn cX3_rainsIn 2 (some .boolean), Cond.methodLink RX3 98 yX3_keepersGo, Cond.instanceMethod yX3_keepersGo, Cond.selects RX3 yX3_keepersGo yX3_keepersGo]
def wsX3_willBeWet_r2 : List Cond := [Cond.code yX3_keepersGo cX3_keepersGo 3 none, Cond.fieldLink RX3 57 "PianoCoversModel" "chosen" "I", Cond.methodLink RX3 87 yX3_isRainAhead, Cond.instanceMethod yX3_isRainAhead, Cond.selects RX3 yX3_isRainAhead yX3_isRainAhead, Cond.code yX3_isRainAhead cX3_isRainAhead 3 (some .boolean), Cond.methodLink RX3 91 yX3_keeperGoes, Cond.instanceMethod yX3_keeperGoes, Cond.selects RX3 yX3_keeperGoes yX3_keeperGoes, Cond.code yX3_keeperGoes cX3_keeperGoes 5 none, Cond.methodLink RX3 81 yX3_nearest, Cond.instanceMethod yX3_nearest, Cond.selects RX3 yX3_nearest yX3_nearest, Cond.code yX3_nearest cX3_nearest 6 (some .int), Cond.methodLink RX3 63 yX3_isWanted, Cond.instanceMethod yX3_isWanted, Cond.selects RX3 yX3_isWanted yX3_isWanted, Cond.code yX3_isWanted cX3_isWanted 3 (some .boolean), Cond.methodLink RX3 48 yX3_isPiano, Cond.instanceMethod yX3_isPiano, Cond.selects RX3 yX3_isPiano yX3_isPiano, Cond.code yX3_isPiano cX3_isPiano 2 (some .boolean), Cond.methodLink RX3 40 yX3_isPlace, Cond.static yX3_isPlace]
def wsX3_willBeWet_r3 : List Cond := [Cond.code yX3_isPlace cX3_isPlace 1 (some .boolean), Cond.methodLink RX3 44 yX3_pianoPart, Cond.instanceMethod yX3_pianoPart, Cond.selects RX3 yX3_pianoPart yX3_pianoPart, Cond.code yX3_pianoPart cX3_pianoPart 3 (some .int), Cond.methodLink RX3 60 yX3_isOpen, Cond.instanceMethod yX3_isOpen, Cond.selects RX3 yX3_isOpen yX3_isOpen, Cond.code yX3_isOpen cX3_isOpen 2 (some .boolean), Cond.methodLink RX3 54 yX3_keeperPart, Cond.instanceMethod yX3_keeperPart, Cond.selects RX3 yX3_keeperPart yX3_keeperPart, Cond.code yX3_keeperPart cX3_keeperPart 3 (some .int), Cond.methodLink RX3 67 yX3_size, Cond.static yX3_size, Cond.code yX3_size cX3_size 1 (some .int), Cond.methodLink RX3 84 yX3_does, Cond.instanceMethod yX3_does, Cond.selects RX3 yX3_does yX3_does, Cond.code yX3_does cX3_does 4 none, Cond.methodLink RX3 71 yX3_adds, Cond.instanceMethod yX3_adds, Cond.selects RX3 yX3_adds yX3_adds, Cond.code yX3_adds cX3_adds 4 none]
end
section
def wsX3_willBeWet_r4 : List Cond := [Cond.methodLink RX3 75 yX3_setPiano, Cond.instanceMethod yX3_setPiano, Cond.selects RX3 yX3_setPiano yX3_setPiano, Cond.code yX3_setPiano cX3_setPiano 4 none, Cond.methodLink RX3 78 yX3_held, Cond.static yX3_held, Cond.code yX3_held cX3_held 1 (some .int), Cond.methodLink RX3 101 yX3_rainsOn, Cond.instanceMethod yX3_rainsOn, Cond.selects RX3 yX3_rainsOn yX3_rainsOn, Cond.code yX3_rainsOn cX3_rainsOn 2 none, Cond.methodLink RX3 105 yX3_dries, Cond.instanceMethod yX3_dries, Cond.selects RX3 yX3_dries yX3_dries, Cond.code yX3_dries cX3_dries 4 none, Cond.methodLink RX3 109 yX3_thieves, Cond.instanceMethod yX3_thieves, Cond.selects RX3 yX3_thieves yX3_thieves, Cond.code yX3_thieves cX3_thieves 3 none, Cond.methodLink RX3 95 yX3_keepersAt, Cond.instanceMethod yX3_keepersAt, Cond.selects RX3 yX3_keepersAt yX3_keepersAt, Cond.code yX3_keepersAt cX3_keepersAt 4 (some .int)]
def wsX3_willBeWet : List Cond := .code yX3_willBeWet cX3_willBeWet 4 (some .int) :: ((wsX3_willBeWet_r1 ++ (wsX3_willBeWet_r2 ++ (wsX3_willBeWet_r3 ++ wsX3_willBeWet_r4))) ++ wsX30)
def wsX3_bestPlace_r1 : List Cond := [Cond.fieldLink RX3 7 "PianoCoversModel" "state" "[I", Cond.fieldLink RX3 13 "PianoCoversModel" "kept" "[I", Cond.methodLink RX3 36 yX3_within, Cond.static yX3_within, Cond.initialized RX3, Cond.code yX3_within cX3_within 3 (some .boolean), Cond.methodLink RX3 32 yX3_moves, Cond.static yX3_moves, Cond.code yX3_moves cX3_moves 5 none, Cond.methodLink RX3 135 yX3_keeperComes, Cond.instanceMethod yX3_keeperComes, Cond.selects RX3 yX3_keeperComes yX3_keeperComes, Cond.code yX3_keeperComes cX3_keeperComes 4 (some .int), Cond.methodLink RX3 147 yX3_passes, Cond.instanceMethod yX3_passes, Cond.selects RX3 yX3_passes yX3_passes, Cond.code yX3_passes cX3_passes 4 (some .int), Cond.methodLink RX3 112 yX3_hour, Cond.instanceMethod yX3_hour, Cond.selects RX3 yX3_hour yX3_hour, Cond.code yX3_hour cX3_hour 4 none, Cond.methodLink RX3 51 yX3_rainsIn, Cond.instanceMethod yX3_rainsIn, Cond.selects RX3 yX3_rainsIn yX3_rainsIn]
def wsX3_bestPlace_r2 : List Cond := [Cond.code yX3_rainsIn cX3_rainsIn 2 (some .boolean), Cond.methodLink RX3 98 yX3_keepersGo, Cond.instanceMethod yX3_keepersGo, Cond.selects RX3 yX3_keepersGo yX3_keepersGo, Cond.code yX3_keepersGo cX3_keepersGo 3 none, Cond.fieldLink RX3 57 "PianoCoversModel" "chosen" "I", Cond.methodLink RX3 87 yX3_isRainAhead, Cond.instanceMethod yX3_isRainAhead, Cond.selects RX3 yX3_isRainAhead yX3_isRainAhead, Cond.code yX3_isRainAhead cX3_isRainAhead 3 (some .boolean), Cond.methodLink RX3 91 yX3_keeperGoes, Cond.instanceMethod yX3_keeperGoes, Cond.selects RX3 yX3_keeperGoes yX3_keeperGoes, Cond.code yX3_keeperGoes cX3_keeperGoes 5 none, Cond.methodLink RX3 81 yX3_nearest, Cond.instanceMethod yX3_nearest, Cond.selects RX3 yX3_nearest yX3_nearest, Cond.code yX3_nearest cX3_nearest 6 (some .int), Cond.methodLink RX3 63 yX3_isWanted, Cond.instanceMethod yX3_isWanted, Cond.selects RX3 yX3_isWanted yX3_isWanted, Cond.code yX3_isWanted cX3_isWanted 3 (some .boolean), Cond.methodLink RX3 48 yX3_isPiano, Cond.instanceMethod yX3_isPiano]
def wsX3_bestPlace_r3 : List Cond := [Cond.selects RX3 yX3_isPiano yX3_isPiano, Cond.code yX3_isPiano cX3_isPiano 2 (some .boolean), Cond.methodLink RX3 40 yX3_isPlace, Cond.static yX3_isPlace, Cond.code yX3_isPlace cX3_isPlace 1 (some .boolean), Cond.methodLink RX3 44 yX3_pianoPart, Cond.instanceMethod yX3_pianoPart, Cond.selects RX3 yX3_pianoPart yX3_pianoPart, Cond.code yX3_pianoPart cX3_pianoPart 3 (some .int), Cond.methodLink RX3 60 yX3_isOpen, Cond.instanceMethod yX3_isOpen, Cond.selects RX3 yX3_isOpen yX3_isOpen, Cond.code yX3_isOpen cX3_isOpen 2 (some .boolean), Cond.methodLink RX3 54 yX3_keeperPart, Cond.instanceMethod yX3_keeperPart, Cond.selects RX3 yX3_keeperPart yX3_keeperPart, Cond.code yX3_keeperPart cX3_keeperPart 3 (some .int), Cond.methodLink RX3 67 yX3_size, Cond.static yX3_size, Cond.code yX3_size cX3_size 1 (some .int), Cond.methodLink RX3 84 yX3_does, Cond.instanceMethod yX3_does, Cond.selects RX3 yX3_does yX3_does, Cond.code yX3_does cX3_does 4 none]
def wsX3_bestPlace_r4 : List Cond := [Cond.methodLink RX3 71 yX3_adds, Cond.instanceMethod yX3_adds, Cond.selects RX3 yX3_adds yX3_adds, Cond.code yX3_adds cX3_adds 4 none, Cond.methodLink RX3 75 yX3_setPiano, Cond.instanceMethod yX3_setPiano, Cond.selects RX3 yX3_setPiano yX3_setPiano, Cond.code yX3_setPiano cX3_setPiano 4 none, Cond.methodLink RX3 78 yX3_held, Cond.static yX3_held, Cond.code yX3_held cX3_held 1 (some .int), Cond.methodLink RX3 101 yX3_rainsOn, Cond.instanceMethod yX3_rainsOn, Cond.selects RX3 yX3_rainsOn yX3_rainsOn, Cond.code yX3_rainsOn cX3_rainsOn 2 none, Cond.methodLink RX3 105 yX3_dries, Cond.instanceMethod yX3_dries, Cond.selects RX3 yX3_dries yX3_dries, Cond.code yX3_dries cX3_dries 4 none, Cond.methodLink RX3 109 yX3_thieves, Cond.instanceMethod yX3_thieves, Cond.selects RX3 yX3_thieves yX3_thieves, Cond.code yX3_thieves cX3_thieves 3 none, Cond.methodLink RX3 95 yX3_keepersAt]
def wsX3_bestPlace_r5 : List Cond := [Cond.instanceMethod yX3_keepersAt, Cond.selects RX3 yX3_keepersAt yX3_keepersAt, Cond.code yX3_keepersAt cX3_keepersAt 4 (some .int)]
def wsX3_bestPlace : List Cond := .code yX3_bestPlace cX3_bestPlace 7 (some .int) :: ((wsX3_bestPlace_r1 ++ (wsX3_bestPlace_r2 ++ (wsX3_bestPlace_r3 ++ (wsX3_bestPlace_r4 ++ wsX3_bestPlace_r5)))) ++ wsX30)
def wsX3_put : List Cond := .code yX3_put cX3_put 8 (some .int) :: ([.constantLong RX3 159 (255), .fieldLink RX3 153 "PianoCoversModel" "padLength" "I", .fieldLink RX3 25 "PianoCoversModel" "pad" "[I", .methodLink RX3 36 yX3_within, .static yX3_within, .initialized RX3, .code yX3_within cX3_within 3 (some .boolean)] ++ wsX30)
def wsX3_wipe : List Cond := .code yX3_wipe cX3_wipe 2 (some .int) :: ([.fieldLink RX3 153 "PianoCoversModel" "padLength" "I"] ++ wsX30)
def wsX3_character : List Cond := .code yX3_character cX3_character 2 (some .int) :: ([.fieldLink RX3 153 "PianoCoversModel" "padLength" "I", .fieldLink RX3 25 "PianoCoversModel" "pad" "[I"] ++ wsX30)
def wsX3_isNext : List Cond := .code yX3_isNext cX3_isNext 3 (some .boolean) :: ([.fieldLink RX3 161 "PianoCoversModel" "at" "I", .methodLink RX3 164 yX3_character, .instanceMethod yX3_character, .selects RX3 yX3_character yX3_character, .initialized RX3, .code yX3_character cX3_character 2 (some .int), .fieldLink RX3 153 "PianoCoversModel" "padLength" "I", .fieldLink RX3 25 "PianoCoversModel" "pad" "[I"] ++ wsX30)
def wsX3_isDigit : List Cond := .code yX3_isDigit cX3_isDigit 1 (some .boolean) :: ([.fieldLink RX3 161 "PianoCoversModel" "at" "I", .methodLink RX3 164 yX3_character, .instanceMethod yX3_character, .selects RX3 yX3_character yX3_character, .initialized RX3, .code yX3_character cX3_character 2 (some .int), .fieldLink RX3 153 "PianoCoversModel" "padLength" "I", .fieldLink RX3 25 "PianoCoversModel" "pad" "[I", .methodLink RX3 36 yX3_within, .static yX3_within, .code yX3_within cX3_within 3 (some .boolean)] ++ wsX30)
def wsX3_takeNumber : List Cond := .code yX3_takeNumber cX3_takeNumber 3 (some .int) :: ([.fieldLink RX3 161 "PianoCoversModel" "at" "I", .methodLink RX3 167 yX3_isDigit, .instanceMethod yX3_isDigit, .selects RX3 yX3_isDigit yX3_isDigit, .initialized RX3, .code yX3_isDigit cX3_isDigit 1 (some .boolean), .methodLink RX3 164 yX3_character, .instanceMethod yX3_character, .selects RX3 yX3_character yX3_character, .code yX3_character cX3_character 2 (some .int), .fieldLink RX3 153 "PianoCoversModel" "padLength" "I", .fieldLink RX3 25 "PianoCoversModel" "pad" "[I", .methodLink RX3 36 yX3_within, .static yX3_within, .code yX3_within cX3_within 3 (some .boolean)] ++ wsX30)
def wsX3_takesNumber : List Cond := .code yX3_takesNumber cX3_takesNumber 1 (some .boolean) :: ([.fieldLink RX3 173 "PianoCoversModel" "number" "I", .methodLink RX3 170 yX3_takeNumber, .instanceMethod yX3_takeNumber, .selects RX3 yX3_takeNumber yX3_takeNumber, .initialized RX3, .code yX3_takeNumber cX3_takeNumber 3 (some .int), .fieldLink RX3 161 "PianoCoversModel" "at" "I", .methodLink RX3 167 yX3_isDigit, .instanceMethod yX3_isDigit, .selects RX3 yX3_isDigit yX3_isDigit, .code yX3_isDigit cX3_isDigit 1 (some .boolean), .methodLink RX3 164 yX3_character, .instanceMethod yX3_character, .selects RX3 yX3_character yX3_character, .code yX3_character cX3_character 2 (some .int), .fieldLink RX3 153 "PianoCoversModel" "padLength" "I", .fieldLink RX3 25 "PianoCoversModel" "pad" "[I", .methodLink RX3 36 yX3_within, .static yX3_within, .code yX3_within cX3_within 3 (some .boolean)] ++ wsX30)
def wsX3_takesHours : List Cond := .code yX3_takesHours cX3_takesHours 2 (some .boolean) :: ([.fieldLink RX3 173 "PianoCoversModel" "number" "I", .methodLink RX3 176 yX3_isNext, .instanceMethod yX3_isNext, .selects RX3 yX3_isNext yX3_isNext, .initialized RX3, .code yX3_isNext cX3_isNext 3 (some .boolean), .fieldLink RX3 161 "PianoCoversModel" "at" "I", .methodLink RX3 164 yX3_character, .instanceMethod yX3_character, .selects RX3 yX3_character yX3_character, .code yX3_character cX3_character 2 (some .int), .fieldLink RX3 153 "PianoCoversModel" "padLength" "I", .fieldLink RX3 25 "PianoCoversModel" "pad" "[I", .methodLink RX3 170 yX3_takeNumber, .instanceMethod yX3_takeNumber, .selects RX3 yX3_takeNumber yX3_takeNumber, .code yX3_takeNumber cX3_takeNumber 3 (some .int), .methodLink RX3 167 yX3_isDigit, .instanceMethod yX3_isDigit, .selects RX3 yX3_isDigit yX3_isDigit, .code yX3_isDigit cX3_isDigit 1 (some .boolean), .methodLink RX3 36 yX3_within, .static yX3_within, .code yX3_within cX3_within 3 (some .boolean)] ++ wsX30)
def wsX3_readsOrder_r1 : List Cond := [Cond.fieldLink RX3 161 "PianoCoversModel" "at" "I", Cond.fieldLink RX3 179 "PianoCoversModel" "letter" "I", Cond.fieldLink RX3 182 "PianoCoversModel" "hasCover" "Z", Cond.methodLink RX3 164 yX3_character, Cond.instanceMethod yX3_character, Cond.selects RX3 yX3_character yX3_character, Cond.initialized RX3, Cond.code yX3_character cX3_character 2 (some .int), Cond.fieldLink RX3 153 "PianoCoversModel" "padLength" "I", Cond.fieldLink RX3 25 "PianoCoversModel" "pad" "[I", Cond.methodLink RX3 186 yX3_takesNumber, Cond.instanceMethod yX3_takesNumber, Cond.selects RX3 yX3_takesNumber yX3_takesNumber, Cond.code yX3_takesNumber cX3_takesNumber 1 (some .boolean), Cond.fieldLink RX3 173 "PianoCoversModel" "number" "I", Cond.methodLink RX3 170 yX3_takeNumber, Cond.instanceMethod yX3_takeNumber, Cond.selects RX3 yX3_takeNumber yX3_takeNumber, Cond.code yX3_takeNumber cX3_takeNumber 3 (some .int), Cond.methodLink RX3 167 yX3_isDigit, Cond.instanceMethod yX3_isDigit, Cond.selects RX3 yX3_isDigit yX3_isDigit, Cond.code yX3_isDigit cX3_isDigit 1 (some .boolean), Cond.methodLink RX3 36 yX3_within]
def wsX3_readsOrder_r2 : List Cond := [Cond.static yX3_within, Cond.code yX3_within cX3_within 3 (some .boolean), Cond.methodLink RX3 176 yX3_isNext, Cond.instanceMethod yX3_isNext, Cond.selects RX3 yX3_isNext yX3_isNext, Cond.code yX3_isNext cX3_isNext 3 (some .boolean), Cond.methodLink RX3 189 yX3_takesHours, Cond.instanceMethod yX3_takesHours, Cond.selects RX3 yX3_takesHours yX3_takesHours, Cond.code yX3_takesHours cX3_takesHours 2 (some .boolean)]
def wsX3_readsOrder : List Cond := .code yX3_readsOrder cX3_readsOrder 2 (some .boolean) :: ((wsX3_readsOrder_r1 ++ wsX3_readsOrder_r2) ++ wsX30)
def wsX3_findFault_r1 : List Cond := [Cond.fieldLink RX3 161 "PianoCoversModel" "at" "I", Cond.fieldLink RX3 153 "PianoCoversModel" "padLength" "I", Cond.methodLink RX3 192 yX3_readsOrder, Cond.instanceMethod yX3_readsOrder, Cond.selects RX3 yX3_readsOrder yX3_readsOrder, Cond.initialized RX3, Cond.code yX3_readsOrder cX3_readsOrder 2 (some .boolean), Cond.fieldLink RX3 179 "PianoCoversModel" "letter" "I", Cond.fieldLink RX3 182 "PianoCoversModel" "hasCover" "Z", Cond.methodLink RX3 164 yX3_character, Cond.instanceMethod yX3_character, Cond.selects RX3 yX3_character yX3_character, Cond.code yX3_character cX3_character 2 (some .int), Cond.fieldLink RX3 25 "PianoCoversModel" "pad" "[I", Cond.methodLink RX3 186 yX3_takesNumber, Cond.instanceMethod yX3_takesNumber, Cond.selects RX3 yX3_takesNumber yX3_takesNumber, Cond.code yX3_takesNumber cX3_takesNumber 1 (some .boolean), Cond.fieldLink RX3 173 "PianoCoversModel" "number" "I", Cond.methodLink RX3 170 yX3_takeNumber, Cond.instanceMethod yX3_takeNumber, Cond.selects RX3 yX3_takeNumber yX3_takeNumber, Cond.code yX3_takeNumber cX3_takeNumber 3 (some .int), Cond.methodLink RX3 167 yX3_isDigit]
def wsX3_findFault_r2 : List Cond := [Cond.instanceMethod yX3_isDigit, Cond.selects RX3 yX3_isDigit yX3_isDigit, Cond.code yX3_isDigit cX3_isDigit 1 (some .boolean), Cond.methodLink RX3 36 yX3_within, Cond.static yX3_within, Cond.code yX3_within cX3_within 3 (some .boolean), Cond.methodLink RX3 176 yX3_isNext, Cond.instanceMethod yX3_isNext, Cond.selects RX3 yX3_isNext yX3_isNext, Cond.code yX3_isNext cX3_isNext 3 (some .boolean), Cond.methodLink RX3 189 yX3_takesHours, Cond.instanceMethod yX3_takesHours, Cond.selects RX3 yX3_takesHours yX3_takesHours, Cond.code yX3_takesHours cX3_takesHours 2 (some .boolean)]
def wsX3_findFault : List Cond := .code yX3_findFault cX3_findFault 1 (some .int) :: ((wsX3_findFault_r1 ++ wsX3_findFault_r2) ++ wsX30)
def wsX3_fault_r1 : List Cond := [Cond.methodLink RX3 195 yX3_findFault, Cond.instanceMethod yX3_findFault, Cond.selects RX3 yX3_findFault yX3_findFault, Cond.initialized RX3, Cond.code yX3_findFault cX3_findFault 1 (some .int), Cond.fieldLink RX3 161 "PianoCoversModel" "at" "I", Cond.fieldLink RX3 153 "PianoCoversModel" "padLength" "I", Cond.methodLink RX3 192 yX3_readsOrder, Cond.instanceMethod yX3_readsOrder, Cond.selects RX3 yX3_readsOrder yX3_readsOrder, Cond.code yX3_readsOrder cX3_readsOrder 2 (some .boolean), Cond.fieldLink RX3 179 "PianoCoversModel" "letter" "I", Cond.fieldLink RX3 182 "PianoCoversModel" "hasCover" "Z", Cond.methodLink RX3 164 yX3_character, Cond.instanceMethod yX3_character, Cond.selects RX3 yX3_character yX3_character, Cond.code yX3_character cX3_character 2 (some .int), Cond.fieldLink RX3 25 "PianoCoversModel" "pad" "[I", Cond.methodLink RX3 186 yX3_takesNumber, Cond.instanceMethod yX3_takesNumber, Cond.selects RX3 yX3_takesNumber yX3_takesNumber, Cond.code yX3_takesNumber cX3_takesNumber 1 (some .boolean), Cond.fieldLink RX3 173 "PianoCoversModel" "number" "I", Cond.methodLink RX3 170 yX3_takeNumber]
def wsX3_fault_r2 : List Cond := [Cond.instanceMethod yX3_takeNumber, Cond.selects RX3 yX3_takeNumber yX3_takeNumber, Cond.code yX3_takeNumber cX3_takeNumber 3 (some .int), Cond.methodLink RX3 167 yX3_isDigit, Cond.instanceMethod yX3_isDigit, Cond.selects RX3 yX3_isDigit yX3_isDigit, Cond.code yX3_isDigit cX3_isDigit 1 (some .boolean), Cond.methodLink RX3 36 yX3_within, Cond.static yX3_within, Cond.code yX3_within cX3_within 3 (some .boolean), Cond.methodLink RX3 176 yX3_isNext, Cond.instanceMethod yX3_isNext, Cond.selects RX3 yX3_isNext yX3_isNext, Cond.code yX3_isNext cX3_isNext 3 (some .boolean), Cond.methodLink RX3 189 yX3_takesHours, Cond.instanceMethod yX3_takesHours, Cond.selects RX3 yX3_takesHours yX3_takesHours, Cond.code yX3_takesHours cX3_takesHours 2 (some .boolean)]
def wsX3_fault : List Cond := .code yX3_fault cX3_fault 1 (some .int) :: ((wsX3_fault_r1 ++ wsX3_fault_r2) ++ wsX30)
def wsX3_whyNotDone_r1 : List Cond := [Cond.fieldLink RX3 179 "PianoCoversModel" "letter" "I", Cond.fieldLink RX3 173 "PianoCoversModel" "number" "I", Cond.fieldLink RX3 182 "PianoCoversModel" "hasCover" "Z", Cond.methodLink RX3 122 yX3_whyNoPiano, Cond.instanceMethod yX3_whyNoPiano, Cond.selects RX3 yX3_whyNoPiano yX3_whyNoPiano, Cond.initialized RX3, Cond.code yX3_whyNoPiano cX3_whyNoPiano 3 (some .int), Cond.methodLink RX3 40 yX3_isPlace, Cond.static yX3_isPlace, Cond.code yX3_isPlace cX3_isPlace 1 (some .boolean), Cond.methodLink RX3 36 yX3_within, Cond.static yX3_within, Cond.code yX3_within cX3_within 3 (some .boolean), Cond.methodLink RX3 48 yX3_isPiano, Cond.instanceMethod yX3_isPiano, Cond.selects RX3 yX3_isPiano yX3_isPiano, Cond.code yX3_isPiano cX3_isPiano 2 (some .boolean), Cond.methodLink RX3 44 yX3_pianoPart, Cond.instanceMethod yX3_pianoPart, Cond.selects RX3 yX3_pianoPart yX3_pianoPart, Cond.code yX3_pianoPart cX3_pianoPart 3 (some .int), Cond.fieldLink RX3 7 "PianoCoversModel" "state" "[I", Cond.methodLink RX3 132 yX3_whyNoKeeper]
def wsX3_whyNotDone_r2 : List Cond := [Cond.instanceMethod yX3_whyNoKeeper, Cond.selects RX3 yX3_whyNoKeeper yX3_whyNoKeeper, Cond.code yX3_whyNoKeeper cX3_whyNoKeeper 2 (some .int), Cond.methodLink RX3 138 yX3_whyNoCover, Cond.instanceMethod yX3_whyNoCover, Cond.selects RX3 yX3_whyNoCover yX3_whyNoCover, Cond.code yX3_whyNoCover cX3_whyNoCover 2 (some .int), Cond.methodLink RX3 144 yX3_whyNotPassed, Cond.instanceMethod yX3_whyNotPassed, Cond.selects RX3 yX3_whyNotPassed yX3_whyNotPassed, Cond.code yX3_whyNotPassed cX3_whyNotPassed 2 (some .int)]
def wsX3_whyNotDone : List Cond := .code yX3_whyNotDone cX3_whyNotDone 1 (some .int) :: ((wsX3_whyNotDone_r1 ++ wsX3_whyNotDone_r2) ++ wsX30)
def wsX3_doesOrder_r1 : List Cond := [Cond.fieldLink RX3 179 "PianoCoversModel" "letter" "I", Cond.fieldLink RX3 173 "PianoCoversModel" "number" "I", Cond.fieldLink RX3 182 "PianoCoversModel" "hasCover" "Z", Cond.fieldLink RX3 7 "PianoCoversModel" "state" "[I", Cond.methodLink RX3 125 yX3_pianoComes, Cond.instanceMethod yX3_pianoComes, Cond.selects RX3 yX3_pianoComes yX3_pianoComes, Cond.initialized RX3, Cond.code yX3_pianoComes cX3_pianoComes 3 none, Cond.methodLink RX3 75 yX3_setPiano, Cond.instanceMethod yX3_setPiano, Cond.selects RX3 yX3_setPiano yX3_setPiano, Cond.code yX3_setPiano cX3_setPiano 4 none, Cond.methodLink RX3 135 yX3_keeperComes, Cond.instanceMethod yX3_keeperComes, Cond.selects RX3 yX3_keeperComes yX3_keeperComes, Cond.code yX3_keeperComes cX3_keeperComes 4 (some .int), Cond.methodLink RX3 147 yX3_passes, Cond.instanceMethod yX3_passes, Cond.selects RX3 yX3_passes yX3_passes, Cond.code yX3_passes cX3_passes 4 (some .int), Cond.methodLink RX3 112 yX3_hour, Cond.instanceMethod yX3_hour, Cond.selects RX3 yX3_hour yX3_hour]
def wsX3_doesOrder_r2 : List Cond := [Cond.code yX3_hour cX3_hour 4 none, Cond.methodLink RX3 51 yX3_rainsIn, Cond.instanceMethod yX3_rainsIn, Cond.selects RX3 yX3_rainsIn yX3_rainsIn, Cond.code yX3_rainsIn cX3_rainsIn 2 (some .boolean), Cond.methodLink RX3 98 yX3_keepersGo, Cond.instanceMethod yX3_keepersGo, Cond.selects RX3 yX3_keepersGo yX3_keepersGo, Cond.code yX3_keepersGo cX3_keepersGo 3 none, Cond.fieldLink RX3 57 "PianoCoversModel" "chosen" "I", Cond.methodLink RX3 87 yX3_isRainAhead, Cond.instanceMethod yX3_isRainAhead, Cond.selects RX3 yX3_isRainAhead yX3_isRainAhead, Cond.code yX3_isRainAhead cX3_isRainAhead 3 (some .boolean), Cond.methodLink RX3 91 yX3_keeperGoes, Cond.instanceMethod yX3_keeperGoes, Cond.selects RX3 yX3_keeperGoes yX3_keeperGoes, Cond.code yX3_keeperGoes cX3_keeperGoes 5 none, Cond.methodLink RX3 81 yX3_nearest, Cond.instanceMethod yX3_nearest, Cond.selects RX3 yX3_nearest yX3_nearest, Cond.code yX3_nearest cX3_nearest 6 (some .int), Cond.methodLink RX3 63 yX3_isWanted, Cond.instanceMethod yX3_isWanted]
def wsX3_doesOrder_r3 : List Cond := [Cond.selects RX3 yX3_isWanted yX3_isWanted, Cond.code yX3_isWanted cX3_isWanted 3 (some .boolean), Cond.methodLink RX3 48 yX3_isPiano, Cond.instanceMethod yX3_isPiano, Cond.selects RX3 yX3_isPiano yX3_isPiano, Cond.code yX3_isPiano cX3_isPiano 2 (some .boolean), Cond.methodLink RX3 40 yX3_isPlace, Cond.static yX3_isPlace, Cond.code yX3_isPlace cX3_isPlace 1 (some .boolean), Cond.methodLink RX3 36 yX3_within, Cond.static yX3_within, Cond.code yX3_within cX3_within 3 (some .boolean), Cond.methodLink RX3 44 yX3_pianoPart, Cond.instanceMethod yX3_pianoPart, Cond.selects RX3 yX3_pianoPart yX3_pianoPart, Cond.code yX3_pianoPart cX3_pianoPart 3 (some .int), Cond.methodLink RX3 60 yX3_isOpen, Cond.instanceMethod yX3_isOpen, Cond.selects RX3 yX3_isOpen yX3_isOpen, Cond.code yX3_isOpen cX3_isOpen 2 (some .boolean), Cond.methodLink RX3 54 yX3_keeperPart, Cond.instanceMethod yX3_keeperPart, Cond.selects RX3 yX3_keeperPart yX3_keeperPart, Cond.code yX3_keeperPart cX3_keeperPart 3 (some .int)]
def wsX3_doesOrder_r4 : List Cond := [Cond.methodLink RX3 67 yX3_size, Cond.static yX3_size, Cond.code yX3_size cX3_size 1 (some .int), Cond.methodLink RX3 84 yX3_does, Cond.instanceMethod yX3_does, Cond.selects RX3 yX3_does yX3_does, Cond.code yX3_does cX3_does 4 none, Cond.methodLink RX3 71 yX3_adds, Cond.instanceMethod yX3_adds, Cond.selects RX3 yX3_adds yX3_adds, Cond.code yX3_adds cX3_adds 4 none, Cond.methodLink RX3 78 yX3_held, Cond.static yX3_held, Cond.code yX3_held cX3_held 1 (some .int), Cond.methodLink RX3 101 yX3_rainsOn, Cond.instanceMethod yX3_rainsOn, Cond.selects RX3 yX3_rainsOn yX3_rainsOn, Cond.code yX3_rainsOn cX3_rainsOn 2 none, Cond.methodLink RX3 105 yX3_dries, Cond.instanceMethod yX3_dries, Cond.selects RX3 yX3_dries yX3_dries, Cond.code yX3_dries cX3_dries 4 none, Cond.methodLink RX3 109 yX3_thieves, Cond.instanceMethod yX3_thieves]
def wsX3_doesOrder_r5 : List Cond := [Cond.selects RX3 yX3_thieves yX3_thieves, Cond.code yX3_thieves cX3_thieves 3 none, Cond.methodLink RX3 95 yX3_keepersAt, Cond.instanceMethod yX3_keepersAt, Cond.selects RX3 yX3_keepersAt yX3_keepersAt, Cond.code yX3_keepersAt cX3_keepersAt 4 (some .int)]
def wsX3_doesOrder : List Cond := .code yX3_doesOrder cX3_doesOrder 1 none :: ((wsX3_doesOrder_r1 ++ (wsX3_doesOrder_r2 ++ (wsX3_doesOrder_r3 ++ (wsX3_doesOrder_r4 ++ wsX3_doesOrder_r5)))) ++ wsX30)
def wsX3_carryOut_r1 : List Cond := [Cond.fieldLink RX3 161 "PianoCoversModel" "at" "I", Cond.fieldLink RX3 153 "PianoCoversModel" "padLength" "I", Cond.methodLink RX3 195 yX3_findFault, Cond.instanceMethod yX3_findFault, Cond.selects RX3 yX3_findFault yX3_findFault, Cond.initialized RX3, Cond.code yX3_findFault cX3_findFault 1 (some .int), Cond.methodLink RX3 192 yX3_readsOrder, Cond.instanceMethod yX3_readsOrder, Cond.selects RX3 yX3_readsOrder yX3_readsOrder, Cond.code yX3_readsOrder cX3_readsOrder 2 (some .boolean), Cond.fieldLink RX3 179 "PianoCoversModel" "letter" "I", Cond.fieldLink RX3 182 "PianoCoversModel" "hasCover" "Z", Cond.methodLink RX3 164 yX3_character, Cond.instanceMethod yX3_character, Cond.selects RX3 yX3_character yX3_character, Cond.code yX3_character cX3_character 2 (some .int), Cond.fieldLink RX3 25 "PianoCoversModel" "pad" "[I", Cond.methodLink RX3 186 yX3_takesNumber, Cond.instanceMethod yX3_takesNumber, Cond.selects RX3 yX3_takesNumber yX3_takesNumber, Cond.code yX3_takesNumber cX3_takesNumber 1 (some .boolean), Cond.fieldLink RX3 173 "PianoCoversModel" "number" "I", Cond.methodLink RX3 170 yX3_takeNumber]
def wsX3_carryOut_r2 : List Cond := [Cond.instanceMethod yX3_takeNumber, Cond.selects RX3 yX3_takeNumber yX3_takeNumber, Cond.code yX3_takeNumber cX3_takeNumber 3 (some .int), Cond.methodLink RX3 167 yX3_isDigit, Cond.instanceMethod yX3_isDigit, Cond.selects RX3 yX3_isDigit yX3_isDigit, Cond.code yX3_isDigit cX3_isDigit 1 (some .boolean), Cond.methodLink RX3 36 yX3_within, Cond.static yX3_within, Cond.code yX3_within cX3_within 3 (some .boolean), Cond.methodLink RX3 176 yX3_isNext, Cond.instanceMethod yX3_isNext, Cond.selects RX3 yX3_isNext yX3_isNext, Cond.code yX3_isNext cX3_isNext 3 (some .boolean), Cond.methodLink RX3 189 yX3_takesHours, Cond.instanceMethod yX3_takesHours, Cond.selects RX3 yX3_takesHours yX3_takesHours, Cond.code yX3_takesHours cX3_takesHours 2 (some .boolean), Cond.methodLink RX3 118 yX3_record, Cond.instanceMethod yX3_record, Cond.selects RX3 yX3_record yX3_record, Cond.code yX3_record cX3_record 2 none, Cond.fieldLink RX3 28 "PianoCoversModel" "recorded" "I", Cond.fieldLink RX3 16 "PianoCoversModel" "history" "[I"]
def wsX3_carryOut_r3 : List Cond := [Cond.fieldLink RX3 7 "PianoCoversModel" "state" "[I", Cond.methodLink RX3 32 yX3_moves, Cond.static yX3_moves, Cond.code yX3_moves cX3_moves 5 none, Cond.methodLink RX3 198 yX3_whyNotDone, Cond.instanceMethod yX3_whyNotDone, Cond.selects RX3 yX3_whyNotDone yX3_whyNotDone, Cond.code yX3_whyNotDone cX3_whyNotDone 1 (some .int), Cond.methodLink RX3 122 yX3_whyNoPiano, Cond.instanceMethod yX3_whyNoPiano, Cond.selects RX3 yX3_whyNoPiano yX3_whyNoPiano, Cond.code yX3_whyNoPiano cX3_whyNoPiano 3 (some .int), Cond.methodLink RX3 40 yX3_isPlace, Cond.static yX3_isPlace, Cond.code yX3_isPlace cX3_isPlace 1 (some .boolean), Cond.methodLink RX3 48 yX3_isPiano, Cond.instanceMethod yX3_isPiano, Cond.selects RX3 yX3_isPiano yX3_isPiano, Cond.code yX3_isPiano cX3_isPiano 2 (some .boolean), Cond.methodLink RX3 44 yX3_pianoPart, Cond.instanceMethod yX3_pianoPart, Cond.selects RX3 yX3_pianoPart yX3_pianoPart, Cond.code yX3_pianoPart cX3_pianoPart 3 (some .int), Cond.methodLink RX3 132 yX3_whyNoKeeper]
def wsX3_carryOut_r4 : List Cond := [Cond.instanceMethod yX3_whyNoKeeper, Cond.selects RX3 yX3_whyNoKeeper yX3_whyNoKeeper, Cond.code yX3_whyNoKeeper cX3_whyNoKeeper 2 (some .int), Cond.methodLink RX3 138 yX3_whyNoCover, Cond.instanceMethod yX3_whyNoCover, Cond.selects RX3 yX3_whyNoCover yX3_whyNoCover, Cond.code yX3_whyNoCover cX3_whyNoCover 2 (some .int), Cond.methodLink RX3 144 yX3_whyNotPassed, Cond.instanceMethod yX3_whyNotPassed, Cond.selects RX3 yX3_whyNotPassed yX3_whyNotPassed, Cond.code yX3_whyNotPassed cX3_whyNotPassed 2 (some .int), Cond.methodLink RX3 201 yX3_doesOrder, Cond.instanceMethod yX3_doesOrder, Cond.selects RX3 yX3_doesOrder yX3_doesOrder, Cond.code yX3_doesOrder cX3_doesOrder 1 none, Cond.methodLink RX3 125 yX3_pianoComes, Cond.instanceMethod yX3_pianoComes, Cond.selects RX3 yX3_pianoComes yX3_pianoComes, Cond.code yX3_pianoComes cX3_pianoComes 3 none, Cond.methodLink RX3 75 yX3_setPiano, Cond.instanceMethod yX3_setPiano, Cond.selects RX3 yX3_setPiano yX3_setPiano, Cond.code yX3_setPiano cX3_setPiano 4 none, Cond.methodLink RX3 135 yX3_keeperComes]
def wsX3_carryOut_r5 : List Cond := [Cond.instanceMethod yX3_keeperComes, Cond.selects RX3 yX3_keeperComes yX3_keeperComes, Cond.code yX3_keeperComes cX3_keeperComes 4 (some .int), Cond.methodLink RX3 147 yX3_passes, Cond.instanceMethod yX3_passes, Cond.selects RX3 yX3_passes yX3_passes, Cond.code yX3_passes cX3_passes 4 (some .int), Cond.methodLink RX3 112 yX3_hour, Cond.instanceMethod yX3_hour, Cond.selects RX3 yX3_hour yX3_hour, Cond.code yX3_hour cX3_hour 4 none, Cond.methodLink RX3 51 yX3_rainsIn, Cond.instanceMethod yX3_rainsIn, Cond.selects RX3 yX3_rainsIn yX3_rainsIn, Cond.code yX3_rainsIn cX3_rainsIn 2 (some .boolean), Cond.methodLink RX3 98 yX3_keepersGo, Cond.instanceMethod yX3_keepersGo, Cond.selects RX3 yX3_keepersGo yX3_keepersGo, Cond.code yX3_keepersGo cX3_keepersGo 3 none, Cond.fieldLink RX3 57 "PianoCoversModel" "chosen" "I", Cond.methodLink RX3 87 yX3_isRainAhead, Cond.instanceMethod yX3_isRainAhead, Cond.selects RX3 yX3_isRainAhead yX3_isRainAhead, Cond.code yX3_isRainAhead cX3_isRainAhead 3 (some .boolean)]
def wsX3_carryOut_r6 : List Cond := [Cond.methodLink RX3 91 yX3_keeperGoes, Cond.instanceMethod yX3_keeperGoes, Cond.selects RX3 yX3_keeperGoes yX3_keeperGoes, Cond.code yX3_keeperGoes cX3_keeperGoes 5 none, Cond.methodLink RX3 81 yX3_nearest, Cond.instanceMethod yX3_nearest, Cond.selects RX3 yX3_nearest yX3_nearest, Cond.code yX3_nearest cX3_nearest 6 (some .int), Cond.methodLink RX3 63 yX3_isWanted, Cond.instanceMethod yX3_isWanted, Cond.selects RX3 yX3_isWanted yX3_isWanted, Cond.code yX3_isWanted cX3_isWanted 3 (some .boolean), Cond.methodLink RX3 60 yX3_isOpen, Cond.instanceMethod yX3_isOpen, Cond.selects RX3 yX3_isOpen yX3_isOpen, Cond.code yX3_isOpen cX3_isOpen 2 (some .boolean), Cond.methodLink RX3 54 yX3_keeperPart, Cond.instanceMethod yX3_keeperPart, Cond.selects RX3 yX3_keeperPart yX3_keeperPart, Cond.code yX3_keeperPart cX3_keeperPart 3 (some .int), Cond.methodLink RX3 67 yX3_size, Cond.static yX3_size, Cond.code yX3_size cX3_size 1 (some .int), Cond.methodLink RX3 84 yX3_does]
def wsX3_carryOut_r7 : List Cond := [Cond.instanceMethod yX3_does, Cond.selects RX3 yX3_does yX3_does, Cond.code yX3_does cX3_does 4 none, Cond.methodLink RX3 71 yX3_adds, Cond.instanceMethod yX3_adds, Cond.selects RX3 yX3_adds yX3_adds, Cond.code yX3_adds cX3_adds 4 none, Cond.methodLink RX3 78 yX3_held, Cond.static yX3_held, Cond.code yX3_held cX3_held 1 (some .int), Cond.methodLink RX3 101 yX3_rainsOn, Cond.instanceMethod yX3_rainsOn, Cond.selects RX3 yX3_rainsOn yX3_rainsOn, Cond.code yX3_rainsOn cX3_rainsOn 2 none, Cond.methodLink RX3 105 yX3_dries, Cond.instanceMethod yX3_dries, Cond.selects RX3 yX3_dries yX3_dries, Cond.code yX3_dries cX3_dries 4 none, Cond.methodLink RX3 109 yX3_thieves, Cond.instanceMethod yX3_thieves, Cond.selects RX3 yX3_thieves yX3_thieves, Cond.code yX3_thieves cX3_thieves 3 none, Cond.methodLink RX3 95 yX3_keepersAt, Cond.instanceMethod yX3_keepersAt]
def wsX3_carryOut_r8 : List Cond := [Cond.selects RX3 yX3_keepersAt yX3_keepersAt, Cond.code yX3_keepersAt cX3_keepersAt 4 (some .int)]
def wsX3_carryOut : List Cond := .code yX3_carryOut cX3_carryOut 3 (some .int) :: ((wsX3_carryOut_r1 ++ (wsX3_carryOut_r2 ++ (wsX3_carryOut_r3 ++ (wsX3_carryOut_r4 ++ (wsX3_carryOut_r5 ++ (wsX3_carryOut_r6 ++ (wsX3_carryOut_r7 ++ wsX3_carryOut_r8))))))) ++ wsX30)
def wsX3_undo : List Cond := .code yX3_undo cX3_undo 1 (some .int) :: ([.fieldLink RX3 28 "PianoCoversModel" "recorded" "I", .fieldLink RX3 16 "PianoCoversModel" "history" "[I", .fieldLink RX3 7 "PianoCoversModel" "state" "[I", .methodLink RX3 32 yX3_moves, .static yX3_moves, .initialized RX3, .code yX3_moves cX3_moves 5 none] ++ wsX30)
def wsX3_save : List Cond := .code yX3_save cX3_save 2 (some .int) :: ([.fieldLink RX3 7 "PianoCoversModel" "state" "[I", .fieldLink RX3 19 "PianoCoversModel" "slots" "[I", .fieldLink RX3 22 "PianoCoversModel" "isSaved" "[I", .methodLink RX3 36 yX3_within, .static yX3_within, .initialized RX3, .code yX3_within cX3_within 3 (some .boolean), .methodLink RX3 32 yX3_moves, .static yX3_moves, .code yX3_moves cX3_moves 5 none, .methodLink RX3 128 yX3_pianosThere, .instanceMethod yX3_pianosThere, .selects RX3 yX3_pianosThere yX3_pianosThere, .code yX3_pianosThere cX3_pianosThere 3 (some .int), .methodLink RX3 44 yX3_pianoPart, .instanceMethod yX3_pianoPart, .selects RX3 yX3_pianoPart yX3_pianoPart, .code yX3_pianoPart cX3_pianoPart 3 (some .int)] ++ wsX30)
def wsX3_restore : List Cond := .code yX3_restore cX3_restore 2 (some .int) :: ([.fieldLink RX3 22 "PianoCoversModel" "isSaved" "[I", .fieldLink RX3 19 "PianoCoversModel" "slots" "[I", .fieldLink RX3 7 "PianoCoversModel" "state" "[I", .methodLink RX3 36 yX3_within, .static yX3_within, .initialized RX3, .code yX3_within cX3_within 3 (some .boolean), .methodLink RX3 118 yX3_record, .instanceMethod yX3_record, .selects RX3 yX3_record yX3_record, .code yX3_record cX3_record 2 none, .fieldLink RX3 28 "PianoCoversModel" "recorded" "I", .fieldLink RX3 16 "PianoCoversModel" "history" "[I", .methodLink RX3 32 yX3_moves, .static yX3_moves, .code yX3_moves cX3_moves 5 none, .methodLink RX3 128 yX3_pianosThere, .instanceMethod yX3_pianosThere, .selects RX3 yX3_pianosThere yX3_pianosThere, .code yX3_pianosThere cX3_pianosThere 3 (some .int), .methodLink RX3 44 yX3_pianoPart, .instanceMethod yX3_pianoPart, .selects RX3 yX3_pianoPart yX3_pianoPart, .code yX3_pianoPart cX3_pianoPart 3 (some .int)] ++ wsX30)
def wsJ9_max_7cf53 : List Cond := .code yJ9_max_7cf53 cJ9_max_7cf53 2 (some .int) :: ([])
def wsJ9_min_7cf53 : List Cond := .code yJ9_min_7cf53 cJ9_min_7cf53 2 (some .int) :: ([])
def wsL_law_r1 : List Cond := [Cond.classLink RL 7 RX2, Cond.instantiable RX2 8, Cond.initialized RX2, Cond.classLink RL 10 RX3, Cond.instantiable RX3 13, Cond.initialized RX3, Cond.constantLong RL 80 (4294967295), Cond.methodLink RL 9 yX2_init, Cond.instanceMethod yX2_init, Cond.code yX2_init cX2_init 2 none, Cond.methodLink RX2 1 objectInit, Cond.instanceMethod objectInit, Cond.code objectInit ⟨#[0xb1]⟩ 1 none, Cond.classLink RX2 7 RX1, Cond.instantiable RX1 18, Cond.initialized RX1, Cond.fieldLink RX2 10 "PianoCovers" "now" "LPianoCovers$Street;", Cond.fieldLink RX2 16 "PianoCovers" "before" "LPianoCovers$Street;", Cond.fieldLink RX2 19 "PianoCovers" "trial" "LPianoCovers$Street;", Cond.fieldLink RX2 22 "PianoCovers" "history" "[LPianoCovers$Street;", Cond.fieldLink RX2 26 "PianoCovers" "undoable" "I", Cond.fieldLink RX2 30 "PianoCovers" "slots" "[LPianoCovers$Street;", Cond.arrayClass .boolean, Cond.fieldLink RX2 33 "PianoCovers" "saved" "[Z"]
def wsL_law_r2 : List Cond := [Cond.classLink RX2 37 RX0, Cond.instantiable RX0 8, Cond.initialized RX0, Cond.fieldLink RX2 40 "PianoCovers" "pad" "LPianoCovers$Pad;", Cond.instanceMethod yX1_init, Cond.code yX1_init cX1_init 1 none, Cond.methodLink RX1 3 objectInit, Cond.arrayClass .int, Cond.fieldLink RX1 9 "PianoCovers$Street" "settings" "[I", Cond.fieldLink RX1 15 "PianoCovers$Street" "pianos" "I", Cond.fieldLink RX1 19 "PianoCovers$Street" "lying" "I", Cond.fieldLink RX1 22 "PianoCovers$Street" "covered" "I", Cond.fieldLink RX1 25 "PianoCovers$Street" "pitch" "[I", Cond.fieldLink RX1 28 "PianoCovers$Street" "damp" "[I", Cond.fieldLink RX1 31 "PianoCovers$Street" "earned" "[I", Cond.fieldLink RX1 34 "PianoCovers$Street" "rainedOn" "[I", Cond.fieldLink RX1 37 "PianoCovers$Street" "keepers" "I", Cond.fieldLink RX1 40 "PianoCovers$Street" "keeperAt" "[I", Cond.fieldLink RX1 43 "PianoCovers$Street" "timesCovered" "[I", Cond.fieldLink RX1 46 "PianoCovers$Street" "timesOpened" "[I", Cond.fieldLink RX1 49 "PianoCovers$Street" "timesTuned" "[I", Cond.fieldLink RX1 52 "PianoCovers$Street" "placesWent" "[I", Cond.fieldLink RX1 55 "PianoCovers$Street" "rainHours" "I", Cond.fieldLink RX1 58 "PianoCovers$Street" "hours" "I"]
def wsL_law_r3 : List Cond := [Cond.fieldLink RX1 61 "PianoCovers$Street" "coins" "I", Cond.fieldLink RX1 64 "PianoCovers$Street" "stolen" "I", Cond.methodLink RX1 70 arraycopyName, Cond.native arraycopyName, Cond.static arraycopyName, Cond.initialized "java/lang/System", Cond.instanceMethod yX0_init, Cond.code yX0_init cX0_init 1 none, Cond.methodLink RX0 3 objectInit, Cond.arrayClass .char, Cond.fieldLink RX0 9 "PianoCovers$Pad" "text" "[C", Cond.fieldLink RX0 15 "PianoCovers$Pad" "length" "I", Cond.fieldLink RX0 19 "PianoCovers$Pad" "at" "I", Cond.fieldLink RX0 22 "PianoCovers$Pad" "kind" "C", Cond.fieldLink RX0 26 "PianoCovers$Pad" "number" "I", Cond.fieldLink RX0 29 "PianoCovers$Pad" "cover" "I", Cond.fieldLink RX0 32 "PianoCovers$Pad" "hours" "I", Cond.fieldLink RX0 35 "PianoCovers$Pad" "more" "Z", Cond.methodLink RL 12 yX3_init, Cond.instanceMethod yX3_init, Cond.code yX3_init cX3_init 1 none, Cond.methodLink RX3 1 objectInit, Cond.fieldLink RX3 7 "PianoCoversModel" "state" "[I", Cond.fieldLink RX3 13 "PianoCoversModel" "kept" "[I"]
def wsL_law_r4 : List Cond := [Cond.fieldLink RX3 16 "PianoCoversModel" "history" "[I", Cond.fieldLink RX3 19 "PianoCoversModel" "slots" "[I", Cond.fieldLink RX3 22 "PianoCoversModel" "isSaved" "[I", Cond.fieldLink RX3 25 "PianoCoversModel" "pad" "[I", Cond.methodLink RL 13 yX2_set, Cond.instanceMethod yX2_set, Cond.selects RX2 yX2_set yX2_set, Cond.code yX2_set cX2_set 3 (some .int), Cond.methodLink RX2 44 yX2_copy, Cond.static yX2_copy, Cond.code yX2_copy cX2_copy 2 none, Cond.methodLink RX2 216 arraycopyName, Cond.instanceMethod yX1_changeSetting, Cond.selects RX1 yX1_changeSetting yX1_changeSetting, Cond.code yX1_changeSetting cX1_changeSetting 4 (some .int), Cond.methodLink RX2 52 yX2_recorded, Cond.instanceMethod yX2_recorded, Cond.selects RX2 yX2_recorded yX2_recorded, Cond.code yX2_recorded cX2_recorded 2 (some .int), Cond.methodLink RX2 213 yX2_dropOldest, Cond.instanceMethod yX2_dropOldest, Cond.selects RX2 yX2_dropOldest yX2_dropOldest, Cond.code yX2_dropOldest cX2_dropOldest 3 none, Cond.methodLink RL 17 yX3_set]
def wsL_law_r5 : List Cond := [Cond.instanceMethod yX3_set, Cond.selects RX3 yX3_set yX3_set, Cond.code yX3_set cX3_set 4 (some .int), Cond.methodLink RX3 115 yX3_isValue, Cond.static yX3_isValue, Cond.code yX3_isValue cX3_isValue 2 (some .boolean), Cond.methodLink RX3 36 yX3_within, Cond.static yX3_within, Cond.code yX3_within cX3_within 3 (some .boolean), Cond.methodLink RX3 118 yX3_record, Cond.instanceMethod yX3_record, Cond.selects RX3 yX3_record yX3_record, Cond.code yX3_record cX3_record 2 none, Cond.fieldLink RX3 28 "PianoCoversModel" "recorded" "I", Cond.methodLink RX3 32 yX3_moves, Cond.static yX3_moves, Cond.code yX3_moves cX3_moves 5 none, Cond.methodLink RL 18 yX2_rain, Cond.instanceMethod yX2_rain, Cond.selects RX2 yX2_rain yX2_rain, Cond.code yX2_rain cX2_rain 2 (some .int), Cond.instanceMethod yX1_changeRain, Cond.selects RX1 yX1_changeRain yX1_changeRain, Cond.code yX1_changeRain cX1_changeRain 3 (some .int)]
def wsL_law_r6 : List Cond := [Cond.constant RX1 82 (16777215), Cond.methodLink RL 22 yX3_rain, Cond.instanceMethod yX3_rain, Cond.selects RX3 yX3_rain yX3_rain, Cond.code yX3_rain cX3_rain 3 (some .int), Cond.constant RX3 121 (16777215), Cond.methodLink RL 23 yX2_piano, Cond.instanceMethod yX2_piano, Cond.selects RX2 yX2_piano yX2_piano, Cond.code yX2_piano cX2_piano 3 (some .int), Cond.instanceMethod yX1_addPiano, Cond.selects RX1 yX1_addPiano yX1_addPiano, Cond.code yX1_addPiano cX1_addPiano 3 (some .int), Cond.static yX2_isPlace, Cond.code yX2_isPlace cX2_isPlace 1 (some .boolean), Cond.static yX2_has, Cond.code yX2_has cX2_has 2 (some .boolean), Cond.methodLink RX1 91 yJ6_bitCount_0f7a4, Cond.static yJ6_bitCount_0f7a4, Cond.initialized RJ6, Cond.code yJ6_bitCount_0f7a4 cJ6_bitCount_0f7a4 1 (some .int), Cond.constant RJ6 265 (1431655765), Cond.constant RJ6 266 (858993459), Cond.constant RJ6 267 (252645135)]
def wsL_law_r7 : List Cond := [Cond.methodLink RL 26 yX3_piano, Cond.instanceMethod yX3_piano, Cond.selects RX3 yX3_piano yX3_piano, Cond.code yX3_piano cX3_piano 4 (some .int), Cond.methodLink RX3 122 yX3_whyNoPiano, Cond.instanceMethod yX3_whyNoPiano, Cond.selects RX3 yX3_whyNoPiano yX3_whyNoPiano, Cond.code yX3_whyNoPiano cX3_whyNoPiano 3 (some .int), Cond.methodLink RX3 40 yX3_isPlace, Cond.static yX3_isPlace, Cond.code yX3_isPlace cX3_isPlace 1 (some .boolean), Cond.methodLink RX3 48 yX3_isPiano, Cond.instanceMethod yX3_isPiano, Cond.selects RX3 yX3_isPiano yX3_isPiano, Cond.code yX3_isPiano cX3_isPiano 2 (some .boolean), Cond.methodLink RX3 44 yX3_pianoPart, Cond.instanceMethod yX3_pianoPart, Cond.selects RX3 yX3_pianoPart yX3_pianoPart, Cond.code yX3_pianoPart cX3_pianoPart 3 (some .int), Cond.methodLink RX3 125 yX3_pianoComes, Cond.instanceMethod yX3_pianoComes, Cond.selects RX3 yX3_pianoComes yX3_pianoComes, Cond.code yX3_pianoComes cX3_pianoComes 3 none, Cond.methodLink RX3 75 yX3_setPiano]
def wsL_law_r8 : List Cond := [Cond.instanceMethod yX3_setPiano, Cond.selects RX3 yX3_setPiano yX3_setPiano, Cond.code yX3_setPiano cX3_setPiano 4 none, Cond.methodLink RX3 128 yX3_pianosThere, Cond.instanceMethod yX3_pianosThere, Cond.selects RX3 yX3_pianosThere yX3_pianosThere, Cond.code yX3_pianosThere cX3_pianosThere 3 (some .int), Cond.methodLink RL 27 yX2_take, Cond.instanceMethod yX2_take, Cond.selects RX2 yX2_take yX2_take, Cond.code yX2_take cX2_take 2 (some .int), Cond.instanceMethod yX1_removePiano, Cond.selects RX1 yX1_removePiano yX1_removePiano, Cond.code yX1_removePiano cX1_removePiano 3 (some .int), Cond.methodLink RL 30 yX3_take, Cond.instanceMethod yX3_take, Cond.selects RX3 yX3_take yX3_take, Cond.code yX3_take cX3_take 3 (some .int), Cond.methodLink RL 31 yX2_keeper, Cond.instanceMethod yX2_keeper, Cond.selects RX2 yX2_keeper yX2_keeper, Cond.code yX2_keeper cX2_keeper 2 (some .int), Cond.instanceMethod yX1_hireKeeper, Cond.selects RX1 yX1_hireKeeper yX1_hireKeeper]
def wsL_law_r9 : List Cond := [Cond.code yX1_hireKeeper cX1_hireKeeper 2 (some .int), Cond.methodLink RX1 97 yX1_addKeeper, Cond.instanceMethod yX1_addKeeper, Cond.selects RX1 yX1_addKeeper yX1_addKeeper, Cond.code yX1_addKeeper cX1_addKeeper 2 none, Cond.methodLink RL 34 yX3_keeper, Cond.instanceMethod yX3_keeper, Cond.selects RX3 yX3_keeper yX3_keeper, Cond.code yX3_keeper cX3_keeper 3 (some .int), Cond.methodLink RX3 132 yX3_whyNoKeeper, Cond.instanceMethod yX3_whyNoKeeper, Cond.selects RX3 yX3_whyNoKeeper yX3_whyNoKeeper, Cond.code yX3_whyNoKeeper cX3_whyNoKeeper 2 (some .int), Cond.methodLink RX3 135 yX3_keeperComes, Cond.instanceMethod yX3_keeperComes, Cond.selects RX3 yX3_keeperComes yX3_keeperComes, Cond.code yX3_keeperComes cX3_keeperComes 4 (some .int), Cond.methodLink RL 35 yX2_cover, Cond.instanceMethod yX2_cover, Cond.selects RX2 yX2_cover yX2_cover, Cond.code yX2_cover cX2_cover 2 (some .int), Cond.instanceMethod yX1_layCover, Cond.selects RX1 yX1_layCover yX1_layCover, Cond.code yX1_layCover cX1_layCover 2 (some .int)]
def wsL_law_r10 : List Cond := [Cond.methodLink RL 38 yX3_cover, Cond.instanceMethod yX3_cover, Cond.selects RX3 yX3_cover yX3_cover, Cond.code yX3_cover cX3_cover 3 (some .int), Cond.methodLink RX3 138 yX3_whyNoCover, Cond.instanceMethod yX3_whyNoCover, Cond.selects RX3 yX3_whyNoCover yX3_whyNoCover, Cond.code yX3_whyNoCover cX3_whyNoCover 2 (some .int), Cond.methodLink RX3 141 yX3_withCovers, Cond.instanceMethod yX3_withCovers, Cond.selects RX3 yX3_withCovers yX3_withCovers, Cond.code yX3_withCovers cX3_withCovers 3 (some .int), Cond.methodLink RL 39 yX2_pass, Cond.instanceMethod yX2_pass, Cond.selects RX2 yX2_pass yX2_pass, Cond.code yX2_pass cX2_pass 2 (some .int), Cond.instanceMethod yX1_passCounted, Cond.selects RX1 yX1_passCounted yX1_passCounted, Cond.code yX1_passCounted cX1_passCounted 2 (some .int), Cond.methodLink RX1 101 yX1_passHours, Cond.instanceMethod yX1_passHours, Cond.selects RX1 yX1_passHours yX1_passHours, Cond.code yX1_passHours cX1_passHours 4 (some .int), Cond.methodLink RX1 107 yX1_letKeepersAct]
def wsL_law_r11 : List Cond := [Cond.instanceMethod yX1_letKeepersAct, Cond.selects RX1 yX1_letKeepersAct yX1_letKeepersAct, Cond.code yX1_letKeepersAct cX1_letKeepersAct 6 none, Cond.methodLink RX1 122 yX1_rainIsAhead, Cond.instanceMethod yX1_rainIsAhead, Cond.selects RX1 yX1_rainIsAhead yX1_rainIsAhead, Cond.code yX1_rainIsAhead cX1_rainIsAhead 2 (some .boolean), Cond.methodLink RX1 104 yX1_rainsAfter, Cond.instanceMethod yX1_rainsAfter, Cond.selects RX1 yX1_rainsAfter yX1_rainsAfter, Cond.code yX1_rainsAfter cX1_rainsAfter 2 (some .boolean), Cond.methodLink RX1 126 yX1_nearest, Cond.static yX1_nearest, Cond.code yX1_nearest cX1_nearest 3 (some .int), Cond.methodLink RX1 130 yX1_outOfTune, Cond.instanceMethod yX1_outOfTune, Cond.selects RX1 yX1_outOfTune yX1_outOfTune, Cond.code yX1_outOfTune cX1_outOfTune 3 (some .int), Cond.methodLink RX1 147 yX1_openOnes, Cond.instanceMethod yX1_openOnes, Cond.selects RX1 yX1_openOnes yX1_openOnes, Cond.code yX1_openOnes cX1_openOnes 1 (some .int), Cond.methodLink RX1 134 yX1_goTowards, Cond.instanceMethod yX1_goTowards]
def wsL_law_r12 : List Cond := [Cond.selects RX1 yX1_goTowards yX1_goTowards, Cond.code yX1_goTowards cX1_goTowards 3 none, Cond.methodLink RX1 138 yX1_tune, Cond.instanceMethod yX1_tune, Cond.selects RX1 yX1_tune yX1_tune, Cond.code yX1_tune cX1_tune 3 none, Cond.methodLink RX1 150 Lib.Math.min.name, Cond.static Lib.Math.min.name, Cond.initialized "java/lang/Math", Cond.code Lib.Math.min.name Lib.Math.min.code 2 (some .int), Cond.methodLink RX1 141 yX1_putCoverOn, Cond.instanceMethod yX1_putCoverOn, Cond.selects RX1 yX1_putCoverOn yX1_putCoverOn, Cond.code yX1_putCoverOn cX1_putCoverOn 3 none, Cond.methodLink RX1 144 yX1_takeCoverOff, Cond.instanceMethod yX1_takeCoverOff, Cond.selects RX1 yX1_takeCoverOff yX1_takeCoverOff, Cond.code yX1_takeCoverOff cX1_takeCoverOff 3 none, Cond.methodLink RX1 110 yX1_letRainFall, Cond.instanceMethod yX1_letRainFall, Cond.selects RX1 yX1_letRainFall yX1_letRainFall, Cond.code yX1_letRainFall cX1_letRainFall 2 none, Cond.methodLink RX1 155 Lib.Math.max.name, Cond.static Lib.Math.max.name]
def wsL_law_r13 : List Cond := [Cond.code Lib.Math.max.name Lib.Math.max.code 2 (some .int), Cond.methodLink RX1 113 yX1_letPianosDry, Cond.instanceMethod yX1_letPianosDry, Cond.selects RX1 yX1_letPianosDry yX1_letPianosDry, Cond.code yX1_letPianosDry cX1_letPianosDry 2 none, Cond.methodLink RX1 116 yX1_letPianosBePlayed, Cond.instanceMethod yX1_letPianosBePlayed, Cond.selects RX1 yX1_letPianosBePlayed yX1_letPianosBePlayed, Cond.code yX1_letPianosBePlayed cX1_letPianosBePlayed 4 none, Cond.methodLink RX1 119 yX1_letThievesCome, Cond.instanceMethod yX1_letThievesCome, Cond.selects RX1 yX1_letThievesCome yX1_letThievesCome, Cond.code yX1_letThievesCome cX1_letThievesCome 6 none, Cond.methodLink RX1 158 yX1_keepersAt, Cond.instanceMethod yX1_keepersAt, Cond.selects RX1 yX1_keepersAt yX1_keepersAt, Cond.code yX1_keepersAt cX1_keepersAt 4 (some .int), Cond.methodLink RL 42 yX3_pass, Cond.instanceMethod yX3_pass, Cond.selects RX3 yX3_pass yX3_pass, Cond.code yX3_pass cX3_pass 3 (some .int), Cond.methodLink RX3 144 yX3_whyNotPassed, Cond.instanceMethod yX3_whyNotPassed, Cond.selects RX3 yX3_whyNotPassed yX3_whyNotPassed]
def wsL_law_r14 : List Cond := [Cond.code yX3_whyNotPassed cX3_whyNotPassed 2 (some .int), Cond.methodLink RX3 147 yX3_passes, Cond.instanceMethod yX3_passes, Cond.selects RX3 yX3_passes yX3_passes, Cond.code yX3_passes cX3_passes 4 (some .int), Cond.methodLink RX3 112 yX3_hour, Cond.instanceMethod yX3_hour, Cond.selects RX3 yX3_hour yX3_hour, Cond.code yX3_hour cX3_hour 4 none, Cond.methodLink RX3 51 yX3_rainsIn, Cond.instanceMethod yX3_rainsIn, Cond.selects RX3 yX3_rainsIn yX3_rainsIn, Cond.code yX3_rainsIn cX3_rainsIn 2 (some .boolean), Cond.methodLink RX3 98 yX3_keepersGo, Cond.instanceMethod yX3_keepersGo, Cond.selects RX3 yX3_keepersGo yX3_keepersGo, Cond.code yX3_keepersGo cX3_keepersGo 3 none, Cond.fieldLink RX3 57 "PianoCoversModel" "chosen" "I", Cond.methodLink RX3 87 yX3_isRainAhead, Cond.instanceMethod yX3_isRainAhead, Cond.selects RX3 yX3_isRainAhead yX3_isRainAhead, Cond.code yX3_isRainAhead cX3_isRainAhead 3 (some .boolean), Cond.methodLink RX3 91 yX3_keeperGoes, Cond.instanceMethod yX3_keeperGoes]
def wsL_law_r15 : List Cond := [Cond.selects RX3 yX3_keeperGoes yX3_keeperGoes, Cond.code yX3_keeperGoes cX3_keeperGoes 5 none, Cond.methodLink RX3 81 yX3_nearest, Cond.instanceMethod yX3_nearest, Cond.selects RX3 yX3_nearest yX3_nearest, Cond.code yX3_nearest cX3_nearest 6 (some .int), Cond.methodLink RX3 63 yX3_isWanted, Cond.instanceMethod yX3_isWanted, Cond.selects RX3 yX3_isWanted yX3_isWanted, Cond.code yX3_isWanted cX3_isWanted 3 (some .boolean), Cond.methodLink RX3 60 yX3_isOpen, Cond.instanceMethod yX3_isOpen, Cond.selects RX3 yX3_isOpen yX3_isOpen, Cond.code yX3_isOpen cX3_isOpen 2 (some .boolean), Cond.methodLink RX3 54 yX3_keeperPart, Cond.instanceMethod yX3_keeperPart, Cond.selects RX3 yX3_keeperPart yX3_keeperPart, Cond.code yX3_keeperPart cX3_keeperPart 3 (some .int), Cond.methodLink RX3 67 yX3_size, Cond.static yX3_size, Cond.code yX3_size cX3_size 1 (some .int), Cond.methodLink RX3 84 yX3_does, Cond.instanceMethod yX3_does, Cond.selects RX3 yX3_does yX3_does]
def wsL_law_r16 : List Cond := [Cond.code yX3_does cX3_does 4 none, Cond.methodLink RX3 71 yX3_adds, Cond.instanceMethod yX3_adds, Cond.selects RX3 yX3_adds yX3_adds, Cond.code yX3_adds cX3_adds 4 none, Cond.methodLink RX3 78 yX3_held, Cond.static yX3_held, Cond.code yX3_held cX3_held 1 (some .int), Cond.methodLink RX3 101 yX3_rainsOn, Cond.instanceMethod yX3_rainsOn, Cond.selects RX3 yX3_rainsOn yX3_rainsOn, Cond.code yX3_rainsOn cX3_rainsOn 2 none, Cond.methodLink RX3 105 yX3_dries, Cond.instanceMethod yX3_dries, Cond.selects RX3 yX3_dries yX3_dries, Cond.code yX3_dries cX3_dries 4 none, Cond.methodLink RX3 109 yX3_thieves, Cond.instanceMethod yX3_thieves, Cond.selects RX3 yX3_thieves yX3_thieves, Cond.code yX3_thieves cX3_thieves 3 none, Cond.methodLink RX3 95 yX3_keepersAt, Cond.instanceMethod yX3_keepersAt, Cond.selects RX3 yX3_keepersAt yX3_keepersAt, Cond.code yX3_keepersAt cX3_keepersAt 4 (some .int)]
def wsL_law_r17 : List Cond := [Cond.methodLink RL 43 yX2_of, Cond.instanceMethod yX2_of, Cond.selects RX2 yX2_of yX2_of, Cond.code yX2_of cX2_of 3 (some .int), Cond.methodLink RX2 77 yX2_has, Cond.instanceMethod yX1_coverAt, Cond.selects RX1 yX1_coverAt yX1_coverAt, Cond.code yX1_coverAt cX1_coverAt 2 (some .int), Cond.methodLink RL 46 yX3_of, Cond.instanceMethod yX3_of, Cond.selects RX3 yX3_of yX3_of, Cond.code yX3_of cX3_of 3 (some .int), Cond.methodLink RL 47 yX2_ofKeeper, Cond.instanceMethod yX2_ofKeeper, Cond.selects RX2 yX2_ofKeeper yX2_ofKeeper, Cond.code yX2_ofKeeper cX2_ofKeeper 3 (some .int), Cond.methodLink RL 50 yX3_ofKeeper, Cond.instanceMethod yX3_ofKeeper, Cond.selects RX3 yX3_ofKeeper yX3_ofKeeper, Cond.code yX3_ofKeeper cX3_ofKeeper 3 (some .int), Cond.methodLink RL 51 yX2_count, Cond.instanceMethod yX2_count, Cond.selects RX2 yX2_count yX2_count, Cond.code yX2_count cX2_count 2 (some .int)]
def wsL_law_r18 : List Cond := [Cond.methodLink RL 54 yX3_count, Cond.instanceMethod yX3_count, Cond.selects RX3 yX3_count yX3_count, Cond.code yX3_count cX3_count 2 (some .int), Cond.fieldLink RX3 153 "PianoCoversModel" "padLength" "I", Cond.methodLink RX3 150 yX3_pianosWith, Cond.instanceMethod yX3_pianosWith, Cond.selects RX3 yX3_pianosWith yX3_pianosWith, Cond.code yX3_pianosWith cX3_pianosWith 4 (some .int), Cond.methodLink RL 55 yX2_worst, Cond.instanceMethod yX2_worst, Cond.selects RX2 yX2_worst yX2_worst, Cond.code yX2_worst cX2_worst 5 (some .int), Cond.methodLink RL 59 yX3_worst, Cond.instanceMethod yX3_worst, Cond.selects RX3 yX3_worst yX3_worst, Cond.code yX3_worst cX3_worst 3 (some .int), Cond.methodLink RX3 156 yX3_worth, Cond.instanceMethod yX3_worth, Cond.selects RX3 yX3_worth yX3_worth, Cond.code yX3_worth cX3_worth 2 (some .int), Cond.methodLink RL 60 yX2_why, Cond.instanceMethod yX2_why, Cond.selects RX2 yX2_why yX2_why]
def wsL_law_r19 : List Cond := [Cond.code yX2_why cX2_why 2 (some .int), Cond.methodLink RL 63 yX3_why, Cond.instanceMethod yX3_why, Cond.selects RX3 yX3_why yX3_why, Cond.code yX3_why cX3_why 2 (some .int), Cond.methodLink RL 64 yX2_rainIn, Cond.instanceMethod yX2_rainIn, Cond.selects RX2 yX2_rainIn yX2_rainIn, Cond.code yX2_rainIn cX2_rainIn 1 (some .int), Cond.instanceMethod yX1_hoursUntilRain, Cond.selects RX1 yX1_hoursUntilRain yX1_hoursUntilRain, Cond.code yX1_hoursUntilRain cX1_hoursUntilRain 2 (some .int), Cond.methodLink RL 67 yX3_rainIn, Cond.instanceMethod yX3_rainIn, Cond.selects RX3 yX3_rainIn yX3_rainIn, Cond.code yX3_rainIn cX3_rainIn 3 (some .int), Cond.methodLink RL 68 yX2_coveredIn, Cond.instanceMethod yX2_coveredIn, Cond.selects RX2 yX2_coveredIn yX2_coveredIn, Cond.code yX2_coveredIn cX2_coveredIn 3 (some .int), Cond.methodLink RL 71 yX3_coveredIn, Cond.instanceMethod yX3_coveredIn, Cond.selects RX3 yX3_coveredIn yX3_coveredIn, Cond.code yX3_coveredIn cX3_coveredIn 4 (some .int)]
def wsL_law_r20 : List Cond := [Cond.methodLink RL 72 yX2_willBeWet, Cond.instanceMethod yX2_willBeWet, Cond.selects RX2 yX2_willBeWet yX2_willBeWet, Cond.code yX2_willBeWet cX2_willBeWet 4 (some .int), Cond.methodLink RL 75 yX3_willBeWet, Cond.instanceMethod yX3_willBeWet, Cond.selects RX3 yX3_willBeWet yX3_willBeWet, Cond.code yX3_willBeWet cX3_willBeWet 4 (some .int), Cond.methodLink RL 76 yX2_bestPlace, Cond.instanceMethod yX2_bestPlace, Cond.selects RX2 yX2_bestPlace yX2_bestPlace, Cond.code yX2_bestPlace cX2_bestPlace 7 (some .int), Cond.methodLink RX2 157 yX2_coinsWithOneMoreAt, Cond.instanceMethod yX2_coinsWithOneMoreAt, Cond.selects RX2 yX2_coinsWithOneMoreAt yX2_coinsWithOneMoreAt, Cond.code yX2_coinsWithOneMoreAt cX2_coinsWithOneMoreAt 3 (some .int), Cond.methodLink RL 79 yX3_bestPlace, Cond.instanceMethod yX3_bestPlace, Cond.selects RX3 yX3_bestPlace yX3_bestPlace, Cond.code yX3_bestPlace cX3_bestPlace 7 (some .int), Cond.methodLink RL 82 yX2_put, Cond.instanceMethod yX2_put, Cond.selects RX2 yX2_put yX2_put, Cond.code yX2_put cX2_put 5 (some .int)]
def wsL_law_r21 : List Cond := [Cond.constantLong RX2 168 (255), Cond.methodLink RX2 164 yX2_charactersIn, Cond.static yX2_charactersIn, Cond.code yX2_charactersIn cX2_charactersIn 7 (some .int), Cond.constantLong RX2 174 (33), Cond.constantLong RX2 176 (126), Cond.instanceMethod yX0_append, Cond.selects RX0 yX0_append yX0_append, Cond.code yX0_append cX0_append 2 none, Cond.methodLink RL 86 yX3_put, Cond.instanceMethod yX3_put, Cond.selects RX3 yX3_put yX3_put, Cond.code yX3_put cX3_put 8 (some .int), Cond.constantLong RX3 159 (255), Cond.methodLink RL 87 yX2_wipe, Cond.instanceMethod yX2_wipe, Cond.selects RX2 yX2_wipe yX2_wipe, Cond.code yX2_wipe cX2_wipe 2 (some .int), Cond.instanceMethod yX0_clear, Cond.selects RX0 yX0_clear yX0_clear, Cond.code yX0_clear cX0_clear 1 none, Cond.methodLink RL 90 yX3_wipe, Cond.instanceMethod yX3_wipe, Cond.selects RX3 yX3_wipe yX3_wipe]
def wsL_law_r22 : List Cond := [Cond.code yX3_wipe cX3_wipe 2 (some .int), Cond.methodLink RL 91 yX2_fault, Cond.instanceMethod yX2_fault, Cond.selects RX2 yX2_fault yX2_fault, Cond.code yX2_fault cX2_fault 1 (some .int), Cond.instanceMethod yX0_findFault, Cond.selects RX0 yX0_findFault yX0_findFault, Cond.code yX0_findFault cX0_findFault 2 (some .int), Cond.methodLink RX0 39 yX0_rewind, Cond.instanceMethod yX0_rewind, Cond.selects RX0 yX0_rewind yX0_rewind, Cond.code yX0_rewind cX0_rewind 1 none, Cond.methodLink RX0 42 yX0_readOrder, Cond.instanceMethod yX0_readOrder, Cond.selects RX0 yX0_readOrder yX0_readOrder, Cond.code yX0_readOrder cX0_readOrder 1 (some .boolean), Cond.methodLink RX0 46 yX0_next, Cond.instanceMethod yX0_next, Cond.selects RX0 yX0_next yX0_next, Cond.code yX0_next cX0_next 1 (some .char), Cond.methodLink RX0 50 yX0_readBody, Cond.instanceMethod yX0_readBody, Cond.selects RX0 yX0_readBody yX0_readBody, Cond.code yX0_readBody cX0_readBody 1 (some .boolean)]
def wsL_law_r23 : List Cond := [Cond.methodLink RX0 57 yX0_readNumber, Cond.instanceMethod yX0_readNumber, Cond.selects RX0 yX0_readNumber yX0_readNumber, Cond.code yX0_readNumber cX0_readNumber 3 (some .boolean), Cond.methodLink RX0 64 yX0_isDigit, Cond.static yX0_isDigit, Cond.code yX0_isDigit cX0_isDigit 1 (some .boolean), Cond.methodLink RX0 53 yX0_skip, Cond.instanceMethod yX0_skip, Cond.selects RX0 yX0_skip yX0_skip, Cond.code yX0_skip cX0_skip 2 (some .boolean), Cond.methodLink RX0 61 yX0_readHours, Cond.instanceMethod yX0_readHours, Cond.selects RX0 yX0_readHours yX0_readHours, Cond.code yX0_readHours cX0_readHours 2 (some .boolean), Cond.methodLink RL 94 yX3_fault, Cond.instanceMethod yX3_fault, Cond.selects RX3 yX3_fault yX3_fault, Cond.code yX3_fault cX3_fault 1 (some .int), Cond.methodLink RX3 195 yX3_findFault, Cond.instanceMethod yX3_findFault, Cond.selects RX3 yX3_findFault yX3_findFault, Cond.code yX3_findFault cX3_findFault 1 (some .int), Cond.fieldLink RX3 161 "PianoCoversModel" "at" "I"]
def wsL_law_r24 : List Cond := [Cond.methodLink RX3 192 yX3_readsOrder, Cond.instanceMethod yX3_readsOrder, Cond.selects RX3 yX3_readsOrder yX3_readsOrder, Cond.code yX3_readsOrder cX3_readsOrder 2 (some .boolean), Cond.fieldLink RX3 179 "PianoCoversModel" "letter" "I", Cond.fieldLink RX3 182 "PianoCoversModel" "hasCover" "Z", Cond.methodLink RX3 164 yX3_character, Cond.instanceMethod yX3_character, Cond.selects RX3 yX3_character yX3_character, Cond.code yX3_character cX3_character 2 (some .int), Cond.methodLink RX3 186 yX3_takesNumber, Cond.instanceMethod yX3_takesNumber, Cond.selects RX3 yX3_takesNumber yX3_takesNumber, Cond.code yX3_takesNumber cX3_takesNumber 1 (some .boolean), Cond.fieldLink RX3 173 "PianoCoversModel" "number" "I", Cond.methodLink RX3 170 yX3_takeNumber, Cond.instanceMethod yX3_takeNumber, Cond.selects RX3 yX3_takeNumber yX3_takeNumber, Cond.code yX3_takeNumber cX3_takeNumber 3 (some .int), Cond.methodLink RX3 167 yX3_isDigit, Cond.instanceMethod yX3_isDigit, Cond.selects RX3 yX3_isDigit yX3_isDigit, Cond.code yX3_isDigit cX3_isDigit 1 (some .boolean), Cond.methodLink RX3 176 yX3_isNext]
def wsL_law_r25 : List Cond := [Cond.instanceMethod yX3_isNext, Cond.selects RX3 yX3_isNext yX3_isNext, Cond.code yX3_isNext cX3_isNext 3 (some .boolean), Cond.methodLink RX3 189 yX3_takesHours, Cond.instanceMethod yX3_takesHours, Cond.selects RX3 yX3_takesHours yX3_takesHours, Cond.code yX3_takesHours cX3_takesHours 2 (some .boolean), Cond.methodLink RL 95 yX2_carryOut, Cond.instanceMethod yX2_carryOut, Cond.selects RX2 yX2_carryOut yX2_carryOut, Cond.code yX2_carryOut cX2_carryOut 2 (some .int), Cond.methodLink RX2 194 yX2_answerToOrder, Cond.instanceMethod yX2_answerToOrder, Cond.selects RX2 yX2_answerToOrder yX2_answerToOrder, Cond.code yX2_answerToOrder cX2_answerToOrder 1 (some .int), Cond.methodLink RL 98 yX3_carryOut, Cond.instanceMethod yX3_carryOut, Cond.selects RX3 yX3_carryOut yX3_carryOut, Cond.code yX3_carryOut cX3_carryOut 3 (some .int), Cond.methodLink RX3 198 yX3_whyNotDone, Cond.instanceMethod yX3_whyNotDone, Cond.selects RX3 yX3_whyNotDone yX3_whyNotDone, Cond.code yX3_whyNotDone cX3_whyNotDone 1 (some .int), Cond.methodLink RX3 201 yX3_doesOrder]
def wsL_law_r26 : List Cond := [Cond.instanceMethod yX3_doesOrder, Cond.selects RX3 yX3_doesOrder yX3_doesOrder, Cond.code yX3_doesOrder cX3_doesOrder 1 none, Cond.methodLink RL 99 yX2_undo, Cond.instanceMethod yX2_undo, Cond.selects RX2 yX2_undo yX2_undo, Cond.code yX2_undo cX2_undo 1 (some .int), Cond.methodLink RL 102 yX3_undo, Cond.instanceMethod yX3_undo, Cond.selects RX3 yX3_undo yX3_undo, Cond.code yX3_undo cX3_undo 1 (some .int), Cond.methodLink RL 103 yX2_save, Cond.instanceMethod yX2_save, Cond.selects RX2 yX2_save yX2_save, Cond.code yX2_save cX2_save 2 (some .int), Cond.methodLink RX2 208 yJ6_bitCount_0f7a4, Cond.methodLink RL 106 yX3_save, Cond.instanceMethod yX3_save, Cond.selects RX3 yX3_save yX3_save, Cond.code yX3_save cX3_save 2 (some .int), Cond.methodLink RL 107 yX2_restore, Cond.instanceMethod yX2_restore, Cond.selects RX2 yX2_restore yX2_restore, Cond.code yX2_restore cX2_restore 2 (some .int)]
def wsL_law_r27 : List Cond := [Cond.methodLink RL 110 yX3_restore, Cond.instanceMethod yX3_restore, Cond.selects RX3 yX3_restore yX3_restore, Cond.code yX3_restore cX3_restore 2 (some .int)]
def wsL_law : List Cond := (wsL_law_r1 ++ (wsL_law_r2 ++ (wsL_law_r3 ++ (wsL_law_r4 ++ (wsL_law_r5 ++ (wsL_law_r6 ++ (wsL_law_r7 ++ (wsL_law_r8 ++ (wsL_law_r9 ++ (wsL_law_r10 ++ (wsL_law_r11 ++ (wsL_law_r12 ++ (wsL_law_r13 ++ (wsL_law_r14 ++ (wsL_law_r15 ++ (wsL_law_r16 ++ (wsL_law_r17 ++ (wsL_law_r18 ++ (wsL_law_r19 ++ (wsL_law_r20 ++ (wsL_law_r21 ++ (wsL_law_r22 ++ (wsL_law_r23 ++ (wsL_law_r24 ++ (wsL_law_r25 ++ (wsL_law_r26 ++ wsL_law_r27)))))))))))))))))))))))))) ++ wsX20 ++ wsX30 ++ wsX10 ++ wsX00 ++ ([] : List Cond)
set_option maxRecDepth 20000 in
theorem wsL_law_r1_in : ∀ w ∈ wsL_law_r1, w ∈ lw_tbl := fun w h => (goodIn_p wsL_law_r1 [91, 94] (by decide +kernel) (by decide +kernel) w h).1
set_option maxRecDepth 20000 in
theorem wsL_law_r2_in : ∀ w ∈ wsL_law_r2, w ∈ lw_tbl := fun w h => (goodIn_p wsL_law_r2 [99] (by decide +kernel) (by decide +kernel) w h).1
set_option maxRecDepth 20000 in
theorem wsL_law_r3_in : ∀ w ∈ wsL_law_r3, w ∈ lw_tbl := fun w h => (goodIn_p wsL_law_r3 [185, 545] (by decide +kernel) (by decide +kernel) w h).1
set_option maxRecDepth 20000 in
theorem wsL_law_r4_in : ∀ w ∈ wsL_law_r4, w ∈ lw_tbl := fun w h => (goodIn_p wsL_law_r4 [248, 251, 256, 264, 268] (by decide +kernel) (by decide +kernel) w h).1
set_option maxRecDepth 20000 in
theorem wsL_law_r5_in : ∀ w ∈ wsL_law_r5, w ∈ lw_tbl := fun w h => (goodIn_p wsL_law_r5 [590, 593, 596, 600, 603, 272, 276] (by decide +kernel) (by decide +kernel) w h).1
set_option maxRecDepth 20000 in
theorem wsL_law_r6_in : ∀ w ∈ wsL_law_r6, w ∈ lw_tbl := fun w h => (goodIn_p wsL_law_r6 [607, 281, 285, 288, 291, 294] (by decide +kernel) (by decide +kernel) w h).1
set_option maxRecDepth 20000 in
theorem wsL_law_r7_in : ∀ w ∈ wsL_law_r7, w ∈ lw_tbl := fun w h => (goodIn_p wsL_law_r7 [612, 616, 619, 623, 627, 631] (by decide +kernel) (by decide +kernel) w h).1
set_option maxRecDepth 20000 in
theorem wsL_law_r8_in : ∀ w ∈ wsL_law_r8, w ∈ lw_tbl := fun w h => (goodIn_p wsL_law_r8 [635, 639, 301, 305, 643, 309] (by decide +kernel) (by decide +kernel) w h).1
set_option maxRecDepth 20000 in
theorem wsL_law_r9_in : ∀ w ∈ wsL_law_r9, w ∈ lw_tbl := fun w h => (goodIn_p wsL_law_r9 [313, 317, 647, 651, 655, 321, 325] (by decide +kernel) (by decide +kernel) w h).1
set_option maxRecDepth 20000 in
theorem wsL_law_r10_in : ∀ w ∈ wsL_law_r10, w ∈ lw_tbl := fun w h => (goodIn_p wsL_law_r10 [659, 663, 667, 329, 333, 337] (by decide +kernel) (by decide +kernel) w h).1
set_option maxRecDepth 20000 in
theorem wsL_law_r11_in : ∀ w ∈ wsL_law_r11, w ∈ lw_tbl := fun w h => (goodIn_p wsL_law_r11 [341, 345, 349, 352, 356, 360] (by decide +kernel) (by decide +kernel) w h).1
set_option maxRecDepth 20000 in
theorem wsL_law_r12_in : ∀ w ∈ wsL_law_r12, w ∈ lw_tbl := fun w h => (goodIn_p wsL_law_r12 [364, 368, 371, 375, 379, 383] (by decide +kernel) (by decide +kernel) w h).1
set_option maxRecDepth 20000 in
theorem wsL_law_r13_in : ∀ w ∈ wsL_law_r13, w ∈ lw_tbl := fun w h => (goodIn_p wsL_law_r13 [386, 390, 394, 398, 402, 671] (by decide +kernel) (by decide +kernel) w h).1
set_option maxRecDepth 20000 in
theorem wsL_law_r14_in : ∀ w ∈ wsL_law_r14, w ∈ lw_tbl := fun w h => (goodIn_p wsL_law_r14 [675, 679, 683, 687, 691, 695] (by decide +kernel) (by decide +kernel) w h).1
set_option maxRecDepth 20000 in
theorem wsL_law_r15_in : ∀ w ∈ wsL_law_r15, w ∈ lw_tbl := fun w h => (goodIn_p wsL_law_r15 [699, 703, 707, 711, 715, 718] (by decide +kernel) (by decide +kernel) w h).1
set_option maxRecDepth 20000 in
theorem wsL_law_r16_in : ∀ w ∈ wsL_law_r16, w ∈ lw_tbl := fun w h => (goodIn_p wsL_law_r16 [722, 726, 729, 733, 737, 741, 745] (by decide +kernel) (by decide +kernel) w h).1
set_option maxRecDepth 20000 in
theorem wsL_law_r17_in : ∀ w ∈ wsL_law_r17, w ∈ lw_tbl := fun w h => (goodIn_p wsL_law_r17 [406, 411, 749, 416, 753, 420] (by decide +kernel) (by decide +kernel) w h).1
set_option maxRecDepth 20000 in
theorem wsL_law_r18_in : ∀ w ∈ wsL_law_r18, w ∈ lw_tbl := fun w h => (goodIn_p wsL_law_r18 [757, 761, 426, 765, 769] (by decide +kernel) (by decide +kernel) w h).1
set_option maxRecDepth 20000 in
theorem wsL_law_r19_in : ∀ w ∈ wsL_law_r19, w ∈ lw_tbl := fun w h => (goodIn_p wsL_law_r19 [430, 773, 434, 438, 777, 442, 781] (by decide +kernel) (by decide +kernel) w h).1
set_option maxRecDepth 20000 in
theorem wsL_law_r20_in : ∀ w ∈ wsL_law_r20, w ∈ lw_tbl := fun w h => (goodIn_p wsL_law_r20 [447, 785, 451, 455, 789, 460] (by decide +kernel) (by decide +kernel) w h).1
set_option maxRecDepth 20000 in
theorem wsL_law_r21_in : ∀ w ∈ wsL_law_r21, w ∈ lw_tbl := fun w h => (goodIn_p wsL_law_r21 [463, 470, 793, 474, 478] (by decide +kernel) (by decide +kernel) w h).1
set_option maxRecDepth 20000 in
theorem wsL_law_r22_in : ∀ w ∈ wsL_law_r22, w ∈ lw_tbl := fun w h => (goodIn_p wsL_law_r22 [798, 482, 486, 490, 494, 498, 502] (by decide +kernel) (by decide +kernel) w h).1
set_option maxRecDepth 20000 in
theorem wsL_law_r23_in : ∀ w ∈ wsL_law_r23, w ∈ lw_tbl := fun w h => (goodIn_p wsL_law_r23 [506, 509, 513, 517, 802, 806] (by decide +kernel) (by decide +kernel) w h).1
set_option maxRecDepth 20000 in
theorem wsL_law_r24_in : ∀ w ∈ wsL_law_r24, w ∈ lw_tbl := fun w h => (goodIn_p wsL_law_r24 [810, 814, 818, 822, 826] (by decide +kernel) (by decide +kernel) w h).1
set_option maxRecDepth 20000 in
theorem wsL_law_r25_in : ∀ w ∈ wsL_law_r25, w ∈ lw_tbl := fun w h => (goodIn_p wsL_law_r25 [830, 834, 521, 527, 838, 842] (by decide +kernel) (by decide +kernel) w h).1
set_option maxRecDepth 20000 in
theorem wsL_law_r26_in : ∀ w ∈ wsL_law_r26, w ∈ lw_tbl := fun w h => (goodIn_p wsL_law_r26 [846, 531, 850, 535, 854, 540] (by decide +kernel) (by decide +kernel) w h).1
set_option maxRecDepth 20000 in
theorem wsL_law_r27_in : ∀ w ∈ wsL_law_r27, w ∈ lw_tbl := fun w h => (goodIn_p wsL_law_r27 [858] (by decide +kernel) (by decide +kernel) w h).1
set_option maxRecDepth 20000 in
theorem wsX20_in : ∀ w ∈ wsX20, w ∈ lw_tbl := by decide +kernel
set_option maxRecDepth 20000 in
theorem wsX30_in : ∀ w ∈ wsX30, w ∈ lw_tbl := by decide +kernel
set_option maxRecDepth 20000 in
theorem wsX10_in : ∀ w ∈ wsX10, w ∈ lw_tbl := by decide +kernel
set_option maxRecDepth 20000 in
theorem wsX00_in : ∀ w ∈ wsX00, w ∈ lw_tbl := by decide +kernel
theorem wsL_law_in : ∀ w ∈ wsL_law, w ∈ lw_tbl := by
  show ∀ w ∈ ((((((wsL_law_r1 ++ (wsL_law_r2 ++ (wsL_law_r3 ++ (wsL_law_r4 ++ (wsL_law_r5 ++ (wsL_law_r6 ++ (wsL_law_r7 ++ (wsL_law_r8 ++ (wsL_law_r9 ++ (wsL_law_r10 ++ (wsL_law_r11 ++ (wsL_law_r12 ++ (wsL_law_r13 ++ (wsL_law_r14 ++ (wsL_law_r15 ++ (wsL_law_r16 ++ (wsL_law_r17 ++ (wsL_law_r18 ++ (wsL_law_r19 ++ (wsL_law_r20 ++ (wsL_law_r21 ++ (wsL_law_r22 ++ (wsL_law_r23 ++ (wsL_law_r24 ++ (wsL_law_r25 ++ (wsL_law_r26 ++ wsL_law_r27)))))))))))))))))))))))))) ++ wsX20) ++ wsX30) ++ wsX10) ++ wsX00) ++ ([] : List Cond)), w ∈ lw_tbl
  exact List.forall_mem_append.mpr ⟨List.forall_mem_append.mpr ⟨List.forall_mem_append.mpr ⟨List.forall_mem_append.mpr ⟨List.forall_mem_append.mpr ⟨List.forall_mem_append.mpr ⟨wsL_law_r1_in, List.forall_mem_append.mpr ⟨wsL_law_r2_in, List.forall_mem_append.mpr ⟨wsL_law_r3_in, List.forall_mem_append.mpr ⟨wsL_law_r4_in, List.forall_mem_append.mpr ⟨wsL_law_r5_in, List.forall_mem_append.mpr ⟨wsL_law_r6_in, List.forall_mem_append.mpr ⟨wsL_law_r7_in, List.forall_mem_append.mpr ⟨wsL_law_r8_in, List.forall_mem_append.mpr ⟨wsL_law_r9_in, List.forall_mem_append.mpr ⟨wsL_law_r10_in, List.forall_mem_append.mpr ⟨wsL_law_r11_in, List.forall_mem_append.mpr ⟨wsL_law_r12_in, List.forall_mem_append.mpr ⟨wsL_law_r13_in, List.forall_mem_append.mpr ⟨wsL_law_r14_in, List.forall_mem_append.mpr ⟨wsL_law_r15_in, List.forall_mem_append.mpr ⟨wsL_law_r16_in, List.forall_mem_append.mpr ⟨wsL_law_r17_in, List.forall_mem_append.mpr ⟨wsL_law_r18_in, List.forall_mem_append.mpr ⟨wsL_law_r19_in, List.forall_mem_append.mpr ⟨wsL_law_r20_in, List.forall_mem_append.mpr ⟨wsL_law_r21_in, List.forall_mem_append.mpr ⟨wsL_law_r22_in, List.forall_mem_append.mpr ⟨wsL_law_r23_in, List.forall_mem_append.mpr ⟨wsL_law_r24_in, List.forall_mem_append.mpr ⟨wsL_law_r25_in, List.forall_mem_append.mpr ⟨wsL_law_r26_in, wsL_law_r27_in⟩⟩⟩⟩⟩⟩⟩⟩⟩⟩⟩⟩⟩⟩⟩⟩⟩⟩⟩⟩⟩⟩⟩⟩⟩⟩, wsX20_in⟩, wsX30_in⟩, wsX10_in⟩, wsX00_in⟩, (fun _ h => absurd h List.not_mem_nil)⟩
theorem inlX0 : ∀ w ∈ wsX00, w ∈ wsL_law := fun _ h => List.mem_append_left _ (List.mem_append_right _ h)
theorem inX0 : ∀ w ∈ wsX00, w ∈ lw_tbl := fun w h => wsL_law_in w (inlX0 w h)
theorem inlX1 : ∀ w ∈ wsX10, w ∈ wsL_law := fun _ h => List.mem_append_left _ (List.mem_append_left _ (List.mem_append_right _ h))
theorem inX1 : ∀ w ∈ wsX10, w ∈ lw_tbl := fun w h => wsL_law_in w (inlX1 w h)
theorem inlX2 : ∀ w ∈ wsX20, w ∈ wsL_law := fun _ h => List.mem_append_left _ (List.mem_append_left _ (List.mem_append_left _ (List.mem_append_left _ (List.mem_append_right _ h))))
theorem inX2 : ∀ w ∈ wsX20, w ∈ lw_tbl := fun w h => wsL_law_in w (inlX2 w h)
theorem inlX3 : ∀ w ∈ wsX30, w ∈ wsL_law := fun _ h => List.mem_append_left _ (List.mem_append_left _ (List.mem_append_left _ (List.mem_append_right _ h)))
theorem inX3 : ∀ w ∈ wsX30, w ∈ lw_tbl := fun w h => wsL_law_in w (inlX3 w h)
theorem inJ6 : ∀ w ∈ wsJ60, w ∈ lw_tbl := by decide +kernel
theorem inJ9 : ∀ w ∈ wsJ90, w ∈ lw_tbl := by decide +kernel
theorem inJ10 : ∀ w ∈ wsJ100, w ∈ lw_tbl := by decide +kernel
theorem dX0_init_0 : decode cX0_init 0 = .ok (.aload_n 0, 1) := by decide +kernel
theorem dX0_init_1 : decode cX0_init 1 = .ok (.invokespecial 3, 3) := by decide +kernel
theorem dX0_init_4 : decode cX0_init 4 = .ok (.aload_n 0, 1) := by decide +kernel
theorem dX0_init_5 : decode cX0_init 5 = .ok (.bipush 80, 2) := by decide +kernel
theorem dX0_init_7 : decode cX0_init 7 = .ok (.newarray .char, 2) := by decide +kernel
theorem dX0_init_9 : decode cX0_init 9 = .ok (.putfield 9, 3) := by decide +kernel
theorem dX0_init_12 : decode cX0_init 12 = .ok (.aload_n 0, 1) := by decide +kernel
theorem dX0_init_13 : decode cX0_init 13 = .ok (.iconst 0, 1) := by decide +kernel
theorem dX0_init_14 : decode cX0_init 14 = .ok (.putfield 15, 3) := by decide +kernel
theorem dX0_init_17 : decode cX0_init 17 = .ok (.aload_n 0, 1) := by decide +kernel
theorem dX0_init_18 : decode cX0_init 18 = .ok (.iconst 0, 1) := by decide +kernel
theorem dX0_init_19 : decode cX0_init 19 = .ok (.putfield 19, 3) := by decide +kernel
theorem dX0_init_22 : decode cX0_init 22 = .ok (.aload_n 0, 1) := by decide +kernel
theorem dX0_init_23 : decode cX0_init 23 = .ok (.iconst 0, 1) := by decide +kernel
theorem dX0_init_24 : decode cX0_init 24 = .ok (.putfield 22, 3) := by decide +kernel
theorem dX0_init_27 : decode cX0_init 27 = .ok (.aload_n 0, 1) := by decide +kernel
theorem dX0_init_28 : decode cX0_init 28 = .ok (.iconst 0, 1) := by decide +kernel
theorem dX0_init_29 : decode cX0_init 29 = .ok (.putfield 26, 3) := by decide +kernel
theorem dX0_init_32 : decode cX0_init 32 = .ok (.aload_n 0, 1) := by decide +kernel
theorem dX0_init_33 : decode cX0_init 33 = .ok (.iconst 0, 1) := by decide +kernel
theorem dX0_init_34 : decode cX0_init 34 = .ok (.putfield 29, 3) := by decide +kernel
theorem dX0_init_37 : decode cX0_init 37 = .ok (.aload_n 0, 1) := by decide +kernel
theorem dX0_init_38 : decode cX0_init 38 = .ok (.iconst 0, 1) := by decide +kernel
theorem dX0_init_39 : decode cX0_init 39 = .ok (.putfield 32, 3) := by decide +kernel
theorem dX0_init_42 : decode cX0_init 42 = .ok (.aload_n 0, 1) := by decide +kernel
theorem dX0_init_43 : decode cX0_init 43 = .ok (.iconst 0, 1) := by decide +kernel
theorem dX0_init_44 : decode cX0_init 44 = .ok (.putfield 35, 3) := by decide +kernel
theorem dX0_init_47 : decode cX0_init 47 = .ok (.return_, 1) := by decide +kernel
theorem dX0_append_0 : decode cX0_append 0 = .ok (.aload_n 0, 1) := by decide +kernel
theorem dX0_append_1 : decode cX0_append 1 = .ok (.getfield 15, 3) := by decide +kernel
theorem dX0_append_4 : decode cX0_append 4 = .ok (.ifCond .lt 32, 3) := by decide +kernel
theorem dX0_append_7 : decode cX0_append 7 = .ok (.aload_n 0, 1) := by decide +kernel
theorem dX0_append_8 : decode cX0_append 8 = .ok (.getfield 15, 3) := by decide +kernel
theorem dX0_append_11 : decode cX0_append 11 = .ok (.bipush 80, 2) := by decide +kernel
theorem dX0_append_13 : decode cX0_append 13 = .ok (.if_icmp .ge 23, 3) := by decide +kernel
theorem dX0_append_16 : decode cX0_append 16 = .ok (.aload_n 0, 1) := by decide +kernel
theorem dX0_append_17 : decode cX0_append 17 = .ok (.getfield 9, 3) := by decide +kernel
theorem dX0_append_20 : decode cX0_append 20 = .ok (.aload_n 0, 1) := by decide +kernel
theorem dX0_append_21 : decode cX0_append 21 = .ok (.getfield 15, 3) := by decide +kernel
theorem dX0_append_24 : decode cX0_append 24 = .ok (.iload_n 1, 1) := by decide +kernel
theorem dX0_append_25 : decode cX0_append 25 = .ok (.castore, 1) := by decide +kernel
theorem dX0_append_26 : decode cX0_append 26 = .ok (.aload_n 0, 1) := by decide +kernel
theorem dX0_append_27 : decode cX0_append 27 = .ok (.dup, 1) := by decide +kernel
theorem dX0_append_28 : decode cX0_append 28 = .ok (.getfield 15, 3) := by decide +kernel
theorem dX0_append_31 : decode cX0_append 31 = .ok (.iconst 1, 1) := by decide +kernel
theorem dX0_append_32 : decode cX0_append 32 = .ok (.iadd, 1) := by decide +kernel
theorem dX0_append_33 : decode cX0_append 33 = .ok (.putfield 15, 3) := by decide +kernel
theorem dX0_append_36 : decode cX0_append 36 = .ok (.return_, 1) := by decide +kernel
theorem dX0_clear_0 : decode cX0_clear 0 = .ok (.aload_n 0, 1) := by decide +kernel
theorem dX0_clear_1 : decode cX0_clear 1 = .ok (.iconst 0, 1) := by decide +kernel
theorem dX0_clear_2 : decode cX0_clear 2 = .ok (.putfield 15, 3) := by decide +kernel
theorem dX0_clear_5 : decode cX0_clear 5 = .ok (.return_, 1) := by decide +kernel
theorem dX0_rewind_0 : decode cX0_rewind 0 = .ok (.aload_n 0, 1) := by decide +kernel
theorem dX0_rewind_1 : decode cX0_rewind 1 = .ok (.iconst 0, 1) := by decide +kernel
theorem dX0_rewind_2 : decode cX0_rewind 2 = .ok (.putfield 19, 3) := by decide +kernel
theorem dX0_rewind_5 : decode cX0_rewind 5 = .ok (.aload_n 0, 1) := by decide +kernel
theorem dX0_rewind_6 : decode cX0_rewind 6 = .ok (.iconst 1, 1) := by decide +kernel
theorem dX0_rewind_7 : decode cX0_rewind 7 = .ok (.putfield 35, 3) := by decide +kernel
theorem dX0_rewind_10 : decode cX0_rewind 10 = .ok (.return_, 1) := by decide +kernel
set_option maxRecDepth 20000 in
theorem ggX0_findFault_X0_rewind : GoodIn wsX0_findFault wsX0_rewind := goodIn_r _ [7, 2, 1, 41, 42, 43, 44, 45, 46, 47, 48] (by decide +kernel) (by decide +kernel)
set_option maxRecDepth 20000 in
theorem gX0_findFault_X0_rewind : GoodIn wsX0_findFault (wsV RX0 39 RX0 yX0_rewind wsX0_rewind) := goodIn_app (goodIn_of _ (by decide +kernel)) ggX0_findFault_X0_rewind
set_option maxRecDepth 20000 in
theorem ggX0_findFault_X0_readOrder : GoodIn wsX0_findFault wsX0_readOrder := goodIn_r _ [11, 12, 13, 14, 1, 15, 2, 16, 17, 18, 19, 6, 20, 21, 22, 23, 24, 25, 26, 27, 28, 29, 30, 31, 32, 33, 34, 35, 36, 37, 38, 39, 40, 41, 42, 43, 44, 45, 46, 47, 48] (by decide +kernel) (by decide +kernel)
set_option maxRecDepth 20000 in
theorem gX0_findFault_X0_readOrder : GoodIn wsX0_findFault (wsV RX0 42 RX0 yX0_readOrder wsX0_readOrder) := goodIn_app (goodIn_of _ (by decide +kernel)) ggX0_findFault_X0_readOrder
theorem dX0_findFault_0 : decode cX0_findFault 0 = .ok (.aload_n 0, 1) := by decide +kernel
theorem dX0_findFault_1 : decode cX0_findFault 1 = .ok (.invokevirtual 39, 3) := by decide +kernel
theorem dX0_findFault_4 : decode cX0_findFault 4 = .ok (.iconst 0, 1) := by decide +kernel
theorem dX0_findFault_5 : decode cX0_findFault 5 = .ok (.istore_n 1, 1) := by decide +kernel
theorem dX0_findFault_6 : decode cX0_findFault 6 = .ok (.iload_n 1, 1) := by decide +kernel
theorem dX0_findFault_7 : decode cX0_findFault 7 = .ok (.bipush 80, 2) := by decide +kernel
theorem dX0_findFault_9 : decode cX0_findFault 9 = .ok (.if_icmp .ge 28, 3) := by decide +kernel
theorem dX0_findFault_12 : decode cX0_findFault 12 = .ok (.aload_n 0, 1) := by decide +kernel
theorem dX0_findFault_13 : decode cX0_findFault 13 = .ok (.getfield 35, 3) := by decide +kernel
theorem dX0_findFault_16 : decode cX0_findFault 16 = .ok (.ifCond .eq 21, 3) := by decide +kernel
theorem dX0_findFault_19 : decode cX0_findFault 19 = .ok (.aload_n 0, 1) := by decide +kernel
theorem dX0_findFault_20 : decode cX0_findFault 20 = .ok (.invokevirtual 42, 3) := by decide +kernel
theorem dX0_findFault_23 : decode cX0_findFault 23 = .ok (.ifCond .ne 8, 3) := by decide +kernel
theorem dX0_findFault_26 : decode cX0_findFault 26 = .ok (.aload_n 0, 1) := by decide +kernel
theorem dX0_findFault_27 : decode cX0_findFault 27 = .ok (.getfield 19, 3) := by decide +kernel
theorem dX0_findFault_30 : decode cX0_findFault 30 = .ok (.ireturn, 1) := by decide +kernel
theorem dX0_findFault_31 : decode cX0_findFault 31 = .ok (.iinc 1 1, 3) := by decide +kernel
theorem dX0_findFault_34 : decode cX0_findFault 34 = .ok (.goto (-28), 3) := by decide +kernel
theorem dX0_findFault_37 : decode cX0_findFault 37 = .ok (.bipush (-6), 2) := by decide +kernel
theorem dX0_findFault_39 : decode cX0_findFault 39 = .ok (.ireturn, 1) := by decide +kernel
set_option maxRecDepth 20000 in
theorem ggX0_readOrder_X0_next : GoodIn wsX0_readOrder wsX0_next := goodIn_r _ [12, 6, 7, 13, 33, 34, 35, 36, 37, 38, 39, 40] (by decide +kernel) (by decide +kernel)
set_option maxRecDepth 20000 in
theorem gX0_readOrder_X0_next : GoodIn wsX0_readOrder (wsV RX0 46 RX0 yX0_next wsX0_next) := goodIn_app (goodIn_of _ (by decide +kernel)) ggX0_readOrder_X0_next
set_option maxRecDepth 20000 in
theorem ggX0_readOrder_X0_readBody : GoodIn wsX0_readOrder wsX0_readBody := goodIn_r _ [17, 5, 6, 2, 18, 19, 20, 11, 21, 1, 8, 9, 10, 12, 7, 13, 22, 23, 24, 25, 26, 27, 28, 29, 30, 31, 32, 3, 33, 34, 35, 36, 37, 38, 39, 40] (by decide +kernel) (by decide +kernel)
set_option maxRecDepth 20000 in
theorem gX0_readOrder_X0_readBody : GoodIn wsX0_readOrder (wsV RX0 50 RX0 yX0_readBody wsX0_readBody) := goodIn_app (goodIn_of _ (by decide +kernel)) ggX0_readOrder_X0_readBody
set_option maxRecDepth 20000 in
theorem ggX0_readOrder_X0_skip : GoodIn wsX0_readOrder wsX0_skip := goodIn_r _ [28, 6, 8, 9, 10, 11, 12, 7, 13, 33, 34, 35, 36, 37, 38, 39, 40] (by decide +kernel) (by decide +kernel)
set_option maxRecDepth 20000 in
theorem gX0_readOrder_X0_skip : GoodIn wsX0_readOrder (wsV RX0 53 RX0 yX0_skip wsX0_skip) := goodIn_app (goodIn_of _ (by decide +kernel)) ggX0_readOrder_X0_skip
theorem dX0_readOrder_0 : decode cX0_readOrder 0 = .ok (.aload_n 0, 1) := by decide +kernel
theorem dX0_readOrder_1 : decode cX0_readOrder 1 = .ok (.iconst 0, 1) := by decide +kernel
theorem dX0_readOrder_2 : decode cX0_readOrder 2 = .ok (.putfield 26, 3) := by decide +kernel
theorem dX0_readOrder_5 : decode cX0_readOrder 5 = .ok (.aload_n 0, 1) := by decide +kernel
theorem dX0_readOrder_6 : decode cX0_readOrder 6 = .ok (.iconst 0, 1) := by decide +kernel
theorem dX0_readOrder_7 : decode cX0_readOrder 7 = .ok (.putfield 29, 3) := by decide +kernel
theorem dX0_readOrder_10 : decode cX0_readOrder 10 = .ok (.aload_n 0, 1) := by decide +kernel
theorem dX0_readOrder_11 : decode cX0_readOrder 11 = .ok (.iconst 0, 1) := by decide +kernel
theorem dX0_readOrder_12 : decode cX0_readOrder 12 = .ok (.putfield 32, 3) := by decide +kernel
theorem dX0_readOrder_15 : decode cX0_readOrder 15 = .ok (.aload_n 0, 1) := by decide +kernel
theorem dX0_readOrder_16 : decode cX0_readOrder 16 = .ok (.iconst 0, 1) := by decide +kernel
theorem dX0_readOrder_17 : decode cX0_readOrder 17 = .ok (.putfield 35, 3) := by decide +kernel
theorem dX0_readOrder_20 : decode cX0_readOrder 20 = .ok (.aload_n 0, 1) := by decide +kernel
theorem dX0_readOrder_21 : decode cX0_readOrder 21 = .ok (.aload_n 0, 1) := by decide +kernel
theorem dX0_readOrder_22 : decode cX0_readOrder 22 = .ok (.invokevirtual 46, 3) := by decide +kernel
theorem dX0_readOrder_25 : decode cX0_readOrder 25 = .ok (.putfield 22, 3) := by decide +kernel
theorem dX0_readOrder_28 : decode cX0_readOrder 28 = .ok (.aload_n 0, 1) := by decide +kernel
theorem dX0_readOrder_29 : decode cX0_readOrder 29 = .ok (.invokevirtual 50, 3) := by decide +kernel
theorem dX0_readOrder_32 : decode cX0_readOrder 32 = .ok (.ifCond .ne 5, 3) := by decide +kernel
theorem dX0_readOrder_35 : decode cX0_readOrder 35 = .ok (.iconst 0, 1) := by decide +kernel
theorem dX0_readOrder_36 : decode cX0_readOrder 36 = .ok (.ireturn, 1) := by decide +kernel
theorem dX0_readOrder_37 : decode cX0_readOrder 37 = .ok (.aload_n 0, 1) := by decide +kernel
theorem dX0_readOrder_38 : decode cX0_readOrder 38 = .ok (.aload_n 0, 1) := by decide +kernel
theorem dX0_readOrder_39 : decode cX0_readOrder 39 = .ok (.bipush 59, 2) := by decide +kernel
theorem dX0_readOrder_41 : decode cX0_readOrder 41 = .ok (.invokevirtual 53, 3) := by decide +kernel
theorem dX0_readOrder_44 : decode cX0_readOrder 44 = .ok (.putfield 35, 3) := by decide +kernel
theorem dX0_readOrder_47 : decode cX0_readOrder 47 = .ok (.aload_n 0, 1) := by decide +kernel
theorem dX0_readOrder_48 : decode cX0_readOrder 48 = .ok (.getfield 35, 3) := by decide +kernel
theorem dX0_readOrder_51 : decode cX0_readOrder 51 = .ok (.ifCond .ne 14, 3) := by decide +kernel
theorem dX0_readOrder_54 : decode cX0_readOrder 54 = .ok (.aload_n 0, 1) := by decide +kernel
theorem dX0_readOrder_55 : decode cX0_readOrder 55 = .ok (.getfield 19, 3) := by decide +kernel
theorem dX0_readOrder_58 : decode cX0_readOrder 58 = .ok (.aload_n 0, 1) := by decide +kernel
theorem dX0_readOrder_59 : decode cX0_readOrder 59 = .ok (.getfield 15, 3) := by decide +kernel
theorem dX0_readOrder_62 : decode cX0_readOrder 62 = .ok (.if_icmp .ne 7, 3) := by decide +kernel
theorem dX0_readOrder_65 : decode cX0_readOrder 65 = .ok (.iconst 1, 1) := by decide +kernel
theorem dX0_readOrder_66 : decode cX0_readOrder 66 = .ok (.goto 4, 3) := by decide +kernel
theorem dX0_readOrder_69 : decode cX0_readOrder 69 = .ok (.iconst 0, 1) := by decide +kernel
theorem dX0_readOrder_70 : decode cX0_readOrder 70 = .ok (.ireturn, 1) := by decide +kernel
set_option maxRecDepth 20000 in
theorem ggX0_readBody_X0_readNumber : GoodIn wsX0_readBody wsX0_readNumber := goodIn_r _ [8, 9, 2, 10, 11, 12, 7, 13, 14, 15, 16, 17, 18, 28, 29, 30, 31, 32, 33, 34, 35] (by decide +kernel) (by decide +kernel)
set_option maxRecDepth 20000 in
theorem gX0_readBody_X0_readNumber : GoodIn wsX0_readBody (wsV RX0 57 RX0 yX0_readNumber wsX0_readNumber) := goodIn_app (goodIn_of _ (by decide +kernel)) ggX0_readBody_X0_readNumber
set_option maxRecDepth 20000 in
theorem ggX0_readBody_X0_skip : GoodIn wsX0_readBody wsX0_skip := goodIn_r _ [22, 2, 10, 11, 12, 7, 13, 14, 15, 28, 29, 30, 31, 32, 33, 34, 35] (by decide +kernel) (by decide +kernel)
set_option maxRecDepth 20000 in
theorem gX0_readBody_X0_skip : GoodIn wsX0_readBody (wsV RX0 53 RX0 yX0_skip wsX0_skip) := goodIn_app (goodIn_of _ (by decide +kernel)) ggX0_readBody_X0_skip
set_option maxRecDepth 20000 in
theorem ggX0_readBody_X0_readHours : GoodIn wsX0_readBody wsX0_readHours := goodIn_r _ [26, 27, 9, 4, 5, 6, 7, 8, 2, 10, 11, 12, 13, 14, 15, 16, 17, 18, 19, 20, 21, 22, 28, 29, 30, 31, 32, 33, 34, 35] (by decide +kernel) (by decide +kernel)
set_option maxRecDepth 20000 in
theorem gX0_readBody_X0_readHours : GoodIn wsX0_readBody (wsV RX0 61 RX0 yX0_readHours wsX0_readHours) := goodIn_app (goodIn_of _ (by decide +kernel)) ggX0_readBody_X0_readHours
theorem dX0_readBody_0 : decode cX0_readBody 0 = .ok (.aload_n 0, 1) := by decide +kernel
theorem dX0_readBody_1 : decode cX0_readBody 1 = .ok (.getfield 22, 3) := by decide +kernel
theorem dX0_readBody_4 : decode cX0_readBody 4 = .ok (.lookupswitch 142 #[(99, 93), (107, 93), (112, 52), (114, 110), (116, 93)], 52) := by decide +kernel
theorem dX0_readBody_56 : decode cX0_readBody 56 = .ok (.aload_n 0, 1) := by decide +kernel
theorem dX0_readBody_57 : decode cX0_readBody 57 = .ok (.dup, 1) := by decide +kernel
theorem dX0_readBody_58 : decode cX0_readBody 58 = .ok (.getfield 19, 3) := by decide +kernel
theorem dX0_readBody_61 : decode cX0_readBody 61 = .ok (.iconst 1, 1) := by decide +kernel
theorem dX0_readBody_62 : decode cX0_readBody 62 = .ok (.iadd, 1) := by decide +kernel
theorem dX0_readBody_63 : decode cX0_readBody 63 = .ok (.putfield 19, 3) := by decide +kernel
theorem dX0_readBody_66 : decode cX0_readBody 66 = .ok (.aload_n 0, 1) := by decide +kernel
theorem dX0_readBody_67 : decode cX0_readBody 67 = .ok (.bipush 99, 2) := by decide +kernel
theorem dX0_readBody_69 : decode cX0_readBody 69 = .ok (.invokevirtual 57, 3) := by decide +kernel
theorem dX0_readBody_72 : decode cX0_readBody 72 = .ok (.ifCond .ne 5, 3) := by decide +kernel
theorem dX0_readBody_75 : decode cX0_readBody 75 = .ok (.iconst 0, 1) := by decide +kernel
theorem dX0_readBody_76 : decode cX0_readBody 76 = .ok (.ireturn, 1) := by decide +kernel
theorem dX0_readBody_77 : decode cX0_readBody 77 = .ok (.aload_n 0, 1) := by decide +kernel
theorem dX0_readBody_78 : decode cX0_readBody 78 = .ok (.aload_n 0, 1) := by decide +kernel
theorem dX0_readBody_79 : decode cX0_readBody 79 = .ok (.bipush 99, 2) := by decide +kernel
theorem dX0_readBody_81 : decode cX0_readBody 81 = .ok (.invokevirtual 53, 3) := by decide +kernel
theorem dX0_readBody_84 : decode cX0_readBody 84 = .ok (.ifCond .eq 7, 3) := by decide +kernel
theorem dX0_readBody_87 : decode cX0_readBody 87 = .ok (.iconst 1, 1) := by decide +kernel
theorem dX0_readBody_88 : decode cX0_readBody 88 = .ok (.goto 4, 3) := by decide +kernel
theorem dX0_readBody_91 : decode cX0_readBody 91 = .ok (.iconst 0, 1) := by decide +kernel
theorem dX0_readBody_92 : decode cX0_readBody 92 = .ok (.putfield 29, 3) := by decide +kernel
theorem dX0_readBody_95 : decode cX0_readBody 95 = .ok (.iconst 1, 1) := by decide +kernel
theorem dX0_readBody_96 : decode cX0_readBody 96 = .ok (.ireturn, 1) := by decide +kernel
theorem dX0_readBody_97 : decode cX0_readBody 97 = .ok (.aload_n 0, 1) := by decide +kernel
theorem dX0_readBody_98 : decode cX0_readBody 98 = .ok (.dup, 1) := by decide +kernel
theorem dX0_readBody_99 : decode cX0_readBody 99 = .ok (.getfield 19, 3) := by decide +kernel
theorem dX0_readBody_102 : decode cX0_readBody 102 = .ok (.iconst 1, 1) := by decide +kernel
theorem dX0_readBody_103 : decode cX0_readBody 103 = .ok (.iadd, 1) := by decide +kernel
theorem dX0_readBody_104 : decode cX0_readBody 104 = .ok (.putfield 19, 3) := by decide +kernel
theorem dX0_readBody_107 : decode cX0_readBody 107 = .ok (.aload_n 0, 1) := by decide +kernel
theorem dX0_readBody_108 : decode cX0_readBody 108 = .ok (.bipush 99, 2) := by decide +kernel
theorem dX0_readBody_110 : decode cX0_readBody 110 = .ok (.invokevirtual 57, 3) := by decide +kernel
theorem dX0_readBody_113 : decode cX0_readBody 113 = .ok (.ireturn, 1) := by decide +kernel
theorem dX0_readBody_114 : decode cX0_readBody 114 = .ok (.aload_n 0, 1) := by decide +kernel
theorem dX0_readBody_115 : decode cX0_readBody 115 = .ok (.dup, 1) := by decide +kernel
theorem dX0_readBody_116 : decode cX0_readBody 116 = .ok (.getfield 19, 3) := by decide +kernel
theorem dX0_readBody_119 : decode cX0_readBody 119 = .ok (.iconst 1, 1) := by decide +kernel
theorem dX0_readBody_120 : decode cX0_readBody 120 = .ok (.iadd, 1) := by decide +kernel
theorem dX0_readBody_121 : decode cX0_readBody 121 = .ok (.putfield 19, 3) := by decide +kernel
theorem dX0_readBody_124 : decode cX0_readBody 124 = .ok (.aload_n 0, 1) := by decide +kernel
theorem dX0_readBody_125 : decode cX0_readBody 125 = .ok (.bipush 45, 2) := by decide +kernel
theorem dX0_readBody_127 : decode cX0_readBody 127 = .ok (.invokevirtual 53, 3) := by decide +kernel
theorem dX0_readBody_130 : decode cX0_readBody 130 = .ok (.ifCond .ne 10, 3) := by decide +kernel
theorem dX0_readBody_133 : decode cX0_readBody 133 = .ok (.aload_n 0, 1) := by decide +kernel
theorem dX0_readBody_134 : decode cX0_readBody 134 = .ok (.invokevirtual 61, 3) := by decide +kernel
theorem dX0_readBody_137 : decode cX0_readBody 137 = .ok (.ifCond .eq 7, 3) := by decide +kernel
theorem dX0_readBody_140 : decode cX0_readBody 140 = .ok (.iconst 1, 1) := by decide +kernel
theorem dX0_readBody_141 : decode cX0_readBody 141 = .ok (.goto 4, 3) := by decide +kernel
theorem dX0_readBody_144 : decode cX0_readBody 144 = .ok (.iconst 0, 1) := by decide +kernel
theorem dX0_readBody_145 : decode cX0_readBody 145 = .ok (.ireturn, 1) := by decide +kernel
theorem dX0_readBody_146 : decode cX0_readBody 146 = .ok (.iconst 0, 1) := by decide +kernel
theorem dX0_readBody_147 : decode cX0_readBody 147 = .ok (.ireturn, 1) := by decide +kernel
set_option maxRecDepth 20000 in
theorem ggX0_readHours_X0_readNumber : GoodIn wsX0_readHours wsX0_readNumber := goodIn_r _ [7, 2, 8, 9, 10, 11, 6, 12, 13, 14, 15, 16, 17, 22, 23, 24, 25, 26, 27, 28, 29] (by decide +kernel) (by decide +kernel)
set_option maxRecDepth 20000 in
theorem gX0_readHours_X0_readNumber : GoodIn wsX0_readHours (wsV RX0 57 RX0 yX0_readNumber wsX0_readNumber) := goodIn_app (goodIn_of _ (by decide +kernel)) ggX0_readHours_X0_readNumber
set_option maxRecDepth 20000 in
theorem ggX0_readHours_X0_skip : GoodIn wsX0_readHours wsX0_skip := goodIn_r _ [21, 8, 9, 10, 11, 6, 12, 13, 14, 22, 23, 24, 25, 26, 27, 28, 29] (by decide +kernel) (by decide +kernel)
set_option maxRecDepth 20000 in
theorem gX0_readHours_X0_skip : GoodIn wsX0_readHours (wsV RX0 53 RX0 yX0_skip wsX0_skip) := goodIn_app (goodIn_of _ (by decide +kernel)) ggX0_readHours_X0_skip
theorem dX0_readHours_0 : decode cX0_readHours 0 = .ok (.iconst 0, 1) := by decide +kernel
theorem dX0_readHours_1 : decode cX0_readHours 1 = .ok (.istore_n 1, 1) := by decide +kernel
theorem dX0_readHours_2 : decode cX0_readHours 2 = .ok (.iload_n 1, 1) := by decide +kernel
theorem dX0_readHours_3 : decode cX0_readHours 3 = .ok (.bipush 80, 2) := by decide +kernel
theorem dX0_readHours_5 : decode cX0_readHours 5 = .ok (.if_icmp .ge 46, 3) := by decide +kernel
theorem dX0_readHours_8 : decode cX0_readHours 8 = .ok (.aload_n 0, 1) := by decide +kernel
theorem dX0_readHours_9 : decode cX0_readHours 9 = .ok (.bipush 23, 2) := by decide +kernel
theorem dX0_readHours_11 : decode cX0_readHours 11 = .ok (.invokevirtual 57, 3) := by decide +kernel
theorem dX0_readHours_14 : decode cX0_readHours 14 = .ok (.ifCond .ne 5, 3) := by decide +kernel
theorem dX0_readHours_17 : decode cX0_readHours 17 = .ok (.iconst 0, 1) := by decide +kernel
theorem dX0_readHours_18 : decode cX0_readHours 18 = .ok (.ireturn, 1) := by decide +kernel
theorem dX0_readHours_19 : decode cX0_readHours 19 = .ok (.aload_n 0, 1) := by decide +kernel
theorem dX0_readHours_20 : decode cX0_readHours 20 = .ok (.dup, 1) := by decide +kernel
theorem dX0_readHours_21 : decode cX0_readHours 21 = .ok (.getfield 32, 3) := by decide +kernel
theorem dX0_readHours_24 : decode cX0_readHours 24 = .ok (.iconst 1, 1) := by decide +kernel
theorem dX0_readHours_25 : decode cX0_readHours 25 = .ok (.aload_n 0, 1) := by decide +kernel
theorem dX0_readHours_26 : decode cX0_readHours 26 = .ok (.getfield 26, 3) := by decide +kernel
theorem dX0_readHours_29 : decode cX0_readHours 29 = .ok (.ishl, 1) := by decide +kernel
theorem dX0_readHours_30 : decode cX0_readHours 30 = .ok (.ior, 1) := by decide +kernel
theorem dX0_readHours_31 : decode cX0_readHours 31 = .ok (.putfield 32, 3) := by decide +kernel
theorem dX0_readHours_34 : decode cX0_readHours 34 = .ok (.aload_n 0, 1) := by decide +kernel
theorem dX0_readHours_35 : decode cX0_readHours 35 = .ok (.bipush 44, 2) := by decide +kernel
theorem dX0_readHours_37 : decode cX0_readHours 37 = .ok (.invokevirtual 53, 3) := by decide +kernel
theorem dX0_readHours_40 : decode cX0_readHours 40 = .ok (.ifCond .ne 5, 3) := by decide +kernel
theorem dX0_readHours_43 : decode cX0_readHours 43 = .ok (.iconst 1, 1) := by decide +kernel
theorem dX0_readHours_44 : decode cX0_readHours 44 = .ok (.ireturn, 1) := by decide +kernel
theorem dX0_readHours_45 : decode cX0_readHours 45 = .ok (.iinc 1 1, 3) := by decide +kernel
theorem dX0_readHours_48 : decode cX0_readHours 48 = .ok (.goto (-46), 3) := by decide +kernel
theorem dX0_readHours_51 : decode cX0_readHours 51 = .ok (.iconst 0, 1) := by decide +kernel
theorem dX0_readHours_52 : decode cX0_readHours 52 = .ok (.ireturn, 1) := by decide +kernel
set_option maxRecDepth 20000 in
theorem ggX0_readNumber_X0_next : GoodIn wsX0_readNumber wsX0_next := goodIn_r _ [7, 2, 8, 9, 13, 14, 15, 16, 17, 18, 19, 20] (by decide +kernel) (by decide +kernel)
set_option maxRecDepth 20000 in
theorem gX0_readNumber_X0_next : GoodIn wsX0_readNumber (wsV RX0 46 RX0 yX0_next wsX0_next) := goodIn_app (goodIn_of _ (by decide +kernel)) ggX0_readNumber_X0_next
set_option maxRecDepth 20000 in
theorem ggX0_readNumber_X0_isDigit : GoodIn wsX0_readNumber wsX0_isDigit := goodIn_r _ [12] (by decide +kernel) (by decide +kernel)
set_option maxRecDepth 20000 in
theorem gX0_readNumber_X0_isDigit : GoodIn wsX0_readNumber (va_wsS RX0 64 yX0_isDigit wsX0_isDigit) := goodIn_app (goodIn_of _ (by decide +kernel)) ggX0_readNumber_X0_isDigit
theorem dX0_readNumber_0 : decode cX0_readNumber 0 = .ok (.aload_n 0, 1) := by decide +kernel
theorem dX0_readNumber_1 : decode cX0_readNumber 1 = .ok (.invokevirtual 46, 3) := by decide +kernel
theorem dX0_readNumber_4 : decode cX0_readNumber 4 = .ok (.invokestatic 64, 3) := by decide +kernel
theorem dX0_readNumber_7 : decode cX0_readNumber 7 = .ok (.ifCond .ne 5, 3) := by decide +kernel
theorem dX0_readNumber_10 : decode cX0_readNumber 10 = .ok (.iconst 0, 1) := by decide +kernel
theorem dX0_readNumber_11 : decode cX0_readNumber 11 = .ok (.ireturn, 1) := by decide +kernel
theorem dX0_readNumber_12 : decode cX0_readNumber 12 = .ok (.aload_n 0, 1) := by decide +kernel
theorem dX0_readNumber_13 : decode cX0_readNumber 13 = .ok (.aload_n 0, 1) := by decide +kernel
theorem dX0_readNumber_14 : decode cX0_readNumber 14 = .ok (.invokevirtual 46, 3) := by decide +kernel
theorem dX0_readNumber_17 : decode cX0_readNumber 17 = .ok (.bipush 48, 2) := by decide +kernel
theorem dX0_readNumber_19 : decode cX0_readNumber 19 = .ok (.isub, 1) := by decide +kernel
theorem dX0_readNumber_20 : decode cX0_readNumber 20 = .ok (.putfield 26, 3) := by decide +kernel
theorem dX0_readNumber_23 : decode cX0_readNumber 23 = .ok (.aload_n 0, 1) := by decide +kernel
theorem dX0_readNumber_24 : decode cX0_readNumber 24 = .ok (.dup, 1) := by decide +kernel
theorem dX0_readNumber_25 : decode cX0_readNumber 25 = .ok (.getfield 19, 3) := by decide +kernel
theorem dX0_readNumber_28 : decode cX0_readNumber 28 = .ok (.iconst 1, 1) := by decide +kernel
theorem dX0_readNumber_29 : decode cX0_readNumber 29 = .ok (.iadd, 1) := by decide +kernel
theorem dX0_readNumber_30 : decode cX0_readNumber 30 = .ok (.putfield 19, 3) := by decide +kernel
theorem dX0_readNumber_33 : decode cX0_readNumber 33 = .ok (.aload_n 0, 1) := by decide +kernel
theorem dX0_readNumber_34 : decode cX0_readNumber 34 = .ok (.getfield 26, 3) := by decide +kernel
theorem dX0_readNumber_37 : decode cX0_readNumber 37 = .ok (.ifCond .le 17, 3) := by decide +kernel
theorem dX0_readNumber_40 : decode cX0_readNumber 40 = .ok (.aload_n 0, 1) := by decide +kernel
theorem dX0_readNumber_41 : decode cX0_readNumber 41 = .ok (.invokevirtual 46, 3) := by decide +kernel
theorem dX0_readNumber_44 : decode cX0_readNumber 44 = .ok (.invokestatic 64, 3) := by decide +kernel
theorem dX0_readNumber_47 : decode cX0_readNumber 47 = .ok (.ifCond .eq 7, 3) := by decide +kernel
theorem dX0_readNumber_50 : decode cX0_readNumber 50 = .ok (.iconst 1, 1) := by decide +kernel
theorem dX0_readNumber_51 : decode cX0_readNumber 51 = .ok (.goto 4, 3) := by decide +kernel
theorem dX0_readNumber_54 : decode cX0_readNumber 54 = .ok (.iconst 0, 1) := by decide +kernel
theorem dX0_readNumber_55 : decode cX0_readNumber 55 = .ok (.istore_n 2, 1) := by decide +kernel
theorem dX0_readNumber_56 : decode cX0_readNumber 56 = .ok (.iload_n 2, 1) := by decide +kernel
theorem dX0_readNumber_57 : decode cX0_readNumber 57 = .ok (.ifCond .eq 51, 3) := by decide +kernel
theorem dX0_readNumber_60 : decode cX0_readNumber 60 = .ok (.bipush 10, 2) := by decide +kernel
theorem dX0_readNumber_62 : decode cX0_readNumber 62 = .ok (.aload_n 0, 1) := by decide +kernel
theorem dX0_readNumber_63 : decode cX0_readNumber 63 = .ok (.getfield 26, 3) := by decide +kernel
theorem dX0_readNumber_66 : decode cX0_readNumber 66 = .ok (.imul, 1) := by decide +kernel
theorem dX0_readNumber_67 : decode cX0_readNumber 67 = .ok (.aload_n 0, 1) := by decide +kernel
theorem dX0_readNumber_68 : decode cX0_readNumber 68 = .ok (.invokevirtual 46, 3) := by decide +kernel
theorem dX0_readNumber_71 : decode cX0_readNumber 71 = .ok (.iadd, 1) := by decide +kernel
theorem dX0_readNumber_72 : decode cX0_readNumber 72 = .ok (.bipush 48, 2) := by decide +kernel
theorem dX0_readNumber_74 : decode cX0_readNumber 74 = .ok (.isub, 1) := by decide +kernel
theorem dX0_readNumber_75 : decode cX0_readNumber 75 = .ok (.iload_n 1, 1) := by decide +kernel
theorem dX0_readNumber_76 : decode cX0_readNumber 76 = .ok (.if_icmp .gt 32, 3) := by decide +kernel
theorem dX0_readNumber_79 : decode cX0_readNumber 79 = .ok (.aload_n 0, 1) := by decide +kernel
theorem dX0_readNumber_80 : decode cX0_readNumber 80 = .ok (.bipush 10, 2) := by decide +kernel
theorem dX0_readNumber_82 : decode cX0_readNumber 82 = .ok (.aload_n 0, 1) := by decide +kernel
theorem dX0_readNumber_83 : decode cX0_readNumber 83 = .ok (.getfield 26, 3) := by decide +kernel
theorem dX0_readNumber_86 : decode cX0_readNumber 86 = .ok (.imul, 1) := by decide +kernel
theorem dX0_readNumber_87 : decode cX0_readNumber 87 = .ok (.aload_n 0, 1) := by decide +kernel
theorem dX0_readNumber_88 : decode cX0_readNumber 88 = .ok (.invokevirtual 46, 3) := by decide +kernel
theorem dX0_readNumber_91 : decode cX0_readNumber 91 = .ok (.iadd, 1) := by decide +kernel
theorem dX0_readNumber_92 : decode cX0_readNumber 92 = .ok (.bipush 48, 2) := by decide +kernel
theorem dX0_readNumber_94 : decode cX0_readNumber 94 = .ok (.isub, 1) := by decide +kernel
theorem dX0_readNumber_95 : decode cX0_readNumber 95 = .ok (.putfield 26, 3) := by decide +kernel
theorem dX0_readNumber_98 : decode cX0_readNumber 98 = .ok (.aload_n 0, 1) := by decide +kernel
theorem dX0_readNumber_99 : decode cX0_readNumber 99 = .ok (.dup, 1) := by decide +kernel
theorem dX0_readNumber_100 : decode cX0_readNumber 100 = .ok (.getfield 19, 3) := by decide +kernel
theorem dX0_readNumber_103 : decode cX0_readNumber 103 = .ok (.iconst 1, 1) := by decide +kernel
theorem dX0_readNumber_104 : decode cX0_readNumber 104 = .ok (.iadd, 1) := by decide +kernel
theorem dX0_readNumber_105 : decode cX0_readNumber 105 = .ok (.putfield 19, 3) := by decide +kernel
theorem dX0_readNumber_108 : decode cX0_readNumber 108 = .ok (.iconst 1, 1) := by decide +kernel
theorem dX0_readNumber_109 : decode cX0_readNumber 109 = .ok (.ireturn, 1) := by decide +kernel
theorem dX0_isDigit_0 : decode cX0_isDigit 0 = .ok (.iload_n 0, 1) := by decide +kernel
theorem dX0_isDigit_1 : decode cX0_isDigit 1 = .ok (.bipush 48, 2) := by decide +kernel
theorem dX0_isDigit_3 : decode cX0_isDigit 3 = .ok (.if_icmp .lt 13, 3) := by decide +kernel
theorem dX0_isDigit_6 : decode cX0_isDigit 6 = .ok (.iload_n 0, 1) := by decide +kernel
theorem dX0_isDigit_7 : decode cX0_isDigit 7 = .ok (.bipush 57, 2) := by decide +kernel
theorem dX0_isDigit_9 : decode cX0_isDigit 9 = .ok (.if_icmp .gt 7, 3) := by decide +kernel
theorem dX0_isDigit_12 : decode cX0_isDigit 12 = .ok (.iconst 1, 1) := by decide +kernel
theorem dX0_isDigit_13 : decode cX0_isDigit 13 = .ok (.goto 4, 3) := by decide +kernel
theorem dX0_isDigit_16 : decode cX0_isDigit 16 = .ok (.iconst 0, 1) := by decide +kernel
theorem dX0_isDigit_17 : decode cX0_isDigit 17 = .ok (.ireturn, 1) := by decide +kernel
set_option maxRecDepth 20000 in
theorem ggX0_skip_X0_next : GoodIn wsX0_skip wsX0_next := goodIn_r _ [6, 1, 7, 8, 9, 10, 11, 12, 13, 14, 15, 16] (by decide +kernel) (by decide +kernel)
set_option maxRecDepth 20000 in
theorem gX0_skip_X0_next : GoodIn wsX0_skip (wsV RX0 46 RX0 yX0_next wsX0_next) := goodIn_app (goodIn_of _ (by decide +kernel)) ggX0_skip_X0_next
theorem dX0_skip_0 : decode cX0_skip 0 = .ok (.aload_n 0, 1) := by decide +kernel
theorem dX0_skip_1 : decode cX0_skip 1 = .ok (.invokevirtual 46, 3) := by decide +kernel
theorem dX0_skip_4 : decode cX0_skip 4 = .ok (.iload_n 1, 1) := by decide +kernel
theorem dX0_skip_5 : decode cX0_skip 5 = .ok (.if_icmp .eq 5, 3) := by decide +kernel
theorem dX0_skip_8 : decode cX0_skip 8 = .ok (.iconst 0, 1) := by decide +kernel
theorem dX0_skip_9 : decode cX0_skip 9 = .ok (.ireturn, 1) := by decide +kernel
theorem dX0_skip_10 : decode cX0_skip 10 = .ok (.aload_n 0, 1) := by decide +kernel
theorem dX0_skip_11 : decode cX0_skip 11 = .ok (.dup, 1) := by decide +kernel
theorem dX0_skip_12 : decode cX0_skip 12 = .ok (.getfield 19, 3) := by decide +kernel
theorem dX0_skip_15 : decode cX0_skip 15 = .ok (.iconst 1, 1) := by decide +kernel
theorem dX0_skip_16 : decode cX0_skip 16 = .ok (.iadd, 1) := by decide +kernel
theorem dX0_skip_17 : decode cX0_skip 17 = .ok (.putfield 19, 3) := by decide +kernel
theorem dX0_skip_20 : decode cX0_skip 20 = .ok (.iconst 1, 1) := by decide +kernel
theorem dX0_skip_21 : decode cX0_skip 21 = .ok (.ireturn, 1) := by decide +kernel
theorem dX0_next_0 : decode cX0_next 0 = .ok (.aload_n 0, 1) := by decide +kernel
theorem dX0_next_1 : decode cX0_next 1 = .ok (.getfield 19, 3) := by decide +kernel
theorem dX0_next_4 : decode cX0_next 4 = .ok (.ifCond .lt 35, 3) := by decide +kernel
theorem dX0_next_7 : decode cX0_next 7 = .ok (.aload_n 0, 1) := by decide +kernel
theorem dX0_next_8 : decode cX0_next 8 = .ok (.getfield 19, 3) := by decide +kernel
theorem dX0_next_11 : decode cX0_next 11 = .ok (.aload_n 0, 1) := by decide +kernel
theorem dX0_next_12 : decode cX0_next 12 = .ok (.getfield 15, 3) := by decide +kernel
theorem dX0_next_15 : decode cX0_next 15 = .ok (.if_icmp .ge 24, 3) := by decide +kernel
theorem dX0_next_18 : decode cX0_next 18 = .ok (.aload_n 0, 1) := by decide +kernel
theorem dX0_next_19 : decode cX0_next 19 = .ok (.getfield 19, 3) := by decide +kernel
theorem dX0_next_22 : decode cX0_next 22 = .ok (.bipush 80, 2) := by decide +kernel
theorem dX0_next_24 : decode cX0_next 24 = .ok (.if_icmp .ge 15, 3) := by decide +kernel
theorem dX0_next_27 : decode cX0_next 27 = .ok (.aload_n 0, 1) := by decide +kernel
theorem dX0_next_28 : decode cX0_next 28 = .ok (.getfield 9, 3) := by decide +kernel
theorem dX0_next_31 : decode cX0_next 31 = .ok (.aload_n 0, 1) := by decide +kernel
theorem dX0_next_32 : decode cX0_next 32 = .ok (.getfield 19, 3) := by decide +kernel
theorem dX0_next_35 : decode cX0_next 35 = .ok (.caload, 1) := by decide +kernel
theorem dX0_next_36 : decode cX0_next 36 = .ok (.goto 4, 3) := by decide +kernel
theorem dX0_next_39 : decode cX0_next 39 = .ok (.iconst 0, 1) := by decide +kernel
theorem dX0_next_40 : decode cX0_next 40 = .ok (.ireturn, 1) := by decide +kernel
theorem dX1_init_0 : decode cX1_init 0 = .ok (.aload_n 0, 1) := by decide +kernel
theorem dX1_init_1 : decode cX1_init 1 = .ok (.invokespecial 3, 3) := by decide +kernel
theorem dX1_init_4 : decode cX1_init 4 = .ok (.aload_n 0, 1) := by decide +kernel
theorem dX1_init_5 : decode cX1_init 5 = .ok (.bipush 7, 2) := by decide +kernel
theorem dX1_init_7 : decode cX1_init 7 = .ok (.newarray .int, 2) := by decide +kernel
theorem dX1_init_9 : decode cX1_init 9 = .ok (.putfield 9, 3) := by decide +kernel
theorem dX1_init_12 : decode cX1_init 12 = .ok (.aload_n 0, 1) := by decide +kernel
theorem dX1_init_13 : decode cX1_init 13 = .ok (.iconst 0, 1) := by decide +kernel
theorem dX1_init_14 : decode cX1_init 14 = .ok (.putfield 15, 3) := by decide +kernel
theorem dX1_init_17 : decode cX1_init 17 = .ok (.aload_n 0, 1) := by decide +kernel
theorem dX1_init_18 : decode cX1_init 18 = .ok (.iconst 0, 1) := by decide +kernel
theorem dX1_init_19 : decode cX1_init 19 = .ok (.putfield 19, 3) := by decide +kernel
theorem dX1_init_22 : decode cX1_init 22 = .ok (.aload_n 0, 1) := by decide +kernel
theorem dX1_init_23 : decode cX1_init 23 = .ok (.iconst 0, 1) := by decide +kernel
theorem dX1_init_24 : decode cX1_init 24 = .ok (.putfield 22, 3) := by decide +kernel
theorem dX1_init_27 : decode cX1_init 27 = .ok (.aload_n 0, 1) := by decide +kernel
theorem dX1_init_28 : decode cX1_init 28 = .ok (.bipush 12, 2) := by decide +kernel
theorem dX1_init_30 : decode cX1_init 30 = .ok (.newarray .int, 2) := by decide +kernel
theorem dX1_init_32 : decode cX1_init 32 = .ok (.putfield 25, 3) := by decide +kernel
theorem dX1_init_35 : decode cX1_init 35 = .ok (.aload_n 0, 1) := by decide +kernel
theorem dX1_init_36 : decode cX1_init 36 = .ok (.bipush 12, 2) := by decide +kernel
theorem dX1_init_38 : decode cX1_init 38 = .ok (.newarray .int, 2) := by decide +kernel
theorem dX1_init_40 : decode cX1_init 40 = .ok (.putfield 28, 3) := by decide +kernel
theorem dX1_init_43 : decode cX1_init 43 = .ok (.aload_n 0, 1) := by decide +kernel
theorem dX1_init_44 : decode cX1_init 44 = .ok (.bipush 12, 2) := by decide +kernel
theorem dX1_init_46 : decode cX1_init 46 = .ok (.newarray .int, 2) := by decide +kernel
theorem dX1_init_48 : decode cX1_init 48 = .ok (.putfield 31, 3) := by decide +kernel
theorem dX1_init_51 : decode cX1_init 51 = .ok (.aload_n 0, 1) := by decide +kernel
theorem dX1_init_52 : decode cX1_init 52 = .ok (.bipush 12, 2) := by decide +kernel
theorem dX1_init_54 : decode cX1_init 54 = .ok (.newarray .int, 2) := by decide +kernel
theorem dX1_init_56 : decode cX1_init 56 = .ok (.putfield 34, 3) := by decide +kernel
theorem dX1_init_59 : decode cX1_init 59 = .ok (.aload_n 0, 1) := by decide +kernel
theorem dX1_init_60 : decode cX1_init 60 = .ok (.iconst 0, 1) := by decide +kernel
theorem dX1_init_61 : decode cX1_init 61 = .ok (.putfield 37, 3) := by decide +kernel
theorem dX1_init_64 : decode cX1_init 64 = .ok (.aload_n 0, 1) := by decide +kernel
theorem dX1_init_65 : decode cX1_init 65 = .ok (.iconst 5, 1) := by decide +kernel
theorem dX1_init_66 : decode cX1_init 66 = .ok (.newarray .int, 2) := by decide +kernel
theorem dX1_init_68 : decode cX1_init 68 = .ok (.putfield 40, 3) := by decide +kernel
theorem dX1_init_71 : decode cX1_init 71 = .ok (.aload_n 0, 1) := by decide +kernel
theorem dX1_init_72 : decode cX1_init 72 = .ok (.iconst 5, 1) := by decide +kernel
theorem dX1_init_73 : decode cX1_init 73 = .ok (.newarray .int, 2) := by decide +kernel
theorem dX1_init_75 : decode cX1_init 75 = .ok (.putfield 43, 3) := by decide +kernel
theorem dX1_init_78 : decode cX1_init 78 = .ok (.aload_n 0, 1) := by decide +kernel
theorem dX1_init_79 : decode cX1_init 79 = .ok (.iconst 5, 1) := by decide +kernel
theorem dX1_init_80 : decode cX1_init 80 = .ok (.newarray .int, 2) := by decide +kernel
theorem dX1_init_82 : decode cX1_init 82 = .ok (.putfield 46, 3) := by decide +kernel
theorem dX1_init_85 : decode cX1_init 85 = .ok (.aload_n 0, 1) := by decide +kernel
theorem dX1_init_86 : decode cX1_init 86 = .ok (.iconst 5, 1) := by decide +kernel
theorem dX1_init_87 : decode cX1_init 87 = .ok (.newarray .int, 2) := by decide +kernel
theorem dX1_init_89 : decode cX1_init 89 = .ok (.putfield 49, 3) := by decide +kernel
theorem dX1_init_92 : decode cX1_init 92 = .ok (.aload_n 0, 1) := by decide +kernel
theorem dX1_init_93 : decode cX1_init 93 = .ok (.iconst 5, 1) := by decide +kernel
theorem dX1_init_94 : decode cX1_init 94 = .ok (.newarray .int, 2) := by decide +kernel
theorem dX1_init_96 : decode cX1_init 96 = .ok (.putfield 52, 3) := by decide +kernel
theorem dX1_init_99 : decode cX1_init 99 = .ok (.aload_n 0, 1) := by decide +kernel
theorem dX1_init_100 : decode cX1_init 100 = .ok (.iconst 0, 1) := by decide +kernel
theorem dX1_init_101 : decode cX1_init 101 = .ok (.putfield 55, 3) := by decide +kernel
theorem dX1_init_104 : decode cX1_init 104 = .ok (.aload_n 0, 1) := by decide +kernel
theorem dX1_init_105 : decode cX1_init 105 = .ok (.iconst 0, 1) := by decide +kernel
theorem dX1_init_106 : decode cX1_init 106 = .ok (.putfield 58, 3) := by decide +kernel
theorem dX1_init_109 : decode cX1_init 109 = .ok (.aload_n 0, 1) := by decide +kernel
theorem dX1_init_110 : decode cX1_init 110 = .ok (.iconst 0, 1) := by decide +kernel
theorem dX1_init_111 : decode cX1_init 111 = .ok (.putfield 61, 3) := by decide +kernel
theorem dX1_init_114 : decode cX1_init 114 = .ok (.aload_n 0, 1) := by decide +kernel
theorem dX1_init_115 : decode cX1_init 115 = .ok (.iconst 0, 1) := by decide +kernel
theorem dX1_init_116 : decode cX1_init 116 = .ok (.putfield 64, 3) := by decide +kernel
theorem dX1_init_119 : decode cX1_init 119 = .ok (.getstatic 67, 3) := by decide +kernel
theorem dX1_init_122 : decode cX1_init 122 = .ok (.iconst 0, 1) := by decide +kernel
theorem dX1_init_123 : decode cX1_init 123 = .ok (.aload_n 0, 1) := by decide +kernel
theorem dX1_init_124 : decode cX1_init 124 = .ok (.getfield 9, 3) := by decide +kernel
theorem dX1_init_127 : decode cX1_init 127 = .ok (.iconst 0, 1) := by decide +kernel
theorem dX1_init_128 : decode cX1_init 128 = .ok (.bipush 7, 2) := by decide +kernel
theorem dX1_init_130 : decode cX1_init 130 = .ok (.invokestatic 70, 3) := by decide +kernel
theorem dX1_init_133 : decode cX1_init 133 = .ok (.return_, 1) := by decide +kernel
theorem dX1_changeSetting_0 : decode cX1_changeSetting 0 = .ok (.iload_n 1, 1) := by decide +kernel
theorem dX1_changeSetting_1 : decode cX1_changeSetting 1 = .ok (.ifCond .lt 9, 3) := by decide +kernel
theorem dX1_changeSetting_4 : decode cX1_changeSetting 4 = .ok (.iload_n 1, 1) := by decide +kernel
theorem dX1_changeSetting_5 : decode cX1_changeSetting 5 = .ok (.bipush 7, 2) := by decide +kernel
theorem dX1_changeSetting_7 : decode cX1_changeSetting 7 = .ok (.if_icmp .lt 6, 3) := by decide +kernel
theorem dX1_changeSetting_10 : decode cX1_changeSetting 10 = .ok (.bipush (-2), 2) := by decide +kernel
theorem dX1_changeSetting_12 : decode cX1_changeSetting 12 = .ok (.ireturn, 1) := by decide +kernel
theorem dX1_changeSetting_13 : decode cX1_changeSetting 13 = .ok (.iload_n 2, 1) := by decide +kernel
theorem dX1_changeSetting_14 : decode cX1_changeSetting 14 = .ok (.getstatic 76, 3) := by decide +kernel
theorem dX1_changeSetting_17 : decode cX1_changeSetting 17 = .ok (.iload_n 1, 1) := by decide +kernel
theorem dX1_changeSetting_18 : decode cX1_changeSetting 18 = .ok (.iaload, 1) := by decide +kernel
theorem dX1_changeSetting_19 : decode cX1_changeSetting 19 = .ok (.if_icmp .lt 12, 3) := by decide +kernel
theorem dX1_changeSetting_22 : decode cX1_changeSetting 22 = .ok (.iload_n 2, 1) := by decide +kernel
theorem dX1_changeSetting_23 : decode cX1_changeSetting 23 = .ok (.getstatic 79, 3) := by decide +kernel
theorem dX1_changeSetting_26 : decode cX1_changeSetting 26 = .ok (.iload_n 1, 1) := by decide +kernel
theorem dX1_changeSetting_27 : decode cX1_changeSetting 27 = .ok (.iaload, 1) := by decide +kernel
theorem dX1_changeSetting_28 : decode cX1_changeSetting 28 = .ok (.if_icmp .le 6, 3) := by decide +kernel
theorem dX1_changeSetting_31 : decode cX1_changeSetting 31 = .ok (.bipush (-2), 2) := by decide +kernel
theorem dX1_changeSetting_33 : decode cX1_changeSetting 33 = .ok (.ireturn, 1) := by decide +kernel
theorem dX1_changeSetting_34 : decode cX1_changeSetting 34 = .ok (.aload_n 0, 1) := by decide +kernel
theorem dX1_changeSetting_35 : decode cX1_changeSetting 35 = .ok (.getfield 9, 3) := by decide +kernel
theorem dX1_changeSetting_38 : decode cX1_changeSetting 38 = .ok (.iload_n 1, 1) := by decide +kernel
theorem dX1_changeSetting_39 : decode cX1_changeSetting 39 = .ok (.iaload, 1) := by decide +kernel
theorem dX1_changeSetting_40 : decode cX1_changeSetting 40 = .ok (.istore_n 3, 1) := by decide +kernel
theorem dX1_changeSetting_41 : decode cX1_changeSetting 41 = .ok (.aload_n 0, 1) := by decide +kernel
theorem dX1_changeSetting_42 : decode cX1_changeSetting 42 = .ok (.getfield 9, 3) := by decide +kernel
theorem dX1_changeSetting_45 : decode cX1_changeSetting 45 = .ok (.iload_n 1, 1) := by decide +kernel
theorem dX1_changeSetting_46 : decode cX1_changeSetting 46 = .ok (.iload_n 2, 1) := by decide +kernel
theorem dX1_changeSetting_47 : decode cX1_changeSetting 47 = .ok (.iastore, 1) := by decide +kernel
theorem dX1_changeSetting_48 : decode cX1_changeSetting 48 = .ok (.iload_n 3, 1) := by decide +kernel
theorem dX1_changeSetting_49 : decode cX1_changeSetting 49 = .ok (.ireturn, 1) := by decide +kernel
theorem dX1_changeRain_0 : decode cX1_changeRain 0 = .ok (.iload_n 1, 1) := by decide +kernel
theorem dX1_changeRain_1 : decode cX1_changeRain 1 = .ok (.ifCond .lt 9, 3) := by decide +kernel
theorem dX1_changeRain_4 : decode cX1_changeRain 4 = .ok (.iload_n 1, 1) := by decide +kernel
theorem dX1_changeRain_5 : decode cX1_changeRain 5 = .ok (.ldc 82, 2) := by decide +kernel
theorem dX1_changeRain_7 : decode cX1_changeRain 7 = .ok (.if_icmp .le 6, 3) := by decide +kernel
theorem dX1_changeRain_10 : decode cX1_changeRain 10 = .ok (.bipush (-2), 2) := by decide +kernel
theorem dX1_changeRain_12 : decode cX1_changeRain 12 = .ok (.ireturn, 1) := by decide +kernel
theorem dX1_changeRain_13 : decode cX1_changeRain 13 = .ok (.aload_n 0, 1) := by decide +kernel
theorem dX1_changeRain_14 : decode cX1_changeRain 14 = .ok (.getfield 55, 3) := by decide +kernel
theorem dX1_changeRain_17 : decode cX1_changeRain 17 = .ok (.istore_n 2, 1) := by decide +kernel
theorem dX1_changeRain_18 : decode cX1_changeRain 18 = .ok (.aload_n 0, 1) := by decide +kernel
theorem dX1_changeRain_19 : decode cX1_changeRain 19 = .ok (.iload_n 1, 1) := by decide +kernel
theorem dX1_changeRain_20 : decode cX1_changeRain 20 = .ok (.putfield 55, 3) := by decide +kernel
theorem dX1_changeRain_23 : decode cX1_changeRain 23 = .ok (.iload_n 2, 1) := by decide +kernel
theorem dX1_changeRain_24 : decode cX1_changeRain 24 = .ok (.ireturn, 1) := by decide +kernel
set_option maxRecDepth 20000 in
theorem ggX1_addPiano_X2_isPlace : GoodIn wsX1_addPiano wsX2_isPlace := goodIn_r _ [9] (by decide +kernel) (by decide +kernel)
set_option maxRecDepth 20000 in
theorem gX1_addPiano_X2_isPlace_n83 : GoodIn wsX1_addPiano (wsX2_isPlace) := ggX1_addPiano_X2_isPlace
set_option maxRecDepth 20000 in
theorem ggX1_addPiano_X2_has : GoodIn wsX1_addPiano wsX2_has := goodIn_r _ [11] (by decide +kernel) (by decide +kernel)
set_option maxRecDepth 20000 in
theorem gX1_addPiano_X2_has_n87 : GoodIn wsX1_addPiano (wsX2_has) := ggX1_addPiano_X2_has
set_option maxRecDepth 20000 in
theorem ggX1_addPiano_J6_bitCount_0f7a4 : GoodIn wsX1_addPiano wsJ6_bitCount_0f7a4 := goodIn_r _ [15, 16, 17, 18] (by decide +kernel) (by decide +kernel)
set_option maxRecDepth 20000 in
theorem gX1_addPiano_J6_bitCount_0f7a4 : GoodIn wsX1_addPiano (va_wsS RX1 91 yJ6_bitCount_0f7a4 wsJ6_bitCount_0f7a4) := goodIn_app (goodIn_of _ (by decide +kernel)) ggX1_addPiano_J6_bitCount_0f7a4
theorem dX1_addPiano_0 : decode cX1_addPiano 0 = .ok (.iload_n 1, 1) := by decide +kernel
theorem dX1_addPiano_1 : decode cX1_addPiano 1 = .ok (.invokestatic 83, 3) := by decide +kernel
theorem dX1_addPiano_4 : decode cX1_addPiano 4 = .ok (.ifCond .ne 5, 3) := by decide +kernel
theorem dX1_addPiano_7 : decode cX1_addPiano 7 = .ok (.iconst (-1), 1) := by decide +kernel
theorem dX1_addPiano_8 : decode cX1_addPiano 8 = .ok (.ireturn, 1) := by decide +kernel
theorem dX1_addPiano_9 : decode cX1_addPiano 9 = .ok (.iload_n 2, 1) := by decide +kernel
theorem dX1_addPiano_10 : decode cX1_addPiano 10 = .ok (.ifCond .eq 11, 3) := by decide +kernel
theorem dX1_addPiano_13 : decode cX1_addPiano 13 = .ok (.iload_n 2, 1) := by decide +kernel
theorem dX1_addPiano_14 : decode cX1_addPiano 14 = .ok (.iconst 1, 1) := by decide +kernel
theorem dX1_addPiano_15 : decode cX1_addPiano 15 = .ok (.if_icmp .eq 6, 3) := by decide +kernel
theorem dX1_addPiano_18 : decode cX1_addPiano 18 = .ok (.bipush (-2), 2) := by decide +kernel
theorem dX1_addPiano_20 : decode cX1_addPiano 20 = .ok (.ireturn, 1) := by decide +kernel
theorem dX1_addPiano_21 : decode cX1_addPiano 21 = .ok (.aload_n 0, 1) := by decide +kernel
theorem dX1_addPiano_22 : decode cX1_addPiano 22 = .ok (.getfield 15, 3) := by decide +kernel
theorem dX1_addPiano_25 : decode cX1_addPiano 25 = .ok (.iload_n 1, 1) := by decide +kernel
theorem dX1_addPiano_26 : decode cX1_addPiano 26 = .ok (.invokestatic 87, 3) := by decide +kernel
theorem dX1_addPiano_29 : decode cX1_addPiano 29 = .ok (.ifCond .eq 6, 3) := by decide +kernel
theorem dX1_addPiano_32 : decode cX1_addPiano 32 = .ok (.bipush (-5), 2) := by decide +kernel
theorem dX1_addPiano_34 : decode cX1_addPiano 34 = .ok (.ireturn, 1) := by decide +kernel
theorem dX1_addPiano_35 : decode cX1_addPiano 35 = .ok (.aload_n 0, 1) := by decide +kernel
theorem dX1_addPiano_36 : decode cX1_addPiano 36 = .ok (.dup, 1) := by decide +kernel
theorem dX1_addPiano_37 : decode cX1_addPiano 37 = .ok (.getfield 15, 3) := by decide +kernel
theorem dX1_addPiano_40 : decode cX1_addPiano 40 = .ok (.iconst 1, 1) := by decide +kernel
theorem dX1_addPiano_41 : decode cX1_addPiano 41 = .ok (.iload_n 1, 1) := by decide +kernel
theorem dX1_addPiano_42 : decode cX1_addPiano 42 = .ok (.ishl, 1) := by decide +kernel
theorem dX1_addPiano_43 : decode cX1_addPiano 43 = .ok (.ior, 1) := by decide +kernel
theorem dX1_addPiano_44 : decode cX1_addPiano 44 = .ok (.putfield 15, 3) := by decide +kernel
theorem dX1_addPiano_47 : decode cX1_addPiano 47 = .ok (.aload_n 0, 1) := by decide +kernel
theorem dX1_addPiano_48 : decode cX1_addPiano 48 = .ok (.dup, 1) := by decide +kernel
theorem dX1_addPiano_49 : decode cX1_addPiano 49 = .ok (.getfield 19, 3) := by decide +kernel
theorem dX1_addPiano_52 : decode cX1_addPiano 52 = .ok (.iload_n 2, 1) := by decide +kernel
theorem dX1_addPiano_53 : decode cX1_addPiano 53 = .ok (.iload_n 1, 1) := by decide +kernel
theorem dX1_addPiano_54 : decode cX1_addPiano 54 = .ok (.ishl, 1) := by decide +kernel
theorem dX1_addPiano_55 : decode cX1_addPiano 55 = .ok (.ior, 1) := by decide +kernel
theorem dX1_addPiano_56 : decode cX1_addPiano 56 = .ok (.putfield 19, 3) := by decide +kernel
theorem dX1_addPiano_59 : decode cX1_addPiano 59 = .ok (.aload_n 0, 1) := by decide +kernel
theorem dX1_addPiano_60 : decode cX1_addPiano 60 = .ok (.getfield 25, 3) := by decide +kernel
theorem dX1_addPiano_63 : decode cX1_addPiano 63 = .ok (.iload_n 1, 1) := by decide +kernel
theorem dX1_addPiano_64 : decode cX1_addPiano 64 = .ok (.bipush 100, 2) := by decide +kernel
theorem dX1_addPiano_66 : decode cX1_addPiano 66 = .ok (.iastore, 1) := by decide +kernel
theorem dX1_addPiano_67 : decode cX1_addPiano 67 = .ok (.aload_n 0, 1) := by decide +kernel
theorem dX1_addPiano_68 : decode cX1_addPiano 68 = .ok (.getfield 28, 3) := by decide +kernel
theorem dX1_addPiano_71 : decode cX1_addPiano 71 = .ok (.iload_n 1, 1) := by decide +kernel
theorem dX1_addPiano_72 : decode cX1_addPiano 72 = .ok (.iconst 0, 1) := by decide +kernel
theorem dX1_addPiano_73 : decode cX1_addPiano 73 = .ok (.iastore, 1) := by decide +kernel
theorem dX1_addPiano_74 : decode cX1_addPiano 74 = .ok (.aload_n 0, 1) := by decide +kernel
theorem dX1_addPiano_75 : decode cX1_addPiano 75 = .ok (.getfield 31, 3) := by decide +kernel
theorem dX1_addPiano_78 : decode cX1_addPiano 78 = .ok (.iload_n 1, 1) := by decide +kernel
theorem dX1_addPiano_79 : decode cX1_addPiano 79 = .ok (.iconst 0, 1) := by decide +kernel
theorem dX1_addPiano_80 : decode cX1_addPiano 80 = .ok (.iastore, 1) := by decide +kernel
theorem dX1_addPiano_81 : decode cX1_addPiano 81 = .ok (.aload_n 0, 1) := by decide +kernel
theorem dX1_addPiano_82 : decode cX1_addPiano 82 = .ok (.getfield 34, 3) := by decide +kernel
theorem dX1_addPiano_85 : decode cX1_addPiano 85 = .ok (.iload_n 1, 1) := by decide +kernel
theorem dX1_addPiano_86 : decode cX1_addPiano 86 = .ok (.iconst 0, 1) := by decide +kernel
theorem dX1_addPiano_87 : decode cX1_addPiano 87 = .ok (.iastore, 1) := by decide +kernel
theorem dX1_addPiano_88 : decode cX1_addPiano 88 = .ok (.aload_n 0, 1) := by decide +kernel
theorem dX1_addPiano_89 : decode cX1_addPiano 89 = .ok (.getfield 15, 3) := by decide +kernel
theorem dX1_addPiano_92 : decode cX1_addPiano 92 = .ok (.invokestatic 91, 3) := by decide +kernel
theorem dX1_addPiano_95 : decode cX1_addPiano 95 = .ok (.ireturn, 1) := by decide +kernel
set_option maxRecDepth 20000 in
theorem ggX1_removePiano_X2_has : GoodIn wsX1_removePiano wsX2_has := goodIn_r _ [6] (by decide +kernel) (by decide +kernel)
set_option maxRecDepth 20000 in
theorem gX1_removePiano_X2_has_n87 : GoodIn wsX1_removePiano (wsX2_has) := ggX1_removePiano_X2_has
set_option maxRecDepth 20000 in
theorem ggX1_removePiano_J6_bitCount_0f7a4 : GoodIn wsX1_removePiano wsJ6_bitCount_0f7a4 := goodIn_r _ [10, 11, 12, 13] (by decide +kernel) (by decide +kernel)
set_option maxRecDepth 20000 in
theorem gX1_removePiano_J6_bitCount_0f7a4 : GoodIn wsX1_removePiano (va_wsS RX1 91 yJ6_bitCount_0f7a4 wsJ6_bitCount_0f7a4) := goodIn_app (goodIn_of _ (by decide +kernel)) ggX1_removePiano_J6_bitCount_0f7a4
theorem dX1_removePiano_0 : decode cX1_removePiano 0 = .ok (.aload_n 0, 1) := by decide +kernel
theorem dX1_removePiano_1 : decode cX1_removePiano 1 = .ok (.getfield 15, 3) := by decide +kernel
theorem dX1_removePiano_4 : decode cX1_removePiano 4 = .ok (.iload_n 1, 1) := by decide +kernel
theorem dX1_removePiano_5 : decode cX1_removePiano 5 = .ok (.invokestatic 87, 3) := by decide +kernel
theorem dX1_removePiano_8 : decode cX1_removePiano 8 = .ok (.ifCond .ne 5, 3) := by decide +kernel
theorem dX1_removePiano_11 : decode cX1_removePiano 11 = .ok (.iconst (-1), 1) := by decide +kernel
theorem dX1_removePiano_12 : decode cX1_removePiano 12 = .ok (.ireturn, 1) := by decide +kernel
theorem dX1_removePiano_13 : decode cX1_removePiano 13 = .ok (.iconst 1, 1) := by decide +kernel
theorem dX1_removePiano_14 : decode cX1_removePiano 14 = .ok (.iload_n 1, 1) := by decide +kernel
theorem dX1_removePiano_15 : decode cX1_removePiano 15 = .ok (.ishl, 1) := by decide +kernel
theorem dX1_removePiano_16 : decode cX1_removePiano 16 = .ok (.iconst (-1), 1) := by decide +kernel
theorem dX1_removePiano_17 : decode cX1_removePiano 17 = .ok (.ixor, 1) := by decide +kernel
theorem dX1_removePiano_18 : decode cX1_removePiano 18 = .ok (.istore_n 2, 1) := by decide +kernel
theorem dX1_removePiano_19 : decode cX1_removePiano 19 = .ok (.aload_n 0, 1) := by decide +kernel
theorem dX1_removePiano_20 : decode cX1_removePiano 20 = .ok (.dup, 1) := by decide +kernel
theorem dX1_removePiano_21 : decode cX1_removePiano 21 = .ok (.getfield 15, 3) := by decide +kernel
theorem dX1_removePiano_24 : decode cX1_removePiano 24 = .ok (.iload_n 2, 1) := by decide +kernel
theorem dX1_removePiano_25 : decode cX1_removePiano 25 = .ok (.iand, 1) := by decide +kernel
theorem dX1_removePiano_26 : decode cX1_removePiano 26 = .ok (.putfield 15, 3) := by decide +kernel
theorem dX1_removePiano_29 : decode cX1_removePiano 29 = .ok (.aload_n 0, 1) := by decide +kernel
theorem dX1_removePiano_30 : decode cX1_removePiano 30 = .ok (.dup, 1) := by decide +kernel
theorem dX1_removePiano_31 : decode cX1_removePiano 31 = .ok (.getfield 19, 3) := by decide +kernel
theorem dX1_removePiano_34 : decode cX1_removePiano 34 = .ok (.iload_n 2, 1) := by decide +kernel
theorem dX1_removePiano_35 : decode cX1_removePiano 35 = .ok (.iand, 1) := by decide +kernel
theorem dX1_removePiano_36 : decode cX1_removePiano 36 = .ok (.putfield 19, 3) := by decide +kernel
theorem dX1_removePiano_39 : decode cX1_removePiano 39 = .ok (.aload_n 0, 1) := by decide +kernel
theorem dX1_removePiano_40 : decode cX1_removePiano 40 = .ok (.dup, 1) := by decide +kernel
theorem dX1_removePiano_41 : decode cX1_removePiano 41 = .ok (.getfield 22, 3) := by decide +kernel
theorem dX1_removePiano_44 : decode cX1_removePiano 44 = .ok (.iload_n 2, 1) := by decide +kernel
theorem dX1_removePiano_45 : decode cX1_removePiano 45 = .ok (.iand, 1) := by decide +kernel
theorem dX1_removePiano_46 : decode cX1_removePiano 46 = .ok (.putfield 22, 3) := by decide +kernel
theorem dX1_removePiano_49 : decode cX1_removePiano 49 = .ok (.aload_n 0, 1) := by decide +kernel
theorem dX1_removePiano_50 : decode cX1_removePiano 50 = .ok (.getfield 15, 3) := by decide +kernel
theorem dX1_removePiano_53 : decode cX1_removePiano 53 = .ok (.invokestatic 91, 3) := by decide +kernel
theorem dX1_removePiano_56 : decode cX1_removePiano 56 = .ok (.ireturn, 1) := by decide +kernel
set_option maxRecDepth 20000 in
theorem ggX1_hireKeeper_X2_isPlace : GoodIn wsX1_hireKeeper wsX2_isPlace := goodIn_r _ [4] (by decide +kernel) (by decide +kernel)
set_option maxRecDepth 20000 in
theorem gX1_hireKeeper_X2_isPlace_n83 : GoodIn wsX1_hireKeeper (wsX2_isPlace) := ggX1_hireKeeper_X2_isPlace
set_option maxRecDepth 20000 in
theorem ggX1_hireKeeper_X1_addKeeper : GoodIn wsX1_hireKeeper wsX1_addKeeper := goodIn_r _ [9, 1, 10, 11, 12, 13, 14, 15, 16, 17, 18, 19, 20, 21, 22, 23, 24, 25, 26, 27, 28, 29, 30, 31, 32] (by decide +kernel) (by decide +kernel)
set_option maxRecDepth 20000 in
theorem gX1_hireKeeper_X1_addKeeper : GoodIn wsX1_hireKeeper (wsV RX1 97 RX1 yX1_addKeeper wsX1_addKeeper) := goodIn_app (goodIn_of _ (by decide +kernel)) ggX1_hireKeeper_X1_addKeeper
theorem dX1_hireKeeper_0 : decode cX1_hireKeeper 0 = .ok (.iload_n 1, 1) := by decide +kernel
theorem dX1_hireKeeper_1 : decode cX1_hireKeeper 1 = .ok (.invokestatic 83, 3) := by decide +kernel
theorem dX1_hireKeeper_4 : decode cX1_hireKeeper 4 = .ok (.ifCond .ne 5, 3) := by decide +kernel
theorem dX1_hireKeeper_7 : decode cX1_hireKeeper 7 = .ok (.iconst (-1), 1) := by decide +kernel
theorem dX1_hireKeeper_8 : decode cX1_hireKeeper 8 = .ok (.ireturn, 1) := by decide +kernel
theorem dX1_hireKeeper_9 : decode cX1_hireKeeper 9 = .ok (.aload_n 0, 1) := by decide +kernel
theorem dX1_hireKeeper_10 : decode cX1_hireKeeper 10 = .ok (.getfield 37, 3) := by decide +kernel
theorem dX1_hireKeeper_13 : decode cX1_hireKeeper 13 = .ok (.iconst 4, 1) := by decide +kernel
theorem dX1_hireKeeper_14 : decode cX1_hireKeeper 14 = .ok (.if_icmp .lt 6, 3) := by decide +kernel
theorem dX1_hireKeeper_17 : decode cX1_hireKeeper 17 = .ok (.bipush (-4), 2) := by decide +kernel
theorem dX1_hireKeeper_19 : decode cX1_hireKeeper 19 = .ok (.ireturn, 1) := by decide +kernel
theorem dX1_hireKeeper_20 : decode cX1_hireKeeper 20 = .ok (.aload_n 0, 1) := by decide +kernel
theorem dX1_hireKeeper_21 : decode cX1_hireKeeper 21 = .ok (.iload_n 1, 1) := by decide +kernel
theorem dX1_hireKeeper_22 : decode cX1_hireKeeper 22 = .ok (.invokevirtual 97, 3) := by decide +kernel
theorem dX1_hireKeeper_25 : decode cX1_hireKeeper 25 = .ok (.aload_n 0, 1) := by decide +kernel
theorem dX1_hireKeeper_26 : decode cX1_hireKeeper 26 = .ok (.getfield 37, 3) := by decide +kernel
theorem dX1_hireKeeper_29 : decode cX1_hireKeeper 29 = .ok (.iconst 1, 1) := by decide +kernel
theorem dX1_hireKeeper_30 : decode cX1_hireKeeper 30 = .ok (.isub, 1) := by decide +kernel
theorem dX1_hireKeeper_31 : decode cX1_hireKeeper 31 = .ok (.ireturn, 1) := by decide +kernel
theorem dX1_addKeeper_0 : decode cX1_addKeeper 0 = .ok (.aload_n 0, 1) := by decide +kernel
theorem dX1_addKeeper_1 : decode cX1_addKeeper 1 = .ok (.getfield 37, 3) := by decide +kernel
theorem dX1_addKeeper_4 : decode cX1_addKeeper 4 = .ok (.ifCond .lt 11, 3) := by decide +kernel
theorem dX1_addKeeper_7 : decode cX1_addKeeper 7 = .ok (.aload_n 0, 1) := by decide +kernel
theorem dX1_addKeeper_8 : decode cX1_addKeeper 8 = .ok (.getfield 37, 3) := by decide +kernel
theorem dX1_addKeeper_11 : decode cX1_addKeeper 11 = .ok (.iconst 4, 1) := by decide +kernel
theorem dX1_addKeeper_12 : decode cX1_addKeeper 12 = .ok (.if_icmp .le 4, 3) := by decide +kernel
theorem dX1_addKeeper_15 : decode cX1_addKeeper 15 = .ok (.return_, 1) := by decide +kernel
theorem dX1_addKeeper_16 : decode cX1_addKeeper 16 = .ok (.aload_n 0, 1) := by decide +kernel
theorem dX1_addKeeper_17 : decode cX1_addKeeper 17 = .ok (.getfield 40, 3) := by decide +kernel
theorem dX1_addKeeper_20 : decode cX1_addKeeper 20 = .ok (.aload_n 0, 1) := by decide +kernel
theorem dX1_addKeeper_21 : decode cX1_addKeeper 21 = .ok (.getfield 37, 3) := by decide +kernel
theorem dX1_addKeeper_24 : decode cX1_addKeeper 24 = .ok (.iload_n 1, 1) := by decide +kernel
theorem dX1_addKeeper_25 : decode cX1_addKeeper 25 = .ok (.iastore, 1) := by decide +kernel
theorem dX1_addKeeper_26 : decode cX1_addKeeper 26 = .ok (.aload_n 0, 1) := by decide +kernel
theorem dX1_addKeeper_27 : decode cX1_addKeeper 27 = .ok (.getfield 43, 3) := by decide +kernel
theorem dX1_addKeeper_30 : decode cX1_addKeeper 30 = .ok (.aload_n 0, 1) := by decide +kernel
theorem dX1_addKeeper_31 : decode cX1_addKeeper 31 = .ok (.getfield 37, 3) := by decide +kernel
theorem dX1_addKeeper_34 : decode cX1_addKeeper 34 = .ok (.iconst 0, 1) := by decide +kernel
theorem dX1_addKeeper_35 : decode cX1_addKeeper 35 = .ok (.iastore, 1) := by decide +kernel
theorem dX1_addKeeper_36 : decode cX1_addKeeper 36 = .ok (.aload_n 0, 1) := by decide +kernel
theorem dX1_addKeeper_37 : decode cX1_addKeeper 37 = .ok (.getfield 46, 3) := by decide +kernel
theorem dX1_addKeeper_40 : decode cX1_addKeeper 40 = .ok (.aload_n 0, 1) := by decide +kernel
theorem dX1_addKeeper_41 : decode cX1_addKeeper 41 = .ok (.getfield 37, 3) := by decide +kernel
theorem dX1_addKeeper_44 : decode cX1_addKeeper 44 = .ok (.iconst 0, 1) := by decide +kernel
theorem dX1_addKeeper_45 : decode cX1_addKeeper 45 = .ok (.iastore, 1) := by decide +kernel
theorem dX1_addKeeper_46 : decode cX1_addKeeper 46 = .ok (.aload_n 0, 1) := by decide +kernel
theorem dX1_addKeeper_47 : decode cX1_addKeeper 47 = .ok (.getfield 49, 3) := by decide +kernel
theorem dX1_addKeeper_50 : decode cX1_addKeeper 50 = .ok (.aload_n 0, 1) := by decide +kernel
theorem dX1_addKeeper_51 : decode cX1_addKeeper 51 = .ok (.getfield 37, 3) := by decide +kernel
theorem dX1_addKeeper_54 : decode cX1_addKeeper 54 = .ok (.iconst 0, 1) := by decide +kernel
theorem dX1_addKeeper_55 : decode cX1_addKeeper 55 = .ok (.iastore, 1) := by decide +kernel
theorem dX1_addKeeper_56 : decode cX1_addKeeper 56 = .ok (.aload_n 0, 1) := by decide +kernel
theorem dX1_addKeeper_57 : decode cX1_addKeeper 57 = .ok (.getfield 52, 3) := by decide +kernel
theorem dX1_addKeeper_60 : decode cX1_addKeeper 60 = .ok (.aload_n 0, 1) := by decide +kernel
theorem dX1_addKeeper_61 : decode cX1_addKeeper 61 = .ok (.getfield 37, 3) := by decide +kernel
theorem dX1_addKeeper_64 : decode cX1_addKeeper 64 = .ok (.iconst 0, 1) := by decide +kernel
theorem dX1_addKeeper_65 : decode cX1_addKeeper 65 = .ok (.iastore, 1) := by decide +kernel
theorem dX1_addKeeper_66 : decode cX1_addKeeper 66 = .ok (.aload_n 0, 1) := by decide +kernel
theorem dX1_addKeeper_67 : decode cX1_addKeeper 67 = .ok (.dup, 1) := by decide +kernel
theorem dX1_addKeeper_68 : decode cX1_addKeeper 68 = .ok (.getfield 37, 3) := by decide +kernel
theorem dX1_addKeeper_71 : decode cX1_addKeeper 71 = .ok (.iconst 1, 1) := by decide +kernel
theorem dX1_addKeeper_72 : decode cX1_addKeeper 72 = .ok (.iadd, 1) := by decide +kernel
theorem dX1_addKeeper_73 : decode cX1_addKeeper 73 = .ok (.putfield 37, 3) := by decide +kernel
theorem dX1_addKeeper_76 : decode cX1_addKeeper 76 = .ok (.return_, 1) := by decide +kernel
set_option maxRecDepth 20000 in
theorem ggX1_layCover_X2_has : GoodIn wsX1_layCover wsX2_has := goodIn_r _ [6] (by decide +kernel) (by decide +kernel)
set_option maxRecDepth 20000 in
theorem gX1_layCover_X2_has_n87 : GoodIn wsX1_layCover (wsX2_has) := ggX1_layCover_X2_has
set_option maxRecDepth 20000 in
theorem ggX1_layCover_J6_bitCount_0f7a4 : GoodIn wsX1_layCover wsJ6_bitCount_0f7a4 := goodIn_r _ [10, 11, 12, 13] (by decide +kernel) (by decide +kernel)
set_option maxRecDepth 20000 in
theorem gX1_layCover_J6_bitCount_0f7a4 : GoodIn wsX1_layCover (va_wsS RX1 91 yJ6_bitCount_0f7a4 wsJ6_bitCount_0f7a4) := goodIn_app (goodIn_of _ (by decide +kernel)) ggX1_layCover_J6_bitCount_0f7a4
theorem dX1_layCover_0 : decode cX1_layCover 0 = .ok (.aload_n 0, 1) := by decide +kernel
theorem dX1_layCover_1 : decode cX1_layCover 1 = .ok (.getfield 15, 3) := by decide +kernel
theorem dX1_layCover_4 : decode cX1_layCover 4 = .ok (.iload_n 1, 1) := by decide +kernel
theorem dX1_layCover_5 : decode cX1_layCover 5 = .ok (.invokestatic 87, 3) := by decide +kernel
theorem dX1_layCover_8 : decode cX1_layCover 8 = .ok (.ifCond .ne 5, 3) := by decide +kernel
theorem dX1_layCover_11 : decode cX1_layCover 11 = .ok (.iconst (-1), 1) := by decide +kernel
theorem dX1_layCover_12 : decode cX1_layCover 12 = .ok (.ireturn, 1) := by decide +kernel
theorem dX1_layCover_13 : decode cX1_layCover 13 = .ok (.aload_n 0, 1) := by decide +kernel
theorem dX1_layCover_14 : decode cX1_layCover 14 = .ok (.getfield 19, 3) := by decide +kernel
theorem dX1_layCover_17 : decode cX1_layCover 17 = .ok (.aload_n 0, 1) := by decide +kernel
theorem dX1_layCover_18 : decode cX1_layCover 18 = .ok (.getfield 22, 3) := by decide +kernel
theorem dX1_layCover_21 : decode cX1_layCover 21 = .ok (.ior, 1) := by decide +kernel
theorem dX1_layCover_22 : decode cX1_layCover 22 = .ok (.iload_n 1, 1) := by decide +kernel
theorem dX1_layCover_23 : decode cX1_layCover 23 = .ok (.invokestatic 87, 3) := by decide +kernel
theorem dX1_layCover_26 : decode cX1_layCover 26 = .ok (.ifCond .eq 6, 3) := by decide +kernel
theorem dX1_layCover_29 : decode cX1_layCover 29 = .ok (.bipush (-5), 2) := by decide +kernel
theorem dX1_layCover_31 : decode cX1_layCover 31 = .ok (.ireturn, 1) := by decide +kernel
theorem dX1_layCover_32 : decode cX1_layCover 32 = .ok (.aload_n 0, 1) := by decide +kernel
theorem dX1_layCover_33 : decode cX1_layCover 33 = .ok (.dup, 1) := by decide +kernel
theorem dX1_layCover_34 : decode cX1_layCover 34 = .ok (.getfield 19, 3) := by decide +kernel
theorem dX1_layCover_37 : decode cX1_layCover 37 = .ok (.iconst 1, 1) := by decide +kernel
theorem dX1_layCover_38 : decode cX1_layCover 38 = .ok (.iload_n 1, 1) := by decide +kernel
theorem dX1_layCover_39 : decode cX1_layCover 39 = .ok (.ishl, 1) := by decide +kernel
theorem dX1_layCover_40 : decode cX1_layCover 40 = .ok (.ior, 1) := by decide +kernel
theorem dX1_layCover_41 : decode cX1_layCover 41 = .ok (.putfield 19, 3) := by decide +kernel
theorem dX1_layCover_44 : decode cX1_layCover 44 = .ok (.aload_n 0, 1) := by decide +kernel
theorem dX1_layCover_45 : decode cX1_layCover 45 = .ok (.getfield 19, 3) := by decide +kernel
theorem dX1_layCover_48 : decode cX1_layCover 48 = .ok (.aload_n 0, 1) := by decide +kernel
theorem dX1_layCover_49 : decode cX1_layCover 49 = .ok (.getfield 22, 3) := by decide +kernel
theorem dX1_layCover_52 : decode cX1_layCover 52 = .ok (.ior, 1) := by decide +kernel
theorem dX1_layCover_53 : decode cX1_layCover 53 = .ok (.invokestatic 91, 3) := by decide +kernel
theorem dX1_layCover_56 : decode cX1_layCover 56 = .ok (.ireturn, 1) := by decide +kernel
set_option maxRecDepth 20000 in
theorem ggX1_passCounted_X1_passHours : GoodIn wsX1_passCounted wsX1_passHours := goodIn_r _ [6, 7, 1, 8, 9, 10, 5, 11, 12, 13, 14, 15, 16, 17, 18, 19, 20, 21, 22, 23, 24, 25, 26, 27, 28, 29, 30, 31, 32, 33, 34, 35, 36, 37, 38, 39, 40, 41, 42, 43, 44, 45, 46, 47, 48, 49, 50, 51, 52, 53, 54, 55, 56, 57, 58, 59, 60, 61, 62, 63, 64, 65, 66, 67, 68, 69, 70, 71, 72, 73, 74, 75, 76, 77, 78, 79, 80, 81, 82, 83, 84, 85, 86, 87, 88, 89, 90, 91, 92, 93, 94, 95, 96, 97, 98, 99, 100, 101, 102, 103, 104, 105, 106, 107, 108, 109, 110] (by decide +kernel) (by decide +kernel)
set_option maxRecDepth 20000 in
theorem gX1_passCounted_X1_passHours : GoodIn wsX1_passCounted (wsV RX1 101 RX1 yX1_passHours wsX1_passHours) := goodIn_app (goodIn_of _ (by decide +kernel)) ggX1_passCounted_X1_passHours
theorem dX1_passCounted_0 : decode cX1_passCounted 0 = .ok (.iload_n 1, 1) := by decide +kernel
theorem dX1_passCounted_1 : decode cX1_passCounted 1 = .ok (.iconst 1, 1) := by decide +kernel
theorem dX1_passCounted_2 : decode cX1_passCounted 2 = .ok (.if_icmp .lt 9, 3) := by decide +kernel
theorem dX1_passCounted_5 : decode cX1_passCounted 5 = .ok (.iload_n 1, 1) := by decide +kernel
theorem dX1_passCounted_6 : decode cX1_passCounted 6 = .ok (.bipush 99, 2) := by decide +kernel
theorem dX1_passCounted_8 : decode cX1_passCounted 8 = .ok (.if_icmp .le 6, 3) := by decide +kernel
theorem dX1_passCounted_11 : decode cX1_passCounted 11 = .ok (.bipush (-2), 2) := by decide +kernel
theorem dX1_passCounted_13 : decode cX1_passCounted 13 = .ok (.ireturn, 1) := by decide +kernel
theorem dX1_passCounted_14 : decode cX1_passCounted 14 = .ok (.aload_n 0, 1) := by decide +kernel
theorem dX1_passCounted_15 : decode cX1_passCounted 15 = .ok (.getfield 58, 3) := by decide +kernel
theorem dX1_passCounted_18 : decode cX1_passCounted 18 = .ok (.iload_n 1, 1) := by decide +kernel
theorem dX1_passCounted_19 : decode cX1_passCounted 19 = .ok (.iadd, 1) := by decide +kernel
theorem dX1_passCounted_20 : decode cX1_passCounted 20 = .ok (.sipush 9999, 3) := by decide +kernel
theorem dX1_passCounted_23 : decode cX1_passCounted 23 = .ok (.if_icmp .le 6, 3) := by decide +kernel
theorem dX1_passCounted_26 : decode cX1_passCounted 26 = .ok (.bipush (-5), 2) := by decide +kernel
theorem dX1_passCounted_28 : decode cX1_passCounted 28 = .ok (.ireturn, 1) := by decide +kernel
theorem dX1_passCounted_29 : decode cX1_passCounted 29 = .ok (.aload_n 0, 1) := by decide +kernel
theorem dX1_passCounted_30 : decode cX1_passCounted 30 = .ok (.iload_n 1, 1) := by decide +kernel
theorem dX1_passCounted_31 : decode cX1_passCounted 31 = .ok (.invokevirtual 101, 3) := by decide +kernel
theorem dX1_passCounted_34 : decode cX1_passCounted 34 = .ok (.ireturn, 1) := by decide +kernel
set_option maxRecDepth 20000 in
theorem ggX1_coverAt_X2_has : GoodIn wsX1_coverAt wsX2_has := goodIn_r _ [5] (by decide +kernel) (by decide +kernel)
set_option maxRecDepth 20000 in
theorem gX1_coverAt_X2_has_n87 : GoodIn wsX1_coverAt (wsX2_has) := ggX1_coverAt_X2_has
theorem dX1_coverAt_0 : decode cX1_coverAt 0 = .ok (.aload_n 0, 1) := by decide +kernel
theorem dX1_coverAt_1 : decode cX1_coverAt 1 = .ok (.getfield 22, 3) := by decide +kernel
theorem dX1_coverAt_4 : decode cX1_coverAt 4 = .ok (.iload_n 1, 1) := by decide +kernel
theorem dX1_coverAt_5 : decode cX1_coverAt 5 = .ok (.invokestatic 87, 3) := by decide +kernel
theorem dX1_coverAt_8 : decode cX1_coverAt 8 = .ok (.ifCond .eq 5, 3) := by decide +kernel
theorem dX1_coverAt_11 : decode cX1_coverAt 11 = .ok (.iconst 2, 1) := by decide +kernel
theorem dX1_coverAt_12 : decode cX1_coverAt 12 = .ok (.ireturn, 1) := by decide +kernel
theorem dX1_coverAt_13 : decode cX1_coverAt 13 = .ok (.aload_n 0, 1) := by decide +kernel
theorem dX1_coverAt_14 : decode cX1_coverAt 14 = .ok (.getfield 19, 3) := by decide +kernel
theorem dX1_coverAt_17 : decode cX1_coverAt 17 = .ok (.iload_n 1, 1) := by decide +kernel
theorem dX1_coverAt_18 : decode cX1_coverAt 18 = .ok (.invokestatic 87, 3) := by decide +kernel
theorem dX1_coverAt_21 : decode cX1_coverAt 21 = .ok (.ifCond .eq 7, 3) := by decide +kernel
theorem dX1_coverAt_24 : decode cX1_coverAt 24 = .ok (.iconst 1, 1) := by decide +kernel
theorem dX1_coverAt_25 : decode cX1_coverAt 25 = .ok (.goto 4, 3) := by decide +kernel
theorem dX1_coverAt_28 : decode cX1_coverAt 28 = .ok (.iconst 0, 1) := by decide +kernel
theorem dX1_coverAt_29 : decode cX1_coverAt 29 = .ok (.ireturn, 1) := by decide +kernel
theorem dX1_keepersAt_0 : decode cX1_keepersAt 0 = .ok (.iconst 0, 1) := by decide +kernel
theorem dX1_keepersAt_1 : decode cX1_keepersAt 1 = .ok (.istore_n 2, 1) := by decide +kernel
theorem dX1_keepersAt_2 : decode cX1_keepersAt 2 = .ok (.iconst 0, 1) := by decide +kernel
theorem dX1_keepersAt_3 : decode cX1_keepersAt 3 = .ok (.istore_n 3, 1) := by decide +kernel
theorem dX1_keepersAt_4 : decode cX1_keepersAt 4 = .ok (.iload_n 3, 1) := by decide +kernel
theorem dX1_keepersAt_5 : decode cX1_keepersAt 5 = .ok (.aload_n 0, 1) := by decide +kernel
theorem dX1_keepersAt_6 : decode cX1_keepersAt 6 = .ok (.getfield 37, 3) := by decide +kernel
theorem dX1_keepersAt_9 : decode cX1_keepersAt 9 = .ok (.if_icmp .ge 27, 3) := by decide +kernel
theorem dX1_keepersAt_12 : decode cX1_keepersAt 12 = .ok (.iload_n 3, 1) := by decide +kernel
theorem dX1_keepersAt_13 : decode cX1_keepersAt 13 = .ok (.iconst 4, 1) := by decide +kernel
theorem dX1_keepersAt_14 : decode cX1_keepersAt 14 = .ok (.if_icmp .gt 22, 3) := by decide +kernel
theorem dX1_keepersAt_17 : decode cX1_keepersAt 17 = .ok (.aload_n 0, 1) := by decide +kernel
theorem dX1_keepersAt_18 : decode cX1_keepersAt 18 = .ok (.getfield 40, 3) := by decide +kernel
theorem dX1_keepersAt_21 : decode cX1_keepersAt 21 = .ok (.iload_n 3, 1) := by decide +kernel
theorem dX1_keepersAt_22 : decode cX1_keepersAt 22 = .ok (.iaload, 1) := by decide +kernel
theorem dX1_keepersAt_23 : decode cX1_keepersAt 23 = .ok (.iload_n 1, 1) := by decide +kernel
theorem dX1_keepersAt_24 : decode cX1_keepersAt 24 = .ok (.if_icmp .ne 6, 3) := by decide +kernel
theorem dX1_keepersAt_27 : decode cX1_keepersAt 27 = .ok (.iinc 2 1, 3) := by decide +kernel
theorem dX1_keepersAt_30 : decode cX1_keepersAt 30 = .ok (.iinc 3 1, 3) := by decide +kernel
theorem dX1_keepersAt_33 : decode cX1_keepersAt 33 = .ok (.goto (-29), 3) := by decide +kernel
theorem dX1_keepersAt_36 : decode cX1_keepersAt 36 = .ok (.iload_n 2, 1) := by decide +kernel
theorem dX1_keepersAt_37 : decode cX1_keepersAt 37 = .ok (.ireturn, 1) := by decide +kernel
theorem dX1_rainsAfter_0 : decode cX1_rainsAfter 0 = .ok (.aload_n 0, 1) := by decide +kernel
theorem dX1_rainsAfter_1 : decode cX1_rainsAfter 1 = .ok (.getfield 55, 3) := by decide +kernel
theorem dX1_rainsAfter_4 : decode cX1_rainsAfter 4 = .ok (.aload_n 0, 1) := by decide +kernel
theorem dX1_rainsAfter_5 : decode cX1_rainsAfter 5 = .ok (.getfield 58, 3) := by decide +kernel
theorem dX1_rainsAfter_8 : decode cX1_rainsAfter 8 = .ok (.iload_n 1, 1) := by decide +kernel
theorem dX1_rainsAfter_9 : decode cX1_rainsAfter 9 = .ok (.iadd, 1) := by decide +kernel
theorem dX1_rainsAfter_10 : decode cX1_rainsAfter 10 = .ok (.bipush 24, 2) := by decide +kernel
theorem dX1_rainsAfter_12 : decode cX1_rainsAfter 12 = .ok (.irem, 1) := by decide +kernel
theorem dX1_rainsAfter_13 : decode cX1_rainsAfter 13 = .ok (.iushr, 1) := by decide +kernel
theorem dX1_rainsAfter_14 : decode cX1_rainsAfter 14 = .ok (.iconst 1, 1) := by decide +kernel
theorem dX1_rainsAfter_15 : decode cX1_rainsAfter 15 = .ok (.iand, 1) := by decide +kernel
theorem dX1_rainsAfter_16 : decode cX1_rainsAfter 16 = .ok (.iconst 1, 1) := by decide +kernel
theorem dX1_rainsAfter_17 : decode cX1_rainsAfter 17 = .ok (.if_icmp .ne 7, 3) := by decide +kernel
theorem dX1_rainsAfter_20 : decode cX1_rainsAfter 20 = .ok (.iconst 1, 1) := by decide +kernel
theorem dX1_rainsAfter_21 : decode cX1_rainsAfter 21 = .ok (.goto 4, 3) := by decide +kernel
theorem dX1_rainsAfter_24 : decode cX1_rainsAfter 24 = .ok (.iconst 0, 1) := by decide +kernel
theorem dX1_rainsAfter_25 : decode cX1_rainsAfter 25 = .ok (.ireturn, 1) := by decide +kernel
set_option maxRecDepth 20000 in
theorem ggX1_hoursUntilRain_X1_rainsAfter : GoodIn wsX1_hoursUntilRain wsX1_rainsAfter := goodIn_r _ [5, 6, 7, 8, 9, 10, 11, 12, 13, 14, 15, 16, 17, 18, 19, 20, 21, 22, 23, 24, 25] (by decide +kernel) (by decide +kernel)
set_option maxRecDepth 20000 in
theorem gX1_hoursUntilRain_X1_rainsAfter : GoodIn wsX1_hoursUntilRain (wsV RX1 104 RX1 yX1_rainsAfter wsX1_rainsAfter) := goodIn_app (goodIn_of _ (by decide +kernel)) ggX1_hoursUntilRain_X1_rainsAfter
theorem dX1_hoursUntilRain_0 : decode cX1_hoursUntilRain 0 = .ok (.iconst 0, 1) := by decide +kernel
theorem dX1_hoursUntilRain_1 : decode cX1_hoursUntilRain 1 = .ok (.istore_n 1, 1) := by decide +kernel
theorem dX1_hoursUntilRain_2 : decode cX1_hoursUntilRain 2 = .ok (.iload_n 1, 1) := by decide +kernel
theorem dX1_hoursUntilRain_3 : decode cX1_hoursUntilRain 3 = .ok (.bipush 24, 2) := by decide +kernel
theorem dX1_hoursUntilRain_5 : decode cX1_hoursUntilRain 5 = .ok (.if_icmp .ge 19, 3) := by decide +kernel
theorem dX1_hoursUntilRain_8 : decode cX1_hoursUntilRain 8 = .ok (.aload_n 0, 1) := by decide +kernel
theorem dX1_hoursUntilRain_9 : decode cX1_hoursUntilRain 9 = .ok (.iload_n 1, 1) := by decide +kernel
theorem dX1_hoursUntilRain_10 : decode cX1_hoursUntilRain 10 = .ok (.invokevirtual 104, 3) := by decide +kernel
theorem dX1_hoursUntilRain_13 : decode cX1_hoursUntilRain 13 = .ok (.ifCond .eq 5, 3) := by decide +kernel
theorem dX1_hoursUntilRain_16 : decode cX1_hoursUntilRain 16 = .ok (.iload_n 1, 1) := by decide +kernel
theorem dX1_hoursUntilRain_17 : decode cX1_hoursUntilRain 17 = .ok (.ireturn, 1) := by decide +kernel
theorem dX1_hoursUntilRain_18 : decode cX1_hoursUntilRain 18 = .ok (.iinc 1 1, 3) := by decide +kernel
theorem dX1_hoursUntilRain_21 : decode cX1_hoursUntilRain 21 = .ok (.goto (-19), 3) := by decide +kernel
theorem dX1_hoursUntilRain_24 : decode cX1_hoursUntilRain 24 = .ok (.bipush (-6), 2) := by decide +kernel
theorem dX1_hoursUntilRain_26 : decode cX1_hoursUntilRain 26 = .ok (.ireturn, 1) := by decide +kernel
set_option maxRecDepth 20000 in
theorem ggX1_rainIsAhead_X1_rainsAfter : GoodIn wsX1_rainIsAhead wsX1_rainsAfter := goodIn_r _ [6, 7, 8, 9, 10, 11, 12, 13, 14, 15, 16, 17, 18, 19, 20, 21, 22, 23, 24, 25, 26] (by decide +kernel) (by decide +kernel)
set_option maxRecDepth 20000 in
theorem gX1_rainIsAhead_X1_rainsAfter : GoodIn wsX1_rainIsAhead (wsV RX1 104 RX1 yX1_rainsAfter wsX1_rainsAfter) := goodIn_app (goodIn_of _ (by decide +kernel)) ggX1_rainIsAhead_X1_rainsAfter
theorem dX1_rainIsAhead_0 : decode cX1_rainIsAhead 0 = .ok (.iconst 0, 1) := by decide +kernel
theorem dX1_rainIsAhead_1 : decode cX1_rainIsAhead 1 = .ok (.istore_n 1, 1) := by decide +kernel
theorem dX1_rainIsAhead_2 : decode cX1_rainIsAhead 2 = .ok (.iload_n 1, 1) := by decide +kernel
theorem dX1_rainIsAhead_3 : decode cX1_rainIsAhead 3 = .ok (.aload_n 0, 1) := by decide +kernel
theorem dX1_rainIsAhead_4 : decode cX1_rainIsAhead 4 = .ok (.getfield 9, 3) := by decide +kernel
theorem dX1_rainIsAhead_7 : decode cX1_rainIsAhead 7 = .ok (.iconst 0, 1) := by decide +kernel
theorem dX1_rainIsAhead_8 : decode cX1_rainIsAhead 8 = .ok (.iaload, 1) := by decide +kernel
theorem dX1_rainIsAhead_9 : decode cX1_rainIsAhead 9 = .ok (.if_icmp .gt 25, 3) := by decide +kernel
theorem dX1_rainIsAhead_12 : decode cX1_rainIsAhead 12 = .ok (.iload_n 1, 1) := by decide +kernel
theorem dX1_rainIsAhead_13 : decode cX1_rainIsAhead 13 = .ok (.bipush 24, 2) := by decide +kernel
theorem dX1_rainIsAhead_15 : decode cX1_rainIsAhead 15 = .ok (.if_icmp .ge 19, 3) := by decide +kernel
theorem dX1_rainIsAhead_18 : decode cX1_rainIsAhead 18 = .ok (.aload_n 0, 1) := by decide +kernel
theorem dX1_rainIsAhead_19 : decode cX1_rainIsAhead 19 = .ok (.iload_n 1, 1) := by decide +kernel
theorem dX1_rainIsAhead_20 : decode cX1_rainIsAhead 20 = .ok (.invokevirtual 104, 3) := by decide +kernel
theorem dX1_rainIsAhead_23 : decode cX1_rainIsAhead 23 = .ok (.ifCond .eq 5, 3) := by decide +kernel
theorem dX1_rainIsAhead_26 : decode cX1_rainIsAhead 26 = .ok (.iconst 1, 1) := by decide +kernel
theorem dX1_rainIsAhead_27 : decode cX1_rainIsAhead 27 = .ok (.ireturn, 1) := by decide +kernel
theorem dX1_rainIsAhead_28 : decode cX1_rainIsAhead 28 = .ok (.iinc 1 1, 3) := by decide +kernel
theorem dX1_rainIsAhead_31 : decode cX1_rainIsAhead 31 = .ok (.goto (-29), 3) := by decide +kernel
theorem dX1_rainIsAhead_34 : decode cX1_rainIsAhead 34 = .ok (.iconst 0, 1) := by decide +kernel
theorem dX1_rainIsAhead_35 : decode cX1_rainIsAhead 35 = .ok (.ireturn, 1) := by decide +kernel
set_option maxRecDepth 20000 in
theorem ggX1_passHours_X1_letKeepersAct : GoodIn wsX1_passHours wsX1_letKeepersAct := goodIn_r _ [7, 8, 9, 10, 11, 12, 13, 14, 6, 15, 16, 17, 18, 19, 20, 21, 2, 22, 23, 24, 25, 26, 27, 28, 29, 30, 31, 32, 33, 34, 35, 36, 37, 38, 39, 40, 41, 42, 43, 44, 45, 46, 47, 48, 49, 50, 51, 52, 53, 54, 55, 56, 57, 58, 59, 60, 61, 89, 90, 91, 92, 93, 94, 95, 96, 97, 98, 99, 100, 101, 102, 103, 104, 105, 106] (by decide +kernel) (by decide +kernel)
set_option maxRecDepth 20000 in
theorem gX1_passHours_X1_letKeepersAct : GoodIn wsX1_passHours (wsV RX1 107 RX1 yX1_letKeepersAct wsX1_letKeepersAct) := goodIn_app (goodIn_of _ (by decide +kernel)) ggX1_passHours_X1_letKeepersAct
set_option maxRecDepth 20000 in
theorem ggX1_passHours_X1_rainsAfter : GoodIn wsX1_passHours wsX1_rainsAfter := goodIn_r _ [20, 21, 2, 89, 90, 91, 92, 93, 94, 95, 96, 97, 98, 99, 100, 101, 102, 103, 104, 105, 106] (by decide +kernel) (by decide +kernel)
set_option maxRecDepth 20000 in
theorem gX1_passHours_X1_rainsAfter : GoodIn wsX1_passHours (wsV RX1 104 RX1 yX1_rainsAfter wsX1_rainsAfter) := goodIn_app (goodIn_of _ (by decide +kernel)) ggX1_passHours_X1_rainsAfter
set_option maxRecDepth 20000 in
theorem ggX1_passHours_X1_letRainFall : GoodIn wsX1_passHours wsX1_letRainFall := goodIn_r _ [65, 66, 16, 47, 48, 49, 50, 32, 67, 68, 69, 70, 33, 34, 35, 6, 36, 37, 10, 25, 26, 27, 89, 90, 91, 92, 93, 94, 95, 96, 97, 98, 99, 100, 101, 102, 103, 104, 105, 106] (by decide +kernel) (by decide +kernel)
set_option maxRecDepth 20000 in
theorem gX1_passHours_X1_letRainFall : GoodIn wsX1_passHours (wsV RX1 110 RX1 yX1_letRainFall wsX1_letRainFall) := goodIn_app (goodIn_of _ (by decide +kernel)) ggX1_passHours_X1_letRainFall
set_option maxRecDepth 20000 in
theorem ggX1_passHours_X1_letPianosDry : GoodIn wsX1_passHours wsX1_letPianosDry := goodIn_r _ [74, 66, 16, 67, 68, 49, 69, 33, 34, 35, 6, 36, 37, 10, 25, 26, 27, 89, 90, 91, 92, 93, 94, 95, 96, 97, 98, 99, 100, 101, 102, 103, 104, 105, 106] (by decide +kernel) (by decide +kernel)
set_option maxRecDepth 20000 in
theorem gX1_passHours_X1_letPianosDry : GoodIn wsX1_passHours (wsV RX1 113 RX1 yX1_letPianosDry wsX1_letPianosDry) := goodIn_app (goodIn_of _ (by decide +kernel)) ggX1_passHours_X1_letPianosDry
set_option maxRecDepth 20000 in
theorem ggX1_passHours_X1_letPianosBePlayed : GoodIn wsX1_passHours wsX1_letPianosBePlayed := goodIn_r _ [78, 2, 66, 16, 32, 79, 1, 67, 68, 49, 69, 33, 34, 35, 6, 36, 37, 10, 25, 26, 27, 89, 90, 91, 92, 93, 94, 95, 96, 97, 98, 99, 100, 101, 102, 103, 104, 105, 106] (by decide +kernel) (by decide +kernel)
set_option maxRecDepth 20000 in
theorem gX1_passHours_X1_letPianosBePlayed : GoodIn wsX1_passHours (wsV RX1 116 RX1 yX1_letPianosBePlayed wsX1_letPianosBePlayed) := goodIn_app (goodIn_of _ (by decide +kernel)) ggX1_passHours_X1_letPianosBePlayed
set_option maxRecDepth 20000 in
theorem ggX1_passHours_X1_letThievesCome : GoodIn wsX1_passHours wsX1_letThievesCome := goodIn_r _ [83, 2, 16, 9, 84, 25, 26, 27, 85, 86, 87, 6, 88, 8, 11, 89, 90, 91, 92, 93, 94, 95, 96, 97, 98, 99, 100, 101, 102, 103, 104, 105, 106] (by decide +kernel) (by decide +kernel)
set_option maxRecDepth 20000 in
theorem gX1_passHours_X1_letThievesCome : GoodIn wsX1_passHours (wsV RX1 119 RX1 yX1_letThievesCome wsX1_letThievesCome) := goodIn_app (goodIn_of _ (by decide +kernel)) ggX1_passHours_X1_letThievesCome
theorem dX1_passHours_0 : decode cX1_passHours 0 = .ok (.aload_n 0, 1) := by decide +kernel
theorem dX1_passHours_1 : decode cX1_passHours 1 = .ok (.getfield 61, 3) := by decide +kernel
theorem dX1_passHours_4 : decode cX1_passHours 4 = .ok (.istore_n 2, 1) := by decide +kernel
theorem dX1_passHours_5 : decode cX1_passHours 5 = .ok (.iconst 0, 1) := by decide +kernel
theorem dX1_passHours_6 : decode cX1_passHours 6 = .ok (.istore_n 3, 1) := by decide +kernel
theorem dX1_passHours_7 : decode cX1_passHours 7 = .ok (.iload_n 3, 1) := by decide +kernel
theorem dX1_passHours_8 : decode cX1_passHours 8 = .ok (.iload_n 1, 1) := by decide +kernel
theorem dX1_passHours_9 : decode cX1_passHours 9 = .ok (.if_icmp .ge 50, 3) := by decide +kernel
theorem dX1_passHours_12 : decode cX1_passHours 12 = .ok (.aload_n 0, 1) := by decide +kernel
theorem dX1_passHours_13 : decode cX1_passHours 13 = .ok (.invokevirtual 107, 3) := by decide +kernel
theorem dX1_passHours_16 : decode cX1_passHours 16 = .ok (.aload_n 0, 1) := by decide +kernel
theorem dX1_passHours_17 : decode cX1_passHours 17 = .ok (.iconst 0, 1) := by decide +kernel
theorem dX1_passHours_18 : decode cX1_passHours 18 = .ok (.invokevirtual 104, 3) := by decide +kernel
theorem dX1_passHours_21 : decode cX1_passHours 21 = .ok (.ifCond .eq 10, 3) := by decide +kernel
theorem dX1_passHours_24 : decode cX1_passHours 24 = .ok (.aload_n 0, 1) := by decide +kernel
theorem dX1_passHours_25 : decode cX1_passHours 25 = .ok (.invokevirtual 110, 3) := by decide +kernel
theorem dX1_passHours_28 : decode cX1_passHours 28 = .ok (.goto 11, 3) := by decide +kernel
theorem dX1_passHours_31 : decode cX1_passHours 31 = .ok (.aload_n 0, 1) := by decide +kernel
theorem dX1_passHours_32 : decode cX1_passHours 32 = .ok (.invokevirtual 113, 3) := by decide +kernel
theorem dX1_passHours_35 : decode cX1_passHours 35 = .ok (.aload_n 0, 1) := by decide +kernel
theorem dX1_passHours_36 : decode cX1_passHours 36 = .ok (.invokevirtual 116, 3) := by decide +kernel
theorem dX1_passHours_39 : decode cX1_passHours 39 = .ok (.aload_n 0, 1) := by decide +kernel
theorem dX1_passHours_40 : decode cX1_passHours 40 = .ok (.invokevirtual 119, 3) := by decide +kernel
theorem dX1_passHours_43 : decode cX1_passHours 43 = .ok (.aload_n 0, 1) := by decide +kernel
theorem dX1_passHours_44 : decode cX1_passHours 44 = .ok (.dup, 1) := by decide +kernel
theorem dX1_passHours_45 : decode cX1_passHours 45 = .ok (.getfield 58, 3) := by decide +kernel
theorem dX1_passHours_48 : decode cX1_passHours 48 = .ok (.iconst 1, 1) := by decide +kernel
theorem dX1_passHours_49 : decode cX1_passHours 49 = .ok (.iadd, 1) := by decide +kernel
theorem dX1_passHours_50 : decode cX1_passHours 50 = .ok (.putfield 58, 3) := by decide +kernel
theorem dX1_passHours_53 : decode cX1_passHours 53 = .ok (.iinc 3 1, 3) := by decide +kernel
theorem dX1_passHours_56 : decode cX1_passHours 56 = .ok (.goto (-49), 3) := by decide +kernel
theorem dX1_passHours_59 : decode cX1_passHours 59 = .ok (.aload_n 0, 1) := by decide +kernel
theorem dX1_passHours_60 : decode cX1_passHours 60 = .ok (.getfield 61, 3) := by decide +kernel
theorem dX1_passHours_63 : decode cX1_passHours 63 = .ok (.iload_n 2, 1) := by decide +kernel
theorem dX1_passHours_64 : decode cX1_passHours 64 = .ok (.isub, 1) := by decide +kernel
theorem dX1_passHours_65 : decode cX1_passHours 65 = .ok (.ireturn, 1) := by decide +kernel
set_option maxRecDepth 20000 in
theorem ggX1_letKeepersAct_X1_rainIsAhead : GoodIn wsX1_letKeepersAct wsX1_rainIsAhead := goodIn_r _ [9, 10, 11, 12, 13, 8, 14, 15, 16, 57, 58, 59, 60, 61, 62, 63, 64, 65, 66, 67, 68, 69, 70, 71, 72, 73, 74] (by decide +kernel) (by decide +kernel)
set_option maxRecDepth 20000 in
theorem gX1_letKeepersAct_X1_rainIsAhead : GoodIn wsX1_letKeepersAct (wsV RX1 122 RX1 yX1_rainIsAhead wsX1_rainIsAhead) := goodIn_app (goodIn_of _ (by decide +kernel)) ggX1_letKeepersAct_X1_rainIsAhead
set_option maxRecDepth 20000 in
theorem ggX1_letKeepersAct_X1_nearest : GoodIn wsX1_letKeepersAct wsX1_nearest := goodIn_r _ [19, 20, 21, 22] (by decide +kernel) (by decide +kernel)
set_option maxRecDepth 20000 in
theorem gX1_letKeepersAct_X1_nearest : GoodIn wsX1_letKeepersAct (va_wsS RX1 126 yX1_nearest wsX1_nearest) := goodIn_app (goodIn_of _ (by decide +kernel)) ggX1_letKeepersAct_X1_nearest
set_option maxRecDepth 20000 in
theorem ggX1_letKeepersAct_X1_outOfTune : GoodIn wsX1_letKeepersAct wsX1_outOfTune := goodIn_r _ [26, 27, 10, 28, 29, 30, 8, 31, 32, 3, 20, 21, 22, 57, 58, 59, 60, 61, 62, 63, 64, 65, 66, 67, 68, 69, 70, 71, 72, 73, 74] (by decide +kernel) (by decide +kernel)
set_option maxRecDepth 20000 in
theorem gX1_letKeepersAct_X1_outOfTune : GoodIn wsX1_letKeepersAct (wsV RX1 130 RX1 yX1_outOfTune wsX1_outOfTune) := goodIn_app (goodIn_of _ (by decide +kernel)) ggX1_letKeepersAct_X1_outOfTune
set_option maxRecDepth 20000 in
theorem ggX1_letKeepersAct_X1_goTowards : GoodIn wsX1_letKeepersAct wsX1_goTowards := goodIn_r _ [36, 4, 37, 57, 58, 59, 60, 61, 62, 63, 64, 65, 66, 67, 68, 69, 70, 71, 72, 73, 74] (by decide +kernel) (by decide +kernel)
set_option maxRecDepth 20000 in
theorem gX1_letKeepersAct_X1_goTowards : GoodIn wsX1_letKeepersAct (wsV RX1 134 RX1 yX1_goTowards wsX1_goTowards) := goodIn_app (goodIn_of _ (by decide +kernel)) ggX1_letKeepersAct_X1_goTowards
set_option maxRecDepth 20000 in
theorem ggX1_letKeepersAct_X1_tune : GoodIn wsX1_letKeepersAct wsX1_tune := goodIn_r _ [41, 27, 42, 43, 44, 45, 46, 57, 58, 59, 60, 61, 62, 63, 64, 65, 66, 67, 68, 69, 70, 71, 72, 73, 74] (by decide +kernel) (by decide +kernel)
set_option maxRecDepth 20000 in
theorem gX1_letKeepersAct_X1_tune : GoodIn wsX1_letKeepersAct (wsV RX1 138 RX1 yX1_tune wsX1_tune) := goodIn_app (goodIn_of _ (by decide +kernel)) ggX1_letKeepersAct_X1_tune
set_option maxRecDepth 20000 in
theorem ggX1_letKeepersAct_X1_putCoverOn : GoodIn wsX1_letKeepersAct wsX1_putCoverOn := goodIn_r _ [50, 2, 3, 51, 57, 58, 59, 60, 61, 62, 63, 64, 65, 66, 67, 68, 69, 70, 71, 72, 73, 74] (by decide +kernel) (by decide +kernel)
set_option maxRecDepth 20000 in
theorem gX1_letKeepersAct_X1_putCoverOn : GoodIn wsX1_letKeepersAct (wsV RX1 141 RX1 yX1_putCoverOn wsX1_putCoverOn) := goodIn_app (goodIn_of _ (by decide +kernel)) ggX1_letKeepersAct_X1_putCoverOn
set_option maxRecDepth 20000 in
theorem ggX1_letKeepersAct_X1_takeCoverOff : GoodIn wsX1_letKeepersAct wsX1_takeCoverOff := goodIn_r _ [55, 3, 2, 56, 57, 58, 59, 60, 61, 62, 63, 64, 65, 66, 67, 68, 69, 70, 71, 72, 73, 74] (by decide +kernel) (by decide +kernel)
set_option maxRecDepth 20000 in
theorem gX1_letKeepersAct_X1_takeCoverOff : GoodIn wsX1_letKeepersAct (wsV RX1 144 RX1 yX1_takeCoverOff wsX1_takeCoverOff) := goodIn_app (goodIn_of _ (by decide +kernel)) ggX1_letKeepersAct_X1_takeCoverOff
theorem dX1_letKeepersAct_0 : decode cX1_letKeepersAct 0 = .ok (.aload_n 0, 1) := by decide +kernel
theorem dX1_letKeepersAct_1 : decode cX1_letKeepersAct 1 = .ok (.invokevirtual 122, 3) := by decide +kernel
theorem dX1_letKeepersAct_4 : decode cX1_letKeepersAct 4 = .ok (.istore_n 1, 1) := by decide +kernel
theorem dX1_letKeepersAct_5 : decode cX1_letKeepersAct 5 = .ok (.iconst 0, 1) := by decide +kernel
theorem dX1_letKeepersAct_6 : decode cX1_letKeepersAct 6 = .ok (.istore_n 2, 1) := by decide +kernel
theorem dX1_letKeepersAct_7 : decode cX1_letKeepersAct 7 = .ok (.iconst 0, 1) := by decide +kernel
theorem dX1_letKeepersAct_8 : decode cX1_letKeepersAct 8 = .ok (.istore_n 3, 1) := by decide +kernel
theorem dX1_letKeepersAct_9 : decode cX1_letKeepersAct 9 = .ok (.iload_n 3, 1) := by decide +kernel
theorem dX1_letKeepersAct_10 : decode cX1_letKeepersAct 10 = .ok (.aload_n 0, 1) := by decide +kernel
theorem dX1_letKeepersAct_11 : decode cX1_letKeepersAct 11 = .ok (.getfield 37, 3) := by decide +kernel
theorem dX1_letKeepersAct_14 : decode cX1_letKeepersAct 14 = .ok (.if_icmp .ge 156, 3) := by decide +kernel
theorem dX1_letKeepersAct_17 : decode cX1_letKeepersAct 17 = .ok (.iload_n 3, 1) := by decide +kernel
theorem dX1_letKeepersAct_18 : decode cX1_letKeepersAct 18 = .ok (.iconst 4, 1) := by decide +kernel
theorem dX1_letKeepersAct_19 : decode cX1_letKeepersAct 19 = .ok (.if_icmp .gt 151, 3) := by decide +kernel
theorem dX1_letKeepersAct_22 : decode cX1_letKeepersAct 22 = .ok (.iload_n 1, 1) := by decide +kernel
theorem dX1_letKeepersAct_23 : decode cX1_letKeepersAct 23 = .ok (.ifCond .eq 10, 3) := by decide +kernel
theorem dX1_letKeepersAct_26 : decode cX1_letKeepersAct 26 = .ok (.aload_n 0, 1) := by decide +kernel
theorem dX1_letKeepersAct_27 : decode cX1_letKeepersAct 27 = .ok (.getfield 19, 3) := by decide +kernel
theorem dX1_letKeepersAct_30 : decode cX1_letKeepersAct 30 = .ok (.goto 7, 3) := by decide +kernel
theorem dX1_letKeepersAct_33 : decode cX1_letKeepersAct 33 = .ok (.aload_n 0, 1) := by decide +kernel
theorem dX1_letKeepersAct_34 : decode cX1_letKeepersAct 34 = .ok (.getfield 22, 3) := by decide +kernel
theorem dX1_letKeepersAct_37 : decode cX1_letKeepersAct 37 = .ok (.iload_n 2, 1) := by decide +kernel
theorem dX1_letKeepersAct_38 : decode cX1_letKeepersAct 38 = .ok (.iconst (-1), 1) := by decide +kernel
theorem dX1_letKeepersAct_39 : decode cX1_letKeepersAct 39 = .ok (.ixor, 1) := by decide +kernel
theorem dX1_letKeepersAct_40 : decode cX1_letKeepersAct 40 = .ok (.iand, 1) := by decide +kernel
theorem dX1_letKeepersAct_41 : decode cX1_letKeepersAct 41 = .ok (.aload_n 0, 1) := by decide +kernel
theorem dX1_letKeepersAct_42 : decode cX1_letKeepersAct 42 = .ok (.getfield 40, 3) := by decide +kernel
theorem dX1_letKeepersAct_45 : decode cX1_letKeepersAct 45 = .ok (.iload_n 3, 1) := by decide +kernel
theorem dX1_letKeepersAct_46 : decode cX1_letKeepersAct 46 = .ok (.iaload, 1) := by decide +kernel
theorem dX1_letKeepersAct_47 : decode cX1_letKeepersAct 47 = .ok (.invokestatic 126, 3) := by decide +kernel
theorem dX1_letKeepersAct_50 : decode cX1_letKeepersAct 50 = .ok (.istore 4, 2) := by decide +kernel
theorem dX1_letKeepersAct_52 : decode cX1_letKeepersAct 52 = .ok (.iload 4, 2) := by decide +kernel
theorem dX1_letKeepersAct_54 : decode cX1_letKeepersAct 54 = .ok (.bipush (-6), 2) := by decide +kernel
theorem dX1_letKeepersAct_56 : decode cX1_letKeepersAct 56 = .ok (.if_icmp .ne 7, 3) := by decide +kernel
theorem dX1_letKeepersAct_59 : decode cX1_letKeepersAct 59 = .ok (.iconst 1, 1) := by decide +kernel
theorem dX1_letKeepersAct_60 : decode cX1_letKeepersAct 60 = .ok (.goto 4, 3) := by decide +kernel
theorem dX1_letKeepersAct_63 : decode cX1_letKeepersAct 63 = .ok (.iconst 0, 1) := by decide +kernel
theorem dX1_letKeepersAct_64 : decode cX1_letKeepersAct 64 = .ok (.istore 5, 2) := by decide +kernel
theorem dX1_letKeepersAct_66 : decode cX1_letKeepersAct 66 = .ok (.iload 5, 2) := by decide +kernel
theorem dX1_letKeepersAct_68 : decode cX1_letKeepersAct 68 = .ok (.ifCond .eq 22, 3) := by decide +kernel
theorem dX1_letKeepersAct_71 : decode cX1_letKeepersAct 71 = .ok (.aload_n 0, 1) := by decide +kernel
theorem dX1_letKeepersAct_72 : decode cX1_letKeepersAct 72 = .ok (.invokevirtual 130, 3) := by decide +kernel
theorem dX1_letKeepersAct_75 : decode cX1_letKeepersAct 75 = .ok (.iload_n 2, 1) := by decide +kernel
theorem dX1_letKeepersAct_76 : decode cX1_letKeepersAct 76 = .ok (.iconst (-1), 1) := by decide +kernel
theorem dX1_letKeepersAct_77 : decode cX1_letKeepersAct 77 = .ok (.ixor, 1) := by decide +kernel
theorem dX1_letKeepersAct_78 : decode cX1_letKeepersAct 78 = .ok (.iand, 1) := by decide +kernel
theorem dX1_letKeepersAct_79 : decode cX1_letKeepersAct 79 = .ok (.aload_n 0, 1) := by decide +kernel
theorem dX1_letKeepersAct_80 : decode cX1_letKeepersAct 80 = .ok (.getfield 40, 3) := by decide +kernel
theorem dX1_letKeepersAct_83 : decode cX1_letKeepersAct 83 = .ok (.iload_n 3, 1) := by decide +kernel
theorem dX1_letKeepersAct_84 : decode cX1_letKeepersAct 84 = .ok (.iaload, 1) := by decide +kernel
theorem dX1_letKeepersAct_85 : decode cX1_letKeepersAct 85 = .ok (.invokestatic 126, 3) := by decide +kernel
theorem dX1_letKeepersAct_88 : decode cX1_letKeepersAct 88 = .ok (.istore 4, 2) := by decide +kernel
theorem dX1_letKeepersAct_90 : decode cX1_letKeepersAct 90 = .ok (.iload 4, 2) := by decide +kernel
theorem dX1_letKeepersAct_92 : decode cX1_letKeepersAct 92 = .ok (.bipush (-6), 2) := by decide +kernel
theorem dX1_letKeepersAct_94 : decode cX1_letKeepersAct 94 = .ok (.if_icmp .ne 6, 3) := by decide +kernel
theorem dX1_letKeepersAct_97 : decode cX1_letKeepersAct 97 = .ok (.goto 67, 3) := by decide +kernel
theorem dX1_letKeepersAct_100 : decode cX1_letKeepersAct 100 = .ok (.iload_n 2, 1) := by decide +kernel
theorem dX1_letKeepersAct_101 : decode cX1_letKeepersAct 101 = .ok (.iconst 1, 1) := by decide +kernel
theorem dX1_letKeepersAct_102 : decode cX1_letKeepersAct 102 = .ok (.iload 4, 2) := by decide +kernel
theorem dX1_letKeepersAct_104 : decode cX1_letKeepersAct 104 = .ok (.ishl, 1) := by decide +kernel
theorem dX1_letKeepersAct_105 : decode cX1_letKeepersAct 105 = .ok (.ior, 1) := by decide +kernel
theorem dX1_letKeepersAct_106 : decode cX1_letKeepersAct 106 = .ok (.istore_n 2, 1) := by decide +kernel
theorem dX1_letKeepersAct_107 : decode cX1_letKeepersAct 107 = .ok (.aload_n 0, 1) := by decide +kernel
theorem dX1_letKeepersAct_108 : decode cX1_letKeepersAct 108 = .ok (.getfield 40, 3) := by decide +kernel
theorem dX1_letKeepersAct_111 : decode cX1_letKeepersAct 111 = .ok (.iload_n 3, 1) := by decide +kernel
theorem dX1_letKeepersAct_112 : decode cX1_letKeepersAct 112 = .ok (.iaload, 1) := by decide +kernel
theorem dX1_letKeepersAct_113 : decode cX1_letKeepersAct 113 = .ok (.iload 4, 2) := by decide +kernel
theorem dX1_letKeepersAct_115 : decode cX1_letKeepersAct 115 = .ok (.if_icmp .eq 13, 3) := by decide +kernel
theorem dX1_letKeepersAct_118 : decode cX1_letKeepersAct 118 = .ok (.aload_n 0, 1) := by decide +kernel
theorem dX1_letKeepersAct_119 : decode cX1_letKeepersAct 119 = .ok (.iload_n 3, 1) := by decide +kernel
theorem dX1_letKeepersAct_120 : decode cX1_letKeepersAct 120 = .ok (.iload 4, 2) := by decide +kernel
theorem dX1_letKeepersAct_122 : decode cX1_letKeepersAct 122 = .ok (.invokevirtual 134, 3) := by decide +kernel
theorem dX1_letKeepersAct_125 : decode cX1_letKeepersAct 125 = .ok (.goto 39, 3) := by decide +kernel
theorem dX1_letKeepersAct_128 : decode cX1_letKeepersAct 128 = .ok (.iload 5, 2) := by decide +kernel
theorem dX1_letKeepersAct_130 : decode cX1_letKeepersAct 130 = .ok (.ifCond .eq 13, 3) := by decide +kernel
theorem dX1_letKeepersAct_133 : decode cX1_letKeepersAct 133 = .ok (.aload_n 0, 1) := by decide +kernel
theorem dX1_letKeepersAct_134 : decode cX1_letKeepersAct 134 = .ok (.iload_n 3, 1) := by decide +kernel
theorem dX1_letKeepersAct_135 : decode cX1_letKeepersAct 135 = .ok (.iload 4, 2) := by decide +kernel
theorem dX1_letKeepersAct_137 : decode cX1_letKeepersAct 137 = .ok (.invokevirtual 138, 3) := by decide +kernel
theorem dX1_letKeepersAct_140 : decode cX1_letKeepersAct 140 = .ok (.goto 24, 3) := by decide +kernel
theorem dX1_letKeepersAct_143 : decode cX1_letKeepersAct 143 = .ok (.iload_n 1, 1) := by decide +kernel
theorem dX1_letKeepersAct_144 : decode cX1_letKeepersAct 144 = .ok (.ifCond .eq 13, 3) := by decide +kernel
theorem dX1_letKeepersAct_147 : decode cX1_letKeepersAct 147 = .ok (.aload_n 0, 1) := by decide +kernel
theorem dX1_letKeepersAct_148 : decode cX1_letKeepersAct 148 = .ok (.iload_n 3, 1) := by decide +kernel
theorem dX1_letKeepersAct_149 : decode cX1_letKeepersAct 149 = .ok (.iload 4, 2) := by decide +kernel
theorem dX1_letKeepersAct_151 : decode cX1_letKeepersAct 151 = .ok (.invokevirtual 141, 3) := by decide +kernel
theorem dX1_letKeepersAct_154 : decode cX1_letKeepersAct 154 = .ok (.goto 10, 3) := by decide +kernel
theorem dX1_letKeepersAct_157 : decode cX1_letKeepersAct 157 = .ok (.aload_n 0, 1) := by decide +kernel
theorem dX1_letKeepersAct_158 : decode cX1_letKeepersAct 158 = .ok (.iload_n 3, 1) := by decide +kernel
theorem dX1_letKeepersAct_159 : decode cX1_letKeepersAct 159 = .ok (.iload 4, 2) := by decide +kernel
theorem dX1_letKeepersAct_161 : decode cX1_letKeepersAct 161 = .ok (.invokevirtual 144, 3) := by decide +kernel
theorem dX1_letKeepersAct_164 : decode cX1_letKeepersAct 164 = .ok (.iinc 3 1, 3) := by decide +kernel
theorem dX1_letKeepersAct_167 : decode cX1_letKeepersAct 167 = .ok (.goto (-158), 3) := by decide +kernel
theorem dX1_letKeepersAct_170 : decode cX1_letKeepersAct 170 = .ok (.return_, 1) := by decide +kernel
set_option maxRecDepth 20000 in
theorem ggX1_nearest_X2_has : GoodIn wsX1_nearest wsX2_has := goodIn_r _ [3] (by decide +kernel) (by decide +kernel)
set_option maxRecDepth 20000 in
theorem gX1_nearest_X2_has_n87 : GoodIn wsX1_nearest (wsX2_has) := ggX1_nearest_X2_has
theorem dX1_nearest_0 : decode cX1_nearest 0 = .ok (.iload_n 0, 1) := by decide +kernel
theorem dX1_nearest_1 : decode cX1_nearest 1 = .ok (.ifCond .ne 6, 3) := by decide +kernel
theorem dX1_nearest_4 : decode cX1_nearest 4 = .ok (.bipush (-6), 2) := by decide +kernel
theorem dX1_nearest_6 : decode cX1_nearest 6 = .ok (.ireturn, 1) := by decide +kernel
theorem dX1_nearest_7 : decode cX1_nearest 7 = .ok (.iconst 0, 1) := by decide +kernel
theorem dX1_nearest_8 : decode cX1_nearest 8 = .ok (.istore_n 2, 1) := by decide +kernel
theorem dX1_nearest_9 : decode cX1_nearest 9 = .ok (.iload_n 2, 1) := by decide +kernel
theorem dX1_nearest_10 : decode cX1_nearest 10 = .ok (.bipush 12, 2) := by decide +kernel
theorem dX1_nearest_12 : decode cX1_nearest 12 = .ok (.if_icmp .ge 37, 3) := by decide +kernel
theorem dX1_nearest_15 : decode cX1_nearest 15 = .ok (.iload_n 0, 1) := by decide +kernel
theorem dX1_nearest_16 : decode cX1_nearest 16 = .ok (.iload_n 1, 1) := by decide +kernel
theorem dX1_nearest_17 : decode cX1_nearest 17 = .ok (.iload_n 2, 1) := by decide +kernel
theorem dX1_nearest_18 : decode cX1_nearest 18 = .ok (.isub, 1) := by decide +kernel
theorem dX1_nearest_19 : decode cX1_nearest 19 = .ok (.invokestatic 87, 3) := by decide +kernel
theorem dX1_nearest_22 : decode cX1_nearest 22 = .ok (.ifCond .eq 7, 3) := by decide +kernel
theorem dX1_nearest_25 : decode cX1_nearest 25 = .ok (.iload_n 1, 1) := by decide +kernel
theorem dX1_nearest_26 : decode cX1_nearest 26 = .ok (.iload_n 2, 1) := by decide +kernel
theorem dX1_nearest_27 : decode cX1_nearest 27 = .ok (.isub, 1) := by decide +kernel
theorem dX1_nearest_28 : decode cX1_nearest 28 = .ok (.ireturn, 1) := by decide +kernel
theorem dX1_nearest_29 : decode cX1_nearest 29 = .ok (.iload_n 0, 1) := by decide +kernel
theorem dX1_nearest_30 : decode cX1_nearest 30 = .ok (.iload_n 1, 1) := by decide +kernel
theorem dX1_nearest_31 : decode cX1_nearest 31 = .ok (.iload_n 2, 1) := by decide +kernel
theorem dX1_nearest_32 : decode cX1_nearest 32 = .ok (.iadd, 1) := by decide +kernel
theorem dX1_nearest_33 : decode cX1_nearest 33 = .ok (.invokestatic 87, 3) := by decide +kernel
theorem dX1_nearest_36 : decode cX1_nearest 36 = .ok (.ifCond .eq 7, 3) := by decide +kernel
theorem dX1_nearest_39 : decode cX1_nearest 39 = .ok (.iload_n 1, 1) := by decide +kernel
theorem dX1_nearest_40 : decode cX1_nearest 40 = .ok (.iload_n 2, 1) := by decide +kernel
theorem dX1_nearest_41 : decode cX1_nearest 41 = .ok (.iadd, 1) := by decide +kernel
theorem dX1_nearest_42 : decode cX1_nearest 42 = .ok (.ireturn, 1) := by decide +kernel
theorem dX1_nearest_43 : decode cX1_nearest 43 = .ok (.iinc 2 1, 3) := by decide +kernel
theorem dX1_nearest_46 : decode cX1_nearest 46 = .ok (.goto (-37), 3) := by decide +kernel
theorem dX1_nearest_49 : decode cX1_nearest 49 = .ok (.bipush (-6), 2) := by decide +kernel
theorem dX1_nearest_51 : decode cX1_nearest 51 = .ok (.ireturn, 1) := by decide +kernel
set_option maxRecDepth 20000 in
theorem ggX1_outOfTune_X1_openOnes : GoodIn wsX1_outOfTune wsX1_openOnes := goodIn_r _ [7, 8, 9, 13, 14, 15, 16, 17, 18, 19, 20, 21, 22, 23, 24, 25, 26, 27, 28, 29, 30] (by decide +kernel) (by decide +kernel)
set_option maxRecDepth 20000 in
theorem gX1_outOfTune_X1_openOnes : GoodIn wsX1_outOfTune (wsV RX1 147 RX1 yX1_openOnes wsX1_openOnes) := goodIn_app (goodIn_of _ (by decide +kernel)) ggX1_outOfTune_X1_openOnes
set_option maxRecDepth 20000 in
theorem ggX1_outOfTune_X2_has : GoodIn wsX1_outOfTune wsX2_has := goodIn_r _ [12] (by decide +kernel) (by decide +kernel)
set_option maxRecDepth 20000 in
theorem gX1_outOfTune_X2_has_n87 : GoodIn wsX1_outOfTune (wsX2_has) := ggX1_outOfTune_X2_has
theorem dX1_outOfTune_0 : decode cX1_outOfTune 0 = .ok (.iconst 0, 1) := by decide +kernel
theorem dX1_outOfTune_1 : decode cX1_outOfTune 1 = .ok (.istore_n 1, 1) := by decide +kernel
theorem dX1_outOfTune_2 : decode cX1_outOfTune 2 = .ok (.iconst 0, 1) := by decide +kernel
theorem dX1_outOfTune_3 : decode cX1_outOfTune 3 = .ok (.istore_n 2, 1) := by decide +kernel
theorem dX1_outOfTune_4 : decode cX1_outOfTune 4 = .ok (.iload_n 2, 1) := by decide +kernel
theorem dX1_outOfTune_5 : decode cX1_outOfTune 5 = .ok (.bipush 12, 2) := by decide +kernel
theorem dX1_outOfTune_7 : decode cX1_outOfTune 7 = .ok (.if_icmp .ge 41, 3) := by decide +kernel
theorem dX1_outOfTune_10 : decode cX1_outOfTune 10 = .ok (.aload_n 0, 1) := by decide +kernel
theorem dX1_outOfTune_11 : decode cX1_outOfTune 11 = .ok (.invokevirtual 147, 3) := by decide +kernel
theorem dX1_outOfTune_14 : decode cX1_outOfTune 14 = .ok (.iload_n 2, 1) := by decide +kernel
theorem dX1_outOfTune_15 : decode cX1_outOfTune 15 = .ok (.invokestatic 87, 3) := by decide +kernel
theorem dX1_outOfTune_18 : decode cX1_outOfTune 18 = .ok (.ifCond .eq 24, 3) := by decide +kernel
theorem dX1_outOfTune_21 : decode cX1_outOfTune 21 = .ok (.aload_n 0, 1) := by decide +kernel
theorem dX1_outOfTune_22 : decode cX1_outOfTune 22 = .ok (.getfield 25, 3) := by decide +kernel
theorem dX1_outOfTune_25 : decode cX1_outOfTune 25 = .ok (.iload_n 2, 1) := by decide +kernel
theorem dX1_outOfTune_26 : decode cX1_outOfTune 26 = .ok (.iaload, 1) := by decide +kernel
end
section
theorem dX1_outOfTune_27 : decode cX1_outOfTune 27 = .ok (.aload_n 0, 1) := by decide +kernel
theorem dX1_outOfTune_28 : decode cX1_outOfTune 28 = .ok (.getfield 9, 3) := by decide +kernel
theorem dX1_outOfTune_31 : decode cX1_outOfTune 31 = .ok (.iconst 5, 1) := by decide +kernel
theorem dX1_outOfTune_32 : decode cX1_outOfTune 32 = .ok (.iaload, 1) := by decide +kernel
theorem dX1_outOfTune_33 : decode cX1_outOfTune 33 = .ok (.if_icmp .ge 9, 3) := by decide +kernel
theorem dX1_outOfTune_36 : decode cX1_outOfTune 36 = .ok (.iload_n 1, 1) := by decide +kernel
theorem dX1_outOfTune_37 : decode cX1_outOfTune 37 = .ok (.iconst 1, 1) := by decide +kernel
theorem dX1_outOfTune_38 : decode cX1_outOfTune 38 = .ok (.iload_n 2, 1) := by decide +kernel
theorem dX1_outOfTune_39 : decode cX1_outOfTune 39 = .ok (.ishl, 1) := by decide +kernel
theorem dX1_outOfTune_40 : decode cX1_outOfTune 40 = .ok (.ior, 1) := by decide +kernel
theorem dX1_outOfTune_41 : decode cX1_outOfTune 41 = .ok (.istore_n 1, 1) := by decide +kernel
theorem dX1_outOfTune_42 : decode cX1_outOfTune 42 = .ok (.iinc 2 1, 3) := by decide +kernel
theorem dX1_outOfTune_45 : decode cX1_outOfTune 45 = .ok (.goto (-41), 3) := by decide +kernel
theorem dX1_outOfTune_48 : decode cX1_outOfTune 48 = .ok (.iload_n 1, 1) := by decide +kernel
theorem dX1_outOfTune_49 : decode cX1_outOfTune 49 = .ok (.ireturn, 1) := by decide +kernel
theorem dX1_openOnes_0 : decode cX1_openOnes 0 = .ok (.aload_n 0, 1) := by decide +kernel
theorem dX1_openOnes_1 : decode cX1_openOnes 1 = .ok (.getfield 15, 3) := by decide +kernel
theorem dX1_openOnes_4 : decode cX1_openOnes 4 = .ok (.aload_n 0, 1) := by decide +kernel
theorem dX1_openOnes_5 : decode cX1_openOnes 5 = .ok (.getfield 22, 3) := by decide +kernel
theorem dX1_openOnes_8 : decode cX1_openOnes 8 = .ok (.iconst (-1), 1) := by decide +kernel
theorem dX1_openOnes_9 : decode cX1_openOnes 9 = .ok (.ixor, 1) := by decide +kernel
theorem dX1_openOnes_10 : decode cX1_openOnes 10 = .ok (.iand, 1) := by decide +kernel
theorem dX1_openOnes_11 : decode cX1_openOnes 11 = .ok (.ireturn, 1) := by decide +kernel
theorem dX1_goTowards_0 : decode cX1_goTowards 0 = .ok (.aload_n 0, 1) := by decide +kernel
theorem dX1_goTowards_1 : decode cX1_goTowards 1 = .ok (.getfield 40, 3) := by decide +kernel
theorem dX1_goTowards_4 : decode cX1_goTowards 4 = .ok (.iload_n 1, 1) := by decide +kernel
theorem dX1_goTowards_5 : decode cX1_goTowards 5 = .ok (.dup2, 1) := by decide +kernel
theorem dX1_goTowards_6 : decode cX1_goTowards 6 = .ok (.iaload, 1) := by decide +kernel
theorem dX1_goTowards_7 : decode cX1_goTowards 7 = .ok (.aload_n 0, 1) := by decide +kernel
theorem dX1_goTowards_8 : decode cX1_goTowards 8 = .ok (.getfield 40, 3) := by decide +kernel
theorem dX1_goTowards_11 : decode cX1_goTowards 11 = .ok (.iload_n 1, 1) := by decide +kernel
theorem dX1_goTowards_12 : decode cX1_goTowards 12 = .ok (.iaload, 1) := by decide +kernel
theorem dX1_goTowards_13 : decode cX1_goTowards 13 = .ok (.iload_n 2, 1) := by decide +kernel
theorem dX1_goTowards_14 : decode cX1_goTowards 14 = .ok (.if_icmp .ge 7, 3) := by decide +kernel
theorem dX1_goTowards_17 : decode cX1_goTowards 17 = .ok (.iconst 1, 1) := by decide +kernel
theorem dX1_goTowards_18 : decode cX1_goTowards 18 = .ok (.goto 4, 3) := by decide +kernel
theorem dX1_goTowards_21 : decode cX1_goTowards 21 = .ok (.iconst (-1), 1) := by decide +kernel
theorem dX1_goTowards_22 : decode cX1_goTowards 22 = .ok (.iadd, 1) := by decide +kernel
theorem dX1_goTowards_23 : decode cX1_goTowards 23 = .ok (.iastore, 1) := by decide +kernel
theorem dX1_goTowards_24 : decode cX1_goTowards 24 = .ok (.aload_n 0, 1) := by decide +kernel
theorem dX1_goTowards_25 : decode cX1_goTowards 25 = .ok (.getfield 52, 3) := by decide +kernel
theorem dX1_goTowards_28 : decode cX1_goTowards 28 = .ok (.iload_n 1, 1) := by decide +kernel
theorem dX1_goTowards_29 : decode cX1_goTowards 29 = .ok (.dup2, 1) := by decide +kernel
theorem dX1_goTowards_30 : decode cX1_goTowards 30 = .ok (.iaload, 1) := by decide +kernel
theorem dX1_goTowards_31 : decode cX1_goTowards 31 = .ok (.iconst 1, 1) := by decide +kernel
theorem dX1_goTowards_32 : decode cX1_goTowards 32 = .ok (.iadd, 1) := by decide +kernel
theorem dX1_goTowards_33 : decode cX1_goTowards 33 = .ok (.iastore, 1) := by decide +kernel
theorem dX1_goTowards_34 : decode cX1_goTowards 34 = .ok (.return_, 1) := by decide +kernel
theorem dX1_tune_0 : decode cX1_tune 0 = .ok (.aload_n 0, 1) := by decide +kernel
theorem dX1_tune_1 : decode cX1_tune 1 = .ok (.getfield 25, 3) := by decide +kernel
theorem dX1_tune_4 : decode cX1_tune 4 = .ok (.iload_n 2, 1) := by decide +kernel
theorem dX1_tune_5 : decode cX1_tune 5 = .ok (.bipush 100, 2) := by decide +kernel
theorem dX1_tune_7 : decode cX1_tune 7 = .ok (.aload_n 0, 1) := by decide +kernel
theorem dX1_tune_8 : decode cX1_tune 8 = .ok (.getfield 25, 3) := by decide +kernel
theorem dX1_tune_11 : decode cX1_tune 11 = .ok (.iload_n 2, 1) := by decide +kernel
theorem dX1_tune_12 : decode cX1_tune 12 = .ok (.iaload, 1) := by decide +kernel
theorem dX1_tune_13 : decode cX1_tune 13 = .ok (.bipush 10, 2) := by decide +kernel
theorem dX1_tune_15 : decode cX1_tune 15 = .ok (.iadd, 1) := by decide +kernel
theorem dX1_tune_16 : decode cX1_tune 16 = .ok (.invokestatic 150, 3) := by decide +kernel
theorem dX1_tune_19 : decode cX1_tune 19 = .ok (.iastore, 1) := by decide +kernel
theorem dX1_tune_20 : decode cX1_tune 20 = .ok (.aload_n 0, 1) := by decide +kernel
theorem dX1_tune_21 : decode cX1_tune 21 = .ok (.getfield 49, 3) := by decide +kernel
theorem dX1_tune_24 : decode cX1_tune 24 = .ok (.iload_n 1, 1) := by decide +kernel
theorem dX1_tune_25 : decode cX1_tune 25 = .ok (.dup2, 1) := by decide +kernel
theorem dX1_tune_26 : decode cX1_tune 26 = .ok (.iaload, 1) := by decide +kernel
theorem dX1_tune_27 : decode cX1_tune 27 = .ok (.iconst 1, 1) := by decide +kernel
theorem dX1_tune_28 : decode cX1_tune 28 = .ok (.iadd, 1) := by decide +kernel
theorem dX1_tune_29 : decode cX1_tune 29 = .ok (.iastore, 1) := by decide +kernel
theorem dX1_tune_30 : decode cX1_tune 30 = .ok (.return_, 1) := by decide +kernel
theorem dX1_putCoverOn_0 : decode cX1_putCoverOn 0 = .ok (.aload_n 0, 1) := by decide +kernel
theorem dX1_putCoverOn_1 : decode cX1_putCoverOn 1 = .ok (.dup, 1) := by decide +kernel
theorem dX1_putCoverOn_2 : decode cX1_putCoverOn 2 = .ok (.getfield 19, 3) := by decide +kernel
theorem dX1_putCoverOn_5 : decode cX1_putCoverOn 5 = .ok (.iconst 1, 1) := by decide +kernel
theorem dX1_putCoverOn_6 : decode cX1_putCoverOn 6 = .ok (.iload_n 2, 1) := by decide +kernel
theorem dX1_putCoverOn_7 : decode cX1_putCoverOn 7 = .ok (.ishl, 1) := by decide +kernel
theorem dX1_putCoverOn_8 : decode cX1_putCoverOn 8 = .ok (.iconst (-1), 1) := by decide +kernel
theorem dX1_putCoverOn_9 : decode cX1_putCoverOn 9 = .ok (.ixor, 1) := by decide +kernel
theorem dX1_putCoverOn_10 : decode cX1_putCoverOn 10 = .ok (.iand, 1) := by decide +kernel
theorem dX1_putCoverOn_11 : decode cX1_putCoverOn 11 = .ok (.putfield 19, 3) := by decide +kernel
theorem dX1_putCoverOn_14 : decode cX1_putCoverOn 14 = .ok (.aload_n 0, 1) := by decide +kernel
theorem dX1_putCoverOn_15 : decode cX1_putCoverOn 15 = .ok (.dup, 1) := by decide +kernel
theorem dX1_putCoverOn_16 : decode cX1_putCoverOn 16 = .ok (.getfield 22, 3) := by decide +kernel
theorem dX1_putCoverOn_19 : decode cX1_putCoverOn 19 = .ok (.iconst 1, 1) := by decide +kernel
theorem dX1_putCoverOn_20 : decode cX1_putCoverOn 20 = .ok (.iload_n 2, 1) := by decide +kernel
theorem dX1_putCoverOn_21 : decode cX1_putCoverOn 21 = .ok (.ishl, 1) := by decide +kernel
theorem dX1_putCoverOn_22 : decode cX1_putCoverOn 22 = .ok (.ior, 1) := by decide +kernel
theorem dX1_putCoverOn_23 : decode cX1_putCoverOn 23 = .ok (.putfield 22, 3) := by decide +kernel
theorem dX1_putCoverOn_26 : decode cX1_putCoverOn 26 = .ok (.aload_n 0, 1) := by decide +kernel
theorem dX1_putCoverOn_27 : decode cX1_putCoverOn 27 = .ok (.getfield 43, 3) := by decide +kernel
theorem dX1_putCoverOn_30 : decode cX1_putCoverOn 30 = .ok (.iload_n 1, 1) := by decide +kernel
theorem dX1_putCoverOn_31 : decode cX1_putCoverOn 31 = .ok (.dup2, 1) := by decide +kernel
theorem dX1_putCoverOn_32 : decode cX1_putCoverOn 32 = .ok (.iaload, 1) := by decide +kernel
theorem dX1_putCoverOn_33 : decode cX1_putCoverOn 33 = .ok (.iconst 1, 1) := by decide +kernel
theorem dX1_putCoverOn_34 : decode cX1_putCoverOn 34 = .ok (.iadd, 1) := by decide +kernel
theorem dX1_putCoverOn_35 : decode cX1_putCoverOn 35 = .ok (.iastore, 1) := by decide +kernel
theorem dX1_putCoverOn_36 : decode cX1_putCoverOn 36 = .ok (.return_, 1) := by decide +kernel
theorem dX1_takeCoverOff_0 : decode cX1_takeCoverOff 0 = .ok (.aload_n 0, 1) := by decide +kernel
theorem dX1_takeCoverOff_1 : decode cX1_takeCoverOff 1 = .ok (.dup, 1) := by decide +kernel
theorem dX1_takeCoverOff_2 : decode cX1_takeCoverOff 2 = .ok (.getfield 22, 3) := by decide +kernel
theorem dX1_takeCoverOff_5 : decode cX1_takeCoverOff 5 = .ok (.iconst 1, 1) := by decide +kernel
theorem dX1_takeCoverOff_6 : decode cX1_takeCoverOff 6 = .ok (.iload_n 2, 1) := by decide +kernel
theorem dX1_takeCoverOff_7 : decode cX1_takeCoverOff 7 = .ok (.ishl, 1) := by decide +kernel
theorem dX1_takeCoverOff_8 : decode cX1_takeCoverOff 8 = .ok (.iconst (-1), 1) := by decide +kernel
theorem dX1_takeCoverOff_9 : decode cX1_takeCoverOff 9 = .ok (.ixor, 1) := by decide +kernel
theorem dX1_takeCoverOff_10 : decode cX1_takeCoverOff 10 = .ok (.iand, 1) := by decide +kernel
theorem dX1_takeCoverOff_11 : decode cX1_takeCoverOff 11 = .ok (.putfield 22, 3) := by decide +kernel
theorem dX1_takeCoverOff_14 : decode cX1_takeCoverOff 14 = .ok (.aload_n 0, 1) := by decide +kernel
theorem dX1_takeCoverOff_15 : decode cX1_takeCoverOff 15 = .ok (.dup, 1) := by decide +kernel
theorem dX1_takeCoverOff_16 : decode cX1_takeCoverOff 16 = .ok (.getfield 19, 3) := by decide +kernel
theorem dX1_takeCoverOff_19 : decode cX1_takeCoverOff 19 = .ok (.iconst 1, 1) := by decide +kernel
theorem dX1_takeCoverOff_20 : decode cX1_takeCoverOff 20 = .ok (.iload_n 2, 1) := by decide +kernel
theorem dX1_takeCoverOff_21 : decode cX1_takeCoverOff 21 = .ok (.ishl, 1) := by decide +kernel
theorem dX1_takeCoverOff_22 : decode cX1_takeCoverOff 22 = .ok (.ior, 1) := by decide +kernel
theorem dX1_takeCoverOff_23 : decode cX1_takeCoverOff 23 = .ok (.putfield 19, 3) := by decide +kernel
theorem dX1_takeCoverOff_26 : decode cX1_takeCoverOff 26 = .ok (.aload_n 0, 1) := by decide +kernel
theorem dX1_takeCoverOff_27 : decode cX1_takeCoverOff 27 = .ok (.getfield 46, 3) := by decide +kernel
theorem dX1_takeCoverOff_30 : decode cX1_takeCoverOff 30 = .ok (.iload_n 1, 1) := by decide +kernel
theorem dX1_takeCoverOff_31 : decode cX1_takeCoverOff 31 = .ok (.dup2, 1) := by decide +kernel
theorem dX1_takeCoverOff_32 : decode cX1_takeCoverOff 32 = .ok (.iaload, 1) := by decide +kernel
theorem dX1_takeCoverOff_33 : decode cX1_takeCoverOff 33 = .ok (.iconst 1, 1) := by decide +kernel
theorem dX1_takeCoverOff_34 : decode cX1_takeCoverOff 34 = .ok (.iadd, 1) := by decide +kernel
theorem dX1_takeCoverOff_35 : decode cX1_takeCoverOff 35 = .ok (.iastore, 1) := by decide +kernel
theorem dX1_takeCoverOff_36 : decode cX1_takeCoverOff 36 = .ok (.return_, 1) := by decide +kernel
set_option maxRecDepth 20000 in
theorem ggX1_letRainFall_X1_openOnes : GoodIn wsX1_letRainFall wsX1_openOnes := goodIn_r _ [16, 17, 18, 22, 23, 24, 25, 26, 27, 28, 29, 30, 31, 32, 33, 34, 35, 36, 37, 38, 39] (by decide +kernel) (by decide +kernel)
set_option maxRecDepth 20000 in
theorem gX1_letRainFall_X1_openOnes : GoodIn wsX1_letRainFall (wsV RX1 147 RX1 yX1_openOnes wsX1_openOnes) := goodIn_app (goodIn_of _ (by decide +kernel)) ggX1_letRainFall_X1_openOnes
set_option maxRecDepth 20000 in
theorem ggX1_letRainFall_X2_has : GoodIn wsX1_letRainFall wsX2_has := goodIn_r _ [21] (by decide +kernel) (by decide +kernel)
set_option maxRecDepth 20000 in
theorem gX1_letRainFall_X2_has_n87 : GoodIn wsX1_letRainFall (wsX2_has) := ggX1_letRainFall_X2_has
theorem dX1_letRainFall_0 : decode cX1_letRainFall 0 = .ok (.iconst 0, 1) := by decide +kernel
theorem dX1_letRainFall_1 : decode cX1_letRainFall 1 = .ok (.istore_n 1, 1) := by decide +kernel
theorem dX1_letRainFall_2 : decode cX1_letRainFall 2 = .ok (.iload_n 1, 1) := by decide +kernel
theorem dX1_letRainFall_3 : decode cX1_letRainFall 3 = .ok (.bipush 12, 2) := by decide +kernel
theorem dX1_letRainFall_5 : decode cX1_letRainFall 5 = .ok (.if_icmp .ge 77, 3) := by decide +kernel
theorem dX1_letRainFall_8 : decode cX1_letRainFall 8 = .ok (.aload_n 0, 1) := by decide +kernel
theorem dX1_letRainFall_9 : decode cX1_letRainFall 9 = .ok (.invokevirtual 147, 3) := by decide +kernel
theorem dX1_letRainFall_12 : decode cX1_letRainFall 12 = .ok (.iload_n 1, 1) := by decide +kernel
theorem dX1_letRainFall_13 : decode cX1_letRainFall 13 = .ok (.invokestatic 87, 3) := by decide +kernel
theorem dX1_letRainFall_16 : decode cX1_letRainFall 16 = .ok (.ifCond .eq 60, 3) := by decide +kernel
theorem dX1_letRainFall_19 : decode cX1_letRainFall 19 = .ok (.aload_n 0, 1) := by decide +kernel
theorem dX1_letRainFall_20 : decode cX1_letRainFall 20 = .ok (.getfield 28, 3) := by decide +kernel
theorem dX1_letRainFall_23 : decode cX1_letRainFall 23 = .ok (.iload_n 1, 1) := by decide +kernel
theorem dX1_letRainFall_24 : decode cX1_letRainFall 24 = .ok (.bipush 100, 2) := by decide +kernel
theorem dX1_letRainFall_26 : decode cX1_letRainFall 26 = .ok (.aload_n 0, 1) := by decide +kernel
theorem dX1_letRainFall_27 : decode cX1_letRainFall 27 = .ok (.getfield 28, 3) := by decide +kernel
theorem dX1_letRainFall_30 : decode cX1_letRainFall 30 = .ok (.iload_n 1, 1) := by decide +kernel
theorem dX1_letRainFall_31 : decode cX1_letRainFall 31 = .ok (.iaload, 1) := by decide +kernel
theorem dX1_letRainFall_32 : decode cX1_letRainFall 32 = .ok (.aload_n 0, 1) := by decide +kernel
theorem dX1_letRainFall_33 : decode cX1_letRainFall 33 = .ok (.getfield 9, 3) := by decide +kernel
theorem dX1_letRainFall_36 : decode cX1_letRainFall 36 = .ok (.iconst 1, 1) := by decide +kernel
theorem dX1_letRainFall_37 : decode cX1_letRainFall 37 = .ok (.iaload, 1) := by decide +kernel
theorem dX1_letRainFall_38 : decode cX1_letRainFall 38 = .ok (.iadd, 1) := by decide +kernel
theorem dX1_letRainFall_39 : decode cX1_letRainFall 39 = .ok (.invokestatic 150, 3) := by decide +kernel
theorem dX1_letRainFall_42 : decode cX1_letRainFall 42 = .ok (.iastore, 1) := by decide +kernel
theorem dX1_letRainFall_43 : decode cX1_letRainFall 43 = .ok (.aload_n 0, 1) := by decide +kernel
theorem dX1_letRainFall_44 : decode cX1_letRainFall 44 = .ok (.getfield 25, 3) := by decide +kernel
theorem dX1_letRainFall_47 : decode cX1_letRainFall 47 = .ok (.iload_n 1, 1) := by decide +kernel
theorem dX1_letRainFall_48 : decode cX1_letRainFall 48 = .ok (.iconst 0, 1) := by decide +kernel
theorem dX1_letRainFall_49 : decode cX1_letRainFall 49 = .ok (.aload_n 0, 1) := by decide +kernel
theorem dX1_letRainFall_50 : decode cX1_letRainFall 50 = .ok (.getfield 25, 3) := by decide +kernel
theorem dX1_letRainFall_53 : decode cX1_letRainFall 53 = .ok (.iload_n 1, 1) := by decide +kernel
theorem dX1_letRainFall_54 : decode cX1_letRainFall 54 = .ok (.iaload, 1) := by decide +kernel
theorem dX1_letRainFall_55 : decode cX1_letRainFall 55 = .ok (.aload_n 0, 1) := by decide +kernel
theorem dX1_letRainFall_56 : decode cX1_letRainFall 56 = .ok (.getfield 9, 3) := by decide +kernel
theorem dX1_letRainFall_59 : decode cX1_letRainFall 59 = .ok (.iconst 3, 1) := by decide +kernel
theorem dX1_letRainFall_60 : decode cX1_letRainFall 60 = .ok (.iaload, 1) := by decide +kernel
theorem dX1_letRainFall_61 : decode cX1_letRainFall 61 = .ok (.isub, 1) := by decide +kernel
theorem dX1_letRainFall_62 : decode cX1_letRainFall 62 = .ok (.invokestatic 155, 3) := by decide +kernel
theorem dX1_letRainFall_65 : decode cX1_letRainFall 65 = .ok (.iastore, 1) := by decide +kernel
theorem dX1_letRainFall_66 : decode cX1_letRainFall 66 = .ok (.aload_n 0, 1) := by decide +kernel
theorem dX1_letRainFall_67 : decode cX1_letRainFall 67 = .ok (.getfield 34, 3) := by decide +kernel
theorem dX1_letRainFall_70 : decode cX1_letRainFall 70 = .ok (.iload_n 1, 1) := by decide +kernel
theorem dX1_letRainFall_71 : decode cX1_letRainFall 71 = .ok (.dup2, 1) := by decide +kernel
theorem dX1_letRainFall_72 : decode cX1_letRainFall 72 = .ok (.iaload, 1) := by decide +kernel
theorem dX1_letRainFall_73 : decode cX1_letRainFall 73 = .ok (.iconst 1, 1) := by decide +kernel
theorem dX1_letRainFall_74 : decode cX1_letRainFall 74 = .ok (.iadd, 1) := by decide +kernel
theorem dX1_letRainFall_75 : decode cX1_letRainFall 75 = .ok (.iastore, 1) := by decide +kernel
theorem dX1_letRainFall_76 : decode cX1_letRainFall 76 = .ok (.iinc 1 1, 3) := by decide +kernel
theorem dX1_letRainFall_79 : decode cX1_letRainFall 79 = .ok (.goto (-77), 3) := by decide +kernel
theorem dX1_letRainFall_82 : decode cX1_letRainFall 82 = .ok (.return_, 1) := by decide +kernel
set_option maxRecDepth 20000 in
theorem ggX1_letPianosDry_X1_openOnes : GoodIn wsX1_letPianosDry wsX1_openOnes := goodIn_r _ [11, 12, 13, 17, 18, 19, 20, 21, 22, 23, 24, 25, 26, 27, 28, 29, 30, 31, 32, 33, 34] (by decide +kernel) (by decide +kernel)
set_option maxRecDepth 20000 in
theorem gX1_letPianosDry_X1_openOnes : GoodIn wsX1_letPianosDry (wsV RX1 147 RX1 yX1_openOnes wsX1_openOnes) := goodIn_app (goodIn_of _ (by decide +kernel)) ggX1_letPianosDry_X1_openOnes
set_option maxRecDepth 20000 in
theorem ggX1_letPianosDry_X2_has : GoodIn wsX1_letPianosDry wsX2_has := goodIn_r _ [16] (by decide +kernel) (by decide +kernel)
set_option maxRecDepth 20000 in
theorem gX1_letPianosDry_X2_has_n87 : GoodIn wsX1_letPianosDry (wsX2_has) := ggX1_letPianosDry_X2_has
theorem dX1_letPianosDry_0 : decode cX1_letPianosDry 0 = .ok (.iconst 0, 1) := by decide +kernel
theorem dX1_letPianosDry_1 : decode cX1_letPianosDry 1 = .ok (.istore_n 1, 1) := by decide +kernel
theorem dX1_letPianosDry_2 : decode cX1_letPianosDry 2 = .ok (.iload_n 1, 1) := by decide +kernel
theorem dX1_letPianosDry_3 : decode cX1_letPianosDry 3 = .ok (.bipush 12, 2) := by decide +kernel
theorem dX1_letPianosDry_5 : decode cX1_letPianosDry 5 = .ok (.if_icmp .ge 43, 3) := by decide +kernel
theorem dX1_letPianosDry_8 : decode cX1_letPianosDry 8 = .ok (.aload_n 0, 1) := by decide +kernel
theorem dX1_letPianosDry_9 : decode cX1_letPianosDry 9 = .ok (.invokevirtual 147, 3) := by decide +kernel
theorem dX1_letPianosDry_12 : decode cX1_letPianosDry 12 = .ok (.iload_n 1, 1) := by decide +kernel
theorem dX1_letPianosDry_13 : decode cX1_letPianosDry 13 = .ok (.invokestatic 87, 3) := by decide +kernel
theorem dX1_letPianosDry_16 : decode cX1_letPianosDry 16 = .ok (.ifCond .eq 26, 3) := by decide +kernel
theorem dX1_letPianosDry_19 : decode cX1_letPianosDry 19 = .ok (.aload_n 0, 1) := by decide +kernel
theorem dX1_letPianosDry_20 : decode cX1_letPianosDry 20 = .ok (.getfield 28, 3) := by decide +kernel
theorem dX1_letPianosDry_23 : decode cX1_letPianosDry 23 = .ok (.iload_n 1, 1) := by decide +kernel
theorem dX1_letPianosDry_24 : decode cX1_letPianosDry 24 = .ok (.iconst 0, 1) := by decide +kernel
theorem dX1_letPianosDry_25 : decode cX1_letPianosDry 25 = .ok (.aload_n 0, 1) := by decide +kernel
theorem dX1_letPianosDry_26 : decode cX1_letPianosDry 26 = .ok (.getfield 28, 3) := by decide +kernel
theorem dX1_letPianosDry_29 : decode cX1_letPianosDry 29 = .ok (.iload_n 1, 1) := by decide +kernel
theorem dX1_letPianosDry_30 : decode cX1_letPianosDry 30 = .ok (.iaload, 1) := by decide +kernel
theorem dX1_letPianosDry_31 : decode cX1_letPianosDry 31 = .ok (.aload_n 0, 1) := by decide +kernel
theorem dX1_letPianosDry_32 : decode cX1_letPianosDry 32 = .ok (.getfield 9, 3) := by decide +kernel
theorem dX1_letPianosDry_35 : decode cX1_letPianosDry 35 = .ok (.iconst 2, 1) := by decide +kernel
theorem dX1_letPianosDry_36 : decode cX1_letPianosDry 36 = .ok (.iaload, 1) := by decide +kernel
theorem dX1_letPianosDry_37 : decode cX1_letPianosDry 37 = .ok (.isub, 1) := by decide +kernel
theorem dX1_letPianosDry_38 : decode cX1_letPianosDry 38 = .ok (.invokestatic 155, 3) := by decide +kernel
theorem dX1_letPianosDry_41 : decode cX1_letPianosDry 41 = .ok (.iastore, 1) := by decide +kernel
theorem dX1_letPianosDry_42 : decode cX1_letPianosDry 42 = .ok (.iinc 1 1, 3) := by decide +kernel
theorem dX1_letPianosDry_45 : decode cX1_letPianosDry 45 = .ok (.goto (-43), 3) := by decide +kernel
theorem dX1_letPianosDry_48 : decode cX1_letPianosDry 48 = .ok (.return_, 1) := by decide +kernel
set_option maxRecDepth 20000 in
theorem ggX1_letPianosBePlayed_X1_openOnes : GoodIn wsX1_letPianosBePlayed wsX1_openOnes := goodIn_r _ [15, 16, 17, 21, 22, 23, 24, 25, 26, 27, 28, 29, 30, 31, 32, 33, 34, 35, 36, 37, 38] (by decide +kernel) (by decide +kernel)
set_option maxRecDepth 20000 in
theorem gX1_letPianosBePlayed_X1_openOnes : GoodIn wsX1_letPianosBePlayed (wsV RX1 147 RX1 yX1_openOnes wsX1_openOnes) := goodIn_app (goodIn_of _ (by decide +kernel)) ggX1_letPianosBePlayed_X1_openOnes
set_option maxRecDepth 20000 in
theorem ggX1_letPianosBePlayed_X2_has : GoodIn wsX1_letPianosBePlayed wsX2_has := goodIn_r _ [20] (by decide +kernel) (by decide +kernel)
set_option maxRecDepth 20000 in
theorem gX1_letPianosBePlayed_X2_has_n87 : GoodIn wsX1_letPianosBePlayed (wsX2_has) := ggX1_letPianosBePlayed_X2_has
theorem dX1_letPianosBePlayed_0 : decode cX1_letPianosBePlayed 0 = .ok (.aload_n 0, 1) := by decide +kernel
theorem dX1_letPianosBePlayed_1 : decode cX1_letPianosBePlayed 1 = .ok (.getfield 58, 3) := by decide +kernel
theorem dX1_letPianosBePlayed_4 : decode cX1_letPianosBePlayed 4 = .ok (.bipush 24, 2) := by decide +kernel
theorem dX1_letPianosBePlayed_6 : decode cX1_letPianosBePlayed 6 = .ok (.irem, 1) := by decide +kernel
theorem dX1_letPianosBePlayed_7 : decode cX1_letPianosBePlayed 7 = .ok (.istore_n 1, 1) := by decide +kernel
theorem dX1_letPianosBePlayed_8 : decode cX1_letPianosBePlayed 8 = .ok (.iload_n 1, 1) := by decide +kernel
theorem dX1_letPianosBePlayed_9 : decode cX1_letPianosBePlayed 9 = .ok (.bipush 8, 2) := by decide +kernel
theorem dX1_letPianosBePlayed_11 : decode cX1_letPianosBePlayed 11 = .ok (.if_icmp .lt 9, 3) := by decide +kernel
theorem dX1_letPianosBePlayed_14 : decode cX1_letPianosBePlayed 14 = .ok (.iload_n 1, 1) := by decide +kernel
theorem dX1_letPianosBePlayed_15 : decode cX1_letPianosBePlayed 15 = .ok (.bipush 21, 2) := by decide +kernel
theorem dX1_letPianosBePlayed_17 : decode cX1_letPianosBePlayed 17 = .ok (.if_icmp .le 4, 3) := by decide +kernel
theorem dX1_letPianosBePlayed_20 : decode cX1_letPianosBePlayed 20 = .ok (.return_, 1) := by decide +kernel
theorem dX1_letPianosBePlayed_21 : decode cX1_letPianosBePlayed 21 = .ok (.iconst 0, 1) := by decide +kernel
theorem dX1_letPianosBePlayed_22 : decode cX1_letPianosBePlayed 22 = .ok (.istore_n 2, 1) := by decide +kernel
theorem dX1_letPianosBePlayed_23 : decode cX1_letPianosBePlayed 23 = .ok (.iload_n 2, 1) := by decide +kernel
theorem dX1_letPianosBePlayed_24 : decode cX1_letPianosBePlayed 24 = .ok (.bipush 12, 2) := by decide +kernel
theorem dX1_letPianosBePlayed_26 : decode cX1_letPianosBePlayed 26 = .ok (.if_icmp .ge 86, 3) := by decide +kernel
theorem dX1_letPianosBePlayed_29 : decode cX1_letPianosBePlayed 29 = .ok (.aload_n 0, 1) := by decide +kernel
theorem dX1_letPianosBePlayed_30 : decode cX1_letPianosBePlayed 30 = .ok (.invokevirtual 147, 3) := by decide +kernel
theorem dX1_letPianosBePlayed_33 : decode cX1_letPianosBePlayed 33 = .ok (.iload_n 2, 1) := by decide +kernel
theorem dX1_letPianosBePlayed_34 : decode cX1_letPianosBePlayed 34 = .ok (.invokestatic 87, 3) := by decide +kernel
theorem dX1_letPianosBePlayed_37 : decode cX1_letPianosBePlayed 37 = .ok (.ifCond .eq 69, 3) := by decide +kernel
theorem dX1_letPianosBePlayed_40 : decode cX1_letPianosBePlayed 40 = .ok (.aload_n 0, 1) := by decide +kernel
theorem dX1_letPianosBePlayed_41 : decode cX1_letPianosBePlayed 41 = .ok (.getfield 28, 3) := by decide +kernel
theorem dX1_letPianosBePlayed_44 : decode cX1_letPianosBePlayed 44 = .ok (.iload_n 2, 1) := by decide +kernel
theorem dX1_letPianosBePlayed_45 : decode cX1_letPianosBePlayed 45 = .ok (.iaload, 1) := by decide +kernel
theorem dX1_letPianosBePlayed_46 : decode cX1_letPianosBePlayed 46 = .ok (.bipush 50, 2) := by decide +kernel
theorem dX1_letPianosBePlayed_48 : decode cX1_letPianosBePlayed 48 = .ok (.if_icmp .ge 58, 3) := by decide +kernel
theorem dX1_letPianosBePlayed_51 : decode cX1_letPianosBePlayed 51 = .ok (.aload_n 0, 1) := by decide +kernel
theorem dX1_letPianosBePlayed_52 : decode cX1_letPianosBePlayed 52 = .ok (.getfield 9, 3) := by decide +kernel
theorem dX1_letPianosBePlayed_55 : decode cX1_letPianosBePlayed 55 = .ok (.iconst 4, 1) := by decide +kernel
theorem dX1_letPianosBePlayed_56 : decode cX1_letPianosBePlayed 56 = .ok (.iaload, 1) := by decide +kernel
theorem dX1_letPianosBePlayed_57 : decode cX1_letPianosBePlayed 57 = .ok (.aload_n 0, 1) := by decide +kernel
theorem dX1_letPianosBePlayed_58 : decode cX1_letPianosBePlayed 58 = .ok (.getfield 25, 3) := by decide +kernel
theorem dX1_letPianosBePlayed_61 : decode cX1_letPianosBePlayed 61 = .ok (.iload_n 2, 1) := by decide +kernel
theorem dX1_letPianosBePlayed_62 : decode cX1_letPianosBePlayed 62 = .ok (.iaload, 1) := by decide +kernel
theorem dX1_letPianosBePlayed_63 : decode cX1_letPianosBePlayed 63 = .ok (.imul, 1) := by decide +kernel
theorem dX1_letPianosBePlayed_64 : decode cX1_letPianosBePlayed 64 = .ok (.bipush 100, 2) := by decide +kernel
theorem dX1_letPianosBePlayed_66 : decode cX1_letPianosBePlayed 66 = .ok (.idiv, 1) := by decide +kernel
theorem dX1_letPianosBePlayed_67 : decode cX1_letPianosBePlayed 67 = .ok (.istore_n 3, 1) := by decide +kernel
theorem dX1_letPianosBePlayed_68 : decode cX1_letPianosBePlayed 68 = .ok (.aload_n 0, 1) := by decide +kernel
theorem dX1_letPianosBePlayed_69 : decode cX1_letPianosBePlayed 69 = .ok (.getfield 31, 3) := by decide +kernel
theorem dX1_letPianosBePlayed_72 : decode cX1_letPianosBePlayed 72 = .ok (.iload_n 2, 1) := by decide +kernel
theorem dX1_letPianosBePlayed_73 : decode cX1_letPianosBePlayed 73 = .ok (.dup2, 1) := by decide +kernel
theorem dX1_letPianosBePlayed_74 : decode cX1_letPianosBePlayed 74 = .ok (.iaload, 1) := by decide +kernel
theorem dX1_letPianosBePlayed_75 : decode cX1_letPianosBePlayed 75 = .ok (.iload_n 3, 1) := by decide +kernel
theorem dX1_letPianosBePlayed_76 : decode cX1_letPianosBePlayed 76 = .ok (.iadd, 1) := by decide +kernel
theorem dX1_letPianosBePlayed_77 : decode cX1_letPianosBePlayed 77 = .ok (.iastore, 1) := by decide +kernel
theorem dX1_letPianosBePlayed_78 : decode cX1_letPianosBePlayed 78 = .ok (.aload_n 0, 1) := by decide +kernel
theorem dX1_letPianosBePlayed_79 : decode cX1_letPianosBePlayed 79 = .ok (.dup, 1) := by decide +kernel
theorem dX1_letPianosBePlayed_80 : decode cX1_letPianosBePlayed 80 = .ok (.getfield 61, 3) := by decide +kernel
theorem dX1_letPianosBePlayed_83 : decode cX1_letPianosBePlayed 83 = .ok (.iload_n 3, 1) := by decide +kernel
theorem dX1_letPianosBePlayed_84 : decode cX1_letPianosBePlayed 84 = .ok (.iadd, 1) := by decide +kernel
theorem dX1_letPianosBePlayed_85 : decode cX1_letPianosBePlayed 85 = .ok (.putfield 61, 3) := by decide +kernel
theorem dX1_letPianosBePlayed_88 : decode cX1_letPianosBePlayed 88 = .ok (.aload_n 0, 1) := by decide +kernel
theorem dX1_letPianosBePlayed_89 : decode cX1_letPianosBePlayed 89 = .ok (.getfield 25, 3) := by decide +kernel
theorem dX1_letPianosBePlayed_92 : decode cX1_letPianosBePlayed 92 = .ok (.iload_n 2, 1) := by decide +kernel
theorem dX1_letPianosBePlayed_93 : decode cX1_letPianosBePlayed 93 = .ok (.iconst 0, 1) := by decide +kernel
theorem dX1_letPianosBePlayed_94 : decode cX1_letPianosBePlayed 94 = .ok (.aload_n 0, 1) := by decide +kernel
theorem dX1_letPianosBePlayed_95 : decode cX1_letPianosBePlayed 95 = .ok (.getfield 25, 3) := by decide +kernel
theorem dX1_letPianosBePlayed_98 : decode cX1_letPianosBePlayed 98 = .ok (.iload_n 2, 1) := by decide +kernel
theorem dX1_letPianosBePlayed_99 : decode cX1_letPianosBePlayed 99 = .ok (.iaload, 1) := by decide +kernel
theorem dX1_letPianosBePlayed_100 : decode cX1_letPianosBePlayed 100 = .ok (.iconst 1, 1) := by decide +kernel
theorem dX1_letPianosBePlayed_101 : decode cX1_letPianosBePlayed 101 = .ok (.isub, 1) := by decide +kernel
theorem dX1_letPianosBePlayed_102 : decode cX1_letPianosBePlayed 102 = .ok (.invokestatic 155, 3) := by decide +kernel
theorem dX1_letPianosBePlayed_105 : decode cX1_letPianosBePlayed 105 = .ok (.iastore, 1) := by decide +kernel
theorem dX1_letPianosBePlayed_106 : decode cX1_letPianosBePlayed 106 = .ok (.iinc 2 1, 3) := by decide +kernel
theorem dX1_letPianosBePlayed_109 : decode cX1_letPianosBePlayed 109 = .ok (.goto (-86), 3) := by decide +kernel
theorem dX1_letPianosBePlayed_112 : decode cX1_letPianosBePlayed 112 = .ok (.return_, 1) := by decide +kernel
set_option maxRecDepth 20000 in
theorem ggX1_letThievesCome_X2_has : GoodIn wsX1_letThievesCome wsX2_has := goodIn_r _ [7] (by decide +kernel) (by decide +kernel)
set_option maxRecDepth 20000 in
theorem gX1_letThievesCome_X2_has_n87 : GoodIn wsX1_letThievesCome (wsX2_has) := ggX1_letThievesCome_X2_has
set_option maxRecDepth 20000 in
theorem ggX1_letThievesCome_X1_keepersAt : GoodIn wsX1_letThievesCome wsX1_keepersAt := goodIn_r _ [12, 13, 14, 15, 16, 17, 18, 19, 20, 21, 22, 23, 24, 25, 26, 27, 28, 29, 30, 31, 32] (by decide +kernel) (by decide +kernel)
set_option maxRecDepth 20000 in
theorem gX1_letThievesCome_X1_keepersAt : GoodIn wsX1_letThievesCome (wsV RX1 158 RX1 yX1_keepersAt wsX1_keepersAt) := goodIn_app (goodIn_of _ (by decide +kernel)) ggX1_letThievesCome_X1_keepersAt
theorem dX1_letThievesCome_0 : decode cX1_letThievesCome 0 = .ok (.aload_n 0, 1) := by decide +kernel
theorem dX1_letThievesCome_1 : decode cX1_letThievesCome 1 = .ok (.getfield 58, 3) := by decide +kernel
theorem dX1_letThievesCome_4 : decode cX1_letThievesCome 4 = .ok (.bipush 24, 2) := by decide +kernel
theorem dX1_letThievesCome_6 : decode cX1_letThievesCome 6 = .ok (.irem, 1) := by decide +kernel
theorem dX1_letThievesCome_7 : decode cX1_letThievesCome 7 = .ok (.istore_n 1, 1) := by decide +kernel
theorem dX1_letThievesCome_8 : decode cX1_letThievesCome 8 = .ok (.aload_n 0, 1) := by decide +kernel
theorem dX1_letThievesCome_9 : decode cX1_letThievesCome 9 = .ok (.getfield 9, 3) := by decide +kernel
theorem dX1_letThievesCome_12 : decode cX1_letThievesCome 12 = .ok (.bipush 6, 2) := by decide +kernel
theorem dX1_letThievesCome_14 : decode cX1_letThievesCome 14 = .ok (.iaload, 1) := by decide +kernel
theorem dX1_letThievesCome_15 : decode cX1_letThievesCome 15 = .ok (.istore_n 2, 1) := by decide +kernel
theorem dX1_letThievesCome_16 : decode cX1_letThievesCome 16 = .ok (.iload_n 1, 1) := by decide +kernel
theorem dX1_letThievesCome_17 : decode cX1_letThievesCome 17 = .ok (.bipush 22, 2) := by decide +kernel
theorem dX1_letThievesCome_19 : decode cX1_letThievesCome 19 = .ok (.if_icmp .ge 8, 3) := by decide +kernel
theorem dX1_letThievesCome_22 : decode cX1_letThievesCome 22 = .ok (.iload_n 1, 1) := by decide +kernel
theorem dX1_letThievesCome_23 : decode cX1_letThievesCome 23 = .ok (.iconst 5, 1) := by decide +kernel
theorem dX1_letThievesCome_24 : decode cX1_letThievesCome 24 = .ok (.if_icmp .gt 7, 3) := by decide +kernel
theorem dX1_letThievesCome_27 : decode cX1_letThievesCome 27 = .ok (.iconst 1, 1) := by decide +kernel
theorem dX1_letThievesCome_28 : decode cX1_letThievesCome 28 = .ok (.goto 4, 3) := by decide +kernel
theorem dX1_letThievesCome_31 : decode cX1_letThievesCome 31 = .ok (.iconst 0, 1) := by decide +kernel
theorem dX1_letThievesCome_32 : decode cX1_letThievesCome 32 = .ok (.istore_n 3, 1) := by decide +kernel
theorem dX1_letThievesCome_33 : decode cX1_letThievesCome 33 = .ok (.iload_n 3, 1) := by decide +kernel
theorem dX1_letThievesCome_34 : decode cX1_letThievesCome 34 = .ok (.ifCond .eq 8, 3) := by decide +kernel
theorem dX1_letThievesCome_37 : decode cX1_letThievesCome 37 = .ok (.iload_n 2, 1) := by decide +kernel
theorem dX1_letThievesCome_38 : decode cX1_letThievesCome 38 = .ok (.iconst 1, 1) := by decide +kernel
theorem dX1_letThievesCome_39 : decode cX1_letThievesCome 39 = .ok (.if_icmp .ge 4, 3) := by decide +kernel
theorem dX1_letThievesCome_42 : decode cX1_letThievesCome 42 = .ok (.return_, 1) := by decide +kernel
theorem dX1_letThievesCome_43 : decode cX1_letThievesCome 43 = .ok (.iconst 0, 1) := by decide +kernel
theorem dX1_letThievesCome_44 : decode cX1_letThievesCome 44 = .ok (.istore 4, 2) := by decide +kernel
theorem dX1_letThievesCome_46 : decode cX1_letThievesCome 46 = .ok (.iload 4, 2) := by decide +kernel
theorem dX1_letThievesCome_48 : decode cX1_letThievesCome 48 = .ok (.bipush 12, 2) := by decide +kernel
theorem dX1_letThievesCome_50 : decode cX1_letThievesCome 50 = .ok (.if_icmp .ge 84, 3) := by decide +kernel
theorem dX1_letThievesCome_53 : decode cX1_letThievesCome 53 = .ok (.bipush 7, 2) := by decide +kernel
theorem dX1_letThievesCome_55 : decode cX1_letThievesCome 55 = .ok (.aload_n 0, 1) := by decide +kernel
theorem dX1_letThievesCome_56 : decode cX1_letThievesCome 56 = .ok (.getfield 58, 3) := by decide +kernel
theorem dX1_letThievesCome_59 : decode cX1_letThievesCome 59 = .ok (.imul, 1) := by decide +kernel
theorem dX1_letThievesCome_60 : decode cX1_letThievesCome 60 = .ok (.iconst 3, 1) := by decide +kernel
theorem dX1_letThievesCome_61 : decode cX1_letThievesCome 61 = .ok (.iload 4, 2) := by decide +kernel
theorem dX1_letThievesCome_63 : decode cX1_letThievesCome 63 = .ok (.imul, 1) := by decide +kernel
theorem dX1_letThievesCome_64 : decode cX1_letThievesCome 64 = .ok (.iadd, 1) := by decide +kernel
theorem dX1_letThievesCome_65 : decode cX1_letThievesCome 65 = .ok (.iload_n 2, 1) := by decide +kernel
theorem dX1_letThievesCome_66 : decode cX1_letThievesCome 66 = .ok (.irem, 1) := by decide +kernel
theorem dX1_letThievesCome_67 : decode cX1_letThievesCome 67 = .ok (.ifCond .ne 7, 3) := by decide +kernel
theorem dX1_letThievesCome_70 : decode cX1_letThievesCome 70 = .ok (.iconst 1, 1) := by decide +kernel
theorem dX1_letThievesCome_71 : decode cX1_letThievesCome 71 = .ok (.goto 4, 3) := by decide +kernel
theorem dX1_letThievesCome_74 : decode cX1_letThievesCome 74 = .ok (.iconst 0, 1) := by decide +kernel
theorem dX1_letThievesCome_75 : decode cX1_letThievesCome 75 = .ok (.istore 5, 2) := by decide +kernel
theorem dX1_letThievesCome_77 : decode cX1_letThievesCome 77 = .ok (.iload 5, 2) := by decide +kernel
theorem dX1_letThievesCome_79 : decode cX1_letThievesCome 79 = .ok (.ifCond .eq 49, 3) := by decide +kernel
theorem dX1_letThievesCome_82 : decode cX1_letThievesCome 82 = .ok (.aload_n 0, 1) := by decide +kernel
theorem dX1_letThievesCome_83 : decode cX1_letThievesCome 83 = .ok (.getfield 19, 3) := by decide +kernel
theorem dX1_letThievesCome_86 : decode cX1_letThievesCome 86 = .ok (.iload 4, 2) := by decide +kernel
theorem dX1_letThievesCome_88 : decode cX1_letThievesCome 88 = .ok (.invokestatic 87, 3) := by decide +kernel
theorem dX1_letThievesCome_91 : decode cX1_letThievesCome 91 = .ok (.ifCond .eq 37, 3) := by decide +kernel
theorem dX1_letThievesCome_94 : decode cX1_letThievesCome 94 = .ok (.aload_n 0, 1) := by decide +kernel
theorem dX1_letThievesCome_95 : decode cX1_letThievesCome 95 = .ok (.iload 4, 2) := by decide +kernel
theorem dX1_letThievesCome_97 : decode cX1_letThievesCome 97 = .ok (.invokevirtual 158, 3) := by decide +kernel
theorem dX1_letThievesCome_100 : decode cX1_letThievesCome 100 = .ok (.ifCond .ne 28, 3) := by decide +kernel
theorem dX1_letThievesCome_103 : decode cX1_letThievesCome 103 = .ok (.aload_n 0, 1) := by decide +kernel
theorem dX1_letThievesCome_104 : decode cX1_letThievesCome 104 = .ok (.dup, 1) := by decide +kernel
theorem dX1_letThievesCome_105 : decode cX1_letThievesCome 105 = .ok (.getfield 19, 3) := by decide +kernel
theorem dX1_letThievesCome_108 : decode cX1_letThievesCome 108 = .ok (.iconst 1, 1) := by decide +kernel
theorem dX1_letThievesCome_109 : decode cX1_letThievesCome 109 = .ok (.iload 4, 2) := by decide +kernel
theorem dX1_letThievesCome_111 : decode cX1_letThievesCome 111 = .ok (.ishl, 1) := by decide +kernel
theorem dX1_letThievesCome_112 : decode cX1_letThievesCome 112 = .ok (.iconst (-1), 1) := by decide +kernel
theorem dX1_letThievesCome_113 : decode cX1_letThievesCome 113 = .ok (.ixor, 1) := by decide +kernel
theorem dX1_letThievesCome_114 : decode cX1_letThievesCome 114 = .ok (.iand, 1) := by decide +kernel
theorem dX1_letThievesCome_115 : decode cX1_letThievesCome 115 = .ok (.putfield 19, 3) := by decide +kernel
theorem dX1_letThievesCome_118 : decode cX1_letThievesCome 118 = .ok (.aload_n 0, 1) := by decide +kernel
theorem dX1_letThievesCome_119 : decode cX1_letThievesCome 119 = .ok (.dup, 1) := by decide +kernel
theorem dX1_letThievesCome_120 : decode cX1_letThievesCome 120 = .ok (.getfield 64, 3) := by decide +kernel
theorem dX1_letThievesCome_123 : decode cX1_letThievesCome 123 = .ok (.iconst 1, 1) := by decide +kernel
theorem dX1_letThievesCome_124 : decode cX1_letThievesCome 124 = .ok (.iadd, 1) := by decide +kernel
theorem dX1_letThievesCome_125 : decode cX1_letThievesCome 125 = .ok (.putfield 64, 3) := by decide +kernel
theorem dX1_letThievesCome_128 : decode cX1_letThievesCome 128 = .ok (.iinc 4 1, 3) := by decide +kernel
theorem dX1_letThievesCome_131 : decode cX1_letThievesCome 131 = .ok (.goto (-85), 3) := by decide +kernel
theorem dX1_letThievesCome_134 : decode cX1_letThievesCome 134 = .ok (.return_, 1) := by decide +kernel
set_option maxRecDepth 20000 in
theorem ggX2_init_X1_init : GoodIn wsX2_init wsX1_init := goodIn_r _ [20, 21, 2, 3, 22, 23, 24, 25, 26, 27, 28, 29, 30, 31, 32, 33, 34, 35, 36, 37, 38, 39, 40, 41, 42, 43, 44, 57, 58, 59, 60, 61, 62, 63, 64, 65, 66, 67, 68, 69, 70, 71, 72, 73, 74] (by decide +kernel) (by decide +kernel)
set_option maxRecDepth 20000 in
theorem gX2_init_X1_init_n9 : GoodIn wsX2_init (wsX1_init) := ggX2_init_X1_init
set_option maxRecDepth 20000 in
theorem ggX2_init_X0_init : GoodIn wsX2_init wsX0_init := goodIn_r _ [46, 47, 2, 3, 48, 49, 50, 51, 52, 53, 54, 55, 56, 83, 84, 85, 86, 87, 88, 89, 90] (by decide +kernel) (by decide +kernel)
set_option maxRecDepth 20000 in
theorem gX2_init_X0_init_n39 : GoodIn wsX2_init (wsX0_init) := ggX2_init_X0_init
theorem dX2_init_0 : decode cX2_init 0 = .ok (.aload_n 0, 1) := by decide +kernel
theorem dX2_init_1 : decode cX2_init 1 = .ok (.invokespecial 1, 3) := by decide +kernel
theorem dX2_init_4 : decode cX2_init 4 = .ok (.aload_n 0, 1) := by decide +kernel
theorem dX2_init_5 : decode cX2_init 5 = .ok (.new 7, 3) := by decide +kernel
theorem dX2_init_8 : decode cX2_init 8 = .ok (.dup, 1) := by decide +kernel
theorem dX2_init_9 : decode cX2_init 9 = .ok (.invokespecial 9, 3) := by decide +kernel
theorem dX2_init_12 : decode cX2_init 12 = .ok (.putfield 10, 3) := by decide +kernel
theorem dX2_init_15 : decode cX2_init 15 = .ok (.aload_n 0, 1) := by decide +kernel
theorem dX2_init_16 : decode cX2_init 16 = .ok (.new 7, 3) := by decide +kernel
theorem dX2_init_19 : decode cX2_init 19 = .ok (.dup, 1) := by decide +kernel
theorem dX2_init_20 : decode cX2_init 20 = .ok (.invokespecial 9, 3) := by decide +kernel
theorem dX2_init_23 : decode cX2_init 23 = .ok (.putfield 16, 3) := by decide +kernel
theorem dX2_init_26 : decode cX2_init 26 = .ok (.aload_n 0, 1) := by decide +kernel
theorem dX2_init_27 : decode cX2_init 27 = .ok (.new 7, 3) := by decide +kernel
theorem dX2_init_30 : decode cX2_init 30 = .ok (.dup, 1) := by decide +kernel
theorem dX2_init_31 : decode cX2_init 31 = .ok (.invokespecial 9, 3) := by decide +kernel
theorem dX2_init_34 : decode cX2_init 34 = .ok (.putfield 19, 3) := by decide +kernel
theorem dX2_init_37 : decode cX2_init 37 = .ok (.aload_n 0, 1) := by decide +kernel
theorem dX2_init_38 : decode cX2_init 38 = .ok (.bipush 6, 2) := by decide +kernel
theorem dX2_init_40 : decode cX2_init 40 = .ok (.anewarray 7, 3) := by decide +kernel
theorem dX2_init_43 : decode cX2_init 43 = .ok (.putfield 22, 3) := by decide +kernel
theorem dX2_init_46 : decode cX2_init 46 = .ok (.aload_n 0, 1) := by decide +kernel
theorem dX2_init_47 : decode cX2_init 47 = .ok (.iconst 0, 1) := by decide +kernel
theorem dX2_init_48 : decode cX2_init 48 = .ok (.putfield 26, 3) := by decide +kernel
theorem dX2_init_51 : decode cX2_init 51 = .ok (.aload_n 0, 1) := by decide +kernel
theorem dX2_init_52 : decode cX2_init 52 = .ok (.iconst 2, 1) := by decide +kernel
theorem dX2_init_53 : decode cX2_init 53 = .ok (.anewarray 7, 3) := by decide +kernel
theorem dX2_init_56 : decode cX2_init 56 = .ok (.putfield 30, 3) := by decide +kernel
theorem dX2_init_59 : decode cX2_init 59 = .ok (.aload_n 0, 1) := by decide +kernel
theorem dX2_init_60 : decode cX2_init 60 = .ok (.iconst 2, 1) := by decide +kernel
theorem dX2_init_61 : decode cX2_init 61 = .ok (.newarray .boolean, 2) := by decide +kernel
theorem dX2_init_63 : decode cX2_init 63 = .ok (.putfield 33, 3) := by decide +kernel
theorem dX2_init_66 : decode cX2_init 66 = .ok (.aload_n 0, 1) := by decide +kernel
theorem dX2_init_67 : decode cX2_init 67 = .ok (.new 37, 3) := by decide +kernel
theorem dX2_init_70 : decode cX2_init 70 = .ok (.dup, 1) := by decide +kernel
theorem dX2_init_71 : decode cX2_init 71 = .ok (.invokespecial 39, 3) := by decide +kernel
theorem dX2_init_74 : decode cX2_init 74 = .ok (.putfield 40, 3) := by decide +kernel
theorem dX2_init_77 : decode cX2_init 77 = .ok (.iconst 0, 1) := by decide +kernel
theorem dX2_init_78 : decode cX2_init 78 = .ok (.istore_n 1, 1) := by decide +kernel
theorem dX2_init_79 : decode cX2_init 79 = .ok (.iload_n 1, 1) := by decide +kernel
theorem dX2_init_80 : decode cX2_init 80 = .ok (.bipush 6, 2) := by decide +kernel
theorem dX2_init_82 : decode cX2_init 82 = .ok (.if_icmp .ge 22, 3) := by decide +kernel
theorem dX2_init_85 : decode cX2_init 85 = .ok (.aload_n 0, 1) := by decide +kernel
theorem dX2_init_86 : decode cX2_init 86 = .ok (.getfield 22, 3) := by decide +kernel
theorem dX2_init_89 : decode cX2_init 89 = .ok (.iload_n 1, 1) := by decide +kernel
theorem dX2_init_90 : decode cX2_init 90 = .ok (.new 7, 3) := by decide +kernel
theorem dX2_init_93 : decode cX2_init 93 = .ok (.dup, 1) := by decide +kernel
theorem dX2_init_94 : decode cX2_init 94 = .ok (.invokespecial 9, 3) := by decide +kernel
theorem dX2_init_97 : decode cX2_init 97 = .ok (.aastore, 1) := by decide +kernel
theorem dX2_init_98 : decode cX2_init 98 = .ok (.iinc 1 1, 3) := by decide +kernel
theorem dX2_init_101 : decode cX2_init 101 = .ok (.goto (-22), 3) := by decide +kernel
theorem dX2_init_104 : decode cX2_init 104 = .ok (.iconst 0, 1) := by decide +kernel
theorem dX2_init_105 : decode cX2_init 105 = .ok (.istore_n 1, 1) := by decide +kernel
theorem dX2_init_106 : decode cX2_init 106 = .ok (.iload_n 1, 1) := by decide +kernel
theorem dX2_init_107 : decode cX2_init 107 = .ok (.iconst 2, 1) := by decide +kernel
theorem dX2_init_108 : decode cX2_init 108 = .ok (.if_icmp .ge 22, 3) := by decide +kernel
theorem dX2_init_111 : decode cX2_init 111 = .ok (.aload_n 0, 1) := by decide +kernel
theorem dX2_init_112 : decode cX2_init 112 = .ok (.getfield 30, 3) := by decide +kernel
theorem dX2_init_115 : decode cX2_init 115 = .ok (.iload_n 1, 1) := by decide +kernel
theorem dX2_init_116 : decode cX2_init 116 = .ok (.new 7, 3) := by decide +kernel
theorem dX2_init_119 : decode cX2_init 119 = .ok (.dup, 1) := by decide +kernel
theorem dX2_init_120 : decode cX2_init 120 = .ok (.invokespecial 9, 3) := by decide +kernel
theorem dX2_init_123 : decode cX2_init 123 = .ok (.aastore, 1) := by decide +kernel
theorem dX2_init_124 : decode cX2_init 124 = .ok (.iinc 1 1, 3) := by decide +kernel
theorem dX2_init_127 : decode cX2_init 127 = .ok (.goto (-21), 3) := by decide +kernel
theorem dX2_init_130 : decode cX2_init 130 = .ok (.return_, 1) := by decide +kernel
set_option maxRecDepth 20000 in
theorem ggX2_set_X2_copy : GoodIn wsX2_set wsX2_copy := goodIn_r _ [6, 7, 8, 9, 10, 34, 35, 36, 37, 38, 39, 40, 41, 42, 43, 44, 45, 46, 47, 48, 49, 50, 51] (by decide +kernel) (by decide +kernel)
set_option maxRecDepth 20000 in
theorem gX2_set_X2_copy : GoodIn wsX2_set (va_wsS RX2 44 yX2_copy wsX2_copy) := goodIn_app (goodIn_of _ (by decide +kernel)) ggX2_set_X2_copy
set_option maxRecDepth 20000 in
theorem ggX2_set_X1_changeSetting : GoodIn wsX2_set wsX1_changeSetting := goodIn_r _ [14, 15, 34, 35, 36, 37, 38, 39, 40, 41, 42, 43, 44, 45, 46, 47, 48, 49, 50, 51] (by decide +kernel) (by decide +kernel)
set_option maxRecDepth 20000 in
theorem gX2_set_X1_changeSetting_n48 : GoodIn wsX2_set (wsX1_changeSetting) := ggX2_set_X1_changeSetting
set_option maxRecDepth 20000 in
theorem ggX2_set_X2_recorded : GoodIn wsX2_set wsX2_recorded := goodIn_r _ [19, 20, 2, 21, 22, 23, 24, 5, 25, 3, 4, 6, 7, 8, 9, 10, 26, 27, 28, 29, 30, 31, 32, 33, 34, 35, 36, 37, 38, 39, 40, 41, 42, 43, 44, 45, 46, 47, 48, 49, 50, 51] (by decide +kernel) (by decide +kernel)
set_option maxRecDepth 20000 in
theorem gX2_set_X2_recorded : GoodIn wsX2_set (wsV RX2 52 RX2 yX2_recorded wsX2_recorded) := goodIn_app (goodIn_of _ (by decide +kernel)) ggX2_set_X2_recorded
theorem dX2_set_0 : decode cX2_set 0 = .ok (.aload_n 0, 1) := by decide +kernel
theorem dX2_set_1 : decode cX2_set 1 = .ok (.getfield 10, 3) := by decide +kernel
theorem dX2_set_4 : decode cX2_set 4 = .ok (.aload_n 0, 1) := by decide +kernel
theorem dX2_set_5 : decode cX2_set 5 = .ok (.getfield 16, 3) := by decide +kernel
theorem dX2_set_8 : decode cX2_set 8 = .ok (.invokestatic 44, 3) := by decide +kernel
theorem dX2_set_11 : decode cX2_set 11 = .ok (.aload_n 0, 1) := by decide +kernel
theorem dX2_set_12 : decode cX2_set 12 = .ok (.aload_n 0, 1) := by decide +kernel
theorem dX2_set_13 : decode cX2_set 13 = .ok (.getfield 10, 3) := by decide +kernel
theorem dX2_set_16 : decode cX2_set 16 = .ok (.iload_n 1, 1) := by decide +kernel
theorem dX2_set_17 : decode cX2_set 17 = .ok (.iload_n 2, 1) := by decide +kernel
theorem dX2_set_18 : decode cX2_set 18 = .ok (.invokevirtual 48, 3) := by decide +kernel
theorem dX2_set_21 : decode cX2_set 21 = .ok (.invokevirtual 52, 3) := by decide +kernel
theorem dX2_set_24 : decode cX2_set 24 = .ok (.ireturn, 1) := by decide +kernel
set_option maxRecDepth 20000 in
theorem ggX2_rain_X2_copy : GoodIn wsX2_rain wsX2_copy := goodIn_r _ [6, 7, 8, 9, 10, 35, 36, 37, 38, 39, 40, 41, 42, 43, 44, 45, 46, 47, 48, 49, 50, 51, 52] (by decide +kernel) (by decide +kernel)
set_option maxRecDepth 20000 in
theorem gX2_rain_X2_copy : GoodIn wsX2_rain (va_wsS RX2 44 yX2_copy wsX2_copy) := goodIn_app (goodIn_of _ (by decide +kernel)) ggX2_rain_X2_copy
set_option maxRecDepth 20000 in
theorem ggX2_rain_X1_changeRain : GoodIn wsX2_rain wsX1_changeRain := goodIn_r _ [14, 15, 16, 35, 36, 37, 38, 39, 40, 41, 42, 43, 44, 45, 46, 47, 48, 49, 50, 51, 52] (by decide +kernel) (by decide +kernel)
set_option maxRecDepth 20000 in
theorem gX2_rain_X1_changeRain_n56 : GoodIn wsX2_rain (wsX1_changeRain) := ggX2_rain_X1_changeRain
set_option maxRecDepth 20000 in
theorem ggX2_rain_X2_recorded : GoodIn wsX2_rain wsX2_recorded := goodIn_r _ [20, 21, 2, 22, 23, 24, 25, 5, 26, 3, 4, 6, 7, 8, 9, 10, 27, 28, 29, 30, 31, 32, 33, 34, 35, 36, 37, 38, 39, 40, 41, 42, 43, 44, 45, 46, 47, 48, 49, 50, 51, 52] (by decide +kernel) (by decide +kernel)
set_option maxRecDepth 20000 in
theorem gX2_rain_X2_recorded : GoodIn wsX2_rain (wsV RX2 52 RX2 yX2_recorded wsX2_recorded) := goodIn_app (goodIn_of _ (by decide +kernel)) ggX2_rain_X2_recorded
theorem dX2_rain_0 : decode cX2_rain 0 = .ok (.aload_n 0, 1) := by decide +kernel
theorem dX2_rain_1 : decode cX2_rain 1 = .ok (.getfield 10, 3) := by decide +kernel
theorem dX2_rain_4 : decode cX2_rain 4 = .ok (.aload_n 0, 1) := by decide +kernel
theorem dX2_rain_5 : decode cX2_rain 5 = .ok (.getfield 16, 3) := by decide +kernel
theorem dX2_rain_8 : decode cX2_rain 8 = .ok (.invokestatic 44, 3) := by decide +kernel
theorem dX2_rain_11 : decode cX2_rain 11 = .ok (.aload_n 0, 1) := by decide +kernel
theorem dX2_rain_12 : decode cX2_rain 12 = .ok (.aload_n 0, 1) := by decide +kernel
theorem dX2_rain_13 : decode cX2_rain 13 = .ok (.getfield 10, 3) := by decide +kernel
theorem dX2_rain_16 : decode cX2_rain 16 = .ok (.iload_n 1, 1) := by decide +kernel
theorem dX2_rain_17 : decode cX2_rain 17 = .ok (.invokevirtual 56, 3) := by decide +kernel
theorem dX2_rain_20 : decode cX2_rain 20 = .ok (.invokevirtual 52, 3) := by decide +kernel
theorem dX2_rain_23 : decode cX2_rain 23 = .ok (.ireturn, 1) := by decide +kernel
set_option maxRecDepth 20000 in
theorem ggX2_piano_X2_copy : GoodIn wsX2_piano wsX2_copy := goodIn_r _ [6, 7, 8, 9, 10, 50, 51, 52, 53, 54, 55, 56, 57, 58, 59, 60, 61, 62, 63, 64, 65, 66, 67] (by decide +kernel) (by decide +kernel)
set_option maxRecDepth 20000 in
theorem gX2_piano_X2_copy : GoodIn wsX2_piano (va_wsS RX2 44 yX2_copy wsX2_copy) := goodIn_app (goodIn_of _ (by decide +kernel)) ggX2_piano_X2_copy
set_option maxRecDepth 20000 in
theorem ggX2_piano_X1_addPiano : GoodIn wsX2_piano wsX1_addPiano := goodIn_r _ [14, 15, 16, 17, 18, 19, 20, 21, 5, 22, 23, 24, 25, 26, 27, 28, 29, 30, 31, 50, 51, 52, 53, 54, 55, 56, 57, 58, 59, 60, 61, 62, 63, 64, 65, 66, 67] (by decide +kernel) (by decide +kernel)
set_option maxRecDepth 20000 in
theorem gX2_piano_X1_addPiano_n59 : GoodIn wsX2_piano (wsX1_addPiano) := ggX2_piano_X1_addPiano
set_option maxRecDepth 20000 in
theorem ggX2_piano_X2_recorded : GoodIn wsX2_piano wsX2_recorded := goodIn_r _ [35, 36, 2, 37, 38, 39, 40, 5, 41, 3, 4, 6, 7, 8, 9, 10, 42, 43, 44, 45, 46, 47, 48, 49, 50, 51, 52, 53, 54, 55, 56, 57, 58, 59, 60, 61, 62, 63, 64, 65, 66, 67] (by decide +kernel) (by decide +kernel)
set_option maxRecDepth 20000 in
theorem gX2_piano_X2_recorded : GoodIn wsX2_piano (wsV RX2 52 RX2 yX2_recorded wsX2_recorded) := goodIn_app (goodIn_of _ (by decide +kernel)) ggX2_piano_X2_recorded
theorem dX2_piano_0 : decode cX2_piano 0 = .ok (.aload_n 0, 1) := by decide +kernel
theorem dX2_piano_1 : decode cX2_piano 1 = .ok (.getfield 10, 3) := by decide +kernel
theorem dX2_piano_4 : decode cX2_piano 4 = .ok (.aload_n 0, 1) := by decide +kernel
theorem dX2_piano_5 : decode cX2_piano 5 = .ok (.getfield 16, 3) := by decide +kernel
theorem dX2_piano_8 : decode cX2_piano 8 = .ok (.invokestatic 44, 3) := by decide +kernel
theorem dX2_piano_11 : decode cX2_piano 11 = .ok (.aload_n 0, 1) := by decide +kernel
theorem dX2_piano_12 : decode cX2_piano 12 = .ok (.aload_n 0, 1) := by decide +kernel
theorem dX2_piano_13 : decode cX2_piano 13 = .ok (.getfield 10, 3) := by decide +kernel
theorem dX2_piano_16 : decode cX2_piano 16 = .ok (.iload_n 1, 1) := by decide +kernel
theorem dX2_piano_17 : decode cX2_piano 17 = .ok (.iload_n 2, 1) := by decide +kernel
theorem dX2_piano_18 : decode cX2_piano 18 = .ok (.invokevirtual 59, 3) := by decide +kernel
theorem dX2_piano_21 : decode cX2_piano 21 = .ok (.invokevirtual 52, 3) := by decide +kernel
theorem dX2_piano_24 : decode cX2_piano 24 = .ok (.ireturn, 1) := by decide +kernel
set_option maxRecDepth 20000 in
theorem ggX2_take_X2_copy : GoodIn wsX2_take wsX2_copy := goodIn_r _ [6, 7, 8, 9, 10, 45, 46, 47, 48, 49, 50, 51, 52, 53, 54, 55, 56, 57, 58, 59, 60, 61, 62] (by decide +kernel) (by decide +kernel)
set_option maxRecDepth 20000 in
theorem gX2_take_X2_copy : GoodIn wsX2_take (va_wsS RX2 44 yX2_copy wsX2_copy) := goodIn_app (goodIn_of _ (by decide +kernel)) ggX2_take_X2_copy
set_option maxRecDepth 20000 in
theorem ggX2_take_X1_removePiano : GoodIn wsX2_take wsX1_removePiano := goodIn_r _ [14, 15, 16, 17, 18, 5, 19, 20, 21, 22, 23, 24, 25, 26, 45, 46, 47, 48, 49, 50, 51, 52, 53, 54, 55, 56, 57, 58, 59, 60, 61, 62] (by decide +kernel) (by decide +kernel)
set_option maxRecDepth 20000 in
theorem gX2_take_X1_removePiano_n62 : GoodIn wsX2_take (wsX1_removePiano) := ggX2_take_X1_removePiano
set_option maxRecDepth 20000 in
theorem ggX2_take_X2_recorded : GoodIn wsX2_take wsX2_recorded := goodIn_r _ [30, 31, 2, 32, 33, 34, 35, 5, 36, 3, 4, 6, 7, 8, 9, 10, 37, 38, 39, 40, 41, 42, 43, 44, 45, 46, 47, 48, 49, 50, 51, 52, 53, 54, 55, 56, 57, 58, 59, 60, 61, 62] (by decide +kernel) (by decide +kernel)
set_option maxRecDepth 20000 in
theorem gX2_take_X2_recorded : GoodIn wsX2_take (wsV RX2 52 RX2 yX2_recorded wsX2_recorded) := goodIn_app (goodIn_of _ (by decide +kernel)) ggX2_take_X2_recorded
theorem dX2_take_0 : decode cX2_take 0 = .ok (.aload_n 0, 1) := by decide +kernel
theorem dX2_take_1 : decode cX2_take 1 = .ok (.getfield 10, 3) := by decide +kernel
theorem dX2_take_4 : decode cX2_take 4 = .ok (.aload_n 0, 1) := by decide +kernel
theorem dX2_take_5 : decode cX2_take 5 = .ok (.getfield 16, 3) := by decide +kernel
theorem dX2_take_8 : decode cX2_take 8 = .ok (.invokestatic 44, 3) := by decide +kernel
theorem dX2_take_11 : decode cX2_take 11 = .ok (.aload_n 0, 1) := by decide +kernel
theorem dX2_take_12 : decode cX2_take 12 = .ok (.aload_n 0, 1) := by decide +kernel
theorem dX2_take_13 : decode cX2_take 13 = .ok (.getfield 10, 3) := by decide +kernel
theorem dX2_take_16 : decode cX2_take 16 = .ok (.iload_n 1, 1) := by decide +kernel
theorem dX2_take_17 : decode cX2_take 17 = .ok (.invokevirtual 62, 3) := by decide +kernel
theorem dX2_take_20 : decode cX2_take 20 = .ok (.invokevirtual 52, 3) := by decide +kernel
theorem dX2_take_23 : decode cX2_take 23 = .ok (.ireturn, 1) := by decide +kernel
set_option maxRecDepth 20000 in
theorem ggX2_keeper_X2_copy : GoodIn wsX2_keeper wsX2_copy := goodIn_r _ [6, 7, 8, 9, 10, 45, 46, 47, 48, 49, 50, 51, 52, 53, 54, 55, 56, 57, 58, 59, 60, 61, 62] (by decide +kernel) (by decide +kernel)
set_option maxRecDepth 20000 in
theorem gX2_keeper_X2_copy : GoodIn wsX2_keeper (va_wsS RX2 44 yX2_copy wsX2_copy) := goodIn_app (goodIn_of _ (by decide +kernel)) ggX2_keeper_X2_copy
set_option maxRecDepth 20000 in
theorem ggX2_keeper_X1_hireKeeper : GoodIn wsX2_keeper wsX1_hireKeeper := goodIn_r _ [14, 15, 16, 5, 17, 18, 19, 20, 12, 21, 22, 23, 24, 25, 26, 45, 46, 47, 48, 49, 50, 51, 52, 53, 54, 55, 56, 57, 58, 59, 60, 61, 62] (by decide +kernel) (by decide +kernel)
set_option maxRecDepth 20000 in
theorem gX2_keeper_X1_hireKeeper_n65 : GoodIn wsX2_keeper (wsX1_hireKeeper) := ggX2_keeper_X1_hireKeeper
set_option maxRecDepth 20000 in
theorem ggX2_keeper_X2_recorded : GoodIn wsX2_keeper wsX2_recorded := goodIn_r _ [30, 31, 2, 32, 33, 34, 35, 5, 36, 3, 4, 6, 7, 8, 9, 10, 37, 38, 39, 40, 41, 42, 43, 44, 45, 46, 47, 48, 49, 50, 51, 52, 53, 54, 55, 56, 57, 58, 59, 60, 61, 62] (by decide +kernel) (by decide +kernel)
set_option maxRecDepth 20000 in
theorem gX2_keeper_X2_recorded : GoodIn wsX2_keeper (wsV RX2 52 RX2 yX2_recorded wsX2_recorded) := goodIn_app (goodIn_of _ (by decide +kernel)) ggX2_keeper_X2_recorded
theorem dX2_keeper_0 : decode cX2_keeper 0 = .ok (.aload_n 0, 1) := by decide +kernel
theorem dX2_keeper_1 : decode cX2_keeper 1 = .ok (.getfield 10, 3) := by decide +kernel
theorem dX2_keeper_4 : decode cX2_keeper 4 = .ok (.aload_n 0, 1) := by decide +kernel
theorem dX2_keeper_5 : decode cX2_keeper 5 = .ok (.getfield 16, 3) := by decide +kernel
theorem dX2_keeper_8 : decode cX2_keeper 8 = .ok (.invokestatic 44, 3) := by decide +kernel
theorem dX2_keeper_11 : decode cX2_keeper 11 = .ok (.aload_n 0, 1) := by decide +kernel
theorem dX2_keeper_12 : decode cX2_keeper 12 = .ok (.aload_n 0, 1) := by decide +kernel
theorem dX2_keeper_13 : decode cX2_keeper 13 = .ok (.getfield 10, 3) := by decide +kernel
theorem dX2_keeper_16 : decode cX2_keeper 16 = .ok (.iload_n 1, 1) := by decide +kernel
theorem dX2_keeper_17 : decode cX2_keeper 17 = .ok (.invokevirtual 65, 3) := by decide +kernel
theorem dX2_keeper_20 : decode cX2_keeper 20 = .ok (.invokevirtual 52, 3) := by decide +kernel
theorem dX2_keeper_23 : decode cX2_keeper 23 = .ok (.ireturn, 1) := by decide +kernel
set_option maxRecDepth 20000 in
theorem ggX2_cover_X2_copy : GoodIn wsX2_cover wsX2_copy := goodIn_r _ [6, 7, 8, 9, 10, 45, 46, 47, 48, 49, 50, 51, 52, 53, 54, 55, 56, 57, 58, 59, 60, 61, 62] (by decide +kernel) (by decide +kernel)
set_option maxRecDepth 20000 in
theorem gX2_cover_X2_copy : GoodIn wsX2_cover (va_wsS RX2 44 yX2_copy wsX2_copy) := goodIn_app (goodIn_of _ (by decide +kernel)) ggX2_cover_X2_copy
set_option maxRecDepth 20000 in
theorem ggX2_cover_X1_layCover : GoodIn wsX2_cover wsX1_layCover := goodIn_r _ [14, 15, 16, 17, 18, 5, 19, 20, 21, 22, 23, 24, 25, 26, 45, 46, 47, 48, 49, 50, 51, 52, 53, 54, 55, 56, 57, 58, 59, 60, 61, 62] (by decide +kernel) (by decide +kernel)
set_option maxRecDepth 20000 in
theorem gX2_cover_X1_layCover_n68 : GoodIn wsX2_cover (wsX1_layCover) := ggX2_cover_X1_layCover
set_option maxRecDepth 20000 in
theorem ggX2_cover_X2_recorded : GoodIn wsX2_cover wsX2_recorded := goodIn_r _ [30, 31, 2, 32, 33, 34, 35, 5, 36, 3, 4, 6, 7, 8, 9, 10, 37, 38, 39, 40, 41, 42, 43, 44, 45, 46, 47, 48, 49, 50, 51, 52, 53, 54, 55, 56, 57, 58, 59, 60, 61, 62] (by decide +kernel) (by decide +kernel)
set_option maxRecDepth 20000 in
theorem gX2_cover_X2_recorded : GoodIn wsX2_cover (wsV RX2 52 RX2 yX2_recorded wsX2_recorded) := goodIn_app (goodIn_of _ (by decide +kernel)) ggX2_cover_X2_recorded
theorem dX2_cover_0 : decode cX2_cover 0 = .ok (.aload_n 0, 1) := by decide +kernel
theorem dX2_cover_1 : decode cX2_cover 1 = .ok (.getfield 10, 3) := by decide +kernel
theorem dX2_cover_4 : decode cX2_cover 4 = .ok (.aload_n 0, 1) := by decide +kernel
theorem dX2_cover_5 : decode cX2_cover 5 = .ok (.getfield 16, 3) := by decide +kernel
theorem dX2_cover_8 : decode cX2_cover 8 = .ok (.invokestatic 44, 3) := by decide +kernel
theorem dX2_cover_11 : decode cX2_cover 11 = .ok (.aload_n 0, 1) := by decide +kernel
theorem dX2_cover_12 : decode cX2_cover 12 = .ok (.aload_n 0, 1) := by decide +kernel
theorem dX2_cover_13 : decode cX2_cover 13 = .ok (.getfield 10, 3) := by decide +kernel
theorem dX2_cover_16 : decode cX2_cover 16 = .ok (.iload_n 1, 1) := by decide +kernel
theorem dX2_cover_17 : decode cX2_cover 17 = .ok (.invokevirtual 68, 3) := by decide +kernel
theorem dX2_cover_20 : decode cX2_cover 20 = .ok (.invokevirtual 52, 3) := by decide +kernel
theorem dX2_cover_23 : decode cX2_cover 23 = .ok (.ireturn, 1) := by decide +kernel
set_option maxRecDepth 20000 in
theorem ggX2_pass_X2_copy : GoodIn wsX2_pass wsX2_copy := goodIn_r _ [6, 7, 8, 9, 10, 123, 124, 125, 126, 127, 128, 129, 130, 131, 132, 133, 134, 135, 136, 137, 138, 139, 140] (by decide +kernel) (by decide +kernel)
set_option maxRecDepth 20000 in
theorem gX2_pass_X2_copy : GoodIn wsX2_pass (va_wsS RX2 44 yX2_copy wsX2_copy) := goodIn_app (goodIn_of _ (by decide +kernel)) ggX2_pass_X2_copy
set_option maxRecDepth 20000 in
theorem ggX2_pass_X1_passCounted : GoodIn wsX2_pass wsX1_passCounted := goodIn_r _ [14, 15, 16, 17, 18, 12, 19, 20, 21, 22, 23, 24, 25, 26, 27, 28, 29, 30, 31, 32, 33, 34, 35, 36, 37, 38, 39, 40, 41, 42, 5, 43, 44, 45, 46, 47, 48, 49, 50, 51, 52, 53, 54, 55, 56, 57, 58, 59, 60, 61, 62, 63, 64, 65, 66, 67, 68, 69, 70, 71, 72, 73, 74, 75, 76, 77, 78, 79, 80, 81, 82, 83, 84, 85, 86, 87, 88, 89, 90, 91, 92, 93, 94, 95, 96, 97, 98, 99, 100, 101, 102, 103, 104, 123, 124, 125, 126, 127, 128, 129, 130, 131, 132, 133, 134, 135, 136, 137, 138, 139, 140] (by decide +kernel) (by decide +kernel)
set_option maxRecDepth 20000 in
theorem gX2_pass_X1_passCounted_n71 : GoodIn wsX2_pass (wsX1_passCounted) := ggX2_pass_X1_passCounted
set_option maxRecDepth 20000 in
theorem ggX2_pass_X2_recorded : GoodIn wsX2_pass wsX2_recorded := goodIn_r _ [108, 109, 2, 110, 111, 112, 113, 5, 114, 3, 4, 6, 7, 8, 9, 10, 115, 116, 117, 118, 119, 120, 121, 122, 123, 124, 125, 126, 127, 128, 129, 130, 131, 132, 133, 134, 135, 136, 137, 138, 139, 140] (by decide +kernel) (by decide +kernel)
set_option maxRecDepth 20000 in
theorem gX2_pass_X2_recorded : GoodIn wsX2_pass (wsV RX2 52 RX2 yX2_recorded wsX2_recorded) := goodIn_app (goodIn_of _ (by decide +kernel)) ggX2_pass_X2_recorded
theorem dX2_pass_0 : decode cX2_pass 0 = .ok (.aload_n 0, 1) := by decide +kernel
theorem dX2_pass_1 : decode cX2_pass 1 = .ok (.getfield 10, 3) := by decide +kernel
theorem dX2_pass_4 : decode cX2_pass 4 = .ok (.aload_n 0, 1) := by decide +kernel
theorem dX2_pass_5 : decode cX2_pass 5 = .ok (.getfield 16, 3) := by decide +kernel
theorem dX2_pass_8 : decode cX2_pass 8 = .ok (.invokestatic 44, 3) := by decide +kernel
theorem dX2_pass_11 : decode cX2_pass 11 = .ok (.aload_n 0, 1) := by decide +kernel
theorem dX2_pass_12 : decode cX2_pass 12 = .ok (.aload_n 0, 1) := by decide +kernel
theorem dX2_pass_13 : decode cX2_pass 13 = .ok (.getfield 10, 3) := by decide +kernel
theorem dX2_pass_16 : decode cX2_pass 16 = .ok (.iload_n 1, 1) := by decide +kernel
theorem dX2_pass_17 : decode cX2_pass 17 = .ok (.invokevirtual 71, 3) := by decide +kernel
theorem dX2_pass_20 : decode cX2_pass 20 = .ok (.invokevirtual 52, 3) := by decide +kernel
theorem dX2_pass_23 : decode cX2_pass 23 = .ok (.ireturn, 1) := by decide +kernel
set_option maxRecDepth 20000 in
theorem ggX2_of_X2_has : GoodIn wsX2_of wsX2_has := goodIn_r _ [5] (by decide +kernel) (by decide +kernel)
set_option maxRecDepth 20000 in
theorem gX2_of_X2_has : GoodIn wsX2_of (va_wsS RX2 77 yX2_has wsX2_has) := goodIn_app (goodIn_of _ (by decide +kernel)) ggX2_of_X2_has
set_option maxRecDepth 20000 in
theorem ggX2_of_X1_coverAt : GoodIn wsX2_of wsX1_coverAt := goodIn_r _ [9, 10, 11, 3, 4, 5, 25, 26, 27, 28, 29, 30, 31, 32, 33, 34, 35, 36, 37, 38, 39, 40, 41, 42] (by decide +kernel) (by decide +kernel)
set_option maxRecDepth 20000 in
theorem gX2_of_X1_coverAt_n88 : GoodIn wsX2_of (wsX1_coverAt) := ggX2_of_X1_coverAt
set_option maxRecDepth 20000 in
theorem ggX2_of_X1_keepersAt : GoodIn wsX2_of wsX1_keepersAt := goodIn_r _ [14, 15, 16, 25, 26, 27, 28, 29, 30, 31, 32, 33, 34, 35, 36, 37, 38, 39, 40, 41, 42] (by decide +kernel) (by decide +kernel)
set_option maxRecDepth 20000 in
theorem gX2_of_X1_keepersAt_n97 : GoodIn wsX2_of (wsX1_keepersAt) := ggX2_of_X1_keepersAt
theorem dX2_of_0 : decode cX2_of 0 = .ok (.aload_n 0, 1) := by decide +kernel
theorem dX2_of_1 : decode cX2_of 1 = .ok (.getfield 10, 3) := by decide +kernel
theorem dX2_of_4 : decode cX2_of 4 = .ok (.getfield 74, 3) := by decide +kernel
theorem dX2_of_7 : decode cX2_of 7 = .ok (.iload_n 1, 1) := by decide +kernel
theorem dX2_of_8 : decode cX2_of 8 = .ok (.invokestatic 77, 3) := by decide +kernel
theorem dX2_of_11 : decode cX2_of 11 = .ok (.ifCond .ne 5, 3) := by decide +kernel
theorem dX2_of_14 : decode cX2_of 14 = .ok (.iconst (-1), 1) := by decide +kernel
theorem dX2_of_15 : decode cX2_of 15 = .ok (.ireturn, 1) := by decide +kernel
theorem dX2_of_16 : decode cX2_of 16 = .ok (.iload_n 2, 1) := by decide +kernel
theorem dX2_of_17 : decode cX2_of 17 = .ok (.tableswitch 97 0 5 #[39, 49, 59, 68, 78, 88], 39) := by decide +kernel
theorem dX2_of_56 : decode cX2_of 56 = .ok (.aload_n 0, 1) := by decide +kernel
theorem dX2_of_57 : decode cX2_of 57 = .ok (.getfield 10, 3) := by decide +kernel
theorem dX2_of_60 : decode cX2_of 60 = .ok (.getfield 81, 3) := by decide +kernel
theorem dX2_of_63 : decode cX2_of 63 = .ok (.iload_n 1, 1) := by decide +kernel
theorem dX2_of_64 : decode cX2_of 64 = .ok (.iaload, 1) := by decide +kernel
theorem dX2_of_65 : decode cX2_of 65 = .ok (.ireturn, 1) := by decide +kernel
theorem dX2_of_66 : decode cX2_of 66 = .ok (.aload_n 0, 1) := by decide +kernel
theorem dX2_of_67 : decode cX2_of 67 = .ok (.getfield 10, 3) := by decide +kernel
theorem dX2_of_70 : decode cX2_of 70 = .ok (.getfield 85, 3) := by decide +kernel
theorem dX2_of_73 : decode cX2_of 73 = .ok (.iload_n 1, 1) := by decide +kernel
theorem dX2_of_74 : decode cX2_of 74 = .ok (.iaload, 1) := by decide +kernel
theorem dX2_of_75 : decode cX2_of 75 = .ok (.ireturn, 1) := by decide +kernel
theorem dX2_of_76 : decode cX2_of 76 = .ok (.aload_n 0, 1) := by decide +kernel
theorem dX2_of_77 : decode cX2_of 77 = .ok (.getfield 10, 3) := by decide +kernel
theorem dX2_of_80 : decode cX2_of 80 = .ok (.iload_n 1, 1) := by decide +kernel
theorem dX2_of_81 : decode cX2_of 81 = .ok (.invokevirtual 88, 3) := by decide +kernel
theorem dX2_of_84 : decode cX2_of 84 = .ok (.ireturn, 1) := by decide +kernel
theorem dX2_of_85 : decode cX2_of 85 = .ok (.aload_n 0, 1) := by decide +kernel
theorem dX2_of_86 : decode cX2_of 86 = .ok (.getfield 10, 3) := by decide +kernel
theorem dX2_of_89 : decode cX2_of 89 = .ok (.getfield 91, 3) := by decide +kernel
theorem dX2_of_92 : decode cX2_of 92 = .ok (.iload_n 1, 1) := by decide +kernel
theorem dX2_of_93 : decode cX2_of 93 = .ok (.iaload, 1) := by decide +kernel
theorem dX2_of_94 : decode cX2_of 94 = .ok (.ireturn, 1) := by decide +kernel
theorem dX2_of_95 : decode cX2_of 95 = .ok (.aload_n 0, 1) := by decide +kernel
theorem dX2_of_96 : decode cX2_of 96 = .ok (.getfield 10, 3) := by decide +kernel
theorem dX2_of_99 : decode cX2_of 99 = .ok (.getfield 94, 3) := by decide +kernel
theorem dX2_of_102 : decode cX2_of 102 = .ok (.iload_n 1, 1) := by decide +kernel
theorem dX2_of_103 : decode cX2_of 103 = .ok (.iaload, 1) := by decide +kernel
theorem dX2_of_104 : decode cX2_of 104 = .ok (.ireturn, 1) := by decide +kernel
theorem dX2_of_105 : decode cX2_of 105 = .ok (.aload_n 0, 1) := by decide +kernel
theorem dX2_of_106 : decode cX2_of 106 = .ok (.getfield 10, 3) := by decide +kernel
theorem dX2_of_109 : decode cX2_of 109 = .ok (.iload_n 1, 1) := by decide +kernel
theorem dX2_of_110 : decode cX2_of 110 = .ok (.invokevirtual 97, 3) := by decide +kernel
theorem dX2_of_113 : decode cX2_of 113 = .ok (.ireturn, 1) := by decide +kernel
theorem dX2_of_114 : decode cX2_of 114 = .ok (.bipush (-2), 2) := by decide +kernel
theorem dX2_of_116 : decode cX2_of 116 = .ok (.ireturn, 1) := by decide +kernel
theorem dX2_ofKeeper_0 : decode cX2_ofKeeper 0 = .ok (.iload_n 1, 1) := by decide +kernel
theorem dX2_ofKeeper_1 : decode cX2_ofKeeper 1 = .ok (.ifCond .lt 19, 3) := by decide +kernel
theorem dX2_ofKeeper_4 : decode cX2_ofKeeper 4 = .ok (.iload_n 1, 1) := by decide +kernel
theorem dX2_ofKeeper_5 : decode cX2_ofKeeper 5 = .ok (.aload_n 0, 1) := by decide +kernel
theorem dX2_ofKeeper_6 : decode cX2_ofKeeper 6 = .ok (.getfield 10, 3) := by decide +kernel
theorem dX2_ofKeeper_9 : decode cX2_ofKeeper 9 = .ok (.getfield 100, 3) := by decide +kernel
theorem dX2_ofKeeper_12 : decode cX2_ofKeeper 12 = .ok (.if_icmp .ge 8, 3) := by decide +kernel
theorem dX2_ofKeeper_15 : decode cX2_ofKeeper 15 = .ok (.iload_n 1, 1) := by decide +kernel
theorem dX2_ofKeeper_16 : decode cX2_ofKeeper 16 = .ok (.iconst 4, 1) := by decide +kernel
theorem dX2_ofKeeper_17 : decode cX2_ofKeeper 17 = .ok (.if_icmp .lt 5, 3) := by decide +kernel
theorem dX2_ofKeeper_20 : decode cX2_ofKeeper 20 = .ok (.iconst (-1), 1) := by decide +kernel
theorem dX2_ofKeeper_21 : decode cX2_ofKeeper 21 = .ok (.ireturn, 1) := by decide +kernel
theorem dX2_ofKeeper_22 : decode cX2_ofKeeper 22 = .ok (.iload_n 2, 1) := by decide +kernel
theorem dX2_ofKeeper_23 : decode cX2_ofKeeper 23 = .ok (.tableswitch 83 0 4 #[33, 43, 53, 63, 73], 33) := by decide +kernel
theorem dX2_ofKeeper_56 : decode cX2_ofKeeper 56 = .ok (.aload_n 0, 1) := by decide +kernel
theorem dX2_ofKeeper_57 : decode cX2_ofKeeper 57 = .ok (.getfield 10, 3) := by decide +kernel
theorem dX2_ofKeeper_60 : decode cX2_ofKeeper 60 = .ok (.getfield 103, 3) := by decide +kernel
theorem dX2_ofKeeper_63 : decode cX2_ofKeeper 63 = .ok (.iload_n 1, 1) := by decide +kernel
theorem dX2_ofKeeper_64 : decode cX2_ofKeeper 64 = .ok (.iaload, 1) := by decide +kernel
theorem dX2_ofKeeper_65 : decode cX2_ofKeeper 65 = .ok (.ireturn, 1) := by decide +kernel
theorem dX2_ofKeeper_66 : decode cX2_ofKeeper 66 = .ok (.aload_n 0, 1) := by decide +kernel
theorem dX2_ofKeeper_67 : decode cX2_ofKeeper 67 = .ok (.getfield 10, 3) := by decide +kernel
theorem dX2_ofKeeper_70 : decode cX2_ofKeeper 70 = .ok (.getfield 106, 3) := by decide +kernel
theorem dX2_ofKeeper_73 : decode cX2_ofKeeper 73 = .ok (.iload_n 1, 1) := by decide +kernel
theorem dX2_ofKeeper_74 : decode cX2_ofKeeper 74 = .ok (.iaload, 1) := by decide +kernel
theorem dX2_ofKeeper_75 : decode cX2_ofKeeper 75 = .ok (.ireturn, 1) := by decide +kernel
theorem dX2_ofKeeper_76 : decode cX2_ofKeeper 76 = .ok (.aload_n 0, 1) := by decide +kernel
theorem dX2_ofKeeper_77 : decode cX2_ofKeeper 77 = .ok (.getfield 10, 3) := by decide +kernel
theorem dX2_ofKeeper_80 : decode cX2_ofKeeper 80 = .ok (.getfield 109, 3) := by decide +kernel
theorem dX2_ofKeeper_83 : decode cX2_ofKeeper 83 = .ok (.iload_n 1, 1) := by decide +kernel
theorem dX2_ofKeeper_84 : decode cX2_ofKeeper 84 = .ok (.iaload, 1) := by decide +kernel
theorem dX2_ofKeeper_85 : decode cX2_ofKeeper 85 = .ok (.ireturn, 1) := by decide +kernel
theorem dX2_ofKeeper_86 : decode cX2_ofKeeper 86 = .ok (.aload_n 0, 1) := by decide +kernel
theorem dX2_ofKeeper_87 : decode cX2_ofKeeper 87 = .ok (.getfield 10, 3) := by decide +kernel
theorem dX2_ofKeeper_90 : decode cX2_ofKeeper 90 = .ok (.getfield 112, 3) := by decide +kernel
theorem dX2_ofKeeper_93 : decode cX2_ofKeeper 93 = .ok (.iload_n 1, 1) := by decide +kernel
theorem dX2_ofKeeper_94 : decode cX2_ofKeeper 94 = .ok (.iaload, 1) := by decide +kernel
theorem dX2_ofKeeper_95 : decode cX2_ofKeeper 95 = .ok (.ireturn, 1) := by decide +kernel
theorem dX2_ofKeeper_96 : decode cX2_ofKeeper 96 = .ok (.aload_n 0, 1) := by decide +kernel
theorem dX2_ofKeeper_97 : decode cX2_ofKeeper 97 = .ok (.getfield 10, 3) := by decide +kernel
theorem dX2_ofKeeper_100 : decode cX2_ofKeeper 100 = .ok (.getfield 115, 3) := by decide +kernel
theorem dX2_ofKeeper_103 : decode cX2_ofKeeper 103 = .ok (.iload_n 1, 1) := by decide +kernel
theorem dX2_ofKeeper_104 : decode cX2_ofKeeper 104 = .ok (.iaload, 1) := by decide +kernel
theorem dX2_ofKeeper_105 : decode cX2_ofKeeper 105 = .ok (.ireturn, 1) := by decide +kernel
theorem dX2_ofKeeper_106 : decode cX2_ofKeeper 106 = .ok (.bipush (-2), 2) := by decide +kernel
theorem dX2_ofKeeper_108 : decode cX2_ofKeeper 108 = .ok (.ireturn, 1) := by decide +kernel
set_option maxRecDepth 20000 in
theorem ggX2_count_X1_rainIsAhead : GoodIn wsX2_count wsX1_rainIsAhead := goodIn_r _ [7, 8, 9, 10, 11, 5, 12, 13, 14, 23, 24, 25, 26, 27, 28, 29, 30, 31, 32, 33, 34, 35, 36, 37, 38, 39, 40] (by decide +kernel) (by decide +kernel)
set_option maxRecDepth 20000 in
theorem gX2_count_X1_rainIsAhead_n139 : GoodIn wsX2_count (wsX1_rainIsAhead) := ggX2_count_X1_rainIsAhead
set_option maxRecDepth 20000 in
theorem ggX2_count_X1_rainsAfter : GoodIn wsX2_count wsX1_rainsAfter := goodIn_r _ [12, 13, 14, 23, 24, 25, 26, 27, 28, 29, 30, 31, 32, 33, 34, 35, 36, 37, 38, 39, 40] (by decide +kernel) (by decide +kernel)
set_option maxRecDepth 20000 in
theorem gX2_count_X1_rainsAfter_n143 : GoodIn wsX2_count (wsX1_rainsAfter) := ggX2_count_X1_rainsAfter
theorem dX2_count_0 : decode cX2_count 0 = .ok (.iload_n 1, 1) := by decide +kernel
theorem dX2_count_1 : decode cX2_count 1 = .ok (.bipush 10, 2) := by decide +kernel
theorem dX2_count_3 : decode cX2_count 3 = .ok (.if_icmp .lt 22, 3) := by decide +kernel
theorem dX2_count_6 : decode cX2_count 6 = .ok (.iload_n 1, 1) := by decide +kernel
theorem dX2_count_7 : decode cX2_count 7 = .ok (.bipush 17, 2) := by decide +kernel
theorem dX2_count_9 : decode cX2_count 9 = .ok (.if_icmp .ge 16, 3) := by decide +kernel
theorem dX2_count_12 : decode cX2_count 12 = .ok (.aload_n 0, 1) := by decide +kernel
theorem dX2_count_13 : decode cX2_count 13 = .ok (.getfield 10, 3) := by decide +kernel
theorem dX2_count_16 : decode cX2_count 16 = .ok (.getfield 118, 3) := by decide +kernel
theorem dX2_count_19 : decode cX2_count 19 = .ok (.iload_n 1, 1) := by decide +kernel
theorem dX2_count_20 : decode cX2_count 20 = .ok (.bipush 10, 2) := by decide +kernel
theorem dX2_count_22 : decode cX2_count 22 = .ok (.isub, 1) := by decide +kernel
theorem dX2_count_23 : decode cX2_count 23 = .ok (.iaload, 1) := by decide +kernel
theorem dX2_count_24 : decode cX2_count 24 = .ok (.ireturn, 1) := by decide +kernel
theorem dX2_count_25 : decode cX2_count 25 = .ok (.iload_n 1, 1) := by decide +kernel
theorem dX2_count_26 : decode cX2_count 26 = .ok (.tableswitch 200 0 18 #[90, 98, 106, 114, 122, 130, 138, 146, 154, 170, 200, 200, 200, 200, 200, 200, 200, 187, 195], 90) := by decide +kernel
theorem dX2_count_116 : decode cX2_count 116 = .ok (.aload_n 0, 1) := by decide +kernel
theorem dX2_count_117 : decode cX2_count 117 = .ok (.getfield 10, 3) := by decide +kernel
theorem dX2_count_120 : decode cX2_count 120 = .ok (.getfield 121, 3) := by decide +kernel
theorem dX2_count_123 : decode cX2_count 123 = .ok (.ireturn, 1) := by decide +kernel
theorem dX2_count_124 : decode cX2_count 124 = .ok (.aload_n 0, 1) := by decide +kernel
theorem dX2_count_125 : decode cX2_count 125 = .ok (.getfield 10, 3) := by decide +kernel
theorem dX2_count_128 : decode cX2_count 128 = .ok (.getfield 74, 3) := by decide +kernel
theorem dX2_count_131 : decode cX2_count 131 = .ok (.ireturn, 1) := by decide +kernel
theorem dX2_count_132 : decode cX2_count 132 = .ok (.aload_n 0, 1) := by decide +kernel
theorem dX2_count_133 : decode cX2_count 133 = .ok (.getfield 10, 3) := by decide +kernel
theorem dX2_count_136 : decode cX2_count 136 = .ok (.getfield 124, 3) := by decide +kernel
theorem dX2_count_139 : decode cX2_count 139 = .ok (.ireturn, 1) := by decide +kernel
theorem dX2_count_140 : decode cX2_count 140 = .ok (.aload_n 0, 1) := by decide +kernel
theorem dX2_count_141 : decode cX2_count 141 = .ok (.getfield 10, 3) := by decide +kernel
theorem dX2_count_144 : decode cX2_count 144 = .ok (.getfield 127, 3) := by decide +kernel
theorem dX2_count_147 : decode cX2_count 147 = .ok (.ireturn, 1) := by decide +kernel
theorem dX2_count_148 : decode cX2_count 148 = .ok (.aload_n 0, 1) := by decide +kernel
theorem dX2_count_149 : decode cX2_count 149 = .ok (.getfield 10, 3) := by decide +kernel
theorem dX2_count_152 : decode cX2_count 152 = .ok (.getfield 100, 3) := by decide +kernel
theorem dX2_count_155 : decode cX2_count 155 = .ok (.ireturn, 1) := by decide +kernel
theorem dX2_count_156 : decode cX2_count 156 = .ok (.aload_n 0, 1) := by decide +kernel
theorem dX2_count_157 : decode cX2_count 157 = .ok (.getfield 10, 3) := by decide +kernel
theorem dX2_count_160 : decode cX2_count 160 = .ok (.getfield 130, 3) := by decide +kernel
theorem dX2_count_163 : decode cX2_count 163 = .ok (.ireturn, 1) := by decide +kernel
theorem dX2_count_164 : decode cX2_count 164 = .ok (.aload_n 0, 1) := by decide +kernel
theorem dX2_count_165 : decode cX2_count 165 = .ok (.getfield 10, 3) := by decide +kernel
theorem dX2_count_168 : decode cX2_count 168 = .ok (.getfield 133, 3) := by decide +kernel
theorem dX2_count_171 : decode cX2_count 171 = .ok (.ireturn, 1) := by decide +kernel
theorem dX2_count_172 : decode cX2_count 172 = .ok (.aload_n 0, 1) := by decide +kernel
theorem dX2_count_173 : decode cX2_count 173 = .ok (.getfield 10, 3) := by decide +kernel
theorem dX2_count_176 : decode cX2_count 176 = .ok (.getfield 136, 3) := by decide +kernel
theorem dX2_count_179 : decode cX2_count 179 = .ok (.ireturn, 1) := by decide +kernel
theorem dX2_count_180 : decode cX2_count 180 = .ok (.aload_n 0, 1) := by decide +kernel
theorem dX2_count_181 : decode cX2_count 181 = .ok (.getfield 10, 3) := by decide +kernel
theorem dX2_count_184 : decode cX2_count 184 = .ok (.invokevirtual 139, 3) := by decide +kernel
theorem dX2_count_187 : decode cX2_count 187 = .ok (.ifCond .eq 7, 3) := by decide +kernel
theorem dX2_count_190 : decode cX2_count 190 = .ok (.iconst 1, 1) := by decide +kernel
theorem dX2_count_191 : decode cX2_count 191 = .ok (.goto 4, 3) := by decide +kernel
theorem dX2_count_194 : decode cX2_count 194 = .ok (.iconst 0, 1) := by decide +kernel
theorem dX2_count_195 : decode cX2_count 195 = .ok (.ireturn, 1) := by decide +kernel
theorem dX2_count_196 : decode cX2_count 196 = .ok (.aload_n 0, 1) := by decide +kernel
theorem dX2_count_197 : decode cX2_count 197 = .ok (.getfield 10, 3) := by decide +kernel
theorem dX2_count_200 : decode cX2_count 200 = .ok (.iconst 0, 1) := by decide +kernel
theorem dX2_count_201 : decode cX2_count 201 = .ok (.invokevirtual 143, 3) := by decide +kernel
theorem dX2_count_204 : decode cX2_count 204 = .ok (.ifCond .eq 7, 3) := by decide +kernel
theorem dX2_count_207 : decode cX2_count 207 = .ok (.iconst 1, 1) := by decide +kernel
theorem dX2_count_208 : decode cX2_count 208 = .ok (.goto 4, 3) := by decide +kernel
theorem dX2_count_211 : decode cX2_count 211 = .ok (.iconst 0, 1) := by decide +kernel
theorem dX2_count_212 : decode cX2_count 212 = .ok (.ireturn, 1) := by decide +kernel
theorem dX2_count_213 : decode cX2_count 213 = .ok (.aload_n 0, 1) := by decide +kernel
theorem dX2_count_214 : decode cX2_count 214 = .ok (.getfield 40, 3) := by decide +kernel
theorem dX2_count_217 : decode cX2_count 217 = .ok (.getfield 147, 3) := by decide +kernel
theorem dX2_count_220 : decode cX2_count 220 = .ok (.ireturn, 1) := by decide +kernel
theorem dX2_count_221 : decode cX2_count 221 = .ok (.aload_n 0, 1) := by decide +kernel
theorem dX2_count_222 : decode cX2_count 222 = .ok (.getfield 26, 3) := by decide +kernel
theorem dX2_count_225 : decode cX2_count 225 = .ok (.ireturn, 1) := by decide +kernel
theorem dX2_count_226 : decode cX2_count 226 = .ok (.bipush (-2), 2) := by decide +kernel
theorem dX2_count_228 : decode cX2_count 228 = .ok (.ireturn, 1) := by decide +kernel
set_option maxRecDepth 20000 in
theorem ggX2_worst_X2_has : GoodIn wsX2_worst wsX2_has := goodIn_r _ [5] (by decide +kernel) (by decide +kernel)
set_option maxRecDepth 20000 in
theorem gX2_worst_X2_has : GoodIn wsX2_worst (va_wsS RX2 77 yX2_has wsX2_has) := goodIn_app (goodIn_of _ (by decide +kernel)) ggX2_worst_X2_has
theorem dX2_worst_0 : decode cX2_worst 0 = .ok (.bipush (-6), 2) := by decide +kernel
theorem dX2_worst_2 : decode cX2_worst 2 = .ok (.istore_n 1, 1) := by decide +kernel
theorem dX2_worst_3 : decode cX2_worst 3 = .ok (.iconst 0, 1) := by decide +kernel
theorem dX2_worst_4 : decode cX2_worst 4 = .ok (.istore_n 2, 1) := by decide +kernel
theorem dX2_worst_5 : decode cX2_worst 5 = .ok (.iconst 0, 1) := by decide +kernel
theorem dX2_worst_6 : decode cX2_worst 6 = .ok (.istore_n 3, 1) := by decide +kernel
theorem dX2_worst_7 : decode cX2_worst 7 = .ok (.iload_n 3, 1) := by decide +kernel
theorem dX2_worst_8 : decode cX2_worst 8 = .ok (.bipush 12, 2) := by decide +kernel
theorem dX2_worst_10 : decode cX2_worst 10 = .ok (.if_icmp .ge 61, 3) := by decide +kernel
theorem dX2_worst_13 : decode cX2_worst 13 = .ok (.aload_n 0, 1) := by decide +kernel
theorem dX2_worst_14 : decode cX2_worst 14 = .ok (.getfield 10, 3) := by decide +kernel
theorem dX2_worst_17 : decode cX2_worst 17 = .ok (.getfield 81, 3) := by decide +kernel
theorem dX2_worst_20 : decode cX2_worst 20 = .ok (.iload_n 3, 1) := by decide +kernel
theorem dX2_worst_21 : decode cX2_worst 21 = .ok (.iaload, 1) := by decide +kernel
theorem dX2_worst_22 : decode cX2_worst 22 = .ok (.aload_n 0, 1) := by decide +kernel
theorem dX2_worst_23 : decode cX2_worst 23 = .ok (.getfield 10, 3) := by decide +kernel
theorem dX2_worst_26 : decode cX2_worst 26 = .ok (.getfield 85, 3) := by decide +kernel
theorem dX2_worst_29 : decode cX2_worst 29 = .ok (.iload_n 3, 1) := by decide +kernel
theorem dX2_worst_30 : decode cX2_worst 30 = .ok (.iaload, 1) := by decide +kernel
theorem dX2_worst_31 : decode cX2_worst 31 = .ok (.isub, 1) := by decide +kernel
theorem dX2_worst_32 : decode cX2_worst 32 = .ok (.istore 4, 2) := by decide +kernel
theorem dX2_worst_34 : decode cX2_worst 34 = .ok (.aload_n 0, 1) := by decide +kernel
theorem dX2_worst_35 : decode cX2_worst 35 = .ok (.getfield 10, 3) := by decide +kernel
theorem dX2_worst_38 : decode cX2_worst 38 = .ok (.getfield 74, 3) := by decide +kernel
theorem dX2_worst_41 : decode cX2_worst 41 = .ok (.iload_n 3, 1) := by decide +kernel
theorem dX2_worst_42 : decode cX2_worst 42 = .ok (.invokestatic 77, 3) := by decide +kernel
theorem dX2_worst_45 : decode cX2_worst 45 = .ok (.ifCond .eq 20, 3) := by decide +kernel
theorem dX2_worst_48 : decode cX2_worst 48 = .ok (.iload_n 1, 1) := by decide +kernel
theorem dX2_worst_49 : decode cX2_worst 49 = .ok (.bipush (-6), 2) := by decide +kernel
theorem dX2_worst_51 : decode cX2_worst 51 = .ok (.if_icmp .eq 9, 3) := by decide +kernel
theorem dX2_worst_54 : decode cX2_worst 54 = .ok (.iload 4, 2) := by decide +kernel
theorem dX2_worst_56 : decode cX2_worst 56 = .ok (.iload_n 2, 1) := by decide +kernel
theorem dX2_worst_57 : decode cX2_worst 57 = .ok (.if_icmp .ge 8, 3) := by decide +kernel
theorem dX2_worst_60 : decode cX2_worst 60 = .ok (.iload_n 3, 1) := by decide +kernel
theorem dX2_worst_61 : decode cX2_worst 61 = .ok (.istore_n 1, 1) := by decide +kernel
theorem dX2_worst_62 : decode cX2_worst 62 = .ok (.iload 4, 2) := by decide +kernel
theorem dX2_worst_64 : decode cX2_worst 64 = .ok (.istore_n 2, 1) := by decide +kernel
theorem dX2_worst_65 : decode cX2_worst 65 = .ok (.iinc 3 1, 3) := by decide +kernel
theorem dX2_worst_68 : decode cX2_worst 68 = .ok (.goto (-61), 3) := by decide +kernel
theorem dX2_worst_71 : decode cX2_worst 71 = .ok (.iload_n 1, 1) := by decide +kernel
theorem dX2_worst_72 : decode cX2_worst 72 = .ok (.ireturn, 1) := by decide +kernel
set_option maxRecDepth 20000 in
theorem ggX2_why_X2_has : GoodIn wsX2_why wsX2_has := goodIn_r _ [5] (by decide +kernel) (by decide +kernel)
set_option maxRecDepth 20000 in
theorem gX2_why_X2_has : GoodIn wsX2_why (va_wsS RX2 77 yX2_has wsX2_has) := goodIn_app (goodIn_of _ (by decide +kernel)) ggX2_why_X2_has
set_option maxRecDepth 20000 in
theorem ggX2_why_X1_rainIsAhead : GoodIn wsX2_why wsX1_rainIsAhead := goodIn_r _ [9, 10, 11, 12, 13, 7, 14, 15, 16, 30, 31, 32, 33, 34, 35, 36, 37, 38, 39, 40, 41, 42, 43, 44, 45, 46, 47] (by decide +kernel) (by decide +kernel)
set_option maxRecDepth 20000 in
theorem gX2_why_X1_rainIsAhead_n139 : GoodIn wsX2_why (wsX1_rainIsAhead) := ggX2_why_X1_rainIsAhead
set_option maxRecDepth 20000 in
theorem ggX2_why_X1_keepersAt : GoodIn wsX2_why wsX1_keepersAt := goodIn_r _ [19, 20, 21, 30, 31, 32, 33, 34, 35, 36, 37, 38, 39, 40, 41, 42, 43, 44, 45, 46, 47] (by decide +kernel) (by decide +kernel)
set_option maxRecDepth 20000 in
theorem gX2_why_X1_keepersAt_n97 : GoodIn wsX2_why (wsX1_keepersAt) := ggX2_why_X1_keepersAt
theorem dX2_why_0 : decode cX2_why 0 = .ok (.aload_n 0, 1) := by decide +kernel
theorem dX2_why_1 : decode cX2_why 1 = .ok (.getfield 10, 3) := by decide +kernel
theorem dX2_why_4 : decode cX2_why 4 = .ok (.getfield 74, 3) := by decide +kernel
theorem dX2_why_7 : decode cX2_why 7 = .ok (.iload_n 1, 1) := by decide +kernel
theorem dX2_why_8 : decode cX2_why 8 = .ok (.invokestatic 77, 3) := by decide +kernel
theorem dX2_why_11 : decode cX2_why 11 = .ok (.ifCond .ne 5, 3) := by decide +kernel
theorem dX2_why_14 : decode cX2_why 14 = .ok (.iconst (-1), 1) := by decide +kernel
theorem dX2_why_15 : decode cX2_why 15 = .ok (.ireturn, 1) := by decide +kernel
theorem dX2_why_16 : decode cX2_why 16 = .ok (.aload_n 0, 1) := by decide +kernel
theorem dX2_why_17 : decode cX2_why 17 = .ok (.getfield 10, 3) := by decide +kernel
theorem dX2_why_20 : decode cX2_why 20 = .ok (.getfield 124, 3) := by decide +kernel
theorem dX2_why_23 : decode cX2_why 23 = .ok (.iload_n 1, 1) := by decide +kernel
theorem dX2_why_24 : decode cX2_why 24 = .ok (.invokestatic 77, 3) := by decide +kernel
theorem dX2_why_27 : decode cX2_why 27 = .ok (.ifCond .eq 5, 3) := by decide +kernel
theorem dX2_why_30 : decode cX2_why 30 = .ok (.iconst 0, 1) := by decide +kernel
theorem dX2_why_31 : decode cX2_why 31 = .ok (.ireturn, 1) := by decide +kernel
theorem dX2_why_32 : decode cX2_why 32 = .ok (.aload_n 0, 1) := by decide +kernel
theorem dX2_why_33 : decode cX2_why 33 = .ok (.getfield 10, 3) := by decide +kernel
theorem dX2_why_36 : decode cX2_why 36 = .ok (.getfield 127, 3) := by decide +kernel
theorem dX2_why_39 : decode cX2_why 39 = .ok (.iload_n 1, 1) := by decide +kernel
theorem dX2_why_40 : decode cX2_why 40 = .ok (.invokestatic 77, 3) := by decide +kernel
theorem dX2_why_43 : decode cX2_why 43 = .ok (.ifCond .ne 5, 3) := by decide +kernel
theorem dX2_why_46 : decode cX2_why 46 = .ok (.iconst 1, 1) := by decide +kernel
theorem dX2_why_47 : decode cX2_why 47 = .ok (.ireturn, 1) := by decide +kernel
theorem dX2_why_48 : decode cX2_why 48 = .ok (.aload_n 0, 1) := by decide +kernel
theorem dX2_why_49 : decode cX2_why 49 = .ok (.getfield 10, 3) := by decide +kernel
theorem dX2_why_52 : decode cX2_why 52 = .ok (.invokevirtual 139, 3) := by decide +kernel
theorem dX2_why_55 : decode cX2_why 55 = .ok (.ifCond .ne 5, 3) := by decide +kernel
theorem dX2_why_58 : decode cX2_why 58 = .ok (.iconst 2, 1) := by decide +kernel
theorem dX2_why_59 : decode cX2_why 59 = .ok (.ireturn, 1) := by decide +kernel
theorem dX2_why_60 : decode cX2_why 60 = .ok (.aload_n 0, 1) := by decide +kernel
theorem dX2_why_61 : decode cX2_why 61 = .ok (.getfield 10, 3) := by decide +kernel
theorem dX2_why_64 : decode cX2_why 64 = .ok (.getfield 100, 3) := by decide +kernel
theorem dX2_why_67 : decode cX2_why 67 = .ok (.ifCond .ne 5, 3) := by decide +kernel
theorem dX2_why_70 : decode cX2_why 70 = .ok (.iconst 3, 1) := by decide +kernel
theorem dX2_why_71 : decode cX2_why 71 = .ok (.ireturn, 1) := by decide +kernel
theorem dX2_why_72 : decode cX2_why 72 = .ok (.aload_n 0, 1) := by decide +kernel
theorem dX2_why_73 : decode cX2_why 73 = .ok (.getfield 10, 3) := by decide +kernel
theorem dX2_why_76 : decode cX2_why 76 = .ok (.iload_n 1, 1) := by decide +kernel
theorem dX2_why_77 : decode cX2_why 77 = .ok (.invokevirtual 97, 3) := by decide +kernel
theorem dX2_why_80 : decode cX2_why 80 = .ok (.ifCond .ne 7, 3) := by decide +kernel
theorem dX2_why_83 : decode cX2_why 83 = .ok (.iconst 4, 1) := by decide +kernel
theorem dX2_why_84 : decode cX2_why 84 = .ok (.goto 4, 3) := by decide +kernel
theorem dX2_why_87 : decode cX2_why 87 = .ok (.iconst 5, 1) := by decide +kernel
theorem dX2_why_88 : decode cX2_why 88 = .ok (.ireturn, 1) := by decide +kernel
set_option maxRecDepth 20000 in
theorem ggX2_rainIn_X1_hoursUntilRain : GoodIn wsX2_rainIn wsX1_hoursUntilRain := goodIn_r _ [5, 6, 7, 8, 3, 9, 10, 11, 20, 21, 22, 23, 24, 25, 26, 27, 28, 29, 30, 31, 32, 33, 34, 35, 36, 37] (by decide +kernel) (by decide +kernel)
set_option maxRecDepth 20000 in
theorem gX2_rainIn_X1_hoursUntilRain_n150 : GoodIn wsX2_rainIn (wsX1_hoursUntilRain) := ggX2_rainIn_X1_hoursUntilRain
theorem dX2_rainIn_0 : decode cX2_rainIn 0 = .ok (.aload_n 0, 1) := by decide +kernel
theorem dX2_rainIn_1 : decode cX2_rainIn 1 = .ok (.getfield 10, 3) := by decide +kernel
theorem dX2_rainIn_4 : decode cX2_rainIn 4 = .ok (.invokevirtual 150, 3) := by decide +kernel
theorem dX2_rainIn_7 : decode cX2_rainIn 7 = .ok (.ireturn, 1) := by decide +kernel
set_option maxRecDepth 20000 in
theorem ggX2_coveredIn_X2_has : GoodIn wsX2_coveredIn wsX2_has := goodIn_r _ [6] (by decide +kernel) (by decide +kernel)
set_option maxRecDepth 20000 in
theorem gX2_coveredIn_X2_has : GoodIn wsX2_coveredIn (va_wsS RX2 77 yX2_has wsX2_has) := goodIn_app (goodIn_of _ (by decide +kernel)) ggX2_coveredIn_X2_has
set_option maxRecDepth 20000 in
theorem ggX2_coveredIn_X2_copy : GoodIn wsX2_coveredIn wsX2_copy := goodIn_r _ [9, 10, 11, 12, 13, 110, 111, 112, 113, 114, 115, 116, 117, 118, 119, 120, 121, 122, 123, 124, 125, 126, 127] (by decide +kernel) (by decide +kernel)
set_option maxRecDepth 20000 in
theorem gX2_coveredIn_X2_copy : GoodIn wsX2_coveredIn (va_wsS RX2 44 yX2_copy wsX2_copy) := goodIn_app (goodIn_of _ (by decide +kernel)) ggX2_coveredIn_X2_copy
set_option maxRecDepth 20000 in
theorem ggX2_coveredIn_X1_passHours : GoodIn wsX2_coveredIn wsX1_passHours := goodIn_r _ [17, 18, 19, 20, 21, 22, 15, 23, 24, 25, 26, 27, 28, 29, 30, 31, 32, 33, 34, 35, 36, 37, 38, 39, 40, 4, 5, 6, 41, 42, 43, 44, 45, 46, 47, 48, 49, 50, 51, 52, 53, 54, 55, 56, 57, 58, 59, 60, 61, 62, 63, 64, 65, 66, 67, 68, 69, 70, 71, 72, 73, 74, 75, 76, 77, 78, 79, 80, 81, 82, 83, 84, 85, 86, 87, 88, 89, 90, 91, 92, 93, 94, 95, 96, 97, 98, 99, 100, 101, 110, 111, 112, 113, 114, 115, 116, 117, 118, 119, 120, 121, 122, 123, 124, 125, 126, 127] (by decide +kernel) (by decide +kernel)
set_option maxRecDepth 20000 in
theorem gX2_coveredIn_X1_passHours_n154 : GoodIn wsX2_coveredIn (wsX1_passHours) := ggX2_coveredIn_X1_passHours
theorem dX2_coveredIn_0 : decode cX2_coveredIn 0 = .ok (.aload_n 0, 1) := by decide +kernel
theorem dX2_coveredIn_1 : decode cX2_coveredIn 1 = .ok (.getfield 10, 3) := by decide +kernel
theorem dX2_coveredIn_4 : decode cX2_coveredIn 4 = .ok (.getfield 74, 3) := by decide +kernel
theorem dX2_coveredIn_7 : decode cX2_coveredIn 7 = .ok (.iload_n 1, 1) := by decide +kernel
theorem dX2_coveredIn_8 : decode cX2_coveredIn 8 = .ok (.invokestatic 77, 3) := by decide +kernel
theorem dX2_coveredIn_11 : decode cX2_coveredIn 11 = .ok (.ifCond .ne 5, 3) := by decide +kernel
theorem dX2_coveredIn_14 : decode cX2_coveredIn 14 = .ok (.iconst (-1), 1) := by decide +kernel
theorem dX2_coveredIn_15 : decode cX2_coveredIn 15 = .ok (.ireturn, 1) := by decide +kernel
theorem dX2_coveredIn_16 : decode cX2_coveredIn 16 = .ok (.aload_n 0, 1) := by decide +kernel
theorem dX2_coveredIn_17 : decode cX2_coveredIn 17 = .ok (.getfield 10, 3) := by decide +kernel
theorem dX2_coveredIn_20 : decode cX2_coveredIn 20 = .ok (.aload_n 0, 1) := by decide +kernel
theorem dX2_coveredIn_21 : decode cX2_coveredIn 21 = .ok (.getfield 19, 3) := by decide +kernel
theorem dX2_coveredIn_24 : decode cX2_coveredIn 24 = .ok (.invokestatic 44, 3) := by decide +kernel
theorem dX2_coveredIn_27 : decode cX2_coveredIn 27 = .ok (.iconst 0, 1) := by decide +kernel
theorem dX2_coveredIn_28 : decode cX2_coveredIn 28 = .ok (.istore_n 2, 1) := by decide +kernel
theorem dX2_coveredIn_29 : decode cX2_coveredIn 29 = .ok (.iload_n 2, 1) := by decide +kernel
theorem dX2_coveredIn_30 : decode cX2_coveredIn 30 = .ok (.bipush 96, 2) := by decide +kernel
theorem dX2_coveredIn_32 : decode cX2_coveredIn 32 = .ok (.if_icmp .ge 34, 3) := by decide +kernel
theorem dX2_coveredIn_35 : decode cX2_coveredIn 35 = .ok (.aload_n 0, 1) := by decide +kernel
theorem dX2_coveredIn_36 : decode cX2_coveredIn 36 = .ok (.getfield 19, 3) := by decide +kernel
theorem dX2_coveredIn_39 : decode cX2_coveredIn 39 = .ok (.getfield 124, 3) := by decide +kernel
theorem dX2_coveredIn_42 : decode cX2_coveredIn 42 = .ok (.iload_n 1, 1) := by decide +kernel
theorem dX2_coveredIn_43 : decode cX2_coveredIn 43 = .ok (.invokestatic 77, 3) := by decide +kernel
theorem dX2_coveredIn_46 : decode cX2_coveredIn 46 = .ok (.ifCond .eq 5, 3) := by decide +kernel
theorem dX2_coveredIn_49 : decode cX2_coveredIn 49 = .ok (.iload_n 2, 1) := by decide +kernel
theorem dX2_coveredIn_50 : decode cX2_coveredIn 50 = .ok (.ireturn, 1) := by decide +kernel
theorem dX2_coveredIn_51 : decode cX2_coveredIn 51 = .ok (.aload_n 0, 1) := by decide +kernel
theorem dX2_coveredIn_52 : decode cX2_coveredIn 52 = .ok (.getfield 19, 3) := by decide +kernel
theorem dX2_coveredIn_55 : decode cX2_coveredIn 55 = .ok (.iconst 1, 1) := by decide +kernel
theorem dX2_coveredIn_56 : decode cX2_coveredIn 56 = .ok (.invokevirtual 154, 3) := by decide +kernel
theorem dX2_coveredIn_59 : decode cX2_coveredIn 59 = .ok (.pop, 1) := by decide +kernel
theorem dX2_coveredIn_60 : decode cX2_coveredIn 60 = .ok (.iinc 2 1, 3) := by decide +kernel
theorem dX2_coveredIn_63 : decode cX2_coveredIn 63 = .ok (.goto (-34), 3) := by decide +kernel
theorem dX2_coveredIn_66 : decode cX2_coveredIn 66 = .ok (.aload_n 0, 1) := by decide +kernel
theorem dX2_coveredIn_67 : decode cX2_coveredIn 67 = .ok (.getfield 19, 3) := by decide +kernel
theorem dX2_coveredIn_70 : decode cX2_coveredIn 70 = .ok (.getfield 124, 3) := by decide +kernel
theorem dX2_coveredIn_73 : decode cX2_coveredIn 73 = .ok (.iload_n 1, 1) := by decide +kernel
theorem dX2_coveredIn_74 : decode cX2_coveredIn 74 = .ok (.invokestatic 77, 3) := by decide +kernel
theorem dX2_coveredIn_77 : decode cX2_coveredIn 77 = .ok (.ifCond .eq 8, 3) := by decide +kernel
theorem dX2_coveredIn_80 : decode cX2_coveredIn 80 = .ok (.bipush 96, 2) := by decide +kernel
theorem dX2_coveredIn_82 : decode cX2_coveredIn 82 = .ok (.goto 5, 3) := by decide +kernel
theorem dX2_coveredIn_85 : decode cX2_coveredIn 85 = .ok (.bipush (-6), 2) := by decide +kernel
theorem dX2_coveredIn_87 : decode cX2_coveredIn 87 = .ok (.ireturn, 1) := by decide +kernel
set_option maxRecDepth 20000 in
theorem ggX2_willBeWet_X2_copy : GoodIn wsX2_willBeWet wsX2_copy := goodIn_r _ [6, 7, 8, 9, 10, 109, 110, 111, 112, 113, 114, 115, 116, 117, 118, 119, 120, 121, 122, 123, 124, 125, 126] (by decide +kernel) (by decide +kernel)
set_option maxRecDepth 20000 in
theorem gX2_willBeWet_X2_copy : GoodIn wsX2_willBeWet (va_wsS RX2 44 yX2_copy wsX2_copy) := goodIn_app (goodIn_of _ (by decide +kernel)) ggX2_willBeWet_X2_copy
set_option maxRecDepth 20000 in
theorem ggX2_willBeWet_X1_passHours : GoodIn wsX2_willBeWet wsX1_passHours := goodIn_r _ [14, 15, 16, 17, 18, 19, 12, 20, 21, 22, 23, 24, 25, 26, 27, 28, 29, 30, 31, 32, 33, 34, 35, 36, 37, 38, 5, 39, 40, 41, 42, 43, 44, 45, 46, 47, 48, 49, 50, 51, 52, 53, 54, 55, 56, 57, 58, 59, 60, 61, 62, 63, 64, 65, 66, 67, 68, 69, 70, 71, 72, 73, 74, 75, 76, 77, 78, 79, 80, 81, 82, 83, 84, 85, 86, 87, 88, 89, 90, 91, 92, 93, 94, 95, 96, 97, 98, 99, 100, 109, 110, 111, 112, 113, 114, 115, 116, 117, 118, 119, 120, 121, 122, 123, 124, 125, 126] (by decide +kernel) (by decide +kernel)
set_option maxRecDepth 20000 in
theorem gX2_willBeWet_X1_passHours_n154 : GoodIn wsX2_willBeWet (wsX1_passHours) := ggX2_willBeWet_X1_passHours
theorem dX2_willBeWet_0 : decode cX2_willBeWet 0 = .ok (.iload_n 1, 1) := by decide +kernel
theorem dX2_willBeWet_1 : decode cX2_willBeWet 1 = .ok (.iconst 1, 1) := by decide +kernel
theorem dX2_willBeWet_2 : decode cX2_willBeWet 2 = .ok (.if_icmp .lt 9, 3) := by decide +kernel
theorem dX2_willBeWet_5 : decode cX2_willBeWet 5 = .ok (.iload_n 1, 1) := by decide +kernel
theorem dX2_willBeWet_6 : decode cX2_willBeWet 6 = .ok (.bipush 99, 2) := by decide +kernel
theorem dX2_willBeWet_8 : decode cX2_willBeWet 8 = .ok (.if_icmp .le 6, 3) := by decide +kernel
theorem dX2_willBeWet_11 : decode cX2_willBeWet 11 = .ok (.bipush (-2), 2) := by decide +kernel
theorem dX2_willBeWet_13 : decode cX2_willBeWet 13 = .ok (.ireturn, 1) := by decide +kernel
theorem dX2_willBeWet_14 : decode cX2_willBeWet 14 = .ok (.aload_n 0, 1) := by decide +kernel
theorem dX2_willBeWet_15 : decode cX2_willBeWet 15 = .ok (.getfield 10, 3) := by decide +kernel
theorem dX2_willBeWet_18 : decode cX2_willBeWet 18 = .ok (.aload_n 0, 1) := by decide +kernel
theorem dX2_willBeWet_19 : decode cX2_willBeWet 19 = .ok (.getfield 19, 3) := by decide +kernel
theorem dX2_willBeWet_22 : decode cX2_willBeWet 22 = .ok (.invokestatic 44, 3) := by decide +kernel
theorem dX2_willBeWet_25 : decode cX2_willBeWet 25 = .ok (.aload_n 0, 1) := by decide +kernel
theorem dX2_willBeWet_26 : decode cX2_willBeWet 26 = .ok (.getfield 19, 3) := by decide +kernel
theorem dX2_willBeWet_29 : decode cX2_willBeWet 29 = .ok (.iload_n 1, 1) := by decide +kernel
theorem dX2_willBeWet_30 : decode cX2_willBeWet 30 = .ok (.invokevirtual 154, 3) := by decide +kernel
theorem dX2_willBeWet_33 : decode cX2_willBeWet 33 = .ok (.pop, 1) := by decide +kernel
theorem dX2_willBeWet_34 : decode cX2_willBeWet 34 = .ok (.iconst 0, 1) := by decide +kernel
theorem dX2_willBeWet_35 : decode cX2_willBeWet 35 = .ok (.istore_n 2, 1) := by decide +kernel
theorem dX2_willBeWet_36 : decode cX2_willBeWet 36 = .ok (.iconst 0, 1) := by decide +kernel
theorem dX2_willBeWet_37 : decode cX2_willBeWet 37 = .ok (.istore_n 3, 1) := by decide +kernel
theorem dX2_willBeWet_38 : decode cX2_willBeWet 38 = .ok (.iload_n 3, 1) := by decide +kernel
theorem dX2_willBeWet_39 : decode cX2_willBeWet 39 = .ok (.bipush 12, 2) := by decide +kernel
theorem dX2_willBeWet_41 : decode cX2_willBeWet 41 = .ok (.if_icmp .ge 36, 3) := by decide +kernel
theorem dX2_willBeWet_44 : decode cX2_willBeWet 44 = .ok (.aload_n 0, 1) := by decide +kernel
theorem dX2_willBeWet_45 : decode cX2_willBeWet 45 = .ok (.getfield 19, 3) := by decide +kernel
theorem dX2_willBeWet_48 : decode cX2_willBeWet 48 = .ok (.getfield 94, 3) := by decide +kernel
theorem dX2_willBeWet_51 : decode cX2_willBeWet 51 = .ok (.iload_n 3, 1) := by decide +kernel
theorem dX2_willBeWet_52 : decode cX2_willBeWet 52 = .ok (.iaload, 1) := by decide +kernel
theorem dX2_willBeWet_53 : decode cX2_willBeWet 53 = .ok (.aload_n 0, 1) := by decide +kernel
theorem dX2_willBeWet_54 : decode cX2_willBeWet 54 = .ok (.getfield 10, 3) := by decide +kernel
theorem dX2_willBeWet_57 : decode cX2_willBeWet 57 = .ok (.getfield 94, 3) := by decide +kernel
theorem dX2_willBeWet_60 : decode cX2_willBeWet 60 = .ok (.iload_n 3, 1) := by decide +kernel
theorem dX2_willBeWet_61 : decode cX2_willBeWet 61 = .ok (.iaload, 1) := by decide +kernel
theorem dX2_willBeWet_62 : decode cX2_willBeWet 62 = .ok (.if_icmp .le 9, 3) := by decide +kernel
theorem dX2_willBeWet_65 : decode cX2_willBeWet 65 = .ok (.iload_n 2, 1) := by decide +kernel
theorem dX2_willBeWet_66 : decode cX2_willBeWet 66 = .ok (.iconst 1, 1) := by decide +kernel
theorem dX2_willBeWet_67 : decode cX2_willBeWet 67 = .ok (.iload_n 3, 1) := by decide +kernel
theorem dX2_willBeWet_68 : decode cX2_willBeWet 68 = .ok (.ishl, 1) := by decide +kernel
theorem dX2_willBeWet_69 : decode cX2_willBeWet 69 = .ok (.ior, 1) := by decide +kernel
theorem dX2_willBeWet_70 : decode cX2_willBeWet 70 = .ok (.istore_n 2, 1) := by decide +kernel
theorem dX2_willBeWet_71 : decode cX2_willBeWet 71 = .ok (.iinc 3 1, 3) := by decide +kernel
theorem dX2_willBeWet_74 : decode cX2_willBeWet 74 = .ok (.goto (-36), 3) := by decide +kernel
theorem dX2_willBeWet_77 : decode cX2_willBeWet 77 = .ok (.iload_n 2, 1) := by decide +kernel
theorem dX2_willBeWet_78 : decode cX2_willBeWet 78 = .ok (.ireturn, 1) := by decide +kernel
set_option maxRecDepth 20000 in
theorem ggX2_bestPlace_X2_coinsWithOneMoreAt : GoodIn wsX2_bestPlace wsX2_coinsWithOneMoreAt := goodIn_r _ [5, 6, 7, 8, 9, 4, 10, 11, 12, 13, 14, 15, 16, 17, 18, 19, 20, 21, 22, 23, 24, 25, 26, 27, 28, 29, 30, 31, 32, 33, 34, 35, 36, 37, 38, 39, 40, 41, 42, 43, 44, 45, 46, 47, 48, 49, 50, 51, 52, 53, 54, 55, 56, 57, 58, 59, 60, 61, 62, 63, 64, 65, 66, 67, 68, 69, 70, 71, 72, 73, 74, 75, 76, 77, 78, 79, 80, 81, 82, 83, 84, 85, 86, 87, 88, 89, 90, 91, 92, 93, 94, 95, 96, 97, 98, 99, 100, 101, 102, 103, 104, 105, 106, 107, 108, 109, 110, 111, 112, 113, 114, 115, 116, 117, 118, 119, 120, 121, 122, 123, 124, 125, 126, 127, 128, 129, 130, 131, 132, 133] (by decide +kernel) (by decide +kernel)
set_option maxRecDepth 20000 in
theorem gX2_bestPlace_X2_coinsWithOneMoreAt : GoodIn wsX2_bestPlace (wsV RX2 157 RX2 yX2_coinsWithOneMoreAt wsX2_coinsWithOneMoreAt) := goodIn_app (goodIn_of _ (by decide +kernel)) ggX2_bestPlace_X2_coinsWithOneMoreAt
theorem dX2_bestPlace_0 : decode cX2_bestPlace 0 = .ok (.iload_n 1, 1) := by decide +kernel
theorem dX2_bestPlace_1 : decode cX2_bestPlace 1 = .ok (.iconst 1, 1) := by decide +kernel
theorem dX2_bestPlace_2 : decode cX2_bestPlace 2 = .ok (.if_icmp .lt 18, 3) := by decide +kernel
theorem dX2_bestPlace_5 : decode cX2_bestPlace 5 = .ok (.iload_n 1, 1) := by decide +kernel
theorem dX2_bestPlace_6 : decode cX2_bestPlace 6 = .ok (.bipush 48, 2) := by decide +kernel
theorem dX2_bestPlace_8 : decode cX2_bestPlace 8 = .ok (.if_icmp .gt 12, 3) := by decide +kernel
theorem dX2_bestPlace_11 : decode cX2_bestPlace 11 = .ok (.iload_n 2, 1) := by decide +kernel
theorem dX2_bestPlace_12 : decode cX2_bestPlace 12 = .ok (.ifCond .lt 8, 3) := by decide +kernel
theorem dX2_bestPlace_15 : decode cX2_bestPlace 15 = .ok (.iload_n 2, 1) := by decide +kernel
theorem dX2_bestPlace_16 : decode cX2_bestPlace 16 = .ok (.iconst 1, 1) := by decide +kernel
theorem dX2_bestPlace_17 : decode cX2_bestPlace 17 = .ok (.if_icmp .le 6, 3) := by decide +kernel
theorem dX2_bestPlace_20 : decode cX2_bestPlace 20 = .ok (.bipush (-2), 2) := by decide +kernel
theorem dX2_bestPlace_22 : decode cX2_bestPlace 22 = .ok (.ireturn, 1) := by decide +kernel
theorem dX2_bestPlace_23 : decode cX2_bestPlace 23 = .ok (.bipush (-6), 2) := by decide +kernel
theorem dX2_bestPlace_25 : decode cX2_bestPlace 25 = .ok (.istore_n 3, 1) := by decide +kernel
theorem dX2_bestPlace_26 : decode cX2_bestPlace 26 = .ok (.iconst 0, 1) := by decide +kernel
theorem dX2_bestPlace_27 : decode cX2_bestPlace 27 = .ok (.istore 4, 2) := by decide +kernel
theorem dX2_bestPlace_29 : decode cX2_bestPlace 29 = .ok (.iconst 0, 1) := by decide +kernel
theorem dX2_bestPlace_30 : decode cX2_bestPlace 30 = .ok (.istore 5, 2) := by decide +kernel
theorem dX2_bestPlace_32 : decode cX2_bestPlace 32 = .ok (.iload 5, 2) := by decide +kernel
theorem dX2_bestPlace_34 : decode cX2_bestPlace 34 = .ok (.bipush 12, 2) := by decide +kernel
theorem dX2_bestPlace_36 : decode cX2_bestPlace 36 = .ok (.if_icmp .ge 38, 3) := by decide +kernel
theorem dX2_bestPlace_39 : decode cX2_bestPlace 39 = .ok (.aload_n 0, 1) := by decide +kernel
theorem dX2_bestPlace_40 : decode cX2_bestPlace 40 = .ok (.iload 5, 2) := by decide +kernel
theorem dX2_bestPlace_42 : decode cX2_bestPlace 42 = .ok (.iload_n 1, 1) := by decide +kernel
theorem dX2_bestPlace_43 : decode cX2_bestPlace 43 = .ok (.invokevirtual 157, 3) := by decide +kernel
theorem dX2_bestPlace_46 : decode cX2_bestPlace 46 = .ok (.istore 6, 2) := by decide +kernel
theorem dX2_bestPlace_48 : decode cX2_bestPlace 48 = .ok (.iload_n 3, 1) := by decide +kernel
theorem dX2_bestPlace_49 : decode cX2_bestPlace 49 = .ok (.bipush (-6), 2) := by decide +kernel
theorem dX2_bestPlace_51 : decode cX2_bestPlace 51 = .ok (.if_icmp .eq 10, 3) := by decide +kernel
theorem dX2_bestPlace_54 : decode cX2_bestPlace 54 = .ok (.iload 6, 2) := by decide +kernel
theorem dX2_bestPlace_56 : decode cX2_bestPlace 56 = .ok (.iload 4, 2) := by decide +kernel
theorem dX2_bestPlace_58 : decode cX2_bestPlace 58 = .ok (.if_icmp .le 10, 3) := by decide +kernel
theorem dX2_bestPlace_61 : decode cX2_bestPlace 61 = .ok (.iload 5, 2) := by decide +kernel
theorem dX2_bestPlace_63 : decode cX2_bestPlace 63 = .ok (.istore_n 3, 1) := by decide +kernel
theorem dX2_bestPlace_64 : decode cX2_bestPlace 64 = .ok (.iload 6, 2) := by decide +kernel
theorem dX2_bestPlace_66 : decode cX2_bestPlace 66 = .ok (.istore 4, 2) := by decide +kernel
theorem dX2_bestPlace_68 : decode cX2_bestPlace 68 = .ok (.iinc 5 1, 3) := by decide +kernel
theorem dX2_bestPlace_71 : decode cX2_bestPlace 71 = .ok (.goto (-39), 3) := by decide +kernel
theorem dX2_bestPlace_74 : decode cX2_bestPlace 74 = .ok (.iload_n 2, 1) := by decide +kernel
theorem dX2_bestPlace_75 : decode cX2_bestPlace 75 = .ok (.ifCond .ne 7, 3) := by decide +kernel
theorem dX2_bestPlace_78 : decode cX2_bestPlace 78 = .ok (.iload_n 3, 1) := by decide +kernel
theorem dX2_bestPlace_79 : decode cX2_bestPlace 79 = .ok (.goto 5, 3) := by decide +kernel
theorem dX2_bestPlace_82 : decode cX2_bestPlace 82 = .ok (.iload 4, 2) := by decide +kernel
theorem dX2_bestPlace_84 : decode cX2_bestPlace 84 = .ok (.ireturn, 1) := by decide +kernel
set_option maxRecDepth 20000 in
theorem ggX2_coinsWithOneMoreAt_X2_copy : GoodIn wsX2_coinsWithOneMoreAt wsX2_copy := goodIn_r _ [6, 7, 8, 9, 10, 112, 113, 114, 115, 116, 117, 118, 119, 120, 121, 122, 123, 124, 125, 126, 127, 128, 129] (by decide +kernel) (by decide +kernel)
set_option maxRecDepth 20000 in
theorem gX2_coinsWithOneMoreAt_X2_copy : GoodIn wsX2_coinsWithOneMoreAt (va_wsS RX2 44 yX2_copy wsX2_copy) := goodIn_app (goodIn_of _ (by decide +kernel)) ggX2_coinsWithOneMoreAt_X2_copy
set_option maxRecDepth 20000 in
theorem ggX2_coinsWithOneMoreAt_X1_addKeeper : GoodIn wsX2_coinsWithOneMoreAt wsX1_addKeeper := goodIn_r _ [14, 15, 16, 17, 18, 19, 20, 112, 113, 114, 115, 116, 117, 118, 119, 120, 121, 122, 123, 124, 125, 126, 127, 128, 129] (by decide +kernel) (by decide +kernel)
set_option maxRecDepth 20000 in
theorem gX2_coinsWithOneMoreAt_X1_addKeeper_n160 : GoodIn wsX2_coinsWithOneMoreAt (wsX1_addKeeper) := ggX2_coinsWithOneMoreAt_X1_addKeeper
set_option maxRecDepth 20000 in
theorem ggX2_coinsWithOneMoreAt_X1_passHours : GoodIn wsX2_coinsWithOneMoreAt wsX1_passHours := goodIn_r _ [23, 24, 25, 26, 27, 28, 12, 29, 15, 30, 31, 16, 32, 33, 34, 35, 36, 37, 38, 39, 40, 41, 42, 43, 44, 45, 5, 46, 47, 48, 49, 50, 51, 52, 53, 54, 55, 56, 57, 58, 59, 60, 20, 61, 62, 63, 64, 65, 66, 67, 68, 19, 69, 70, 71, 72, 17, 73, 74, 75, 76, 18, 77, 78, 79, 80, 81, 82, 83, 84, 85, 86, 87, 88, 89, 90, 91, 92, 93, 94, 95, 96, 97, 98, 99, 100, 101, 102, 103, 112, 113, 114, 115, 116, 117, 118, 119, 120, 121, 122, 123, 124, 125, 126, 127, 128, 129] (by decide +kernel) (by decide +kernel)
set_option maxRecDepth 20000 in
theorem gX2_coinsWithOneMoreAt_X1_passHours_n154 : GoodIn wsX2_coinsWithOneMoreAt (wsX1_passHours) := ggX2_coinsWithOneMoreAt_X1_passHours
theorem dX2_coinsWithOneMoreAt_0 : decode cX2_coinsWithOneMoreAt 0 = .ok (.aload_n 0, 1) := by decide +kernel
theorem dX2_coinsWithOneMoreAt_1 : decode cX2_coinsWithOneMoreAt 1 = .ok (.getfield 10, 3) := by decide +kernel
theorem dX2_coinsWithOneMoreAt_4 : decode cX2_coinsWithOneMoreAt 4 = .ok (.aload_n 0, 1) := by decide +kernel
theorem dX2_coinsWithOneMoreAt_5 : decode cX2_coinsWithOneMoreAt 5 = .ok (.getfield 19, 3) := by decide +kernel
theorem dX2_coinsWithOneMoreAt_8 : decode cX2_coinsWithOneMoreAt 8 = .ok (.invokestatic 44, 3) := by decide +kernel
theorem dX2_coinsWithOneMoreAt_11 : decode cX2_coinsWithOneMoreAt 11 = .ok (.aload_n 0, 1) := by decide +kernel
theorem dX2_coinsWithOneMoreAt_12 : decode cX2_coinsWithOneMoreAt 12 = .ok (.getfield 19, 3) := by decide +kernel
theorem dX2_coinsWithOneMoreAt_15 : decode cX2_coinsWithOneMoreAt 15 = .ok (.iload_n 1, 1) := by decide +kernel
theorem dX2_coinsWithOneMoreAt_16 : decode cX2_coinsWithOneMoreAt 16 = .ok (.invokevirtual 160, 3) := by decide +kernel
theorem dX2_coinsWithOneMoreAt_19 : decode cX2_coinsWithOneMoreAt 19 = .ok (.aload_n 0, 1) := by decide +kernel
theorem dX2_coinsWithOneMoreAt_20 : decode cX2_coinsWithOneMoreAt 20 = .ok (.getfield 19, 3) := by decide +kernel
theorem dX2_coinsWithOneMoreAt_23 : decode cX2_coinsWithOneMoreAt 23 = .ok (.iload_n 2, 1) := by decide +kernel
theorem dX2_coinsWithOneMoreAt_24 : decode cX2_coinsWithOneMoreAt 24 = .ok (.invokevirtual 154, 3) := by decide +kernel
theorem dX2_coinsWithOneMoreAt_27 : decode cX2_coinsWithOneMoreAt 27 = .ok (.ireturn, 1) := by decide +kernel
set_option maxRecDepth 20000 in
theorem ggX2_put_X2_charactersIn : GoodIn wsX2_put wsX2_charactersIn := goodIn_r _ [6, 2, 7, 8] (by decide +kernel) (by decide +kernel)
set_option maxRecDepth 20000 in
theorem gX2_put_X2_charactersIn : GoodIn wsX2_put (va_wsS RX2 164 yX2_charactersIn wsX2_charactersIn) := goodIn_app (goodIn_of _ (by decide +kernel)) ggX2_put_X2_charactersIn
set_option maxRecDepth 20000 in
theorem ggX2_put_X0_append : GoodIn wsX2_put wsX0_append := goodIn_r _ [12, 13, 14, 23, 24, 25, 26, 27, 28, 29, 30] (by decide +kernel) (by decide +kernel)
set_option maxRecDepth 20000 in
theorem gX2_put_X0_append_n170 : GoodIn wsX2_put (wsX0_append) := ggX2_put_X0_append
theorem dX2_put_0 : decode cX2_put 0 = .ok (.lload_n 1, 1) := by decide +kernel
theorem dX2_put_1 : decode cX2_put 1 = .ok (.invokestatic 164, 3) := by decide +kernel
theorem dX2_put_4 : decode cX2_put 4 = .ok (.istore_n 3, 1) := by decide +kernel
theorem dX2_put_5 : decode cX2_put 5 = .ok (.iload_n 3, 1) := by decide +kernel
theorem dX2_put_6 : decode cX2_put 6 = .ok (.ifCond .ne 6, 3) := by decide +kernel
theorem dX2_put_9 : decode cX2_put 9 = .ok (.bipush (-2), 2) := by decide +kernel
theorem dX2_put_11 : decode cX2_put 11 = .ok (.ireturn, 1) := by decide +kernel
theorem dX2_put_12 : decode cX2_put 12 = .ok (.aload_n 0, 1) := by decide +kernel
theorem dX2_put_13 : decode cX2_put 13 = .ok (.getfield 40, 3) := by decide +kernel
theorem dX2_put_16 : decode cX2_put 16 = .ok (.getfield 147, 3) := by decide +kernel
theorem dX2_put_19 : decode cX2_put 19 = .ok (.iload_n 3, 1) := by decide +kernel
theorem dX2_put_20 : decode cX2_put 20 = .ok (.iadd, 1) := by decide +kernel
theorem dX2_put_21 : decode cX2_put 21 = .ok (.bipush 80, 2) := by decide +kernel
theorem dX2_put_23 : decode cX2_put 23 = .ok (.if_icmp .le 6, 3) := by decide +kernel
theorem dX2_put_26 : decode cX2_put 26 = .ok (.bipush (-4), 2) := by decide +kernel
theorem dX2_put_28 : decode cX2_put 28 = .ok (.ireturn, 1) := by decide +kernel
theorem dX2_put_29 : decode cX2_put 29 = .ok (.iload_n 3, 1) := by decide +kernel
theorem dX2_put_30 : decode cX2_put 30 = .ok (.iconst 1, 1) := by decide +kernel
theorem dX2_put_31 : decode cX2_put 31 = .ok (.isub, 1) := by decide +kernel
theorem dX2_put_32 : decode cX2_put 32 = .ok (.istore 4, 2) := by decide +kernel
theorem dX2_put_34 : decode cX2_put 34 = .ok (.iload 4, 2) := by decide +kernel
theorem dX2_put_36 : decode cX2_put 36 = .ok (.ifCond .lt 29, 3) := by decide +kernel
theorem dX2_put_39 : decode cX2_put 39 = .ok (.aload_n 0, 1) := by decide +kernel
theorem dX2_put_40 : decode cX2_put 40 = .ok (.getfield 40, 3) := by decide +kernel
theorem dX2_put_43 : decode cX2_put 43 = .ok (.lload_n 1, 1) := by decide +kernel
theorem dX2_put_44 : decode cX2_put 44 = .ok (.bipush 8, 2) := by decide +kernel
theorem dX2_put_46 : decode cX2_put 46 = .ok (.iload 4, 2) := by decide +kernel
theorem dX2_put_48 : decode cX2_put 48 = .ok (.imul, 1) := by decide +kernel
theorem dX2_put_49 : decode cX2_put 49 = .ok (.lushr, 1) := by decide +kernel
theorem dX2_put_50 : decode cX2_put 50 = .ok (.ldc2_w 168, 3) := by decide +kernel
theorem dX2_put_53 : decode cX2_put 53 = .ok (.land, 1) := by decide +kernel
theorem dX2_put_54 : decode cX2_put 54 = .ok (.l2i, 1) := by decide +kernel
theorem dX2_put_55 : decode cX2_put 55 = .ok (.i2c, 1) := by decide +kernel
theorem dX2_put_56 : decode cX2_put 56 = .ok (.invokevirtual 170, 3) := by decide +kernel
theorem dX2_put_59 : decode cX2_put 59 = .ok (.iinc 4 (-1), 3) := by decide +kernel
theorem dX2_put_62 : decode cX2_put 62 = .ok (.goto (-28), 3) := by decide +kernel
theorem dX2_put_65 : decode cX2_put 65 = .ok (.aload_n 0, 1) := by decide +kernel
theorem dX2_put_66 : decode cX2_put 66 = .ok (.getfield 40, 3) := by decide +kernel
theorem dX2_put_69 : decode cX2_put 69 = .ok (.getfield 147, 3) := by decide +kernel
theorem dX2_put_72 : decode cX2_put 72 = .ok (.ireturn, 1) := by decide +kernel
theorem dX2_charactersIn_0 : decode cX2_charactersIn 0 = .ok (.lload_n 0, 1) := by decide +kernel
theorem dX2_charactersIn_1 : decode cX2_charactersIn 1 = .ok (.lstore_n 2, 1) := by decide +kernel
theorem dX2_charactersIn_2 : decode cX2_charactersIn 2 = .ok (.iconst 0, 1) := by decide +kernel
theorem dX2_charactersIn_3 : decode cX2_charactersIn 3 = .ok (.istore 4, 2) := by decide +kernel
theorem dX2_charactersIn_5 : decode cX2_charactersIn 5 = .ok (.iload 4, 2) := by decide +kernel
theorem dX2_charactersIn_7 : decode cX2_charactersIn 7 = .ok (.bipush 8, 2) := by decide +kernel
theorem dX2_charactersIn_9 : decode cX2_charactersIn 9 = .ok (.if_icmp .ge 51, 3) := by decide +kernel
theorem dX2_charactersIn_12 : decode cX2_charactersIn 12 = .ok (.lload_n 2, 1) := by decide +kernel
theorem dX2_charactersIn_13 : decode cX2_charactersIn 13 = .ok (.ldc2_w 168, 3) := by decide +kernel
theorem dX2_charactersIn_16 : decode cX2_charactersIn 16 = .ok (.land, 1) := by decide +kernel
theorem dX2_charactersIn_17 : decode cX2_charactersIn 17 = .ok (.lconst 0, 1) := by decide +kernel
theorem dX2_charactersIn_18 : decode cX2_charactersIn 18 = .ok (.lcmp, 1) := by decide +kernel
theorem dX2_charactersIn_19 : decode cX2_charactersIn 19 = .ok (.ifCond .eq 41, 3) := by decide +kernel
theorem dX2_charactersIn_22 : decode cX2_charactersIn 22 = .ok (.lload_n 2, 1) := by decide +kernel
theorem dX2_charactersIn_23 : decode cX2_charactersIn 23 = .ok (.ldc2_w 168, 3) := by decide +kernel
theorem dX2_charactersIn_26 : decode cX2_charactersIn 26 = .ok (.land, 1) := by decide +kernel
theorem dX2_charactersIn_27 : decode cX2_charactersIn 27 = .ok (.lstore 5, 2) := by decide +kernel
theorem dX2_charactersIn_29 : decode cX2_charactersIn 29 = .ok (.lload 5, 2) := by decide +kernel
theorem dX2_charactersIn_31 : decode cX2_charactersIn 31 = .ok (.ldc2_w 174, 3) := by decide +kernel
theorem dX2_charactersIn_34 : decode cX2_charactersIn 34 = .ok (.lcmp, 1) := by decide +kernel
theorem dX2_charactersIn_35 : decode cX2_charactersIn 35 = .ok (.ifCond .lt 12, 3) := by decide +kernel
theorem dX2_charactersIn_38 : decode cX2_charactersIn 38 = .ok (.lload 5, 2) := by decide +kernel
theorem dX2_charactersIn_40 : decode cX2_charactersIn 40 = .ok (.ldc2_w 176, 3) := by decide +kernel
theorem dX2_charactersIn_43 : decode cX2_charactersIn 43 = .ok (.lcmp, 1) := by decide +kernel
theorem dX2_charactersIn_44 : decode cX2_charactersIn 44 = .ok (.ifCond .le 5, 3) := by decide +kernel
theorem dX2_charactersIn_47 : decode cX2_charactersIn 47 = .ok (.iconst 0, 1) := by decide +kernel
theorem dX2_charactersIn_48 : decode cX2_charactersIn 48 = .ok (.ireturn, 1) := by decide +kernel
theorem dX2_charactersIn_49 : decode cX2_charactersIn 49 = .ok (.lload_n 2, 1) := by decide +kernel
theorem dX2_charactersIn_50 : decode cX2_charactersIn 50 = .ok (.bipush 8, 2) := by decide +kernel
theorem dX2_charactersIn_52 : decode cX2_charactersIn 52 = .ok (.lushr, 1) := by decide +kernel
theorem dX2_charactersIn_53 : decode cX2_charactersIn 53 = .ok (.lstore_n 2, 1) := by decide +kernel
theorem dX2_charactersIn_54 : decode cX2_charactersIn 54 = .ok (.iinc 4 1, 3) := by decide +kernel
theorem dX2_charactersIn_57 : decode cX2_charactersIn 57 = .ok (.goto (-52), 3) := by decide +kernel
theorem dX2_charactersIn_60 : decode cX2_charactersIn 60 = .ok (.lload_n 2, 1) := by decide +kernel
theorem dX2_charactersIn_61 : decode cX2_charactersIn 61 = .ok (.lconst 0, 1) := by decide +kernel
theorem dX2_charactersIn_62 : decode cX2_charactersIn 62 = .ok (.lcmp, 1) := by decide +kernel
theorem dX2_charactersIn_63 : decode cX2_charactersIn 63 = .ok (.ifCond .ne 8, 3) := by decide +kernel
theorem dX2_charactersIn_66 : decode cX2_charactersIn 66 = .ok (.iload 4, 2) := by decide +kernel
theorem dX2_charactersIn_68 : decode cX2_charactersIn 68 = .ok (.goto 4, 3) := by decide +kernel
theorem dX2_charactersIn_71 : decode cX2_charactersIn 71 = .ok (.iconst 0, 1) := by decide +kernel
theorem dX2_charactersIn_72 : decode cX2_charactersIn 72 = .ok (.ireturn, 1) := by decide +kernel
set_option maxRecDepth 20000 in
theorem ggX2_wipe_X0_clear : GoodIn wsX2_wipe wsX0_clear := goodIn_r _ [5, 6, 15, 16, 17, 18, 19, 20, 21, 22] (by decide +kernel) (by decide +kernel)
set_option maxRecDepth 20000 in
theorem gX2_wipe_X0_clear_n178 : GoodIn wsX2_wipe (wsX0_clear) := ggX2_wipe_X0_clear
theorem dX2_wipe_0 : decode cX2_wipe 0 = .ok (.aload_n 0, 1) := by decide +kernel
theorem dX2_wipe_1 : decode cX2_wipe 1 = .ok (.getfield 40, 3) := by decide +kernel
theorem dX2_wipe_4 : decode cX2_wipe 4 = .ok (.getfield 147, 3) := by decide +kernel
theorem dX2_wipe_7 : decode cX2_wipe 7 = .ok (.istore_n 1, 1) := by decide +kernel
theorem dX2_wipe_8 : decode cX2_wipe 8 = .ok (.aload_n 0, 1) := by decide +kernel
theorem dX2_wipe_9 : decode cX2_wipe 9 = .ok (.getfield 40, 3) := by decide +kernel
theorem dX2_wipe_12 : decode cX2_wipe 12 = .ok (.invokevirtual 178, 3) := by decide +kernel
theorem dX2_wipe_15 : decode cX2_wipe 15 = .ok (.iload_n 1, 1) := by decide +kernel
theorem dX2_wipe_16 : decode cX2_wipe 16 = .ok (.ireturn, 1) := by decide +kernel
set_option maxRecDepth 20000 in
theorem ggX2_fault_X0_findFault : GoodIn wsX2_fault wsX0_findFault := goodIn_r _ [5, 6, 7, 8, 9, 10, 3, 11, 12, 13, 14, 15, 16, 17, 18, 19, 20, 21, 22, 23, 24, 25, 26, 27, 28, 29, 30, 31, 32, 33, 34, 35, 36, 37, 38, 39, 40, 41, 42, 43, 44, 53, 54, 55, 56, 57, 58, 59, 60] (by decide +kernel) (by decide +kernel)
set_option maxRecDepth 20000 in
theorem gX2_fault_X0_findFault_n181 : GoodIn wsX2_fault (wsX0_findFault) := ggX2_fault_X0_findFault
theorem dX2_fault_0 : decode cX2_fault 0 = .ok (.aload_n 0, 1) := by decide +kernel
theorem dX2_fault_1 : decode cX2_fault 1 = .ok (.getfield 40, 3) := by decide +kernel
theorem dX2_fault_4 : decode cX2_fault 4 = .ok (.invokevirtual 181, 3) := by decide +kernel
theorem dX2_fault_7 : decode cX2_fault 7 = .ok (.ireturn, 1) := by decide +kernel
set_option maxRecDepth 20000 in
theorem ggX2_carryOut_X0_findFault : GoodIn wsX2_carryOut wsX0_findFault := goodIn_r _ [7, 8, 9, 10, 11, 12, 5, 13, 14, 15, 16, 17, 18, 19, 20, 21, 22, 23, 24, 25, 26, 27, 28, 29, 30, 31, 32, 33, 34, 35, 36, 37, 38, 39, 40, 41, 42, 43, 44, 45, 46, 200, 201, 202, 203, 204, 205, 206, 207] (by decide +kernel) (by decide +kernel)
set_option maxRecDepth 20000 in
theorem gX2_carryOut_X0_findFault_n181 : GoodIn wsX2_carryOut (wsX0_findFault) := ggX2_carryOut_X0_findFault
set_option maxRecDepth 20000 in
theorem ggX2_carryOut_X2_copy : GoodIn wsX2_carryOut wsX2_copy := goodIn_r _ [50, 51, 52, 53, 54, 208, 209, 210, 211, 212, 213, 214, 215, 216, 217, 218, 219, 220, 221, 222, 223, 224, 225] (by decide +kernel) (by decide +kernel)
set_option maxRecDepth 20000 in
theorem gX2_carryOut_X2_copy : GoodIn wsX2_carryOut (va_wsS RX2 44 yX2_copy wsX2_copy) := goodIn_app (goodIn_of _ (by decide +kernel)) ggX2_carryOut_X2_copy
set_option maxRecDepth 20000 in
theorem ggX2_carryOut_X0_rewind : GoodIn wsX2_carryOut wsX0_rewind := goodIn_r _ [13, 9, 8, 200, 201, 202, 203, 204, 205, 206, 207] (by decide +kernel) (by decide +kernel)
set_option maxRecDepth 20000 in
theorem gX2_carryOut_X0_rewind_n184 : GoodIn wsX2_carryOut (wsX0_rewind) := ggX2_carryOut_X0_rewind
set_option maxRecDepth 20000 in
theorem ggX2_carryOut_X0_readOrder : GoodIn wsX2_carryOut wsX0_readOrder := goodIn_r _ [17, 18, 19, 20, 8, 21, 9, 22, 23, 24, 25, 5, 26, 27, 28, 29, 30, 31, 32, 33, 34, 35, 36, 37, 38, 39, 40, 41, 42, 43, 44, 45, 46, 200, 201, 202, 203, 204, 205, 206, 207] (by decide +kernel) (by decide +kernel)
set_option maxRecDepth 20000 in
theorem gX2_carryOut_X0_readOrder_n191 : GoodIn wsX2_carryOut (wsX0_readOrder) := ggX2_carryOut_X0_readOrder
set_option maxRecDepth 20000 in
theorem ggX2_carryOut_X2_answerToOrder : GoodIn wsX2_carryOut wsX2_answerToOrder := goodIn_r _ [58, 1, 2, 59, 60, 61, 62, 63, 64, 65, 66, 67, 68, 69, 49, 70, 71, 72, 73, 74, 75, 76, 77, 78, 79, 80, 81, 82, 83, 84, 85, 86, 87, 88, 89, 90, 91, 92, 93, 94, 95, 96, 97, 98, 99, 100, 101, 102, 103, 104, 105, 106, 107, 108, 109, 110, 111, 112, 113, 114, 115, 116, 117, 118, 119, 120, 121, 122, 123, 124, 125, 126, 127, 128, 129, 130, 131, 132, 133, 134, 135, 136, 137, 138, 139, 140, 141, 142, 143, 144, 145, 146, 147, 148, 149, 150, 151, 152, 153, 154, 155, 156, 157, 158, 159, 160, 161, 162, 163, 164, 165, 166, 167, 168, 169, 170, 171, 172, 173, 174, 175, 176, 177, 178, 192, 193, 194, 195, 196, 197, 198, 199, 200, 201, 202, 203, 204, 205, 206, 207, 208, 209, 210, 211, 212, 213, 214, 215, 216, 217, 218, 219, 220, 221, 222, 223, 224, 225] (by decide +kernel) (by decide +kernel)
set_option maxRecDepth 20000 in
theorem gX2_carryOut_X2_answerToOrder : GoodIn wsX2_carryOut (wsV RX2 194 RX2 yX2_answerToOrder wsX2_answerToOrder) := goodIn_app (goodIn_of _ (by decide +kernel)) ggX2_carryOut_X2_answerToOrder
set_option maxRecDepth 20000 in
theorem ggX2_carryOut_X0_clear : GoodIn wsX2_carryOut wsX0_clear := goodIn_r _ [181, 22, 200, 201, 202, 203, 204, 205, 206, 207] (by decide +kernel) (by decide +kernel)
set_option maxRecDepth 20000 in
theorem gX2_carryOut_X0_clear_n178 : GoodIn wsX2_carryOut (wsX0_clear) := ggX2_carryOut_X0_clear
set_option maxRecDepth 20000 in
theorem ggX2_carryOut_X2_recorded : GoodIn wsX2_carryOut wsX2_recorded := goodIn_r _ [185, 186, 3, 187, 188, 189, 190, 49, 191, 47, 48, 50, 51, 52, 53, 54, 192, 193, 194, 195, 196, 197, 198, 199, 208, 209, 210, 211, 212, 213, 214, 215, 216, 217, 218, 219, 220, 221, 222, 223, 224, 225] (by decide +kernel) (by decide +kernel)
set_option maxRecDepth 20000 in
theorem gX2_carryOut_X2_recorded : GoodIn wsX2_carryOut (wsV RX2 52 RX2 yX2_recorded wsX2_recorded) := goodIn_app (goodIn_of _ (by decide +kernel)) ggX2_carryOut_X2_recorded
theorem dX2_carryOut_0 : decode cX2_carryOut 0 = .ok (.aload_n 0, 1) := by decide +kernel
theorem dX2_carryOut_1 : decode cX2_carryOut 1 = .ok (.getfield 40, 3) := by decide +kernel
theorem dX2_carryOut_4 : decode cX2_carryOut 4 = .ok (.invokevirtual 181, 3) := by decide +kernel
theorem dX2_carryOut_7 : decode cX2_carryOut 7 = .ok (.bipush (-6), 2) := by decide +kernel
theorem dX2_carryOut_9 : decode cX2_carryOut 9 = .ok (.if_icmp .eq 6, 3) := by decide +kernel
theorem dX2_carryOut_12 : decode cX2_carryOut 12 = .ok (.bipush (-3), 2) := by decide +kernel
theorem dX2_carryOut_14 : decode cX2_carryOut 14 = .ok (.ireturn, 1) := by decide +kernel
theorem dX2_carryOut_15 : decode cX2_carryOut 15 = .ok (.aload_n 0, 1) := by decide +kernel
theorem dX2_carryOut_16 : decode cX2_carryOut 16 = .ok (.getfield 10, 3) := by decide +kernel
theorem dX2_carryOut_19 : decode cX2_carryOut 19 = .ok (.aload_n 0, 1) := by decide +kernel
theorem dX2_carryOut_20 : decode cX2_carryOut 20 = .ok (.getfield 16, 3) := by decide +kernel
theorem dX2_carryOut_23 : decode cX2_carryOut 23 = .ok (.invokestatic 44, 3) := by decide +kernel
theorem dX2_carryOut_26 : decode cX2_carryOut 26 = .ok (.aload_n 0, 1) := by decide +kernel
theorem dX2_carryOut_27 : decode cX2_carryOut 27 = .ok (.getfield 40, 3) := by decide +kernel
theorem dX2_carryOut_30 : decode cX2_carryOut 30 = .ok (.invokevirtual 184, 3) := by decide +kernel
theorem dX2_carryOut_33 : decode cX2_carryOut 33 = .ok (.iconst 0, 1) := by decide +kernel
theorem dX2_carryOut_34 : decode cX2_carryOut 34 = .ok (.istore_n 1, 1) := by decide +kernel
theorem dX2_carryOut_35 : decode cX2_carryOut 35 = .ok (.iload_n 1, 1) := by decide +kernel
theorem dX2_carryOut_36 : decode cX2_carryOut 36 = .ok (.bipush 80, 2) := by decide +kernel
theorem dX2_carryOut_38 : decode cX2_carryOut 38 = .ok (.if_icmp .ge 36, 3) := by decide +kernel
theorem dX2_carryOut_41 : decode cX2_carryOut 41 = .ok (.aload_n 0, 1) := by decide +kernel
theorem dX2_carryOut_42 : decode cX2_carryOut 42 = .ok (.getfield 40, 3) := by decide +kernel
theorem dX2_carryOut_45 : decode cX2_carryOut 45 = .ok (.getfield 187, 3) := by decide +kernel
theorem dX2_carryOut_48 : decode cX2_carryOut 48 = .ok (.ifCond .eq 26, 3) := by decide +kernel
theorem dX2_carryOut_51 : decode cX2_carryOut 51 = .ok (.aload_n 0, 1) := by decide +kernel
theorem dX2_carryOut_52 : decode cX2_carryOut 52 = .ok (.getfield 40, 3) := by decide +kernel
theorem dX2_carryOut_55 : decode cX2_carryOut 55 = .ok (.invokevirtual 191, 3) := by decide +kernel
theorem dX2_carryOut_58 : decode cX2_carryOut 58 = .ok (.ifCond .eq 16, 3) := by decide +kernel
theorem dX2_carryOut_61 : decode cX2_carryOut 61 = .ok (.aload_n 0, 1) := by decide +kernel
theorem dX2_carryOut_62 : decode cX2_carryOut 62 = .ok (.invokevirtual 194, 3) := by decide +kernel
theorem dX2_carryOut_65 : decode cX2_carryOut 65 = .ok (.ifCond .lt 9, 3) := by decide +kernel
theorem dX2_carryOut_68 : decode cX2_carryOut 68 = .ok (.iinc 1 1, 3) := by decide +kernel
theorem dX2_carryOut_71 : decode cX2_carryOut 71 = .ok (.goto (-36), 3) := by decide +kernel
theorem dX2_carryOut_74 : decode cX2_carryOut 74 = .ok (.aload_n 0, 1) := by decide +kernel
theorem dX2_carryOut_75 : decode cX2_carryOut 75 = .ok (.getfield 40, 3) := by decide +kernel
theorem dX2_carryOut_78 : decode cX2_carryOut 78 = .ok (.invokevirtual 178, 3) := by decide +kernel
theorem dX2_carryOut_81 : decode cX2_carryOut 81 = .ok (.aload_n 0, 1) := by decide +kernel
theorem dX2_carryOut_82 : decode cX2_carryOut 82 = .ok (.iload_n 1, 1) := by decide +kernel
theorem dX2_carryOut_83 : decode cX2_carryOut 83 = .ok (.invokevirtual 52, 3) := by decide +kernel
theorem dX2_carryOut_86 : decode cX2_carryOut 86 = .ok (.ireturn, 1) := by decide +kernel
set_option maxRecDepth 20000 in
theorem ggX2_answerToOrder_X1_addPiano : GoodIn wsX2_answerToOrder wsX1_addPiano := goodIn_r _ [6, 7, 8, 9, 10, 11, 12, 13, 14, 15, 16, 17, 18, 19, 20, 21, 22, 23, 24, 140, 141, 142, 143, 144, 145, 146, 147, 148, 149, 150, 151, 152, 153, 154, 155, 156, 157] (by decide +kernel) (by decide +kernel)
set_option maxRecDepth 20000 in
theorem gX2_answerToOrder_X1_addPiano_n59 : GoodIn wsX2_answerToOrder (wsX1_addPiano) := ggX2_answerToOrder_X1_addPiano
set_option maxRecDepth 20000 in
theorem ggX2_answerToOrder_X1_hireKeeper : GoodIn wsX2_answerToOrder wsX1_hireKeeper := goodIn_r _ [27, 28, 13, 14, 15, 29, 30, 31, 4, 32, 33, 34, 35, 36, 37, 140, 141, 142, 143, 144, 145, 146, 147, 148, 149, 150, 151, 152, 153, 154, 155, 156, 157] (by decide +kernel) (by decide +kernel)
set_option maxRecDepth 20000 in
theorem gX2_answerToOrder_X1_hireKeeper_n65 : GoodIn wsX2_answerToOrder (wsX1_hireKeeper) := ggX2_answerToOrder_X1_hireKeeper
set_option maxRecDepth 20000 in
theorem ggX2_answerToOrder_X1_layCover : GoodIn wsX2_answerToOrder wsX1_layCover := goodIn_r _ [40, 7, 8, 41, 16, 14, 17, 18, 19, 20, 21, 22, 23, 24, 140, 141, 142, 143, 144, 145, 146, 147, 148, 149, 150, 151, 152, 153, 154, 155, 156, 157] (by decide +kernel) (by decide +kernel)
set_option maxRecDepth 20000 in
theorem gX2_answerToOrder_X1_layCover_n68 : GoodIn wsX2_answerToOrder (wsX1_layCover) := ggX2_answerToOrder_X1_layCover
set_option maxRecDepth 20000 in
theorem ggX2_answerToOrder_X1_changeRain : GoodIn wsX2_answerToOrder wsX1_changeRain := goodIn_r _ [44, 45, 46, 140, 141, 142, 143, 144, 145, 146, 147, 148, 149, 150, 151, 152, 153, 154, 155, 156, 157] (by decide +kernel) (by decide +kernel)
set_option maxRecDepth 20000 in
theorem gX2_answerToOrder_X1_changeRain_n56 : GoodIn wsX2_answerToOrder (wsX1_changeRain) := ggX2_answerToOrder_X1_changeRain
set_option maxRecDepth 20000 in
theorem ggX2_answerToOrder_X1_passCounted : GoodIn wsX2_answerToOrder wsX1_passCounted := goodIn_r _ [49, 50, 51, 52, 53, 4, 54, 55, 56, 57, 58, 59, 28, 8, 41, 33, 60, 61, 62, 63, 64, 65, 66, 67, 68, 46, 69, 70, 71, 16, 14, 17, 72, 73, 74, 75, 9, 76, 77, 78, 79, 7, 80, 81, 82, 83, 37, 84, 85, 86, 87, 88, 89, 90, 91, 36, 92, 93, 94, 95, 34, 96, 97, 98, 99, 35, 100, 101, 102, 103, 10, 104, 105, 106, 12, 107, 108, 109, 110, 111, 112, 113, 114, 11, 115, 116, 117, 118, 119, 120, 121, 122, 123, 140, 141, 142, 143, 144, 145, 146, 147, 148, 149, 150, 151, 152, 153, 154, 155, 156, 157] (by decide +kernel) (by decide +kernel)
set_option maxRecDepth 20000 in
theorem gX2_answerToOrder_X1_passCounted_n71 : GoodIn wsX2_answerToOrder (wsX1_passCounted) := ggX2_answerToOrder_X1_passCounted
theorem dX2_answerToOrder_0 : decode cX2_answerToOrder 0 = .ok (.aload_n 0, 1) := by decide +kernel
theorem dX2_answerToOrder_1 : decode cX2_answerToOrder 1 = .ok (.getfield 40, 3) := by decide +kernel
theorem dX2_answerToOrder_4 : decode cX2_answerToOrder 4 = .ok (.getfield 197, 3) := by decide +kernel
theorem dX2_answerToOrder_7 : decode cX2_answerToOrder 7 = .ok (.lookupswitch 131 #[(99, 86), (107, 71), (112, 49), (114, 101), (116, 116)], 49) := by decide +kernel
theorem dX2_answerToOrder_56 : decode cX2_answerToOrder 56 = .ok (.aload_n 0, 1) := by decide +kernel
theorem dX2_answerToOrder_57 : decode cX2_answerToOrder 57 = .ok (.getfield 10, 3) := by decide +kernel
theorem dX2_answerToOrder_60 : decode cX2_answerToOrder 60 = .ok (.aload_n 0, 1) := by decide +kernel
theorem dX2_answerToOrder_61 : decode cX2_answerToOrder 61 = .ok (.getfield 40, 3) := by decide +kernel
theorem dX2_answerToOrder_64 : decode cX2_answerToOrder 64 = .ok (.getfield 201, 3) := by decide +kernel
theorem dX2_answerToOrder_67 : decode cX2_answerToOrder 67 = .ok (.aload_n 0, 1) := by decide +kernel
theorem dX2_answerToOrder_68 : decode cX2_answerToOrder 68 = .ok (.getfield 40, 3) := by decide +kernel
theorem dX2_answerToOrder_71 : decode cX2_answerToOrder 71 = .ok (.getfield 204, 3) := by decide +kernel
theorem dX2_answerToOrder_74 : decode cX2_answerToOrder 74 = .ok (.invokevirtual 59, 3) := by decide +kernel
theorem dX2_answerToOrder_77 : decode cX2_answerToOrder 77 = .ok (.ireturn, 1) := by decide +kernel
theorem dX2_answerToOrder_78 : decode cX2_answerToOrder 78 = .ok (.aload_n 0, 1) := by decide +kernel
theorem dX2_answerToOrder_79 : decode cX2_answerToOrder 79 = .ok (.getfield 10, 3) := by decide +kernel
theorem dX2_answerToOrder_82 : decode cX2_answerToOrder 82 = .ok (.aload_n 0, 1) := by decide +kernel
theorem dX2_answerToOrder_83 : decode cX2_answerToOrder 83 = .ok (.getfield 40, 3) := by decide +kernel
theorem dX2_answerToOrder_86 : decode cX2_answerToOrder 86 = .ok (.getfield 201, 3) := by decide +kernel
theorem dX2_answerToOrder_89 : decode cX2_answerToOrder 89 = .ok (.invokevirtual 65, 3) := by decide +kernel
theorem dX2_answerToOrder_92 : decode cX2_answerToOrder 92 = .ok (.ireturn, 1) := by decide +kernel
theorem dX2_answerToOrder_93 : decode cX2_answerToOrder 93 = .ok (.aload_n 0, 1) := by decide +kernel
theorem dX2_answerToOrder_94 : decode cX2_answerToOrder 94 = .ok (.getfield 10, 3) := by decide +kernel
theorem dX2_answerToOrder_97 : decode cX2_answerToOrder 97 = .ok (.aload_n 0, 1) := by decide +kernel
theorem dX2_answerToOrder_98 : decode cX2_answerToOrder 98 = .ok (.getfield 40, 3) := by decide +kernel
theorem dX2_answerToOrder_101 : decode cX2_answerToOrder 101 = .ok (.getfield 201, 3) := by decide +kernel
theorem dX2_answerToOrder_104 : decode cX2_answerToOrder 104 = .ok (.invokevirtual 68, 3) := by decide +kernel
theorem dX2_answerToOrder_107 : decode cX2_answerToOrder 107 = .ok (.ireturn, 1) := by decide +kernel
theorem dX2_answerToOrder_108 : decode cX2_answerToOrder 108 = .ok (.aload_n 0, 1) := by decide +kernel
theorem dX2_answerToOrder_109 : decode cX2_answerToOrder 109 = .ok (.getfield 10, 3) := by decide +kernel
theorem dX2_answerToOrder_112 : decode cX2_answerToOrder 112 = .ok (.aload_n 0, 1) := by decide +kernel
theorem dX2_answerToOrder_113 : decode cX2_answerToOrder 113 = .ok (.getfield 40, 3) := by decide +kernel
theorem dX2_answerToOrder_116 : decode cX2_answerToOrder 116 = .ok (.getfield 207, 3) := by decide +kernel
theorem dX2_answerToOrder_119 : decode cX2_answerToOrder 119 = .ok (.invokevirtual 56, 3) := by decide +kernel
theorem dX2_answerToOrder_122 : decode cX2_answerToOrder 122 = .ok (.ireturn, 1) := by decide +kernel
theorem dX2_answerToOrder_123 : decode cX2_answerToOrder 123 = .ok (.aload_n 0, 1) := by decide +kernel
theorem dX2_answerToOrder_124 : decode cX2_answerToOrder 124 = .ok (.getfield 10, 3) := by decide +kernel
theorem dX2_answerToOrder_127 : decode cX2_answerToOrder 127 = .ok (.aload_n 0, 1) := by decide +kernel
theorem dX2_answerToOrder_128 : decode cX2_answerToOrder 128 = .ok (.getfield 40, 3) := by decide +kernel
theorem dX2_answerToOrder_131 : decode cX2_answerToOrder 131 = .ok (.getfield 201, 3) := by decide +kernel
theorem dX2_answerToOrder_134 : decode cX2_answerToOrder 134 = .ok (.invokevirtual 71, 3) := by decide +kernel
theorem dX2_answerToOrder_137 : decode cX2_answerToOrder 137 = .ok (.ireturn, 1) := by decide +kernel
theorem dX2_answerToOrder_138 : decode cX2_answerToOrder 138 = .ok (.bipush (-3), 2) := by decide +kernel
theorem dX2_answerToOrder_140 : decode cX2_answerToOrder 140 = .ok (.ireturn, 1) := by decide +kernel
set_option maxRecDepth 20000 in
theorem ggX2_undo_X2_copy : GoodIn wsX2_undo wsX2_copy := goodIn_r _ [7, 8, 9, 10, 11, 20, 21, 22, 23, 24, 25, 26, 27, 28, 29, 30, 31, 32, 33, 34, 35, 36, 37] (by decide +kernel) (by decide +kernel)
set_option maxRecDepth 20000 in
theorem gX2_undo_X2_copy : GoodIn wsX2_undo (va_wsS RX2 44 yX2_copy wsX2_copy) := goodIn_app (goodIn_of _ (by decide +kernel)) ggX2_undo_X2_copy
theorem dX2_undo_0 : decode cX2_undo 0 = .ok (.aload_n 0, 1) := by decide +kernel
theorem dX2_undo_1 : decode cX2_undo 1 = .ok (.getfield 26, 3) := by decide +kernel
theorem dX2_undo_4 : decode cX2_undo 4 = .ok (.iconst 1, 1) := by decide +kernel
theorem dX2_undo_5 : decode cX2_undo 5 = .ok (.if_icmp .lt 12, 3) := by decide +kernel
theorem dX2_undo_8 : decode cX2_undo 8 = .ok (.aload_n 0, 1) := by decide +kernel
theorem dX2_undo_9 : decode cX2_undo 9 = .ok (.getfield 26, 3) := by decide +kernel
theorem dX2_undo_12 : decode cX2_undo 12 = .ok (.bipush 6, 2) := by decide +kernel
theorem dX2_undo_14 : decode cX2_undo 14 = .ok (.if_icmp .le 6, 3) := by decide +kernel
theorem dX2_undo_17 : decode cX2_undo 17 = .ok (.bipush (-5), 2) := by decide +kernel
theorem dX2_undo_19 : decode cX2_undo 19 = .ok (.ireturn, 1) := by decide +kernel
theorem dX2_undo_20 : decode cX2_undo 20 = .ok (.aload_n 0, 1) := by decide +kernel
theorem dX2_undo_21 : decode cX2_undo 21 = .ok (.dup, 1) := by decide +kernel
theorem dX2_undo_22 : decode cX2_undo 22 = .ok (.getfield 26, 3) := by decide +kernel
theorem dX2_undo_25 : decode cX2_undo 25 = .ok (.iconst 1, 1) := by decide +kernel
theorem dX2_undo_26 : decode cX2_undo 26 = .ok (.isub, 1) := by decide +kernel
theorem dX2_undo_27 : decode cX2_undo 27 = .ok (.putfield 26, 3) := by decide +kernel
theorem dX2_undo_30 : decode cX2_undo 30 = .ok (.aload_n 0, 1) := by decide +kernel
theorem dX2_undo_31 : decode cX2_undo 31 = .ok (.getfield 22, 3) := by decide +kernel
theorem dX2_undo_34 : decode cX2_undo 34 = .ok (.aload_n 0, 1) := by decide +kernel
theorem dX2_undo_35 : decode cX2_undo 35 = .ok (.getfield 26, 3) := by decide +kernel
theorem dX2_undo_38 : decode cX2_undo 38 = .ok (.aaload, 1) := by decide +kernel
theorem dX2_undo_39 : decode cX2_undo 39 = .ok (.aload_n 0, 1) := by decide +kernel
theorem dX2_undo_40 : decode cX2_undo 40 = .ok (.getfield 10, 3) := by decide +kernel
theorem dX2_undo_43 : decode cX2_undo 43 = .ok (.invokestatic 44, 3) := by decide +kernel
theorem dX2_undo_46 : decode cX2_undo 46 = .ok (.aload_n 0, 1) := by decide +kernel
theorem dX2_undo_47 : decode cX2_undo 47 = .ok (.getfield 26, 3) := by decide +kernel
theorem dX2_undo_50 : decode cX2_undo 50 = .ok (.ireturn, 1) := by decide +kernel
set_option maxRecDepth 20000 in
theorem ggX2_save_X2_copy : GoodIn wsX2_save wsX2_copy := goodIn_r _ [7, 8, 9, 10, 11, 27, 28, 29, 30, 31, 32, 33, 34, 35, 36, 37, 38, 39, 40, 41, 42, 43, 44] (by decide +kernel) (by decide +kernel)
set_option maxRecDepth 20000 in
theorem gX2_save_X2_copy : GoodIn wsX2_save (va_wsS RX2 44 yX2_copy wsX2_copy) := goodIn_app (goodIn_of _ (by decide +kernel)) ggX2_save_X2_copy
set_option maxRecDepth 20000 in
theorem ggX2_save_J6_bitCount_0f7a4 : GoodIn wsX2_save wsJ6_bitCount_0f7a4 := goodIn_r _ [15, 16, 17, 18] (by decide +kernel) (by decide +kernel)
set_option maxRecDepth 20000 in
theorem gX2_save_J6_bitCount_0f7a4 : GoodIn wsX2_save (va_wsS RX2 208 yJ6_bitCount_0f7a4 wsJ6_bitCount_0f7a4) := goodIn_app (goodIn_of _ (by decide +kernel)) ggX2_save_J6_bitCount_0f7a4
theorem dX2_save_0 : decode cX2_save 0 = .ok (.iload_n 1, 1) := by decide +kernel
theorem dX2_save_1 : decode cX2_save 1 = .ok (.ifCond .lt 8, 3) := by decide +kernel
theorem dX2_save_4 : decode cX2_save 4 = .ok (.iload_n 1, 1) := by decide +kernel
theorem dX2_save_5 : decode cX2_save 5 = .ok (.iconst 2, 1) := by decide +kernel
theorem dX2_save_6 : decode cX2_save 6 = .ok (.if_icmp .lt 6, 3) := by decide +kernel
theorem dX2_save_9 : decode cX2_save 9 = .ok (.bipush (-2), 2) := by decide +kernel
theorem dX2_save_11 : decode cX2_save 11 = .ok (.ireturn, 1) := by decide +kernel
theorem dX2_save_12 : decode cX2_save 12 = .ok (.aload_n 0, 1) := by decide +kernel
theorem dX2_save_13 : decode cX2_save 13 = .ok (.getfield 10, 3) := by decide +kernel
theorem dX2_save_16 : decode cX2_save 16 = .ok (.aload_n 0, 1) := by decide +kernel
theorem dX2_save_17 : decode cX2_save 17 = .ok (.getfield 30, 3) := by decide +kernel
theorem dX2_save_20 : decode cX2_save 20 = .ok (.iload_n 1, 1) := by decide +kernel
theorem dX2_save_21 : decode cX2_save 21 = .ok (.aaload, 1) := by decide +kernel
theorem dX2_save_22 : decode cX2_save 22 = .ok (.invokestatic 44, 3) := by decide +kernel
theorem dX2_save_25 : decode cX2_save 25 = .ok (.aload_n 0, 1) := by decide +kernel
theorem dX2_save_26 : decode cX2_save 26 = .ok (.getfield 33, 3) := by decide +kernel
theorem dX2_save_29 : decode cX2_save 29 = .ok (.iload_n 1, 1) := by decide +kernel
theorem dX2_save_30 : decode cX2_save 30 = .ok (.iconst 1, 1) := by decide +kernel
theorem dX2_save_31 : decode cX2_save 31 = .ok (.bastore, 1) := by decide +kernel
theorem dX2_save_32 : decode cX2_save 32 = .ok (.aload_n 0, 1) := by decide +kernel
theorem dX2_save_33 : decode cX2_save 33 = .ok (.getfield 10, 3) := by decide +kernel
theorem dX2_save_36 : decode cX2_save 36 = .ok (.getfield 74, 3) := by decide +kernel
theorem dX2_save_39 : decode cX2_save 39 = .ok (.invokestatic 208, 3) := by decide +kernel
theorem dX2_save_42 : decode cX2_save 42 = .ok (.ireturn, 1) := by decide +kernel
set_option maxRecDepth 20000 in
theorem ggX2_restore_X2_copy : GoodIn wsX2_restore wsX2_copy := goodIn_r _ [8, 9, 10, 11, 12, 38, 39, 40, 41, 42, 43, 44, 45, 46, 47, 48, 49, 50, 51, 52, 53, 54, 55] (by decide +kernel) (by decide +kernel)
set_option maxRecDepth 20000 in
theorem gX2_restore_X2_copy : GoodIn wsX2_restore (va_wsS RX2 44 yX2_copy wsX2_copy) := goodIn_app (goodIn_of _ (by decide +kernel)) ggX2_restore_X2_copy
set_option maxRecDepth 20000 in
theorem ggX2_restore_J6_bitCount_0f7a4 : GoodIn wsX2_restore wsJ6_bitCount_0f7a4 := goodIn_r _ [16, 17, 18, 19] (by decide +kernel) (by decide +kernel)
set_option maxRecDepth 20000 in
theorem gX2_restore_J6_bitCount_0f7a4 : GoodIn wsX2_restore (va_wsS RX2 208 yJ6_bitCount_0f7a4 wsJ6_bitCount_0f7a4) := goodIn_app (goodIn_of _ (by decide +kernel)) ggX2_restore_J6_bitCount_0f7a4
set_option maxRecDepth 20000 in
theorem ggX2_restore_X2_recorded : GoodIn wsX2_restore wsX2_recorded := goodIn_r _ [23, 24, 3, 25, 26, 27, 28, 7, 29, 5, 6, 8, 9, 10, 11, 12, 30, 31, 32, 33, 34, 35, 36, 37, 38, 39, 40, 41, 42, 43, 44, 45, 46, 47, 48, 49, 50, 51, 52, 53, 54, 55] (by decide +kernel) (by decide +kernel)
set_option maxRecDepth 20000 in
theorem gX2_restore_X2_recorded : GoodIn wsX2_restore (wsV RX2 52 RX2 yX2_recorded wsX2_recorded) := goodIn_app (goodIn_of _ (by decide +kernel)) ggX2_restore_X2_recorded
theorem dX2_restore_0 : decode cX2_restore 0 = .ok (.iload_n 1, 1) := by decide +kernel
theorem dX2_restore_1 : decode cX2_restore 1 = .ok (.ifCond .lt 8, 3) := by decide +kernel
theorem dX2_restore_4 : decode cX2_restore 4 = .ok (.iload_n 1, 1) := by decide +kernel
theorem dX2_restore_5 : decode cX2_restore 5 = .ok (.iconst 2, 1) := by decide +kernel
theorem dX2_restore_6 : decode cX2_restore 6 = .ok (.if_icmp .lt 6, 3) := by decide +kernel
theorem dX2_restore_9 : decode cX2_restore 9 = .ok (.bipush (-2), 2) := by decide +kernel
theorem dX2_restore_11 : decode cX2_restore 11 = .ok (.ireturn, 1) := by decide +kernel
theorem dX2_restore_12 : decode cX2_restore 12 = .ok (.aload_n 0, 1) := by decide +kernel
theorem dX2_restore_13 : decode cX2_restore 13 = .ok (.getfield 33, 3) := by decide +kernel
theorem dX2_restore_16 : decode cX2_restore 16 = .ok (.iload_n 1, 1) := by decide +kernel
theorem dX2_restore_17 : decode cX2_restore 17 = .ok (.baload, 1) := by decide +kernel
theorem dX2_restore_18 : decode cX2_restore 18 = .ok (.ifCond .ne 6, 3) := by decide +kernel
theorem dX2_restore_21 : decode cX2_restore 21 = .ok (.bipush (-5), 2) := by decide +kernel
theorem dX2_restore_23 : decode cX2_restore 23 = .ok (.ireturn, 1) := by decide +kernel
theorem dX2_restore_24 : decode cX2_restore 24 = .ok (.aload_n 0, 1) := by decide +kernel
theorem dX2_restore_25 : decode cX2_restore 25 = .ok (.getfield 10, 3) := by decide +kernel
theorem dX2_restore_28 : decode cX2_restore 28 = .ok (.aload_n 0, 1) := by decide +kernel
theorem dX2_restore_29 : decode cX2_restore 29 = .ok (.getfield 16, 3) := by decide +kernel
theorem dX2_restore_32 : decode cX2_restore 32 = .ok (.invokestatic 44, 3) := by decide +kernel
theorem dX2_restore_35 : decode cX2_restore 35 = .ok (.aload_n 0, 1) := by decide +kernel
theorem dX2_restore_36 : decode cX2_restore 36 = .ok (.getfield 30, 3) := by decide +kernel
theorem dX2_restore_39 : decode cX2_restore 39 = .ok (.iload_n 1, 1) := by decide +kernel
theorem dX2_restore_40 : decode cX2_restore 40 = .ok (.aaload, 1) := by decide +kernel
theorem dX2_restore_41 : decode cX2_restore 41 = .ok (.aload_n 0, 1) := by decide +kernel
theorem dX2_restore_42 : decode cX2_restore 42 = .ok (.getfield 10, 3) := by decide +kernel
theorem dX2_restore_45 : decode cX2_restore 45 = .ok (.invokestatic 44, 3) := by decide +kernel
theorem dX2_restore_48 : decode cX2_restore 48 = .ok (.aload_n 0, 1) := by decide +kernel
theorem dX2_restore_49 : decode cX2_restore 49 = .ok (.aload_n 0, 1) := by decide +kernel
theorem dX2_restore_50 : decode cX2_restore 50 = .ok (.getfield 10, 3) := by decide +kernel
theorem dX2_restore_53 : decode cX2_restore 53 = .ok (.getfield 74, 3) := by decide +kernel
theorem dX2_restore_56 : decode cX2_restore 56 = .ok (.invokestatic 208, 3) := by decide +kernel
theorem dX2_restore_59 : decode cX2_restore 59 = .ok (.invokevirtual 52, 3) := by decide +kernel
theorem dX2_restore_62 : decode cX2_restore 62 = .ok (.ireturn, 1) := by decide +kernel
set_option maxRecDepth 20000 in
theorem ggX2_recorded_X2_dropOldest : GoodIn wsX2_recorded wsX2_dropOldest := goodIn_r _ [8, 3, 1, 16, 17, 18, 19, 20, 21, 22, 23] (by decide +kernel) (by decide +kernel)
set_option maxRecDepth 20000 in
theorem gX2_recorded_X2_dropOldest : GoodIn wsX2_recorded (wsV RX2 213 RX2 yX2_dropOldest wsX2_dropOldest) := goodIn_app (goodIn_of _ (by decide +kernel)) ggX2_recorded_X2_dropOldest
set_option maxRecDepth 20000 in
theorem ggX2_recorded_X2_copy : GoodIn wsX2_recorded wsX2_copy := goodIn_r _ [11, 12, 13, 14, 15, 24, 25, 26, 27, 28, 29, 30, 31, 32, 33, 34, 35, 36, 37, 38, 39, 40, 41] (by decide +kernel) (by decide +kernel)
set_option maxRecDepth 20000 in
theorem gX2_recorded_X2_copy : GoodIn wsX2_recorded (va_wsS RX2 44 yX2_copy wsX2_copy) := goodIn_app (goodIn_of _ (by decide +kernel)) ggX2_recorded_X2_copy
theorem dX2_recorded_0 : decode cX2_recorded 0 = .ok (.iload_n 1, 1) := by decide +kernel
theorem dX2_recorded_1 : decode cX2_recorded 1 = .ok (.ifCond .ge 5, 3) := by decide +kernel
theorem dX2_recorded_4 : decode cX2_recorded 4 = .ok (.iload_n 1, 1) := by decide +kernel
theorem dX2_recorded_5 : decode cX2_recorded 5 = .ok (.ireturn, 1) := by decide +kernel
theorem dX2_recorded_6 : decode cX2_recorded 6 = .ok (.aload_n 0, 1) := by decide +kernel
theorem dX2_recorded_7 : decode cX2_recorded 7 = .ok (.getfield 26, 3) := by decide +kernel
theorem dX2_recorded_10 : decode cX2_recorded 10 = .ok (.bipush 6, 2) := by decide +kernel
theorem dX2_recorded_12 : decode cX2_recorded 12 = .ok (.if_icmp .lt 7, 3) := by decide +kernel
theorem dX2_recorded_15 : decode cX2_recorded 15 = .ok (.aload_n 0, 1) := by decide +kernel
theorem dX2_recorded_16 : decode cX2_recorded 16 = .ok (.invokevirtual 213, 3) := by decide +kernel
theorem dX2_recorded_19 : decode cX2_recorded 19 = .ok (.aload_n 0, 1) := by decide +kernel
theorem dX2_recorded_20 : decode cX2_recorded 20 = .ok (.getfield 26, 3) := by decide +kernel
theorem dX2_recorded_23 : decode cX2_recorded 23 = .ok (.ifCond .lt 38, 3) := by decide +kernel
theorem dX2_recorded_26 : decode cX2_recorded 26 = .ok (.aload_n 0, 1) := by decide +kernel
theorem dX2_recorded_27 : decode cX2_recorded 27 = .ok (.getfield 26, 3) := by decide +kernel
theorem dX2_recorded_30 : decode cX2_recorded 30 = .ok (.bipush 6, 2) := by decide +kernel
theorem dX2_recorded_32 : decode cX2_recorded 32 = .ok (.if_icmp .ge 29, 3) := by decide +kernel
theorem dX2_recorded_35 : decode cX2_recorded 35 = .ok (.aload_n 0, 1) := by decide +kernel
theorem dX2_recorded_36 : decode cX2_recorded 36 = .ok (.getfield 16, 3) := by decide +kernel
theorem dX2_recorded_39 : decode cX2_recorded 39 = .ok (.aload_n 0, 1) := by decide +kernel
theorem dX2_recorded_40 : decode cX2_recorded 40 = .ok (.getfield 22, 3) := by decide +kernel
theorem dX2_recorded_43 : decode cX2_recorded 43 = .ok (.aload_n 0, 1) := by decide +kernel
theorem dX2_recorded_44 : decode cX2_recorded 44 = .ok (.getfield 26, 3) := by decide +kernel
theorem dX2_recorded_47 : decode cX2_recorded 47 = .ok (.aaload, 1) := by decide +kernel
theorem dX2_recorded_48 : decode cX2_recorded 48 = .ok (.invokestatic 44, 3) := by decide +kernel
theorem dX2_recorded_51 : decode cX2_recorded 51 = .ok (.aload_n 0, 1) := by decide +kernel
theorem dX2_recorded_52 : decode cX2_recorded 52 = .ok (.dup, 1) := by decide +kernel
theorem dX2_recorded_53 : decode cX2_recorded 53 = .ok (.getfield 26, 3) := by decide +kernel
theorem dX2_recorded_56 : decode cX2_recorded 56 = .ok (.iconst 1, 1) := by decide +kernel
theorem dX2_recorded_57 : decode cX2_recorded 57 = .ok (.iadd, 1) := by decide +kernel
theorem dX2_recorded_58 : decode cX2_recorded 58 = .ok (.putfield 26, 3) := by decide +kernel
theorem dX2_recorded_61 : decode cX2_recorded 61 = .ok (.iload_n 1, 1) := by decide +kernel
theorem dX2_recorded_62 : decode cX2_recorded 62 = .ok (.ireturn, 1) := by decide +kernel
theorem dX2_dropOldest_0 : decode cX2_dropOldest 0 = .ok (.aload_n 0, 1) := by decide +kernel
theorem dX2_dropOldest_1 : decode cX2_dropOldest 1 = .ok (.getfield 22, 3) := by decide +kernel
theorem dX2_dropOldest_4 : decode cX2_dropOldest 4 = .ok (.iconst 0, 1) := by decide +kernel
theorem dX2_dropOldest_5 : decode cX2_dropOldest 5 = .ok (.aaload, 1) := by decide +kernel
theorem dX2_dropOldest_6 : decode cX2_dropOldest 6 = .ok (.astore_n 1, 1) := by decide +kernel
theorem dX2_dropOldest_7 : decode cX2_dropOldest 7 = .ok (.iconst 1, 1) := by decide +kernel
theorem dX2_dropOldest_8 : decode cX2_dropOldest 8 = .ok (.istore_n 2, 1) := by decide +kernel
theorem dX2_dropOldest_9 : decode cX2_dropOldest 9 = .ok (.iload_n 2, 1) := by decide +kernel
theorem dX2_dropOldest_10 : decode cX2_dropOldest 10 = .ok (.bipush 6, 2) := by decide +kernel
theorem dX2_dropOldest_12 : decode cX2_dropOldest 12 = .ok (.if_icmp .ge 23, 3) := by decide +kernel
theorem dX2_dropOldest_15 : decode cX2_dropOldest 15 = .ok (.aload_n 0, 1) := by decide +kernel
theorem dX2_dropOldest_16 : decode cX2_dropOldest 16 = .ok (.getfield 22, 3) := by decide +kernel
theorem dX2_dropOldest_19 : decode cX2_dropOldest 19 = .ok (.iload_n 2, 1) := by decide +kernel
theorem dX2_dropOldest_20 : decode cX2_dropOldest 20 = .ok (.iconst 1, 1) := by decide +kernel
theorem dX2_dropOldest_21 : decode cX2_dropOldest 21 = .ok (.isub, 1) := by decide +kernel
theorem dX2_dropOldest_22 : decode cX2_dropOldest 22 = .ok (.aload_n 0, 1) := by decide +kernel
theorem dX2_dropOldest_23 : decode cX2_dropOldest 23 = .ok (.getfield 22, 3) := by decide +kernel
theorem dX2_dropOldest_26 : decode cX2_dropOldest 26 = .ok (.iload_n 2, 1) := by decide +kernel
theorem dX2_dropOldest_27 : decode cX2_dropOldest 27 = .ok (.aaload, 1) := by decide +kernel
theorem dX2_dropOldest_28 : decode cX2_dropOldest 28 = .ok (.aastore, 1) := by decide +kernel
theorem dX2_dropOldest_29 : decode cX2_dropOldest 29 = .ok (.iinc 2 1, 3) := by decide +kernel
theorem dX2_dropOldest_32 : decode cX2_dropOldest 32 = .ok (.goto (-23), 3) := by decide +kernel
theorem dX2_dropOldest_35 : decode cX2_dropOldest 35 = .ok (.aload_n 0, 1) := by decide +kernel
theorem dX2_dropOldest_36 : decode cX2_dropOldest 36 = .ok (.getfield 22, 3) := by decide +kernel
theorem dX2_dropOldest_39 : decode cX2_dropOldest 39 = .ok (.iconst 5, 1) := by decide +kernel
theorem dX2_dropOldest_40 : decode cX2_dropOldest 40 = .ok (.aload_n 1, 1) := by decide +kernel
theorem dX2_dropOldest_41 : decode cX2_dropOldest 41 = .ok (.aastore, 1) := by decide +kernel
theorem dX2_dropOldest_42 : decode cX2_dropOldest 42 = .ok (.aload_n 0, 1) := by decide +kernel
theorem dX2_dropOldest_43 : decode cX2_dropOldest 43 = .ok (.iconst 5, 1) := by decide +kernel
theorem dX2_dropOldest_44 : decode cX2_dropOldest 44 = .ok (.putfield 26, 3) := by decide +kernel
theorem dX2_dropOldest_47 : decode cX2_dropOldest 47 = .ok (.return_, 1) := by decide +kernel
theorem dX2_isPlace_0 : decode cX2_isPlace 0 = .ok (.iload_n 0, 1) := by decide +kernel
theorem dX2_isPlace_1 : decode cX2_isPlace 1 = .ok (.ifCond .lt 13, 3) := by decide +kernel
theorem dX2_isPlace_4 : decode cX2_isPlace 4 = .ok (.iload_n 0, 1) := by decide +kernel
theorem dX2_isPlace_5 : decode cX2_isPlace 5 = .ok (.bipush 12, 2) := by decide +kernel
theorem dX2_isPlace_7 : decode cX2_isPlace 7 = .ok (.if_icmp .ge 7, 3) := by decide +kernel
theorem dX2_isPlace_10 : decode cX2_isPlace 10 = .ok (.iconst 1, 1) := by decide +kernel
theorem dX2_isPlace_11 : decode cX2_isPlace 11 = .ok (.goto 4, 3) := by decide +kernel
theorem dX2_isPlace_14 : decode cX2_isPlace 14 = .ok (.iconst 0, 1) := by decide +kernel
theorem dX2_isPlace_15 : decode cX2_isPlace 15 = .ok (.ireturn, 1) := by decide +kernel
theorem dX2_has_0 : decode cX2_has 0 = .ok (.iload_n 1, 1) := by decide +kernel
theorem dX2_has_1 : decode cX2_has 1 = .ok (.ifCond .lt 22, 3) := by decide +kernel
theorem dX2_has_4 : decode cX2_has 4 = .ok (.iload_n 1, 1) := by decide +kernel
theorem dX2_has_5 : decode cX2_has 5 = .ok (.bipush 12, 2) := by decide +kernel
theorem dX2_has_7 : decode cX2_has 7 = .ok (.if_icmp .ge 16, 3) := by decide +kernel
theorem dX2_has_10 : decode cX2_has 10 = .ok (.iload_n 0, 1) := by decide +kernel
theorem dX2_has_11 : decode cX2_has 11 = .ok (.iload_n 1, 1) := by decide +kernel
theorem dX2_has_12 : decode cX2_has 12 = .ok (.iushr, 1) := by decide +kernel
theorem dX2_has_13 : decode cX2_has 13 = .ok (.iconst 1, 1) := by decide +kernel
theorem dX2_has_14 : decode cX2_has 14 = .ok (.iand, 1) := by decide +kernel
theorem dX2_has_15 : decode cX2_has 15 = .ok (.iconst 1, 1) := by decide +kernel
theorem dX2_has_16 : decode cX2_has 16 = .ok (.if_icmp .ne 7, 3) := by decide +kernel
theorem dX2_has_19 : decode cX2_has 19 = .ok (.iconst 1, 1) := by decide +kernel
theorem dX2_has_20 : decode cX2_has 20 = .ok (.goto 4, 3) := by decide +kernel
theorem dX2_has_23 : decode cX2_has 23 = .ok (.iconst 0, 1) := by decide +kernel
theorem dX2_has_24 : decode cX2_has 24 = .ok (.ireturn, 1) := by decide +kernel
theorem dX2_copy_0 : decode cX2_copy 0 = .ok (.aload_n 0, 1) := by decide +kernel
theorem dX2_copy_1 : decode cX2_copy 1 = .ok (.ifnull 7, 3) := by decide +kernel
theorem dX2_copy_4 : decode cX2_copy 4 = .ok (.aload_n 1, 1) := by decide +kernel
theorem dX2_copy_5 : decode cX2_copy 5 = .ok (.ifnonnull 4, 3) := by decide +kernel
theorem dX2_copy_8 : decode cX2_copy 8 = .ok (.return_, 1) := by decide +kernel
theorem dX2_copy_9 : decode cX2_copy 9 = .ok (.aload_n 1, 1) := by decide +kernel
theorem dX2_copy_10 : decode cX2_copy 10 = .ok (.aload_n 0, 1) := by decide +kernel
theorem dX2_copy_11 : decode cX2_copy 11 = .ok (.getfield 74, 3) := by decide +kernel
theorem dX2_copy_14 : decode cX2_copy 14 = .ok (.putfield 74, 3) := by decide +kernel
theorem dX2_copy_17 : decode cX2_copy 17 = .ok (.aload_n 1, 1) := by decide +kernel
theorem dX2_copy_18 : decode cX2_copy 18 = .ok (.aload_n 0, 1) := by decide +kernel
theorem dX2_copy_19 : decode cX2_copy 19 = .ok (.getfield 127, 3) := by decide +kernel
theorem dX2_copy_22 : decode cX2_copy 22 = .ok (.putfield 127, 3) := by decide +kernel
theorem dX2_copy_25 : decode cX2_copy 25 = .ok (.aload_n 1, 1) := by decide +kernel
theorem dX2_copy_26 : decode cX2_copy 26 = .ok (.aload_n 0, 1) := by decide +kernel
theorem dX2_copy_27 : decode cX2_copy 27 = .ok (.getfield 124, 3) := by decide +kernel
theorem dX2_copy_30 : decode cX2_copy 30 = .ok (.putfield 124, 3) := by decide +kernel
theorem dX2_copy_33 : decode cX2_copy 33 = .ok (.aload_n 1, 1) := by decide +kernel
theorem dX2_copy_34 : decode cX2_copy 34 = .ok (.aload_n 0, 1) := by decide +kernel
theorem dX2_copy_35 : decode cX2_copy 35 = .ok (.getfield 100, 3) := by decide +kernel
theorem dX2_copy_38 : decode cX2_copy 38 = .ok (.putfield 100, 3) := by decide +kernel
theorem dX2_copy_41 : decode cX2_copy 41 = .ok (.aload_n 1, 1) := by decide +kernel
theorem dX2_copy_42 : decode cX2_copy 42 = .ok (.aload_n 0, 1) := by decide +kernel
theorem dX2_copy_43 : decode cX2_copy 43 = .ok (.getfield 136, 3) := by decide +kernel
theorem dX2_copy_46 : decode cX2_copy 46 = .ok (.putfield 136, 3) := by decide +kernel
theorem dX2_copy_49 : decode cX2_copy 49 = .ok (.aload_n 1, 1) := by decide +kernel
theorem dX2_copy_50 : decode cX2_copy 50 = .ok (.aload_n 0, 1) := by decide +kernel
theorem dX2_copy_51 : decode cX2_copy 51 = .ok (.getfield 121, 3) := by decide +kernel
theorem dX2_copy_54 : decode cX2_copy 54 = .ok (.putfield 121, 3) := by decide +kernel
theorem dX2_copy_57 : decode cX2_copy 57 = .ok (.aload_n 1, 1) := by decide +kernel
theorem dX2_copy_58 : decode cX2_copy 58 = .ok (.aload_n 0, 1) := by decide +kernel
theorem dX2_copy_59 : decode cX2_copy 59 = .ok (.getfield 130, 3) := by decide +kernel
theorem dX2_copy_62 : decode cX2_copy 62 = .ok (.putfield 130, 3) := by decide +kernel
theorem dX2_copy_65 : decode cX2_copy 65 = .ok (.aload_n 1, 1) := by decide +kernel
theorem dX2_copy_66 : decode cX2_copy 66 = .ok (.aload_n 0, 1) := by decide +kernel
theorem dX2_copy_67 : decode cX2_copy 67 = .ok (.getfield 133, 3) := by decide +kernel
theorem dX2_copy_70 : decode cX2_copy 70 = .ok (.putfield 133, 3) := by decide +kernel
theorem dX2_copy_73 : decode cX2_copy 73 = .ok (.aload_n 0, 1) := by decide +kernel
theorem dX2_copy_74 : decode cX2_copy 74 = .ok (.getfield 118, 3) := by decide +kernel
theorem dX2_copy_77 : decode cX2_copy 77 = .ok (.iconst 0, 1) := by decide +kernel
theorem dX2_copy_78 : decode cX2_copy 78 = .ok (.aload_n 1, 1) := by decide +kernel
theorem dX2_copy_79 : decode cX2_copy 79 = .ok (.getfield 118, 3) := by decide +kernel
theorem dX2_copy_82 : decode cX2_copy 82 = .ok (.iconst 0, 1) := by decide +kernel
theorem dX2_copy_83 : decode cX2_copy 83 = .ok (.bipush 7, 2) := by decide +kernel
theorem dX2_copy_85 : decode cX2_copy 85 = .ok (.invokestatic 216, 3) := by decide +kernel
theorem dX2_copy_88 : decode cX2_copy 88 = .ok (.aload_n 0, 1) := by decide +kernel
theorem dX2_copy_89 : decode cX2_copy 89 = .ok (.getfield 81, 3) := by decide +kernel
theorem dX2_copy_92 : decode cX2_copy 92 = .ok (.iconst 0, 1) := by decide +kernel
theorem dX2_copy_93 : decode cX2_copy 93 = .ok (.aload_n 1, 1) := by decide +kernel
theorem dX2_copy_94 : decode cX2_copy 94 = .ok (.getfield 81, 3) := by decide +kernel
theorem dX2_copy_97 : decode cX2_copy 97 = .ok (.iconst 0, 1) := by decide +kernel
theorem dX2_copy_98 : decode cX2_copy 98 = .ok (.bipush 12, 2) := by decide +kernel
theorem dX2_copy_100 : decode cX2_copy 100 = .ok (.invokestatic 216, 3) := by decide +kernel
theorem dX2_copy_103 : decode cX2_copy 103 = .ok (.aload_n 0, 1) := by decide +kernel
theorem dX2_copy_104 : decode cX2_copy 104 = .ok (.getfield 85, 3) := by decide +kernel
theorem dX2_copy_107 : decode cX2_copy 107 = .ok (.iconst 0, 1) := by decide +kernel
theorem dX2_copy_108 : decode cX2_copy 108 = .ok (.aload_n 1, 1) := by decide +kernel
theorem dX2_copy_109 : decode cX2_copy 109 = .ok (.getfield 85, 3) := by decide +kernel
theorem dX2_copy_112 : decode cX2_copy 112 = .ok (.iconst 0, 1) := by decide +kernel
theorem dX2_copy_113 : decode cX2_copy 113 = .ok (.bipush 12, 2) := by decide +kernel
theorem dX2_copy_115 : decode cX2_copy 115 = .ok (.invokestatic 216, 3) := by decide +kernel
theorem dX2_copy_118 : decode cX2_copy 118 = .ok (.aload_n 0, 1) := by decide +kernel
theorem dX2_copy_119 : decode cX2_copy 119 = .ok (.getfield 91, 3) := by decide +kernel
theorem dX2_copy_122 : decode cX2_copy 122 = .ok (.iconst 0, 1) := by decide +kernel
theorem dX2_copy_123 : decode cX2_copy 123 = .ok (.aload_n 1, 1) := by decide +kernel
theorem dX2_copy_124 : decode cX2_copy 124 = .ok (.getfield 91, 3) := by decide +kernel
theorem dX2_copy_127 : decode cX2_copy 127 = .ok (.iconst 0, 1) := by decide +kernel
theorem dX2_copy_128 : decode cX2_copy 128 = .ok (.bipush 12, 2) := by decide +kernel
theorem dX2_copy_130 : decode cX2_copy 130 = .ok (.invokestatic 216, 3) := by decide +kernel
theorem dX2_copy_133 : decode cX2_copy 133 = .ok (.aload_n 0, 1) := by decide +kernel
theorem dX2_copy_134 : decode cX2_copy 134 = .ok (.getfield 94, 3) := by decide +kernel
theorem dX2_copy_137 : decode cX2_copy 137 = .ok (.iconst 0, 1) := by decide +kernel
theorem dX2_copy_138 : decode cX2_copy 138 = .ok (.aload_n 1, 1) := by decide +kernel
theorem dX2_copy_139 : decode cX2_copy 139 = .ok (.getfield 94, 3) := by decide +kernel
theorem dX2_copy_142 : decode cX2_copy 142 = .ok (.iconst 0, 1) := by decide +kernel
theorem dX2_copy_143 : decode cX2_copy 143 = .ok (.bipush 12, 2) := by decide +kernel
theorem dX2_copy_145 : decode cX2_copy 145 = .ok (.invokestatic 216, 3) := by decide +kernel
theorem dX2_copy_148 : decode cX2_copy 148 = .ok (.aload_n 0, 1) := by decide +kernel
theorem dX2_copy_149 : decode cX2_copy 149 = .ok (.getfield 103, 3) := by decide +kernel
theorem dX2_copy_152 : decode cX2_copy 152 = .ok (.iconst 0, 1) := by decide +kernel
theorem dX2_copy_153 : decode cX2_copy 153 = .ok (.aload_n 1, 1) := by decide +kernel
theorem dX2_copy_154 : decode cX2_copy 154 = .ok (.getfield 103, 3) := by decide +kernel
theorem dX2_copy_157 : decode cX2_copy 157 = .ok (.iconst 0, 1) := by decide +kernel
theorem dX2_copy_158 : decode cX2_copy 158 = .ok (.iconst 5, 1) := by decide +kernel
theorem dX2_copy_159 : decode cX2_copy 159 = .ok (.invokestatic 216, 3) := by decide +kernel
theorem dX2_copy_162 : decode cX2_copy 162 = .ok (.aload_n 0, 1) := by decide +kernel
theorem dX2_copy_163 : decode cX2_copy 163 = .ok (.getfield 106, 3) := by decide +kernel
theorem dX2_copy_166 : decode cX2_copy 166 = .ok (.iconst 0, 1) := by decide +kernel
theorem dX2_copy_167 : decode cX2_copy 167 = .ok (.aload_n 1, 1) := by decide +kernel
theorem dX2_copy_168 : decode cX2_copy 168 = .ok (.getfield 106, 3) := by decide +kernel
theorem dX2_copy_171 : decode cX2_copy 171 = .ok (.iconst 0, 1) := by decide +kernel
theorem dX2_copy_172 : decode cX2_copy 172 = .ok (.iconst 5, 1) := by decide +kernel
theorem dX2_copy_173 : decode cX2_copy 173 = .ok (.invokestatic 216, 3) := by decide +kernel
theorem dX2_copy_176 : decode cX2_copy 176 = .ok (.aload_n 0, 1) := by decide +kernel
theorem dX2_copy_177 : decode cX2_copy 177 = .ok (.getfield 109, 3) := by decide +kernel
theorem dX2_copy_180 : decode cX2_copy 180 = .ok (.iconst 0, 1) := by decide +kernel
theorem dX2_copy_181 : decode cX2_copy 181 = .ok (.aload_n 1, 1) := by decide +kernel
theorem dX2_copy_182 : decode cX2_copy 182 = .ok (.getfield 109, 3) := by decide +kernel
theorem dX2_copy_185 : decode cX2_copy 185 = .ok (.iconst 0, 1) := by decide +kernel
theorem dX2_copy_186 : decode cX2_copy 186 = .ok (.iconst 5, 1) := by decide +kernel
theorem dX2_copy_187 : decode cX2_copy 187 = .ok (.invokestatic 216, 3) := by decide +kernel
theorem dX2_copy_190 : decode cX2_copy 190 = .ok (.aload_n 0, 1) := by decide +kernel
theorem dX2_copy_191 : decode cX2_copy 191 = .ok (.getfield 112, 3) := by decide +kernel
theorem dX2_copy_194 : decode cX2_copy 194 = .ok (.iconst 0, 1) := by decide +kernel
theorem dX2_copy_195 : decode cX2_copy 195 = .ok (.aload_n 1, 1) := by decide +kernel
theorem dX2_copy_196 : decode cX2_copy 196 = .ok (.getfield 112, 3) := by decide +kernel
theorem dX2_copy_199 : decode cX2_copy 199 = .ok (.iconst 0, 1) := by decide +kernel
theorem dX2_copy_200 : decode cX2_copy 200 = .ok (.iconst 5, 1) := by decide +kernel
theorem dX2_copy_201 : decode cX2_copy 201 = .ok (.invokestatic 216, 3) := by decide +kernel
theorem dX2_copy_204 : decode cX2_copy 204 = .ok (.aload_n 0, 1) := by decide +kernel
theorem dX2_copy_205 : decode cX2_copy 205 = .ok (.getfield 115, 3) := by decide +kernel
theorem dX2_copy_208 : decode cX2_copy 208 = .ok (.iconst 0, 1) := by decide +kernel
theorem dX2_copy_209 : decode cX2_copy 209 = .ok (.aload_n 1, 1) := by decide +kernel
theorem dX2_copy_210 : decode cX2_copy 210 = .ok (.getfield 115, 3) := by decide +kernel
theorem dX2_copy_213 : decode cX2_copy 213 = .ok (.iconst 0, 1) := by decide +kernel
theorem dX2_copy_214 : decode cX2_copy 214 = .ok (.iconst 5, 1) := by decide +kernel
theorem dX2_copy_215 : decode cX2_copy 215 = .ok (.invokestatic 216, 3) := by decide +kernel
theorem dX2_copy_218 : decode cX2_copy 218 = .ok (.return_, 1) := by decide +kernel
theorem dX3_init_0 : decode cX3_init 0 = .ok (.aload_n 0, 1) := by decide +kernel
theorem dX3_init_1 : decode cX3_init 1 = .ok (.invokespecial 1, 3) := by decide +kernel
theorem dX3_init_4 : decode cX3_init 4 = .ok (.aload_n 0, 1) := by decide +kernel
theorem dX3_init_5 : decode cX3_init 5 = .ok (.bipush 109, 2) := by decide +kernel
theorem dX3_init_7 : decode cX3_init 7 = .ok (.newarray .int, 2) := by decide +kernel
theorem dX3_init_9 : decode cX3_init 9 = .ok (.putfield 7, 3) := by decide +kernel
theorem dX3_init_12 : decode cX3_init 12 = .ok (.aload_n 0, 1) := by decide +kernel
theorem dX3_init_13 : decode cX3_init 13 = .ok (.bipush 109, 2) := by decide +kernel
theorem dX3_init_15 : decode cX3_init 15 = .ok (.newarray .int, 2) := by decide +kernel
theorem dX3_init_17 : decode cX3_init 17 = .ok (.putfield 13, 3) := by decide +kernel
theorem dX3_init_20 : decode cX3_init 20 = .ok (.aload_n 0, 1) := by decide +kernel
theorem dX3_init_21 : decode cX3_init 21 = .ok (.sipush 654, 3) := by decide +kernel
theorem dX3_init_24 : decode cX3_init 24 = .ok (.newarray .int, 2) := by decide +kernel
theorem dX3_init_26 : decode cX3_init 26 = .ok (.putfield 16, 3) := by decide +kernel
theorem dX3_init_29 : decode cX3_init 29 = .ok (.aload_n 0, 1) := by decide +kernel
theorem dX3_init_30 : decode cX3_init 30 = .ok (.sipush 218, 3) := by decide +kernel
theorem dX3_init_33 : decode cX3_init 33 = .ok (.newarray .int, 2) := by decide +kernel
theorem dX3_init_35 : decode cX3_init 35 = .ok (.putfield 19, 3) := by decide +kernel
theorem dX3_init_38 : decode cX3_init 38 = .ok (.aload_n 0, 1) := by decide +kernel
theorem dX3_init_39 : decode cX3_init 39 = .ok (.iconst 2, 1) := by decide +kernel
theorem dX3_init_40 : decode cX3_init 40 = .ok (.newarray .int, 2) := by decide +kernel
theorem dX3_init_42 : decode cX3_init 42 = .ok (.putfield 22, 3) := by decide +kernel
theorem dX3_init_45 : decode cX3_init 45 = .ok (.aload_n 0, 1) := by decide +kernel
theorem dX3_init_46 : decode cX3_init 46 = .ok (.bipush 80, 2) := by decide +kernel
theorem dX3_init_48 : decode cX3_init 48 = .ok (.newarray .int, 2) := by decide +kernel
theorem dX3_init_50 : decode cX3_init 50 = .ok (.putfield 25, 3) := by decide +kernel
theorem dX3_init_53 : decode cX3_init 53 = .ok (.aload_n 0, 1) := by decide +kernel
theorem dX3_init_54 : decode cX3_init 54 = .ok (.getfield 7, 3) := by decide +kernel
theorem dX3_init_57 : decode cX3_init 57 = .ok (.iconst 0, 1) := by decide +kernel
theorem dX3_init_58 : decode cX3_init 58 = .ok (.iconst 2, 1) := by decide +kernel
theorem dX3_init_59 : decode cX3_init 59 = .ok (.iastore, 1) := by decide +kernel
theorem dX3_init_60 : decode cX3_init 60 = .ok (.aload_n 0, 1) := by decide +kernel
theorem dX3_init_61 : decode cX3_init 61 = .ok (.getfield 7, 3) := by decide +kernel
theorem dX3_init_64 : decode cX3_init 64 = .ok (.iconst 1, 1) := by decide +kernel
theorem dX3_init_65 : decode cX3_init 65 = .ok (.bipush 20, 2) := by decide +kernel
theorem dX3_init_67 : decode cX3_init 67 = .ok (.iastore, 1) := by decide +kernel
theorem dX3_init_68 : decode cX3_init 68 = .ok (.aload_n 0, 1) := by decide +kernel
theorem dX3_init_69 : decode cX3_init 69 = .ok (.getfield 7, 3) := by decide +kernel
theorem dX3_init_72 : decode cX3_init 72 = .ok (.iconst 2, 1) := by decide +kernel
theorem dX3_init_73 : decode cX3_init 73 = .ok (.iconst 4, 1) := by decide +kernel
theorem dX3_init_74 : decode cX3_init 74 = .ok (.iastore, 1) := by decide +kernel
theorem dX3_init_75 : decode cX3_init 75 = .ok (.aload_n 0, 1) := by decide +kernel
theorem dX3_init_76 : decode cX3_init 76 = .ok (.getfield 7, 3) := by decide +kernel
theorem dX3_init_79 : decode cX3_init 79 = .ok (.iconst 3, 1) := by decide +kernel
theorem dX3_init_80 : decode cX3_init 80 = .ok (.iconst 3, 1) := by decide +kernel
theorem dX3_init_81 : decode cX3_init 81 = .ok (.iastore, 1) := by decide +kernel
theorem dX3_init_82 : decode cX3_init 82 = .ok (.aload_n 0, 1) := by decide +kernel
theorem dX3_init_83 : decode cX3_init 83 = .ok (.getfield 7, 3) := by decide +kernel
theorem dX3_init_86 : decode cX3_init 86 = .ok (.iconst 4, 1) := by decide +kernel
theorem dX3_init_87 : decode cX3_init 87 = .ok (.bipush 10, 2) := by decide +kernel
theorem dX3_init_89 : decode cX3_init 89 = .ok (.iastore, 1) := by decide +kernel
theorem dX3_init_90 : decode cX3_init 90 = .ok (.aload_n 0, 1) := by decide +kernel
theorem dX3_init_91 : decode cX3_init 91 = .ok (.getfield 7, 3) := by decide +kernel
theorem dX3_init_94 : decode cX3_init 94 = .ok (.iconst 5, 1) := by decide +kernel
theorem dX3_init_95 : decode cX3_init 95 = .ok (.bipush 60, 2) := by decide +kernel
theorem dX3_init_97 : decode cX3_init 97 = .ok (.iastore, 1) := by decide +kernel
theorem dX3_init_98 : decode cX3_init 98 = .ok (.aload_n 0, 1) := by decide +kernel
theorem dX3_init_99 : decode cX3_init 99 = .ok (.getfield 7, 3) := by decide +kernel
theorem dX3_init_102 : decode cX3_init 102 = .ok (.bipush 6, 2) := by decide +kernel
theorem dX3_init_104 : decode cX3_init 104 = .ok (.bipush 7, 2) := by decide +kernel
theorem dX3_init_106 : decode cX3_init 106 = .ok (.iastore, 1) := by decide +kernel
theorem dX3_init_107 : decode cX3_init 107 = .ok (.return_, 1) := by decide +kernel
theorem dX3_moves_0 : decode cX3_moves 0 = .ok (.iconst 0, 1) := by decide +kernel
theorem dX3_moves_1 : decode cX3_moves 1 = .ok (.istore 4, 2) := by decide +kernel
theorem dX3_moves_3 : decode cX3_moves 3 = .ok (.iload 4, 2) := by decide +kernel
theorem dX3_moves_5 : decode cX3_moves 5 = .ok (.bipush 109, 2) := by decide +kernel
theorem dX3_moves_7 : decode cX3_moves 7 = .ok (.if_icmp .ge 21, 3) := by decide +kernel
theorem dX3_moves_10 : decode cX3_moves 10 = .ok (.aload_n 2, 1) := by decide +kernel
theorem dX3_moves_11 : decode cX3_moves 11 = .ok (.iload_n 3, 1) := by decide +kernel
theorem dX3_moves_12 : decode cX3_moves 12 = .ok (.iload 4, 2) := by decide +kernel
theorem dX3_moves_14 : decode cX3_moves 14 = .ok (.iadd, 1) := by decide +kernel
theorem dX3_moves_15 : decode cX3_moves 15 = .ok (.aload_n 0, 1) := by decide +kernel
theorem dX3_moves_16 : decode cX3_moves 16 = .ok (.iload_n 1, 1) := by decide +kernel
theorem dX3_moves_17 : decode cX3_moves 17 = .ok (.iload 4, 2) := by decide +kernel
theorem dX3_moves_19 : decode cX3_moves 19 = .ok (.iadd, 1) := by decide +kernel
theorem dX3_moves_20 : decode cX3_moves 20 = .ok (.iaload, 1) := by decide +kernel
theorem dX3_moves_21 : decode cX3_moves 21 = .ok (.iastore, 1) := by decide +kernel
theorem dX3_moves_22 : decode cX3_moves 22 = .ok (.iinc 4 1, 3) := by decide +kernel
theorem dX3_moves_25 : decode cX3_moves 25 = .ok (.goto (-22), 3) := by decide +kernel
theorem dX3_moves_28 : decode cX3_moves 28 = .ok (.return_, 1) := by decide +kernel
theorem dX3_within_0 : decode cX3_within 0 = .ok (.iload_n 0, 1) := by decide +kernel
theorem dX3_within_1 : decode cX3_within 1 = .ok (.iload_n 1, 1) := by decide +kernel
theorem dX3_within_2 : decode cX3_within 2 = .ok (.if_icmp .lt 12, 3) := by decide +kernel
theorem dX3_within_5 : decode cX3_within 5 = .ok (.iload_n 0, 1) := by decide +kernel
theorem dX3_within_6 : decode cX3_within 6 = .ok (.iload_n 2, 1) := by decide +kernel
theorem dX3_within_7 : decode cX3_within 7 = .ok (.if_icmp .gt 7, 3) := by decide +kernel
theorem dX3_within_10 : decode cX3_within 10 = .ok (.iconst 1, 1) := by decide +kernel
theorem dX3_within_11 : decode cX3_within 11 = .ok (.goto 4, 3) := by decide +kernel
theorem dX3_within_14 : decode cX3_within 14 = .ok (.iconst 0, 1) := by decide +kernel
theorem dX3_within_15 : decode cX3_within 15 = .ok (.ireturn, 1) := by decide +kernel
theorem dX3_size_0 : decode cX3_size 0 = .ok (.iload_n 0, 1) := by decide +kernel
theorem dX3_size_1 : decode cX3_size 1 = .ok (.ifCond .ge 8, 3) := by decide +kernel
theorem dX3_size_4 : decode cX3_size 4 = .ok (.iload_n 0, 1) := by decide +kernel
theorem dX3_size_5 : decode cX3_size 5 = .ok (.ineg, 1) := by decide +kernel
theorem dX3_size_6 : decode cX3_size 6 = .ok (.goto 4, 3) := by decide +kernel
theorem dX3_size_9 : decode cX3_size 9 = .ok (.iload_n 0, 1) := by decide +kernel
theorem dX3_size_10 : decode cX3_size 10 = .ok (.ireturn, 1) := by decide +kernel
theorem dX3_held_0 : decode cX3_held 0 = .ok (.iload_n 0, 1) := by decide +kernel
theorem dX3_held_1 : decode cX3_held 1 = .ok (.ifCond .ge 7, 3) := by decide +kernel
theorem dX3_held_4 : decode cX3_held 4 = .ok (.iconst 0, 1) := by decide +kernel
theorem dX3_held_5 : decode cX3_held 5 = .ok (.goto 15, 3) := by decide +kernel
theorem dX3_held_8 : decode cX3_held 8 = .ok (.iload_n 0, 1) := by decide +kernel
theorem dX3_held_9 : decode cX3_held 9 = .ok (.bipush 100, 2) := by decide +kernel
theorem dX3_held_11 : decode cX3_held 11 = .ok (.if_icmp .le 8, 3) := by decide +kernel
theorem dX3_held_14 : decode cX3_held 14 = .ok (.bipush 100, 2) := by decide +kernel
theorem dX3_held_16 : decode cX3_held 16 = .ok (.goto 4, 3) := by decide +kernel
theorem dX3_held_19 : decode cX3_held 19 = .ok (.iload_n 0, 1) := by decide +kernel
theorem dX3_held_20 : decode cX3_held 20 = .ok (.ireturn, 1) := by decide +kernel
set_option maxRecDepth 20000 in
theorem ggX3_record_X3_moves : GoodIn wsX3_record wsX3_moves := goodIn_r _ [7] (by decide +kernel) (by decide +kernel)
set_option maxRecDepth 20000 in
theorem gX3_record_X3_moves : GoodIn wsX3_record (va_wsS RX3 32 yX3_moves wsX3_moves) := goodIn_app (goodIn_of _ (by decide +kernel)) ggX3_record_X3_moves
theorem dX3_record_0 : decode cX3_record 0 = .ok (.aload_n 0, 1) := by decide +kernel
theorem dX3_record_1 : decode cX3_record 1 = .ok (.getfield 28, 3) := by decide +kernel
theorem dX3_record_4 : decode cX3_record 4 = .ok (.bipush 6, 2) := by decide +kernel
theorem dX3_record_6 : decode cX3_record 6 = .ok (.if_icmp .ne 43, 3) := by decide +kernel
theorem dX3_record_9 : decode cX3_record 9 = .ok (.iconst 0, 1) := by decide +kernel
theorem dX3_record_10 : decode cX3_record 10 = .ok (.istore_n 1, 1) := by decide +kernel
theorem dX3_record_11 : decode cX3_record 11 = .ok (.iload_n 1, 1) := by decide +kernel
theorem dX3_record_12 : decode cX3_record 12 = .ok (.sipush 545, 3) := by decide +kernel
theorem dX3_record_15 : decode cX3_record 15 = .ok (.if_icmp .ge 24, 3) := by decide +kernel
theorem dX3_record_18 : decode cX3_record 18 = .ok (.aload_n 0, 1) := by decide +kernel
theorem dX3_record_19 : decode cX3_record 19 = .ok (.getfield 16, 3) := by decide +kernel
theorem dX3_record_22 : decode cX3_record 22 = .ok (.iload_n 1, 1) := by decide +kernel
theorem dX3_record_23 : decode cX3_record 23 = .ok (.aload_n 0, 1) := by decide +kernel
theorem dX3_record_24 : decode cX3_record 24 = .ok (.getfield 16, 3) := by decide +kernel
theorem dX3_record_27 : decode cX3_record 27 = .ok (.iload_n 1, 1) := by decide +kernel
theorem dX3_record_28 : decode cX3_record 28 = .ok (.bipush 109, 2) := by decide +kernel
theorem dX3_record_30 : decode cX3_record 30 = .ok (.iadd, 1) := by decide +kernel
theorem dX3_record_31 : decode cX3_record 31 = .ok (.iaload, 1) := by decide +kernel
theorem dX3_record_32 : decode cX3_record 32 = .ok (.iastore, 1) := by decide +kernel
theorem dX3_record_33 : decode cX3_record 33 = .ok (.iinc 1 1, 3) := by decide +kernel
theorem dX3_record_36 : decode cX3_record 36 = .ok (.goto (-25), 3) := by decide +kernel
end
section
theorem dX3_record_39 : decode cX3_record 39 = .ok (.aload_n 0, 1) := by decide +kernel
theorem dX3_record_40 : decode cX3_record 40 = .ok (.dup, 1) := by decide +kernel
theorem dX3_record_41 : decode cX3_record 41 = .ok (.getfield 28, 3) := by decide +kernel
theorem dX3_record_44 : decode cX3_record 44 = .ok (.iconst 1, 1) := by decide +kernel
theorem dX3_record_45 : decode cX3_record 45 = .ok (.isub, 1) := by decide +kernel
theorem dX3_record_46 : decode cX3_record 46 = .ok (.putfield 28, 3) := by decide +kernel
theorem dX3_record_49 : decode cX3_record 49 = .ok (.aload_n 0, 1) := by decide +kernel
theorem dX3_record_50 : decode cX3_record 50 = .ok (.getfield 7, 3) := by decide +kernel
theorem dX3_record_53 : decode cX3_record 53 = .ok (.iconst 0, 1) := by decide +kernel
theorem dX3_record_54 : decode cX3_record 54 = .ok (.aload_n 0, 1) := by decide +kernel
theorem dX3_record_55 : decode cX3_record 55 = .ok (.getfield 16, 3) := by decide +kernel
theorem dX3_record_58 : decode cX3_record 58 = .ok (.aload_n 0, 1) := by decide +kernel
theorem dX3_record_59 : decode cX3_record 59 = .ok (.getfield 28, 3) := by decide +kernel
theorem dX3_record_62 : decode cX3_record 62 = .ok (.bipush 109, 2) := by decide +kernel
theorem dX3_record_64 : decode cX3_record 64 = .ok (.imul, 1) := by decide +kernel
theorem dX3_record_65 : decode cX3_record 65 = .ok (.invokestatic 32, 3) := by decide +kernel
theorem dX3_record_68 : decode cX3_record 68 = .ok (.aload_n 0, 1) := by decide +kernel
theorem dX3_record_69 : decode cX3_record 69 = .ok (.dup, 1) := by decide +kernel
theorem dX3_record_70 : decode cX3_record 70 = .ok (.getfield 28, 3) := by decide +kernel
theorem dX3_record_73 : decode cX3_record 73 = .ok (.iconst 1, 1) := by decide +kernel
theorem dX3_record_74 : decode cX3_record 74 = .ok (.iadd, 1) := by decide +kernel
theorem dX3_record_75 : decode cX3_record 75 = .ok (.putfield 28, 3) := by decide +kernel
theorem dX3_record_78 : decode cX3_record 78 = .ok (.return_, 1) := by decide +kernel
theorem dX3_pianoPart_0 : decode cX3_pianoPart 0 = .ok (.aload_n 0, 1) := by decide +kernel
theorem dX3_pianoPart_1 : decode cX3_pianoPart 1 = .ok (.getfield 7, 3) := by decide +kernel
theorem dX3_pianoPart_4 : decode cX3_pianoPart 4 = .ok (.bipush 12, 2) := by decide +kernel
theorem dX3_pianoPart_6 : decode cX3_pianoPart 6 = .ok (.bipush 6, 2) := by decide +kernel
theorem dX3_pianoPart_8 : decode cX3_pianoPart 8 = .ok (.iload_n 1, 1) := by decide +kernel
theorem dX3_pianoPart_9 : decode cX3_pianoPart 9 = .ok (.imul, 1) := by decide +kernel
theorem dX3_pianoPart_10 : decode cX3_pianoPart 10 = .ok (.iadd, 1) := by decide +kernel
theorem dX3_pianoPart_11 : decode cX3_pianoPart 11 = .ok (.iload_n 2, 1) := by decide +kernel
theorem dX3_pianoPart_12 : decode cX3_pianoPart 12 = .ok (.iadd, 1) := by decide +kernel
theorem dX3_pianoPart_13 : decode cX3_pianoPart 13 = .ok (.iaload, 1) := by decide +kernel
theorem dX3_pianoPart_14 : decode cX3_pianoPart 14 = .ok (.ireturn, 1) := by decide +kernel
theorem dX3_setPiano_0 : decode cX3_setPiano 0 = .ok (.aload_n 0, 1) := by decide +kernel
theorem dX3_setPiano_1 : decode cX3_setPiano 1 = .ok (.getfield 7, 3) := by decide +kernel
theorem dX3_setPiano_4 : decode cX3_setPiano 4 = .ok (.bipush 12, 2) := by decide +kernel
theorem dX3_setPiano_6 : decode cX3_setPiano 6 = .ok (.bipush 6, 2) := by decide +kernel
theorem dX3_setPiano_8 : decode cX3_setPiano 8 = .ok (.iload_n 1, 1) := by decide +kernel
theorem dX3_setPiano_9 : decode cX3_setPiano 9 = .ok (.imul, 1) := by decide +kernel
theorem dX3_setPiano_10 : decode cX3_setPiano 10 = .ok (.iadd, 1) := by decide +kernel
theorem dX3_setPiano_11 : decode cX3_setPiano 11 = .ok (.iload_n 2, 1) := by decide +kernel
theorem dX3_setPiano_12 : decode cX3_setPiano 12 = .ok (.iadd, 1) := by decide +kernel
theorem dX3_setPiano_13 : decode cX3_setPiano 13 = .ok (.iload_n 3, 1) := by decide +kernel
theorem dX3_setPiano_14 : decode cX3_setPiano 14 = .ok (.iastore, 1) := by decide +kernel
theorem dX3_setPiano_15 : decode cX3_setPiano 15 = .ok (.return_, 1) := by decide +kernel
theorem dX3_keeperPart_0 : decode cX3_keeperPart 0 = .ok (.aload_n 0, 1) := by decide +kernel
theorem dX3_keeperPart_1 : decode cX3_keeperPart 1 = .ok (.getfield 7, 3) := by decide +kernel
theorem dX3_keeperPart_4 : decode cX3_keeperPart 4 = .ok (.bipush 84, 2) := by decide +kernel
theorem dX3_keeperPart_6 : decode cX3_keeperPart 6 = .ok (.iconst 5, 1) := by decide +kernel
theorem dX3_keeperPart_7 : decode cX3_keeperPart 7 = .ok (.iload_n 1, 1) := by decide +kernel
theorem dX3_keeperPart_8 : decode cX3_keeperPart 8 = .ok (.imul, 1) := by decide +kernel
theorem dX3_keeperPart_9 : decode cX3_keeperPart 9 = .ok (.iadd, 1) := by decide +kernel
theorem dX3_keeperPart_10 : decode cX3_keeperPart 10 = .ok (.iload_n 2, 1) := by decide +kernel
theorem dX3_keeperPart_11 : decode cX3_keeperPart 11 = .ok (.iadd, 1) := by decide +kernel
theorem dX3_keeperPart_12 : decode cX3_keeperPart 12 = .ok (.iaload, 1) := by decide +kernel
theorem dX3_keeperPart_13 : decode cX3_keeperPart 13 = .ok (.ireturn, 1) := by decide +kernel
theorem dX3_adds_0 : decode cX3_adds 0 = .ok (.aload_n 0, 1) := by decide +kernel
theorem dX3_adds_1 : decode cX3_adds 1 = .ok (.getfield 7, 3) := by decide +kernel
theorem dX3_adds_4 : decode cX3_adds 4 = .ok (.bipush 84, 2) := by decide +kernel
theorem dX3_adds_6 : decode cX3_adds 6 = .ok (.iconst 5, 1) := by decide +kernel
theorem dX3_adds_7 : decode cX3_adds 7 = .ok (.iload_n 1, 1) := by decide +kernel
theorem dX3_adds_8 : decode cX3_adds 8 = .ok (.imul, 1) := by decide +kernel
theorem dX3_adds_9 : decode cX3_adds 9 = .ok (.iadd, 1) := by decide +kernel
theorem dX3_adds_10 : decode cX3_adds 10 = .ok (.iload_n 2, 1) := by decide +kernel
theorem dX3_adds_11 : decode cX3_adds 11 = .ok (.iadd, 1) := by decide +kernel
theorem dX3_adds_12 : decode cX3_adds 12 = .ok (.dup2, 1) := by decide +kernel
theorem dX3_adds_13 : decode cX3_adds 13 = .ok (.iaload, 1) := by decide +kernel
theorem dX3_adds_14 : decode cX3_adds 14 = .ok (.iload_n 3, 1) := by decide +kernel
theorem dX3_adds_15 : decode cX3_adds 15 = .ok (.iadd, 1) := by decide +kernel
theorem dX3_adds_16 : decode cX3_adds 16 = .ok (.iastore, 1) := by decide +kernel
theorem dX3_adds_17 : decode cX3_adds 17 = .ok (.return_, 1) := by decide +kernel
set_option maxRecDepth 20000 in
theorem ggX3_isPlace_X3_within : GoodIn wsX3_isPlace wsX3_within := goodIn_r _ [4] (by decide +kernel) (by decide +kernel)
set_option maxRecDepth 20000 in
theorem gX3_isPlace_X3_within : GoodIn wsX3_isPlace (va_wsS RX3 36 yX3_within wsX3_within) := goodIn_app (goodIn_of _ (by decide +kernel)) ggX3_isPlace_X3_within
theorem dX3_isPlace_0 : decode cX3_isPlace 0 = .ok (.iload_n 0, 1) := by decide +kernel
theorem dX3_isPlace_1 : decode cX3_isPlace 1 = .ok (.iconst 0, 1) := by decide +kernel
theorem dX3_isPlace_2 : decode cX3_isPlace 2 = .ok (.bipush 11, 2) := by decide +kernel
theorem dX3_isPlace_4 : decode cX3_isPlace 4 = .ok (.invokestatic 36, 3) := by decide +kernel
theorem dX3_isPlace_7 : decode cX3_isPlace 7 = .ok (.ireturn, 1) := by decide +kernel
set_option maxRecDepth 20000 in
theorem ggX3_isPiano_X3_isPlace : GoodIn wsX3_isPiano wsX3_isPlace := goodIn_r _ [4, 5, 6, 3, 7] (by decide +kernel) (by decide +kernel)
set_option maxRecDepth 20000 in
theorem gX3_isPiano_X3_isPlace : GoodIn wsX3_isPiano (va_wsS RX3 40 yX3_isPlace wsX3_isPlace) := goodIn_app (goodIn_of _ (by decide +kernel)) ggX3_isPiano_X3_isPlace
set_option maxRecDepth 20000 in
theorem ggX3_isPiano_X3_pianoPart : GoodIn wsX3_isPiano wsX3_pianoPart := goodIn_r _ [11, 12, 13, 14, 15, 16, 17, 18, 19, 20, 21, 22, 23, 24, 25] (by decide +kernel) (by decide +kernel)
set_option maxRecDepth 20000 in
theorem gX3_isPiano_X3_pianoPart : GoodIn wsX3_isPiano (wsV RX3 44 RX3 yX3_pianoPart wsX3_pianoPart) := goodIn_app (goodIn_of _ (by decide +kernel)) ggX3_isPiano_X3_pianoPart
theorem dX3_isPiano_0 : decode cX3_isPiano 0 = .ok (.iload_n 1, 1) := by decide +kernel
theorem dX3_isPiano_1 : decode cX3_isPiano 1 = .ok (.invokestatic 40, 3) := by decide +kernel
theorem dX3_isPiano_4 : decode cX3_isPiano 4 = .ok (.ifCond .eq 17, 3) := by decide +kernel
theorem dX3_isPiano_7 : decode cX3_isPiano 7 = .ok (.aload_n 0, 1) := by decide +kernel
theorem dX3_isPiano_8 : decode cX3_isPiano 8 = .ok (.iload_n 1, 1) := by decide +kernel
theorem dX3_isPiano_9 : decode cX3_isPiano 9 = .ok (.iconst 0, 1) := by decide +kernel
theorem dX3_isPiano_10 : decode cX3_isPiano 10 = .ok (.invokevirtual 44, 3) := by decide +kernel
theorem dX3_isPiano_13 : decode cX3_isPiano 13 = .ok (.iconst 1, 1) := by decide +kernel
theorem dX3_isPiano_14 : decode cX3_isPiano 14 = .ok (.if_icmp .ne 7, 3) := by decide +kernel
theorem dX3_isPiano_17 : decode cX3_isPiano 17 = .ok (.iconst 1, 1) := by decide +kernel
theorem dX3_isPiano_18 : decode cX3_isPiano 18 = .ok (.goto 4, 3) := by decide +kernel
theorem dX3_isPiano_21 : decode cX3_isPiano 21 = .ok (.iconst 0, 1) := by decide +kernel
theorem dX3_isPiano_22 : decode cX3_isPiano 22 = .ok (.ireturn, 1) := by decide +kernel
set_option maxRecDepth 20000 in
theorem ggX3_isOpen_X3_isPiano : GoodIn wsX3_isOpen wsX3_isPiano := goodIn_r _ [5, 6, 7, 4, 8, 9, 10, 11, 12, 13, 14, 15, 16, 17, 18, 19, 20, 21, 22, 23, 24, 25, 26, 27, 28, 29] (by decide +kernel) (by decide +kernel)
set_option maxRecDepth 20000 in
theorem gX3_isOpen_X3_isPiano : GoodIn wsX3_isOpen (wsV RX3 48 RX3 yX3_isPiano wsX3_isPiano) := goodIn_app (goodIn_of _ (by decide +kernel)) ggX3_isOpen_X3_isPiano
set_option maxRecDepth 20000 in
theorem ggX3_isOpen_X3_pianoPart : GoodIn wsX3_isOpen wsX3_pianoPart := goodIn_r _ [15, 16, 17, 18, 19, 20, 21, 22, 23, 24, 25, 26, 27, 28, 29] (by decide +kernel) (by decide +kernel)
set_option maxRecDepth 20000 in
theorem gX3_isOpen_X3_pianoPart : GoodIn wsX3_isOpen (wsV RX3 44 RX3 yX3_pianoPart wsX3_pianoPart) := goodIn_app (goodIn_of _ (by decide +kernel)) ggX3_isOpen_X3_pianoPart
theorem dX3_isOpen_0 : decode cX3_isOpen 0 = .ok (.aload_n 0, 1) := by decide +kernel
theorem dX3_isOpen_1 : decode cX3_isOpen 1 = .ok (.iload_n 1, 1) := by decide +kernel
theorem dX3_isOpen_2 : decode cX3_isOpen 2 = .ok (.invokevirtual 48, 3) := by decide +kernel
theorem dX3_isOpen_5 : decode cX3_isOpen 5 = .ok (.ifCond .eq 17, 3) := by decide +kernel
theorem dX3_isOpen_8 : decode cX3_isOpen 8 = .ok (.aload_n 0, 1) := by decide +kernel
theorem dX3_isOpen_9 : decode cX3_isOpen 9 = .ok (.iload_n 1, 1) := by decide +kernel
theorem dX3_isOpen_10 : decode cX3_isOpen 10 = .ok (.iconst 3, 1) := by decide +kernel
theorem dX3_isOpen_11 : decode cX3_isOpen 11 = .ok (.invokevirtual 44, 3) := by decide +kernel
theorem dX3_isOpen_14 : decode cX3_isOpen 14 = .ok (.iconst 2, 1) := by decide +kernel
theorem dX3_isOpen_15 : decode cX3_isOpen 15 = .ok (.if_icmp .eq 7, 3) := by decide +kernel
theorem dX3_isOpen_18 : decode cX3_isOpen 18 = .ok (.iconst 1, 1) := by decide +kernel
theorem dX3_isOpen_19 : decode cX3_isOpen 19 = .ok (.goto 4, 3) := by decide +kernel
theorem dX3_isOpen_22 : decode cX3_isOpen 22 = .ok (.iconst 0, 1) := by decide +kernel
theorem dX3_isOpen_23 : decode cX3_isOpen 23 = .ok (.ireturn, 1) := by decide +kernel
theorem dX3_rainsIn_0 : decode cX3_rainsIn 0 = .ok (.aload_n 0, 1) := by decide +kernel
theorem dX3_rainsIn_1 : decode cX3_rainsIn 1 = .ok (.getfield 7, 3) := by decide +kernel
theorem dX3_rainsIn_4 : decode cX3_rainsIn 4 = .ok (.bipush 8, 2) := by decide +kernel
theorem dX3_rainsIn_6 : decode cX3_rainsIn 6 = .ok (.iaload, 1) := by decide +kernel
theorem dX3_rainsIn_7 : decode cX3_rainsIn 7 = .ok (.aload_n 0, 1) := by decide +kernel
theorem dX3_rainsIn_8 : decode cX3_rainsIn 8 = .ok (.getfield 7, 3) := by decide +kernel
theorem dX3_rainsIn_11 : decode cX3_rainsIn 11 = .ok (.bipush 7, 2) := by decide +kernel
theorem dX3_rainsIn_13 : decode cX3_rainsIn 13 = .ok (.iaload, 1) := by decide +kernel
theorem dX3_rainsIn_14 : decode cX3_rainsIn 14 = .ok (.iload_n 1, 1) := by decide +kernel
theorem dX3_rainsIn_15 : decode cX3_rainsIn 15 = .ok (.iadd, 1) := by decide +kernel
theorem dX3_rainsIn_16 : decode cX3_rainsIn 16 = .ok (.bipush 24, 2) := by decide +kernel
theorem dX3_rainsIn_18 : decode cX3_rainsIn 18 = .ok (.irem, 1) := by decide +kernel
theorem dX3_rainsIn_19 : decode cX3_rainsIn 19 = .ok (.ishr, 1) := by decide +kernel
theorem dX3_rainsIn_20 : decode cX3_rainsIn 20 = .ok (.iconst 1, 1) := by decide +kernel
theorem dX3_rainsIn_21 : decode cX3_rainsIn 21 = .ok (.iand, 1) := by decide +kernel
theorem dX3_rainsIn_22 : decode cX3_rainsIn 22 = .ok (.iconst 1, 1) := by decide +kernel
theorem dX3_rainsIn_23 : decode cX3_rainsIn 23 = .ok (.if_icmp .ne 7, 3) := by decide +kernel
theorem dX3_rainsIn_26 : decode cX3_rainsIn 26 = .ok (.iconst 1, 1) := by decide +kernel
theorem dX3_rainsIn_27 : decode cX3_rainsIn 27 = .ok (.goto 4, 3) := by decide +kernel
theorem dX3_rainsIn_30 : decode cX3_rainsIn 30 = .ok (.iconst 0, 1) := by decide +kernel
theorem dX3_rainsIn_31 : decode cX3_rainsIn 31 = .ok (.ireturn, 1) := by decide +kernel
set_option maxRecDepth 20000 in
theorem ggX3_isRainAhead_X3_rainsIn : GoodIn wsX3_isRainAhead wsX3_rainsIn := goodIn_r _ [6, 1, 7, 8, 9, 10, 11, 12, 13, 14, 15, 16, 17, 18, 19] (by decide +kernel) (by decide +kernel)
set_option maxRecDepth 20000 in
theorem gX3_isRainAhead_X3_rainsIn : GoodIn wsX3_isRainAhead (wsV RX3 51 RX3 yX3_rainsIn wsX3_rainsIn) := goodIn_app (goodIn_of _ (by decide +kernel)) ggX3_isRainAhead_X3_rainsIn
theorem dX3_isRainAhead_0 : decode cX3_isRainAhead 0 = .ok (.iconst 0, 1) := by decide +kernel
theorem dX3_isRainAhead_1 : decode cX3_isRainAhead 1 = .ok (.istore_n 1, 1) := by decide +kernel
theorem dX3_isRainAhead_2 : decode cX3_isRainAhead 2 = .ok (.iconst 0, 1) := by decide +kernel
theorem dX3_isRainAhead_3 : decode cX3_isRainAhead 3 = .ok (.istore_n 2, 1) := by decide +kernel
theorem dX3_isRainAhead_4 : decode cX3_isRainAhead 4 = .ok (.iload_n 2, 1) := by decide +kernel
theorem dX3_isRainAhead_5 : decode cX3_isRainAhead 5 = .ok (.aload_n 0, 1) := by decide +kernel
theorem dX3_isRainAhead_6 : decode cX3_isRainAhead 6 = .ok (.getfield 7, 3) := by decide +kernel
theorem dX3_isRainAhead_9 : decode cX3_isRainAhead 9 = .ok (.iconst 0, 1) := by decide +kernel
theorem dX3_isRainAhead_10 : decode cX3_isRainAhead 10 = .ok (.iaload, 1) := by decide +kernel
theorem dX3_isRainAhead_11 : decode cX3_isRainAhead 11 = .ok (.if_icmp .gt 27, 3) := by decide +kernel
theorem dX3_isRainAhead_14 : decode cX3_isRainAhead 14 = .ok (.iload_n 1, 1) := by decide +kernel
theorem dX3_isRainAhead_15 : decode cX3_isRainAhead 15 = .ok (.ifCond .ne 11, 3) := by decide +kernel
theorem dX3_isRainAhead_18 : decode cX3_isRainAhead 18 = .ok (.aload_n 0, 1) := by decide +kernel
theorem dX3_isRainAhead_19 : decode cX3_isRainAhead 19 = .ok (.iload_n 2, 1) := by decide +kernel
theorem dX3_isRainAhead_20 : decode cX3_isRainAhead 20 = .ok (.invokevirtual 51, 3) := by decide +kernel
theorem dX3_isRainAhead_23 : decode cX3_isRainAhead 23 = .ok (.ifCond .eq 7, 3) := by decide +kernel
theorem dX3_isRainAhead_26 : decode cX3_isRainAhead 26 = .ok (.iconst 1, 1) := by decide +kernel
theorem dX3_isRainAhead_27 : decode cX3_isRainAhead 27 = .ok (.goto 4, 3) := by decide +kernel
theorem dX3_isRainAhead_30 : decode cX3_isRainAhead 30 = .ok (.iconst 0, 1) := by decide +kernel
theorem dX3_isRainAhead_31 : decode cX3_isRainAhead 31 = .ok (.istore_n 1, 1) := by decide +kernel
theorem dX3_isRainAhead_32 : decode cX3_isRainAhead 32 = .ok (.iinc 2 1, 3) := by decide +kernel
theorem dX3_isRainAhead_35 : decode cX3_isRainAhead 35 = .ok (.goto (-31), 3) := by decide +kernel
theorem dX3_isRainAhead_38 : decode cX3_isRainAhead 38 = .ok (.iload_n 1, 1) := by decide +kernel
theorem dX3_isRainAhead_39 : decode cX3_isRainAhead 39 = .ok (.ireturn, 1) := by decide +kernel
set_option maxRecDepth 20000 in
theorem ggX3_keepersAt_X3_keeperPart : GoodIn wsX3_keepersAt wsX3_keeperPart := goodIn_r _ [6, 1, 7, 8, 9, 10, 11, 12, 13, 14, 15, 16, 17, 18, 19] (by decide +kernel) (by decide +kernel)
set_option maxRecDepth 20000 in
theorem gX3_keepersAt_X3_keeperPart : GoodIn wsX3_keepersAt (wsV RX3 54 RX3 yX3_keeperPart wsX3_keeperPart) := goodIn_app (goodIn_of _ (by decide +kernel)) ggX3_keepersAt_X3_keeperPart
theorem dX3_keepersAt_0 : decode cX3_keepersAt 0 = .ok (.iconst 0, 1) := by decide +kernel
theorem dX3_keepersAt_1 : decode cX3_keepersAt 1 = .ok (.istore_n 2, 1) := by decide +kernel
theorem dX3_keepersAt_2 : decode cX3_keepersAt 2 = .ok (.iconst 0, 1) := by decide +kernel
theorem dX3_keepersAt_3 : decode cX3_keepersAt 3 = .ok (.istore_n 3, 1) := by decide +kernel
theorem dX3_keepersAt_4 : decode cX3_keepersAt 4 = .ok (.iload_n 3, 1) := by decide +kernel
theorem dX3_keepersAt_5 : decode cX3_keepersAt 5 = .ok (.aload_n 0, 1) := by decide +kernel
theorem dX3_keepersAt_6 : decode cX3_keepersAt 6 = .ok (.getfield 7, 3) := by decide +kernel
theorem dX3_keepersAt_9 : decode cX3_keepersAt 9 = .ok (.bipush 11, 2) := by decide +kernel
theorem dX3_keepersAt_11 : decode cX3_keepersAt 11 = .ok (.iaload, 1) := by decide +kernel
theorem dX3_keepersAt_12 : decode cX3_keepersAt 12 = .ok (.if_icmp .ge 27, 3) := by decide +kernel
theorem dX3_keepersAt_15 : decode cX3_keepersAt 15 = .ok (.iload_n 2, 1) := by decide +kernel
theorem dX3_keepersAt_16 : decode cX3_keepersAt 16 = .ok (.aload_n 0, 1) := by decide +kernel
theorem dX3_keepersAt_17 : decode cX3_keepersAt 17 = .ok (.iload_n 3, 1) := by decide +kernel
theorem dX3_keepersAt_18 : decode cX3_keepersAt 18 = .ok (.iconst 0, 1) := by decide +kernel
theorem dX3_keepersAt_19 : decode cX3_keepersAt 19 = .ok (.invokevirtual 54, 3) := by decide +kernel
theorem dX3_keepersAt_22 : decode cX3_keepersAt 22 = .ok (.iload_n 1, 1) := by decide +kernel
theorem dX3_keepersAt_23 : decode cX3_keepersAt 23 = .ok (.if_icmp .ne 7, 3) := by decide +kernel
theorem dX3_keepersAt_26 : decode cX3_keepersAt 26 = .ok (.iconst 1, 1) := by decide +kernel
theorem dX3_keepersAt_27 : decode cX3_keepersAt 27 = .ok (.goto 4, 3) := by decide +kernel
theorem dX3_keepersAt_30 : decode cX3_keepersAt 30 = .ok (.iconst 0, 1) := by decide +kernel
theorem dX3_keepersAt_31 : decode cX3_keepersAt 31 = .ok (.iadd, 1) := by decide +kernel
theorem dX3_keepersAt_32 : decode cX3_keepersAt 32 = .ok (.istore_n 2, 1) := by decide +kernel
theorem dX3_keepersAt_33 : decode cX3_keepersAt 33 = .ok (.iinc 3 1, 3) := by decide +kernel
theorem dX3_keepersAt_36 : decode cX3_keepersAt 36 = .ok (.goto (-32), 3) := by decide +kernel
theorem dX3_keepersAt_39 : decode cX3_keepersAt 39 = .ok (.iload_n 2, 1) := by decide +kernel
theorem dX3_keepersAt_40 : decode cX3_keepersAt 40 = .ok (.ireturn, 1) := by decide +kernel
set_option maxRecDepth 20000 in
theorem ggX3_pianosThere_X3_pianoPart : GoodIn wsX3_pianosThere wsX3_pianoPart := goodIn_r _ [5, 6, 7, 8, 9, 10, 11, 12, 13, 14, 15, 16, 17, 18, 19] (by decide +kernel) (by decide +kernel)
set_option maxRecDepth 20000 in
theorem gX3_pianosThere_X3_pianoPart : GoodIn wsX3_pianosThere (wsV RX3 44 RX3 yX3_pianoPart wsX3_pianoPart) := goodIn_app (goodIn_of _ (by decide +kernel)) ggX3_pianosThere_X3_pianoPart
theorem dX3_pianosThere_0 : decode cX3_pianosThere 0 = .ok (.iconst 0, 1) := by decide +kernel
theorem dX3_pianosThere_1 : decode cX3_pianosThere 1 = .ok (.istore_n 1, 1) := by decide +kernel
theorem dX3_pianosThere_2 : decode cX3_pianosThere 2 = .ok (.iconst 0, 1) := by decide +kernel
theorem dX3_pianosThere_3 : decode cX3_pianosThere 3 = .ok (.istore_n 2, 1) := by decide +kernel
theorem dX3_pianosThere_4 : decode cX3_pianosThere 4 = .ok (.iload_n 2, 1) := by decide +kernel
theorem dX3_pianosThere_5 : decode cX3_pianosThere 5 = .ok (.bipush 12, 2) := by decide +kernel
theorem dX3_pianosThere_7 : decode cX3_pianosThere 7 = .ok (.if_icmp .ge 18, 3) := by decide +kernel
theorem dX3_pianosThere_10 : decode cX3_pianosThere 10 = .ok (.iload_n 1, 1) := by decide +kernel
theorem dX3_pianosThere_11 : decode cX3_pianosThere 11 = .ok (.aload_n 0, 1) := by decide +kernel
theorem dX3_pianosThere_12 : decode cX3_pianosThere 12 = .ok (.iload_n 2, 1) := by decide +kernel
theorem dX3_pianosThere_13 : decode cX3_pianosThere 13 = .ok (.iconst 0, 1) := by decide +kernel
theorem dX3_pianosThere_14 : decode cX3_pianosThere 14 = .ok (.invokevirtual 44, 3) := by decide +kernel
theorem dX3_pianosThere_17 : decode cX3_pianosThere 17 = .ok (.iadd, 1) := by decide +kernel
theorem dX3_pianosThere_18 : decode cX3_pianosThere 18 = .ok (.istore_n 1, 1) := by decide +kernel
theorem dX3_pianosThere_19 : decode cX3_pianosThere 19 = .ok (.iinc 2 1, 3) := by decide +kernel
theorem dX3_pianosThere_22 : decode cX3_pianosThere 22 = .ok (.goto (-18), 3) := by decide +kernel
theorem dX3_pianosThere_25 : decode cX3_pianosThere 25 = .ok (.iload_n 1, 1) := by decide +kernel
theorem dX3_pianosThere_26 : decode cX3_pianosThere 26 = .ok (.ireturn, 1) := by decide +kernel
set_option maxRecDepth 20000 in
theorem ggX3_isWanted_X3_isPiano : GoodIn wsX3_isWanted wsX3_isPiano := goodIn_r _ [7, 8, 9, 6, 10, 11, 12, 13, 14, 15, 16, 17, 2, 22, 23, 24, 25, 26, 27, 28, 29, 30, 31, 32, 33, 34] (by decide +kernel) (by decide +kernel)
set_option maxRecDepth 20000 in
theorem gX3_isWanted_X3_isPiano : GoodIn wsX3_isWanted (wsV RX3 48 RX3 yX3_isPiano wsX3_isPiano) := goodIn_app (goodIn_of _ (by decide +kernel)) ggX3_isWanted_X3_isPiano
set_option maxRecDepth 20000 in
theorem ggX3_isWanted_X3_pianoPart : GoodIn wsX3_isWanted wsX3_pianoPart := goodIn_r _ [17, 2, 22, 23, 24, 25, 26, 27, 28, 29, 30, 31, 32, 33, 34] (by decide +kernel) (by decide +kernel)
set_option maxRecDepth 20000 in
theorem gX3_isWanted_X3_pianoPart : GoodIn wsX3_isWanted (wsV RX3 44 RX3 yX3_pianoPart wsX3_pianoPart) := goodIn_app (goodIn_of _ (by decide +kernel)) ggX3_isWanted_X3_pianoPart
set_option maxRecDepth 20000 in
theorem ggX3_isWanted_X3_isOpen : GoodIn wsX3_isWanted wsX3_isOpen := goodIn_r _ [21, 3, 4, 5, 6, 7, 8, 9, 10, 11, 12, 13, 14, 15, 16, 17, 2, 22, 23, 24, 25, 26, 27, 28, 29, 30, 31, 32, 33, 34] (by decide +kernel) (by decide +kernel)
set_option maxRecDepth 20000 in
theorem gX3_isWanted_X3_isOpen : GoodIn wsX3_isWanted (wsV RX3 60 RX3 yX3_isOpen wsX3_isOpen) := goodIn_app (goodIn_of _ (by decide +kernel)) ggX3_isWanted_X3_isOpen
theorem dX3_isWanted_0 : decode cX3_isWanted 0 = .ok (.aload_n 0, 1) := by decide +kernel
theorem dX3_isWanted_1 : decode cX3_isWanted 1 = .ok (.iload_n 1, 1) := by decide +kernel
theorem dX3_isWanted_2 : decode cX3_isWanted 2 = .ok (.invokevirtual 48, 3) := by decide +kernel
theorem dX3_isWanted_5 : decode cX3_isWanted 5 = .ok (.ifCond .eq 15, 3) := by decide +kernel
theorem dX3_isWanted_8 : decode cX3_isWanted 8 = .ok (.aload_n 0, 1) := by decide +kernel
theorem dX3_isWanted_9 : decode cX3_isWanted 9 = .ok (.getfield 57, 3) := by decide +kernel
theorem dX3_isWanted_12 : decode cX3_isWanted 12 = .ok (.iload_n 1, 1) := by decide +kernel
theorem dX3_isWanted_13 : decode cX3_isWanted 13 = .ok (.ishr, 1) := by decide +kernel
theorem dX3_isWanted_14 : decode cX3_isWanted 14 = .ok (.iconst 1, 1) := by decide +kernel
theorem dX3_isWanted_15 : decode cX3_isWanted 15 = .ok (.iand, 1) := by decide +kernel
theorem dX3_isWanted_16 : decode cX3_isWanted 16 = .ok (.iconst 1, 1) := by decide +kernel
theorem dX3_isWanted_17 : decode cX3_isWanted 17 = .ok (.if_icmp .ne 5, 3) := by decide +kernel
theorem dX3_isWanted_20 : decode cX3_isWanted 20 = .ok (.iconst 0, 1) := by decide +kernel
theorem dX3_isWanted_21 : decode cX3_isWanted 21 = .ok (.ireturn, 1) := by decide +kernel
theorem dX3_isWanted_22 : decode cX3_isWanted 22 = .ok (.iload_n 2, 1) := by decide +kernel
theorem dX3_isWanted_23 : decode cX3_isWanted 23 = .ok (.iconst 3, 1) := by decide +kernel
theorem dX3_isWanted_24 : decode cX3_isWanted 24 = .ok (.if_icmp .ge 21, 3) := by decide +kernel
theorem dX3_isWanted_27 : decode cX3_isWanted 27 = .ok (.aload_n 0, 1) := by decide +kernel
theorem dX3_isWanted_28 : decode cX3_isWanted 28 = .ok (.iload_n 1, 1) := by decide +kernel
theorem dX3_isWanted_29 : decode cX3_isWanted 29 = .ok (.iconst 3, 1) := by decide +kernel
theorem dX3_isWanted_30 : decode cX3_isWanted 30 = .ok (.invokevirtual 44, 3) := by decide +kernel
theorem dX3_isWanted_33 : decode cX3_isWanted 33 = .ok (.iload_n 2, 1) := by decide +kernel
theorem dX3_isWanted_34 : decode cX3_isWanted 34 = .ok (.if_icmp .ne 7, 3) := by decide +kernel
theorem dX3_isWanted_37 : decode cX3_isWanted 37 = .ok (.iconst 1, 1) := by decide +kernel
theorem dX3_isWanted_38 : decode cX3_isWanted 38 = .ok (.goto 35, 3) := by decide +kernel
theorem dX3_isWanted_41 : decode cX3_isWanted 41 = .ok (.iconst 0, 1) := by decide +kernel
theorem dX3_isWanted_42 : decode cX3_isWanted 42 = .ok (.goto 31, 3) := by decide +kernel
theorem dX3_isWanted_45 : decode cX3_isWanted 45 = .ok (.aload_n 0, 1) := by decide +kernel
theorem dX3_isWanted_46 : decode cX3_isWanted 46 = .ok (.iload_n 1, 1) := by decide +kernel
theorem dX3_isWanted_47 : decode cX3_isWanted 47 = .ok (.invokevirtual 60, 3) := by decide +kernel
theorem dX3_isWanted_50 : decode cX3_isWanted 50 = .ok (.ifCond .eq 22, 3) := by decide +kernel
theorem dX3_isWanted_53 : decode cX3_isWanted 53 = .ok (.aload_n 0, 1) := by decide +kernel
theorem dX3_isWanted_54 : decode cX3_isWanted 54 = .ok (.iload_n 1, 1) := by decide +kernel
theorem dX3_isWanted_55 : decode cX3_isWanted 55 = .ok (.iconst 1, 1) := by decide +kernel
theorem dX3_isWanted_56 : decode cX3_isWanted 56 = .ok (.invokevirtual 44, 3) := by decide +kernel
theorem dX3_isWanted_59 : decode cX3_isWanted 59 = .ok (.aload_n 0, 1) := by decide +kernel
theorem dX3_isWanted_60 : decode cX3_isWanted 60 = .ok (.getfield 7, 3) := by decide +kernel
theorem dX3_isWanted_63 : decode cX3_isWanted 63 = .ok (.iconst 5, 1) := by decide +kernel
theorem dX3_isWanted_64 : decode cX3_isWanted 64 = .ok (.iaload, 1) := by decide +kernel
theorem dX3_isWanted_65 : decode cX3_isWanted 65 = .ok (.if_icmp .ge 7, 3) := by decide +kernel
theorem dX3_isWanted_68 : decode cX3_isWanted 68 = .ok (.iconst 1, 1) := by decide +kernel
theorem dX3_isWanted_69 : decode cX3_isWanted 69 = .ok (.goto 4, 3) := by decide +kernel
theorem dX3_isWanted_72 : decode cX3_isWanted 72 = .ok (.iconst 0, 1) := by decide +kernel
theorem dX3_isWanted_73 : decode cX3_isWanted 73 = .ok (.ireturn, 1) := by decide +kernel
set_option maxRecDepth 20000 in
theorem ggX3_nearest_X3_isWanted : GoodIn wsX3_nearest wsX3_isWanted := goodIn_r _ [5, 6, 7, 8, 9, 10, 4, 11, 12, 13, 14, 15, 16, 17, 18, 19, 20, 21, 22, 23, 24, 25, 33, 34, 35, 36, 37, 38, 39, 40, 41, 42, 43, 44, 45] (by decide +kernel) (by decide +kernel)
set_option maxRecDepth 20000 in
theorem gX3_nearest_X3_isWanted : GoodIn wsX3_nearest (wsV RX3 63 RX3 yX3_isWanted wsX3_isWanted) := goodIn_app (goodIn_of _ (by decide +kernel)) ggX3_nearest_X3_isWanted
set_option maxRecDepth 20000 in
theorem ggX3_nearest_X3_keeperPart : GoodIn wsX3_nearest wsX3_keeperPart := goodIn_r _ [29, 7, 33, 34, 35, 36, 37, 38, 39, 40, 41, 42, 43, 44, 45] (by decide +kernel) (by decide +kernel)
set_option maxRecDepth 20000 in
theorem gX3_nearest_X3_keeperPart : GoodIn wsX3_nearest (wsV RX3 54 RX3 yX3_keeperPart wsX3_keeperPart) := goodIn_app (goodIn_of _ (by decide +kernel)) ggX3_nearest_X3_keeperPart
set_option maxRecDepth 20000 in
theorem ggX3_nearest_X3_size : GoodIn wsX3_nearest wsX3_size := goodIn_r _ [32] (by decide +kernel) (by decide +kernel)
set_option maxRecDepth 20000 in
theorem gX3_nearest_X3_size : GoodIn wsX3_nearest (va_wsS RX3 67 yX3_size wsX3_size) := goodIn_app (goodIn_of _ (by decide +kernel)) ggX3_nearest_X3_size
theorem dX3_nearest_0 : decode cX3_nearest 0 = .ok (.bipush (-6), 2) := by decide +kernel
theorem dX3_nearest_2 : decode cX3_nearest 2 = .ok (.istore_n 3, 1) := by decide +kernel
theorem dX3_nearest_3 : decode cX3_nearest 3 = .ok (.iconst 0, 1) := by decide +kernel
theorem dX3_nearest_4 : decode cX3_nearest 4 = .ok (.istore 4, 2) := by decide +kernel
theorem dX3_nearest_6 : decode cX3_nearest 6 = .ok (.iload 4, 2) := by decide +kernel
theorem dX3_nearest_8 : decode cX3_nearest 8 = .ok (.bipush 12, 2) := by decide +kernel
theorem dX3_nearest_10 : decode cX3_nearest 10 = .ok (.if_icmp .ge 70, 3) := by decide +kernel
theorem dX3_nearest_13 : decode cX3_nearest 13 = .ok (.aload_n 0, 1) := by decide +kernel
theorem dX3_nearest_14 : decode cX3_nearest 14 = .ok (.iload 4, 2) := by decide +kernel
theorem dX3_nearest_16 : decode cX3_nearest 16 = .ok (.iload_n 2, 1) := by decide +kernel
theorem dX3_nearest_17 : decode cX3_nearest 17 = .ok (.invokevirtual 63, 3) := by decide +kernel
theorem dX3_nearest_20 : decode cX3_nearest 20 = .ok (.ifCond .eq 39, 3) := by decide +kernel
theorem dX3_nearest_23 : decode cX3_nearest 23 = .ok (.iload_n 3, 1) := by decide +kernel
theorem dX3_nearest_24 : decode cX3_nearest 24 = .ok (.bipush (-6), 2) := by decide +kernel
theorem dX3_nearest_26 : decode cX3_nearest 26 = .ok (.if_icmp .eq 29, 3) := by decide +kernel
theorem dX3_nearest_29 : decode cX3_nearest 29 = .ok (.iload 4, 2) := by decide +kernel
theorem dX3_nearest_31 : decode cX3_nearest 31 = .ok (.aload_n 0, 1) := by decide +kernel
theorem dX3_nearest_32 : decode cX3_nearest 32 = .ok (.iload_n 1, 1) := by decide +kernel
theorem dX3_nearest_33 : decode cX3_nearest 33 = .ok (.iconst 0, 1) := by decide +kernel
theorem dX3_nearest_34 : decode cX3_nearest 34 = .ok (.invokevirtual 54, 3) := by decide +kernel
theorem dX3_nearest_37 : decode cX3_nearest 37 = .ok (.isub, 1) := by decide +kernel
theorem dX3_nearest_38 : decode cX3_nearest 38 = .ok (.invokestatic 67, 3) := by decide +kernel
theorem dX3_nearest_41 : decode cX3_nearest 41 = .ok (.iload_n 3, 1) := by decide +kernel
theorem dX3_nearest_42 : decode cX3_nearest 42 = .ok (.aload_n 0, 1) := by decide +kernel
theorem dX3_nearest_43 : decode cX3_nearest 43 = .ok (.iload_n 1, 1) := by decide +kernel
theorem dX3_nearest_44 : decode cX3_nearest 44 = .ok (.iconst 0, 1) := by decide +kernel
theorem dX3_nearest_45 : decode cX3_nearest 45 = .ok (.invokevirtual 54, 3) := by decide +kernel
theorem dX3_nearest_48 : decode cX3_nearest 48 = .ok (.isub, 1) := by decide +kernel
theorem dX3_nearest_49 : decode cX3_nearest 49 = .ok (.invokestatic 67, 3) := by decide +kernel
theorem dX3_nearest_52 : decode cX3_nearest 52 = .ok (.if_icmp .ge 7, 3) := by decide +kernel
theorem dX3_nearest_55 : decode cX3_nearest 55 = .ok (.iconst 1, 1) := by decide +kernel
theorem dX3_nearest_56 : decode cX3_nearest 56 = .ok (.goto 4, 3) := by decide +kernel
theorem dX3_nearest_59 : decode cX3_nearest 59 = .ok (.iconst 0, 1) := by decide +kernel
theorem dX3_nearest_60 : decode cX3_nearest 60 = .ok (.istore 5, 2) := by decide +kernel
theorem dX3_nearest_62 : decode cX3_nearest 62 = .ok (.iload 5, 2) := by decide +kernel
theorem dX3_nearest_64 : decode cX3_nearest 64 = .ok (.ifCond .eq 8, 3) := by decide +kernel
theorem dX3_nearest_67 : decode cX3_nearest 67 = .ok (.iload 4, 2) := by decide +kernel
theorem dX3_nearest_69 : decode cX3_nearest 69 = .ok (.goto 4, 3) := by decide +kernel
theorem dX3_nearest_72 : decode cX3_nearest 72 = .ok (.iload_n 3, 1) := by decide +kernel
theorem dX3_nearest_73 : decode cX3_nearest 73 = .ok (.istore_n 3, 1) := by decide +kernel
theorem dX3_nearest_74 : decode cX3_nearest 74 = .ok (.iinc 4 1, 3) := by decide +kernel
theorem dX3_nearest_77 : decode cX3_nearest 77 = .ok (.goto (-71), 3) := by decide +kernel
theorem dX3_nearest_80 : decode cX3_nearest 80 = .ok (.iload_n 3, 1) := by decide +kernel
theorem dX3_nearest_81 : decode cX3_nearest 81 = .ok (.ireturn, 1) := by decide +kernel
set_option maxRecDepth 20000 in
theorem ggX3_does_X3_keeperPart : GoodIn wsX3_does wsX3_keeperPart := goodIn_r _ [5, 6, 22, 23, 24, 25, 26, 27, 28, 29, 30, 31, 32, 33, 34] (by decide +kernel) (by decide +kernel)
set_option maxRecDepth 20000 in
theorem gX3_does_X3_keeperPart : GoodIn wsX3_does (wsV RX3 54 RX3 yX3_keeperPart wsX3_keeperPart) := goodIn_app (goodIn_of _ (by decide +kernel)) ggX3_does_X3_keeperPart
set_option maxRecDepth 20000 in
theorem ggX3_does_X3_adds : GoodIn wsX3_does wsX3_adds := goodIn_r _ [10, 6, 22, 23, 24, 25, 26, 27, 28, 29, 30, 31, 32, 33, 34] (by decide +kernel) (by decide +kernel)
set_option maxRecDepth 20000 in
theorem gX3_does_X3_adds : GoodIn wsX3_does (wsV RX3 71 RX3 yX3_adds wsX3_adds) := goodIn_app (goodIn_of _ (by decide +kernel)) ggX3_does_X3_adds
set_option maxRecDepth 20000 in
theorem ggX3_does_X3_setPiano : GoodIn wsX3_does wsX3_setPiano := goodIn_r _ [14, 6, 22, 23, 24, 25, 26, 27, 28, 29, 30, 31, 32, 33, 34] (by decide +kernel) (by decide +kernel)
set_option maxRecDepth 20000 in
theorem gX3_does_X3_setPiano : GoodIn wsX3_does (wsV RX3 75 RX3 yX3_setPiano wsX3_setPiano) := goodIn_app (goodIn_of _ (by decide +kernel)) ggX3_does_X3_setPiano
set_option maxRecDepth 20000 in
theorem ggX3_does_X3_pianoPart : GoodIn wsX3_does wsX3_pianoPart := goodIn_r _ [18, 6, 22, 23, 24, 25, 26, 27, 28, 29, 30, 31, 32, 33, 34] (by decide +kernel) (by decide +kernel)
set_option maxRecDepth 20000 in
theorem gX3_does_X3_pianoPart : GoodIn wsX3_does (wsV RX3 44 RX3 yX3_pianoPart wsX3_pianoPart) := goodIn_app (goodIn_of _ (by decide +kernel)) ggX3_does_X3_pianoPart
set_option maxRecDepth 20000 in
theorem ggX3_does_X3_held : GoodIn wsX3_does wsX3_held := goodIn_r _ [21] (by decide +kernel) (by decide +kernel)
set_option maxRecDepth 20000 in
theorem gX3_does_X3_held : GoodIn wsX3_does (va_wsS RX3 78 yX3_held wsX3_held) := goodIn_app (goodIn_of _ (by decide +kernel)) ggX3_does_X3_held
theorem dX3_does_0 : decode cX3_does 0 = .ok (.aload_n 0, 1) := by decide +kernel
theorem dX3_does_1 : decode cX3_does 1 = .ok (.iload_n 1, 1) := by decide +kernel
theorem dX3_does_2 : decode cX3_does 2 = .ok (.iconst 0, 1) := by decide +kernel
theorem dX3_does_3 : decode cX3_does 3 = .ok (.invokevirtual 54, 3) := by decide +kernel
theorem dX3_does_6 : decode cX3_does 6 = .ok (.iload_n 2, 1) := by decide +kernel
theorem dX3_does_7 : decode cX3_does 7 = .ok (.if_icmp .eq 34, 3) := by decide +kernel
theorem dX3_does_10 : decode cX3_does 10 = .ok (.aload_n 0, 1) := by decide +kernel
theorem dX3_does_11 : decode cX3_does 11 = .ok (.iload_n 1, 1) := by decide +kernel
theorem dX3_does_12 : decode cX3_does 12 = .ok (.iconst 0, 1) := by decide +kernel
theorem dX3_does_13 : decode cX3_does 13 = .ok (.aload_n 0, 1) := by decide +kernel
theorem dX3_does_14 : decode cX3_does 14 = .ok (.iload_n 1, 1) := by decide +kernel
theorem dX3_does_15 : decode cX3_does 15 = .ok (.iconst 0, 1) := by decide +kernel
theorem dX3_does_16 : decode cX3_does 16 = .ok (.invokevirtual 54, 3) := by decide +kernel
theorem dX3_does_19 : decode cX3_does 19 = .ok (.iload_n 2, 1) := by decide +kernel
theorem dX3_does_20 : decode cX3_does 20 = .ok (.if_icmp .ge 7, 3) := by decide +kernel
theorem dX3_does_23 : decode cX3_does 23 = .ok (.iconst 1, 1) := by decide +kernel
theorem dX3_does_24 : decode cX3_does 24 = .ok (.goto 4, 3) := by decide +kernel
theorem dX3_does_27 : decode cX3_does 27 = .ok (.iconst (-1), 1) := by decide +kernel
theorem dX3_does_28 : decode cX3_does 28 = .ok (.invokevirtual 71, 3) := by decide +kernel
theorem dX3_does_31 : decode cX3_does 31 = .ok (.aload_n 0, 1) := by decide +kernel
theorem dX3_does_32 : decode cX3_does 32 = .ok (.iload_n 1, 1) := by decide +kernel
theorem dX3_does_33 : decode cX3_does 33 = .ok (.iconst 4, 1) := by decide +kernel
theorem dX3_does_34 : decode cX3_does 34 = .ok (.iconst 1, 1) := by decide +kernel
theorem dX3_does_35 : decode cX3_does 35 = .ok (.invokevirtual 71, 3) := by decide +kernel
theorem dX3_does_38 : decode cX3_does 38 = .ok (.goto 61, 3) := by decide +kernel
theorem dX3_does_41 : decode cX3_does 41 = .ok (.iload_n 3, 1) := by decide +kernel
theorem dX3_does_42 : decode cX3_does 42 = .ok (.iconst 3, 1) := by decide +kernel
theorem dX3_does_43 : decode cX3_does 43 = .ok (.if_icmp .ge 31, 3) := by decide +kernel
theorem dX3_does_46 : decode cX3_does 46 = .ok (.aload_n 0, 1) := by decide +kernel
theorem dX3_does_47 : decode cX3_does 47 = .ok (.iload_n 2, 1) := by decide +kernel
theorem dX3_does_48 : decode cX3_does 48 = .ok (.iconst 3, 1) := by decide +kernel
theorem dX3_does_49 : decode cX3_does 49 = .ok (.iconst 3, 1) := by decide +kernel
theorem dX3_does_50 : decode cX3_does 50 = .ok (.iload_n 3, 1) := by decide +kernel
theorem dX3_does_51 : decode cX3_does 51 = .ok (.isub, 1) := by decide +kernel
theorem dX3_does_52 : decode cX3_does 52 = .ok (.invokevirtual 75, 3) := by decide +kernel
theorem dX3_does_55 : decode cX3_does 55 = .ok (.aload_n 0, 1) := by decide +kernel
theorem dX3_does_56 : decode cX3_does 56 = .ok (.iload_n 1, 1) := by decide +kernel
theorem dX3_does_57 : decode cX3_does 57 = .ok (.iload_n 3, 1) := by decide +kernel
theorem dX3_does_58 : decode cX3_does 58 = .ok (.iconst 1, 1) := by decide +kernel
theorem dX3_does_59 : decode cX3_does 59 = .ok (.if_icmp .ne 7, 3) := by decide +kernel
theorem dX3_does_62 : decode cX3_does 62 = .ok (.iconst 1, 1) := by decide +kernel
theorem dX3_does_63 : decode cX3_does 63 = .ok (.goto 4, 3) := by decide +kernel
theorem dX3_does_66 : decode cX3_does 66 = .ok (.iconst 2, 1) := by decide +kernel
theorem dX3_does_67 : decode cX3_does 67 = .ok (.iconst 1, 1) := by decide +kernel
theorem dX3_does_68 : decode cX3_does 68 = .ok (.invokevirtual 71, 3) := by decide +kernel
theorem dX3_does_71 : decode cX3_does 71 = .ok (.goto 28, 3) := by decide +kernel
theorem dX3_does_74 : decode cX3_does 74 = .ok (.aload_n 0, 1) := by decide +kernel
theorem dX3_does_75 : decode cX3_does 75 = .ok (.iload_n 2, 1) := by decide +kernel
theorem dX3_does_76 : decode cX3_does 76 = .ok (.iconst 1, 1) := by decide +kernel
theorem dX3_does_77 : decode cX3_does 77 = .ok (.aload_n 0, 1) := by decide +kernel
theorem dX3_does_78 : decode cX3_does 78 = .ok (.iload_n 2, 1) := by decide +kernel
theorem dX3_does_79 : decode cX3_does 79 = .ok (.iconst 1, 1) := by decide +kernel
theorem dX3_does_80 : decode cX3_does 80 = .ok (.invokevirtual 44, 3) := by decide +kernel
theorem dX3_does_83 : decode cX3_does 83 = .ok (.bipush 10, 2) := by decide +kernel
theorem dX3_does_85 : decode cX3_does 85 = .ok (.iadd, 1) := by decide +kernel
theorem dX3_does_86 : decode cX3_does 86 = .ok (.invokestatic 78, 3) := by decide +kernel
theorem dX3_does_89 : decode cX3_does 89 = .ok (.invokevirtual 75, 3) := by decide +kernel
theorem dX3_does_92 : decode cX3_does 92 = .ok (.aload_n 0, 1) := by decide +kernel
theorem dX3_does_93 : decode cX3_does 93 = .ok (.iload_n 1, 1) := by decide +kernel
theorem dX3_does_94 : decode cX3_does 94 = .ok (.iconst 3, 1) := by decide +kernel
theorem dX3_does_95 : decode cX3_does 95 = .ok (.iconst 1, 1) := by decide +kernel
theorem dX3_does_96 : decode cX3_does 96 = .ok (.invokevirtual 71, 3) := by decide +kernel
theorem dX3_does_99 : decode cX3_does 99 = .ok (.return_, 1) := by decide +kernel
set_option maxRecDepth 20000 in
theorem ggX3_keeperGoes_X3_nearest : GoodIn wsX3_keeperGoes wsX3_nearest := goodIn_r _ [6, 7, 8, 9, 5, 10, 1, 11, 12, 13, 14, 15, 16, 17, 18, 19, 20, 21, 22, 23, 24, 25, 26, 27, 28, 29, 30, 31, 32, 33, 34, 35, 36, 52, 53, 54, 55, 56, 57, 58, 59, 60, 61, 62, 63, 64] (by decide +kernel) (by decide +kernel)
set_option maxRecDepth 20000 in
theorem gX3_keeperGoes_X3_nearest : GoodIn wsX3_keeperGoes (wsV RX3 81 RX3 yX3_nearest wsX3_nearest) := goodIn_app (goodIn_of _ (by decide +kernel)) ggX3_keeperGoes_X3_nearest
set_option maxRecDepth 20000 in
theorem ggX3_keeperGoes_X3_does : GoodIn wsX3_keeperGoes wsX3_does := goodIn_r _ [40, 30, 31, 32, 5, 33, 11, 41, 42, 43, 44, 45, 46, 47, 48, 22, 23, 24, 25, 49, 50, 51, 52, 53, 54, 55, 56, 57, 58, 59, 60, 61, 62, 63, 64] (by decide +kernel) (by decide +kernel)
set_option maxRecDepth 20000 in
theorem gX3_keeperGoes_X3_does : GoodIn wsX3_keeperGoes (wsV RX3 84 RX3 yX3_does wsX3_does) := goodIn_app (goodIn_of _ (by decide +kernel)) ggX3_keeperGoes_X3_does
theorem dX3_keeperGoes_0 : decode cX3_keeperGoes 0 = .ok (.iload_n 2, 1) := by decide +kernel
theorem dX3_keeperGoes_1 : decode cX3_keeperGoes 1 = .ok (.ifCond .eq 7, 3) := by decide +kernel
theorem dX3_keeperGoes_4 : decode cX3_keeperGoes 4 = .ok (.iconst 1, 1) := by decide +kernel
theorem dX3_keeperGoes_5 : decode cX3_keeperGoes 5 = .ok (.goto 4, 3) := by decide +kernel
theorem dX3_keeperGoes_8 : decode cX3_keeperGoes 8 = .ok (.iconst 2, 1) := by decide +kernel
theorem dX3_keeperGoes_9 : decode cX3_keeperGoes 9 = .ok (.istore_n 3, 1) := by decide +kernel
theorem dX3_keeperGoes_10 : decode cX3_keeperGoes 10 = .ok (.aload_n 0, 1) := by decide +kernel
theorem dX3_keeperGoes_11 : decode cX3_keeperGoes 11 = .ok (.iload_n 1, 1) := by decide +kernel
theorem dX3_keeperGoes_12 : decode cX3_keeperGoes 12 = .ok (.iload_n 3, 1) := by decide +kernel
theorem dX3_keeperGoes_13 : decode cX3_keeperGoes 13 = .ok (.invokevirtual 81, 3) := by decide +kernel
theorem dX3_keeperGoes_16 : decode cX3_keeperGoes 16 = .ok (.istore 4, 2) := by decide +kernel
theorem dX3_keeperGoes_18 : decode cX3_keeperGoes 18 = .ok (.iload 4, 2) := by decide +kernel
theorem dX3_keeperGoes_20 : decode cX3_keeperGoes 20 = .ok (.bipush (-6), 2) := by decide +kernel
theorem dX3_keeperGoes_22 : decode cX3_keeperGoes 22 = .ok (.if_icmp .ne 13, 3) := by decide +kernel
theorem dX3_keeperGoes_25 : decode cX3_keeperGoes 25 = .ok (.iconst 3, 1) := by decide +kernel
theorem dX3_keeperGoes_26 : decode cX3_keeperGoes 26 = .ok (.istore_n 3, 1) := by decide +kernel
theorem dX3_keeperGoes_27 : decode cX3_keeperGoes 27 = .ok (.aload_n 0, 1) := by decide +kernel
theorem dX3_keeperGoes_28 : decode cX3_keeperGoes 28 = .ok (.iload_n 1, 1) := by decide +kernel
theorem dX3_keeperGoes_29 : decode cX3_keeperGoes 29 = .ok (.iload_n 3, 1) := by decide +kernel
theorem dX3_keeperGoes_30 : decode cX3_keeperGoes 30 = .ok (.invokevirtual 81, 3) := by decide +kernel
theorem dX3_keeperGoes_33 : decode cX3_keeperGoes 33 = .ok (.istore 4, 2) := by decide +kernel
theorem dX3_keeperGoes_35 : decode cX3_keeperGoes 35 = .ok (.iload 4, 2) := by decide +kernel
theorem dX3_keeperGoes_37 : decode cX3_keeperGoes 37 = .ok (.bipush (-6), 2) := by decide +kernel
theorem dX3_keeperGoes_39 : decode cX3_keeperGoes 39 = .ok (.if_icmp .eq 24, 3) := by decide +kernel
theorem dX3_keeperGoes_42 : decode cX3_keeperGoes 42 = .ok (.aload_n 0, 1) := by decide +kernel
theorem dX3_keeperGoes_43 : decode cX3_keeperGoes 43 = .ok (.dup, 1) := by decide +kernel
theorem dX3_keeperGoes_44 : decode cX3_keeperGoes 44 = .ok (.getfield 57, 3) := by decide +kernel
theorem dX3_keeperGoes_47 : decode cX3_keeperGoes 47 = .ok (.iconst 1, 1) := by decide +kernel
theorem dX3_keeperGoes_48 : decode cX3_keeperGoes 48 = .ok (.iload 4, 2) := by decide +kernel
theorem dX3_keeperGoes_50 : decode cX3_keeperGoes 50 = .ok (.ishl, 1) := by decide +kernel
theorem dX3_keeperGoes_51 : decode cX3_keeperGoes 51 = .ok (.ior, 1) := by decide +kernel
theorem dX3_keeperGoes_52 : decode cX3_keeperGoes 52 = .ok (.putfield 57, 3) := by decide +kernel
theorem dX3_keeperGoes_55 : decode cX3_keeperGoes 55 = .ok (.aload_n 0, 1) := by decide +kernel
theorem dX3_keeperGoes_56 : decode cX3_keeperGoes 56 = .ok (.iload_n 1, 1) := by decide +kernel
theorem dX3_keeperGoes_57 : decode cX3_keeperGoes 57 = .ok (.iload 4, 2) := by decide +kernel
theorem dX3_keeperGoes_59 : decode cX3_keeperGoes 59 = .ok (.iload_n 3, 1) := by decide +kernel
theorem dX3_keeperGoes_60 : decode cX3_keeperGoes 60 = .ok (.invokevirtual 84, 3) := by decide +kernel
theorem dX3_keeperGoes_63 : decode cX3_keeperGoes 63 = .ok (.return_, 1) := by decide +kernel
set_option maxRecDepth 20000 in
theorem ggX3_keepersGo_X3_isRainAhead : GoodIn wsX3_keepersGo wsX3_isRainAhead := goodIn_r _ [7, 2, 8, 9, 10, 6, 11, 64, 65, 66, 67, 68, 69, 70, 71, 72, 73, 74, 75, 76] (by decide +kernel) (by decide +kernel)
set_option maxRecDepth 20000 in
theorem gX3_keepersGo_X3_isRainAhead : GoodIn wsX3_keepersGo (wsV RX3 87 RX3 yX3_isRainAhead wsX3_isRainAhead) := goodIn_app (goodIn_of _ (by decide +kernel)) ggX3_keepersGo_X3_isRainAhead
set_option maxRecDepth 20000 in
theorem ggX3_keepersGo_X3_keeperGoes : GoodIn wsX3_keepersGo wsX3_keeperGoes := goodIn_r _ [15, 1, 16, 17, 18, 6, 19, 20, 21, 22, 23, 2, 24, 25, 26, 27, 28, 29, 30, 31, 32, 33, 34, 35, 36, 37, 38, 39, 40, 41, 42, 43, 44, 45, 46, 47, 48, 49, 50, 51, 52, 53, 54, 55, 56, 57, 58, 59, 60, 61, 62, 63, 64, 65, 66, 67, 68, 69, 70, 71, 72, 73, 74, 75, 76] (by decide +kernel) (by decide +kernel)
set_option maxRecDepth 20000 in
theorem gX3_keepersGo_X3_keeperGoes : GoodIn wsX3_keepersGo (wsV RX3 91 RX3 yX3_keeperGoes wsX3_keeperGoes) := goodIn_app (goodIn_of _ (by decide +kernel)) ggX3_keepersGo_X3_keeperGoes
theorem dX3_keepersGo_0 : decode cX3_keepersGo 0 = .ok (.aload_n 0, 1) := by decide +kernel
theorem dX3_keepersGo_1 : decode cX3_keepersGo 1 = .ok (.invokevirtual 87, 3) := by decide +kernel
theorem dX3_keepersGo_4 : decode cX3_keepersGo 4 = .ok (.istore_n 1, 1) := by decide +kernel
theorem dX3_keepersGo_5 : decode cX3_keepersGo 5 = .ok (.aload_n 0, 1) := by decide +kernel
theorem dX3_keepersGo_6 : decode cX3_keepersGo 6 = .ok (.iconst 0, 1) := by decide +kernel
theorem dX3_keepersGo_7 : decode cX3_keepersGo 7 = .ok (.putfield 57, 3) := by decide +kernel
theorem dX3_keepersGo_10 : decode cX3_keepersGo 10 = .ok (.iconst 0, 1) := by decide +kernel
theorem dX3_keepersGo_11 : decode cX3_keepersGo 11 = .ok (.istore_n 2, 1) := by decide +kernel
theorem dX3_keepersGo_12 : decode cX3_keepersGo 12 = .ok (.iload_n 2, 1) := by decide +kernel
theorem dX3_keepersGo_13 : decode cX3_keepersGo 13 = .ok (.aload_n 0, 1) := by decide +kernel
theorem dX3_keepersGo_14 : decode cX3_keepersGo 14 = .ok (.getfield 7, 3) := by decide +kernel
theorem dX3_keepersGo_17 : decode cX3_keepersGo 17 = .ok (.bipush 11, 2) := by decide +kernel
theorem dX3_keepersGo_19 : decode cX3_keepersGo 19 = .ok (.iaload, 1) := by decide +kernel
theorem dX3_keepersGo_20 : decode cX3_keepersGo 20 = .ok (.if_icmp .ge 15, 3) := by decide +kernel
theorem dX3_keepersGo_23 : decode cX3_keepersGo 23 = .ok (.aload_n 0, 1) := by decide +kernel
theorem dX3_keepersGo_24 : decode cX3_keepersGo 24 = .ok (.iload_n 2, 1) := by decide +kernel
theorem dX3_keepersGo_25 : decode cX3_keepersGo 25 = .ok (.iload_n 1, 1) := by decide +kernel
theorem dX3_keepersGo_26 : decode cX3_keepersGo 26 = .ok (.invokevirtual 91, 3) := by decide +kernel
theorem dX3_keepersGo_29 : decode cX3_keepersGo 29 = .ok (.iinc 2 1, 3) := by decide +kernel
theorem dX3_keepersGo_32 : decode cX3_keepersGo 32 = .ok (.goto (-20), 3) := by decide +kernel
theorem dX3_keepersGo_35 : decode cX3_keepersGo 35 = .ok (.return_, 1) := by decide +kernel
set_option maxRecDepth 20000 in
theorem ggX3_rainsOn_X3_pianoPart : GoodIn wsX3_rainsOn wsX3_pianoPart := goodIn_r _ [6, 1, 14, 15, 16, 17, 18, 19, 20, 21, 22, 23, 24, 25, 26] (by decide +kernel) (by decide +kernel)
set_option maxRecDepth 20000 in
theorem gX3_rainsOn_X3_pianoPart : GoodIn wsX3_rainsOn (wsV RX3 44 RX3 yX3_pianoPart wsX3_pianoPart) := goodIn_app (goodIn_of _ (by decide +kernel)) ggX3_rainsOn_X3_pianoPart
set_option maxRecDepth 20000 in
theorem ggX3_rainsOn_X3_held : GoodIn wsX3_rainsOn wsX3_held := goodIn_r _ [9] (by decide +kernel) (by decide +kernel)
set_option maxRecDepth 20000 in
theorem gX3_rainsOn_X3_held : GoodIn wsX3_rainsOn (va_wsS RX3 78 yX3_held wsX3_held) := goodIn_app (goodIn_of _ (by decide +kernel)) ggX3_rainsOn_X3_held
set_option maxRecDepth 20000 in
theorem ggX3_rainsOn_X3_setPiano : GoodIn wsX3_rainsOn wsX3_setPiano := goodIn_r _ [13, 1, 14, 15, 16, 17, 18, 19, 20, 21, 22, 23, 24, 25, 26] (by decide +kernel) (by decide +kernel)
set_option maxRecDepth 20000 in
theorem gX3_rainsOn_X3_setPiano : GoodIn wsX3_rainsOn (wsV RX3 75 RX3 yX3_setPiano wsX3_setPiano) := goodIn_app (goodIn_of _ (by decide +kernel)) ggX3_rainsOn_X3_setPiano
theorem dX3_rainsOn_0 : decode cX3_rainsOn 0 = .ok (.aload_n 0, 1) := by decide +kernel
theorem dX3_rainsOn_1 : decode cX3_rainsOn 1 = .ok (.iload_n 1, 1) := by decide +kernel
theorem dX3_rainsOn_2 : decode cX3_rainsOn 2 = .ok (.iconst 2, 1) := by decide +kernel
theorem dX3_rainsOn_3 : decode cX3_rainsOn 3 = .ok (.aload_n 0, 1) := by decide +kernel
theorem dX3_rainsOn_4 : decode cX3_rainsOn 4 = .ok (.iload_n 1, 1) := by decide +kernel
theorem dX3_rainsOn_5 : decode cX3_rainsOn 5 = .ok (.iconst 2, 1) := by decide +kernel
theorem dX3_rainsOn_6 : decode cX3_rainsOn 6 = .ok (.invokevirtual 44, 3) := by decide +kernel
theorem dX3_rainsOn_9 : decode cX3_rainsOn 9 = .ok (.aload_n 0, 1) := by decide +kernel
theorem dX3_rainsOn_10 : decode cX3_rainsOn 10 = .ok (.getfield 7, 3) := by decide +kernel
theorem dX3_rainsOn_13 : decode cX3_rainsOn 13 = .ok (.iconst 1, 1) := by decide +kernel
theorem dX3_rainsOn_14 : decode cX3_rainsOn 14 = .ok (.iaload, 1) := by decide +kernel
theorem dX3_rainsOn_15 : decode cX3_rainsOn 15 = .ok (.iadd, 1) := by decide +kernel
theorem dX3_rainsOn_16 : decode cX3_rainsOn 16 = .ok (.invokestatic 78, 3) := by decide +kernel
theorem dX3_rainsOn_19 : decode cX3_rainsOn 19 = .ok (.invokevirtual 75, 3) := by decide +kernel
theorem dX3_rainsOn_22 : decode cX3_rainsOn 22 = .ok (.aload_n 0, 1) := by decide +kernel
theorem dX3_rainsOn_23 : decode cX3_rainsOn 23 = .ok (.iload_n 1, 1) := by decide +kernel
theorem dX3_rainsOn_24 : decode cX3_rainsOn 24 = .ok (.iconst 1, 1) := by decide +kernel
theorem dX3_rainsOn_25 : decode cX3_rainsOn 25 = .ok (.aload_n 0, 1) := by decide +kernel
theorem dX3_rainsOn_26 : decode cX3_rainsOn 26 = .ok (.iload_n 1, 1) := by decide +kernel
theorem dX3_rainsOn_27 : decode cX3_rainsOn 27 = .ok (.iconst 1, 1) := by decide +kernel
theorem dX3_rainsOn_28 : decode cX3_rainsOn 28 = .ok (.invokevirtual 44, 3) := by decide +kernel
theorem dX3_rainsOn_31 : decode cX3_rainsOn 31 = .ok (.aload_n 0, 1) := by decide +kernel
theorem dX3_rainsOn_32 : decode cX3_rainsOn 32 = .ok (.getfield 7, 3) := by decide +kernel
theorem dX3_rainsOn_35 : decode cX3_rainsOn 35 = .ok (.iconst 3, 1) := by decide +kernel
theorem dX3_rainsOn_36 : decode cX3_rainsOn 36 = .ok (.iaload, 1) := by decide +kernel
theorem dX3_rainsOn_37 : decode cX3_rainsOn 37 = .ok (.isub, 1) := by decide +kernel
theorem dX3_rainsOn_38 : decode cX3_rainsOn 38 = .ok (.invokestatic 78, 3) := by decide +kernel
theorem dX3_rainsOn_41 : decode cX3_rainsOn 41 = .ok (.invokevirtual 75, 3) := by decide +kernel
theorem dX3_rainsOn_44 : decode cX3_rainsOn 44 = .ok (.aload_n 0, 1) := by decide +kernel
theorem dX3_rainsOn_45 : decode cX3_rainsOn 45 = .ok (.iload_n 1, 1) := by decide +kernel
theorem dX3_rainsOn_46 : decode cX3_rainsOn 46 = .ok (.iconst 5, 1) := by decide +kernel
theorem dX3_rainsOn_47 : decode cX3_rainsOn 47 = .ok (.aload_n 0, 1) := by decide +kernel
theorem dX3_rainsOn_48 : decode cX3_rainsOn 48 = .ok (.iload_n 1, 1) := by decide +kernel
theorem dX3_rainsOn_49 : decode cX3_rainsOn 49 = .ok (.iconst 5, 1) := by decide +kernel
theorem dX3_rainsOn_50 : decode cX3_rainsOn 50 = .ok (.invokevirtual 44, 3) := by decide +kernel
theorem dX3_rainsOn_53 : decode cX3_rainsOn 53 = .ok (.iconst 1, 1) := by decide +kernel
theorem dX3_rainsOn_54 : decode cX3_rainsOn 54 = .ok (.iadd, 1) := by decide +kernel
theorem dX3_rainsOn_55 : decode cX3_rainsOn 55 = .ok (.invokevirtual 75, 3) := by decide +kernel
theorem dX3_rainsOn_58 : decode cX3_rainsOn 58 = .ok (.return_, 1) := by decide +kernel
set_option maxRecDepth 20000 in
theorem ggX3_dries_X3_pianoPart : GoodIn wsX3_dries wsX3_pianoPart := goodIn_r _ [6, 1, 17, 18, 19, 20, 21, 22, 23, 24, 25, 26, 27, 28, 29] (by decide +kernel) (by decide +kernel)
set_option maxRecDepth 20000 in
theorem gX3_dries_X3_pianoPart : GoodIn wsX3_dries (wsV RX3 44 RX3 yX3_pianoPart wsX3_pianoPart) := goodIn_app (goodIn_of _ (by decide +kernel)) ggX3_dries_X3_pianoPart
set_option maxRecDepth 20000 in
theorem ggX3_dries_X3_held : GoodIn wsX3_dries wsX3_held := goodIn_r _ [9] (by decide +kernel) (by decide +kernel)
set_option maxRecDepth 20000 in
theorem gX3_dries_X3_held : GoodIn wsX3_dries (va_wsS RX3 78 yX3_held wsX3_held) := goodIn_app (goodIn_of _ (by decide +kernel)) ggX3_dries_X3_held
set_option maxRecDepth 20000 in
theorem ggX3_dries_X3_setPiano : GoodIn wsX3_dries wsX3_setPiano := goodIn_r _ [13, 1, 17, 18, 19, 20, 21, 22, 23, 24, 25, 26, 27, 28, 29] (by decide +kernel) (by decide +kernel)
set_option maxRecDepth 20000 in
theorem gX3_dries_X3_setPiano : GoodIn wsX3_dries (wsV RX3 75 RX3 yX3_setPiano wsX3_setPiano) := goodIn_app (goodIn_of _ (by decide +kernel)) ggX3_dries_X3_setPiano
set_option maxRecDepth 20000 in
theorem ggX3_dries_X3_within : GoodIn wsX3_dries wsX3_within := goodIn_r _ [16] (by decide +kernel) (by decide +kernel)
set_option maxRecDepth 20000 in
theorem gX3_dries_X3_within : GoodIn wsX3_dries (va_wsS RX3 36 yX3_within wsX3_within) := goodIn_app (goodIn_of _ (by decide +kernel)) ggX3_dries_X3_within
theorem dX3_dries_0 : decode cX3_dries 0 = .ok (.aload_n 0, 1) := by decide +kernel
theorem dX3_dries_1 : decode cX3_dries 1 = .ok (.iload_n 1, 1) := by decide +kernel
theorem dX3_dries_2 : decode cX3_dries 2 = .ok (.iconst 2, 1) := by decide +kernel
theorem dX3_dries_3 : decode cX3_dries 3 = .ok (.aload_n 0, 1) := by decide +kernel
theorem dX3_dries_4 : decode cX3_dries 4 = .ok (.iload_n 1, 1) := by decide +kernel
theorem dX3_dries_5 : decode cX3_dries 5 = .ok (.iconst 2, 1) := by decide +kernel
theorem dX3_dries_6 : decode cX3_dries 6 = .ok (.invokevirtual 44, 3) := by decide +kernel
theorem dX3_dries_9 : decode cX3_dries 9 = .ok (.aload_n 0, 1) := by decide +kernel
theorem dX3_dries_10 : decode cX3_dries 10 = .ok (.getfield 7, 3) := by decide +kernel
theorem dX3_dries_13 : decode cX3_dries 13 = .ok (.iconst 2, 1) := by decide +kernel
theorem dX3_dries_14 : decode cX3_dries 14 = .ok (.iaload, 1) := by decide +kernel
theorem dX3_dries_15 : decode cX3_dries 15 = .ok (.isub, 1) := by decide +kernel
theorem dX3_dries_16 : decode cX3_dries 16 = .ok (.invokestatic 78, 3) := by decide +kernel
theorem dX3_dries_19 : decode cX3_dries 19 = .ok (.invokevirtual 75, 3) := by decide +kernel
theorem dX3_dries_22 : decode cX3_dries 22 = .ok (.iload_n 2, 1) := by decide +kernel
theorem dX3_dries_23 : decode cX3_dries 23 = .ok (.bipush 8, 2) := by decide +kernel
theorem dX3_dries_25 : decode cX3_dries 25 = .ok (.bipush 21, 2) := by decide +kernel
theorem dX3_dries_27 : decode cX3_dries 27 = .ok (.invokestatic 36, 3) := by decide +kernel
theorem dX3_dries_30 : decode cX3_dries 30 = .ok (.ifCond .eq 73, 3) := by decide +kernel
theorem dX3_dries_33 : decode cX3_dries 33 = .ok (.aload_n 0, 1) := by decide +kernel
theorem dX3_dries_34 : decode cX3_dries 34 = .ok (.iload_n 1, 1) := by decide +kernel
theorem dX3_dries_35 : decode cX3_dries 35 = .ok (.iconst 2, 1) := by decide +kernel
theorem dX3_dries_36 : decode cX3_dries 36 = .ok (.invokevirtual 44, 3) := by decide +kernel
theorem dX3_dries_39 : decode cX3_dries 39 = .ok (.bipush 50, 2) := by decide +kernel
theorem dX3_dries_41 : decode cX3_dries 41 = .ok (.if_icmp .ge 62, 3) := by decide +kernel
theorem dX3_dries_44 : decode cX3_dries 44 = .ok (.aload_n 0, 1) := by decide +kernel
theorem dX3_dries_45 : decode cX3_dries 45 = .ok (.getfield 7, 3) := by decide +kernel
theorem dX3_dries_48 : decode cX3_dries 48 = .ok (.iconst 4, 1) := by decide +kernel
theorem dX3_dries_49 : decode cX3_dries 49 = .ok (.iaload, 1) := by decide +kernel
theorem dX3_dries_50 : decode cX3_dries 50 = .ok (.aload_n 0, 1) := by decide +kernel
theorem dX3_dries_51 : decode cX3_dries 51 = .ok (.iload_n 1, 1) := by decide +kernel
theorem dX3_dries_52 : decode cX3_dries 52 = .ok (.iconst 1, 1) := by decide +kernel
theorem dX3_dries_53 : decode cX3_dries 53 = .ok (.invokevirtual 44, 3) := by decide +kernel
theorem dX3_dries_56 : decode cX3_dries 56 = .ok (.imul, 1) := by decide +kernel
theorem dX3_dries_57 : decode cX3_dries 57 = .ok (.bipush 100, 2) := by decide +kernel
theorem dX3_dries_59 : decode cX3_dries 59 = .ok (.idiv, 1) := by decide +kernel
theorem dX3_dries_60 : decode cX3_dries 60 = .ok (.istore_n 3, 1) := by decide +kernel
theorem dX3_dries_61 : decode cX3_dries 61 = .ok (.aload_n 0, 1) := by decide +kernel
theorem dX3_dries_62 : decode cX3_dries 62 = .ok (.iload_n 1, 1) := by decide +kernel
theorem dX3_dries_63 : decode cX3_dries 63 = .ok (.iconst 4, 1) := by decide +kernel
theorem dX3_dries_64 : decode cX3_dries 64 = .ok (.aload_n 0, 1) := by decide +kernel
theorem dX3_dries_65 : decode cX3_dries 65 = .ok (.iload_n 1, 1) := by decide +kernel
theorem dX3_dries_66 : decode cX3_dries 66 = .ok (.iconst 4, 1) := by decide +kernel
theorem dX3_dries_67 : decode cX3_dries 67 = .ok (.invokevirtual 44, 3) := by decide +kernel
theorem dX3_dries_70 : decode cX3_dries 70 = .ok (.iload_n 3, 1) := by decide +kernel
theorem dX3_dries_71 : decode cX3_dries 71 = .ok (.iadd, 1) := by decide +kernel
theorem dX3_dries_72 : decode cX3_dries 72 = .ok (.invokevirtual 75, 3) := by decide +kernel
theorem dX3_dries_75 : decode cX3_dries 75 = .ok (.aload_n 0, 1) := by decide +kernel
theorem dX3_dries_76 : decode cX3_dries 76 = .ok (.iload_n 1, 1) := by decide +kernel
theorem dX3_dries_77 : decode cX3_dries 77 = .ok (.iconst 1, 1) := by decide +kernel
theorem dX3_dries_78 : decode cX3_dries 78 = .ok (.aload_n 0, 1) := by decide +kernel
theorem dX3_dries_79 : decode cX3_dries 79 = .ok (.iload_n 1, 1) := by decide +kernel
theorem dX3_dries_80 : decode cX3_dries 80 = .ok (.iconst 1, 1) := by decide +kernel
theorem dX3_dries_81 : decode cX3_dries 81 = .ok (.invokevirtual 44, 3) := by decide +kernel
theorem dX3_dries_84 : decode cX3_dries 84 = .ok (.iconst 1, 1) := by decide +kernel
theorem dX3_dries_85 : decode cX3_dries 85 = .ok (.isub, 1) := by decide +kernel
theorem dX3_dries_86 : decode cX3_dries 86 = .ok (.invokestatic 78, 3) := by decide +kernel
theorem dX3_dries_89 : decode cX3_dries 89 = .ok (.invokevirtual 75, 3) := by decide +kernel
theorem dX3_dries_92 : decode cX3_dries 92 = .ok (.aload_n 0, 1) := by decide +kernel
theorem dX3_dries_93 : decode cX3_dries 93 = .ok (.getfield 7, 3) := by decide +kernel
theorem dX3_dries_96 : decode cX3_dries 96 = .ok (.bipush 9, 2) := by decide +kernel
theorem dX3_dries_98 : decode cX3_dries 98 = .ok (.dup2, 1) := by decide +kernel
theorem dX3_dries_99 : decode cX3_dries 99 = .ok (.iaload, 1) := by decide +kernel
theorem dX3_dries_100 : decode cX3_dries 100 = .ok (.iload_n 3, 1) := by decide +kernel
theorem dX3_dries_101 : decode cX3_dries 101 = .ok (.iadd, 1) := by decide +kernel
theorem dX3_dries_102 : decode cX3_dries 102 = .ok (.iastore, 1) := by decide +kernel
theorem dX3_dries_103 : decode cX3_dries 103 = .ok (.return_, 1) := by decide +kernel
set_option maxRecDepth 20000 in
theorem ggX3_thieves_X3_isPiano : GoodIn wsX3_thieves wsX3_isPiano := goodIn_r _ [6, 7, 8, 5, 9, 10, 11, 12, 13, 14, 15, 16, 1, 29, 30, 31, 32, 33, 34, 35, 36, 37, 38, 39, 40, 41] (by decide +kernel) (by decide +kernel)
set_option maxRecDepth 20000 in
theorem gX3_thieves_X3_isPiano : GoodIn wsX3_thieves (wsV RX3 48 RX3 yX3_isPiano wsX3_isPiano) := goodIn_app (goodIn_of _ (by decide +kernel)) ggX3_thieves_X3_isPiano
set_option maxRecDepth 20000 in
theorem ggX3_thieves_X3_pianoPart : GoodIn wsX3_thieves wsX3_pianoPart := goodIn_r _ [16, 1, 29, 30, 31, 32, 33, 34, 35, 36, 37, 38, 39, 40, 41] (by decide +kernel) (by decide +kernel)
set_option maxRecDepth 20000 in
theorem gX3_thieves_X3_pianoPart : GoodIn wsX3_thieves (wsV RX3 44 RX3 yX3_pianoPart wsX3_pianoPart) := goodIn_app (goodIn_of _ (by decide +kernel)) ggX3_thieves_X3_pianoPart
set_option maxRecDepth 20000 in
theorem ggX3_thieves_X3_keepersAt : GoodIn wsX3_thieves wsX3_keepersAt := goodIn_r _ [20, 1, 21, 22, 23, 5, 24, 29, 30, 31, 32, 33, 34, 35, 36, 37, 38, 39, 40, 41] (by decide +kernel) (by decide +kernel)
set_option maxRecDepth 20000 in
theorem gX3_thieves_X3_keepersAt : GoodIn wsX3_thieves (wsV RX3 95 RX3 yX3_keepersAt wsX3_keepersAt) := goodIn_app (goodIn_of _ (by decide +kernel)) ggX3_thieves_X3_keepersAt
set_option maxRecDepth 20000 in
theorem ggX3_thieves_X3_setPiano : GoodIn wsX3_thieves wsX3_setPiano := goodIn_r _ [28, 1, 29, 30, 31, 32, 33, 34, 35, 36, 37, 38, 39, 40, 41] (by decide +kernel) (by decide +kernel)
set_option maxRecDepth 20000 in
theorem gX3_thieves_X3_setPiano : GoodIn wsX3_thieves (wsV RX3 75 RX3 yX3_setPiano wsX3_setPiano) := goodIn_app (goodIn_of _ (by decide +kernel)) ggX3_thieves_X3_setPiano
theorem dX3_thieves_0 : decode cX3_thieves 0 = .ok (.iconst 0, 1) := by decide +kernel
theorem dX3_thieves_1 : decode cX3_thieves 1 = .ok (.istore_n 1, 1) := by decide +kernel
theorem dX3_thieves_2 : decode cX3_thieves 2 = .ok (.iload_n 1, 1) := by decide +kernel
theorem dX3_thieves_3 : decode cX3_thieves 3 = .ok (.bipush 12, 2) := by decide +kernel
theorem dX3_thieves_5 : decode cX3_thieves 5 = .ok (.if_icmp .ge 88, 3) := by decide +kernel
theorem dX3_thieves_8 : decode cX3_thieves 8 = .ok (.aload_n 0, 1) := by decide +kernel
theorem dX3_thieves_9 : decode cX3_thieves 9 = .ok (.iload_n 1, 1) := by decide +kernel
theorem dX3_thieves_10 : decode cX3_thieves 10 = .ok (.invokevirtual 48, 3) := by decide +kernel
theorem dX3_thieves_13 : decode cX3_thieves 13 = .ok (.ifCond .eq 25, 3) := by decide +kernel
theorem dX3_thieves_16 : decode cX3_thieves 16 = .ok (.aload_n 0, 1) := by decide +kernel
theorem dX3_thieves_17 : decode cX3_thieves 17 = .ok (.iload_n 1, 1) := by decide +kernel
theorem dX3_thieves_18 : decode cX3_thieves 18 = .ok (.iconst 3, 1) := by decide +kernel
theorem dX3_thieves_19 : decode cX3_thieves 19 = .ok (.invokevirtual 44, 3) := by decide +kernel
theorem dX3_thieves_22 : decode cX3_thieves 22 = .ok (.iconst 1, 1) := by decide +kernel
theorem dX3_thieves_23 : decode cX3_thieves 23 = .ok (.if_icmp .ne 15, 3) := by decide +kernel
theorem dX3_thieves_26 : decode cX3_thieves 26 = .ok (.aload_n 0, 1) := by decide +kernel
theorem dX3_thieves_27 : decode cX3_thieves 27 = .ok (.iload_n 1, 1) := by decide +kernel
theorem dX3_thieves_28 : decode cX3_thieves 28 = .ok (.invokevirtual 95, 3) := by decide +kernel
theorem dX3_thieves_31 : decode cX3_thieves 31 = .ok (.ifCond .ne 7, 3) := by decide +kernel
theorem dX3_thieves_34 : decode cX3_thieves 34 = .ok (.iconst 1, 1) := by decide +kernel
theorem dX3_thieves_35 : decode cX3_thieves 35 = .ok (.goto 4, 3) := by decide +kernel
theorem dX3_thieves_38 : decode cX3_thieves 38 = .ok (.iconst 0, 1) := by decide +kernel
theorem dX3_thieves_39 : decode cX3_thieves 39 = .ok (.istore_n 2, 1) := by decide +kernel
theorem dX3_thieves_40 : decode cX3_thieves 40 = .ok (.iload_n 2, 1) := by decide +kernel
theorem dX3_thieves_41 : decode cX3_thieves 41 = .ok (.ifCond .eq 46, 3) := by decide +kernel
theorem dX3_thieves_44 : decode cX3_thieves 44 = .ok (.bipush 7, 2) := by decide +kernel
theorem dX3_thieves_46 : decode cX3_thieves 46 = .ok (.aload_n 0, 1) := by decide +kernel
theorem dX3_thieves_47 : decode cX3_thieves 47 = .ok (.getfield 7, 3) := by decide +kernel
theorem dX3_thieves_50 : decode cX3_thieves 50 = .ok (.bipush 7, 2) := by decide +kernel
theorem dX3_thieves_52 : decode cX3_thieves 52 = .ok (.iaload, 1) := by decide +kernel
theorem dX3_thieves_53 : decode cX3_thieves 53 = .ok (.imul, 1) := by decide +kernel
theorem dX3_thieves_54 : decode cX3_thieves 54 = .ok (.iconst 3, 1) := by decide +kernel
theorem dX3_thieves_55 : decode cX3_thieves 55 = .ok (.iload_n 1, 1) := by decide +kernel
theorem dX3_thieves_56 : decode cX3_thieves 56 = .ok (.imul, 1) := by decide +kernel
theorem dX3_thieves_57 : decode cX3_thieves 57 = .ok (.iadd, 1) := by decide +kernel
theorem dX3_thieves_58 : decode cX3_thieves 58 = .ok (.aload_n 0, 1) := by decide +kernel
theorem dX3_thieves_59 : decode cX3_thieves 59 = .ok (.getfield 7, 3) := by decide +kernel
theorem dX3_thieves_62 : decode cX3_thieves 62 = .ok (.bipush 6, 2) := by decide +kernel
theorem dX3_thieves_64 : decode cX3_thieves 64 = .ok (.iaload, 1) := by decide +kernel
theorem dX3_thieves_65 : decode cX3_thieves 65 = .ok (.irem, 1) := by decide +kernel
theorem dX3_thieves_66 : decode cX3_thieves 66 = .ok (.ifCond .ne 21, 3) := by decide +kernel
theorem dX3_thieves_69 : decode cX3_thieves 69 = .ok (.aload_n 0, 1) := by decide +kernel
theorem dX3_thieves_70 : decode cX3_thieves 70 = .ok (.iload_n 1, 1) := by decide +kernel
theorem dX3_thieves_71 : decode cX3_thieves 71 = .ok (.iconst 3, 1) := by decide +kernel
theorem dX3_thieves_72 : decode cX3_thieves 72 = .ok (.iconst 0, 1) := by decide +kernel
theorem dX3_thieves_73 : decode cX3_thieves 73 = .ok (.invokevirtual 75, 3) := by decide +kernel
theorem dX3_thieves_76 : decode cX3_thieves 76 = .ok (.aload_n 0, 1) := by decide +kernel
theorem dX3_thieves_77 : decode cX3_thieves 77 = .ok (.getfield 7, 3) := by decide +kernel
theorem dX3_thieves_80 : decode cX3_thieves 80 = .ok (.bipush 10, 2) := by decide +kernel
theorem dX3_thieves_82 : decode cX3_thieves 82 = .ok (.dup2, 1) := by decide +kernel
theorem dX3_thieves_83 : decode cX3_thieves 83 = .ok (.iaload, 1) := by decide +kernel
theorem dX3_thieves_84 : decode cX3_thieves 84 = .ok (.iconst 1, 1) := by decide +kernel
theorem dX3_thieves_85 : decode cX3_thieves 85 = .ok (.iadd, 1) := by decide +kernel
theorem dX3_thieves_86 : decode cX3_thieves 86 = .ok (.iastore, 1) := by decide +kernel
theorem dX3_thieves_87 : decode cX3_thieves 87 = .ok (.iinc 1 1, 3) := by decide +kernel
theorem dX3_thieves_90 : decode cX3_thieves 90 = .ok (.goto (-88), 3) := by decide +kernel
theorem dX3_thieves_93 : decode cX3_thieves 93 = .ok (.return_, 1) := by decide +kernel
set_option maxRecDepth 20000 in
theorem ggX3_hour_X3_rainsIn : GoodIn wsX3_hour wsX3_rainsIn := goodIn_r _ [6, 1, 84, 85, 86, 87, 88, 89, 90, 91, 92, 93, 94, 95, 96] (by decide +kernel) (by decide +kernel)
set_option maxRecDepth 20000 in
theorem gX3_hour_X3_rainsIn : GoodIn wsX3_hour (wsV RX3 51 RX3 yX3_rainsIn wsX3_rainsIn) := goodIn_app (goodIn_of _ (by decide +kernel)) ggX3_hour_X3_rainsIn
set_option maxRecDepth 20000 in
theorem ggX3_hour_X3_keepersGo : GoodIn wsX3_hour wsX3_keepersGo := goodIn_r _ [10, 11, 1, 12, 13, 14, 5, 15, 2, 3, 4, 6, 16, 17, 18, 19, 20, 21, 22, 23, 24, 25, 26, 27, 28, 29, 30, 31, 32, 33, 34, 35, 36, 37, 38, 39, 40, 41, 42, 43, 44, 45, 46, 47, 48, 49, 50, 51, 52, 53, 54, 55, 56, 57, 58, 59, 60, 61, 62, 63, 64, 65, 66, 67, 84, 85, 86, 87, 88, 89, 90, 91, 92, 93, 94, 95, 96] (by decide +kernel) (by decide +kernel)
set_option maxRecDepth 20000 in
theorem gX3_hour_X3_keepersGo : GoodIn wsX3_hour (wsV RX3 98 RX3 yX3_keepersGo wsX3_keepersGo) := goodIn_app (goodIn_of _ (by decide +kernel)) ggX3_hour_X3_keepersGo
set_option maxRecDepth 20000 in
theorem ggX3_hour_X3_isOpen : GoodIn wsX3_hour wsX3_isOpen := goodIn_r _ [45, 28, 29, 30, 5, 31, 32, 33, 34, 35, 36, 37, 38, 39, 40, 41, 1, 84, 85, 86, 87, 88, 89, 90, 91, 92, 93, 94, 95, 96] (by decide +kernel) (by decide +kernel)
set_option maxRecDepth 20000 in
theorem gX3_hour_X3_isOpen : GoodIn wsX3_hour (wsV RX3 60 RX3 yX3_isOpen wsX3_isOpen) := goodIn_app (goodIn_of _ (by decide +kernel)) ggX3_hour_X3_isOpen
set_option maxRecDepth 20000 in
theorem ggX3_hour_X3_rainsOn : GoodIn wsX3_hour wsX3_rainsOn := goodIn_r _ [71, 1, 38, 39, 40, 5, 41, 65, 66, 67, 61, 62, 63, 64, 84, 85, 86, 87, 88, 89, 90, 91, 92, 93, 94, 95, 96] (by decide +kernel) (by decide +kernel)
set_option maxRecDepth 20000 in
theorem gX3_hour_X3_rainsOn : GoodIn wsX3_hour (wsV RX3 101 RX3 yX3_rainsOn wsX3_rainsOn) := goodIn_app (goodIn_of _ (by decide +kernel)) ggX3_hour_X3_rainsOn
set_option maxRecDepth 20000 in
theorem ggX3_hour_X3_dries : GoodIn wsX3_hour wsX3_dries := goodIn_r _ [75, 1, 38, 39, 40, 5, 41, 65, 66, 67, 61, 62, 63, 64, 35, 36, 37, 84, 85, 86, 87, 88, 89, 90, 91, 92, 93, 94, 95, 96] (by decide +kernel) (by decide +kernel)
set_option maxRecDepth 20000 in
theorem gX3_hour_X3_dries : GoodIn wsX3_hour (wsV RX3 105 RX3 yX3_dries wsX3_dries) := goodIn_app (goodIn_of _ (by decide +kernel)) ggX3_hour_X3_dries
set_option maxRecDepth 20000 in
theorem ggX3_hour_X3_thieves : GoodIn wsX3_hour wsX3_thieves := goodIn_r _ [79, 1, 28, 29, 30, 5, 31, 32, 33, 34, 35, 36, 37, 38, 39, 40, 41, 80, 81, 82, 83, 46, 47, 48, 49, 61, 62, 63, 64, 84, 85, 86, 87, 88, 89, 90, 91, 92, 93, 94, 95, 96] (by decide +kernel) (by decide +kernel)
set_option maxRecDepth 20000 in
theorem gX3_hour_X3_thieves : GoodIn wsX3_hour (wsV RX3 109 RX3 yX3_thieves wsX3_thieves) := goodIn_app (goodIn_of _ (by decide +kernel)) ggX3_hour_X3_thieves
theorem dX3_hour_0 : decode cX3_hour 0 = .ok (.aload_n 0, 1) := by decide +kernel
theorem dX3_hour_1 : decode cX3_hour 1 = .ok (.getfield 7, 3) := by decide +kernel
theorem dX3_hour_4 : decode cX3_hour 4 = .ok (.bipush 7, 2) := by decide +kernel
theorem dX3_hour_6 : decode cX3_hour 6 = .ok (.iaload, 1) := by decide +kernel
theorem dX3_hour_7 : decode cX3_hour 7 = .ok (.bipush 24, 2) := by decide +kernel
theorem dX3_hour_9 : decode cX3_hour 9 = .ok (.irem, 1) := by decide +kernel
theorem dX3_hour_10 : decode cX3_hour 10 = .ok (.istore_n 1, 1) := by decide +kernel
theorem dX3_hour_11 : decode cX3_hour 11 = .ok (.aload_n 0, 1) := by decide +kernel
theorem dX3_hour_12 : decode cX3_hour 12 = .ok (.iconst 0, 1) := by decide +kernel
theorem dX3_hour_13 : decode cX3_hour 13 = .ok (.invokevirtual 51, 3) := by decide +kernel
theorem dX3_hour_16 : decode cX3_hour 16 = .ok (.istore_n 2, 1) := by decide +kernel
theorem dX3_hour_17 : decode cX3_hour 17 = .ok (.aload_n 0, 1) := by decide +kernel
theorem dX3_hour_18 : decode cX3_hour 18 = .ok (.invokevirtual 98, 3) := by decide +kernel
theorem dX3_hour_21 : decode cX3_hour 21 = .ok (.iconst 0, 1) := by decide +kernel
theorem dX3_hour_22 : decode cX3_hour 22 = .ok (.istore_n 3, 1) := by decide +kernel
theorem dX3_hour_23 : decode cX3_hour 23 = .ok (.iload_n 3, 1) := by decide +kernel
theorem dX3_hour_24 : decode cX3_hour 24 = .ok (.bipush 12, 2) := by decide +kernel
theorem dX3_hour_26 : decode cX3_hour 26 = .ok (.if_icmp .ge 35, 3) := by decide +kernel
theorem dX3_hour_29 : decode cX3_hour 29 = .ok (.aload_n 0, 1) := by decide +kernel
theorem dX3_hour_30 : decode cX3_hour 30 = .ok (.iload_n 3, 1) := by decide +kernel
theorem dX3_hour_31 : decode cX3_hour 31 = .ok (.invokevirtual 60, 3) := by decide +kernel
theorem dX3_hour_34 : decode cX3_hour 34 = .ok (.ifCond .eq 21, 3) := by decide +kernel
theorem dX3_hour_37 : decode cX3_hour 37 = .ok (.iload_n 2, 1) := by decide +kernel
theorem dX3_hour_38 : decode cX3_hour 38 = .ok (.ifCond .eq 11, 3) := by decide +kernel
theorem dX3_hour_41 : decode cX3_hour 41 = .ok (.aload_n 0, 1) := by decide +kernel
theorem dX3_hour_42 : decode cX3_hour 42 = .ok (.iload_n 3, 1) := by decide +kernel
theorem dX3_hour_43 : decode cX3_hour 43 = .ok (.invokevirtual 101, 3) := by decide +kernel
theorem dX3_hour_46 : decode cX3_hour 46 = .ok (.goto 9, 3) := by decide +kernel
theorem dX3_hour_49 : decode cX3_hour 49 = .ok (.aload_n 0, 1) := by decide +kernel
theorem dX3_hour_50 : decode cX3_hour 50 = .ok (.iload_n 3, 1) := by decide +kernel
theorem dX3_hour_51 : decode cX3_hour 51 = .ok (.iload_n 1, 1) := by decide +kernel
theorem dX3_hour_52 : decode cX3_hour 52 = .ok (.invokevirtual 105, 3) := by decide +kernel
theorem dX3_hour_55 : decode cX3_hour 55 = .ok (.iinc 3 1, 3) := by decide +kernel
theorem dX3_hour_58 : decode cX3_hour 58 = .ok (.goto (-35), 3) := by decide +kernel
theorem dX3_hour_61 : decode cX3_hour 61 = .ok (.iload_n 1, 1) := by decide +kernel
theorem dX3_hour_62 : decode cX3_hour 62 = .ok (.bipush 22, 2) := by decide +kernel
theorem dX3_hour_64 : decode cX3_hour 64 = .ok (.if_icmp .ge 8, 3) := by decide +kernel
theorem dX3_hour_67 : decode cX3_hour 67 = .ok (.iload_n 1, 1) := by decide +kernel
theorem dX3_hour_68 : decode cX3_hour 68 = .ok (.iconst 5, 1) := by decide +kernel
theorem dX3_hour_69 : decode cX3_hour 69 = .ok (.if_icmp .gt 7, 3) := by decide +kernel
theorem dX3_hour_72 : decode cX3_hour 72 = .ok (.aload_n 0, 1) := by decide +kernel
theorem dX3_hour_73 : decode cX3_hour 73 = .ok (.invokevirtual 109, 3) := by decide +kernel
theorem dX3_hour_76 : decode cX3_hour 76 = .ok (.aload_n 0, 1) := by decide +kernel
theorem dX3_hour_77 : decode cX3_hour 77 = .ok (.getfield 7, 3) := by decide +kernel
theorem dX3_hour_80 : decode cX3_hour 80 = .ok (.bipush 7, 2) := by decide +kernel
theorem dX3_hour_82 : decode cX3_hour 82 = .ok (.dup2, 1) := by decide +kernel
theorem dX3_hour_83 : decode cX3_hour 83 = .ok (.iaload, 1) := by decide +kernel
theorem dX3_hour_84 : decode cX3_hour 84 = .ok (.iconst 1, 1) := by decide +kernel
theorem dX3_hour_85 : decode cX3_hour 85 = .ok (.iadd, 1) := by decide +kernel
theorem dX3_hour_86 : decode cX3_hour 86 = .ok (.iastore, 1) := by decide +kernel
theorem dX3_hour_87 : decode cX3_hour 87 = .ok (.return_, 1) := by decide +kernel
set_option maxRecDepth 20000 in
theorem ggX3_passes_X3_hour : GoodIn wsX3_passes wsX3_hour := goodIn_r _ [6, 1, 7, 8, 9, 5, 10, 11, 12, 13, 14, 15, 16, 17, 18, 19, 20, 21, 22, 23, 24, 25, 26, 27, 28, 29, 30, 31, 32, 33, 34, 35, 36, 37, 38, 39, 40, 41, 42, 43, 44, 45, 46, 47, 48, 49, 50, 51, 52, 53, 54, 55, 56, 57, 58, 59, 60, 61, 62, 63, 64, 65, 66, 67, 68, 69, 70, 71, 72, 73, 74, 75, 76, 77, 78, 79, 80, 81, 82, 83, 84, 85, 86, 87, 88, 89, 90, 91, 92, 93, 94, 95, 96, 97, 98, 99, 100] (by decide +kernel) (by decide +kernel)
set_option maxRecDepth 20000 in
theorem gX3_passes_X3_hour : GoodIn wsX3_passes (wsV RX3 112 RX3 yX3_hour wsX3_hour) := goodIn_app (goodIn_of _ (by decide +kernel)) ggX3_passes_X3_hour
theorem dX3_passes_0 : decode cX3_passes 0 = .ok (.aload_n 0, 1) := by decide +kernel
theorem dX3_passes_1 : decode cX3_passes 1 = .ok (.getfield 7, 3) := by decide +kernel
theorem dX3_passes_4 : decode cX3_passes 4 = .ok (.bipush 9, 2) := by decide +kernel
theorem dX3_passes_6 : decode cX3_passes 6 = .ok (.iaload, 1) := by decide +kernel
theorem dX3_passes_7 : decode cX3_passes 7 = .ok (.istore_n 2, 1) := by decide +kernel
theorem dX3_passes_8 : decode cX3_passes 8 = .ok (.iconst 0, 1) := by decide +kernel
theorem dX3_passes_9 : decode cX3_passes 9 = .ok (.istore_n 3, 1) := by decide +kernel
theorem dX3_passes_10 : decode cX3_passes 10 = .ok (.iload_n 3, 1) := by decide +kernel
theorem dX3_passes_11 : decode cX3_passes 11 = .ok (.iload_n 1, 1) := by decide +kernel
theorem dX3_passes_12 : decode cX3_passes 12 = .ok (.if_icmp .ge 13, 3) := by decide +kernel
theorem dX3_passes_15 : decode cX3_passes 15 = .ok (.aload_n 0, 1) := by decide +kernel
theorem dX3_passes_16 : decode cX3_passes 16 = .ok (.invokevirtual 112, 3) := by decide +kernel
theorem dX3_passes_19 : decode cX3_passes 19 = .ok (.iinc 3 1, 3) := by decide +kernel
theorem dX3_passes_22 : decode cX3_passes 22 = .ok (.goto (-12), 3) := by decide +kernel
theorem dX3_passes_25 : decode cX3_passes 25 = .ok (.aload_n 0, 1) := by decide +kernel
theorem dX3_passes_26 : decode cX3_passes 26 = .ok (.getfield 7, 3) := by decide +kernel
theorem dX3_passes_29 : decode cX3_passes 29 = .ok (.bipush 9, 2) := by decide +kernel
theorem dX3_passes_31 : decode cX3_passes 31 = .ok (.iaload, 1) := by decide +kernel
theorem dX3_passes_32 : decode cX3_passes 32 = .ok (.iload_n 2, 1) := by decide +kernel
theorem dX3_passes_33 : decode cX3_passes 33 = .ok (.isub, 1) := by decide +kernel
theorem dX3_passes_34 : decode cX3_passes 34 = .ok (.ireturn, 1) := by decide +kernel
set_option maxRecDepth 20000 in
theorem ggX3_isValue_X3_within : GoodIn wsX3_isValue wsX3_within := goodIn_r _ [4] (by decide +kernel) (by decide +kernel)
set_option maxRecDepth 20000 in
theorem gX3_isValue_X3_within : GoodIn wsX3_isValue (va_wsS RX3 36 yX3_within wsX3_within) := goodIn_app (goodIn_of _ (by decide +kernel)) ggX3_isValue_X3_within
theorem dX3_isValue_0 : decode cX3_isValue 0 = .ok (.iload_n 0, 1) := by decide +kernel
theorem dX3_isValue_1 : decode cX3_isValue 1 = .ok (.tableswitch 91 0 6 #[43, 51, 59, 67, 75, 83, 59], 43) := by decide +kernel
theorem dX3_isValue_44 : decode cX3_isValue 44 = .ok (.iload_n 1, 1) := by decide +kernel
theorem dX3_isValue_45 : decode cX3_isValue 45 = .ok (.iconst 0, 1) := by decide +kernel
theorem dX3_isValue_46 : decode cX3_isValue 46 = .ok (.bipush 12, 2) := by decide +kernel
theorem dX3_isValue_48 : decode cX3_isValue 48 = .ok (.invokestatic 36, 3) := by decide +kernel
theorem dX3_isValue_51 : decode cX3_isValue 51 = .ok (.ireturn, 1) := by decide +kernel
theorem dX3_isValue_52 : decode cX3_isValue 52 = .ok (.iload_n 1, 1) := by decide +kernel
theorem dX3_isValue_53 : decode cX3_isValue 53 = .ok (.iconst 1, 1) := by decide +kernel
theorem dX3_isValue_54 : decode cX3_isValue 54 = .ok (.bipush 50, 2) := by decide +kernel
theorem dX3_isValue_56 : decode cX3_isValue 56 = .ok (.invokestatic 36, 3) := by decide +kernel
theorem dX3_isValue_59 : decode cX3_isValue 59 = .ok (.ireturn, 1) := by decide +kernel
theorem dX3_isValue_60 : decode cX3_isValue 60 = .ok (.iload_n 1, 1) := by decide +kernel
theorem dX3_isValue_61 : decode cX3_isValue 61 = .ok (.iconst 1, 1) := by decide +kernel
theorem dX3_isValue_62 : decode cX3_isValue 62 = .ok (.bipush 20, 2) := by decide +kernel
theorem dX3_isValue_64 : decode cX3_isValue 64 = .ok (.invokestatic 36, 3) := by decide +kernel
theorem dX3_isValue_67 : decode cX3_isValue 67 = .ok (.ireturn, 1) := by decide +kernel
theorem dX3_isValue_68 : decode cX3_isValue 68 = .ok (.iload_n 1, 1) := by decide +kernel
theorem dX3_isValue_69 : decode cX3_isValue 69 = .ok (.iconst 0, 1) := by decide +kernel
theorem dX3_isValue_70 : decode cX3_isValue 70 = .ok (.bipush 20, 2) := by decide +kernel
theorem dX3_isValue_72 : decode cX3_isValue 72 = .ok (.invokestatic 36, 3) := by decide +kernel
theorem dX3_isValue_75 : decode cX3_isValue 75 = .ok (.ireturn, 1) := by decide +kernel
theorem dX3_isValue_76 : decode cX3_isValue 76 = .ok (.iload_n 1, 1) := by decide +kernel
theorem dX3_isValue_77 : decode cX3_isValue 77 = .ok (.iconst 0, 1) := by decide +kernel
theorem dX3_isValue_78 : decode cX3_isValue 78 = .ok (.bipush 50, 2) := by decide +kernel
theorem dX3_isValue_80 : decode cX3_isValue 80 = .ok (.invokestatic 36, 3) := by decide +kernel
theorem dX3_isValue_83 : decode cX3_isValue 83 = .ok (.ireturn, 1) := by decide +kernel
theorem dX3_isValue_84 : decode cX3_isValue 84 = .ok (.iload_n 1, 1) := by decide +kernel
theorem dX3_isValue_85 : decode cX3_isValue 85 = .ok (.iconst 0, 1) := by decide +kernel
theorem dX3_isValue_86 : decode cX3_isValue 86 = .ok (.bipush 100, 2) := by decide +kernel
theorem dX3_isValue_88 : decode cX3_isValue 88 = .ok (.invokestatic 36, 3) := by decide +kernel
theorem dX3_isValue_91 : decode cX3_isValue 91 = .ok (.ireturn, 1) := by decide +kernel
theorem dX3_isValue_92 : decode cX3_isValue 92 = .ok (.iconst 0, 1) := by decide +kernel
theorem dX3_isValue_93 : decode cX3_isValue 93 = .ok (.ireturn, 1) := by decide +kernel
set_option maxRecDepth 20000 in
theorem ggX3_set_X3_isValue : GoodIn wsX3_set wsX3_isValue := goodIn_r _ [5, 6, 7, 4, 8] (by decide +kernel) (by decide +kernel)
set_option maxRecDepth 20000 in
theorem gX3_set_X3_isValue : GoodIn wsX3_set (va_wsS RX3 115 yX3_isValue wsX3_isValue) := goodIn_app (goodIn_of _ (by decide +kernel)) ggX3_set_X3_isValue
set_option maxRecDepth 20000 in
theorem ggX3_set_X3_record : GoodIn wsX3_set wsX3_record := goodIn_r _ [12, 13, 14, 1, 15, 16, 4, 17, 18, 19, 20, 21, 22, 23, 24, 25, 26, 27, 28, 29, 30] (by decide +kernel) (by decide +kernel)
set_option maxRecDepth 20000 in
theorem gX3_set_X3_record : GoodIn wsX3_set (wsV RX3 118 RX3 yX3_record wsX3_record) := goodIn_app (goodIn_of _ (by decide +kernel)) ggX3_set_X3_record
theorem dX3_set_0 : decode cX3_set 0 = .ok (.iload_n 1, 1) := by decide +kernel
theorem dX3_set_1 : decode cX3_set 1 = .ok (.iload_n 2, 1) := by decide +kernel
theorem dX3_set_2 : decode cX3_set 2 = .ok (.invokestatic 115, 3) := by decide +kernel
theorem dX3_set_5 : decode cX3_set 5 = .ok (.ifCond .ne 6, 3) := by decide +kernel
theorem dX3_set_8 : decode cX3_set 8 = .ok (.bipush (-2), 2) := by decide +kernel
theorem dX3_set_10 : decode cX3_set 10 = .ok (.ireturn, 1) := by decide +kernel
theorem dX3_set_11 : decode cX3_set 11 = .ok (.aload_n 0, 1) := by decide +kernel
theorem dX3_set_12 : decode cX3_set 12 = .ok (.invokevirtual 118, 3) := by decide +kernel
theorem dX3_set_15 : decode cX3_set 15 = .ok (.aload_n 0, 1) := by decide +kernel
theorem dX3_set_16 : decode cX3_set 16 = .ok (.getfield 7, 3) := by decide +kernel
theorem dX3_set_19 : decode cX3_set 19 = .ok (.iload_n 1, 1) := by decide +kernel
theorem dX3_set_20 : decode cX3_set 20 = .ok (.iaload, 1) := by decide +kernel
theorem dX3_set_21 : decode cX3_set 21 = .ok (.istore_n 3, 1) := by decide +kernel
theorem dX3_set_22 : decode cX3_set 22 = .ok (.aload_n 0, 1) := by decide +kernel
theorem dX3_set_23 : decode cX3_set 23 = .ok (.getfield 7, 3) := by decide +kernel
theorem dX3_set_26 : decode cX3_set 26 = .ok (.iload_n 1, 1) := by decide +kernel
theorem dX3_set_27 : decode cX3_set 27 = .ok (.iload_n 2, 1) := by decide +kernel
theorem dX3_set_28 : decode cX3_set 28 = .ok (.iastore, 1) := by decide +kernel
theorem dX3_set_29 : decode cX3_set 29 = .ok (.iload_n 3, 1) := by decide +kernel
theorem dX3_set_30 : decode cX3_set 30 = .ok (.ireturn, 1) := by decide +kernel
set_option maxRecDepth 20000 in
theorem ggX3_rain_X3_within : GoodIn wsX3_rain wsX3_within := goodIn_r _ [6] (by decide +kernel) (by decide +kernel)
set_option maxRecDepth 20000 in
theorem gX3_rain_X3_within : GoodIn wsX3_rain (va_wsS RX3 36 yX3_within wsX3_within) := goodIn_app (goodIn_of _ (by decide +kernel)) ggX3_rain_X3_within
set_option maxRecDepth 20000 in
theorem ggX3_rain_X3_record : GoodIn wsX3_rain wsX3_record := goodIn_r _ [10, 11, 12, 2, 13, 14, 5, 15, 16, 17, 18, 19, 20, 21, 22, 23, 24, 25, 26, 27, 28] (by decide +kernel) (by decide +kernel)
set_option maxRecDepth 20000 in
theorem gX3_rain_X3_record : GoodIn wsX3_rain (wsV RX3 118 RX3 yX3_record wsX3_record) := goodIn_app (goodIn_of _ (by decide +kernel)) ggX3_rain_X3_record
theorem dX3_rain_0 : decode cX3_rain 0 = .ok (.iload_n 1, 1) := by decide +kernel
theorem dX3_rain_1 : decode cX3_rain 1 = .ok (.iconst 0, 1) := by decide +kernel
theorem dX3_rain_2 : decode cX3_rain 2 = .ok (.ldc 121, 2) := by decide +kernel
theorem dX3_rain_4 : decode cX3_rain 4 = .ok (.invokestatic 36, 3) := by decide +kernel
theorem dX3_rain_7 : decode cX3_rain 7 = .ok (.ifCond .ne 6, 3) := by decide +kernel
theorem dX3_rain_10 : decode cX3_rain 10 = .ok (.bipush (-2), 2) := by decide +kernel
theorem dX3_rain_12 : decode cX3_rain 12 = .ok (.ireturn, 1) := by decide +kernel
theorem dX3_rain_13 : decode cX3_rain 13 = .ok (.aload_n 0, 1) := by decide +kernel
theorem dX3_rain_14 : decode cX3_rain 14 = .ok (.invokevirtual 118, 3) := by decide +kernel
theorem dX3_rain_17 : decode cX3_rain 17 = .ok (.aload_n 0, 1) := by decide +kernel
theorem dX3_rain_18 : decode cX3_rain 18 = .ok (.getfield 7, 3) := by decide +kernel
theorem dX3_rain_21 : decode cX3_rain 21 = .ok (.bipush 8, 2) := by decide +kernel
theorem dX3_rain_23 : decode cX3_rain 23 = .ok (.iaload, 1) := by decide +kernel
theorem dX3_rain_24 : decode cX3_rain 24 = .ok (.istore_n 2, 1) := by decide +kernel
theorem dX3_rain_25 : decode cX3_rain 25 = .ok (.aload_n 0, 1) := by decide +kernel
theorem dX3_rain_26 : decode cX3_rain 26 = .ok (.getfield 7, 3) := by decide +kernel
theorem dX3_rain_29 : decode cX3_rain 29 = .ok (.bipush 8, 2) := by decide +kernel
theorem dX3_rain_31 : decode cX3_rain 31 = .ok (.iload_n 1, 1) := by decide +kernel
theorem dX3_rain_32 : decode cX3_rain 32 = .ok (.iastore, 1) := by decide +kernel
theorem dX3_rain_33 : decode cX3_rain 33 = .ok (.iload_n 2, 1) := by decide +kernel
theorem dX3_rain_34 : decode cX3_rain 34 = .ok (.ireturn, 1) := by decide +kernel
set_option maxRecDepth 20000 in
theorem ggX3_whyNoPiano_X3_isPlace : GoodIn wsX3_whyNoPiano wsX3_isPlace := goodIn_r _ [4, 5, 6, 3, 7] (by decide +kernel) (by decide +kernel)
set_option maxRecDepth 20000 in
theorem gX3_whyNoPiano_X3_isPlace : GoodIn wsX3_whyNoPiano (va_wsS RX3 40 yX3_isPlace wsX3_isPlace) := goodIn_app (goodIn_of _ (by decide +kernel)) ggX3_whyNoPiano_X3_isPlace
set_option maxRecDepth 20000 in
theorem ggX3_whyNoPiano_X3_within : GoodIn wsX3_whyNoPiano wsX3_within := goodIn_r _ [7] (by decide +kernel) (by decide +kernel)
set_option maxRecDepth 20000 in
theorem gX3_whyNoPiano_X3_within : GoodIn wsX3_whyNoPiano (va_wsS RX3 36 yX3_within wsX3_within) := goodIn_app (goodIn_of _ (by decide +kernel)) ggX3_whyNoPiano_X3_within
set_option maxRecDepth 20000 in
theorem ggX3_whyNoPiano_X3_isPiano : GoodIn wsX3_whyNoPiano wsX3_isPiano := goodIn_r _ [11, 1, 2, 3, 4, 5, 6, 7, 12, 13, 14, 15, 16, 17, 18, 19, 20, 21, 22, 23, 24, 25, 26, 27, 28, 29] (by decide +kernel) (by decide +kernel)
set_option maxRecDepth 20000 in
theorem gX3_whyNoPiano_X3_isPiano : GoodIn wsX3_whyNoPiano (wsV RX3 48 RX3 yX3_isPiano wsX3_isPiano) := goodIn_app (goodIn_of _ (by decide +kernel)) ggX3_whyNoPiano_X3_isPiano
theorem dX3_whyNoPiano_0 : decode cX3_whyNoPiano 0 = .ok (.iload_n 1, 1) := by decide +kernel
theorem dX3_whyNoPiano_1 : decode cX3_whyNoPiano 1 = .ok (.invokestatic 40, 3) := by decide +kernel
theorem dX3_whyNoPiano_4 : decode cX3_whyNoPiano 4 = .ok (.ifCond .ne 5, 3) := by decide +kernel
theorem dX3_whyNoPiano_7 : decode cX3_whyNoPiano 7 = .ok (.iconst (-1), 1) := by decide +kernel
theorem dX3_whyNoPiano_8 : decode cX3_whyNoPiano 8 = .ok (.ireturn, 1) := by decide +kernel
theorem dX3_whyNoPiano_9 : decode cX3_whyNoPiano 9 = .ok (.iload_n 2, 1) := by decide +kernel
theorem dX3_whyNoPiano_10 : decode cX3_whyNoPiano 10 = .ok (.iconst 0, 1) := by decide +kernel
theorem dX3_whyNoPiano_11 : decode cX3_whyNoPiano 11 = .ok (.iconst 1, 1) := by decide +kernel
theorem dX3_whyNoPiano_12 : decode cX3_whyNoPiano 12 = .ok (.invokestatic 36, 3) := by decide +kernel
theorem dX3_whyNoPiano_15 : decode cX3_whyNoPiano 15 = .ok (.ifCond .ne 8, 3) := by decide +kernel
theorem dX3_whyNoPiano_18 : decode cX3_whyNoPiano 18 = .ok (.bipush (-2), 2) := by decide +kernel
theorem dX3_whyNoPiano_20 : decode cX3_whyNoPiano 20 = .ok (.goto 17, 3) := by decide +kernel
theorem dX3_whyNoPiano_23 : decode cX3_whyNoPiano 23 = .ok (.aload_n 0, 1) := by decide +kernel
theorem dX3_whyNoPiano_24 : decode cX3_whyNoPiano 24 = .ok (.iload_n 1, 1) := by decide +kernel
theorem dX3_whyNoPiano_25 : decode cX3_whyNoPiano 25 = .ok (.invokevirtual 48, 3) := by decide +kernel
theorem dX3_whyNoPiano_28 : decode cX3_whyNoPiano 28 = .ok (.ifCond .eq 8, 3) := by decide +kernel
theorem dX3_whyNoPiano_31 : decode cX3_whyNoPiano 31 = .ok (.bipush (-5), 2) := by decide +kernel
theorem dX3_whyNoPiano_33 : decode cX3_whyNoPiano 33 = .ok (.goto 4, 3) := by decide +kernel
theorem dX3_whyNoPiano_36 : decode cX3_whyNoPiano 36 = .ok (.iconst 0, 1) := by decide +kernel
theorem dX3_whyNoPiano_37 : decode cX3_whyNoPiano 37 = .ok (.ireturn, 1) := by decide +kernel
set_option maxRecDepth 20000 in
theorem ggX3_pianoComes_X3_setPiano : GoodIn wsX3_pianoComes wsX3_setPiano := goodIn_r _ [5, 6, 7, 8, 9, 10, 11, 12, 13, 14, 15, 16, 17, 18, 19] (by decide +kernel) (by decide +kernel)
set_option maxRecDepth 20000 in
theorem gX3_pianoComes_X3_setPiano : GoodIn wsX3_pianoComes (wsV RX3 75 RX3 yX3_setPiano wsX3_setPiano) := goodIn_app (goodIn_of _ (by decide +kernel)) ggX3_pianoComes_X3_setPiano
theorem dX3_pianoComes_0 : decode cX3_pianoComes 0 = .ok (.aload_n 0, 1) := by decide +kernel
theorem dX3_pianoComes_1 : decode cX3_pianoComes 1 = .ok (.iload_n 1, 1) := by decide +kernel
theorem dX3_pianoComes_2 : decode cX3_pianoComes 2 = .ok (.iconst 0, 1) := by decide +kernel
theorem dX3_pianoComes_3 : decode cX3_pianoComes 3 = .ok (.iconst 1, 1) := by decide +kernel
theorem dX3_pianoComes_4 : decode cX3_pianoComes 4 = .ok (.invokevirtual 75, 3) := by decide +kernel
theorem dX3_pianoComes_7 : decode cX3_pianoComes 7 = .ok (.aload_n 0, 1) := by decide +kernel
theorem dX3_pianoComes_8 : decode cX3_pianoComes 8 = .ok (.iload_n 1, 1) := by decide +kernel
theorem dX3_pianoComes_9 : decode cX3_pianoComes 9 = .ok (.iconst 1, 1) := by decide +kernel
theorem dX3_pianoComes_10 : decode cX3_pianoComes 10 = .ok (.bipush 100, 2) := by decide +kernel
theorem dX3_pianoComes_12 : decode cX3_pianoComes 12 = .ok (.invokevirtual 75, 3) := by decide +kernel
theorem dX3_pianoComes_15 : decode cX3_pianoComes 15 = .ok (.aload_n 0, 1) := by decide +kernel
theorem dX3_pianoComes_16 : decode cX3_pianoComes 16 = .ok (.iload_n 1, 1) := by decide +kernel
theorem dX3_pianoComes_17 : decode cX3_pianoComes 17 = .ok (.iconst 2, 1) := by decide +kernel
theorem dX3_pianoComes_18 : decode cX3_pianoComes 18 = .ok (.iconst 0, 1) := by decide +kernel
theorem dX3_pianoComes_19 : decode cX3_pianoComes 19 = .ok (.invokevirtual 75, 3) := by decide +kernel
theorem dX3_pianoComes_22 : decode cX3_pianoComes 22 = .ok (.aload_n 0, 1) := by decide +kernel
theorem dX3_pianoComes_23 : decode cX3_pianoComes 23 = .ok (.iload_n 1, 1) := by decide +kernel
theorem dX3_pianoComes_24 : decode cX3_pianoComes 24 = .ok (.iconst 3, 1) := by decide +kernel
theorem dX3_pianoComes_25 : decode cX3_pianoComes 25 = .ok (.iload_n 2, 1) := by decide +kernel
theorem dX3_pianoComes_26 : decode cX3_pianoComes 26 = .ok (.invokevirtual 75, 3) := by decide +kernel
theorem dX3_pianoComes_29 : decode cX3_pianoComes 29 = .ok (.aload_n 0, 1) := by decide +kernel
theorem dX3_pianoComes_30 : decode cX3_pianoComes 30 = .ok (.iload_n 1, 1) := by decide +kernel
theorem dX3_pianoComes_31 : decode cX3_pianoComes 31 = .ok (.iconst 4, 1) := by decide +kernel
theorem dX3_pianoComes_32 : decode cX3_pianoComes 32 = .ok (.iconst 0, 1) := by decide +kernel
theorem dX3_pianoComes_33 : decode cX3_pianoComes 33 = .ok (.invokevirtual 75, 3) := by decide +kernel
theorem dX3_pianoComes_36 : decode cX3_pianoComes 36 = .ok (.aload_n 0, 1) := by decide +kernel
theorem dX3_pianoComes_37 : decode cX3_pianoComes 37 = .ok (.iload_n 1, 1) := by decide +kernel
theorem dX3_pianoComes_38 : decode cX3_pianoComes 38 = .ok (.iconst 5, 1) := by decide +kernel
theorem dX3_pianoComes_39 : decode cX3_pianoComes 39 = .ok (.iconst 0, 1) := by decide +kernel
theorem dX3_pianoComes_40 : decode cX3_pianoComes 40 = .ok (.invokevirtual 75, 3) := by decide +kernel
theorem dX3_pianoComes_43 : decode cX3_pianoComes 43 = .ok (.return_, 1) := by decide +kernel
set_option maxRecDepth 20000 in
theorem ggX3_piano_X3_whyNoPiano : GoodIn wsX3_piano wsX3_whyNoPiano := goodIn_r _ [5, 6, 7, 4, 8, 9, 10, 11, 12, 13, 14, 15, 16, 17, 18, 19, 20, 42, 43, 44, 45, 46, 47, 48, 49, 50, 51, 52, 53, 54] (by decide +kernel) (by decide +kernel)
set_option maxRecDepth 20000 in
theorem gX3_piano_X3_whyNoPiano : GoodIn wsX3_piano (wsV RX3 122 RX3 yX3_whyNoPiano wsX3_whyNoPiano) := goodIn_app (goodIn_of _ (by decide +kernel)) ggX3_piano_X3_whyNoPiano
set_option maxRecDepth 20000 in
theorem ggX3_piano_X3_record : GoodIn wsX3_piano wsX3_record := goodIn_r _ [24, 25, 26, 20, 27, 28, 4, 29, 42, 43, 44, 45, 46, 47, 48, 49, 50, 51, 52, 53, 54] (by decide +kernel) (by decide +kernel)
set_option maxRecDepth 20000 in
theorem gX3_piano_X3_record : GoodIn wsX3_piano (wsV RX3 118 RX3 yX3_record wsX3_record) := goodIn_app (goodIn_of _ (by decide +kernel)) ggX3_piano_X3_record
set_option maxRecDepth 20000 in
theorem ggX3_piano_X3_pianoComes : GoodIn wsX3_piano wsX3_pianoComes := goodIn_r _ [33, 34, 35, 36, 4, 37, 20, 42, 43, 44, 45, 46, 47, 48, 49, 50, 51, 52, 53, 54] (by decide +kernel) (by decide +kernel)
set_option maxRecDepth 20000 in
theorem gX3_piano_X3_pianoComes : GoodIn wsX3_piano (wsV RX3 125 RX3 yX3_pianoComes wsX3_pianoComes) := goodIn_app (goodIn_of _ (by decide +kernel)) ggX3_piano_X3_pianoComes
set_option maxRecDepth 20000 in
theorem ggX3_piano_X3_pianosThere : GoodIn wsX3_piano wsX3_pianosThere := goodIn_r _ [41, 16, 17, 18, 4, 19, 20, 42, 43, 44, 45, 46, 47, 48, 49, 50, 51, 52, 53, 54] (by decide +kernel) (by decide +kernel)
set_option maxRecDepth 20000 in
theorem gX3_piano_X3_pianosThere : GoodIn wsX3_piano (wsV RX3 128 RX3 yX3_pianosThere wsX3_pianosThere) := goodIn_app (goodIn_of _ (by decide +kernel)) ggX3_piano_X3_pianosThere
theorem dX3_piano_0 : decode cX3_piano 0 = .ok (.aload_n 0, 1) := by decide +kernel
theorem dX3_piano_1 : decode cX3_piano 1 = .ok (.iload_n 1, 1) := by decide +kernel
theorem dX3_piano_2 : decode cX3_piano 2 = .ok (.iload_n 2, 1) := by decide +kernel
theorem dX3_piano_3 : decode cX3_piano 3 = .ok (.invokevirtual 122, 3) := by decide +kernel
theorem dX3_piano_6 : decode cX3_piano 6 = .ok (.istore_n 3, 1) := by decide +kernel
theorem dX3_piano_7 : decode cX3_piano 7 = .ok (.iload_n 3, 1) := by decide +kernel
theorem dX3_piano_8 : decode cX3_piano 8 = .ok (.ifCond .ge 5, 3) := by decide +kernel
theorem dX3_piano_11 : decode cX3_piano 11 = .ok (.iload_n 3, 1) := by decide +kernel
theorem dX3_piano_12 : decode cX3_piano 12 = .ok (.ireturn, 1) := by decide +kernel
theorem dX3_piano_13 : decode cX3_piano 13 = .ok (.aload_n 0, 1) := by decide +kernel
theorem dX3_piano_14 : decode cX3_piano 14 = .ok (.invokevirtual 118, 3) := by decide +kernel
theorem dX3_piano_17 : decode cX3_piano 17 = .ok (.aload_n 0, 1) := by decide +kernel
theorem dX3_piano_18 : decode cX3_piano 18 = .ok (.iload_n 1, 1) := by decide +kernel
theorem dX3_piano_19 : decode cX3_piano 19 = .ok (.iload_n 2, 1) := by decide +kernel
theorem dX3_piano_20 : decode cX3_piano 20 = .ok (.invokevirtual 125, 3) := by decide +kernel
theorem dX3_piano_23 : decode cX3_piano 23 = .ok (.aload_n 0, 1) := by decide +kernel
theorem dX3_piano_24 : decode cX3_piano 24 = .ok (.invokevirtual 128, 3) := by decide +kernel
theorem dX3_piano_27 : decode cX3_piano 27 = .ok (.ireturn, 1) := by decide +kernel
set_option maxRecDepth 20000 in
theorem ggX3_take_X3_isPiano : GoodIn wsX3_take wsX3_isPiano := goodIn_r _ [5, 6, 7, 4, 8, 9, 10, 11, 12, 13, 14, 15, 16, 34, 35, 36, 37, 38, 39, 40, 41, 42, 43, 44, 45, 46] (by decide +kernel) (by decide +kernel)
set_option maxRecDepth 20000 in
theorem gX3_take_X3_isPiano : GoodIn wsX3_take (wsV RX3 48 RX3 yX3_isPiano wsX3_isPiano) := goodIn_app (goodIn_of _ (by decide +kernel)) ggX3_take_X3_isPiano
set_option maxRecDepth 20000 in
theorem ggX3_take_X3_record : GoodIn wsX3_take wsX3_record := goodIn_r _ [20, 21, 22, 16, 23, 24, 4, 25, 34, 35, 36, 37, 38, 39, 40, 41, 42, 43, 44, 45, 46] (by decide +kernel) (by decide +kernel)
set_option maxRecDepth 20000 in
theorem gX3_take_X3_record : GoodIn wsX3_take (wsV RX3 118 RX3 yX3_record wsX3_record) := goodIn_app (goodIn_of _ (by decide +kernel)) ggX3_take_X3_record
set_option maxRecDepth 20000 in
theorem ggX3_take_X3_setPiano : GoodIn wsX3_take wsX3_setPiano := goodIn_r _ [29, 16, 34, 35, 36, 37, 38, 39, 40, 41, 42, 43, 44, 45, 46] (by decide +kernel) (by decide +kernel)
set_option maxRecDepth 20000 in
theorem gX3_take_X3_setPiano : GoodIn wsX3_take (wsV RX3 75 RX3 yX3_setPiano wsX3_setPiano) := goodIn_app (goodIn_of _ (by decide +kernel)) ggX3_take_X3_setPiano
set_option maxRecDepth 20000 in
theorem ggX3_take_X3_pianosThere : GoodIn wsX3_take wsX3_pianosThere := goodIn_r _ [33, 12, 13, 14, 4, 15, 16, 34, 35, 36, 37, 38, 39, 40, 41, 42, 43, 44, 45, 46] (by decide +kernel) (by decide +kernel)
set_option maxRecDepth 20000 in
theorem gX3_take_X3_pianosThere : GoodIn wsX3_take (wsV RX3 128 RX3 yX3_pianosThere wsX3_pianosThere) := goodIn_app (goodIn_of _ (by decide +kernel)) ggX3_take_X3_pianosThere
theorem dX3_take_0 : decode cX3_take 0 = .ok (.aload_n 0, 1) := by decide +kernel
theorem dX3_take_1 : decode cX3_take 1 = .ok (.iload_n 1, 1) := by decide +kernel
theorem dX3_take_2 : decode cX3_take 2 = .ok (.invokevirtual 48, 3) := by decide +kernel
theorem dX3_take_5 : decode cX3_take 5 = .ok (.ifCond .ne 5, 3) := by decide +kernel
theorem dX3_take_8 : decode cX3_take 8 = .ok (.iconst (-1), 1) := by decide +kernel
theorem dX3_take_9 : decode cX3_take 9 = .ok (.ireturn, 1) := by decide +kernel
theorem dX3_take_10 : decode cX3_take 10 = .ok (.aload_n 0, 1) := by decide +kernel
theorem dX3_take_11 : decode cX3_take 11 = .ok (.invokevirtual 118, 3) := by decide +kernel
theorem dX3_take_14 : decode cX3_take 14 = .ok (.iconst 0, 1) := by decide +kernel
theorem dX3_take_15 : decode cX3_take 15 = .ok (.istore_n 2, 1) := by decide +kernel
theorem dX3_take_16 : decode cX3_take 16 = .ok (.iload_n 2, 1) := by decide +kernel
theorem dX3_take_17 : decode cX3_take 17 = .ok (.bipush 6, 2) := by decide +kernel
theorem dX3_take_19 : decode cX3_take 19 = .ok (.if_icmp .ge 16, 3) := by decide +kernel
theorem dX3_take_22 : decode cX3_take 22 = .ok (.aload_n 0, 1) := by decide +kernel
theorem dX3_take_23 : decode cX3_take 23 = .ok (.iload_n 1, 1) := by decide +kernel
theorem dX3_take_24 : decode cX3_take 24 = .ok (.iload_n 2, 1) := by decide +kernel
theorem dX3_take_25 : decode cX3_take 25 = .ok (.iconst 0, 1) := by decide +kernel
theorem dX3_take_26 : decode cX3_take 26 = .ok (.invokevirtual 75, 3) := by decide +kernel
theorem dX3_take_29 : decode cX3_take 29 = .ok (.iinc 2 1, 3) := by decide +kernel
theorem dX3_take_32 : decode cX3_take 32 = .ok (.goto (-16), 3) := by decide +kernel
theorem dX3_take_35 : decode cX3_take 35 = .ok (.aload_n 0, 1) := by decide +kernel
theorem dX3_take_36 : decode cX3_take 36 = .ok (.invokevirtual 128, 3) := by decide +kernel
theorem dX3_take_39 : decode cX3_take 39 = .ok (.ireturn, 1) := by decide +kernel
set_option maxRecDepth 20000 in
theorem ggX3_whyNoKeeper_X3_isPlace : GoodIn wsX3_whyNoKeeper wsX3_isPlace := goodIn_r _ [5, 6, 7, 4, 8] (by decide +kernel) (by decide +kernel)
set_option maxRecDepth 20000 in
theorem gX3_whyNoKeeper_X3_isPlace : GoodIn wsX3_whyNoKeeper (va_wsS RX3 40 yX3_isPlace wsX3_isPlace) := goodIn_app (goodIn_of _ (by decide +kernel)) ggX3_whyNoKeeper_X3_isPlace
theorem dX3_whyNoKeeper_0 : decode cX3_whyNoKeeper 0 = .ok (.iload_n 1, 1) := by decide +kernel
theorem dX3_whyNoKeeper_1 : decode cX3_whyNoKeeper 1 = .ok (.invokestatic 40, 3) := by decide +kernel
theorem dX3_whyNoKeeper_4 : decode cX3_whyNoKeeper 4 = .ok (.ifCond .ne 7, 3) := by decide +kernel
theorem dX3_whyNoKeeper_7 : decode cX3_whyNoKeeper 7 = .ok (.iconst (-1), 1) := by decide +kernel
theorem dX3_whyNoKeeper_8 : decode cX3_whyNoKeeper 8 = .ok (.goto 20, 3) := by decide +kernel
theorem dX3_whyNoKeeper_11 : decode cX3_whyNoKeeper 11 = .ok (.aload_n 0, 1) := by decide +kernel
theorem dX3_whyNoKeeper_12 : decode cX3_whyNoKeeper 12 = .ok (.getfield 7, 3) := by decide +kernel
theorem dX3_whyNoKeeper_15 : decode cX3_whyNoKeeper 15 = .ok (.bipush 11, 2) := by decide +kernel
theorem dX3_whyNoKeeper_17 : decode cX3_whyNoKeeper 17 = .ok (.iaload, 1) := by decide +kernel
theorem dX3_whyNoKeeper_18 : decode cX3_whyNoKeeper 18 = .ok (.iconst 4, 1) := by decide +kernel
theorem dX3_whyNoKeeper_19 : decode cX3_whyNoKeeper 19 = .ok (.if_icmp .ne 8, 3) := by decide +kernel
theorem dX3_whyNoKeeper_22 : decode cX3_whyNoKeeper 22 = .ok (.bipush (-4), 2) := by decide +kernel
theorem dX3_whyNoKeeper_24 : decode cX3_whyNoKeeper 24 = .ok (.goto 4, 3) := by decide +kernel
theorem dX3_whyNoKeeper_27 : decode cX3_whyNoKeeper 27 = .ok (.iconst 0, 1) := by decide +kernel
theorem dX3_whyNoKeeper_28 : decode cX3_whyNoKeeper 28 = .ok (.ireturn, 1) := by decide +kernel
theorem dX3_keeperComes_0 : decode cX3_keeperComes 0 = .ok (.aload_n 0, 1) := by decide +kernel
theorem dX3_keeperComes_1 : decode cX3_keeperComes 1 = .ok (.getfield 7, 3) := by decide +kernel
theorem dX3_keeperComes_4 : decode cX3_keeperComes 4 = .ok (.bipush 11, 2) := by decide +kernel
theorem dX3_keeperComes_6 : decode cX3_keeperComes 6 = .ok (.iaload, 1) := by decide +kernel
theorem dX3_keeperComes_7 : decode cX3_keeperComes 7 = .ok (.istore_n 2, 1) := by decide +kernel
theorem dX3_keeperComes_8 : decode cX3_keeperComes 8 = .ok (.iconst 0, 1) := by decide +kernel
theorem dX3_keeperComes_9 : decode cX3_keeperComes 9 = .ok (.istore_n 3, 1) := by decide +kernel
theorem dX3_keeperComes_10 : decode cX3_keeperComes 10 = .ok (.iload_n 3, 1) := by decide +kernel
theorem dX3_keeperComes_11 : decode cX3_keeperComes 11 = .ok (.iconst 5, 1) := by decide +kernel
theorem dX3_keeperComes_12 : decode cX3_keeperComes 12 = .ok (.if_icmp .ge 31, 3) := by decide +kernel
theorem dX3_keeperComes_15 : decode cX3_keeperComes 15 = .ok (.aload_n 0, 1) := by decide +kernel
theorem dX3_keeperComes_16 : decode cX3_keeperComes 16 = .ok (.getfield 7, 3) := by decide +kernel
theorem dX3_keeperComes_19 : decode cX3_keeperComes 19 = .ok (.bipush 84, 2) := by decide +kernel
theorem dX3_keeperComes_21 : decode cX3_keeperComes 21 = .ok (.iconst 5, 1) := by decide +kernel
theorem dX3_keeperComes_22 : decode cX3_keeperComes 22 = .ok (.iload_n 2, 1) := by decide +kernel
theorem dX3_keeperComes_23 : decode cX3_keeperComes 23 = .ok (.imul, 1) := by decide +kernel
theorem dX3_keeperComes_24 : decode cX3_keeperComes 24 = .ok (.iadd, 1) := by decide +kernel
theorem dX3_keeperComes_25 : decode cX3_keeperComes 25 = .ok (.iload_n 3, 1) := by decide +kernel
theorem dX3_keeperComes_26 : decode cX3_keeperComes 26 = .ok (.iadd, 1) := by decide +kernel
theorem dX3_keeperComes_27 : decode cX3_keeperComes 27 = .ok (.iload_n 3, 1) := by decide +kernel
theorem dX3_keeperComes_28 : decode cX3_keeperComes 28 = .ok (.ifCond .ne 7, 3) := by decide +kernel
theorem dX3_keeperComes_31 : decode cX3_keeperComes 31 = .ok (.iload_n 1, 1) := by decide +kernel
theorem dX3_keeperComes_32 : decode cX3_keeperComes 32 = .ok (.goto 4, 3) := by decide +kernel
theorem dX3_keeperComes_35 : decode cX3_keeperComes 35 = .ok (.iconst 0, 1) := by decide +kernel
theorem dX3_keeperComes_36 : decode cX3_keeperComes 36 = .ok (.iastore, 1) := by decide +kernel
theorem dX3_keeperComes_37 : decode cX3_keeperComes 37 = .ok (.iinc 3 1, 3) := by decide +kernel
theorem dX3_keeperComes_40 : decode cX3_keeperComes 40 = .ok (.goto (-30), 3) := by decide +kernel
theorem dX3_keeperComes_43 : decode cX3_keeperComes 43 = .ok (.aload_n 0, 1) := by decide +kernel
theorem dX3_keeperComes_44 : decode cX3_keeperComes 44 = .ok (.getfield 7, 3) := by decide +kernel
theorem dX3_keeperComes_47 : decode cX3_keeperComes 47 = .ok (.bipush 11, 2) := by decide +kernel
theorem dX3_keeperComes_49 : decode cX3_keeperComes 49 = .ok (.dup2, 1) := by decide +kernel
theorem dX3_keeperComes_50 : decode cX3_keeperComes 50 = .ok (.iaload, 1) := by decide +kernel
theorem dX3_keeperComes_51 : decode cX3_keeperComes 51 = .ok (.iconst 1, 1) := by decide +kernel
theorem dX3_keeperComes_52 : decode cX3_keeperComes 52 = .ok (.iadd, 1) := by decide +kernel
theorem dX3_keeperComes_53 : decode cX3_keeperComes 53 = .ok (.iastore, 1) := by decide +kernel
theorem dX3_keeperComes_54 : decode cX3_keeperComes 54 = .ok (.iload_n 2, 1) := by decide +kernel
theorem dX3_keeperComes_55 : decode cX3_keeperComes 55 = .ok (.ireturn, 1) := by decide +kernel
set_option maxRecDepth 20000 in
theorem ggX3_keeper_X3_whyNoKeeper : GoodIn wsX3_keeper wsX3_whyNoKeeper := goodIn_r _ [5, 6, 7, 8, 4, 9, 10, 11, 12, 26, 27, 28, 29, 30, 31, 32, 33, 34, 35, 36, 37, 38] (by decide +kernel) (by decide +kernel)
set_option maxRecDepth 20000 in
theorem gX3_keeper_X3_whyNoKeeper : GoodIn wsX3_keeper (wsV RX3 132 RX3 yX3_whyNoKeeper wsX3_whyNoKeeper) := goodIn_app (goodIn_of _ (by decide +kernel)) ggX3_keeper_X3_whyNoKeeper
set_option maxRecDepth 20000 in
theorem ggX3_keeper_X3_record : GoodIn wsX3_keeper wsX3_record := goodIn_r _ [16, 17, 18, 6, 19, 20, 4, 21, 26, 27, 28, 29, 30, 31, 32, 33, 34, 35, 36, 37, 38] (by decide +kernel) (by decide +kernel)
set_option maxRecDepth 20000 in
theorem gX3_keeper_X3_record : GoodIn wsX3_keeper (wsV RX3 118 RX3 yX3_record wsX3_record) := goodIn_app (goodIn_of _ (by decide +kernel)) ggX3_keeper_X3_record
set_option maxRecDepth 20000 in
theorem ggX3_keeper_X3_keeperComes : GoodIn wsX3_keeper wsX3_keeperComes := goodIn_r _ [25, 6, 26, 27, 28, 29, 30, 31, 32, 33, 34, 35, 36, 37, 38] (by decide +kernel) (by decide +kernel)
set_option maxRecDepth 20000 in
theorem gX3_keeper_X3_keeperComes : GoodIn wsX3_keeper (wsV RX3 135 RX3 yX3_keeperComes wsX3_keeperComes) := goodIn_app (goodIn_of _ (by decide +kernel)) ggX3_keeper_X3_keeperComes
theorem dX3_keeper_0 : decode cX3_keeper 0 = .ok (.aload_n 0, 1) := by decide +kernel
theorem dX3_keeper_1 : decode cX3_keeper 1 = .ok (.iload_n 1, 1) := by decide +kernel
theorem dX3_keeper_2 : decode cX3_keeper 2 = .ok (.invokevirtual 132, 3) := by decide +kernel
theorem dX3_keeper_5 : decode cX3_keeper 5 = .ok (.istore_n 2, 1) := by decide +kernel
theorem dX3_keeper_6 : decode cX3_keeper 6 = .ok (.iload_n 2, 1) := by decide +kernel
theorem dX3_keeper_7 : decode cX3_keeper 7 = .ok (.ifCond .ge 5, 3) := by decide +kernel
theorem dX3_keeper_10 : decode cX3_keeper 10 = .ok (.iload_n 2, 1) := by decide +kernel
theorem dX3_keeper_11 : decode cX3_keeper 11 = .ok (.ireturn, 1) := by decide +kernel
theorem dX3_keeper_12 : decode cX3_keeper 12 = .ok (.aload_n 0, 1) := by decide +kernel
theorem dX3_keeper_13 : decode cX3_keeper 13 = .ok (.invokevirtual 118, 3) := by decide +kernel
theorem dX3_keeper_16 : decode cX3_keeper 16 = .ok (.aload_n 0, 1) := by decide +kernel
theorem dX3_keeper_17 : decode cX3_keeper 17 = .ok (.iload_n 1, 1) := by decide +kernel
theorem dX3_keeper_18 : decode cX3_keeper 18 = .ok (.invokevirtual 135, 3) := by decide +kernel
theorem dX3_keeper_21 : decode cX3_keeper 21 = .ok (.ireturn, 1) := by decide +kernel
set_option maxRecDepth 20000 in
theorem ggX3_whyNoCover_X3_isPiano : GoodIn wsX3_whyNoCover wsX3_isPiano := goodIn_r _ [5, 6, 7, 4, 8, 9, 10, 11, 12, 13, 14, 15, 16, 17, 18, 19, 20, 21, 22, 23, 24, 25, 26, 27, 28, 29] (by decide +kernel) (by decide +kernel)
set_option maxRecDepth 20000 in
theorem gX3_whyNoCover_X3_isPiano : GoodIn wsX3_whyNoCover (wsV RX3 48 RX3 yX3_isPiano wsX3_isPiano) := goodIn_app (goodIn_of _ (by decide +kernel)) ggX3_whyNoCover_X3_isPiano
set_option maxRecDepth 20000 in
theorem ggX3_whyNoCover_X3_pianoPart : GoodIn wsX3_whyNoCover wsX3_pianoPart := goodIn_r _ [15, 16, 17, 18, 19, 20, 21, 22, 23, 24, 25, 26, 27, 28, 29] (by decide +kernel) (by decide +kernel)
set_option maxRecDepth 20000 in
theorem gX3_whyNoCover_X3_pianoPart : GoodIn wsX3_whyNoCover (wsV RX3 44 RX3 yX3_pianoPart wsX3_pianoPart) := goodIn_app (goodIn_of _ (by decide +kernel)) ggX3_whyNoCover_X3_pianoPart
theorem dX3_whyNoCover_0 : decode cX3_whyNoCover 0 = .ok (.aload_n 0, 1) := by decide +kernel
theorem dX3_whyNoCover_1 : decode cX3_whyNoCover 1 = .ok (.iload_n 1, 1) := by decide +kernel
theorem dX3_whyNoCover_2 : decode cX3_whyNoCover 2 = .ok (.invokevirtual 48, 3) := by decide +kernel
theorem dX3_whyNoCover_5 : decode cX3_whyNoCover 5 = .ok (.ifCond .ne 7, 3) := by decide +kernel
theorem dX3_whyNoCover_8 : decode cX3_whyNoCover 8 = .ok (.iconst (-1), 1) := by decide +kernel
theorem dX3_whyNoCover_9 : decode cX3_whyNoCover 9 = .ok (.goto 18, 3) := by decide +kernel
theorem dX3_whyNoCover_12 : decode cX3_whyNoCover 12 = .ok (.aload_n 0, 1) := by decide +kernel
theorem dX3_whyNoCover_13 : decode cX3_whyNoCover 13 = .ok (.iload_n 1, 1) := by decide +kernel
theorem dX3_whyNoCover_14 : decode cX3_whyNoCover 14 = .ok (.iconst 3, 1) := by decide +kernel
theorem dX3_whyNoCover_15 : decode cX3_whyNoCover 15 = .ok (.invokevirtual 44, 3) := by decide +kernel
theorem dX3_whyNoCover_18 : decode cX3_whyNoCover 18 = .ok (.ifCond .eq 8, 3) := by decide +kernel
theorem dX3_whyNoCover_21 : decode cX3_whyNoCover 21 = .ok (.bipush (-5), 2) := by decide +kernel
theorem dX3_whyNoCover_23 : decode cX3_whyNoCover 23 = .ok (.goto 4, 3) := by decide +kernel
theorem dX3_whyNoCover_26 : decode cX3_whyNoCover 26 = .ok (.iconst 0, 1) := by decide +kernel
theorem dX3_whyNoCover_27 : decode cX3_whyNoCover 27 = .ok (.ireturn, 1) := by decide +kernel
set_option maxRecDepth 20000 in
theorem ggX3_withCovers_X3_isPiano : GoodIn wsX3_withCovers wsX3_isPiano := goodIn_r _ [5, 6, 7, 4, 8, 9, 10, 11, 12, 13, 14, 15, 16, 17, 18, 19, 20, 21, 22, 23, 24, 25, 26, 27, 28, 29] (by decide +kernel) (by decide +kernel)
set_option maxRecDepth 20000 in
theorem gX3_withCovers_X3_isPiano : GoodIn wsX3_withCovers (wsV RX3 48 RX3 yX3_isPiano wsX3_isPiano) := goodIn_app (goodIn_of _ (by decide +kernel)) ggX3_withCovers_X3_isPiano
set_option maxRecDepth 20000 in
theorem ggX3_withCovers_X3_pianoPart : GoodIn wsX3_withCovers wsX3_pianoPart := goodIn_r _ [15, 16, 17, 18, 19, 20, 21, 22, 23, 24, 25, 26, 27, 28, 29] (by decide +kernel) (by decide +kernel)
set_option maxRecDepth 20000 in
theorem gX3_withCovers_X3_pianoPart : GoodIn wsX3_withCovers (wsV RX3 44 RX3 yX3_pianoPart wsX3_pianoPart) := goodIn_app (goodIn_of _ (by decide +kernel)) ggX3_withCovers_X3_pianoPart
theorem dX3_withCovers_0 : decode cX3_withCovers 0 = .ok (.iconst 0, 1) := by decide +kernel
theorem dX3_withCovers_1 : decode cX3_withCovers 1 = .ok (.istore_n 1, 1) := by decide +kernel
theorem dX3_withCovers_2 : decode cX3_withCovers 2 = .ok (.iconst 0, 1) := by decide +kernel
theorem dX3_withCovers_3 : decode cX3_withCovers 3 = .ok (.istore_n 2, 1) := by decide +kernel
theorem dX3_withCovers_4 : decode cX3_withCovers 4 = .ok (.iload_n 2, 1) := by decide +kernel
theorem dX3_withCovers_5 : decode cX3_withCovers 5 = .ok (.bipush 12, 2) := by decide +kernel
theorem dX3_withCovers_7 : decode cX3_withCovers 7 = .ok (.if_icmp .ge 34, 3) := by decide +kernel
theorem dX3_withCovers_10 : decode cX3_withCovers 10 = .ok (.iload_n 1, 1) := by decide +kernel
theorem dX3_withCovers_11 : decode cX3_withCovers 11 = .ok (.aload_n 0, 1) := by decide +kernel
theorem dX3_withCovers_12 : decode cX3_withCovers 12 = .ok (.iload_n 2, 1) := by decide +kernel
theorem dX3_withCovers_13 : decode cX3_withCovers 13 = .ok (.invokevirtual 48, 3) := by decide +kernel
theorem dX3_withCovers_16 : decode cX3_withCovers 16 = .ok (.ifCond .eq 16, 3) := by decide +kernel
theorem dX3_withCovers_19 : decode cX3_withCovers 19 = .ok (.aload_n 0, 1) := by decide +kernel
theorem dX3_withCovers_20 : decode cX3_withCovers 20 = .ok (.iload_n 2, 1) := by decide +kernel
theorem dX3_withCovers_21 : decode cX3_withCovers 21 = .ok (.iconst 3, 1) := by decide +kernel
theorem dX3_withCovers_22 : decode cX3_withCovers 22 = .ok (.invokevirtual 44, 3) := by decide +kernel
theorem dX3_withCovers_25 : decode cX3_withCovers 25 = .ok (.ifCond .eq 7, 3) := by decide +kernel
theorem dX3_withCovers_28 : decode cX3_withCovers 28 = .ok (.iconst 1, 1) := by decide +kernel
theorem dX3_withCovers_29 : decode cX3_withCovers 29 = .ok (.goto 4, 3) := by decide +kernel
theorem dX3_withCovers_32 : decode cX3_withCovers 32 = .ok (.iconst 0, 1) := by decide +kernel
theorem dX3_withCovers_33 : decode cX3_withCovers 33 = .ok (.iadd, 1) := by decide +kernel
theorem dX3_withCovers_34 : decode cX3_withCovers 34 = .ok (.istore_n 1, 1) := by decide +kernel
theorem dX3_withCovers_35 : decode cX3_withCovers 35 = .ok (.iinc 2 1, 3) := by decide +kernel
theorem dX3_withCovers_38 : decode cX3_withCovers 38 = .ok (.goto (-34), 3) := by decide +kernel
theorem dX3_withCovers_41 : decode cX3_withCovers 41 = .ok (.iload_n 1, 1) := by decide +kernel
theorem dX3_withCovers_42 : decode cX3_withCovers 42 = .ok (.ireturn, 1) := by decide +kernel
set_option maxRecDepth 20000 in
theorem ggX3_cover_X3_whyNoCover : GoodIn wsX3_cover wsX3_whyNoCover := goodIn_r _ [5, 6, 7, 8, 4, 9, 10, 11, 12, 13, 14, 15, 16, 17, 18, 19, 20, 38, 39, 40, 41, 42, 43, 44, 45, 46, 47, 48, 49, 50] (by decide +kernel) (by decide +kernel)
set_option maxRecDepth 20000 in
theorem gX3_cover_X3_whyNoCover : GoodIn wsX3_cover (wsV RX3 138 RX3 yX3_whyNoCover wsX3_whyNoCover) := goodIn_app (goodIn_of _ (by decide +kernel)) ggX3_cover_X3_whyNoCover
set_option maxRecDepth 20000 in
theorem ggX3_cover_X3_record : GoodIn wsX3_cover wsX3_record := goodIn_r _ [24, 25, 26, 20, 27, 28, 4, 29, 38, 39, 40, 41, 42, 43, 44, 45, 46, 47, 48, 49, 50] (by decide +kernel) (by decide +kernel)
set_option maxRecDepth 20000 in
theorem gX3_cover_X3_record : GoodIn wsX3_cover (wsV RX3 118 RX3 yX3_record wsX3_record) := goodIn_app (goodIn_of _ (by decide +kernel)) ggX3_cover_X3_record
set_option maxRecDepth 20000 in
theorem ggX3_cover_X3_setPiano : GoodIn wsX3_cover wsX3_setPiano := goodIn_r _ [33, 20, 38, 39, 40, 41, 42, 43, 44, 45, 46, 47, 48, 49, 50] (by decide +kernel) (by decide +kernel)
set_option maxRecDepth 20000 in
theorem gX3_cover_X3_setPiano : GoodIn wsX3_cover (wsV RX3 75 RX3 yX3_setPiano wsX3_setPiano) := goodIn_app (goodIn_of _ (by decide +kernel)) ggX3_cover_X3_setPiano
set_option maxRecDepth 20000 in
theorem ggX3_cover_X3_withCovers : GoodIn wsX3_cover wsX3_withCovers := goodIn_r _ [37, 6, 7, 8, 4, 9, 10, 11, 12, 13, 14, 15, 16, 17, 18, 19, 20, 38, 39, 40, 41, 42, 43, 44, 45, 46, 47, 48, 49, 50] (by decide +kernel) (by decide +kernel)
set_option maxRecDepth 20000 in
theorem gX3_cover_X3_withCovers : GoodIn wsX3_cover (wsV RX3 141 RX3 yX3_withCovers wsX3_withCovers) := goodIn_app (goodIn_of _ (by decide +kernel)) ggX3_cover_X3_withCovers
theorem dX3_cover_0 : decode cX3_cover 0 = .ok (.aload_n 0, 1) := by decide +kernel
theorem dX3_cover_1 : decode cX3_cover 1 = .ok (.iload_n 1, 1) := by decide +kernel
theorem dX3_cover_2 : decode cX3_cover 2 = .ok (.invokevirtual 138, 3) := by decide +kernel
theorem dX3_cover_5 : decode cX3_cover 5 = .ok (.istore_n 2, 1) := by decide +kernel
theorem dX3_cover_6 : decode cX3_cover 6 = .ok (.iload_n 2, 1) := by decide +kernel
theorem dX3_cover_7 : decode cX3_cover 7 = .ok (.ifCond .ge 5, 3) := by decide +kernel
theorem dX3_cover_10 : decode cX3_cover 10 = .ok (.iload_n 2, 1) := by decide +kernel
theorem dX3_cover_11 : decode cX3_cover 11 = .ok (.ireturn, 1) := by decide +kernel
theorem dX3_cover_12 : decode cX3_cover 12 = .ok (.aload_n 0, 1) := by decide +kernel
theorem dX3_cover_13 : decode cX3_cover 13 = .ok (.invokevirtual 118, 3) := by decide +kernel
theorem dX3_cover_16 : decode cX3_cover 16 = .ok (.aload_n 0, 1) := by decide +kernel
theorem dX3_cover_17 : decode cX3_cover 17 = .ok (.iload_n 1, 1) := by decide +kernel
theorem dX3_cover_18 : decode cX3_cover 18 = .ok (.iconst 3, 1) := by decide +kernel
theorem dX3_cover_19 : decode cX3_cover 19 = .ok (.iconst 1, 1) := by decide +kernel
theorem dX3_cover_20 : decode cX3_cover 20 = .ok (.invokevirtual 75, 3) := by decide +kernel
theorem dX3_cover_23 : decode cX3_cover 23 = .ok (.aload_n 0, 1) := by decide +kernel
theorem dX3_cover_24 : decode cX3_cover 24 = .ok (.invokevirtual 141, 3) := by decide +kernel
theorem dX3_cover_27 : decode cX3_cover 27 = .ok (.ireturn, 1) := by decide +kernel
set_option maxRecDepth 20000 in
theorem ggX3_whyNotPassed_X3_within : GoodIn wsX3_whyNotPassed wsX3_within := goodIn_r _ [5] (by decide +kernel) (by decide +kernel)
set_option maxRecDepth 20000 in
theorem gX3_whyNotPassed_X3_within : GoodIn wsX3_whyNotPassed (va_wsS RX3 36 yX3_within wsX3_within) := goodIn_app (goodIn_of _ (by decide +kernel)) ggX3_whyNotPassed_X3_within
theorem dX3_whyNotPassed_0 : decode cX3_whyNotPassed 0 = .ok (.iload_n 1, 1) := by decide +kernel
theorem dX3_whyNotPassed_1 : decode cX3_whyNotPassed 1 = .ok (.iconst 1, 1) := by decide +kernel
theorem dX3_whyNotPassed_2 : decode cX3_whyNotPassed 2 = .ok (.bipush 99, 2) := by decide +kernel
theorem dX3_whyNotPassed_4 : decode cX3_whyNotPassed 4 = .ok (.invokestatic 36, 3) := by decide +kernel
theorem dX3_whyNotPassed_7 : decode cX3_whyNotPassed 7 = .ok (.ifCond .ne 8, 3) := by decide +kernel
theorem dX3_whyNotPassed_10 : decode cX3_whyNotPassed 10 = .ok (.bipush (-2), 2) := by decide +kernel
theorem dX3_whyNotPassed_12 : decode cX3_whyNotPassed 12 = .ok (.goto 24, 3) := by decide +kernel
theorem dX3_whyNotPassed_15 : decode cX3_whyNotPassed 15 = .ok (.aload_n 0, 1) := by decide +kernel
theorem dX3_whyNotPassed_16 : decode cX3_whyNotPassed 16 = .ok (.getfield 7, 3) := by decide +kernel
theorem dX3_whyNotPassed_19 : decode cX3_whyNotPassed 19 = .ok (.bipush 7, 2) := by decide +kernel
theorem dX3_whyNotPassed_21 : decode cX3_whyNotPassed 21 = .ok (.iaload, 1) := by decide +kernel
theorem dX3_whyNotPassed_22 : decode cX3_whyNotPassed 22 = .ok (.iload_n 1, 1) := by decide +kernel
theorem dX3_whyNotPassed_23 : decode cX3_whyNotPassed 23 = .ok (.iadd, 1) := by decide +kernel
theorem dX3_whyNotPassed_24 : decode cX3_whyNotPassed 24 = .ok (.sipush 9999, 3) := by decide +kernel
theorem dX3_whyNotPassed_27 : decode cX3_whyNotPassed 27 = .ok (.if_icmp .le 8, 3) := by decide +kernel
theorem dX3_whyNotPassed_30 : decode cX3_whyNotPassed 30 = .ok (.bipush (-5), 2) := by decide +kernel
theorem dX3_whyNotPassed_32 : decode cX3_whyNotPassed 32 = .ok (.goto 4, 3) := by decide +kernel
theorem dX3_whyNotPassed_35 : decode cX3_whyNotPassed 35 = .ok (.iconst 0, 1) := by decide +kernel
theorem dX3_whyNotPassed_36 : decode cX3_whyNotPassed 36 = .ok (.ireturn, 1) := by decide +kernel
set_option maxRecDepth 20000 in
theorem ggX3_pass_X3_whyNotPassed : GoodIn wsX3_pass wsX3_whyNotPassed := goodIn_r _ [5, 6, 7, 8, 4, 9, 105, 106, 107, 108, 109, 110, 111, 112, 113, 114, 115, 116, 117] (by decide +kernel) (by decide +kernel)
set_option maxRecDepth 20000 in
theorem gX3_pass_X3_whyNotPassed : GoodIn wsX3_pass (wsV RX3 144 RX3 yX3_whyNotPassed wsX3_whyNotPassed) := goodIn_app (goodIn_of _ (by decide +kernel)) ggX3_pass_X3_whyNotPassed
set_option maxRecDepth 20000 in
theorem ggX3_pass_X3_record : GoodIn wsX3_pass wsX3_record := goodIn_r _ [13, 14, 15, 6, 16, 17, 4, 18, 105, 106, 107, 108, 109, 110, 111, 112, 113, 114, 115, 116, 117] (by decide +kernel) (by decide +kernel)
set_option maxRecDepth 20000 in
theorem gX3_pass_X3_record : GoodIn wsX3_pass (wsV RX3 118 RX3 yX3_record wsX3_record) := goodIn_app (goodIn_of _ (by decide +kernel)) ggX3_pass_X3_record
set_option maxRecDepth 20000 in
theorem ggX3_pass_X3_passes : GoodIn wsX3_pass wsX3_passes := goodIn_r _ [22, 6, 23, 24, 25, 4, 26, 27, 28, 29, 30, 31, 32, 33, 34, 35, 36, 37, 38, 39, 40, 41, 42, 43, 44, 45, 46, 47, 48, 49, 50, 51, 52, 53, 54, 55, 56, 57, 58, 7, 8, 9, 59, 60, 61, 62, 63, 64, 65, 66, 67, 68, 69, 70, 71, 72, 73, 74, 75, 76, 77, 78, 79, 80, 81, 82, 83, 84, 85, 86, 87, 88, 89, 90, 91, 92, 93, 94, 95, 96, 97, 98, 99, 100, 101, 102, 103, 104, 105, 106, 107, 108, 109, 110, 111, 112, 113, 114, 115, 116, 117] (by decide +kernel) (by decide +kernel)
set_option maxRecDepth 20000 in
theorem gX3_pass_X3_passes : GoodIn wsX3_pass (wsV RX3 147 RX3 yX3_passes wsX3_passes) := goodIn_app (goodIn_of _ (by decide +kernel)) ggX3_pass_X3_passes
theorem dX3_pass_0 : decode cX3_pass 0 = .ok (.aload_n 0, 1) := by decide +kernel
theorem dX3_pass_1 : decode cX3_pass 1 = .ok (.iload_n 1, 1) := by decide +kernel
theorem dX3_pass_2 : decode cX3_pass 2 = .ok (.invokevirtual 144, 3) := by decide +kernel
theorem dX3_pass_5 : decode cX3_pass 5 = .ok (.istore_n 2, 1) := by decide +kernel
theorem dX3_pass_6 : decode cX3_pass 6 = .ok (.iload_n 2, 1) := by decide +kernel
theorem dX3_pass_7 : decode cX3_pass 7 = .ok (.ifCond .ge 5, 3) := by decide +kernel
theorem dX3_pass_10 : decode cX3_pass 10 = .ok (.iload_n 2, 1) := by decide +kernel
theorem dX3_pass_11 : decode cX3_pass 11 = .ok (.ireturn, 1) := by decide +kernel
theorem dX3_pass_12 : decode cX3_pass 12 = .ok (.aload_n 0, 1) := by decide +kernel
theorem dX3_pass_13 : decode cX3_pass 13 = .ok (.invokevirtual 118, 3) := by decide +kernel
theorem dX3_pass_16 : decode cX3_pass 16 = .ok (.aload_n 0, 1) := by decide +kernel
theorem dX3_pass_17 : decode cX3_pass 17 = .ok (.iload_n 1, 1) := by decide +kernel
theorem dX3_pass_18 : decode cX3_pass 18 = .ok (.invokevirtual 147, 3) := by decide +kernel
theorem dX3_pass_21 : decode cX3_pass 21 = .ok (.ireturn, 1) := by decide +kernel
set_option maxRecDepth 20000 in
theorem ggX3_of_X3_isPiano : GoodIn wsX3_of wsX3_isPiano := goodIn_r _ [5, 6, 7, 4, 8, 9, 10, 11, 12, 13, 14, 15, 16, 25, 26, 27, 28, 29, 30, 31, 32, 33, 34, 35, 36, 37] (by decide +kernel) (by decide +kernel)
set_option maxRecDepth 20000 in
theorem gX3_of_X3_isPiano : GoodIn wsX3_of (wsV RX3 48 RX3 yX3_isPiano wsX3_isPiano) := goodIn_app (goodIn_of _ (by decide +kernel)) ggX3_of_X3_isPiano
set_option maxRecDepth 20000 in
theorem ggX3_of_X3_keepersAt : GoodIn wsX3_of wsX3_keepersAt := goodIn_r _ [20, 16, 21, 22, 23, 4, 24, 25, 26, 27, 28, 29, 30, 31, 32, 33, 34, 35, 36, 37] (by decide +kernel) (by decide +kernel)
set_option maxRecDepth 20000 in
theorem gX3_of_X3_keepersAt : GoodIn wsX3_of (wsV RX3 95 RX3 yX3_keepersAt wsX3_keepersAt) := goodIn_app (goodIn_of _ (by decide +kernel)) ggX3_of_X3_keepersAt
set_option maxRecDepth 20000 in
theorem ggX3_of_X3_within : GoodIn wsX3_of wsX3_within := goodIn_r _ [11] (by decide +kernel) (by decide +kernel)
set_option maxRecDepth 20000 in
theorem gX3_of_X3_within : GoodIn wsX3_of (va_wsS RX3 36 yX3_within wsX3_within) := goodIn_app (goodIn_of _ (by decide +kernel)) ggX3_of_X3_within
set_option maxRecDepth 20000 in
theorem ggX3_of_X3_pianoPart : GoodIn wsX3_of wsX3_pianoPart := goodIn_r _ [15, 16, 25, 26, 27, 28, 29, 30, 31, 32, 33, 34, 35, 36, 37] (by decide +kernel) (by decide +kernel)
set_option maxRecDepth 20000 in
theorem gX3_of_X3_pianoPart : GoodIn wsX3_of (wsV RX3 44 RX3 yX3_pianoPart wsX3_pianoPart) := goodIn_app (goodIn_of _ (by decide +kernel)) ggX3_of_X3_pianoPart
theorem dX3_of_0 : decode cX3_of 0 = .ok (.aload_n 0, 1) := by decide +kernel
theorem dX3_of_1 : decode cX3_of 1 = .ok (.iload_n 1, 1) := by decide +kernel
theorem dX3_of_2 : decode cX3_of 2 = .ok (.invokevirtual 48, 3) := by decide +kernel
theorem dX3_of_5 : decode cX3_of 5 = .ok (.ifCond .ne 5, 3) := by decide +kernel
theorem dX3_of_8 : decode cX3_of 8 = .ok (.iconst (-1), 1) := by decide +kernel
theorem dX3_of_9 : decode cX3_of 9 = .ok (.ireturn, 1) := by decide +kernel
theorem dX3_of_10 : decode cX3_of 10 = .ok (.iload_n 2, 1) := by decide +kernel
theorem dX3_of_11 : decode cX3_of 11 = .ok (.iconst 5, 1) := by decide +kernel
theorem dX3_of_12 : decode cX3_of 12 = .ok (.if_icmp .ne 9, 3) := by decide +kernel
theorem dX3_of_15 : decode cX3_of 15 = .ok (.aload_n 0, 1) := by decide +kernel
theorem dX3_of_16 : decode cX3_of 16 = .ok (.iload_n 1, 1) := by decide +kernel
theorem dX3_of_17 : decode cX3_of 17 = .ok (.invokevirtual 95, 3) := by decide +kernel
theorem dX3_of_20 : decode cX3_of 20 = .ok (.ireturn, 1) := by decide +kernel
theorem dX3_of_21 : decode cX3_of 21 = .ok (.iload_n 2, 1) := by decide +kernel
theorem dX3_of_22 : decode cX3_of 22 = .ok (.iconst 0, 1) := by decide +kernel
theorem dX3_of_23 : decode cX3_of 23 = .ok (.iconst 4, 1) := by decide +kernel
theorem dX3_of_24 : decode cX3_of 24 = .ok (.invokestatic 36, 3) := by decide +kernel
theorem dX3_of_27 : decode cX3_of 27 = .ok (.ifCond .ne 8, 3) := by decide +kernel
theorem dX3_of_30 : decode cX3_of 30 = .ok (.bipush (-2), 2) := by decide +kernel
theorem dX3_of_32 : decode cX3_of 32 = .ok (.goto 11, 3) := by decide +kernel
theorem dX3_of_35 : decode cX3_of 35 = .ok (.aload_n 0, 1) := by decide +kernel
theorem dX3_of_36 : decode cX3_of 36 = .ok (.iload_n 1, 1) := by decide +kernel
theorem dX3_of_37 : decode cX3_of 37 = .ok (.iload_n 2, 1) := by decide +kernel
theorem dX3_of_38 : decode cX3_of 38 = .ok (.iconst 1, 1) := by decide +kernel
theorem dX3_of_39 : decode cX3_of 39 = .ok (.iadd, 1) := by decide +kernel
theorem dX3_of_40 : decode cX3_of 40 = .ok (.invokevirtual 44, 3) := by decide +kernel
theorem dX3_of_43 : decode cX3_of 43 = .ok (.ireturn, 1) := by decide +kernel
set_option maxRecDepth 20000 in
theorem ggX3_ofKeeper_X3_within : GoodIn wsX3_ofKeeper wsX3_within := goodIn_r _ [5] (by decide +kernel) (by decide +kernel)
set_option maxRecDepth 20000 in
theorem gX3_ofKeeper_X3_within : GoodIn wsX3_ofKeeper (va_wsS RX3 36 yX3_within wsX3_within) := goodIn_app (goodIn_of _ (by decide +kernel)) ggX3_ofKeeper_X3_within
set_option maxRecDepth 20000 in
theorem ggX3_ofKeeper_X3_keeperPart : GoodIn wsX3_ofKeeper wsX3_keeperPart := goodIn_r _ [9, 1, 10, 11, 12, 13, 14, 15, 16, 17, 18, 19, 20, 21, 22] (by decide +kernel) (by decide +kernel)
set_option maxRecDepth 20000 in
theorem gX3_ofKeeper_X3_keeperPart : GoodIn wsX3_ofKeeper (wsV RX3 54 RX3 yX3_keeperPart wsX3_keeperPart) := goodIn_app (goodIn_of _ (by decide +kernel)) ggX3_ofKeeper_X3_keeperPart
theorem dX3_ofKeeper_0 : decode cX3_ofKeeper 0 = .ok (.iload_n 1, 1) := by decide +kernel
theorem dX3_ofKeeper_1 : decode cX3_ofKeeper 1 = .ok (.iconst 0, 1) := by decide +kernel
theorem dX3_ofKeeper_2 : decode cX3_ofKeeper 2 = .ok (.aload_n 0, 1) := by decide +kernel
theorem dX3_ofKeeper_3 : decode cX3_ofKeeper 3 = .ok (.getfield 7, 3) := by decide +kernel
theorem dX3_ofKeeper_6 : decode cX3_ofKeeper 6 = .ok (.bipush 11, 2) := by decide +kernel
theorem dX3_ofKeeper_8 : decode cX3_ofKeeper 8 = .ok (.iaload, 1) := by decide +kernel
theorem dX3_ofKeeper_9 : decode cX3_ofKeeper 9 = .ok (.iconst 1, 1) := by decide +kernel
theorem dX3_ofKeeper_10 : decode cX3_ofKeeper 10 = .ok (.isub, 1) := by decide +kernel
theorem dX3_ofKeeper_11 : decode cX3_ofKeeper 11 = .ok (.invokestatic 36, 3) := by decide +kernel
theorem dX3_ofKeeper_14 : decode cX3_ofKeeper 14 = .ok (.ifCond .ne 5, 3) := by decide +kernel
theorem dX3_ofKeeper_17 : decode cX3_ofKeeper 17 = .ok (.iconst (-1), 1) := by decide +kernel
theorem dX3_ofKeeper_18 : decode cX3_ofKeeper 18 = .ok (.ireturn, 1) := by decide +kernel
theorem dX3_ofKeeper_19 : decode cX3_ofKeeper 19 = .ok (.iload_n 2, 1) := by decide +kernel
theorem dX3_ofKeeper_20 : decode cX3_ofKeeper 20 = .ok (.iconst 0, 1) := by decide +kernel
theorem dX3_ofKeeper_21 : decode cX3_ofKeeper 21 = .ok (.iconst 4, 1) := by decide +kernel
theorem dX3_ofKeeper_22 : decode cX3_ofKeeper 22 = .ok (.invokestatic 36, 3) := by decide +kernel
theorem dX3_ofKeeper_25 : decode cX3_ofKeeper 25 = .ok (.ifCond .eq 12, 3) := by decide +kernel
theorem dX3_ofKeeper_28 : decode cX3_ofKeeper 28 = .ok (.aload_n 0, 1) := by decide +kernel
theorem dX3_ofKeeper_29 : decode cX3_ofKeeper 29 = .ok (.iload_n 1, 1) := by decide +kernel
theorem dX3_ofKeeper_30 : decode cX3_ofKeeper 30 = .ok (.iload_n 2, 1) := by decide +kernel
theorem dX3_ofKeeper_31 : decode cX3_ofKeeper 31 = .ok (.invokevirtual 54, 3) := by decide +kernel
theorem dX3_ofKeeper_34 : decode cX3_ofKeeper 34 = .ok (.goto 5, 3) := by decide +kernel
theorem dX3_ofKeeper_37 : decode cX3_ofKeeper 37 = .ok (.bipush (-2), 2) := by decide +kernel
theorem dX3_ofKeeper_39 : decode cX3_ofKeeper 39 = .ok (.ireturn, 1) := by decide +kernel
set_option maxRecDepth 20000 in
theorem ggX3_pianosWith_X3_isPiano : GoodIn wsX3_pianosWith wsX3_isPiano := goodIn_r _ [5, 6, 7, 4, 8, 9, 10, 11, 12, 13, 14, 15, 16, 17, 18, 19, 20, 21, 22, 23, 24, 25, 26, 27, 28, 29] (by decide +kernel) (by decide +kernel)
set_option maxRecDepth 20000 in
theorem gX3_pianosWith_X3_isPiano : GoodIn wsX3_pianosWith (wsV RX3 48 RX3 yX3_isPiano wsX3_isPiano) := goodIn_app (goodIn_of _ (by decide +kernel)) ggX3_pianosWith_X3_isPiano
set_option maxRecDepth 20000 in
theorem ggX3_pianosWith_X3_pianoPart : GoodIn wsX3_pianosWith wsX3_pianoPart := goodIn_r _ [15, 16, 17, 18, 19, 20, 21, 22, 23, 24, 25, 26, 27, 28, 29] (by decide +kernel) (by decide +kernel)
set_option maxRecDepth 20000 in
theorem gX3_pianosWith_X3_pianoPart : GoodIn wsX3_pianosWith (wsV RX3 44 RX3 yX3_pianoPart wsX3_pianoPart) := goodIn_app (goodIn_of _ (by decide +kernel)) ggX3_pianosWith_X3_pianoPart
theorem dX3_pianosWith_0 : decode cX3_pianosWith 0 = .ok (.iconst 0, 1) := by decide +kernel
theorem dX3_pianosWith_1 : decode cX3_pianosWith 1 = .ok (.istore_n 2, 1) := by decide +kernel
theorem dX3_pianosWith_2 : decode cX3_pianosWith 2 = .ok (.iconst 0, 1) := by decide +kernel
theorem dX3_pianosWith_3 : decode cX3_pianosWith 3 = .ok (.istore_n 3, 1) := by decide +kernel
theorem dX3_pianosWith_4 : decode cX3_pianosWith 4 = .ok (.iload_n 3, 1) := by decide +kernel
theorem dX3_pianosWith_5 : decode cX3_pianosWith 5 = .ok (.bipush 12, 2) := by decide +kernel
theorem dX3_pianosWith_7 : decode cX3_pianosWith 7 = .ok (.if_icmp .ge 41, 3) := by decide +kernel
theorem dX3_pianosWith_10 : decode cX3_pianosWith 10 = .ok (.iload_n 2, 1) := by decide +kernel
theorem dX3_pianosWith_11 : decode cX3_pianosWith 11 = .ok (.aload_n 0, 1) := by decide +kernel
theorem dX3_pianosWith_12 : decode cX3_pianosWith 12 = .ok (.iload_n 3, 1) := by decide +kernel
theorem dX3_pianosWith_13 : decode cX3_pianosWith 13 = .ok (.invokevirtual 48, 3) := by decide +kernel
theorem dX3_pianosWith_16 : decode cX3_pianosWith 16 = .ok (.ifCond .eq 23, 3) := by decide +kernel
theorem dX3_pianosWith_19 : decode cX3_pianosWith 19 = .ok (.iload_n 1, 1) := by decide +kernel
theorem dX3_pianosWith_20 : decode cX3_pianosWith 20 = .ok (.ifCond .eq 13, 3) := by decide +kernel
theorem dX3_pianosWith_23 : decode cX3_pianosWith 23 = .ok (.aload_n 0, 1) := by decide +kernel
theorem dX3_pianosWith_24 : decode cX3_pianosWith 24 = .ok (.iload_n 3, 1) := by decide +kernel
theorem dX3_pianosWith_25 : decode cX3_pianosWith 25 = .ok (.iconst 3, 1) := by decide +kernel
theorem dX3_pianosWith_26 : decode cX3_pianosWith 26 = .ok (.invokevirtual 44, 3) := by decide +kernel
theorem dX3_pianosWith_29 : decode cX3_pianosWith 29 = .ok (.iload_n 1, 1) := by decide +kernel
theorem dX3_pianosWith_30 : decode cX3_pianosWith 30 = .ok (.if_icmp .ne 9, 3) := by decide +kernel
theorem dX3_pianosWith_33 : decode cX3_pianosWith 33 = .ok (.iconst 1, 1) := by decide +kernel
theorem dX3_pianosWith_34 : decode cX3_pianosWith 34 = .ok (.iload_n 3, 1) := by decide +kernel
theorem dX3_pianosWith_35 : decode cX3_pianosWith 35 = .ok (.ishl, 1) := by decide +kernel
theorem dX3_pianosWith_36 : decode cX3_pianosWith 36 = .ok (.goto 4, 3) := by decide +kernel
theorem dX3_pianosWith_39 : decode cX3_pianosWith 39 = .ok (.iconst 0, 1) := by decide +kernel
theorem dX3_pianosWith_40 : decode cX3_pianosWith 40 = .ok (.ior, 1) := by decide +kernel
theorem dX3_pianosWith_41 : decode cX3_pianosWith 41 = .ok (.istore_n 2, 1) := by decide +kernel
theorem dX3_pianosWith_42 : decode cX3_pianosWith 42 = .ok (.iinc 3 1, 3) := by decide +kernel
theorem dX3_pianosWith_45 : decode cX3_pianosWith 45 = .ok (.goto (-41), 3) := by decide +kernel
theorem dX3_pianosWith_48 : decode cX3_pianosWith 48 = .ok (.iload_n 2, 1) := by decide +kernel
theorem dX3_pianosWith_49 : decode cX3_pianosWith 49 = .ok (.ireturn, 1) := by decide +kernel
set_option maxRecDepth 20000 in
theorem ggX3_count_X3_within : GoodIn wsX3_count wsX3_within := goodIn_r _ [7] (by decide +kernel) (by decide +kernel)
set_option maxRecDepth 20000 in
theorem gX3_count_X3_within : GoodIn wsX3_count (va_wsS RX3 36 yX3_within wsX3_within) := goodIn_app (goodIn_of _ (by decide +kernel)) ggX3_count_X3_within
set_option maxRecDepth 20000 in
theorem ggX3_count_X3_pianosWith : GoodIn wsX3_count wsX3_pianosWith := goodIn_r _ [11, 12, 13, 14, 6, 15, 16, 17, 18, 4, 5, 7, 19, 20, 21, 22, 1, 31, 32, 33, 34, 35, 36, 37, 38, 39, 40, 41, 42, 43] (by decide +kernel) (by decide +kernel)
set_option maxRecDepth 20000 in
theorem gX3_count_X3_pianosWith : GoodIn wsX3_count (wsV RX3 150 RX3 yX3_pianosWith wsX3_pianosWith) := goodIn_app (goodIn_of _ (by decide +kernel)) ggX3_count_X3_pianosWith
set_option maxRecDepth 20000 in
theorem ggX3_count_X3_isRainAhead : GoodIn wsX3_count wsX3_isRainAhead := goodIn_r _ [26, 1, 27, 28, 29, 6, 30, 31, 32, 33, 34, 35, 36, 37, 38, 39, 40, 41, 42, 43] (by decide +kernel) (by decide +kernel)
set_option maxRecDepth 20000 in
theorem gX3_count_X3_isRainAhead : GoodIn wsX3_count (wsV RX3 87 RX3 yX3_isRainAhead wsX3_isRainAhead) := goodIn_app (goodIn_of _ (by decide +kernel)) ggX3_count_X3_isRainAhead
set_option maxRecDepth 20000 in
theorem ggX3_count_X3_rainsIn : GoodIn wsX3_count wsX3_rainsIn := goodIn_r _ [30, 1, 31, 32, 33, 34, 35, 36, 37, 38, 39, 40, 41, 42, 43] (by decide +kernel) (by decide +kernel)
set_option maxRecDepth 20000 in
theorem gX3_count_X3_rainsIn : GoodIn wsX3_count (wsV RX3 51 RX3 yX3_rainsIn wsX3_rainsIn) := goodIn_app (goodIn_of _ (by decide +kernel)) ggX3_count_X3_rainsIn
theorem dX3_count_0 : decode cX3_count 0 = .ok (.iload_n 1, 1) := by decide +kernel
theorem dX3_count_1 : decode cX3_count 1 = .ok (.bipush 10, 2) := by decide +kernel
theorem dX3_count_3 : decode cX3_count 3 = .ok (.bipush 16, 2) := by decide +kernel
theorem dX3_count_5 : decode cX3_count 5 = .ok (.invokestatic 36, 3) := by decide +kernel
theorem dX3_count_8 : decode cX3_count 8 = .ok (.ifCond .eq 13, 3) := by decide +kernel
theorem dX3_count_11 : decode cX3_count 11 = .ok (.aload_n 0, 1) := by decide +kernel
theorem dX3_count_12 : decode cX3_count 12 = .ok (.getfield 7, 3) := by decide +kernel
theorem dX3_count_15 : decode cX3_count 15 = .ok (.iload_n 1, 1) := by decide +kernel
theorem dX3_count_16 : decode cX3_count 16 = .ok (.bipush 10, 2) := by decide +kernel
theorem dX3_count_18 : decode cX3_count 18 = .ok (.isub, 1) := by decide +kernel
theorem dX3_count_19 : decode cX3_count 19 = .ok (.iaload, 1) := by decide +kernel
theorem dX3_count_20 : decode cX3_count 20 = .ok (.ireturn, 1) := by decide +kernel
theorem dX3_count_21 : decode cX3_count 21 = .ok (.iload_n 1, 1) := by decide +kernel
theorem dX3_count_22 : decode cX3_count 22 = .ok (.tableswitch 185 0 18 #[90, 98, 104, 110, 116, 124, 132, 140, 148, 161, 185, 185, 185, 185, 185, 185, 185, 175, 180], 90) := by decide +kernel
theorem dX3_count_112 : decode cX3_count 112 = .ok (.aload_n 0, 1) := by decide +kernel
theorem dX3_count_113 : decode cX3_count 113 = .ok (.getfield 7, 3) := by decide +kernel
theorem dX3_count_116 : decode cX3_count 116 = .ok (.bipush 7, 2) := by decide +kernel
theorem dX3_count_118 : decode cX3_count 118 = .ok (.iaload, 1) := by decide +kernel
theorem dX3_count_119 : decode cX3_count 119 = .ok (.ireturn, 1) := by decide +kernel
theorem dX3_count_120 : decode cX3_count 120 = .ok (.aload_n 0, 1) := by decide +kernel
theorem dX3_count_121 : decode cX3_count 121 = .ok (.iconst 0, 1) := by decide +kernel
theorem dX3_count_122 : decode cX3_count 122 = .ok (.invokevirtual 150, 3) := by decide +kernel
theorem dX3_count_125 : decode cX3_count 125 = .ok (.ireturn, 1) := by decide +kernel
theorem dX3_count_126 : decode cX3_count 126 = .ok (.aload_n 0, 1) := by decide +kernel
theorem dX3_count_127 : decode cX3_count 127 = .ok (.iconst 2, 1) := by decide +kernel
theorem dX3_count_128 : decode cX3_count 128 = .ok (.invokevirtual 150, 3) := by decide +kernel
theorem dX3_count_131 : decode cX3_count 131 = .ok (.ireturn, 1) := by decide +kernel
theorem dX3_count_132 : decode cX3_count 132 = .ok (.aload_n 0, 1) := by decide +kernel
theorem dX3_count_133 : decode cX3_count 133 = .ok (.iconst 1, 1) := by decide +kernel
theorem dX3_count_134 : decode cX3_count 134 = .ok (.invokevirtual 150, 3) := by decide +kernel
theorem dX3_count_137 : decode cX3_count 137 = .ok (.ireturn, 1) := by decide +kernel
theorem dX3_count_138 : decode cX3_count 138 = .ok (.aload_n 0, 1) := by decide +kernel
theorem dX3_count_139 : decode cX3_count 139 = .ok (.getfield 7, 3) := by decide +kernel
theorem dX3_count_142 : decode cX3_count 142 = .ok (.bipush 11, 2) := by decide +kernel
theorem dX3_count_144 : decode cX3_count 144 = .ok (.iaload, 1) := by decide +kernel
theorem dX3_count_145 : decode cX3_count 145 = .ok (.ireturn, 1) := by decide +kernel
theorem dX3_count_146 : decode cX3_count 146 = .ok (.aload_n 0, 1) := by decide +kernel
theorem dX3_count_147 : decode cX3_count 147 = .ok (.getfield 7, 3) := by decide +kernel
theorem dX3_count_150 : decode cX3_count 150 = .ok (.bipush 9, 2) := by decide +kernel
theorem dX3_count_152 : decode cX3_count 152 = .ok (.iaload, 1) := by decide +kernel
theorem dX3_count_153 : decode cX3_count 153 = .ok (.ireturn, 1) := by decide +kernel
theorem dX3_count_154 : decode cX3_count 154 = .ok (.aload_n 0, 1) := by decide +kernel
theorem dX3_count_155 : decode cX3_count 155 = .ok (.getfield 7, 3) := by decide +kernel
theorem dX3_count_158 : decode cX3_count 158 = .ok (.bipush 10, 2) := by decide +kernel
theorem dX3_count_160 : decode cX3_count 160 = .ok (.iaload, 1) := by decide +kernel
theorem dX3_count_161 : decode cX3_count 161 = .ok (.ireturn, 1) := by decide +kernel
theorem dX3_count_162 : decode cX3_count 162 = .ok (.aload_n 0, 1) := by decide +kernel
theorem dX3_count_163 : decode cX3_count 163 = .ok (.getfield 7, 3) := by decide +kernel
theorem dX3_count_166 : decode cX3_count 166 = .ok (.bipush 8, 2) := by decide +kernel
theorem dX3_count_168 : decode cX3_count 168 = .ok (.iaload, 1) := by decide +kernel
theorem dX3_count_169 : decode cX3_count 169 = .ok (.ireturn, 1) := by decide +kernel
theorem dX3_count_170 : decode cX3_count 170 = .ok (.aload_n 0, 1) := by decide +kernel
theorem dX3_count_171 : decode cX3_count 171 = .ok (.invokevirtual 87, 3) := by decide +kernel
theorem dX3_count_174 : decode cX3_count 174 = .ok (.ifCond .eq 7, 3) := by decide +kernel
theorem dX3_count_177 : decode cX3_count 177 = .ok (.iconst 1, 1) := by decide +kernel
theorem dX3_count_178 : decode cX3_count 178 = .ok (.goto 4, 3) := by decide +kernel
theorem dX3_count_181 : decode cX3_count 181 = .ok (.iconst 0, 1) := by decide +kernel
theorem dX3_count_182 : decode cX3_count 182 = .ok (.ireturn, 1) := by decide +kernel
theorem dX3_count_183 : decode cX3_count 183 = .ok (.aload_n 0, 1) := by decide +kernel
theorem dX3_count_184 : decode cX3_count 184 = .ok (.iconst 0, 1) := by decide +kernel
theorem dX3_count_185 : decode cX3_count 185 = .ok (.invokevirtual 51, 3) := by decide +kernel
theorem dX3_count_188 : decode cX3_count 188 = .ok (.ifCond .eq 7, 3) := by decide +kernel
theorem dX3_count_191 : decode cX3_count 191 = .ok (.iconst 1, 1) := by decide +kernel
theorem dX3_count_192 : decode cX3_count 192 = .ok (.goto 4, 3) := by decide +kernel
theorem dX3_count_195 : decode cX3_count 195 = .ok (.iconst 0, 1) := by decide +kernel
theorem dX3_count_196 : decode cX3_count 196 = .ok (.ireturn, 1) := by decide +kernel
theorem dX3_count_197 : decode cX3_count 197 = .ok (.aload_n 0, 1) := by decide +kernel
theorem dX3_count_198 : decode cX3_count 198 = .ok (.getfield 153, 3) := by decide +kernel
theorem dX3_count_201 : decode cX3_count 201 = .ok (.ireturn, 1) := by decide +kernel
theorem dX3_count_202 : decode cX3_count 202 = .ok (.aload_n 0, 1) := by decide +kernel
theorem dX3_count_203 : decode cX3_count 203 = .ok (.getfield 28, 3) := by decide +kernel
theorem dX3_count_206 : decode cX3_count 206 = .ok (.ireturn, 1) := by decide +kernel
theorem dX3_count_207 : decode cX3_count 207 = .ok (.bipush (-2), 2) := by decide +kernel
theorem dX3_count_209 : decode cX3_count 209 = .ok (.ireturn, 1) := by decide +kernel
set_option maxRecDepth 20000 in
theorem ggX3_worth_X3_pianoPart : GoodIn wsX3_worth wsX3_pianoPart := goodIn_r _ [5, 6, 7, 8, 9, 10, 11, 12, 13, 14, 15, 16, 17, 18, 19] (by decide +kernel) (by decide +kernel)
set_option maxRecDepth 20000 in
theorem gX3_worth_X3_pianoPart : GoodIn wsX3_worth (wsV RX3 44 RX3 yX3_pianoPart wsX3_pianoPart) := goodIn_app (goodIn_of _ (by decide +kernel)) ggX3_worth_X3_pianoPart
theorem dX3_worth_0 : decode cX3_worth 0 = .ok (.aload_n 0, 1) := by decide +kernel
theorem dX3_worth_1 : decode cX3_worth 1 = .ok (.iload_n 1, 1) := by decide +kernel
theorem dX3_worth_2 : decode cX3_worth 2 = .ok (.iconst 1, 1) := by decide +kernel
theorem dX3_worth_3 : decode cX3_worth 3 = .ok (.invokevirtual 44, 3) := by decide +kernel
theorem dX3_worth_6 : decode cX3_worth 6 = .ok (.aload_n 0, 1) := by decide +kernel
theorem dX3_worth_7 : decode cX3_worth 7 = .ok (.iload_n 1, 1) := by decide +kernel
theorem dX3_worth_8 : decode cX3_worth 8 = .ok (.iconst 2, 1) := by decide +kernel
theorem dX3_worth_9 : decode cX3_worth 9 = .ok (.invokevirtual 44, 3) := by decide +kernel
theorem dX3_worth_12 : decode cX3_worth 12 = .ok (.isub, 1) := by decide +kernel
theorem dX3_worth_13 : decode cX3_worth 13 = .ok (.ireturn, 1) := by decide +kernel
set_option maxRecDepth 20000 in
theorem ggX3_worst_X3_isPiano : GoodIn wsX3_worst wsX3_isPiano := goodIn_r _ [5, 6, 7, 4, 8, 9, 10, 11, 12, 13, 14, 15, 16, 21, 22, 23, 24, 25, 26, 27, 28, 29, 30, 31, 32, 33] (by decide +kernel) (by decide +kernel)
set_option maxRecDepth 20000 in
theorem gX3_worst_X3_isPiano : GoodIn wsX3_worst (wsV RX3 48 RX3 yX3_isPiano wsX3_isPiano) := goodIn_app (goodIn_of _ (by decide +kernel)) ggX3_worst_X3_isPiano
set_option maxRecDepth 20000 in
theorem ggX3_worst_X3_worth : GoodIn wsX3_worst wsX3_worth := goodIn_r _ [20, 12, 13, 14, 4, 15, 16, 21, 22, 23, 24, 25, 26, 27, 28, 29, 30, 31, 32, 33] (by decide +kernel) (by decide +kernel)
set_option maxRecDepth 20000 in
theorem gX3_worst_X3_worth : GoodIn wsX3_worst (wsV RX3 156 RX3 yX3_worth wsX3_worth) := goodIn_app (goodIn_of _ (by decide +kernel)) ggX3_worst_X3_worth
theorem dX3_worst_0 : decode cX3_worst 0 = .ok (.bipush (-6), 2) := by decide +kernel
theorem dX3_worst_2 : decode cX3_worst 2 = .ok (.istore_n 1, 1) := by decide +kernel
theorem dX3_worst_3 : decode cX3_worst 3 = .ok (.iconst 0, 1) := by decide +kernel
theorem dX3_worst_4 : decode cX3_worst 4 = .ok (.istore_n 2, 1) := by decide +kernel
theorem dX3_worst_5 : decode cX3_worst 5 = .ok (.iload_n 2, 1) := by decide +kernel
theorem dX3_worst_6 : decode cX3_worst 6 = .ok (.bipush 12, 2) := by decide +kernel
theorem dX3_worst_8 : decode cX3_worst 8 = .ok (.if_icmp .ge 42, 3) := by decide +kernel
theorem dX3_worst_11 : decode cX3_worst 11 = .ok (.aload_n 0, 1) := by decide +kernel
theorem dX3_worst_12 : decode cX3_worst 12 = .ok (.iload_n 2, 1) := by decide +kernel
theorem dX3_worst_13 : decode cX3_worst 13 = .ok (.invokevirtual 48, 3) := by decide +kernel
theorem dX3_worst_16 : decode cX3_worst 16 = .ok (.ifCond .eq 26, 3) := by decide +kernel
theorem dX3_worst_19 : decode cX3_worst 19 = .ok (.iload_n 1, 1) := by decide +kernel
theorem dX3_worst_20 : decode cX3_worst 20 = .ok (.bipush (-6), 2) := by decide +kernel
theorem dX3_worst_22 : decode cX3_worst 22 = .ok (.if_icmp .eq 16, 3) := by decide +kernel
theorem dX3_worst_25 : decode cX3_worst 25 = .ok (.aload_n 0, 1) := by decide +kernel
theorem dX3_worst_26 : decode cX3_worst 26 = .ok (.iload_n 2, 1) := by decide +kernel
theorem dX3_worst_27 : decode cX3_worst 27 = .ok (.invokevirtual 156, 3) := by decide +kernel
theorem dX3_worst_30 : decode cX3_worst 30 = .ok (.aload_n 0, 1) := by decide +kernel
theorem dX3_worst_31 : decode cX3_worst 31 = .ok (.iload_n 1, 1) := by decide +kernel
theorem dX3_worst_32 : decode cX3_worst 32 = .ok (.invokevirtual 156, 3) := by decide +kernel
theorem dX3_worst_35 : decode cX3_worst 35 = .ok (.if_icmp .ge 7, 3) := by decide +kernel
theorem dX3_worst_38 : decode cX3_worst 38 = .ok (.iload_n 2, 1) := by decide +kernel
theorem dX3_worst_39 : decode cX3_worst 39 = .ok (.goto 4, 3) := by decide +kernel
theorem dX3_worst_42 : decode cX3_worst 42 = .ok (.iload_n 1, 1) := by decide +kernel
theorem dX3_worst_43 : decode cX3_worst 43 = .ok (.istore_n 1, 1) := by decide +kernel
theorem dX3_worst_44 : decode cX3_worst 44 = .ok (.iinc 2 1, 3) := by decide +kernel
theorem dX3_worst_47 : decode cX3_worst 47 = .ok (.goto (-42), 3) := by decide +kernel
theorem dX3_worst_50 : decode cX3_worst 50 = .ok (.iload_n 1, 1) := by decide +kernel
theorem dX3_worst_51 : decode cX3_worst 51 = .ok (.ireturn, 1) := by decide +kernel
set_option maxRecDepth 20000 in
theorem ggX3_why_X3_isPiano : GoodIn wsX3_why wsX3_isPiano := goodIn_r _ [6, 7, 8, 5, 9, 10, 11, 12, 13, 14, 15, 16, 1, 33, 34, 35, 36, 37, 38, 39, 40, 41, 42, 43, 44, 45] (by decide +kernel) (by decide +kernel)
set_option maxRecDepth 20000 in
theorem gX3_why_X3_isPiano : GoodIn wsX3_why (wsV RX3 48 RX3 yX3_isPiano wsX3_isPiano) := goodIn_app (goodIn_of _ (by decide +kernel)) ggX3_why_X3_isPiano
set_option maxRecDepth 20000 in
theorem ggX3_why_X3_pianoPart : GoodIn wsX3_why wsX3_pianoPart := goodIn_r _ [16, 1, 33, 34, 35, 36, 37, 38, 39, 40, 41, 42, 43, 44, 45] (by decide +kernel) (by decide +kernel)
set_option maxRecDepth 20000 in
theorem gX3_why_X3_pianoPart : GoodIn wsX3_why (wsV RX3 44 RX3 yX3_pianoPart wsX3_pianoPart) := goodIn_app (goodIn_of _ (by decide +kernel)) ggX3_why_X3_pianoPart
set_option maxRecDepth 20000 in
theorem ggX3_why_X3_isRainAhead : GoodIn wsX3_why wsX3_isRainAhead := goodIn_r _ [20, 1, 21, 22, 23, 5, 24, 33, 34, 35, 36, 37, 38, 39, 40, 41, 42, 43, 44, 45] (by decide +kernel) (by decide +kernel)
set_option maxRecDepth 20000 in
theorem gX3_why_X3_isRainAhead : GoodIn wsX3_why (wsV RX3 87 RX3 yX3_isRainAhead wsX3_isRainAhead) := goodIn_app (goodIn_of _ (by decide +kernel)) ggX3_why_X3_isRainAhead
set_option maxRecDepth 20000 in
theorem ggX3_why_X3_keepersAt : GoodIn wsX3_why wsX3_keepersAt := goodIn_r _ [28, 1, 29, 30, 31, 5, 32, 33, 34, 35, 36, 37, 38, 39, 40, 41, 42, 43, 44, 45] (by decide +kernel) (by decide +kernel)
set_option maxRecDepth 20000 in
theorem gX3_why_X3_keepersAt : GoodIn wsX3_why (wsV RX3 95 RX3 yX3_keepersAt wsX3_keepersAt) := goodIn_app (goodIn_of _ (by decide +kernel)) ggX3_why_X3_keepersAt
theorem dX3_why_0 : decode cX3_why 0 = .ok (.aload_n 0, 1) := by decide +kernel
theorem dX3_why_1 : decode cX3_why 1 = .ok (.iload_n 1, 1) := by decide +kernel
theorem dX3_why_2 : decode cX3_why 2 = .ok (.invokevirtual 48, 3) := by decide +kernel
theorem dX3_why_5 : decode cX3_why 5 = .ok (.ifCond .ne 5, 3) := by decide +kernel
theorem dX3_why_8 : decode cX3_why 8 = .ok (.iconst (-1), 1) := by decide +kernel
theorem dX3_why_9 : decode cX3_why 9 = .ok (.ireturn, 1) := by decide +kernel
theorem dX3_why_10 : decode cX3_why 10 = .ok (.aload_n 0, 1) := by decide +kernel
theorem dX3_why_11 : decode cX3_why 11 = .ok (.iload_n 1, 1) := by decide +kernel
theorem dX3_why_12 : decode cX3_why 12 = .ok (.iconst 3, 1) := by decide +kernel
theorem dX3_why_13 : decode cX3_why 13 = .ok (.invokevirtual 44, 3) := by decide +kernel
theorem dX3_why_16 : decode cX3_why 16 = .ok (.iconst 1, 1) := by decide +kernel
theorem dX3_why_17 : decode cX3_why 17 = .ok (.if_icmp .eq 19, 3) := by decide +kernel
theorem dX3_why_20 : decode cX3_why 20 = .ok (.aload_n 0, 1) := by decide +kernel
theorem dX3_why_21 : decode cX3_why 21 = .ok (.iload_n 1, 1) := by decide +kernel
theorem dX3_why_22 : decode cX3_why 22 = .ok (.iconst 3, 1) := by decide +kernel
theorem dX3_why_23 : decode cX3_why 23 = .ok (.invokevirtual 44, 3) := by decide +kernel
theorem dX3_why_26 : decode cX3_why 26 = .ok (.iconst 2, 1) := by decide +kernel
theorem dX3_why_27 : decode cX3_why 27 = .ok (.if_icmp .ne 7, 3) := by decide +kernel
theorem dX3_why_30 : decode cX3_why 30 = .ok (.iconst 0, 1) := by decide +kernel
theorem dX3_why_31 : decode cX3_why 31 = .ok (.goto 4, 3) := by decide +kernel
theorem dX3_why_34 : decode cX3_why 34 = .ok (.iconst 1, 1) := by decide +kernel
theorem dX3_why_35 : decode cX3_why 35 = .ok (.ireturn, 1) := by decide +kernel
theorem dX3_why_36 : decode cX3_why 36 = .ok (.aload_n 0, 1) := by decide +kernel
theorem dX3_why_37 : decode cX3_why 37 = .ok (.invokevirtual 87, 3) := by decide +kernel
theorem dX3_why_40 : decode cX3_why 40 = .ok (.ifCond .ne 5, 3) := by decide +kernel
theorem dX3_why_43 : decode cX3_why 43 = .ok (.iconst 2, 1) := by decide +kernel
theorem dX3_why_44 : decode cX3_why 44 = .ok (.ireturn, 1) := by decide +kernel
theorem dX3_why_45 : decode cX3_why 45 = .ok (.aload_n 0, 1) := by decide +kernel
theorem dX3_why_46 : decode cX3_why 46 = .ok (.getfield 7, 3) := by decide +kernel
theorem dX3_why_49 : decode cX3_why 49 = .ok (.bipush 11, 2) := by decide +kernel
theorem dX3_why_51 : decode cX3_why 51 = .ok (.iaload, 1) := by decide +kernel
theorem dX3_why_52 : decode cX3_why 52 = .ok (.ifCond .ne 7, 3) := by decide +kernel
theorem dX3_why_55 : decode cX3_why 55 = .ok (.iconst 3, 1) := by decide +kernel
theorem dX3_why_56 : decode cX3_why 56 = .ok (.goto 16, 3) := by decide +kernel
theorem dX3_why_59 : decode cX3_why 59 = .ok (.aload_n 0, 1) := by decide +kernel
theorem dX3_why_60 : decode cX3_why 60 = .ok (.iload_n 1, 1) := by decide +kernel
theorem dX3_why_61 : decode cX3_why 61 = .ok (.invokevirtual 95, 3) := by decide +kernel
theorem dX3_why_64 : decode cX3_why 64 = .ok (.ifCond .ne 7, 3) := by decide +kernel
theorem dX3_why_67 : decode cX3_why 67 = .ok (.iconst 4, 1) := by decide +kernel
theorem dX3_why_68 : decode cX3_why 68 = .ok (.goto 4, 3) := by decide +kernel
theorem dX3_why_71 : decode cX3_why 71 = .ok (.iconst 5, 1) := by decide +kernel
theorem dX3_why_72 : decode cX3_why 72 = .ok (.ireturn, 1) := by decide +kernel
set_option maxRecDepth 20000 in
theorem ggX3_rainIn_X3_rainsIn : GoodIn wsX3_rainIn wsX3_rainsIn := goodIn_r _ [5, 6, 7, 8, 9, 10, 11, 12, 13, 14, 15, 16, 17, 18, 19] (by decide +kernel) (by decide +kernel)
set_option maxRecDepth 20000 in
theorem gX3_rainIn_X3_rainsIn : GoodIn wsX3_rainIn (wsV RX3 51 RX3 yX3_rainsIn wsX3_rainsIn) := goodIn_app (goodIn_of _ (by decide +kernel)) ggX3_rainIn_X3_rainsIn
theorem dX3_rainIn_0 : decode cX3_rainIn 0 = .ok (.bipush (-6), 2) := by decide +kernel
theorem dX3_rainIn_2 : decode cX3_rainIn 2 = .ok (.istore_n 1, 1) := by decide +kernel
theorem dX3_rainIn_3 : decode cX3_rainIn 3 = .ok (.bipush 23, 2) := by decide +kernel
theorem dX3_rainIn_5 : decode cX3_rainIn 5 = .ok (.istore_n 2, 1) := by decide +kernel
theorem dX3_rainIn_6 : decode cX3_rainIn 6 = .ok (.iload_n 2, 1) := by decide +kernel
theorem dX3_rainIn_7 : decode cX3_rainIn 7 = .ok (.ifCond .lt 23, 3) := by decide +kernel
theorem dX3_rainIn_10 : decode cX3_rainIn 10 = .ok (.aload_n 0, 1) := by decide +kernel
theorem dX3_rainIn_11 : decode cX3_rainIn 11 = .ok (.iload_n 2, 1) := by decide +kernel
theorem dX3_rainIn_12 : decode cX3_rainIn 12 = .ok (.invokevirtual 51, 3) := by decide +kernel
theorem dX3_rainIn_15 : decode cX3_rainIn 15 = .ok (.ifCond .eq 7, 3) := by decide +kernel
theorem dX3_rainIn_18 : decode cX3_rainIn 18 = .ok (.iload_n 2, 1) := by decide +kernel
theorem dX3_rainIn_19 : decode cX3_rainIn 19 = .ok (.goto 4, 3) := by decide +kernel
theorem dX3_rainIn_22 : decode cX3_rainIn 22 = .ok (.iload_n 1, 1) := by decide +kernel
theorem dX3_rainIn_23 : decode cX3_rainIn 23 = .ok (.istore_n 1, 1) := by decide +kernel
theorem dX3_rainIn_24 : decode cX3_rainIn 24 = .ok (.iinc 2 (-1), 3) := by decide +kernel
theorem dX3_rainIn_27 : decode cX3_rainIn 27 = .ok (.goto (-21), 3) := by decide +kernel
theorem dX3_rainIn_30 : decode cX3_rainIn 30 = .ok (.iload_n 1, 1) := by decide +kernel
theorem dX3_rainIn_31 : decode cX3_rainIn 31 = .ok (.ireturn, 1) := by decide +kernel
set_option maxRecDepth 20000 in
theorem ggX3_coveredIn_X3_isPiano : GoodIn wsX3_coveredIn wsX3_isPiano := goodIn_r _ [7, 8, 9, 6, 10, 11, 12, 13, 14, 15, 16, 17, 1, 92, 93, 94, 95, 96, 97, 98, 99, 100, 101, 102, 103, 104] (by decide +kernel) (by decide +kernel)
set_option maxRecDepth 20000 in
theorem gX3_coveredIn_X3_isPiano : GoodIn wsX3_coveredIn (wsV RX3 48 RX3 yX3_isPiano wsX3_isPiano) := goodIn_app (goodIn_of _ (by decide +kernel)) ggX3_coveredIn_X3_isPiano
set_option maxRecDepth 20000 in
theorem ggX3_coveredIn_X3_moves : GoodIn wsX3_coveredIn wsX3_moves := goodIn_r _ [20] (by decide +kernel) (by decide +kernel)
set_option maxRecDepth 20000 in
theorem gX3_coveredIn_X3_moves : GoodIn wsX3_coveredIn (va_wsS RX3 32 yX3_moves wsX3_moves) := goodIn_app (goodIn_of _ (by decide +kernel)) ggX3_coveredIn_X3_moves
set_option maxRecDepth 20000 in
theorem ggX3_coveredIn_X3_pianoPart : GoodIn wsX3_coveredIn wsX3_pianoPart := goodIn_r _ [17, 1, 92, 93, 94, 95, 96, 97, 98, 99, 100, 101, 102, 103, 104] (by decide +kernel) (by decide +kernel)
set_option maxRecDepth 20000 in
theorem gX3_coveredIn_X3_pianoPart : GoodIn wsX3_coveredIn (wsV RX3 44 RX3 yX3_pianoPart wsX3_pianoPart) := goodIn_app (goodIn_of _ (by decide +kernel)) ggX3_coveredIn_X3_pianoPart
set_option maxRecDepth 20000 in
theorem ggX3_coveredIn_X3_hour : GoodIn wsX3_coveredIn wsX3_hour := goodIn_r _ [24, 1, 25, 26, 27, 6, 28, 29, 30, 31, 32, 33, 34, 35, 36, 37, 38, 39, 40, 41, 42, 43, 44, 45, 46, 47, 48, 49, 3, 4, 5, 7, 8, 9, 10, 11, 12, 13, 14, 15, 16, 17, 50, 51, 52, 53, 54, 55, 56, 57, 58, 59, 60, 61, 62, 63, 64, 65, 66, 67, 68, 69, 70, 71, 72, 73, 74, 75, 76, 77, 78, 79, 80, 81, 82, 83, 84, 85, 86, 87, 88, 89, 90, 91, 92, 93, 94, 95, 96, 97, 98, 99, 100, 101, 102, 103, 104] (by decide +kernel) (by decide +kernel)
set_option maxRecDepth 20000 in
theorem gX3_coveredIn_X3_hour : GoodIn wsX3_coveredIn (wsV RX3 112 RX3 yX3_hour wsX3_hour) := goodIn_app (goodIn_of _ (by decide +kernel)) ggX3_coveredIn_X3_hour
theorem dX3_coveredIn_0 : decode cX3_coveredIn 0 = .ok (.aload_n 0, 1) := by decide +kernel
theorem dX3_coveredIn_1 : decode cX3_coveredIn 1 = .ok (.iload_n 1, 1) := by decide +kernel
theorem dX3_coveredIn_2 : decode cX3_coveredIn 2 = .ok (.invokevirtual 48, 3) := by decide +kernel
theorem dX3_coveredIn_5 : decode cX3_coveredIn 5 = .ok (.ifCond .ne 5, 3) := by decide +kernel
theorem dX3_coveredIn_8 : decode cX3_coveredIn 8 = .ok (.iconst (-1), 1) := by decide +kernel
theorem dX3_coveredIn_9 : decode cX3_coveredIn 9 = .ok (.ireturn, 1) := by decide +kernel
theorem dX3_coveredIn_10 : decode cX3_coveredIn 10 = .ok (.aload_n 0, 1) := by decide +kernel
theorem dX3_coveredIn_11 : decode cX3_coveredIn 11 = .ok (.getfield 7, 3) := by decide +kernel
theorem dX3_coveredIn_14 : decode cX3_coveredIn 14 = .ok (.iconst 0, 1) := by decide +kernel
theorem dX3_coveredIn_15 : decode cX3_coveredIn 15 = .ok (.aload_n 0, 1) := by decide +kernel
theorem dX3_coveredIn_16 : decode cX3_coveredIn 16 = .ok (.getfield 13, 3) := by decide +kernel
theorem dX3_coveredIn_19 : decode cX3_coveredIn 19 = .ok (.iconst 0, 1) := by decide +kernel
theorem dX3_coveredIn_20 : decode cX3_coveredIn 20 = .ok (.invokestatic 32, 3) := by decide +kernel
theorem dX3_coveredIn_23 : decode cX3_coveredIn 23 = .ok (.iconst 0, 1) := by decide +kernel
theorem dX3_coveredIn_24 : decode cX3_coveredIn 24 = .ok (.istore_n 2, 1) := by decide +kernel
theorem dX3_coveredIn_25 : decode cX3_coveredIn 25 = .ok (.aload_n 0, 1) := by decide +kernel
theorem dX3_coveredIn_26 : decode cX3_coveredIn 26 = .ok (.iload_n 1, 1) := by decide +kernel
theorem dX3_coveredIn_27 : decode cX3_coveredIn 27 = .ok (.iconst 3, 1) := by decide +kernel
theorem dX3_coveredIn_28 : decode cX3_coveredIn 28 = .ok (.invokevirtual 44, 3) := by decide +kernel
theorem dX3_coveredIn_31 : decode cX3_coveredIn 31 = .ok (.iconst 2, 1) := by decide +kernel
theorem dX3_coveredIn_32 : decode cX3_coveredIn 32 = .ok (.if_icmp .eq 19, 3) := by decide +kernel
theorem dX3_coveredIn_35 : decode cX3_coveredIn 35 = .ok (.iload_n 2, 1) := by decide +kernel
theorem dX3_coveredIn_36 : decode cX3_coveredIn 36 = .ok (.bipush 96, 2) := by decide +kernel
theorem dX3_coveredIn_38 : decode cX3_coveredIn 38 = .ok (.if_icmp .ge 13, 3) := by decide +kernel
theorem dX3_coveredIn_41 : decode cX3_coveredIn 41 = .ok (.aload_n 0, 1) := by decide +kernel
theorem dX3_coveredIn_42 : decode cX3_coveredIn 42 = .ok (.invokevirtual 112, 3) := by decide +kernel
theorem dX3_coveredIn_45 : decode cX3_coveredIn 45 = .ok (.iinc 2 1, 3) := by decide +kernel
theorem dX3_coveredIn_48 : decode cX3_coveredIn 48 = .ok (.goto (-23), 3) := by decide +kernel
theorem dX3_coveredIn_51 : decode cX3_coveredIn 51 = .ok (.aload_n 0, 1) := by decide +kernel
theorem dX3_coveredIn_52 : decode cX3_coveredIn 52 = .ok (.iload_n 1, 1) := by decide +kernel
theorem dX3_coveredIn_53 : decode cX3_coveredIn 53 = .ok (.iconst 3, 1) := by decide +kernel
theorem dX3_coveredIn_54 : decode cX3_coveredIn 54 = .ok (.invokevirtual 44, 3) := by decide +kernel
theorem dX3_coveredIn_57 : decode cX3_coveredIn 57 = .ok (.iconst 2, 1) := by decide +kernel
theorem dX3_coveredIn_58 : decode cX3_coveredIn 58 = .ok (.if_icmp .ne 7, 3) := by decide +kernel
theorem dX3_coveredIn_61 : decode cX3_coveredIn 61 = .ok (.iload_n 2, 1) := by decide +kernel
theorem dX3_coveredIn_62 : decode cX3_coveredIn 62 = .ok (.goto 5, 3) := by decide +kernel
theorem dX3_coveredIn_65 : decode cX3_coveredIn 65 = .ok (.bipush (-6), 2) := by decide +kernel
theorem dX3_coveredIn_67 : decode cX3_coveredIn 67 = .ok (.istore_n 3, 1) := by decide +kernel
theorem dX3_coveredIn_68 : decode cX3_coveredIn 68 = .ok (.aload_n 0, 1) := by decide +kernel
theorem dX3_coveredIn_69 : decode cX3_coveredIn 69 = .ok (.getfield 13, 3) := by decide +kernel
theorem dX3_coveredIn_72 : decode cX3_coveredIn 72 = .ok (.iconst 0, 1) := by decide +kernel
theorem dX3_coveredIn_73 : decode cX3_coveredIn 73 = .ok (.aload_n 0, 1) := by decide +kernel
theorem dX3_coveredIn_74 : decode cX3_coveredIn 74 = .ok (.getfield 7, 3) := by decide +kernel
theorem dX3_coveredIn_77 : decode cX3_coveredIn 77 = .ok (.iconst 0, 1) := by decide +kernel
theorem dX3_coveredIn_78 : decode cX3_coveredIn 78 = .ok (.invokestatic 32, 3) := by decide +kernel
theorem dX3_coveredIn_81 : decode cX3_coveredIn 81 = .ok (.iload_n 3, 1) := by decide +kernel
theorem dX3_coveredIn_82 : decode cX3_coveredIn 82 = .ok (.ireturn, 1) := by decide +kernel
set_option maxRecDepth 20000 in
theorem ggX3_willBeWet_X3_within : GoodIn wsX3_willBeWet wsX3_within := goodIn_r _ [6] (by decide +kernel) (by decide +kernel)
set_option maxRecDepth 20000 in
theorem gX3_willBeWet_X3_within : GoodIn wsX3_willBeWet (va_wsS RX3 36 yX3_within wsX3_within) := goodIn_app (goodIn_of _ (by decide +kernel)) ggX3_willBeWet_X3_within
set_option maxRecDepth 20000 in
theorem ggX3_willBeWet_X3_moves : GoodIn wsX3_willBeWet wsX3_moves := goodIn_r _ [9] (by decide +kernel) (by decide +kernel)
set_option maxRecDepth 20000 in
theorem gX3_willBeWet_X3_moves : GoodIn wsX3_willBeWet (va_wsS RX3 32 yX3_moves wsX3_moves) := goodIn_app (goodIn_of _ (by decide +kernel)) ggX3_willBeWet_X3_moves
set_option maxRecDepth 20000 in
theorem ggX3_willBeWet_X3_passes : GoodIn wsX3_willBeWet wsX3_passes := goodIn_r _ [13, 1, 14, 15, 16, 5, 17, 18, 19, 20, 21, 22, 23, 24, 25, 26, 27, 28, 29, 30, 31, 32, 33, 34, 35, 36, 37, 38, 39, 40, 41, 42, 43, 44, 45, 46, 47, 48, 49, 3, 4, 6, 50, 51, 52, 53, 54, 55, 56, 57, 58, 59, 60, 61, 62, 63, 64, 65, 66, 67, 68, 69, 70, 71, 72, 73, 74, 75, 76, 77, 78, 79, 80, 81, 82, 83, 84, 85, 86, 87, 88, 89, 90, 91, 92, 93, 94, 95, 96, 97, 98, 99, 100, 101, 102, 103, 104, 105, 106, 107, 108] (by decide +kernel) (by decide +kernel)
set_option maxRecDepth 20000 in
theorem gX3_willBeWet_X3_passes : GoodIn wsX3_willBeWet (wsV RX3 147 RX3 yX3_passes wsX3_passes) := goodIn_app (goodIn_of _ (by decide +kernel)) ggX3_willBeWet_X3_passes
set_option maxRecDepth 20000 in
theorem ggX3_willBeWet_X3_pianoPart : GoodIn wsX3_willBeWet wsX3_pianoPart := goodIn_r _ [53, 1, 96, 97, 98, 99, 100, 101, 102, 103, 104, 105, 106, 107, 108] (by decide +kernel) (by decide +kernel)
set_option maxRecDepth 20000 in
theorem gX3_willBeWet_X3_pianoPart : GoodIn wsX3_willBeWet (wsV RX3 44 RX3 yX3_pianoPart wsX3_pianoPart) := goodIn_app (goodIn_of _ (by decide +kernel)) ggX3_willBeWet_X3_pianoPart
theorem dX3_willBeWet_0 : decode cX3_willBeWet 0 = .ok (.iload_n 1, 1) := by decide +kernel
theorem dX3_willBeWet_1 : decode cX3_willBeWet 1 = .ok (.iconst 1, 1) := by decide +kernel
theorem dX3_willBeWet_2 : decode cX3_willBeWet 2 = .ok (.bipush 99, 2) := by decide +kernel
theorem dX3_willBeWet_4 : decode cX3_willBeWet 4 = .ok (.invokestatic 36, 3) := by decide +kernel
theorem dX3_willBeWet_7 : decode cX3_willBeWet 7 = .ok (.ifCond .ne 6, 3) := by decide +kernel
theorem dX3_willBeWet_10 : decode cX3_willBeWet 10 = .ok (.bipush (-2), 2) := by decide +kernel
theorem dX3_willBeWet_12 : decode cX3_willBeWet 12 = .ok (.ireturn, 1) := by decide +kernel
theorem dX3_willBeWet_13 : decode cX3_willBeWet 13 = .ok (.aload_n 0, 1) := by decide +kernel
theorem dX3_willBeWet_14 : decode cX3_willBeWet 14 = .ok (.getfield 7, 3) := by decide +kernel
theorem dX3_willBeWet_17 : decode cX3_willBeWet 17 = .ok (.iconst 0, 1) := by decide +kernel
theorem dX3_willBeWet_18 : decode cX3_willBeWet 18 = .ok (.aload_n 0, 1) := by decide +kernel
theorem dX3_willBeWet_19 : decode cX3_willBeWet 19 = .ok (.getfield 13, 3) := by decide +kernel
theorem dX3_willBeWet_22 : decode cX3_willBeWet 22 = .ok (.iconst 0, 1) := by decide +kernel
theorem dX3_willBeWet_23 : decode cX3_willBeWet 23 = .ok (.invokestatic 32, 3) := by decide +kernel
theorem dX3_willBeWet_26 : decode cX3_willBeWet 26 = .ok (.aload_n 0, 1) := by decide +kernel
theorem dX3_willBeWet_27 : decode cX3_willBeWet 27 = .ok (.iload_n 1, 1) := by decide +kernel
theorem dX3_willBeWet_28 : decode cX3_willBeWet 28 = .ok (.invokevirtual 147, 3) := by decide +kernel
theorem dX3_willBeWet_31 : decode cX3_willBeWet 31 = .ok (.pop, 1) := by decide +kernel
theorem dX3_willBeWet_32 : decode cX3_willBeWet 32 = .ok (.iconst 0, 1) := by decide +kernel
theorem dX3_willBeWet_33 : decode cX3_willBeWet 33 = .ok (.istore_n 2, 1) := by decide +kernel
theorem dX3_willBeWet_34 : decode cX3_willBeWet 34 = .ok (.iconst 0, 1) := by decide +kernel
theorem dX3_willBeWet_35 : decode cX3_willBeWet 35 = .ok (.istore_n 3, 1) := by decide +kernel
theorem dX3_willBeWet_36 : decode cX3_willBeWet 36 = .ok (.iload_n 3, 1) := by decide +kernel
theorem dX3_willBeWet_37 : decode cX3_willBeWet 37 = .ok (.bipush 12, 2) := by decide +kernel
theorem dX3_willBeWet_39 : decode cX3_willBeWet 39 = .ok (.if_icmp .ge 42, 3) := by decide +kernel
theorem dX3_willBeWet_42 : decode cX3_willBeWet 42 = .ok (.iload_n 2, 1) := by decide +kernel
theorem dX3_willBeWet_43 : decode cX3_willBeWet 43 = .ok (.aload_n 0, 1) := by decide +kernel
theorem dX3_willBeWet_44 : decode cX3_willBeWet 44 = .ok (.iload_n 3, 1) := by decide +kernel
theorem dX3_willBeWet_45 : decode cX3_willBeWet 45 = .ok (.iconst 5, 1) := by decide +kernel
theorem dX3_willBeWet_46 : decode cX3_willBeWet 46 = .ok (.invokevirtual 44, 3) := by decide +kernel
theorem dX3_willBeWet_49 : decode cX3_willBeWet 49 = .ok (.aload_n 0, 1) := by decide +kernel
theorem dX3_willBeWet_50 : decode cX3_willBeWet 50 = .ok (.getfield 13, 3) := by decide +kernel
theorem dX3_willBeWet_53 : decode cX3_willBeWet 53 = .ok (.bipush 12, 2) := by decide +kernel
theorem dX3_willBeWet_55 : decode cX3_willBeWet 55 = .ok (.bipush 6, 2) := by decide +kernel
theorem dX3_willBeWet_57 : decode cX3_willBeWet 57 = .ok (.iload_n 3, 1) := by decide +kernel
theorem dX3_willBeWet_58 : decode cX3_willBeWet 58 = .ok (.imul, 1) := by decide +kernel
theorem dX3_willBeWet_59 : decode cX3_willBeWet 59 = .ok (.iadd, 1) := by decide +kernel
theorem dX3_willBeWet_60 : decode cX3_willBeWet 60 = .ok (.iconst 5, 1) := by decide +kernel
theorem dX3_willBeWet_61 : decode cX3_willBeWet 61 = .ok (.iadd, 1) := by decide +kernel
theorem dX3_willBeWet_62 : decode cX3_willBeWet 62 = .ok (.iaload, 1) := by decide +kernel
theorem dX3_willBeWet_63 : decode cX3_willBeWet 63 = .ok (.if_icmp .le 9, 3) := by decide +kernel
theorem dX3_willBeWet_66 : decode cX3_willBeWet 66 = .ok (.iconst 1, 1) := by decide +kernel
theorem dX3_willBeWet_67 : decode cX3_willBeWet 67 = .ok (.iload_n 3, 1) := by decide +kernel
theorem dX3_willBeWet_68 : decode cX3_willBeWet 68 = .ok (.ishl, 1) := by decide +kernel
theorem dX3_willBeWet_69 : decode cX3_willBeWet 69 = .ok (.goto 4, 3) := by decide +kernel
theorem dX3_willBeWet_72 : decode cX3_willBeWet 72 = .ok (.iconst 0, 1) := by decide +kernel
theorem dX3_willBeWet_73 : decode cX3_willBeWet 73 = .ok (.ior, 1) := by decide +kernel
theorem dX3_willBeWet_74 : decode cX3_willBeWet 74 = .ok (.istore_n 2, 1) := by decide +kernel
theorem dX3_willBeWet_75 : decode cX3_willBeWet 75 = .ok (.iinc 3 1, 3) := by decide +kernel
theorem dX3_willBeWet_78 : decode cX3_willBeWet 78 = .ok (.goto (-42), 3) := by decide +kernel
theorem dX3_willBeWet_81 : decode cX3_willBeWet 81 = .ok (.aload_n 0, 1) := by decide +kernel
theorem dX3_willBeWet_82 : decode cX3_willBeWet 82 = .ok (.getfield 13, 3) := by decide +kernel
theorem dX3_willBeWet_85 : decode cX3_willBeWet 85 = .ok (.iconst 0, 1) := by decide +kernel
theorem dX3_willBeWet_86 : decode cX3_willBeWet 86 = .ok (.aload_n 0, 1) := by decide +kernel
theorem dX3_willBeWet_87 : decode cX3_willBeWet 87 = .ok (.getfield 7, 3) := by decide +kernel
theorem dX3_willBeWet_90 : decode cX3_willBeWet 90 = .ok (.iconst 0, 1) := by decide +kernel
theorem dX3_willBeWet_91 : decode cX3_willBeWet 91 = .ok (.invokestatic 32, 3) := by decide +kernel
theorem dX3_willBeWet_94 : decode cX3_willBeWet 94 = .ok (.iload_n 2, 1) := by decide +kernel
theorem dX3_willBeWet_95 : decode cX3_willBeWet 95 = .ok (.ireturn, 1) := by decide +kernel
set_option maxRecDepth 20000 in
theorem ggX3_bestPlace_X3_within : GoodIn wsX3_bestPlace wsX3_within := goodIn_r _ [6] (by decide +kernel) (by decide +kernel)
set_option maxRecDepth 20000 in
theorem gX3_bestPlace_X3_within : GoodIn wsX3_bestPlace (va_wsS RX3 36 yX3_within wsX3_within) := goodIn_app (goodIn_of _ (by decide +kernel)) ggX3_bestPlace_X3_within
set_option maxRecDepth 20000 in
theorem ggX3_bestPlace_X3_moves : GoodIn wsX3_bestPlace wsX3_moves := goodIn_r _ [9] (by decide +kernel) (by decide +kernel)
set_option maxRecDepth 20000 in
theorem gX3_bestPlace_X3_moves : GoodIn wsX3_bestPlace (va_wsS RX3 32 yX3_moves wsX3_moves) := goodIn_app (goodIn_of _ (by decide +kernel)) ggX3_bestPlace_X3_moves
set_option maxRecDepth 20000 in
theorem ggX3_bestPlace_X3_keeperComes : GoodIn wsX3_bestPlace wsX3_keeperComes := goodIn_r _ [13, 1, 100, 101, 102, 103, 104, 105, 106, 107, 108, 109, 110, 111, 112] (by decide +kernel) (by decide +kernel)
set_option maxRecDepth 20000 in
theorem gX3_bestPlace_X3_keeperComes : GoodIn wsX3_bestPlace (wsV RX3 135 RX3 yX3_keeperComes wsX3_keeperComes) := goodIn_app (goodIn_of _ (by decide +kernel)) ggX3_bestPlace_X3_keeperComes
set_option maxRecDepth 20000 in
theorem ggX3_bestPlace_X3_passes : GoodIn wsX3_bestPlace wsX3_passes := goodIn_r _ [17, 1, 18, 19, 20, 5, 21, 22, 23, 24, 25, 26, 27, 28, 29, 30, 31, 32, 33, 34, 35, 36, 37, 38, 39, 40, 41, 42, 43, 44, 45, 46, 47, 48, 49, 50, 51, 52, 53, 3, 4, 6, 54, 55, 56, 57, 58, 59, 60, 61, 62, 63, 64, 65, 66, 67, 68, 69, 70, 71, 72, 73, 74, 75, 76, 77, 78, 79, 80, 81, 82, 83, 84, 85, 86, 87, 88, 89, 90, 91, 92, 93, 94, 95, 96, 97, 98, 99, 100, 101, 102, 103, 104, 105, 106, 107, 108, 109, 110, 111, 112] (by decide +kernel) (by decide +kernel)
set_option maxRecDepth 20000 in
theorem gX3_bestPlace_X3_passes : GoodIn wsX3_bestPlace (wsV RX3 147 RX3 yX3_passes wsX3_passes) := goodIn_app (goodIn_of _ (by decide +kernel)) ggX3_bestPlace_X3_passes
theorem dX3_bestPlace_0 : decode cX3_bestPlace 0 = .ok (.iload_n 1, 1) := by decide +kernel
theorem dX3_bestPlace_1 : decode cX3_bestPlace 1 = .ok (.iconst 1, 1) := by decide +kernel
theorem dX3_bestPlace_2 : decode cX3_bestPlace 2 = .ok (.bipush 48, 2) := by decide +kernel
theorem dX3_bestPlace_4 : decode cX3_bestPlace 4 = .ok (.invokestatic 36, 3) := by decide +kernel
theorem dX3_bestPlace_7 : decode cX3_bestPlace 7 = .ok (.ifCond .eq 12, 3) := by decide +kernel
theorem dX3_bestPlace_10 : decode cX3_bestPlace 10 = .ok (.iload_n 2, 1) := by decide +kernel
theorem dX3_bestPlace_11 : decode cX3_bestPlace 11 = .ok (.iconst 0, 1) := by decide +kernel
theorem dX3_bestPlace_12 : decode cX3_bestPlace 12 = .ok (.iconst 1, 1) := by decide +kernel
theorem dX3_bestPlace_13 : decode cX3_bestPlace 13 = .ok (.invokestatic 36, 3) := by decide +kernel
theorem dX3_bestPlace_16 : decode cX3_bestPlace 16 = .ok (.ifCond .ne 6, 3) := by decide +kernel
theorem dX3_bestPlace_19 : decode cX3_bestPlace 19 = .ok (.bipush (-2), 2) := by decide +kernel
theorem dX3_bestPlace_21 : decode cX3_bestPlace 21 = .ok (.ireturn, 1) := by decide +kernel
theorem dX3_bestPlace_22 : decode cX3_bestPlace 22 = .ok (.aload_n 0, 1) := by decide +kernel
theorem dX3_bestPlace_23 : decode cX3_bestPlace 23 = .ok (.getfield 7, 3) := by decide +kernel
theorem dX3_bestPlace_26 : decode cX3_bestPlace 26 = .ok (.iconst 0, 1) := by decide +kernel
theorem dX3_bestPlace_27 : decode cX3_bestPlace 27 = .ok (.aload_n 0, 1) := by decide +kernel
theorem dX3_bestPlace_28 : decode cX3_bestPlace 28 = .ok (.getfield 13, 3) := by decide +kernel
theorem dX3_bestPlace_31 : decode cX3_bestPlace 31 = .ok (.iconst 0, 1) := by decide +kernel
theorem dX3_bestPlace_32 : decode cX3_bestPlace 32 = .ok (.invokestatic 32, 3) := by decide +kernel
theorem dX3_bestPlace_35 : decode cX3_bestPlace 35 = .ok (.bipush (-6), 2) := by decide +kernel
theorem dX3_bestPlace_37 : decode cX3_bestPlace 37 = .ok (.istore_n 3, 1) := by decide +kernel
theorem dX3_bestPlace_38 : decode cX3_bestPlace 38 = .ok (.iconst (-1), 1) := by decide +kernel
theorem dX3_bestPlace_39 : decode cX3_bestPlace 39 = .ok (.istore 4, 2) := by decide +kernel
theorem dX3_bestPlace_41 : decode cX3_bestPlace 41 = .ok (.iconst 0, 1) := by decide +kernel
theorem dX3_bestPlace_42 : decode cX3_bestPlace 42 = .ok (.istore 5, 2) := by decide +kernel
theorem dX3_bestPlace_44 : decode cX3_bestPlace 44 = .ok (.iload 5, 2) := by decide +kernel
theorem dX3_bestPlace_46 : decode cX3_bestPlace 46 = .ok (.bipush 12, 2) := by decide +kernel
theorem dX3_bestPlace_48 : decode cX3_bestPlace 48 = .ok (.if_icmp .ge 66, 3) := by decide +kernel
theorem dX3_bestPlace_51 : decode cX3_bestPlace 51 = .ok (.aload_n 0, 1) := by decide +kernel
theorem dX3_bestPlace_52 : decode cX3_bestPlace 52 = .ok (.iload 5, 2) := by decide +kernel
theorem dX3_bestPlace_54 : decode cX3_bestPlace 54 = .ok (.invokevirtual 135, 3) := by decide +kernel
theorem dX3_bestPlace_57 : decode cX3_bestPlace 57 = .ok (.pop, 1) := by decide +kernel
theorem dX3_bestPlace_58 : decode cX3_bestPlace 58 = .ok (.aload_n 0, 1) := by decide +kernel
theorem dX3_bestPlace_59 : decode cX3_bestPlace 59 = .ok (.iload_n 1, 1) := by decide +kernel
theorem dX3_bestPlace_60 : decode cX3_bestPlace 60 = .ok (.invokevirtual 147, 3) := by decide +kernel
theorem dX3_bestPlace_63 : decode cX3_bestPlace 63 = .ok (.istore 6, 2) := by decide +kernel
theorem dX3_bestPlace_65 : decode cX3_bestPlace 65 = .ok (.aload_n 0, 1) := by decide +kernel
theorem dX3_bestPlace_66 : decode cX3_bestPlace 66 = .ok (.getfield 13, 3) := by decide +kernel
theorem dX3_bestPlace_69 : decode cX3_bestPlace 69 = .ok (.iconst 0, 1) := by decide +kernel
theorem dX3_bestPlace_70 : decode cX3_bestPlace 70 = .ok (.aload_n 0, 1) := by decide +kernel
theorem dX3_bestPlace_71 : decode cX3_bestPlace 71 = .ok (.getfield 7, 3) := by decide +kernel
theorem dX3_bestPlace_74 : decode cX3_bestPlace 74 = .ok (.iconst 0, 1) := by decide +kernel
theorem dX3_bestPlace_75 : decode cX3_bestPlace 75 = .ok (.invokestatic 32, 3) := by decide +kernel
theorem dX3_bestPlace_78 : decode cX3_bestPlace 78 = .ok (.iload 6, 2) := by decide +kernel
theorem dX3_bestPlace_80 : decode cX3_bestPlace 80 = .ok (.iload 4, 2) := by decide +kernel
theorem dX3_bestPlace_82 : decode cX3_bestPlace 82 = .ok (.if_icmp .le 8, 3) := by decide +kernel
theorem dX3_bestPlace_85 : decode cX3_bestPlace 85 = .ok (.iload 5, 2) := by decide +kernel
theorem dX3_bestPlace_87 : decode cX3_bestPlace 87 = .ok (.goto 4, 3) := by decide +kernel
theorem dX3_bestPlace_90 : decode cX3_bestPlace 90 = .ok (.iload_n 3, 1) := by decide +kernel
theorem dX3_bestPlace_91 : decode cX3_bestPlace 91 = .ok (.istore_n 3, 1) := by decide +kernel
theorem dX3_bestPlace_92 : decode cX3_bestPlace 92 = .ok (.iload 6, 2) := by decide +kernel
theorem dX3_bestPlace_94 : decode cX3_bestPlace 94 = .ok (.iload 4, 2) := by decide +kernel
theorem dX3_bestPlace_96 : decode cX3_bestPlace 96 = .ok (.if_icmp .le 8, 3) := by decide +kernel
theorem dX3_bestPlace_99 : decode cX3_bestPlace 99 = .ok (.iload 6, 2) := by decide +kernel
theorem dX3_bestPlace_101 : decode cX3_bestPlace 101 = .ok (.goto 5, 3) := by decide +kernel
theorem dX3_bestPlace_104 : decode cX3_bestPlace 104 = .ok (.iload 4, 2) := by decide +kernel
theorem dX3_bestPlace_106 : decode cX3_bestPlace 106 = .ok (.istore 4, 2) := by decide +kernel
theorem dX3_bestPlace_108 : decode cX3_bestPlace 108 = .ok (.iinc 5 1, 3) := by decide +kernel
theorem dX3_bestPlace_111 : decode cX3_bestPlace 111 = .ok (.goto (-67), 3) := by decide +kernel
theorem dX3_bestPlace_114 : decode cX3_bestPlace 114 = .ok (.iload_n 2, 1) := by decide +kernel
theorem dX3_bestPlace_115 : decode cX3_bestPlace 115 = .ok (.ifCond .ne 7, 3) := by decide +kernel
theorem dX3_bestPlace_118 : decode cX3_bestPlace 118 = .ok (.iload_n 3, 1) := by decide +kernel
theorem dX3_bestPlace_119 : decode cX3_bestPlace 119 = .ok (.goto 5, 3) := by decide +kernel
end
section
theorem dX3_bestPlace_122 : decode cX3_bestPlace 122 = .ok (.iload 4, 2) := by decide +kernel
theorem dX3_bestPlace_124 : decode cX3_bestPlace 124 = .ok (.ireturn, 1) := by decide +kernel
set_option maxRecDepth 20000 in
theorem ggX3_put_X3_within : GoodIn wsX3_put wsX3_within := goodIn_r _ [7] (by decide +kernel) (by decide +kernel)
set_option maxRecDepth 20000 in
theorem gX3_put_X3_within : GoodIn wsX3_put (va_wsS RX3 36 yX3_within wsX3_within) := goodIn_app (goodIn_of _ (by decide +kernel)) ggX3_put_X3_within
theorem dX3_put_0 : decode cX3_put 0 = .ok (.iconst 0, 1) := by decide +kernel
theorem dX3_put_1 : decode cX3_put 1 = .ok (.istore_n 3, 1) := by decide +kernel
theorem dX3_put_2 : decode cX3_put 2 = .ok (.lload_n 1, 1) := by decide +kernel
theorem dX3_put_3 : decode cX3_put 3 = .ok (.lstore 4, 2) := by decide +kernel
theorem dX3_put_5 : decode cX3_put 5 = .ok (.iconst 1, 1) := by decide +kernel
theorem dX3_put_6 : decode cX3_put 6 = .ok (.istore 6, 2) := by decide +kernel
theorem dX3_put_8 : decode cX3_put 8 = .ok (.iload_n 3, 1) := by decide +kernel
theorem dX3_put_9 : decode cX3_put 9 = .ok (.bipush 8, 2) := by decide +kernel
theorem dX3_put_11 : decode cX3_put 11 = .ok (.if_icmp .ge 56, 3) := by decide +kernel
theorem dX3_put_14 : decode cX3_put 14 = .ok (.lload 4, 2) := by decide +kernel
theorem dX3_put_16 : decode cX3_put 16 = .ok (.ldc2_w 159, 3) := by decide +kernel
theorem dX3_put_19 : decode cX3_put 19 = .ok (.land, 1) := by decide +kernel
theorem dX3_put_20 : decode cX3_put 20 = .ok (.lconst 0, 1) := by decide +kernel
theorem dX3_put_21 : decode cX3_put 21 = .ok (.lcmp, 1) := by decide +kernel
theorem dX3_put_22 : decode cX3_put 22 = .ok (.ifCond .eq 45, 3) := by decide +kernel
theorem dX3_put_25 : decode cX3_put 25 = .ok (.iload 6, 2) := by decide +kernel
theorem dX3_put_27 : decode cX3_put 27 = .ok (.ifCond .eq 24, 3) := by decide +kernel
theorem dX3_put_30 : decode cX3_put 30 = .ok (.lload 4, 2) := by decide +kernel
theorem dX3_put_32 : decode cX3_put 32 = .ok (.ldc2_w 159, 3) := by decide +kernel
theorem dX3_put_35 : decode cX3_put 35 = .ok (.land, 1) := by decide +kernel
theorem dX3_put_36 : decode cX3_put 36 = .ok (.l2i, 1) := by decide +kernel
theorem dX3_put_37 : decode cX3_put 37 = .ok (.bipush 33, 2) := by decide +kernel
theorem dX3_put_39 : decode cX3_put 39 = .ok (.bipush 126, 2) := by decide +kernel
theorem dX3_put_41 : decode cX3_put 41 = .ok (.invokestatic 36, 3) := by decide +kernel
theorem dX3_put_44 : decode cX3_put 44 = .ok (.ifCond .eq 7, 3) := by decide +kernel
theorem dX3_put_47 : decode cX3_put 47 = .ok (.iconst 1, 1) := by decide +kernel
theorem dX3_put_48 : decode cX3_put 48 = .ok (.goto 4, 3) := by decide +kernel
theorem dX3_put_51 : decode cX3_put 51 = .ok (.iconst 0, 1) := by decide +kernel
theorem dX3_put_52 : decode cX3_put 52 = .ok (.istore 6, 2) := by decide +kernel
theorem dX3_put_54 : decode cX3_put 54 = .ok (.lload 4, 2) := by decide +kernel
theorem dX3_put_56 : decode cX3_put 56 = .ok (.bipush 8, 2) := by decide +kernel
theorem dX3_put_58 : decode cX3_put 58 = .ok (.lushr, 1) := by decide +kernel
theorem dX3_put_59 : decode cX3_put 59 = .ok (.lstore 4, 2) := by decide +kernel
theorem dX3_put_61 : decode cX3_put 61 = .ok (.iinc 3 1, 3) := by decide +kernel
theorem dX3_put_64 : decode cX3_put 64 = .ok (.goto (-56), 3) := by decide +kernel
theorem dX3_put_67 : decode cX3_put 67 = .ok (.iload_n 3, 1) := by decide +kernel
theorem dX3_put_68 : decode cX3_put 68 = .ok (.ifCond .eq 15, 3) := by decide +kernel
theorem dX3_put_71 : decode cX3_put 71 = .ok (.iload 6, 2) := by decide +kernel
theorem dX3_put_73 : decode cX3_put 73 = .ok (.ifCond .eq 10, 3) := by decide +kernel
theorem dX3_put_76 : decode cX3_put 76 = .ok (.lload 4, 2) := by decide +kernel
theorem dX3_put_78 : decode cX3_put 78 = .ok (.lconst 0, 1) := by decide +kernel
theorem dX3_put_79 : decode cX3_put 79 = .ok (.lcmp, 1) := by decide +kernel
theorem dX3_put_80 : decode cX3_put 80 = .ok (.ifCond .eq 6, 3) := by decide +kernel
theorem dX3_put_83 : decode cX3_put 83 = .ok (.bipush (-2), 2) := by decide +kernel
theorem dX3_put_85 : decode cX3_put 85 = .ok (.ireturn, 1) := by decide +kernel
theorem dX3_put_86 : decode cX3_put 86 = .ok (.aload_n 0, 1) := by decide +kernel
theorem dX3_put_87 : decode cX3_put 87 = .ok (.getfield 153, 3) := by decide +kernel
theorem dX3_put_90 : decode cX3_put 90 = .ok (.iload_n 3, 1) := by decide +kernel
theorem dX3_put_91 : decode cX3_put 91 = .ok (.iadd, 1) := by decide +kernel
theorem dX3_put_92 : decode cX3_put 92 = .ok (.bipush 80, 2) := by decide +kernel
theorem dX3_put_94 : decode cX3_put 94 = .ok (.if_icmp .le 6, 3) := by decide +kernel
theorem dX3_put_97 : decode cX3_put 97 = .ok (.bipush (-4), 2) := by decide +kernel
theorem dX3_put_99 : decode cX3_put 99 = .ok (.ireturn, 1) := by decide +kernel
theorem dX3_put_100 : decode cX3_put 100 = .ok (.iload_n 3, 1) := by decide +kernel
theorem dX3_put_101 : decode cX3_put 101 = .ok (.iconst 1, 1) := by decide +kernel
theorem dX3_put_102 : decode cX3_put 102 = .ok (.isub, 1) := by decide +kernel
theorem dX3_put_103 : decode cX3_put 103 = .ok (.istore 7, 2) := by decide +kernel
theorem dX3_put_105 : decode cX3_put 105 = .ok (.iload 7, 2) := by decide +kernel
theorem dX3_put_107 : decode cX3_put 107 = .ok (.ifCond .lt 40, 3) := by decide +kernel
theorem dX3_put_110 : decode cX3_put 110 = .ok (.aload_n 0, 1) := by decide +kernel
theorem dX3_put_111 : decode cX3_put 111 = .ok (.getfield 25, 3) := by decide +kernel
theorem dX3_put_114 : decode cX3_put 114 = .ok (.aload_n 0, 1) := by decide +kernel
theorem dX3_put_115 : decode cX3_put 115 = .ok (.getfield 153, 3) := by decide +kernel
theorem dX3_put_118 : decode cX3_put 118 = .ok (.lload_n 1, 1) := by decide +kernel
theorem dX3_put_119 : decode cX3_put 119 = .ok (.bipush 8, 2) := by decide +kernel
theorem dX3_put_121 : decode cX3_put 121 = .ok (.iload 7, 2) := by decide +kernel
theorem dX3_put_123 : decode cX3_put 123 = .ok (.imul, 1) := by decide +kernel
theorem dX3_put_124 : decode cX3_put 124 = .ok (.lushr, 1) := by decide +kernel
theorem dX3_put_125 : decode cX3_put 125 = .ok (.ldc2_w 159, 3) := by decide +kernel
theorem dX3_put_128 : decode cX3_put 128 = .ok (.land, 1) := by decide +kernel
theorem dX3_put_129 : decode cX3_put 129 = .ok (.l2i, 1) := by decide +kernel
theorem dX3_put_130 : decode cX3_put 130 = .ok (.iastore, 1) := by decide +kernel
theorem dX3_put_131 : decode cX3_put 131 = .ok (.aload_n 0, 1) := by decide +kernel
theorem dX3_put_132 : decode cX3_put 132 = .ok (.dup, 1) := by decide +kernel
theorem dX3_put_133 : decode cX3_put 133 = .ok (.getfield 153, 3) := by decide +kernel
theorem dX3_put_136 : decode cX3_put 136 = .ok (.iconst 1, 1) := by decide +kernel
theorem dX3_put_137 : decode cX3_put 137 = .ok (.iadd, 1) := by decide +kernel
theorem dX3_put_138 : decode cX3_put 138 = .ok (.putfield 153, 3) := by decide +kernel
theorem dX3_put_141 : decode cX3_put 141 = .ok (.iinc 7 (-1), 3) := by decide +kernel
theorem dX3_put_144 : decode cX3_put 144 = .ok (.goto (-39), 3) := by decide +kernel
theorem dX3_put_147 : decode cX3_put 147 = .ok (.aload_n 0, 1) := by decide +kernel
theorem dX3_put_148 : decode cX3_put 148 = .ok (.getfield 153, 3) := by decide +kernel
theorem dX3_put_151 : decode cX3_put 151 = .ok (.ireturn, 1) := by decide +kernel
theorem dX3_wipe_0 : decode cX3_wipe 0 = .ok (.aload_n 0, 1) := by decide +kernel
theorem dX3_wipe_1 : decode cX3_wipe 1 = .ok (.getfield 153, 3) := by decide +kernel
theorem dX3_wipe_4 : decode cX3_wipe 4 = .ok (.istore_n 1, 1) := by decide +kernel
theorem dX3_wipe_5 : decode cX3_wipe 5 = .ok (.aload_n 0, 1) := by decide +kernel
theorem dX3_wipe_6 : decode cX3_wipe 6 = .ok (.iconst 0, 1) := by decide +kernel
theorem dX3_wipe_7 : decode cX3_wipe 7 = .ok (.putfield 153, 3) := by decide +kernel
theorem dX3_wipe_10 : decode cX3_wipe 10 = .ok (.iload_n 1, 1) := by decide +kernel
theorem dX3_wipe_11 : decode cX3_wipe 11 = .ok (.ireturn, 1) := by decide +kernel
theorem dX3_character_0 : decode cX3_character 0 = .ok (.iload_n 1, 1) := by decide +kernel
theorem dX3_character_1 : decode cX3_character 1 = .ok (.aload_n 0, 1) := by decide +kernel
theorem dX3_character_2 : decode cX3_character 2 = .ok (.getfield 153, 3) := by decide +kernel
theorem dX3_character_5 : decode cX3_character 5 = .ok (.if_icmp .ge 12, 3) := by decide +kernel
theorem dX3_character_8 : decode cX3_character 8 = .ok (.aload_n 0, 1) := by decide +kernel
theorem dX3_character_9 : decode cX3_character 9 = .ok (.getfield 25, 3) := by decide +kernel
theorem dX3_character_12 : decode cX3_character 12 = .ok (.iload_n 1, 1) := by decide +kernel
theorem dX3_character_13 : decode cX3_character 13 = .ok (.iaload, 1) := by decide +kernel
theorem dX3_character_14 : decode cX3_character 14 = .ok (.goto 4, 3) := by decide +kernel
theorem dX3_character_17 : decode cX3_character 17 = .ok (.iconst (-1), 1) := by decide +kernel
theorem dX3_character_18 : decode cX3_character 18 = .ok (.ireturn, 1) := by decide +kernel
set_option maxRecDepth 20000 in
theorem ggX3_isNext_X3_character : GoodIn wsX3_isNext wsX3_character := goodIn_r _ [6, 7, 8, 9, 10, 11, 12, 13, 14, 15, 16, 17, 18, 19, 20, 21] (by decide +kernel) (by decide +kernel)
set_option maxRecDepth 20000 in
theorem gX3_isNext_X3_character : GoodIn wsX3_isNext (wsV RX3 164 RX3 yX3_character wsX3_character) := goodIn_app (goodIn_of _ (by decide +kernel)) ggX3_isNext_X3_character
theorem dX3_isNext_0 : decode cX3_isNext 0 = .ok (.aload_n 0, 1) := by decide +kernel
theorem dX3_isNext_1 : decode cX3_isNext 1 = .ok (.aload_n 0, 1) := by decide +kernel
theorem dX3_isNext_2 : decode cX3_isNext 2 = .ok (.getfield 161, 3) := by decide +kernel
theorem dX3_isNext_5 : decode cX3_isNext 5 = .ok (.invokevirtual 164, 3) := by decide +kernel
theorem dX3_isNext_8 : decode cX3_isNext 8 = .ok (.iload_n 1, 1) := by decide +kernel
theorem dX3_isNext_9 : decode cX3_isNext 9 = .ok (.if_icmp .ne 7, 3) := by decide +kernel
theorem dX3_isNext_12 : decode cX3_isNext 12 = .ok (.iconst 1, 1) := by decide +kernel
theorem dX3_isNext_13 : decode cX3_isNext 13 = .ok (.goto 4, 3) := by decide +kernel
theorem dX3_isNext_16 : decode cX3_isNext 16 = .ok (.iconst 0, 1) := by decide +kernel
theorem dX3_isNext_17 : decode cX3_isNext 17 = .ok (.istore_n 2, 1) := by decide +kernel
theorem dX3_isNext_18 : decode cX3_isNext 18 = .ok (.aload_n 0, 1) := by decide +kernel
theorem dX3_isNext_19 : decode cX3_isNext 19 = .ok (.dup, 1) := by decide +kernel
theorem dX3_isNext_20 : decode cX3_isNext 20 = .ok (.getfield 161, 3) := by decide +kernel
theorem dX3_isNext_23 : decode cX3_isNext 23 = .ok (.iload_n 2, 1) := by decide +kernel
theorem dX3_isNext_24 : decode cX3_isNext 24 = .ok (.ifCond .eq 7, 3) := by decide +kernel
theorem dX3_isNext_27 : decode cX3_isNext 27 = .ok (.iconst 1, 1) := by decide +kernel
theorem dX3_isNext_28 : decode cX3_isNext 28 = .ok (.goto 4, 3) := by decide +kernel
theorem dX3_isNext_31 : decode cX3_isNext 31 = .ok (.iconst 0, 1) := by decide +kernel
theorem dX3_isNext_32 : decode cX3_isNext 32 = .ok (.iadd, 1) := by decide +kernel
theorem dX3_isNext_33 : decode cX3_isNext 33 = .ok (.putfield 161, 3) := by decide +kernel
theorem dX3_isNext_36 : decode cX3_isNext 36 = .ok (.iload_n 2, 1) := by decide +kernel
theorem dX3_isNext_37 : decode cX3_isNext 37 = .ok (.ireturn, 1) := by decide +kernel
set_option maxRecDepth 20000 in
theorem ggX3_isDigit_X3_character : GoodIn wsX3_isDigit wsX3_character := goodIn_r _ [6, 7, 8, 12, 13, 14, 15, 16, 17, 18, 19, 20, 21, 22, 23, 24] (by decide +kernel) (by decide +kernel)
set_option maxRecDepth 20000 in
theorem gX3_isDigit_X3_character : GoodIn wsX3_isDigit (wsV RX3 164 RX3 yX3_character wsX3_character) := goodIn_app (goodIn_of _ (by decide +kernel)) ggX3_isDigit_X3_character
set_option maxRecDepth 20000 in
theorem ggX3_isDigit_X3_within : GoodIn wsX3_isDigit wsX3_within := goodIn_r _ [11] (by decide +kernel) (by decide +kernel)
set_option maxRecDepth 20000 in
theorem gX3_isDigit_X3_within : GoodIn wsX3_isDigit (va_wsS RX3 36 yX3_within wsX3_within) := goodIn_app (goodIn_of _ (by decide +kernel)) ggX3_isDigit_X3_within
theorem dX3_isDigit_0 : decode cX3_isDigit 0 = .ok (.aload_n 0, 1) := by decide +kernel
theorem dX3_isDigit_1 : decode cX3_isDigit 1 = .ok (.aload_n 0, 1) := by decide +kernel
theorem dX3_isDigit_2 : decode cX3_isDigit 2 = .ok (.getfield 161, 3) := by decide +kernel
theorem dX3_isDigit_5 : decode cX3_isDigit 5 = .ok (.invokevirtual 164, 3) := by decide +kernel
theorem dX3_isDigit_8 : decode cX3_isDigit 8 = .ok (.bipush 48, 2) := by decide +kernel
theorem dX3_isDigit_10 : decode cX3_isDigit 10 = .ok (.bipush 57, 2) := by decide +kernel
theorem dX3_isDigit_12 : decode cX3_isDigit 12 = .ok (.invokestatic 36, 3) := by decide +kernel
theorem dX3_isDigit_15 : decode cX3_isDigit 15 = .ok (.ireturn, 1) := by decide +kernel
set_option maxRecDepth 20000 in
theorem ggX3_takeNumber_X3_isDigit : GoodIn wsX3_takeNumber wsX3_isDigit := goodIn_r _ [6, 1, 7, 8, 9, 5, 10, 11, 12, 13, 14, 15, 16, 17, 18, 19, 20, 21, 22, 23, 24, 25, 26, 27, 28] (by decide +kernel) (by decide +kernel)
set_option maxRecDepth 20000 in
theorem gX3_takeNumber_X3_isDigit : GoodIn wsX3_takeNumber (wsV RX3 167 RX3 yX3_isDigit wsX3_isDigit) := goodIn_app (goodIn_of _ (by decide +kernel)) ggX3_takeNumber_X3_isDigit
set_option maxRecDepth 20000 in
theorem ggX3_takeNumber_X3_character : GoodIn wsX3_takeNumber wsX3_character := goodIn_r _ [10, 11, 12, 16, 17, 18, 19, 20, 21, 22, 23, 24, 25, 26, 27, 28] (by decide +kernel) (by decide +kernel)
set_option maxRecDepth 20000 in
theorem gX3_takeNumber_X3_character : GoodIn wsX3_takeNumber (wsV RX3 164 RX3 yX3_character wsX3_character) := goodIn_app (goodIn_of _ (by decide +kernel)) ggX3_takeNumber_X3_character
theorem dX3_takeNumber_0 : decode cX3_takeNumber 0 = .ok (.aload_n 0, 1) := by decide +kernel
theorem dX3_takeNumber_1 : decode cX3_takeNumber 1 = .ok (.invokevirtual 167, 3) := by decide +kernel
theorem dX3_takeNumber_4 : decode cX3_takeNumber 4 = .ok (.ifCond .ne 5, 3) := by decide +kernel
theorem dX3_takeNumber_7 : decode cX3_takeNumber 7 = .ok (.iconst (-1), 1) := by decide +kernel
theorem dX3_takeNumber_8 : decode cX3_takeNumber 8 = .ok (.ireturn, 1) := by decide +kernel
theorem dX3_takeNumber_9 : decode cX3_takeNumber 9 = .ok (.aload_n 0, 1) := by decide +kernel
theorem dX3_takeNumber_10 : decode cX3_takeNumber 10 = .ok (.aload_n 0, 1) := by decide +kernel
theorem dX3_takeNumber_11 : decode cX3_takeNumber 11 = .ok (.getfield 161, 3) := by decide +kernel
theorem dX3_takeNumber_14 : decode cX3_takeNumber 14 = .ok (.invokevirtual 164, 3) := by decide +kernel
theorem dX3_takeNumber_17 : decode cX3_takeNumber 17 = .ok (.bipush 48, 2) := by decide +kernel
theorem dX3_takeNumber_19 : decode cX3_takeNumber 19 = .ok (.isub, 1) := by decide +kernel
theorem dX3_takeNumber_20 : decode cX3_takeNumber 20 = .ok (.istore_n 2, 1) := by decide +kernel
theorem dX3_takeNumber_21 : decode cX3_takeNumber 21 = .ok (.aload_n 0, 1) := by decide +kernel
theorem dX3_takeNumber_22 : decode cX3_takeNumber 22 = .ok (.dup, 1) := by decide +kernel
theorem dX3_takeNumber_23 : decode cX3_takeNumber 23 = .ok (.getfield 161, 3) := by decide +kernel
theorem dX3_takeNumber_26 : decode cX3_takeNumber 26 = .ok (.iconst 1, 1) := by decide +kernel
theorem dX3_takeNumber_27 : decode cX3_takeNumber 27 = .ok (.iadd, 1) := by decide +kernel
theorem dX3_takeNumber_28 : decode cX3_takeNumber 28 = .ok (.putfield 161, 3) := by decide +kernel
theorem dX3_takeNumber_31 : decode cX3_takeNumber 31 = .ok (.iload_n 2, 1) := by decide +kernel
theorem dX3_takeNumber_32 : decode cX3_takeNumber 32 = .ok (.ifCond .le 57, 3) := by decide +kernel
theorem dX3_takeNumber_35 : decode cX3_takeNumber 35 = .ok (.aload_n 0, 1) := by decide +kernel
theorem dX3_takeNumber_36 : decode cX3_takeNumber 36 = .ok (.invokevirtual 167, 3) := by decide +kernel
theorem dX3_takeNumber_39 : decode cX3_takeNumber 39 = .ok (.ifCond .eq 50, 3) := by decide +kernel
theorem dX3_takeNumber_42 : decode cX3_takeNumber 42 = .ok (.bipush 10, 2) := by decide +kernel
theorem dX3_takeNumber_44 : decode cX3_takeNumber 44 = .ok (.iload_n 2, 1) := by decide +kernel
theorem dX3_takeNumber_45 : decode cX3_takeNumber 45 = .ok (.imul, 1) := by decide +kernel
theorem dX3_takeNumber_46 : decode cX3_takeNumber 46 = .ok (.aload_n 0, 1) := by decide +kernel
theorem dX3_takeNumber_47 : decode cX3_takeNumber 47 = .ok (.aload_n 0, 1) := by decide +kernel
theorem dX3_takeNumber_48 : decode cX3_takeNumber 48 = .ok (.getfield 161, 3) := by decide +kernel
theorem dX3_takeNumber_51 : decode cX3_takeNumber 51 = .ok (.invokevirtual 164, 3) := by decide +kernel
theorem dX3_takeNumber_54 : decode cX3_takeNumber 54 = .ok (.iadd, 1) := by decide +kernel
theorem dX3_takeNumber_55 : decode cX3_takeNumber 55 = .ok (.bipush 48, 2) := by decide +kernel
theorem dX3_takeNumber_57 : decode cX3_takeNumber 57 = .ok (.isub, 1) := by decide +kernel
theorem dX3_takeNumber_58 : decode cX3_takeNumber 58 = .ok (.iload_n 1, 1) := by decide +kernel
theorem dX3_takeNumber_59 : decode cX3_takeNumber 59 = .ok (.if_icmp .gt 30, 3) := by decide +kernel
theorem dX3_takeNumber_62 : decode cX3_takeNumber 62 = .ok (.bipush 10, 2) := by decide +kernel
theorem dX3_takeNumber_64 : decode cX3_takeNumber 64 = .ok (.iload_n 2, 1) := by decide +kernel
theorem dX3_takeNumber_65 : decode cX3_takeNumber 65 = .ok (.imul, 1) := by decide +kernel
theorem dX3_takeNumber_66 : decode cX3_takeNumber 66 = .ok (.aload_n 0, 1) := by decide +kernel
theorem dX3_takeNumber_67 : decode cX3_takeNumber 67 = .ok (.aload_n 0, 1) := by decide +kernel
theorem dX3_takeNumber_68 : decode cX3_takeNumber 68 = .ok (.getfield 161, 3) := by decide +kernel
theorem dX3_takeNumber_71 : decode cX3_takeNumber 71 = .ok (.invokevirtual 164, 3) := by decide +kernel
theorem dX3_takeNumber_74 : decode cX3_takeNumber 74 = .ok (.iadd, 1) := by decide +kernel
theorem dX3_takeNumber_75 : decode cX3_takeNumber 75 = .ok (.bipush 48, 2) := by decide +kernel
theorem dX3_takeNumber_77 : decode cX3_takeNumber 77 = .ok (.isub, 1) := by decide +kernel
theorem dX3_takeNumber_78 : decode cX3_takeNumber 78 = .ok (.istore_n 2, 1) := by decide +kernel
theorem dX3_takeNumber_79 : decode cX3_takeNumber 79 = .ok (.aload_n 0, 1) := by decide +kernel
theorem dX3_takeNumber_80 : decode cX3_takeNumber 80 = .ok (.dup, 1) := by decide +kernel
theorem dX3_takeNumber_81 : decode cX3_takeNumber 81 = .ok (.getfield 161, 3) := by decide +kernel
theorem dX3_takeNumber_84 : decode cX3_takeNumber 84 = .ok (.iconst 1, 1) := by decide +kernel
theorem dX3_takeNumber_85 : decode cX3_takeNumber 85 = .ok (.iadd, 1) := by decide +kernel
theorem dX3_takeNumber_86 : decode cX3_takeNumber 86 = .ok (.putfield 161, 3) := by decide +kernel
theorem dX3_takeNumber_89 : decode cX3_takeNumber 89 = .ok (.iload_n 2, 1) := by decide +kernel
theorem dX3_takeNumber_90 : decode cX3_takeNumber 90 = .ok (.ireturn, 1) := by decide +kernel
set_option maxRecDepth 20000 in
theorem ggX3_takesNumber_X3_takeNumber : GoodIn wsX3_takesNumber wsX3_takeNumber := goodIn_r _ [6, 7, 8, 9, 10, 5, 11, 12, 13, 14, 15, 16, 17, 18, 19, 20, 21, 22, 23, 24, 25, 26, 27, 28, 29, 30, 31, 32, 33] (by decide +kernel) (by decide +kernel)
set_option maxRecDepth 20000 in
theorem gX3_takesNumber_X3_takeNumber : GoodIn wsX3_takesNumber (wsV RX3 170 RX3 yX3_takeNumber wsX3_takeNumber) := goodIn_app (goodIn_of _ (by decide +kernel)) ggX3_takesNumber_X3_takeNumber
theorem dX3_takesNumber_0 : decode cX3_takesNumber 0 = .ok (.aload_n 0, 1) := by decide +kernel
theorem dX3_takesNumber_1 : decode cX3_takesNumber 1 = .ok (.aload_n 0, 1) := by decide +kernel
theorem dX3_takesNumber_2 : decode cX3_takesNumber 2 = .ok (.bipush 99, 2) := by decide +kernel
theorem dX3_takesNumber_4 : decode cX3_takesNumber 4 = .ok (.invokevirtual 170, 3) := by decide +kernel
theorem dX3_takesNumber_7 : decode cX3_takesNumber 7 = .ok (.putfield 173, 3) := by decide +kernel
theorem dX3_takesNumber_10 : decode cX3_takesNumber 10 = .ok (.aload_n 0, 1) := by decide +kernel
theorem dX3_takesNumber_11 : decode cX3_takesNumber 11 = .ok (.getfield 173, 3) := by decide +kernel
theorem dX3_takesNumber_14 : decode cX3_takesNumber 14 = .ok (.ifCond .lt 7, 3) := by decide +kernel
theorem dX3_takesNumber_17 : decode cX3_takesNumber 17 = .ok (.iconst 1, 1) := by decide +kernel
theorem dX3_takesNumber_18 : decode cX3_takesNumber 18 = .ok (.goto 4, 3) := by decide +kernel
theorem dX3_takesNumber_21 : decode cX3_takesNumber 21 = .ok (.iconst 0, 1) := by decide +kernel
theorem dX3_takesNumber_22 : decode cX3_takesNumber 22 = .ok (.ireturn, 1) := by decide +kernel
set_option maxRecDepth 20000 in
theorem ggX3_takesHours_X3_isNext : GoodIn wsX3_takesHours wsX3_isNext := goodIn_r _ [6, 7, 8, 9, 10, 5, 11, 12, 13, 25, 26, 27, 28, 29, 30, 31, 32, 33, 34, 35, 36, 37] (by decide +kernel) (by decide +kernel)
set_option maxRecDepth 20000 in
theorem gX3_takesHours_X3_isNext : GoodIn wsX3_takesHours (wsV RX3 176 RX3 yX3_isNext wsX3_isNext) := goodIn_app (goodIn_of _ (by decide +kernel)) ggX3_takesHours_X3_isNext
set_option maxRecDepth 20000 in
theorem ggX3_takesHours_X3_takeNumber : GoodIn wsX3_takesHours wsX3_takeNumber := goodIn_r _ [17, 7, 18, 19, 20, 5, 21, 8, 9, 10, 11, 12, 13, 22, 23, 24, 25, 26, 27, 28, 29, 30, 31, 32, 33, 34, 35, 36, 37] (by decide +kernel) (by decide +kernel)
set_option maxRecDepth 20000 in
theorem gX3_takesHours_X3_takeNumber : GoodIn wsX3_takesHours (wsV RX3 170 RX3 yX3_takeNumber wsX3_takeNumber) := goodIn_app (goodIn_of _ (by decide +kernel)) ggX3_takesHours_X3_takeNumber
theorem dX3_takesHours_0 : decode cX3_takesHours 0 = .ok (.aload_n 0, 1) := by decide +kernel
theorem dX3_takesHours_1 : decode cX3_takesHours 1 = .ok (.iconst 0, 1) := by decide +kernel
theorem dX3_takesHours_2 : decode cX3_takesHours 2 = .ok (.putfield 173, 3) := by decide +kernel
theorem dX3_takesHours_5 : decode cX3_takesHours 5 = .ok (.aload_n 0, 1) := by decide +kernel
theorem dX3_takesHours_6 : decode cX3_takesHours 6 = .ok (.bipush 45, 2) := by decide +kernel
theorem dX3_takesHours_8 : decode cX3_takesHours 8 = .ok (.invokevirtual 176, 3) := by decide +kernel
theorem dX3_takesHours_11 : decode cX3_takesHours 11 = .ok (.ifCond .eq 5, 3) := by decide +kernel
theorem dX3_takesHours_14 : decode cX3_takesHours 14 = .ok (.iconst 1, 1) := by decide +kernel
theorem dX3_takesHours_15 : decode cX3_takesHours 15 = .ok (.ireturn, 1) := by decide +kernel
theorem dX3_takesHours_16 : decode cX3_takesHours 16 = .ok (.aload_n 0, 1) := by decide +kernel
theorem dX3_takesHours_17 : decode cX3_takesHours 17 = .ok (.bipush 23, 2) := by decide +kernel
theorem dX3_takesHours_19 : decode cX3_takesHours 19 = .ok (.invokevirtual 170, 3) := by decide +kernel
theorem dX3_takesHours_22 : decode cX3_takesHours 22 = .ok (.istore_n 1, 1) := by decide +kernel
theorem dX3_takesHours_23 : decode cX3_takesHours 23 = .ok (.iload_n 1, 1) := by decide +kernel
theorem dX3_takesHours_24 : decode cX3_takesHours 24 = .ok (.ifCond .lt 36, 3) := by decide +kernel
theorem dX3_takesHours_27 : decode cX3_takesHours 27 = .ok (.aload_n 0, 1) := by decide +kernel
theorem dX3_takesHours_28 : decode cX3_takesHours 28 = .ok (.dup, 1) := by decide +kernel
theorem dX3_takesHours_29 : decode cX3_takesHours 29 = .ok (.getfield 173, 3) := by decide +kernel
theorem dX3_takesHours_32 : decode cX3_takesHours 32 = .ok (.iconst 1, 1) := by decide +kernel
theorem dX3_takesHours_33 : decode cX3_takesHours 33 = .ok (.iload_n 1, 1) := by decide +kernel
theorem dX3_takesHours_34 : decode cX3_takesHours 34 = .ok (.ishl, 1) := by decide +kernel
theorem dX3_takesHours_35 : decode cX3_takesHours 35 = .ok (.ior, 1) := by decide +kernel
theorem dX3_takesHours_36 : decode cX3_takesHours 36 = .ok (.putfield 173, 3) := by decide +kernel
theorem dX3_takesHours_39 : decode cX3_takesHours 39 = .ok (.aload_n 0, 1) := by decide +kernel
theorem dX3_takesHours_40 : decode cX3_takesHours 40 = .ok (.bipush 44, 2) := by decide +kernel
theorem dX3_takesHours_42 : decode cX3_takesHours 42 = .ok (.invokevirtual 176, 3) := by decide +kernel
theorem dX3_takesHours_45 : decode cX3_takesHours 45 = .ok (.ifCond .ne 5, 3) := by decide +kernel
theorem dX3_takesHours_48 : decode cX3_takesHours 48 = .ok (.iconst 1, 1) := by decide +kernel
theorem dX3_takesHours_49 : decode cX3_takesHours 49 = .ok (.ireturn, 1) := by decide +kernel
theorem dX3_takesHours_50 : decode cX3_takesHours 50 = .ok (.aload_n 0, 1) := by decide +kernel
theorem dX3_takesHours_51 : decode cX3_takesHours 51 = .ok (.bipush 23, 2) := by decide +kernel
theorem dX3_takesHours_53 : decode cX3_takesHours 53 = .ok (.invokevirtual 170, 3) := by decide +kernel
theorem dX3_takesHours_56 : decode cX3_takesHours 56 = .ok (.istore_n 1, 1) := by decide +kernel
theorem dX3_takesHours_57 : decode cX3_takesHours 57 = .ok (.goto (-34), 3) := by decide +kernel
theorem dX3_takesHours_60 : decode cX3_takesHours 60 = .ok (.iconst 0, 1) := by decide +kernel
theorem dX3_takesHours_61 : decode cX3_takesHours 61 = .ok (.ireturn, 1) := by decide +kernel
set_option maxRecDepth 20000 in
theorem ggX3_readsOrder_X3_character : GoodIn wsX3_readsOrder wsX3_character := goodIn_r _ [8, 9, 10, 35, 36, 37, 38, 39, 40, 41, 42, 43, 44, 45, 46, 47] (by decide +kernel) (by decide +kernel)
set_option maxRecDepth 20000 in
theorem gX3_readsOrder_X3_character : GoodIn wsX3_readsOrder (wsV RX3 164 RX3 yX3_character wsX3_character) := goodIn_app (goodIn_of _ (by decide +kernel)) ggX3_readsOrder_X3_character
set_option maxRecDepth 20000 in
theorem ggX3_readsOrder_X3_takesNumber : GoodIn wsX3_readsOrder wsX3_takesNumber := goodIn_r _ [14, 15, 16, 17, 18, 7, 19, 1, 20, 21, 22, 23, 4, 5, 6, 8, 9, 10, 24, 25, 26, 35, 36, 37, 38, 39, 40, 41, 42, 43, 44, 45, 46, 47] (by decide +kernel) (by decide +kernel)
set_option maxRecDepth 20000 in
theorem gX3_readsOrder_X3_takesNumber : GoodIn wsX3_readsOrder (wsV RX3 186 RX3 yX3_takesNumber wsX3_takesNumber) := goodIn_app (goodIn_of _ (by decide +kernel)) ggX3_readsOrder_X3_takesNumber
set_option maxRecDepth 20000 in
theorem ggX3_readsOrder_X3_isNext : GoodIn wsX3_readsOrder wsX3_isNext := goodIn_r _ [30, 1, 4, 5, 6, 7, 8, 9, 10, 35, 36, 37, 38, 39, 40, 41, 42, 43, 44, 45, 46, 47] (by decide +kernel) (by decide +kernel)
set_option maxRecDepth 20000 in
theorem gX3_readsOrder_X3_isNext : GoodIn wsX3_readsOrder (wsV RX3 176 RX3 yX3_isNext wsX3_isNext) := goodIn_app (goodIn_of _ (by decide +kernel)) ggX3_readsOrder_X3_isNext
set_option maxRecDepth 20000 in
theorem ggX3_readsOrder_X3_takesHours : GoodIn wsX3_readsOrder wsX3_takesHours := goodIn_r _ [34, 15, 27, 28, 29, 7, 30, 1, 4, 5, 6, 8, 9, 10, 16, 17, 18, 19, 20, 21, 22, 23, 24, 25, 26, 35, 36, 37, 38, 39, 40, 41, 42, 43, 44, 45, 46, 47] (by decide +kernel) (by decide +kernel)
set_option maxRecDepth 20000 in
theorem gX3_readsOrder_X3_takesHours : GoodIn wsX3_readsOrder (wsV RX3 189 RX3 yX3_takesHours wsX3_takesHours) := goodIn_app (goodIn_of _ (by decide +kernel)) ggX3_readsOrder_X3_takesHours
theorem dX3_readsOrder_0 : decode cX3_readsOrder 0 = .ok (.aload_n 0, 1) := by decide +kernel
theorem dX3_readsOrder_1 : decode cX3_readsOrder 1 = .ok (.aload_n 0, 1) := by decide +kernel
theorem dX3_readsOrder_2 : decode cX3_readsOrder 2 = .ok (.aload_n 0, 1) := by decide +kernel
theorem dX3_readsOrder_3 : decode cX3_readsOrder 3 = .ok (.getfield 161, 3) := by decide +kernel
theorem dX3_readsOrder_6 : decode cX3_readsOrder 6 = .ok (.invokevirtual 164, 3) := by decide +kernel
theorem dX3_readsOrder_9 : decode cX3_readsOrder 9 = .ok (.putfield 179, 3) := by decide +kernel
theorem dX3_readsOrder_12 : decode cX3_readsOrder 12 = .ok (.aload_n 0, 1) := by decide +kernel
theorem dX3_readsOrder_13 : decode cX3_readsOrder 13 = .ok (.iconst 0, 1) := by decide +kernel
theorem dX3_readsOrder_14 : decode cX3_readsOrder 14 = .ok (.putfield 182, 3) := by decide +kernel
theorem dX3_readsOrder_17 : decode cX3_readsOrder 17 = .ok (.aload_n 0, 1) := by decide +kernel
theorem dX3_readsOrder_18 : decode cX3_readsOrder 18 = .ok (.dup, 1) := by decide +kernel
theorem dX3_readsOrder_19 : decode cX3_readsOrder 19 = .ok (.getfield 161, 3) := by decide +kernel
theorem dX3_readsOrder_22 : decode cX3_readsOrder 22 = .ok (.iconst 1, 1) := by decide +kernel
theorem dX3_readsOrder_23 : decode cX3_readsOrder 23 = .ok (.iadd, 1) := by decide +kernel
theorem dX3_readsOrder_24 : decode cX3_readsOrder 24 = .ok (.putfield 161, 3) := by decide +kernel
theorem dX3_readsOrder_27 : decode cX3_readsOrder 27 = .ok (.iconst 0, 1) := by decide +kernel
theorem dX3_readsOrder_28 : decode cX3_readsOrder 28 = .ok (.istore_n 1, 1) := by decide +kernel
theorem dX3_readsOrder_29 : decode cX3_readsOrder 29 = .ok (.aload_n 0, 1) := by decide +kernel
theorem dX3_readsOrder_30 : decode cX3_readsOrder 30 = .ok (.getfield 179, 3) := by decide +kernel
theorem dX3_readsOrder_33 : decode cX3_readsOrder 33 = .ok (.lookupswitch 90 #[(99, 80), (107, 80), (112, 51), (114, 85), (116, 80)], 51) := by decide +kernel
theorem dX3_readsOrder_84 : decode cX3_readsOrder 84 = .ok (.aload_n 0, 1) := by decide +kernel
theorem dX3_readsOrder_85 : decode cX3_readsOrder 85 = .ok (.invokevirtual 186, 3) := by decide +kernel
theorem dX3_readsOrder_88 : decode cX3_readsOrder 88 = .ok (.istore_n 1, 1) := by decide +kernel
theorem dX3_readsOrder_89 : decode cX3_readsOrder 89 = .ok (.aload_n 0, 1) := by decide +kernel
theorem dX3_readsOrder_90 : decode cX3_readsOrder 90 = .ok (.iload_n 1, 1) := by decide +kernel
theorem dX3_readsOrder_91 : decode cX3_readsOrder 91 = .ok (.ifCond .eq 16, 3) := by decide +kernel
theorem dX3_readsOrder_94 : decode cX3_readsOrder 94 = .ok (.aload_n 0, 1) := by decide +kernel
theorem dX3_readsOrder_95 : decode cX3_readsOrder 95 = .ok (.bipush 99, 2) := by decide +kernel
theorem dX3_readsOrder_97 : decode cX3_readsOrder 97 = .ok (.invokevirtual 176, 3) := by decide +kernel
theorem dX3_readsOrder_100 : decode cX3_readsOrder 100 = .ok (.ifCond .eq 7, 3) := by decide +kernel
theorem dX3_readsOrder_103 : decode cX3_readsOrder 103 = .ok (.iconst 1, 1) := by decide +kernel
theorem dX3_readsOrder_104 : decode cX3_readsOrder 104 = .ok (.goto 4, 3) := by decide +kernel
theorem dX3_readsOrder_107 : decode cX3_readsOrder 107 = .ok (.iconst 0, 1) := by decide +kernel
theorem dX3_readsOrder_108 : decode cX3_readsOrder 108 = .ok (.putfield 182, 3) := by decide +kernel
theorem dX3_readsOrder_111 : decode cX3_readsOrder 111 = .ok (.iload_n 1, 1) := by decide +kernel
theorem dX3_readsOrder_112 : decode cX3_readsOrder 112 = .ok (.ireturn, 1) := by decide +kernel
theorem dX3_readsOrder_113 : decode cX3_readsOrder 113 = .ok (.aload_n 0, 1) := by decide +kernel
theorem dX3_readsOrder_114 : decode cX3_readsOrder 114 = .ok (.invokevirtual 186, 3) := by decide +kernel
theorem dX3_readsOrder_117 : decode cX3_readsOrder 117 = .ok (.ireturn, 1) := by decide +kernel
theorem dX3_readsOrder_118 : decode cX3_readsOrder 118 = .ok (.aload_n 0, 1) := by decide +kernel
theorem dX3_readsOrder_119 : decode cX3_readsOrder 119 = .ok (.invokevirtual 189, 3) := by decide +kernel
theorem dX3_readsOrder_122 : decode cX3_readsOrder 122 = .ok (.ireturn, 1) := by decide +kernel
theorem dX3_readsOrder_123 : decode cX3_readsOrder 123 = .ok (.aload_n 0, 1) := by decide +kernel
theorem dX3_readsOrder_124 : decode cX3_readsOrder 124 = .ok (.dup, 1) := by decide +kernel
theorem dX3_readsOrder_125 : decode cX3_readsOrder 125 = .ok (.getfield 161, 3) := by decide +kernel
theorem dX3_readsOrder_128 : decode cX3_readsOrder 128 = .ok (.iconst 1, 1) := by decide +kernel
theorem dX3_readsOrder_129 : decode cX3_readsOrder 129 = .ok (.isub, 1) := by decide +kernel
theorem dX3_readsOrder_130 : decode cX3_readsOrder 130 = .ok (.putfield 161, 3) := by decide +kernel
theorem dX3_readsOrder_133 : decode cX3_readsOrder 133 = .ok (.iconst 0, 1) := by decide +kernel
theorem dX3_readsOrder_134 : decode cX3_readsOrder 134 = .ok (.ireturn, 1) := by decide +kernel
set_option maxRecDepth 20000 in
theorem ggX3_findFault_X3_readsOrder : GoodIn wsX3_findFault wsX3_readsOrder := goodIn_r _ [7, 1, 8, 9, 10, 11, 12, 6, 13, 2, 14, 15, 16, 17, 18, 19, 20, 21, 22, 23, 24, 25, 26, 27, 28, 29, 30, 31, 32, 33, 34, 35, 36, 37, 38, 39, 40, 41, 42, 43, 44, 45, 46, 47, 48, 49, 50, 51] (by decide +kernel) (by decide +kernel)
set_option maxRecDepth 20000 in
theorem gX3_findFault_X3_readsOrder : GoodIn wsX3_findFault (wsV RX3 192 RX3 yX3_readsOrder wsX3_readsOrder) := goodIn_app (goodIn_of _ (by decide +kernel)) ggX3_findFault_X3_readsOrder
set_option maxRecDepth 20000 in
theorem ggX3_findFault_X3_isNext : GoodIn wsX3_findFault wsX3_isNext := goodIn_r _ [34, 1, 10, 11, 12, 6, 13, 2, 14, 39, 40, 41, 42, 43, 44, 45, 46, 47, 48, 49, 50, 51] (by decide +kernel) (by decide +kernel)
set_option maxRecDepth 20000 in
theorem gX3_findFault_X3_isNext : GoodIn wsX3_findFault (wsV RX3 176 RX3 yX3_isNext wsX3_isNext) := goodIn_app (goodIn_of _ (by decide +kernel)) ggX3_findFault_X3_isNext
theorem dX3_findFault_0 : decode cX3_findFault 0 = .ok (.aload_n 0, 1) := by decide +kernel
theorem dX3_findFault_1 : decode cX3_findFault 1 = .ok (.iconst 0, 1) := by decide +kernel
theorem dX3_findFault_2 : decode cX3_findFault 2 = .ok (.putfield 161, 3) := by decide +kernel
theorem dX3_findFault_5 : decode cX3_findFault 5 = .ok (.aload_n 0, 1) := by decide +kernel
theorem dX3_findFault_6 : decode cX3_findFault 6 = .ok (.invokevirtual 192, 3) := by decide +kernel
theorem dX3_findFault_9 : decode cX3_findFault 9 = .ok (.ifCond .ne 8, 3) := by decide +kernel
theorem dX3_findFault_12 : decode cX3_findFault 12 = .ok (.aload_n 0, 1) := by decide +kernel
theorem dX3_findFault_13 : decode cX3_findFault 13 = .ok (.getfield 161, 3) := by decide +kernel
theorem dX3_findFault_16 : decode cX3_findFault 16 = .ok (.ireturn, 1) := by decide +kernel
theorem dX3_findFault_17 : decode cX3_findFault 17 = .ok (.aload_n 0, 1) := by decide +kernel
theorem dX3_findFault_18 : decode cX3_findFault 18 = .ok (.getfield 161, 3) := by decide +kernel
theorem dX3_findFault_21 : decode cX3_findFault 21 = .ok (.aload_n 0, 1) := by decide +kernel
theorem dX3_findFault_22 : decode cX3_findFault 22 = .ok (.getfield 153, 3) := by decide +kernel
theorem dX3_findFault_25 : decode cX3_findFault 25 = .ok (.if_icmp .ne 6, 3) := by decide +kernel
theorem dX3_findFault_28 : decode cX3_findFault 28 = .ok (.bipush (-6), 2) := by decide +kernel
theorem dX3_findFault_30 : decode cX3_findFault 30 = .ok (.ireturn, 1) := by decide +kernel
theorem dX3_findFault_31 : decode cX3_findFault 31 = .ok (.aload_n 0, 1) := by decide +kernel
theorem dX3_findFault_32 : decode cX3_findFault 32 = .ok (.bipush 59, 2) := by decide +kernel
theorem dX3_findFault_34 : decode cX3_findFault 34 = .ok (.invokevirtual 176, 3) := by decide +kernel
theorem dX3_findFault_37 : decode cX3_findFault 37 = .ok (.ifCond .ne (-32), 3) := by decide +kernel
theorem dX3_findFault_40 : decode cX3_findFault 40 = .ok (.aload_n 0, 1) := by decide +kernel
theorem dX3_findFault_41 : decode cX3_findFault 41 = .ok (.getfield 161, 3) := by decide +kernel
theorem dX3_findFault_44 : decode cX3_findFault 44 = .ok (.ireturn, 1) := by decide +kernel
set_option maxRecDepth 20000 in
theorem ggX3_fault_X3_findFault : GoodIn wsX3_fault wsX3_findFault := goodIn_r _ [5, 6, 7, 8, 9, 10, 4, 11, 12, 13, 14, 15, 16, 17, 18, 19, 20, 21, 22, 23, 24, 25, 26, 27, 28, 29, 30, 31, 32, 33, 34, 35, 36, 37, 38, 39, 40, 41, 42, 43, 44, 45, 46, 47, 48, 49, 50, 51, 52, 53, 54, 55] (by decide +kernel) (by decide +kernel)
set_option maxRecDepth 20000 in
theorem gX3_fault_X3_findFault : GoodIn wsX3_fault (wsV RX3 195 RX3 yX3_findFault wsX3_findFault) := goodIn_app (goodIn_of _ (by decide +kernel)) ggX3_fault_X3_findFault
theorem dX3_fault_0 : decode cX3_fault 0 = .ok (.aload_n 0, 1) := by decide +kernel
theorem dX3_fault_1 : decode cX3_fault 1 = .ok (.invokevirtual 195, 3) := by decide +kernel
theorem dX3_fault_4 : decode cX3_fault 4 = .ok (.ireturn, 1) := by decide +kernel
set_option maxRecDepth 20000 in
theorem ggX3_whyNotDone_X3_whyNoPiano : GoodIn wsX3_whyNotDone wsX3_whyNoPiano := goodIn_r _ [8, 9, 10, 7, 11, 12, 13, 14, 15, 16, 17, 18, 19, 20, 21, 22, 23, 36, 37, 38, 39, 40, 41, 42, 43, 44, 45, 46, 47, 48] (by decide +kernel) (by decide +kernel)
set_option maxRecDepth 20000 in
theorem gX3_whyNotDone_X3_whyNoPiano : GoodIn wsX3_whyNotDone (wsV RX3 122 RX3 yX3_whyNoPiano wsX3_whyNoPiano) := goodIn_app (goodIn_of _ (by decide +kernel)) ggX3_whyNotDone_X3_whyNoPiano
set_option maxRecDepth 20000 in
theorem ggX3_whyNotDone_X3_whyNoKeeper : GoodIn wsX3_whyNotDone wsX3_whyNoKeeper := goodIn_r _ [27, 23, 9, 10, 7, 11, 12, 13, 14, 36, 37, 38, 39, 40, 41, 42, 43, 44, 45, 46, 47, 48] (by decide +kernel) (by decide +kernel)
set_option maxRecDepth 20000 in
theorem gX3_whyNotDone_X3_whyNoKeeper : GoodIn wsX3_whyNotDone (wsV RX3 132 RX3 yX3_whyNoKeeper wsX3_whyNoKeeper) := goodIn_app (goodIn_of _ (by decide +kernel)) ggX3_whyNotDone_X3_whyNoKeeper
set_option maxRecDepth 20000 in
theorem ggX3_whyNotDone_X3_whyNoCover : GoodIn wsX3_whyNotDone wsX3_whyNoCover := goodIn_r _ [31, 15, 16, 17, 7, 18, 9, 10, 11, 12, 13, 14, 19, 20, 21, 22, 23, 36, 37, 38, 39, 40, 41, 42, 43, 44, 45, 46, 47, 48] (by decide +kernel) (by decide +kernel)
set_option maxRecDepth 20000 in
theorem gX3_whyNotDone_X3_whyNoCover : GoodIn wsX3_whyNotDone (wsV RX3 138 RX3 yX3_whyNoCover wsX3_whyNoCover) := goodIn_app (goodIn_of _ (by decide +kernel)) ggX3_whyNotDone_X3_whyNoCover
set_option maxRecDepth 20000 in
theorem ggX3_whyNotDone_X3_whyNotPassed : GoodIn wsX3_whyNotDone wsX3_whyNotPassed := goodIn_r _ [35, 23, 12, 13, 7, 14, 36, 37, 38, 39, 40, 41, 42, 43, 44, 45, 46, 47, 48] (by decide +kernel) (by decide +kernel)
set_option maxRecDepth 20000 in
theorem gX3_whyNotDone_X3_whyNotPassed : GoodIn wsX3_whyNotDone (wsV RX3 144 RX3 yX3_whyNotPassed wsX3_whyNotPassed) := goodIn_app (goodIn_of _ (by decide +kernel)) ggX3_whyNotDone_X3_whyNotPassed
theorem dX3_whyNotDone_0 : decode cX3_whyNotDone 0 = .ok (.aload_n 0, 1) := by decide +kernel
theorem dX3_whyNotDone_1 : decode cX3_whyNotDone 1 = .ok (.getfield 179, 3) := by decide +kernel
theorem dX3_whyNotDone_4 : decode cX3_whyNotDone 4 = .ok (.lookupswitch 92 #[(99, 74), (107, 65), (112, 44), (116, 83)], 44) := by decide +kernel
theorem dX3_whyNotDone_48 : decode cX3_whyNotDone 48 = .ok (.aload_n 0, 1) := by decide +kernel
theorem dX3_whyNotDone_49 : decode cX3_whyNotDone 49 = .ok (.aload_n 0, 1) := by decide +kernel
theorem dX3_whyNotDone_50 : decode cX3_whyNotDone 50 = .ok (.getfield 173, 3) := by decide +kernel
theorem dX3_whyNotDone_53 : decode cX3_whyNotDone 53 = .ok (.aload_n 0, 1) := by decide +kernel
theorem dX3_whyNotDone_54 : decode cX3_whyNotDone 54 = .ok (.getfield 182, 3) := by decide +kernel
theorem dX3_whyNotDone_57 : decode cX3_whyNotDone 57 = .ok (.ifCond .eq 7, 3) := by decide +kernel
theorem dX3_whyNotDone_60 : decode cX3_whyNotDone 60 = .ok (.iconst 1, 1) := by decide +kernel
theorem dX3_whyNotDone_61 : decode cX3_whyNotDone 61 = .ok (.goto 4, 3) := by decide +kernel
theorem dX3_whyNotDone_64 : decode cX3_whyNotDone 64 = .ok (.iconst 0, 1) := by decide +kernel
theorem dX3_whyNotDone_65 : decode cX3_whyNotDone 65 = .ok (.invokevirtual 122, 3) := by decide +kernel
theorem dX3_whyNotDone_68 : decode cX3_whyNotDone 68 = .ok (.ireturn, 1) := by decide +kernel
theorem dX3_whyNotDone_69 : decode cX3_whyNotDone 69 = .ok (.aload_n 0, 1) := by decide +kernel
theorem dX3_whyNotDone_70 : decode cX3_whyNotDone 70 = .ok (.aload_n 0, 1) := by decide +kernel
theorem dX3_whyNotDone_71 : decode cX3_whyNotDone 71 = .ok (.getfield 173, 3) := by decide +kernel
theorem dX3_whyNotDone_74 : decode cX3_whyNotDone 74 = .ok (.invokevirtual 132, 3) := by decide +kernel
theorem dX3_whyNotDone_77 : decode cX3_whyNotDone 77 = .ok (.ireturn, 1) := by decide +kernel
theorem dX3_whyNotDone_78 : decode cX3_whyNotDone 78 = .ok (.aload_n 0, 1) := by decide +kernel
theorem dX3_whyNotDone_79 : decode cX3_whyNotDone 79 = .ok (.aload_n 0, 1) := by decide +kernel
theorem dX3_whyNotDone_80 : decode cX3_whyNotDone 80 = .ok (.getfield 173, 3) := by decide +kernel
theorem dX3_whyNotDone_83 : decode cX3_whyNotDone 83 = .ok (.invokevirtual 138, 3) := by decide +kernel
theorem dX3_whyNotDone_86 : decode cX3_whyNotDone 86 = .ok (.ireturn, 1) := by decide +kernel
theorem dX3_whyNotDone_87 : decode cX3_whyNotDone 87 = .ok (.aload_n 0, 1) := by decide +kernel
theorem dX3_whyNotDone_88 : decode cX3_whyNotDone 88 = .ok (.aload_n 0, 1) := by decide +kernel
theorem dX3_whyNotDone_89 : decode cX3_whyNotDone 89 = .ok (.getfield 173, 3) := by decide +kernel
theorem dX3_whyNotDone_92 : decode cX3_whyNotDone 92 = .ok (.invokevirtual 144, 3) := by decide +kernel
theorem dX3_whyNotDone_95 : decode cX3_whyNotDone 95 = .ok (.ireturn, 1) := by decide +kernel
theorem dX3_whyNotDone_96 : decode cX3_whyNotDone 96 = .ok (.iconst 0, 1) := by decide +kernel
theorem dX3_whyNotDone_97 : decode cX3_whyNotDone 97 = .ok (.ireturn, 1) := by decide +kernel
set_option maxRecDepth 20000 in
theorem ggX3_doesOrder_X3_pianoComes : GoodIn wsX3_doesOrder wsX3_pianoComes := goodIn_r _ [9, 10, 11, 12, 8, 13, 4, 103, 104, 105, 106, 107, 108, 109, 110, 111, 112, 113, 114, 115] (by decide +kernel) (by decide +kernel)
set_option maxRecDepth 20000 in
theorem gX3_doesOrder_X3_pianoComes : GoodIn wsX3_doesOrder (wsV RX3 125 RX3 yX3_pianoComes wsX3_pianoComes) := goodIn_app (goodIn_of _ (by decide +kernel)) ggX3_doesOrder_X3_pianoComes
set_option maxRecDepth 20000 in
theorem ggX3_doesOrder_X3_keeperComes : GoodIn wsX3_doesOrder wsX3_keeperComes := goodIn_r _ [17, 4, 103, 104, 105, 106, 107, 108, 109, 110, 111, 112, 113, 114, 115] (by decide +kernel) (by decide +kernel)
set_option maxRecDepth 20000 in
theorem gX3_doesOrder_X3_keeperComes : GoodIn wsX3_doesOrder (wsV RX3 135 RX3 yX3_keeperComes wsX3_keeperComes) := goodIn_app (goodIn_of _ (by decide +kernel)) ggX3_doesOrder_X3_keeperComes
set_option maxRecDepth 20000 in
theorem ggX3_doesOrder_X3_setPiano : GoodIn wsX3_doesOrder wsX3_setPiano := goodIn_r _ [13, 4, 103, 104, 105, 106, 107, 108, 109, 110, 111, 112, 113, 114, 115] (by decide +kernel) (by decide +kernel)
set_option maxRecDepth 20000 in
theorem gX3_doesOrder_X3_setPiano : GoodIn wsX3_doesOrder (wsV RX3 75 RX3 yX3_setPiano wsX3_setPiano) := goodIn_app (goodIn_of _ (by decide +kernel)) ggX3_doesOrder_X3_setPiano
set_option maxRecDepth 20000 in
theorem ggX3_doesOrder_X3_passes : GoodIn wsX3_doesOrder wsX3_passes := goodIn_r _ [21, 4, 22, 23, 24, 8, 25, 26, 27, 28, 29, 30, 31, 32, 33, 34, 35, 36, 37, 38, 39, 40, 41, 42, 43, 44, 45, 46, 47, 48, 49, 50, 51, 52, 53, 54, 55, 56, 57, 58, 59, 60, 61, 62, 63, 64, 65, 66, 67, 68, 69, 70, 71, 72, 73, 74, 75, 76, 77, 78, 79, 80, 81, 82, 83, 10, 11, 12, 13, 84, 85, 86, 87, 88, 89, 90, 91, 92, 93, 94, 95, 96, 97, 98, 99, 100, 101, 102, 103, 104, 105, 106, 107, 108, 109, 110, 111, 112, 113, 114, 115] (by decide +kernel) (by decide +kernel)
set_option maxRecDepth 20000 in
theorem gX3_doesOrder_X3_passes : GoodIn wsX3_doesOrder (wsV RX3 147 RX3 yX3_passes wsX3_passes) := goodIn_app (goodIn_of _ (by decide +kernel)) ggX3_doesOrder_X3_passes
theorem dX3_doesOrder_0 : decode cX3_doesOrder 0 = .ok (.aload_n 0, 1) := by decide +kernel
theorem dX3_doesOrder_1 : decode cX3_doesOrder 1 = .ok (.getfield 179, 3) := by decide +kernel
theorem dX3_doesOrder_4 : decode cX3_doesOrder 4 = .ok (.lookupswitch 104 #[(99, 79), (107, 67), (112, 44), (116, 92)], 44) := by decide +kernel
theorem dX3_doesOrder_48 : decode cX3_doesOrder 48 = .ok (.aload_n 0, 1) := by decide +kernel
theorem dX3_doesOrder_49 : decode cX3_doesOrder 49 = .ok (.aload_n 0, 1) := by decide +kernel
theorem dX3_doesOrder_50 : decode cX3_doesOrder 50 = .ok (.getfield 173, 3) := by decide +kernel
theorem dX3_doesOrder_53 : decode cX3_doesOrder 53 = .ok (.aload_n 0, 1) := by decide +kernel
theorem dX3_doesOrder_54 : decode cX3_doesOrder 54 = .ok (.getfield 182, 3) := by decide +kernel
theorem dX3_doesOrder_57 : decode cX3_doesOrder 57 = .ok (.ifCond .eq 7, 3) := by decide +kernel
theorem dX3_doesOrder_60 : decode cX3_doesOrder 60 = .ok (.iconst 1, 1) := by decide +kernel
theorem dX3_doesOrder_61 : decode cX3_doesOrder 61 = .ok (.goto 4, 3) := by decide +kernel
theorem dX3_doesOrder_64 : decode cX3_doesOrder 64 = .ok (.iconst 0, 1) := by decide +kernel
theorem dX3_doesOrder_65 : decode cX3_doesOrder 65 = .ok (.invokevirtual 125, 3) := by decide +kernel
theorem dX3_doesOrder_68 : decode cX3_doesOrder 68 = .ok (.goto 51, 3) := by decide +kernel
theorem dX3_doesOrder_71 : decode cX3_doesOrder 71 = .ok (.aload_n 0, 1) := by decide +kernel
theorem dX3_doesOrder_72 : decode cX3_doesOrder 72 = .ok (.aload_n 0, 1) := by decide +kernel
theorem dX3_doesOrder_73 : decode cX3_doesOrder 73 = .ok (.getfield 173, 3) := by decide +kernel
theorem dX3_doesOrder_76 : decode cX3_doesOrder 76 = .ok (.invokevirtual 135, 3) := by decide +kernel
theorem dX3_doesOrder_79 : decode cX3_doesOrder 79 = .ok (.pop, 1) := by decide +kernel
theorem dX3_doesOrder_80 : decode cX3_doesOrder 80 = .ok (.goto 39, 3) := by decide +kernel
theorem dX3_doesOrder_83 : decode cX3_doesOrder 83 = .ok (.aload_n 0, 1) := by decide +kernel
theorem dX3_doesOrder_84 : decode cX3_doesOrder 84 = .ok (.aload_n 0, 1) := by decide +kernel
theorem dX3_doesOrder_85 : decode cX3_doesOrder 85 = .ok (.getfield 173, 3) := by decide +kernel
theorem dX3_doesOrder_88 : decode cX3_doesOrder 88 = .ok (.iconst 3, 1) := by decide +kernel
theorem dX3_doesOrder_89 : decode cX3_doesOrder 89 = .ok (.iconst 1, 1) := by decide +kernel
theorem dX3_doesOrder_90 : decode cX3_doesOrder 90 = .ok (.invokevirtual 75, 3) := by decide +kernel
theorem dX3_doesOrder_93 : decode cX3_doesOrder 93 = .ok (.goto 26, 3) := by decide +kernel
theorem dX3_doesOrder_96 : decode cX3_doesOrder 96 = .ok (.aload_n 0, 1) := by decide +kernel
theorem dX3_doesOrder_97 : decode cX3_doesOrder 97 = .ok (.aload_n 0, 1) := by decide +kernel
theorem dX3_doesOrder_98 : decode cX3_doesOrder 98 = .ok (.getfield 173, 3) := by decide +kernel
theorem dX3_doesOrder_101 : decode cX3_doesOrder 101 = .ok (.invokevirtual 147, 3) := by decide +kernel
theorem dX3_doesOrder_104 : decode cX3_doesOrder 104 = .ok (.pop, 1) := by decide +kernel
theorem dX3_doesOrder_105 : decode cX3_doesOrder 105 = .ok (.goto 14, 3) := by decide +kernel
theorem dX3_doesOrder_108 : decode cX3_doesOrder 108 = .ok (.aload_n 0, 1) := by decide +kernel
theorem dX3_doesOrder_109 : decode cX3_doesOrder 109 = .ok (.getfield 7, 3) := by decide +kernel
theorem dX3_doesOrder_112 : decode cX3_doesOrder 112 = .ok (.bipush 8, 2) := by decide +kernel
theorem dX3_doesOrder_114 : decode cX3_doesOrder 114 = .ok (.aload_n 0, 1) := by decide +kernel
theorem dX3_doesOrder_115 : decode cX3_doesOrder 115 = .ok (.getfield 173, 3) := by decide +kernel
theorem dX3_doesOrder_118 : decode cX3_doesOrder 118 = .ok (.iastore, 1) := by decide +kernel
theorem dX3_doesOrder_119 : decode cX3_doesOrder 119 = .ok (.return_, 1) := by decide +kernel
set_option maxRecDepth 20000 in
theorem ggX3_carryOut_X3_findFault : GoodIn wsX3_carryOut wsX3_findFault := goodIn_r _ [7, 1, 2, 8, 9, 10, 6, 11, 12, 13, 14, 15, 16, 17, 18, 19, 20, 21, 22, 23, 24, 25, 26, 27, 28, 29, 30, 31, 32, 33, 34, 35, 36, 37, 38, 39, 40, 41, 42, 171, 172, 173, 174, 175, 176, 177, 178, 179, 180, 181, 182, 183] (by decide +kernel) (by decide +kernel)
set_option maxRecDepth 20000 in
theorem gX3_carryOut_X3_findFault : GoodIn wsX3_carryOut (wsV RX3 195 RX3 yX3_findFault wsX3_findFault) := goodIn_app (goodIn_of _ (by decide +kernel)) ggX3_carryOut_X3_findFault
set_option maxRecDepth 20000 in
theorem ggX3_carryOut_X3_record : GoodIn wsX3_carryOut wsX3_record := goodIn_r _ [46, 47, 48, 49, 50, 51, 6, 52, 171, 172, 173, 174, 175, 176, 177, 178, 179, 180, 181, 182, 183] (by decide +kernel) (by decide +kernel)
set_option maxRecDepth 20000 in
theorem gX3_carryOut_X3_record : GoodIn wsX3_carryOut (wsV RX3 118 RX3 yX3_record wsX3_record) := goodIn_app (goodIn_of _ (by decide +kernel)) ggX3_carryOut_X3_record
set_option maxRecDepth 20000 in
theorem ggX3_carryOut_X3_readsOrder : GoodIn wsX3_carryOut wsX3_readsOrder := goodIn_r _ [11, 1, 12, 13, 14, 15, 16, 6, 17, 2, 18, 19, 20, 21, 22, 23, 24, 25, 26, 27, 28, 29, 30, 31, 32, 33, 34, 35, 36, 37, 38, 39, 40, 41, 42, 171, 172, 173, 174, 175, 176, 177, 178, 179, 180, 181, 182, 183] (by decide +kernel) (by decide +kernel)
set_option maxRecDepth 20000 in
theorem gX3_carryOut_X3_readsOrder : GoodIn wsX3_carryOut (wsV RX3 192 RX3 yX3_readsOrder wsX3_readsOrder) := goodIn_app (goodIn_of _ (by decide +kernel)) ggX3_carryOut_X3_readsOrder
set_option maxRecDepth 20000 in
theorem ggX3_carryOut_X3_isNext : GoodIn wsX3_carryOut wsX3_isNext := goodIn_r _ [38, 1, 14, 15, 16, 6, 17, 2, 18, 171, 172, 173, 174, 175, 176, 177, 178, 179, 180, 181, 182, 183] (by decide +kernel) (by decide +kernel)
set_option maxRecDepth 20000 in
theorem gX3_carryOut_X3_isNext : GoodIn wsX3_carryOut (wsV RX3 176 RX3 yX3_isNext wsX3_isNext) := goodIn_app (goodIn_of _ (by decide +kernel)) ggX3_carryOut_X3_isNext
set_option maxRecDepth 20000 in
theorem ggX3_carryOut_X3_whyNotDone : GoodIn wsX3_carryOut wsX3_whyNotDone := goodIn_r _ [56, 12, 23, 13, 57, 58, 59, 6, 60, 61, 62, 63, 32, 33, 34, 64, 65, 66, 67, 68, 69, 70, 71, 49, 72, 73, 74, 75, 76, 77, 78, 79, 80, 81, 82, 83, 171, 172, 173, 174, 175, 176, 177, 178, 179, 180, 181, 182, 183] (by decide +kernel) (by decide +kernel)
set_option maxRecDepth 20000 in
theorem gX3_carryOut_X3_whyNotDone : GoodIn wsX3_carryOut (wsV RX3 198 RX3 yX3_whyNotDone wsX3_whyNotDone) := goodIn_app (goodIn_of _ (by decide +kernel)) ggX3_carryOut_X3_whyNotDone
set_option maxRecDepth 20000 in
theorem ggX3_carryOut_X3_doesOrder : GoodIn wsX3_carryOut wsX3_doesOrder := goodIn_r _ [87, 12, 23, 13, 49, 88, 89, 90, 6, 91, 92, 93, 94, 95, 96, 97, 98, 99, 100, 101, 102, 103, 104, 105, 106, 107, 108, 109, 110, 111, 112, 113, 114, 115, 116, 117, 118, 119, 120, 121, 122, 123, 124, 125, 126, 127, 128, 129, 130, 131, 132, 64, 65, 66, 67, 61, 62, 63, 32, 33, 34, 68, 69, 70, 71, 133, 134, 135, 136, 137, 138, 139, 140, 141, 142, 143, 144, 145, 146, 147, 148, 149, 150, 151, 152, 153, 154, 155, 156, 157, 158, 159, 160, 161, 162, 163, 164, 165, 166, 167, 168, 169, 170, 171, 172, 173, 174, 175, 176, 177, 178, 179, 180, 181, 182, 183] (by decide +kernel) (by decide +kernel)
set_option maxRecDepth 20000 in
theorem gX3_carryOut_X3_doesOrder : GoodIn wsX3_carryOut (wsV RX3 201 RX3 yX3_doesOrder wsX3_doesOrder) := goodIn_app (goodIn_of _ (by decide +kernel)) ggX3_carryOut_X3_doesOrder
theorem dX3_carryOut_0 : decode cX3_carryOut 0 = .ok (.aload_n 0, 1) := by decide +kernel
theorem dX3_carryOut_1 : decode cX3_carryOut 1 = .ok (.invokevirtual 195, 3) := by decide +kernel
theorem dX3_carryOut_4 : decode cX3_carryOut 4 = .ok (.bipush (-6), 2) := by decide +kernel
theorem dX3_carryOut_6 : decode cX3_carryOut 6 = .ok (.if_icmp .eq 6, 3) := by decide +kernel
theorem dX3_carryOut_9 : decode cX3_carryOut 9 = .ok (.bipush (-3), 2) := by decide +kernel
theorem dX3_carryOut_11 : decode cX3_carryOut 11 = .ok (.ireturn, 1) := by decide +kernel
theorem dX3_carryOut_12 : decode cX3_carryOut 12 = .ok (.aload_n 0, 1) := by decide +kernel
theorem dX3_carryOut_13 : decode cX3_carryOut 13 = .ok (.invokevirtual 118, 3) := by decide +kernel
theorem dX3_carryOut_16 : decode cX3_carryOut 16 = .ok (.iconst 0, 1) := by decide +kernel
theorem dX3_carryOut_17 : decode cX3_carryOut 17 = .ok (.istore_n 1, 1) := by decide +kernel
theorem dX3_carryOut_18 : decode cX3_carryOut 18 = .ok (.aload_n 0, 1) := by decide +kernel
theorem dX3_carryOut_19 : decode cX3_carryOut 19 = .ok (.iconst 0, 1) := by decide +kernel
theorem dX3_carryOut_20 : decode cX3_carryOut 20 = .ok (.putfield 161, 3) := by decide +kernel
theorem dX3_carryOut_23 : decode cX3_carryOut 23 = .ok (.iconst 1, 1) := by decide +kernel
theorem dX3_carryOut_24 : decode cX3_carryOut 24 = .ok (.istore_n 2, 1) := by decide +kernel
theorem dX3_carryOut_25 : decode cX3_carryOut 25 = .ok (.iload_n 2, 1) := by decide +kernel
theorem dX3_carryOut_26 : decode cX3_carryOut 26 = .ok (.ifCond .eq 53, 3) := by decide +kernel
theorem dX3_carryOut_29 : decode cX3_carryOut 29 = .ok (.aload_n 0, 1) := by decide +kernel
theorem dX3_carryOut_30 : decode cX3_carryOut 30 = .ok (.getfield 161, 3) := by decide +kernel
theorem dX3_carryOut_33 : decode cX3_carryOut 33 = .ok (.aload_n 0, 1) := by decide +kernel
theorem dX3_carryOut_34 : decode cX3_carryOut 34 = .ok (.getfield 153, 3) := by decide +kernel
theorem dX3_carryOut_37 : decode cX3_carryOut 37 = .ok (.if_icmp .ge 42, 3) := by decide +kernel
theorem dX3_carryOut_40 : decode cX3_carryOut 40 = .ok (.aload_n 0, 1) := by decide +kernel
theorem dX3_carryOut_41 : decode cX3_carryOut 41 = .ok (.invokevirtual 192, 3) := by decide +kernel
theorem dX3_carryOut_44 : decode cX3_carryOut 44 = .ok (.pop, 1) := by decide +kernel
theorem dX3_carryOut_45 : decode cX3_carryOut 45 = .ok (.aload_n 0, 1) := by decide +kernel
theorem dX3_carryOut_46 : decode cX3_carryOut 46 = .ok (.bipush 59, 2) := by decide +kernel
theorem dX3_carryOut_48 : decode cX3_carryOut 48 = .ok (.invokevirtual 176, 3) := by decide +kernel
theorem dX3_carryOut_51 : decode cX3_carryOut 51 = .ok (.pop, 1) := by decide +kernel
theorem dX3_carryOut_52 : decode cX3_carryOut 52 = .ok (.aload_n 0, 1) := by decide +kernel
theorem dX3_carryOut_53 : decode cX3_carryOut 53 = .ok (.invokevirtual 198, 3) := by decide +kernel
theorem dX3_carryOut_56 : decode cX3_carryOut 56 = .ok (.ifCond .ne 7, 3) := by decide +kernel
theorem dX3_carryOut_59 : decode cX3_carryOut 59 = .ok (.iconst 1, 1) := by decide +kernel
theorem dX3_carryOut_60 : decode cX3_carryOut 60 = .ok (.goto 4, 3) := by decide +kernel
theorem dX3_carryOut_63 : decode cX3_carryOut 63 = .ok (.iconst 0, 1) := by decide +kernel
theorem dX3_carryOut_64 : decode cX3_carryOut 64 = .ok (.istore_n 2, 1) := by decide +kernel
theorem dX3_carryOut_65 : decode cX3_carryOut 65 = .ok (.iload_n 2, 1) := by decide +kernel
theorem dX3_carryOut_66 : decode cX3_carryOut 66 = .ok (.ifCond .eq (-41), 3) := by decide +kernel
theorem dX3_carryOut_69 : decode cX3_carryOut 69 = .ok (.aload_n 0, 1) := by decide +kernel
theorem dX3_carryOut_70 : decode cX3_carryOut 70 = .ok (.invokevirtual 201, 3) := by decide +kernel
theorem dX3_carryOut_73 : decode cX3_carryOut 73 = .ok (.iinc 1 1, 3) := by decide +kernel
theorem dX3_carryOut_76 : decode cX3_carryOut 76 = .ok (.goto (-51), 3) := by decide +kernel
theorem dX3_carryOut_79 : decode cX3_carryOut 79 = .ok (.aload_n 0, 1) := by decide +kernel
theorem dX3_carryOut_80 : decode cX3_carryOut 80 = .ok (.iconst 0, 1) := by decide +kernel
theorem dX3_carryOut_81 : decode cX3_carryOut 81 = .ok (.putfield 153, 3) := by decide +kernel
theorem dX3_carryOut_84 : decode cX3_carryOut 84 = .ok (.iload_n 1, 1) := by decide +kernel
theorem dX3_carryOut_85 : decode cX3_carryOut 85 = .ok (.ireturn, 1) := by decide +kernel
set_option maxRecDepth 20000 in
theorem ggX3_undo_X3_moves : GoodIn wsX3_undo wsX3_moves := goodIn_r _ [7] (by decide +kernel) (by decide +kernel)
set_option maxRecDepth 20000 in
theorem gX3_undo_X3_moves : GoodIn wsX3_undo (va_wsS RX3 32 yX3_moves wsX3_moves) := goodIn_app (goodIn_of _ (by decide +kernel)) ggX3_undo_X3_moves
theorem dX3_undo_0 : decode cX3_undo 0 = .ok (.aload_n 0, 1) := by decide +kernel
theorem dX3_undo_1 : decode cX3_undo 1 = .ok (.getfield 28, 3) := by decide +kernel
theorem dX3_undo_4 : decode cX3_undo 4 = .ok (.ifCond .ne 6, 3) := by decide +kernel
theorem dX3_undo_7 : decode cX3_undo 7 = .ok (.bipush (-5), 2) := by decide +kernel
theorem dX3_undo_9 : decode cX3_undo 9 = .ok (.ireturn, 1) := by decide +kernel
theorem dX3_undo_10 : decode cX3_undo 10 = .ok (.aload_n 0, 1) := by decide +kernel
theorem dX3_undo_11 : decode cX3_undo 11 = .ok (.dup, 1) := by decide +kernel
theorem dX3_undo_12 : decode cX3_undo 12 = .ok (.getfield 28, 3) := by decide +kernel
theorem dX3_undo_15 : decode cX3_undo 15 = .ok (.iconst 1, 1) := by decide +kernel
theorem dX3_undo_16 : decode cX3_undo 16 = .ok (.isub, 1) := by decide +kernel
theorem dX3_undo_17 : decode cX3_undo 17 = .ok (.putfield 28, 3) := by decide +kernel
theorem dX3_undo_20 : decode cX3_undo 20 = .ok (.aload_n 0, 1) := by decide +kernel
theorem dX3_undo_21 : decode cX3_undo 21 = .ok (.getfield 16, 3) := by decide +kernel
theorem dX3_undo_24 : decode cX3_undo 24 = .ok (.aload_n 0, 1) := by decide +kernel
theorem dX3_undo_25 : decode cX3_undo 25 = .ok (.getfield 28, 3) := by decide +kernel
theorem dX3_undo_28 : decode cX3_undo 28 = .ok (.bipush 109, 2) := by decide +kernel
theorem dX3_undo_30 : decode cX3_undo 30 = .ok (.imul, 1) := by decide +kernel
theorem dX3_undo_31 : decode cX3_undo 31 = .ok (.aload_n 0, 1) := by decide +kernel
theorem dX3_undo_32 : decode cX3_undo 32 = .ok (.getfield 7, 3) := by decide +kernel
theorem dX3_undo_35 : decode cX3_undo 35 = .ok (.iconst 0, 1) := by decide +kernel
theorem dX3_undo_36 : decode cX3_undo 36 = .ok (.invokestatic 32, 3) := by decide +kernel
theorem dX3_undo_39 : decode cX3_undo 39 = .ok (.aload_n 0, 1) := by decide +kernel
theorem dX3_undo_40 : decode cX3_undo 40 = .ok (.getfield 28, 3) := by decide +kernel
theorem dX3_undo_43 : decode cX3_undo 43 = .ok (.ireturn, 1) := by decide +kernel
set_option maxRecDepth 20000 in
theorem ggX3_save_X3_within : GoodIn wsX3_save wsX3_within := goodIn_r _ [7] (by decide +kernel) (by decide +kernel)
set_option maxRecDepth 20000 in
theorem gX3_save_X3_within : GoodIn wsX3_save (va_wsS RX3 36 yX3_within wsX3_within) := goodIn_app (goodIn_of _ (by decide +kernel)) ggX3_save_X3_within
set_option maxRecDepth 20000 in
theorem ggX3_save_X3_moves : GoodIn wsX3_save wsX3_moves := goodIn_r _ [10] (by decide +kernel) (by decide +kernel)
set_option maxRecDepth 20000 in
theorem gX3_save_X3_moves : GoodIn wsX3_save (va_wsS RX3 32 yX3_moves wsX3_moves) := goodIn_app (goodIn_of _ (by decide +kernel)) ggX3_save_X3_moves
set_option maxRecDepth 20000 in
theorem ggX3_save_X3_pianosThere : GoodIn wsX3_save wsX3_pianosThere := goodIn_r _ [14, 15, 16, 17, 6, 18, 1, 19, 20, 21, 22, 23, 24, 25, 26, 27, 28, 29, 30, 31] (by decide +kernel) (by decide +kernel)
set_option maxRecDepth 20000 in
theorem gX3_save_X3_pianosThere : GoodIn wsX3_save (wsV RX3 128 RX3 yX3_pianosThere wsX3_pianosThere) := goodIn_app (goodIn_of _ (by decide +kernel)) ggX3_save_X3_pianosThere
theorem dX3_save_0 : decode cX3_save 0 = .ok (.iload_n 1, 1) := by decide +kernel
theorem dX3_save_1 : decode cX3_save 1 = .ok (.iconst 0, 1) := by decide +kernel
theorem dX3_save_2 : decode cX3_save 2 = .ok (.iconst 1, 1) := by decide +kernel
theorem dX3_save_3 : decode cX3_save 3 = .ok (.invokestatic 36, 3) := by decide +kernel
theorem dX3_save_6 : decode cX3_save 6 = .ok (.ifCond .ne 6, 3) := by decide +kernel
theorem dX3_save_9 : decode cX3_save 9 = .ok (.bipush (-2), 2) := by decide +kernel
theorem dX3_save_11 : decode cX3_save 11 = .ok (.ireturn, 1) := by decide +kernel
theorem dX3_save_12 : decode cX3_save 12 = .ok (.aload_n 0, 1) := by decide +kernel
theorem dX3_save_13 : decode cX3_save 13 = .ok (.getfield 7, 3) := by decide +kernel
theorem dX3_save_16 : decode cX3_save 16 = .ok (.iconst 0, 1) := by decide +kernel
theorem dX3_save_17 : decode cX3_save 17 = .ok (.aload_n 0, 1) := by decide +kernel
theorem dX3_save_18 : decode cX3_save 18 = .ok (.getfield 19, 3) := by decide +kernel
theorem dX3_save_21 : decode cX3_save 21 = .ok (.bipush 109, 2) := by decide +kernel
theorem dX3_save_23 : decode cX3_save 23 = .ok (.iload_n 1, 1) := by decide +kernel
theorem dX3_save_24 : decode cX3_save 24 = .ok (.imul, 1) := by decide +kernel
theorem dX3_save_25 : decode cX3_save 25 = .ok (.invokestatic 32, 3) := by decide +kernel
theorem dX3_save_28 : decode cX3_save 28 = .ok (.aload_n 0, 1) := by decide +kernel
theorem dX3_save_29 : decode cX3_save 29 = .ok (.getfield 22, 3) := by decide +kernel
theorem dX3_save_32 : decode cX3_save 32 = .ok (.iload_n 1, 1) := by decide +kernel
theorem dX3_save_33 : decode cX3_save 33 = .ok (.iconst 1, 1) := by decide +kernel
theorem dX3_save_34 : decode cX3_save 34 = .ok (.iastore, 1) := by decide +kernel
theorem dX3_save_35 : decode cX3_save 35 = .ok (.aload_n 0, 1) := by decide +kernel
theorem dX3_save_36 : decode cX3_save 36 = .ok (.invokevirtual 128, 3) := by decide +kernel
theorem dX3_save_39 : decode cX3_save 39 = .ok (.ireturn, 1) := by decide +kernel
set_option maxRecDepth 20000 in
theorem ggX3_restore_X3_within : GoodIn wsX3_restore wsX3_within := goodIn_r _ [7] (by decide +kernel) (by decide +kernel)
set_option maxRecDepth 20000 in
theorem gX3_restore_X3_within : GoodIn wsX3_restore (va_wsS RX3 36 yX3_within wsX3_within) := goodIn_app (goodIn_of _ (by decide +kernel)) ggX3_restore_X3_within
set_option maxRecDepth 20000 in
theorem ggX3_restore_X3_record : GoodIn wsX3_restore wsX3_record := goodIn_r _ [11, 12, 13, 3, 14, 15, 6, 16, 25, 26, 27, 28, 29, 30, 31, 32, 33, 34, 35, 36, 37] (by decide +kernel) (by decide +kernel)
set_option maxRecDepth 20000 in
theorem gX3_restore_X3_record : GoodIn wsX3_restore (wsV RX3 118 RX3 yX3_record wsX3_record) := goodIn_app (goodIn_of _ (by decide +kernel)) ggX3_restore_X3_record
set_option maxRecDepth 20000 in
theorem ggX3_restore_X3_moves : GoodIn wsX3_restore wsX3_moves := goodIn_r _ [16] (by decide +kernel) (by decide +kernel)
set_option maxRecDepth 20000 in
theorem gX3_restore_X3_moves : GoodIn wsX3_restore (va_wsS RX3 32 yX3_moves wsX3_moves) := goodIn_app (goodIn_of _ (by decide +kernel)) ggX3_restore_X3_moves
set_option maxRecDepth 20000 in
theorem ggX3_restore_X3_pianosThere : GoodIn wsX3_restore wsX3_pianosThere := goodIn_r _ [20, 21, 22, 23, 6, 24, 3, 25, 26, 27, 28, 29, 30, 31, 32, 33, 34, 35, 36, 37] (by decide +kernel) (by decide +kernel)
set_option maxRecDepth 20000 in
theorem gX3_restore_X3_pianosThere : GoodIn wsX3_restore (wsV RX3 128 RX3 yX3_pianosThere wsX3_pianosThere) := goodIn_app (goodIn_of _ (by decide +kernel)) ggX3_restore_X3_pianosThere
theorem dX3_restore_0 : decode cX3_restore 0 = .ok (.iload_n 1, 1) := by decide +kernel
theorem dX3_restore_1 : decode cX3_restore 1 = .ok (.iconst 0, 1) := by decide +kernel
theorem dX3_restore_2 : decode cX3_restore 2 = .ok (.iconst 1, 1) := by decide +kernel
theorem dX3_restore_3 : decode cX3_restore 3 = .ok (.invokestatic 36, 3) := by decide +kernel
theorem dX3_restore_6 : decode cX3_restore 6 = .ok (.ifCond .ne 6, 3) := by decide +kernel
theorem dX3_restore_9 : decode cX3_restore 9 = .ok (.bipush (-2), 2) := by decide +kernel
theorem dX3_restore_11 : decode cX3_restore 11 = .ok (.ireturn, 1) := by decide +kernel
theorem dX3_restore_12 : decode cX3_restore 12 = .ok (.aload_n 0, 1) := by decide +kernel
theorem dX3_restore_13 : decode cX3_restore 13 = .ok (.getfield 22, 3) := by decide +kernel
theorem dX3_restore_16 : decode cX3_restore 16 = .ok (.iload_n 1, 1) := by decide +kernel
theorem dX3_restore_17 : decode cX3_restore 17 = .ok (.iaload, 1) := by decide +kernel
theorem dX3_restore_18 : decode cX3_restore 18 = .ok (.ifCond .ne 6, 3) := by decide +kernel
theorem dX3_restore_21 : decode cX3_restore 21 = .ok (.bipush (-5), 2) := by decide +kernel
theorem dX3_restore_23 : decode cX3_restore 23 = .ok (.ireturn, 1) := by decide +kernel
theorem dX3_restore_24 : decode cX3_restore 24 = .ok (.aload_n 0, 1) := by decide +kernel
theorem dX3_restore_25 : decode cX3_restore 25 = .ok (.invokevirtual 118, 3) := by decide +kernel
theorem dX3_restore_28 : decode cX3_restore 28 = .ok (.aload_n 0, 1) := by decide +kernel
theorem dX3_restore_29 : decode cX3_restore 29 = .ok (.getfield 19, 3) := by decide +kernel
theorem dX3_restore_32 : decode cX3_restore 32 = .ok (.bipush 109, 2) := by decide +kernel
theorem dX3_restore_34 : decode cX3_restore 34 = .ok (.iload_n 1, 1) := by decide +kernel
theorem dX3_restore_35 : decode cX3_restore 35 = .ok (.imul, 1) := by decide +kernel
theorem dX3_restore_36 : decode cX3_restore 36 = .ok (.aload_n 0, 1) := by decide +kernel
theorem dX3_restore_37 : decode cX3_restore 37 = .ok (.getfield 7, 3) := by decide +kernel
theorem dX3_restore_40 : decode cX3_restore 40 = .ok (.iconst 0, 1) := by decide +kernel
theorem dX3_restore_41 : decode cX3_restore 41 = .ok (.invokestatic 32, 3) := by decide +kernel
theorem dX3_restore_44 : decode cX3_restore 44 = .ok (.aload_n 0, 1) := by decide +kernel
theorem dX3_restore_45 : decode cX3_restore 45 = .ok (.invokevirtual 128, 3) := by decide +kernel
theorem dX3_restore_48 : decode cX3_restore 48 = .ok (.ireturn, 1) := by decide +kernel
theorem dJ6_bitCount_0f7a4_0 : decode cJ6_bitCount_0f7a4 0 = .ok (.iload_n 0, 1) := by decide +kernel
theorem dJ6_bitCount_0f7a4_1 : decode cJ6_bitCount_0f7a4 1 = .ok (.iload_n 0, 1) := by decide +kernel
theorem dJ6_bitCount_0f7a4_2 : decode cJ6_bitCount_0f7a4 2 = .ok (.iconst 1, 1) := by decide +kernel
theorem dJ6_bitCount_0f7a4_3 : decode cJ6_bitCount_0f7a4 3 = .ok (.iushr, 1) := by decide +kernel
theorem dJ6_bitCount_0f7a4_4 : decode cJ6_bitCount_0f7a4 4 = .ok (.ldc_w 265, 3) := by decide +kernel
theorem dJ6_bitCount_0f7a4_7 : decode cJ6_bitCount_0f7a4 7 = .ok (.iand, 1) := by decide +kernel
theorem dJ6_bitCount_0f7a4_8 : decode cJ6_bitCount_0f7a4 8 = .ok (.isub, 1) := by decide +kernel
theorem dJ6_bitCount_0f7a4_9 : decode cJ6_bitCount_0f7a4 9 = .ok (.istore_n 0, 1) := by decide +kernel
theorem dJ6_bitCount_0f7a4_10 : decode cJ6_bitCount_0f7a4 10 = .ok (.iload_n 0, 1) := by decide +kernel
theorem dJ6_bitCount_0f7a4_11 : decode cJ6_bitCount_0f7a4 11 = .ok (.ldc_w 266, 3) := by decide +kernel
theorem dJ6_bitCount_0f7a4_14 : decode cJ6_bitCount_0f7a4 14 = .ok (.iand, 1) := by decide +kernel
theorem dJ6_bitCount_0f7a4_15 : decode cJ6_bitCount_0f7a4 15 = .ok (.iload_n 0, 1) := by decide +kernel
theorem dJ6_bitCount_0f7a4_16 : decode cJ6_bitCount_0f7a4 16 = .ok (.iconst 2, 1) := by decide +kernel
theorem dJ6_bitCount_0f7a4_17 : decode cJ6_bitCount_0f7a4 17 = .ok (.iushr, 1) := by decide +kernel
theorem dJ6_bitCount_0f7a4_18 : decode cJ6_bitCount_0f7a4 18 = .ok (.ldc_w 266, 3) := by decide +kernel
theorem dJ6_bitCount_0f7a4_21 : decode cJ6_bitCount_0f7a4 21 = .ok (.iand, 1) := by decide +kernel
theorem dJ6_bitCount_0f7a4_22 : decode cJ6_bitCount_0f7a4 22 = .ok (.iadd, 1) := by decide +kernel
theorem dJ6_bitCount_0f7a4_23 : decode cJ6_bitCount_0f7a4 23 = .ok (.istore_n 0, 1) := by decide +kernel
theorem dJ6_bitCount_0f7a4_24 : decode cJ6_bitCount_0f7a4 24 = .ok (.iload_n 0, 1) := by decide +kernel
theorem dJ6_bitCount_0f7a4_25 : decode cJ6_bitCount_0f7a4 25 = .ok (.iload_n 0, 1) := by decide +kernel
theorem dJ6_bitCount_0f7a4_26 : decode cJ6_bitCount_0f7a4 26 = .ok (.iconst 4, 1) := by decide +kernel
theorem dJ6_bitCount_0f7a4_27 : decode cJ6_bitCount_0f7a4 27 = .ok (.iushr, 1) := by decide +kernel
theorem dJ6_bitCount_0f7a4_28 : decode cJ6_bitCount_0f7a4 28 = .ok (.iadd, 1) := by decide +kernel
theorem dJ6_bitCount_0f7a4_29 : decode cJ6_bitCount_0f7a4 29 = .ok (.ldc_w 267, 3) := by decide +kernel
theorem dJ6_bitCount_0f7a4_32 : decode cJ6_bitCount_0f7a4 32 = .ok (.iand, 1) := by decide +kernel
theorem dJ6_bitCount_0f7a4_33 : decode cJ6_bitCount_0f7a4 33 = .ok (.istore_n 0, 1) := by decide +kernel
theorem dJ6_bitCount_0f7a4_34 : decode cJ6_bitCount_0f7a4 34 = .ok (.iload_n 0, 1) := by decide +kernel
theorem dJ6_bitCount_0f7a4_35 : decode cJ6_bitCount_0f7a4 35 = .ok (.iload_n 0, 1) := by decide +kernel
theorem dJ6_bitCount_0f7a4_36 : decode cJ6_bitCount_0f7a4 36 = .ok (.bipush 8, 2) := by decide +kernel
theorem dJ6_bitCount_0f7a4_38 : decode cJ6_bitCount_0f7a4 38 = .ok (.iushr, 1) := by decide +kernel
theorem dJ6_bitCount_0f7a4_39 : decode cJ6_bitCount_0f7a4 39 = .ok (.iadd, 1) := by decide +kernel
theorem dJ6_bitCount_0f7a4_40 : decode cJ6_bitCount_0f7a4 40 = .ok (.istore_n 0, 1) := by decide +kernel
theorem dJ6_bitCount_0f7a4_41 : decode cJ6_bitCount_0f7a4 41 = .ok (.iload_n 0, 1) := by decide +kernel
theorem dJ6_bitCount_0f7a4_42 : decode cJ6_bitCount_0f7a4 42 = .ok (.iload_n 0, 1) := by decide +kernel
theorem dJ6_bitCount_0f7a4_43 : decode cJ6_bitCount_0f7a4 43 = .ok (.bipush 16, 2) := by decide +kernel
theorem dJ6_bitCount_0f7a4_45 : decode cJ6_bitCount_0f7a4 45 = .ok (.iushr, 1) := by decide +kernel
theorem dJ6_bitCount_0f7a4_46 : decode cJ6_bitCount_0f7a4 46 = .ok (.iadd, 1) := by decide +kernel
theorem dJ6_bitCount_0f7a4_47 : decode cJ6_bitCount_0f7a4 47 = .ok (.istore_n 0, 1) := by decide +kernel
theorem dJ6_bitCount_0f7a4_48 : decode cJ6_bitCount_0f7a4 48 = .ok (.iload_n 0, 1) := by decide +kernel
theorem dJ6_bitCount_0f7a4_49 : decode cJ6_bitCount_0f7a4 49 = .ok (.bipush 63, 2) := by decide +kernel
theorem dJ6_bitCount_0f7a4_51 : decode cJ6_bitCount_0f7a4 51 = .ok (.iand, 1) := by decide +kernel
theorem dJ6_bitCount_0f7a4_52 : decode cJ6_bitCount_0f7a4 52 = .ok (.ireturn, 1) := by decide +kernel
theorem dJ9_max_7cf53_0 : decode cJ9_max_7cf53 0 = .ok (.iload_n 0, 1) := by decide +kernel
theorem dJ9_max_7cf53_1 : decode cJ9_max_7cf53 1 = .ok (.iload_n 1, 1) := by decide +kernel
theorem dJ9_max_7cf53_2 : decode cJ9_max_7cf53 2 = .ok (.if_icmp .lt 7, 3) := by decide +kernel
theorem dJ9_max_7cf53_5 : decode cJ9_max_7cf53 5 = .ok (.iload_n 0, 1) := by decide +kernel
theorem dJ9_max_7cf53_6 : decode cJ9_max_7cf53 6 = .ok (.goto 4, 3) := by decide +kernel
theorem dJ9_max_7cf53_9 : decode cJ9_max_7cf53 9 = .ok (.iload_n 1, 1) := by decide +kernel
theorem dJ9_max_7cf53_10 : decode cJ9_max_7cf53 10 = .ok (.ireturn, 1) := by decide +kernel
theorem dJ9_min_7cf53_0 : decode cJ9_min_7cf53 0 = .ok (.iload_n 0, 1) := by decide +kernel
theorem dJ9_min_7cf53_1 : decode cJ9_min_7cf53 1 = .ok (.iload_n 1, 1) := by decide +kernel
theorem dJ9_min_7cf53_2 : decode cJ9_min_7cf53 2 = .ok (.if_icmp .gt 7, 3) := by decide +kernel
theorem dJ9_min_7cf53_5 : decode cJ9_min_7cf53 5 = .ok (.iload_n 0, 1) := by decide +kernel
theorem dJ9_min_7cf53_6 : decode cJ9_min_7cf53 6 = .ok (.goto 4, 3) := by decide +kernel
theorem dJ9_min_7cf53_9 : decode cJ9_min_7cf53 9 = .ok (.iload_n 1, 1) := by decide +kernel
theorem dJ9_min_7cf53_10 : decode cJ9_min_7cf53 10 = .ok (.ireturn, 1) := by decide +kernel
abbrev vwCl : List vw_C := [(RX0, TX0, 8), (RX1, TX1, 18), (RX2, TX2, 8), (RX3, TX3, 13)]
end
section
/-! the base: words between nest mates, layouts of the modules, contracts and calls of one form -/
def nwl : List Cond := [
  .fieldLinkNest "PianoCovers$Street" 67 "PianoCovers" "FIRST_SETTING" "[I" "PianoCovers",
  .fieldLinkNest "PianoCovers" 118 "PianoCovers$Street" "settings" "[I" "PianoCovers",
  .fieldLinkNest "PianoCovers" 74 "PianoCovers$Street" "pianos" "I" "PianoCovers",
  .fieldLinkNest "PianoCovers" 127 "PianoCovers$Street" "lying" "I" "PianoCovers",
  .fieldLinkNest "PianoCovers" 124 "PianoCovers$Street" "covered" "I" "PianoCovers",
  .fieldLinkNest "PianoCovers" 81 "PianoCovers$Street" "pitch" "[I" "PianoCovers",
  .fieldLinkNest "PianoCovers" 85 "PianoCovers$Street" "damp" "[I" "PianoCovers",
  .fieldLinkNest "PianoCovers" 91 "PianoCovers$Street" "earned" "[I" "PianoCovers",
  .fieldLinkNest "PianoCovers" 94 "PianoCovers$Street" "rainedOn" "[I" "PianoCovers",
  .fieldLinkNest "PianoCovers" 100 "PianoCovers$Street" "keepers" "I" "PianoCovers",
  .fieldLinkNest "PianoCovers" 103 "PianoCovers$Street" "keeperAt" "[I" "PianoCovers",
  .fieldLinkNest "PianoCovers" 106 "PianoCovers$Street" "timesCovered" "[I" "PianoCovers",
  .fieldLinkNest "PianoCovers" 109 "PianoCovers$Street" "timesOpened" "[I" "PianoCovers",
  .fieldLinkNest "PianoCovers" 112 "PianoCovers$Street" "timesTuned" "[I" "PianoCovers",
  .fieldLinkNest "PianoCovers" 115 "PianoCovers$Street" "placesWent" "[I" "PianoCovers",
  .fieldLinkNest "PianoCovers" 136 "PianoCovers$Street" "rainHours" "I" "PianoCovers",
  .fieldLinkNest "PianoCovers" 121 "PianoCovers$Street" "hours" "I" "PianoCovers",
  .fieldLinkNest "PianoCovers" 130 "PianoCovers$Street" "coins" "I" "PianoCovers",
  .fieldLinkNest "PianoCovers" 133 "PianoCovers$Street" "stolen" "I" "PianoCovers",
  .fieldLinkNest "PianoCovers" 147 "PianoCovers$Pad" "length" "I" "PianoCovers",
  .fieldLinkNest "PianoCovers" 197 "PianoCovers$Pad" "kind" "C" "PianoCovers",
  .fieldLinkNest "PianoCovers" 201 "PianoCovers$Pad" "number" "I" "PianoCovers",
  .fieldLinkNest "PianoCovers" 204 "PianoCovers$Pad" "cover" "I" "PianoCovers",
  .fieldLinkNest "PianoCovers" 207 "PianoCovers$Pad" "hours" "I" "PianoCovers",
  .fieldLinkNest "PianoCovers" 187 "PianoCovers$Pad" "more" "Z" "PianoCovers",
  .fieldLinkNest "PianoCovers$Street" 76 "PianoCovers" "LEAST_SETTING" "[I" "PianoCovers",
  .fieldLinkNest "PianoCovers$Street" 79 "PianoCovers" "MOST_SETTING" "[I" "PianoCovers",
  .methodLinkNest "PianoCovers" 9 ⟨"PianoCovers$Street", "<init>", "()V"⟩ "PianoCovers",
  .methodLinkNest "PianoCovers" 39 ⟨"PianoCovers$Pad", "<init>", "()V"⟩ "PianoCovers",
  .methodLinkNest "PianoCovers" 48 ⟨"PianoCovers$Street", "changeSetting", "(II)I"⟩ "PianoCovers",
  .methodLinkNest "PianoCovers" 56 ⟨"PianoCovers$Street", "changeRain", "(I)I"⟩ "PianoCovers",
  .methodLinkNest "PianoCovers" 59 ⟨"PianoCovers$Street", "addPiano", "(II)I"⟩ "PianoCovers",
  .methodLinkNest "PianoCovers$Street" 83 ⟨"PianoCovers", "isPlace", "(I)Z"⟩ "PianoCovers",
  .methodLinkNest "PianoCovers$Street" 87 ⟨"PianoCovers", "has", "(II)Z"⟩ "PianoCovers",
  .methodLinkNest "PianoCovers" 62 ⟨"PianoCovers$Street", "removePiano", "(I)I"⟩ "PianoCovers",
  .methodLinkNest "PianoCovers" 65 ⟨"PianoCovers$Street", "hireKeeper", "(I)I"⟩ "PianoCovers",
  .methodLinkNest "PianoCovers" 68 ⟨"PianoCovers$Street", "layCover", "(I)I"⟩ "PianoCovers",
  .methodLinkNest "PianoCovers" 71 ⟨"PianoCovers$Street", "passCounted", "(I)I"⟩ "PianoCovers",
  .methodLinkNest "PianoCovers" 88 ⟨"PianoCovers$Street", "coverAt", "(I)I"⟩ "PianoCovers",
  .methodLinkNest "PianoCovers" 97 ⟨"PianoCovers$Street", "keepersAt", "(I)I"⟩ "PianoCovers",
  .methodLinkNest "PianoCovers" 139 ⟨"PianoCovers$Street", "rainIsAhead", "()Z"⟩ "PianoCovers",
  .methodLinkNest "PianoCovers" 143 ⟨"PianoCovers$Street", "rainsAfter", "(I)Z"⟩ "PianoCovers",
  .methodLinkNest "PianoCovers" 150 ⟨"PianoCovers$Street", "hoursUntilRain", "()I"⟩ "PianoCovers",
  .methodLinkNest "PianoCovers" 154 ⟨"PianoCovers$Street", "passHours", "(I)I"⟩ "PianoCovers",
  .methodLinkNest "PianoCovers" 160 ⟨"PianoCovers$Street", "addKeeper", "(I)V"⟩ "PianoCovers",
  .methodLinkNest "PianoCovers" 170 ⟨"PianoCovers$Pad", "append", "(C)V"⟩ "PianoCovers",
  .methodLinkNest "PianoCovers" 178 ⟨"PianoCovers$Pad", "clear", "()V"⟩ "PianoCovers",
  .methodLinkNest "PianoCovers" 181 ⟨"PianoCovers$Pad", "findFault", "()I"⟩ "PianoCovers",
  .methodLinkNest "PianoCovers" 184 ⟨"PianoCovers$Pad", "rewind", "()V"⟩ "PianoCovers",
  .methodLinkNest "PianoCovers" 191 ⟨"PianoCovers$Pad", "readOrder", "()Z"⟩ "PianoCovers"]
def isNw : Cond → Bool
  | .fieldLinkNest .. => true
  | .methodLinkNest .. => true
  | _ => false
theorem nwl_ok : ∀ w ∈ nwl, isNw w = true := by decide +kernel
def NWs (U : State) : Prop := ∀ w ∈ nwl, va_Nw w U
theorem NWs.warm {s U : State} (hW : s.WarmedH U.vm) (h : NWs s) : NWs U := by
  intro w hw
  have hz := h w hw
  have hk := nwl_ok w hw
  cases w <;> first | exact va_Nw.warmF hW hz | exact va_Nw.warmM hW hz | exact absurd hk (by simp [isNw])
theorem NWs.same {u U : State} (hv : u.vm = U.vm) (h : NWs u) : NWs U := by
  intro w hw
  have hz := h w hw
  have hk := nwl_ok w hw
  cases w <;> first | exact va_Nw.same rfl hv hz | exact absurd hk (by simp [isNw])
theorem NWs.at {s : State} {args : Array Value} {w : Cond} (h : NWs s) (i : Nat) (hi : nwl[i]? = some w) : w.before args s = true := by
  have hw := List.mem_of_getElem? hi
  have hz := h w hw
  have hk := nwl_ok w hw
  cases w <;> first | exact va_Nw.use rfl hz | exact absurd hk (by simp [isNw])
theorem NWs.nw {s : State} {w : Cond} (h : NWs s) (i : Nat) (hi : nwl[i]? = some w) : va_Nw w s := h w (List.mem_of_getElem? hi)
-- functions that are changed at a place
def up {α : Type} (f : Nat → α) (k : Nat) (x : α) : Nat → α := fun j => if j = k then x else f j
theorem up_same {α : Type} (f : Nat → α) (k : Nat) (x : α) : up f k x k = x := if_pos rfl
theorem up_ne {α : Type} (f : Nat → α) {k j : Nat} (x : α) (h : j ≠ k) : up f k x j = f j := if_neg h
theorem up_upd (f : Nat → Int32) (k : Nat) (x : Int32) : upd f k x = up f k x := rfl
abbrev ix (i : Int32) : Nat := i.toNatClampNeg
/-- the logical shift of an int to the right -/
def ush (x y : Int32) : Int32 := (x.toUInt32 >>> (y.toUInt32 &&& Int32.toUInt32 31)).toInt32
def lush (x : Int64) (y : Int32) : Int64 := (x.toUInt64 >>> (y.toInt64.toUInt64 &&& Int64.toUInt64 63)).toInt64
def i2c (x : Int32) : Int32 := (x.toUInt32 % 65536).toInt32
def mx (x y : Int32) : Int32 := if x < y then y else x
def mn (x y : Int32) : Int32 := if y < x then y else x
-- the layouts: a module is an object and its arrays; fv: its fields in the order of the slots (true, k): array k; (false, k): number k; al: its arrays' classes and lengths
abbrev Ad := Nat → Nat
abbrev SV := Nat → Int32
abbrev RV := Nat → Nat → Int32
abbrev SR := SV × RV
/-- a module's number q becomes v; its array k becomes v at i -/
def pS (x : SR) (q : Nat) (v : Int32) : SR := (up x.1 q v, x.2)
def pR (x : SR) (k : Nat) (i v : Int32) : SR := (x.1, up x.2 k (up (x.2 k) (ix i) v))
def mF (h : Ad) (s : SV) (q : Bool × Nat) : Value := if q.1 = true then .ref (h (q.2 + 1)) else .int (s q.2)
def mA (h : Ad) (r : RV) (k : Nat) (q : ClassId × Nat) : Nat × va_E := (h (k + 1), .inl (q.1, q.2, .inl (r k)))
def mAs (h : Ad) (r : RV) : Nat → List (ClassId × Nat) → va_W
  | _, [] => []
  | k, q :: l => mA h r k q :: mAs h r (k + 1) l
def wM (ci : Nat) (fv : List (Bool × Nat)) (al : List (ClassId × Nat)) (h : Ad) (x : SR) : va_W := (h 0, .inr (ci, fv.map (mF h x.1))) :: mAs h x.2 0 al
theorem mAs_get (h : Ad) (r : RV) : ∀ (al : List (ClassId × Nat)) (k0 k : Nat) (q : ClassId × Nat), al[k]? = some q → (mAs h r k0 al)[k]? = some (mA h r (k0 + k) q)
  | [], k0, k, q, hk => by simp at hk
  | a :: l, k0, 0, q, hk => by
    rw [List.getElem?_cons_zero] at hk
    cases hk
    rfl
  | a :: l, k0, k + 1, q, hk => by
    rw [List.getElem?_cons_succ] at hk
    show (mAs h r (k0 + 1) l)[k]? = _
    rw [mAs_get h r l (k0 + 1) k q hk]
    rw [show k0 + 1 + k = k0 + (k + 1) by omega]
theorem mAs_off (h : Ad) (r : RV) (j : Nat) (g : Nat → Int32) : ∀ (al : List (ClassId × Nat)) (k0 : Nat), j < k0 → mAs h (up r j g) k0 al = mAs h r k0 al
  | [], _, _ => rfl
  | a :: l, k0, hj => by
    show mA h (up r j g) k0 a :: mAs h (up r j g) (k0 + 1) l = mA h r k0 a :: mAs h r (k0 + 1) l
    rw [mAs_off h r j g l (k0 + 1) (by omega)]
    unfold mA
    rw [up_ne r g (by omega)]
theorem mAs_set (h : Ad) (r : RV) (g : Nat → Int32) : ∀ (al : List (ClassId × Nat)) (k0 k : Nat) (q : ClassId × Nat), al[k]? = some q → (mAs h r k0 al).set k (h (k0 + k + 1), .inl (q.1, q.2, .inl g)) = mAs h (up r (k0 + k) g) k0 al
  | [], k0, k, q, hk => by simp at hk
  | a :: l, k0, 0, q, hk => by
    rw [List.getElem?_cons_zero] at hk
    cases hk
    show (h (k0 + 0 + 1), _) :: mAs h r (k0 + 1) l = mA h (up r (k0 + 0) g) k0 a :: mAs h (up r (k0 + 0) g) (k0 + 1) l
    rw [mAs_off h r (k0 + 0) g l (k0 + 1) (by omega)]
    unfold mA
    simp only [Nat.add_zero, up_same]
  | a :: l, k0, k + 1, q, hk => by
    rw [List.getElem?_cons_succ] at hk
    show mA h r k0 a :: (mAs h r (k0 + 1) l).set k (h (k0 + (k + 1) + 1), _) = mA h (up r (k0 + (k + 1)) g) k0 a :: mAs h (up r (k0 + (k + 1)) g) (k0 + 1) l
    have e := mAs_set h r g l (k0 + 1) k q hk
    rw [show k0 + 1 + k = k0 + (k + 1) by omega] at e
    rw [e]
    unfold mA
    rw [up_ne r g (by omega)]
theorem wM_arr {ci : Nat} {fv : List (Bool × Nat)} {al : List (ClassId × Nat)} {h : Ad} {x : SR} {k : Nat} {q : ClassId × Nat} (hk : al[k]? = some q) : (wM ci fv al h x)[k + 1]? = some (h (k + 1), .inl (q.1, q.2, .inl (x.2 k))) := by
  show (mAs h x.2 0 al)[k]? = _
  rw [mAs_get h x.2 al 0 k q hk, Nat.zero_add]
  rfl
theorem wM_arrset {ci : Nat} {fv : List (Bool × Nat)} {al : List (ClassId × Nat)} {h : Ad} {x : SR} {k : Nat} {q : ClassId × Nat} (g : Nat → Int32) (hk : al[k]? = some q) : (wM ci fv al h x).set (k + 1) (h (k + 1), .inl (q.1, q.2, .inl g)) = wM ci fv al h (x.1, up x.2 k g) := by
  show (h 0, _) :: (mAs h x.2 0 al).set k (h (k + 1), _) = (h 0, _) :: mAs h (up x.2 k g) 0 al
  have e := mAs_set h x.2 g al 0 k q hk
  rw [Nat.zero_add] at e
  rw [e]
theorem mF_set (h : Ad) (s : SV) (v : Int32) (q : Nat) : ∀ (fv : List (Bool × Nat)) (k : Nat), fv[k]? = some (false, q) → (∀ j, fv[j]? = some (false, q) → j = k) → (fv.map (mF h s)).set k (.int v) = fv.map (mF h (up s q v)) := by
  intro fv k hk hu
  apply List.ext_getElem?
  intro j
  by_cases hj : j = k
  · subst hj
    have hl : j < (fv.map (mF h s)).length := by
      rw [List.length_map]
      exact (List.getElem?_eq_some_iff.mp hk).1
    rw [List.getElem?_set_self hl, List.getElem?_map, hk]
    show some (Value.int v) = some (Value.int (up s q v q))
    rw [up_same]
  · rw [List.getElem?_set_ne (Ne.symm hj), List.getElem?_map, List.getElem?_map]
    cases hq : fv[j]? with
    | none => rfl
    | some e =>
      show some (mF h s e) = some (mF h (up s q v) e)
      unfold mF
      by_cases h1 : e.1 = true
      · rw [if_pos h1, if_pos h1]
      · rw [if_neg h1, if_neg h1]
        have h2 : e.2 ≠ q := by
          intro h3
          exact hj (hu j (by rw [hq, ← h3]; congr 1; exact Prod.ext (by cases he : e.1 <;> simp_all) rfl))
        rw [up_ne s v h2]
theorem wM_objset {ci : Nat} {fv : List (Bool × Nat)} {al : List (ClassId × Nat)} {h : Ad} {x : SR} {k q : Nat} (v : Int32) (hk : fv[k]? = some (false, q)) (hu : ∀ j, fv[j]? = some (false, q) → j = k) : (wM ci fv al h x).set 0 (h 0, .inr (ci, (fv.map (mF h x.1)).set k (.int v))) = wM ci fv al h (up x.1 q v, x.2) := by
  show (h 0, (Sum.inr (ci, (fv.map (mF h x.1)).set k (Value.int v)) : va_E)) :: mAs h x.2 0 al = _
  rw [mF_set h x.1 v q fv k hk hu]
  rfl
-- contracts of one form: the start, the two ends
def PreW (G : va_G) (tys : List (ClassId × FieldType)) (sz : Nat) (ws : va_W) (U : State) : Prop := U.heap.size = sz ∧ va_P G vwCl ws U.heap ∧ va_K G vwCl tys U ∧ va_D (fun _ => True) ws ∧ NWs U
theorem PreW.blind {G : va_G} {tys : List (ClassId × FieldType)} {sz : Nat} {ws : va_W} {av : List Value} : FrameBlind (va_Pc av (PreW G tys sz ws)) := fun a U g mk q => by
  obtain ⟨q0, q1, qP, qK, qD, qN⟩ := q
  exact ⟨q0, q1, qP, va_K.moved (u := U) (U := U.calling g mk a) (Vm.Alike.refl U.vm) qK, qD, NWs.same (u := U) (U := U.calling g mk a) rfl qN⟩
theorem PreW.at {G : va_G} {tys : List (ClassId × FieldType)} {ws : va_W} {H : Heap} {s : State} {A : Nat → Prop} (hP : va_P G vwCl ws H) (hK : va_K G vwCl tys s) (hD : va_D A ws) (hN : NWs s) (av : List Value) : ∀ U : State, U.heap = H → s.WarmedH U.vm → va_Pc av (PreW G tys H.size ws) av.toArray U := fun U hU hW => ⟨rfl, by rw [hU], by rw [hU]; exact hP, va_K.moved hW.alike hK, hD.weaken (fun _ _ _ _ => trivial), NWs.warm hW hN⟩
abbrev Ends : Type := Nat → Array Value → State → Outcome → State → Prop
def Ct (l : Launch) (y : MethodName) (words : List Cond) (rm : Room) (G : va_G) (tys : List (ClassId × FieldType)) (args : List Value) (ws : va_W) (Q : Ends) : Prop := ∀ sz : Nat, Met l y words rm (va_Pc args (PreW G tys sz ws)) (Q sz) 0 0 (va_A ws sz)
def QiA (G : va_G) (A : Nat → Prop) (f : Int32) (ws' : va_W) : Array Value → State → Outcome → State → Prop := va_Qi (fun r (_ : Unit) => r = f) (fun _ t => va_P G vwCl ws' t.heap ∧ va_D A ws') A
def QvA (G : va_G) (A : Nat → Prop) (ws' : va_W) : Array Value → State → Outcome → State → Prop := va_Qv (fun (_ : Unit) => True) (fun _ t => va_P G vwCl ws' t.heap ∧ va_D A ws') A
def Qi (G : va_G) (ws : va_W) (f : Int32) (ws' : va_W) : Ends := fun sz => QiA G (va_A ws sz) f ws'
def Qv (G : va_G) (ws : va_W) (ws' : va_W) : Ends := fun sz => QvA G (va_A ws sz) ws'
abbrev rmz (fr lo : Nat) : Room := { frames := fr, cells := 0, slots := 0, locals := lo }
/-- what holds at a method's entry, whatever its end -/
def En (p : Program) (s : State) (m : MethodId) (meth : Method) (c : Code) (cc : ByteArray) (maxL : Nat) (ret : Option FieldType) (words : List Cond) (own : String) (G : va_G) (tys : List (ClassId × FieldType)) (args : Array Value) (A : Nat → Prop) : Prop :=
  p.tables.exec = Jvm.exec ∧ c.code = cc ∧ meth.sig.returnType = ret ∧ c.maxLocals = maxL ∧ meth.locks = false ∧ (∀ w ∈ words, w.before args s = true) ∧ s.vm.findClass own = some m.cls ∧ va_K G vwCl tys s ∧ NWs s ∧ (∀ q : Nat, s.heap.size ≤ q → A q)
theorem Ct.ofI {l : Launch} {y : MethodName} {words ws0 : List Cond} {rm : Room} {G : va_G} {tys : List (ClassId × FieldType)} {args : List Value} {ws ws' : va_W} {f : Int32} {cc : ByteArray} {maxL : Nat} {ret : Option FieldType} (hy : plainName y.cls = true) (hw : words = Cond.code y cc maxL ret :: ws0) (hlen : Nat.ble (lg_sl args).length maxL = true)
    (body : ∀ (p : Program) (e : Env) (s : State) (m : MethodId) (below : List Frame) (meth : Method) (c : Code) (A : Nat → Prop) (ls : Array Slot), En p s m meth c cc maxL ret words y.cls G tys args.toArray A → va_P G vwCl ws s.heap → va_D A ws → va_S A s.heap s.heap [] → lv_has ls maxL (lv_args 0 args) →
      W p l e rm s m args.toArray below meth c s.heap [] 0 0 (MQ below (QiA G A f ws') args.toArray s 0 0 A) (F0 m 0 ls [])) : Ct l y words rm G tys args ws (Qi G ws f ws') := by
  intro sz
  refine Met.ofW (cc := cc) (maxL := maxL) (ret := ret) hy hw ?_
  intro p e s m args' below meth c s₁ B hml hv
  obtain ⟨rfl, hsz, hP, hK, hD0, hN⟩ := hv
  subst hsz
  have hD := hD0.self (sz := s.heap.size)
  show W p l e rm s m args.toArray below meth c s.heap [] 0 0 (MQ below (QiA G (va_A ws s.heap.size) f ws') args.toArray s 0 0 (va_A ws s.heap.size)) _
  generalize hAe : va_A ws s.heap.size = A at hD ⊢
  have hA : ∀ q : Nat, s.heap.size ≤ q → A q := fun q h => by rw [← hAe]; exact Or.inr h
  have hl := lv_entry args (n := maxL) (Nat.le_of_ble_eq_true hlen)
  rw [lg_entry_eq]
  generalize (lg_sl args ++ List.replicate (maxL - (lg_sl args).length) Slot.unset).toArray = ls at hl ⊢
  exact body p e s m below meth c A ls ⟨B.exec, B.bytes, B.returns, hml, B.notSynchronized, atoms_spec (ws := words) B.pre, findClass_of_methodNamed B.named, hK, hN, hA⟩ hP hD va_S.rf hl
theorem Ct.ofV {l : Launch} {y : MethodName} {words ws0 : List Cond} {rm : Room} {G : va_G} {tys : List (ClassId × FieldType)} {args : List Value} {ws ws' : va_W} {cc : ByteArray} {maxL : Nat} {ret : Option FieldType} (hy : plainName y.cls = true) (hw : words = Cond.code y cc maxL ret :: ws0) (hlen : Nat.ble (lg_sl args).length maxL = true)
    (body : ∀ (p : Program) (e : Env) (s : State) (m : MethodId) (below : List Frame) (meth : Method) (c : Code) (A : Nat → Prop) (ls : Array Slot), En p s m meth c cc maxL ret words y.cls G tys args.toArray A → va_P G vwCl ws s.heap → va_D A ws → va_S A s.heap s.heap [] → lv_has ls maxL (lv_args 0 args) →
      W p l e rm s m args.toArray below meth c s.heap [] 0 0 (MQ below (QvA G A ws') args.toArray s 0 0 A) (F0 m 0 ls [])) : Ct l y words rm G tys args ws (Qv G ws ws') := by
  intro sz
  refine Met.ofW (cc := cc) (maxL := maxL) (ret := ret) hy hw ?_
  intro p e s m args' below meth c s₁ B hml hv
  obtain ⟨rfl, hsz, hP, hK, hD0, hN⟩ := hv
  subst hsz
  have hD := hD0.self (sz := s.heap.size)
  show W p l e rm s m args.toArray below meth c s.heap [] 0 0 (MQ below (QvA G (va_A ws s.heap.size) ws') args.toArray s 0 0 (va_A ws s.heap.size)) _
  generalize hAe : va_A ws s.heap.size = A at hD ⊢
  have hA : ∀ q : Nat, s.heap.size ≤ q → A q := fun q h => by rw [← hAe]; exact Or.inr h
  have hl := lv_entry args (n := maxL) (Nat.le_of_ble_eq_true hlen)
  rw [lg_entry_eq]
  generalize (lg_sl args ++ List.replicate (maxL - (lg_sl args).length) Slot.unset).toArray = ls at hl ⊢
  exact body p e s m below meth c A ls ⟨B.exec, B.bytes, B.returns, hml, B.notSynchronized, atoms_spec (ws := words) B.pre, findClass_of_methodNamed B.named, hK, hN, hA⟩ hP hD va_S.rf hl
section ROWS
variable {p : Program} {l : Launch} {e : Env} {R : Room} {s : State} {m : MethodId} {args : Array Value} {below : List Frame} {meth : Method} {c : Code} {H : Heap} {locs : List Loc} {Q : State → Prop}
variable {cc : ByteArray} {pc : Nat} {ls : Array Slot} {rest st0 : List Value} {G : va_G} {A : Nat → Prop} {tys : List (ClassId × FieldType)} {ws ws' : va_W}
-- ends
theorem rt_i {f v : Int32} {rt : FieldType} (hx : p.tables.exec = Jvm.exec) (hb : c.code = cc) (hr : meth.sig.returnType = some rt) (hlocks : meth.locks = false) (hP : va_P G vwCl ws' H) (hD : va_D A ws') (hS : va_S A s.heap H locs) (hn : narrow rt (.int v) = .int v) (hv : v = f) (hdg : decode cc pc = .ok (.ireturn, 1)) :
    W p l e R s m args below meth c H locs 0 0 (MQ below (QiA G A f ws') args s 0 0 A) (F0 m pc ls [.int v]) :=
  W.zret hx hb hr hn (fun t ht _ => ⟨⟨v, (), rfl, hv, by rw [ht]; exact hP, hD⟩, hS.F ht⟩) hS.2.2 hdg hlocks
theorem rt_v (hx : p.tables.exec = Jvm.exec) (hb : c.code = cc) (hr : meth.sig.returnType = none) (hlocks : meth.locks = false) (hP : va_P G vwCl ws' H) (hD : va_D A ws') (hS : va_S A s.heap H locs) (hdg : decode cc pc = .ok (.return_, 1)) :
    W p l e R s m args below meth c H locs 0 0 (MQ below (QvA G A ws') args s 0 0 A) (F0 m pc ls []) :=
  W.vret hx hb hr (fun t ht _ => ⟨⟨(), rfl, trivial, by rw [ht]; exact hP, hD⟩, hS.F ht⟩) hS.2.2 hdg hlocks
-- a module's cells
variable {ci : Nat} {fv : List (Bool × Nat)} {al : List (ClassId × Nat)} {h : Ad} {x : SR}
theorem md_get (hx : p.tables.exec = Jvm.exec) (hb : c.code = cc) {own C : String} {T : u_T} {N index : Nat} {Ts : List Cond} (hts : ∀ w ∈ Ts, w.before args s = true) (hin : ∀ w ∈ u_ws C T N, w ∈ Ts) (hown : s.vm.findClass own = some m.cls) (hK : va_K G vwCl tys s) (hP : va_P G vwCl (wM ci fv al h x) H) (hc : vwCl[ci]? = some (C, T, N)) (k : Nat) (hk : k < N) (hlink : (Cond.fieldLink own index C (T k).2.1 (T k).2.2.1).before args s = true) (hC : (T k).1 = C) {q : Bool × Nat} {v : Value} (hq : fv[k]? = some q) (hv : mF h x.1 q = v) (hdg : decode cc pc = .ok (.getfield index, 3))
    (kk : W p l e R s m args below meth c H locs 0 0 Q (F0 m (pc + 3) ls (v :: rest))) : W p l e R s m args below meth c H locs 0 0 Q (F0 m pc ls (.ref (h 0) :: rest)) :=
  va_get (ref := C) hx hb hts hin hown hK hP 0 (fs := fv.map (mF h x.1)) rfl hc k hk hlink (fun z hz => by rw [← hC]; exact hz) (by rw [List.getElem?_map, hq, ← hv]; rfl) hdg kk
theorem md_getN (hx : p.tables.exec = Jvm.exec) (hb : c.code = cc) {own C host : String} {T : u_T} {N index : Nat} {Ts : List Cond} (hts : ∀ w ∈ Ts, w.before args s = true) (hin : ∀ w ∈ u_ws C T N, w ∈ Ts) (hown : s.vm.findClass own = some m.cls) (hK : va_K G vwCl tys s) (hP : va_P G vwCl (wM ci fv al h x) H) (hc : vwCl[ci]? = some (C, T, N)) (k : Nat) (hk : k < N) (hlink : (Cond.fieldLinkNest own index C (T k).2.1 (T k).2.2.1 host).before args s = true) (hC : (T k).1 = C) {q : Bool × Nat} {v : Value} (hq : fv[k]? = some q) (hv : mF h x.1 q = v) (hdg : decode cc pc = .ok (.getfield index, 3))
    (kk : W p l e R s m args below meth c H locs 0 0 Q (F0 m (pc + 3) ls (v :: rest))) : W p l e R s m args below meth c H locs 0 0 Q (F0 m pc ls (.ref (h 0) :: rest)) :=
  va_getN (ref := C) hx hb hts hin hown hK hP 0 (fs := fv.map (mF h x.1)) rfl hc k hk hlink (fun z hz => by rw [← hC]; exact hz) (by rw [List.getElem?_map, hq, ← hv]; rfl) hdg kk
theorem md_put (hx : p.tables.exec = Jvm.exec) (hb : c.code = cc) {own C : String} {T : u_T} {N index : Nat} {Ts : List Cond} (hts : ∀ w ∈ Ts, w.before args s = true) (hin : ∀ w ∈ u_ws C T N, w ∈ Ts) (ty0 : Nat → FieldType) (hty : ∀ k, k < N → parseFieldDescriptor (T k).2.2.1 = some (ty0 k)) (hnm : ∀ a, a < N → ∀ b, b < N → a ≠ b → (T a).2.1 ≠ (T b).2.1) (hown : s.vm.findClass own = some m.cls) (hK : va_K G vwCl tys s) (hP : va_P G vwCl (wM ci fv al h x) H) (hD : va_D A (wM ci fv al h x)) (hS : va_S A s.heap H locs) (hc : vwCl[ci]? = some (C, T, N)) (k : Nat) (hk : k < N) (hlink : (Cond.fieldLink own index C (T k).2.1 (T k).2.2.1).before args s = true) (hC : (T k).1 = C) (hfin : (T k).2.2.2 = false) {q : Nat} {v : Int32} (hq : fv[k]? = some (false, q)) (hu : ∀ j, fv[j]? = some (false, q) → j = k) (hn : narrow (ty0 k) (.int v) = .int v) (hfit : fits (ty0 k) (.int v) = true) (hdg : decode cc pc = .ok (.putfield index, 3))
    (kk : ∀ (H1 : Heap) (locs1 : List Loc), va_P G vwCl (wM ci fv al h (pS x q v)) H1 → va_D A (wM ci fv al h (pS x q v)) → va_S A s.heap H1 locs1 → W p l e R s m args below meth c H1 locs1 0 0 Q (F0 m (pc + 3) ls rest)) : W p l e R s m args below meth c H locs 0 0 Q (F0 m pc ls (.int v :: .ref (h 0) :: rest)) := by
  have hlen : k < (fv.map (mF h x.1)).length := by
    rw [List.length_map]
    exact (List.getElem?_eq_some_iff.mp hq).1
  refine va_put (ref := C) hx hb hts hin ty0 hty hnm hown hK hP hD hS 0 (fs := fv.map (mF h x.1)) rfl hc k hk hlink (fun z hz => by rw [← hC]; exact hz) hfin (hty k hk) hn hfit hlen hdg (fun H1 locs1 hP1 hD1 hS1 => ?_)
  rw [wM_objset v hq hu] at hP1 hD1
  exact kk H1 locs1 hP1 hD1 hS1
theorem md_ia (hx : p.tables.exec = Jvm.exec) (hb : c.code = cc) (hK : va_K G vwCl tys s) (hP : va_P G vwCl (wM ci fv al h x) H) (k t0 : Nat) {cA : ClassId} {n : Nat} (ha : al[k]? = some (cA, n)) (ht : tys[t0]? = some (cA, .int)) {i v : Int32} (hin : vp_in i n) (hv : x.2 k (ix i) = v) (hdg : decode cc pc = .ok (.iaload, 1))
    (kk : W p l e R s m args below meth c H locs 0 0 Q (F0 m (pc + 1) ls (.int v :: rest))) : W p l e R s m args below meth c H locs 0 0 Q (F0 m pc ls (.int i :: .ref (h (k + 1)) :: rest)) := by
  subst hv
  exact va_iald hx hb hK hP (k + 1) t0 (wM_arr ha) ht hin hdg kk
theorem md_ca (hx : p.tables.exec = Jvm.exec) (hb : c.code = cc) (hK : va_K G vwCl tys s) (hP : va_P G vwCl (wM ci fv al h x) H) (k t0 : Nat) {cA : ClassId} {n : Nat} (ha : al[k]? = some (cA, n)) (ht : tys[t0]? = some (cA, .char)) {i v : Int32} (hin : vp_in i n) (hv : x.2 k (ix i) = v) (hdg : decode cc pc = .ok (.caload, 1))
    (kk : W p l e R s m args below meth c H locs 0 0 Q (F0 m (pc + 1) ls (.int v :: rest))) : W p l e R s m args below meth c H locs 0 0 Q (F0 m pc ls (.int i :: .ref (h (k + 1)) :: rest)) := by
  subst hv
  exact va_cald hx hb hK hP (k + 1) t0 (wM_arr ha) ht hin hdg kk
theorem md_is (hx : p.tables.exec = Jvm.exec) (hb : c.code = cc) (hK : va_K G vwCl tys s) (hP : va_P G vwCl (wM ci fv al h x) H) (hD : va_D A (wM ci fv al h x)) (hS : va_S A s.heap H locs) (k t0 : Nat) {cA : ClassId} {n : Nat} (ha : al[k]? = some (cA, n)) (ht : tys[t0]? = some (cA, .int)) {i v : Int32} (hin : vp_in i n) (hdg : decode cc pc = .ok (.iastore, 1))
    (kk : ∀ (H1 : Heap) (locs1 : List Loc), va_P G vwCl (wM ci fv al h (pR x k i v)) H1 → va_D A (wM ci fv al h (pR x k i v)) → va_S A s.heap H1 locs1 → W p l e R s m args below meth c H1 locs1 0 0 Q (F0 m (pc + 1) ls rest)) : W p l e R s m args below meth c H locs 0 0 Q (F0 m pc ls (.int v :: .int i :: .ref (h (k + 1)) :: rest)) := by
  refine va_iast hx hb hK hP hD hS (k + 1) t0 (wM_arr ha) ht hin hdg (fun H1 locs1 hP1 hD1 hS1 => ?_)
  rw [wM_arrset (upd (x.2 k) (ix i) v) ha] at hP1 hD1
  exact kk H1 locs1 hP1 hD1 hS1
theorem md_cs (hx : p.tables.exec = Jvm.exec) (hb : c.code = cc) (hK : va_K G vwCl tys s) (hP : va_P G vwCl (wM ci fv al h x) H) (hD : va_D A (wM ci fv al h x)) (hS : va_S A s.heap H locs) (k t0 : Nat) {cA : ClassId} {n : Nat} (ha : al[k]? = some (cA, n)) (ht : tys[t0]? = some (cA, .char)) {i v : Int32} (hin : vp_in i n) (hdg : decode cc pc = .ok (.castore, 1))
    (kk : ∀ (H1 : Heap) (locs1 : List Loc), va_P G vwCl (wM ci fv al h (pR x k i (vp_nar .char v))) H1 → va_D A (wM ci fv al h (pR x k i (vp_nar .char v))) → va_S A s.heap H1 locs1 → W p l e R s m args below meth c H1 locs1 0 0 Q (F0 m (pc + 1) ls rest)) : W p l e R s m args below meth c H locs 0 0 Q (F0 m pc ls (.int v :: .int i :: .ref (h (k + 1)) :: rest)) := by
  refine va_cast hx hb hK hP hD hS (k + 1) t0 (wM_arr ha) ht hin hdg (fun H1 locs1 hP1 hD1 hS1 => ?_)
  rw [wM_arrset (upd (x.2 k) (ix i) (vp_nar .char v)) ha] at hP1 hD1
  exact kk H1 locs1 hP1 hD1 hS1
theorem md_recv {C : String} {T : u_T} {N : Nat} (hK : va_K G vwCl tys s) (hP : va_P G vwCl (wM ci fv al h x) H) (hc : vwCl[ci]? = some (C, T, N)) : ∃ cell : Cell, H[h 0]? = some cell ∧ cell.vm.isStatics = false ∧ s.vm.findClass C = some cell.cls := va_recv hK hP hc (q0 := 0) (fs := fv.map (mF h x.1)) rfl
-- calls: what is run
variable {y : MethodName} {words : List Cond} {rm : Room} {Qe : Ends} {As : List Value} {a : Array Value} {Ts : List Cond} {own C : String} {nL n index maxL : Nat} {bytes : ByteArray} {ret : Option FieldType} {b : Addr} {wc wc' wl wr : va_W} {f : Int32}
theorem rn_V (S : CallFix p m c cc nL s args Ts own) (hM : Ct l y words rm G tys (.ref b :: As) wc Qe) (cw : CallW R s args own C index y bytes maxL ret words rm 0 0 n) (hrecv : ∃ cell : Cell, H[b]? = some cell ∧ cell.vm.isStatics = false ∧ s.vm.findClass C = some cell.cls) (hK : va_K G vwCl tys s) (hP : va_P G vwCl wc H) (hD : va_D A wc) (hN : NWs s) (hn : As.length = n) (hsize : ls.size = nL) (hst : st0 = As.reverse ++ .ref b :: rest) (hW : (rest.map fun v => v.category).sum ≤ 8) (hdg : decode cc pc = .ok (.invokevirtual index, 3)) :
    va_Run p l e R s m args below meth c H locs 0 0 0 0 (F0 m pc ls st0) rest (Qe H.size (Value.ref b :: As).toArray) (va_A wc H.size) :=
  va_runV S (hM H.size) cw ⟨PreW.blind, hrecv, PreW.at hP hK hD hN _⟩ rfl hn hsize hst (lv_room hW) hdg ⟨Nat.zero_le _, Nat.zero_le _⟩
theorem rn_S (S : CallFix p m c cc nL s args Ts own) (hM : Ct l y words rm G tys As wc Qe) (cw : CallB R s args own index y bytes maxL ret words rm 0 0 n ∧ (Cond.static y).before args s = true) (hK : va_K G vwCl tys s) (hP : va_P G vwCl wc H) (hD : va_D A wc) (hN : NWs s) (hn : As.length = n) (hsize : ls.size = nL) (hst : st0 = As.reverse ++ rest) (hW : (rest.map fun v => v.category).sum ≤ 8) (hdg : decode cc pc = .ok (.invokestatic index, 3)) :
    va_Run p l e R s m args below meth c H locs 0 0 0 0 (F0 m pc ls st0) rest (Qe H.size As.toArray) (va_A wc H.size) :=
  va_runS S (hM H.size) cw ⟨PreW.blind, PreW.at hP hK hD hN _⟩ rfl hn hsize hst (lv_room hW) hdg ⟨Nat.zero_le _, Nat.zero_le _⟩
theorem rn_VN {host : String} (S : CallFix p m c cc nL s args Ts own) (hM : Ct l y words rm G tys (.ref b :: As) wc Qe) (cw : va_CN R s args own index y host bytes maxL ret words rm 0 0 n ∧ (Cond.instanceMethod y).before args s = true ∧ (Cond.selects C y y).before args s = true) (hrecv : ∃ cell : Cell, H[b]? = some cell ∧ cell.vm.isStatics = false ∧ s.vm.findClass C = some cell.cls) (hK : va_K G vwCl tys s) (hP : va_P G vwCl wc H) (hD : va_D A wc) (hN : NWs s) (hn : As.length = n) (hsize : ls.size = nL) (hst : st0 = As.reverse ++ .ref b :: rest) (hW : (rest.map fun v => v.category).sum ≤ 8) (hdg : decode cc pc = .ok (.invokevirtual index, 3)) :
    va_Run p l e R s m args below meth c H locs 0 0 0 0 (F0 m pc ls st0) rest (Qe H.size (Value.ref b :: As).toArray) (va_A wc H.size) :=
  va_runVN S (hM H.size) cw ⟨PreW.blind, hrecv, PreW.at hP hK hD hN _⟩ rfl hn hsize hst (lv_room hW) hdg ⟨Nat.zero_le _, Nat.zero_le _⟩
theorem rn_SN {host : String} (S : CallFix p m c cc nL s args Ts own) (hM : Ct l y words rm G tys As wc Qe) (cw : va_CN R s args own index y host bytes maxL ret words rm 0 0 n ∧ (Cond.static y).before args s = true ∧ True) (hK : va_K G vwCl tys s) (hP : va_P G vwCl wc H) (hD : va_D A wc) (hN : NWs s) (hn : As.length = n) (hsize : ls.size = nL) (hst : st0 = As.reverse ++ rest) (hW : (rest.map fun v => v.category).sum ≤ 8) (hdg : decode cc pc = .ok (.invokestatic index, 3)) :
    va_Run p l e R s m args below meth c H locs 0 0 0 0 (F0 m pc ls st0) rest (Qe H.size As.toArray) (va_A wc H.size) :=
  va_runSN S (hM H.size) cw ⟨PreW.blind, PreW.at hP hK hD hN _⟩ rfl hn hsize hst (lv_room hW) hdg ⟨Nat.zero_le _, Nat.zero_le _⟩
-- calls: how it goes on
theorem fr_in (hD : va_D A ws) (hS : va_S A s.heap H locs) (hA : ∀ q : Nat, s.heap.size ≤ q → A q) : ∀ q, va_A ws H.size q → A q := by
  intro q hq
  rcases hq with ⟨k, e, hk⟩ | hq
  · exact hD.2 k (q, e) hk
  · exact hA q (Nat.le_trans hS.1 hq)
theorem fr_nil (hS : va_S A s.heap H locs) (hA : ∀ q : Nat, s.heap.size ≤ q → A q) : ∀ q, va_A [] H.size q → A q := by
  intro q hq
  rcases hq with ⟨k, e, hk⟩ | hq
  · simp at hk
  · exact hA q (Nat.le_trans hS.1 hq)
theorem fr_keep {H1 : Heap} (hP : va_P G vwCl ws H) (hk : ∀ q : Nat, q < H.size → ¬ va_A [] H.size q → H1[q]? = H[q]?) : va_P G vwCl ws H1 := by
  refine hP.kept (fun k q hq => hk q.1 (hP k q hq).lt ?_)
  intro z
  rcases z with ⟨k2, e, h2⟩ | z
  · simp at h2
  · have := (hP k q hq).lt
    omega
theorem va_D.midc (hD : va_D A (wl ++ (wc ++ wr))) : va_D A wc := by
  refine ⟨fun i j p q hi hj hpq => ?_, fun k q hk => ?_⟩
  · have hi' : (wl ++ (wc ++ wr))[wl.length + i]? = some p := by
      rw [List.getElem?_append_right (by omega), show wl.length + i - wl.length = i by omega, List.getElem?_append_left (List.getElem?_eq_some_iff.mp hi).1]; exact hi
    have hj' : (wl ++ (wc ++ wr))[wl.length + j]? = some q := by
      rw [List.getElem?_append_right (by omega), show wl.length + j - wl.length = j by omega, List.getElem?_append_left (List.getElem?_eq_some_iff.mp hj).1]; exact hj
    have := hD.1 _ _ p q hi' hj' hpq
    omega
  · have hk' : (wl ++ (wc ++ wr))[wl.length + k]? = some q := by
      rw [List.getElem?_append_right (by omega), show wl.length + k - wl.length = k by omega, List.getElem?_append_left (List.getElem?_eq_some_iff.mp hk).1]; exact hk
    exact hD.2 _ q hk'
theorem va_P.midc (hP : va_P G vwCl (wl ++ (wc ++ wr)) H) : va_P G vwCl wc H := by
  intro k q hk
  refine hP (wl.length + k) q ?_
  rw [List.getElem?_append_right (by omega), show wl.length + k - wl.length = k by omega, List.getElem?_append_left (List.getElem?_eq_some_iff.mp hk).1]
  exact hk
theorem fr_mid {H1 : Heap} (hP : va_P G vwCl (wl ++ (wc ++ wr)) H) (hD : va_D A (wl ++ (wc ++ wr))) (hF : ∀ q, va_A wc H.size q → A q) (hk : ∀ q : Nat, q < H.size → ¬ va_A wc H.size q → H1[q]? = H[q]?) (hP1 : va_P G vwCl wc' H1) (hD1 : va_D (va_A wc H.size) wc') : va_P G vwCl (wl ++ (wc' ++ wr)) H1 ∧ va_D A (wl ++ (wc' ++ wr)) := by
  have hl : ∀ (i : Nat) (p : Nat × va_E), wl[i]? = some p → (wl ++ (wc ++ wr))[i]? = some p := fun i p hp => by
    rw [List.getElem?_append_left (List.getElem?_eq_some_iff.mp hp).1]; exact hp
  have hr : ∀ (i : Nat) (p : Nat × va_E), wr[i]? = some p → (wl ++ (wc ++ wr))[wl.length + (wc.length + i)]? = some p := fun i p hp => by
    rw [List.getElem?_append_right (by omega), show wl.length + (wc.length + i) - wl.length = wc.length + i by omega, List.getElem?_append_right (by omega), show wc.length + i - wc.length = i by omega]; exact hp
  have hc : ∀ (i : Nat) (p : Nat × va_E), wc[i]? = some p → (wl ++ (wc ++ wr))[wl.length + i]? = some p := fun i p hp => by
    rw [List.getElem?_append_right (by omega), show wl.length + i - wl.length = i by omega, List.getElem?_append_left (List.getElem?_eq_some_iff.mp hp).1]; exact hp
  have hLl : ∀ (i : Nat) (p : Nat × va_E), wl[i]? = some p → i < wl.length := fun i p hp => (List.getElem?_eq_some_iff.mp hp).1
  have hLc : ∀ (i : Nat) (p : Nat × va_E), wc[i]? = some p → i < wc.length := fun i p hp => (List.getElem?_eq_some_iff.mp hp).1
  have offl : ∀ (i : Nat) (p : Nat × va_E), wl[i]? = some p → p.1 < H.size ∧ ¬ va_A wc H.size p.1 := by
    intro i p hp
    refine ⟨(hP _ p (hl i p hp)).lt, fun z => ?_⟩
    rcases z with ⟨k, e, hk2⟩ | z
    · have := hD.1 _ _ _ _ (hl i p hp) (hc k _ hk2) rfl
      have := hLl i p hp
      omega
    · have := (hP _ p (hl i p hp)).lt
      omega
  have offr : ∀ (i : Nat) (p : Nat × va_E), wr[i]? = some p → p.1 < H.size ∧ ¬ va_A wc H.size p.1 := by
    intro i p hp
    refine ⟨(hP _ p (hr i p hp)).lt, fun z => ?_⟩
    rcases z with ⟨k, e, hk2⟩ | z
    · have := hD.1 _ _ _ _ (hr i p hp) (hc k _ hk2) rfl
      have := hLc k _ hk2
      omega
    · have := (hP _ p (hr i p hp)).lt
      omega
  have hDl : va_D A wl := by
    refine ⟨fun i j p q hi hj hpq => hD.1 i j p q (hl i p hi) (hl j q hj) hpq, fun k q hk2 => hD.2 k q (hl k q hk2)⟩
  have hDr : va_D A wr := by
    refine ⟨fun i j p q hi hj hpq => ?_, fun k q hk2 => hD.2 _ q (hr k q hk2)⟩
    have := hD.1 _ _ p q (hr i p hi) (hr j q hj) hpq
    omega
  refine ⟨va_P.app (fun k q hq => ?_) (va_P.app hP1 (fun k q hq => ?_)), va_D.app hDl (va_D.app (hD1.weaken (fun k q _ hq => hF q.1 hq)) hDr (fun i j p q hi hj hpq => ?_)) (fun i j p q hi hj hpq => ?_)⟩
  · exact (hP k q (hl k q hq)).kept (hk q.1 (offl k q hq).1 (offl k q hq).2)
  · exact (hP _ q (hr k q hq)).kept (hk q.1 (offr k q hq).1 (offr k q hq).2)
  · exact (offr j q hj).2 (by rw [← hpq]; exact hD1.2 i p hi)
  · rcases List.mem_append.mp (List.mem_of_getElem? hj) with hm | hm
    · obtain ⟨j2, hj2⟩ := List.getElem?_of_mem hm
      exact (offl i p hi).2 (by rw [hpq]; exact hD1.2 j2 q hj2)
    · obtain ⟨j2, hj2⟩ := List.getElem?_of_mem hm
      have := hD.1 _ _ _ _ (hl i p hi) (hr j2 q hj2) hpq
      have := hLl i p hi
      omega
theorem go_i (hD : va_D A ws) (hS : va_S A s.heap H locs) (hA : ∀ q : Nat, s.heap.size ≤ q → A q) (hr : va_Run p l e R s m args below meth c H locs 0 0 0 0 (F0 m pc ls st0) rest (Qi G ws f ws' H.size a) (va_A ws H.size))
    (kk : ∀ (H1 : Heap) (locs1 : List Loc), va_P G vwCl ws' H1 → va_D A ws' → va_S A s.heap H1 locs1 → W p l e R s m args below meth c H1 locs1 0 0 Q (F0 m (pc + 3) ls (.int f :: rest))) : W p l e R s m args below meth c H locs 0 0 Q (F0 m pc ls st0) := by
  have hF := fr_in hD hS hA
  refine va_calli (a := a) hr hS (fun q _ hq => hF q hq) hF (fun r u t H1 locs1 ht _ hw hB _ _ hS1 => ?_)
  obtain ⟨hP1, hD1⟩ := hB
  rw [ht] at hP1
  subst hw
  exact kk H1 locs1 hP1 (hD1.weaken (fun k q _ hq => hF q.1 hq)) hS1
theorem go_v (hD : va_D A ws) (hS : va_S A s.heap H locs) (hA : ∀ q : Nat, s.heap.size ≤ q → A q) (hr : va_Run p l e R s m args below meth c H locs 0 0 0 0 (F0 m pc ls st0) rest (Qv G ws ws' H.size a) (va_A ws H.size))
    (kk : ∀ (H1 : Heap) (locs1 : List Loc), va_P G vwCl ws' H1 → va_D A ws' → va_S A s.heap H1 locs1 → W p l e R s m args below meth c H1 locs1 0 0 Q (F0 m (pc + 3) ls rest)) : W p l e R s m args below meth c H locs 0 0 Q (F0 m pc ls st0) := by
  have hF := fr_in hD hS hA
  refine va_callv (a := a) hr hS (fun q _ hq => hF q hq) hF (fun u t H1 locs1 ht _ hw hB _ _ hS1 => ?_)
  obtain ⟨hP1, hD1⟩ := hB
  rw [ht] at hP1
  exact kk H1 locs1 hP1 (hD1.weaken (fun k q _ hq => hF q.1 hq)) hS1
theorem gn_i (hP : va_P G vwCl ws H) (hS : va_S A s.heap H locs) (hA : ∀ q : Nat, s.heap.size ≤ q → A q) (hr : va_Run p l e R s m args below meth c H locs 0 0 0 0 (F0 m pc ls st0) rest (Qi G [] f [] H.size a) (va_A [] H.size))
    (kk : ∀ (H1 : Heap) (locs1 : List Loc), va_P G vwCl ws H1 → va_S A s.heap H1 locs1 → W p l e R s m args below meth c H1 locs1 0 0 Q (F0 m (pc + 3) ls (.int f :: rest))) : W p l e R s m args below meth c H locs 0 0 Q (F0 m pc ls st0) := by
  have hF := fr_nil hS hA
  refine va_calli (a := a) hr hS (fun q _ hq => hF q hq) hF (fun r u t H1 locs1 ht _ hw hB _ hk hS1 => ?_)
  subst hw
  exact kk H1 locs1 (fr_keep hP hk) hS1
theorem gm_i (hP : va_P G vwCl (wl ++ (wc ++ wr)) H) (hD : va_D A (wl ++ (wc ++ wr))) (hS : va_S A s.heap H locs) (hA : ∀ q : Nat, s.heap.size ≤ q → A q) (hr : va_Run p l e R s m args below meth c H locs 0 0 0 0 (F0 m pc ls st0) rest (Qi G wc f wc' H.size a) (va_A wc H.size))
    (kk : ∀ (H1 : Heap) (locs1 : List Loc), va_P G vwCl (wl ++ (wc' ++ wr)) H1 → va_D A (wl ++ (wc' ++ wr)) → va_S A s.heap H1 locs1 → W p l e R s m args below meth c H1 locs1 0 0 Q (F0 m (pc + 3) ls (.int f :: rest))) : W p l e R s m args below meth c H locs 0 0 Q (F0 m pc ls st0) := by
  have hF := fr_in hD.midc hS hA
  refine va_calli (a := a) hr hS (fun q _ hq => hF q hq) hF (fun r u t H1 locs1 ht _ hw hB _ hk hS1 => ?_)
  obtain ⟨hP1, hD1⟩ := hB
  rw [ht] at hP1
  subst hw
  obtain ⟨h1, h2⟩ := fr_mid hP hD hF hk hP1 hD1
  exact kk H1 locs1 h1 h2 hS1
theorem gm_v (hP : va_P G vwCl (wl ++ (wc ++ wr)) H) (hD : va_D A (wl ++ (wc ++ wr))) (hS : va_S A s.heap H locs) (hA : ∀ q : Nat, s.heap.size ≤ q → A q) (hr : va_Run p l e R s m args below meth c H locs 0 0 0 0 (F0 m pc ls st0) rest (Qv G wc wc' H.size a) (va_A wc H.size))
    (kk : ∀ (H1 : Heap) (locs1 : List Loc), va_P G vwCl (wl ++ (wc' ++ wr)) H1 → va_D A (wl ++ (wc' ++ wr)) → va_S A s.heap H1 locs1 → W p l e R s m args below meth c H1 locs1 0 0 Q (F0 m (pc + 3) ls rest)) : W p l e R s m args below meth c H locs 0 0 Q (F0 m pc ls st0) := by
  have hF := fr_in hD.midc hS hA
  refine va_callv (a := a) hr hS (fun q _ hq => hF q hq) hF (fun u t H1 locs1 ht _ hw hB _ hk hS1 => ?_)
  obtain ⟨hP1, hD1⟩ := hB
  rw [ht] at hP1
  obtain ⟨h1, h2⟩ := fr_mid hP hD hF hk hP1 hD1
  exact kk H1 locs1 h1 h2 hS1
-- ends of the three kinds of a module's methods: it reads (an int), it changes (nothing returned), both
theorem rt_r {res v : Int32} {rt : FieldType} (hx : p.tables.exec = Jvm.exec) (hb : c.code = cc) (hr : meth.sig.returnType = some rt) (hlocks : meth.locks = false) (hP : va_P G vwCl ws H) (hD : va_D A ws) (hS : va_S A s.heap H locs) (hn : narrow rt (.int v) = .int v) (e9 : res = v) (hdg : decode cc pc = .ok (.ireturn, 1)) :
    W p l e R s m args below meth c H locs 0 0 (MQ below (QiA G A res ws) args s 0 0 A) (F0 m pc ls [.int v]) := rt_i hx hb hr hlocks hP hD hS hn e9.symm hdg
theorem rt_b {res : Int32 × SR} {v : Int32} {X : SR} {rt : FieldType} (hx : p.tables.exec = Jvm.exec) (hb : c.code = cc) (hr : meth.sig.returnType = some rt) (hlocks : meth.locks = false) (hP : va_P G vwCl (wM ci fv al h X) H) (hD : va_D A (wM ci fv al h X)) (hS : va_S A s.heap H locs) (hn : narrow rt (.int v) = .int v) (e9 : res = (v, X)) (hdg : decode cc pc = .ok (.ireturn, 1)) :
    W p l e R s m args below meth c H locs 0 0 (MQ below (QiA G A res.1 (wM ci fv al h res.2)) args s 0 0 A) (F0 m pc ls [.int v]) := by
  subst e9
  exact rt_i hx hb hr hlocks hP hD hS hn rfl hdg
theorem rt_s {res X : SR} (hx : p.tables.exec = Jvm.exec) (hb : c.code = cc) (hr : meth.sig.returnType = none) (hlocks : meth.locks = false) (hP : va_P G vwCl (wM ci fv al h X) H) (hD : va_D A (wM ci fv al h X)) (hS : va_S A s.heap H locs) (e9 : res = X) (hdg : decode cc pc = .ok (.return_, 1)) :
    W p l e R s m args below meth c H locs 0 0 (MQ below (QvA G A (wM ci fv al h res)) args s 0 0 A) (F0 m pc ls []) := by
  subst e9
  exact rt_v hx hb hr hlocks hP hD hS hdg
end ROWS
theorem nilP {G : va_G} {H : Heap} : va_P G vwCl [] H := fun k q h => by simp at h
theorem nilD {A : Nat → Prop} : va_D A [] := ⟨fun i j p q h => by simp at h, fun k q h => by simp at h⟩
theorem fu {fv : List (Bool × Nat)} {k q : Nat} (h : (List.range fv.length).all (fun j => !(fv[j]? == some (false, q)) || j == k) = true) : ∀ j, fv[j]? = some (false, q) → j = k := by
  intro j hj
  have hl : j < fv.length := (List.getElem?_eq_some_iff.mp hj).1
  have h1 := List.all_eq_true.mp h j (List.mem_range.mpr hl)
  rw [hj] at h1
  simpa using h1
-- comparisons of ints, as comparisons of their numbers
theorem i_lt {a b : Int32} {z w : Int} (h : a < b) (ha : a.toInt = z) (hb : b.toInt = w) : z < w := by rw [← ha, ← hb]; exact Int32.lt_iff_toInt_lt.mp h
theorem i_le {a b : Int32} {z w : Int} (h : a ≤ b) (ha : a.toInt = z) (hb : b.toInt = w) : z ≤ w := by rw [← ha, ← hb]; exact Int32.le_iff_toInt_le.mp h
theorem i_nlt {a b : Int32} {z w : Int} (h : ¬ a < b) (ha : a.toInt = z) (hb : b.toInt = w) : w ≤ z := by
  rw [← ha, ← hb]
  have h1 := mt Int32.lt_iff_toInt_lt.mpr h
  omega
theorem i_nle {a b : Int32} {z w : Int} (h : ¬ a ≤ b) (ha : a.toInt = z) (hb : b.toInt = w) : w < z := by
  rw [← ha, ← hb]
  have h1 := mt Int32.le_iff_toInt_le.mpr h
  omega
theorem i_add1 {a : Int32} (h : -2147483648 ≤ a.toInt) (h2 : a.toInt < 2147483647) : (a + 1).toInt = a.toInt + 1 := by
  rw [Int32.toInt_add, show (1 : Int32).toInt = 1 from rfl]
  rw [Int.bmod_eq_of_le] <;> omega
theorem i_sub1 {a : Int32} (h : -2147483648 < a.toInt) (h2 : a.toInt ≤ 2147483647) : (a + (-1)).toInt = a.toInt - 1 := by
  rw [Int32.toInt_add, show (-1 : Int32).toInt = -1 from rfl]
  rw [Int.bmod_eq_of_le] <;> omega
theorem i_min (a : Int32) : -2147483648 ≤ a.toInt := Int32.le_toInt a
theorem i_max (a : Int32) : a.toInt ≤ 2147483647 := by
  have := Int32.toInt_lt a
  omega
theorem nz_of {v : Int32} (h : v = 0 ∨ v = 1) : narrow .boolean (.int v) = .int v := by rcases h with rfl | rfl <;> rfl
-- the modules' layouts
def fvSt : List (Bool × Nat) := [(true, 0), (false, 0), (false, 1), (false, 2), (true, 1), (true, 2), (true, 3), (true, 4), (false, 3), (true, 5), (true, 6), (true, 7), (true, 8), (true, 9), (false, 4), (false, 5), (false, 6), (false, 7)]
def alSt (cI : ClassId) : List (ClassId × Nat) := [(cI, 7), (cI, 12), (cI, 12), (cI, 12), (cI, 12), (cI, 5), (cI, 5), (cI, 5), (cI, 5), (cI, 5)]
def fvPd : List (Bool × Nat) := [(true, 0), (false, 0), (false, 1), (false, 2), (false, 3), (false, 4), (false, 5), (false, 6)]
def alPd (cC : ClassId) : List (ClassId × Nat) := [(cC, 80)]
def fvMo : List (Bool × Nat) := [(true, 0), (true, 1), (true, 2), (false, 0), (true, 3), (true, 4), (true, 5), (false, 1), (false, 2), (false, 3), (false, 4), (false, 5), (false, 6)]
def alMo (cI : ClassId) : List (ClassId × Nat) := [(cI, 109), (cI, 109), (cI, 654), (cI, 218), (cI, 2), (cI, 80)]
abbrev TY (cI cC cZ cR : ClassId) : List (ClassId × FieldType) := [(cI, .int), (cC, .char), (cZ, .boolean), (cR, .object "PianoCovers$Street")]
abbrev wSt (cI : ClassId) (h : Ad) (x : SR) : va_W := wM 1 fvSt (alSt cI) h x
abbrev wPd (cC : ClassId) (h : Ad) (x : SR) : va_W := wM 0 fvPd (alPd cC) h x
abbrev wMo (cI : ClassId) (h : Ad) (x : SR) : va_W := wM 3 fvMo (alMo cI) h x
end
section
def pX2_isPlace (a1 : Int32) : Int32 := if a1 < 0 then 0
  else if 12 ≤ a1 then 0
    else 1
set_option maxHeartbeats 4000000 in
set_option maxRecDepth 100000 in
theorem ctX2_isPlace (l : Launch) (G : va_G) (cI cC cZ cR : ClassId) (a1 : Int32) : Ct l yX2_isPlace wsX2_isPlace (rmz 0 0) G (TY cI cC cZ cR) [.int a1] [] (Qi G [] (pX2_isPlace a1) []) := by
  refine Ct.ofI (cc := cX2_isPlace) (maxL := 1) (ret := (some .boolean)) (by decide) rfl rfl ?_
  intro p e s m below meth c A ls E0 hP hD hS hl
  obtain ⟨hx, hb, hr, hml, hlocks, hts, hown, hK, hN, hA⟩ := E0
  have hl : lv_has ls 1 [(0, .int a1)] := hl
  generalize hres : pX2_isPlace a1 = res
  refine lv_iload_n hx hb dX2_isPlace_0 rfl (lv_at hl 0 rfl) ?_
  refine lv_if_lt (tgt := 14) hx hb dX2_isPlace_1 (by decide) (fun c_1 => ?_) (fun c_1 => ?_)
  · have t_1 := i_lt (z := (Int32.toInt a1)) (w := (0)) c_1 rfl (by decide)
    refine lv_iconst (v := 0) hx hb dX2_isPlace_14 (by decide) ?_
    exact rt_r hx hb hr hlocks hP hD hS rfl ((show pX2_isPlace a1 = 0 by rw [pX2_isPlace, if_pos c_1]).symm.trans hres |>.symm) dX2_isPlace_15
  · have t_1 := i_nlt (z := (Int32.toInt a1)) (w := (0)) c_1 rfl (by decide)
    refine lv_iload_n hx hb dX2_isPlace_4 rfl (lv_at hl 0 rfl) ?_
    refine lv_bipush (v := 12) hx hb dX2_isPlace_5 (by decide) ?_
    refine lv_icmp_ge (tgt := 14) hx hb dX2_isPlace_7 (by decide) (fun c_2 => ?_) (fun c_2 => ?_)
    · have t_2 := i_le (z := (12)) (w := (Int32.toInt a1)) c_2 (by decide) rfl
      refine lv_iconst (v := 0) hx hb dX2_isPlace_14 (by decide) ?_
      exact rt_r hx hb hr hlocks hP hD hS rfl ((show pX2_isPlace a1 = 0 by rw [pX2_isPlace, if_neg c_1, if_pos c_2]).symm.trans hres |>.symm) dX2_isPlace_15
    · have t_2 := i_nle (z := (12)) (w := (Int32.toInt a1)) c_2 (by decide) rfl
      refine lv_iconst (v := 1) hx hb dX2_isPlace_10 (by decide) ?_
      refine lv_goto (tgt := 15) hx hb dX2_isPlace_11 (by decide) ?_
      exact rt_r hx hb hr hlocks hP hD hS rfl ((show pX2_isPlace a1 = 1 by rw [pX2_isPlace, if_neg c_1, if_neg c_2]).symm.trans hres |>.symm) dX2_isPlace_15
def pX2_has (a1 : Int32) (a2 : Int32) : Int32 := if a2 < 0 then 0
  else if 12 ≤ a2 then 0
    else if ((ush a1 a2) &&& 1) = 1 then 1
      else 0
set_option maxHeartbeats 4000000 in
set_option maxRecDepth 100000 in
theorem ctX2_has (l : Launch) (G : va_G) (cI cC cZ cR : ClassId) (a1 : Int32) (a2 : Int32) : Ct l yX2_has wsX2_has (rmz 0 0) G (TY cI cC cZ cR) [.int a1, .int a2] [] (Qi G [] (pX2_has a1 a2) []) := by
  refine Ct.ofI (cc := cX2_has) (maxL := 2) (ret := (some .boolean)) (by decide) rfl rfl ?_
  intro p e s m below meth c A ls E0 hP hD hS hl
  obtain ⟨hx, hb, hr, hml, hlocks, hts, hown, hK, hN, hA⟩ := E0
  have hl : lv_has ls 2 [(0, .int a1), (1, .int a2)] := hl
  generalize hres : pX2_has a1 a2 = res
  refine lv_iload_n hx hb dX2_has_0 rfl (lv_at hl 1 rfl) ?_
  refine lv_if_lt (tgt := 23) hx hb dX2_has_1 (by decide) (fun c_1 => ?_) (fun c_1 => ?_)
  · have t_1 := i_lt (z := (Int32.toInt a2)) (w := (0)) c_1 rfl (by decide)
    refine lv_iconst (v := 0) hx hb dX2_has_23 (by decide) ?_
    exact rt_r hx hb hr hlocks hP hD hS rfl ((show pX2_has a1 a2 = 0 by rw [pX2_has, if_pos c_1]).symm.trans hres |>.symm) dX2_has_24
  · have t_1 := i_nlt (z := (Int32.toInt a2)) (w := (0)) c_1 rfl (by decide)
    refine lv_iload_n hx hb dX2_has_4 rfl (lv_at hl 1 rfl) ?_
    refine lv_bipush (v := 12) hx hb dX2_has_5 (by decide) ?_
    refine lv_icmp_ge (tgt := 23) hx hb dX2_has_7 (by decide) (fun c_2 => ?_) (fun c_2 => ?_)
    · have t_2 := i_le (z := (12)) (w := (Int32.toInt a2)) c_2 (by decide) rfl
      refine lv_iconst (v := 0) hx hb dX2_has_23 (by decide) ?_
      exact rt_r hx hb hr hlocks hP hD hS rfl ((show pX2_has a1 a2 = 0 by rw [pX2_has, if_neg c_1, if_pos c_2]).symm.trans hres |>.symm) dX2_has_24
    · have t_2 := i_nle (z := (12)) (w := (Int32.toInt a2)) c_2 (by decide) rfl
      refine lv_iload_n hx hb dX2_has_10 rfl (lv_at hl 0 rfl) ?_
      refine lv_iload_n hx hb dX2_has_11 rfl (lv_at hl 1 rfl) ?_
      refine lv_iushr (v := (ush a1 a2)) hx hb dX2_has_12 rfl ?_
      refine lv_iconst (v := 1) hx hb dX2_has_13 (by decide) ?_
      refine lv_iand hx hb dX2_has_14 ?_
      refine lv_iconst (v := 1) hx hb dX2_has_15 (by decide) ?_
      refine lv_icmp_ne (tgt := 23) hx hb dX2_has_16 (by decide) (fun c_3 => ?_) (fun c_3 => ?_)
      · refine lv_iconst (v := 0) hx hb dX2_has_23 (by decide) ?_
        exact rt_r hx hb hr hlocks hP hD hS rfl ((show pX2_has a1 a2 = 0 by rw [pX2_has, if_neg c_1, if_neg c_2, if_neg c_3]).symm.trans hres |>.symm) dX2_has_24
      · refine lv_iconst (v := 1) hx hb dX2_has_19 (by decide) ?_
        refine lv_goto (tgt := 24) hx hb dX2_has_20 (by decide) ?_
        exact rt_r hx hb hr hlocks hP hD hS rfl ((show pX2_has a1 a2 = 1 by rw [pX2_has, if_neg c_1, if_neg c_2, if_pos c_3]).symm.trans hres |>.symm) dX2_has_24
def pJ6_bitCount_0f7a4 (a1 : Int32) : Int32 := ((((((((a1 - ((ush a1 1) &&& 1431655765)) &&& 858993459) + ((ush (a1 - ((ush a1 1) &&& 1431655765)) 2) &&& 858993459)) + (ush (((a1 - ((ush a1 1) &&& 1431655765)) &&& 858993459) + ((ush (a1 - ((ush a1 1) &&& 1431655765)) 2) &&& 858993459)) 4)) &&& 252645135) + (ush (((((a1 - ((ush a1 1) &&& 1431655765)) &&& 858993459) + ((ush (a1 - ((ush a1 1) &&& 1431655765)) 2) &&& 858993459)) + (ush (((a1 - ((ush a1 1) &&& 1431655765)) &&& 858993459) + ((ush (a1 - ((ush a1 1) &&& 1431655765)) 2) &&& 858993459)) 4)) &&& 252645135) 8)) + (ush ((((((a1 - ((ush a1 1) &&& 1431655765)) &&& 858993459) + ((ush (a1 - ((ush a1 1) &&& 1431655765)) 2) &&& 858993459)) + (ush (((a1 - ((ush a1 1) &&& 1431655765)) &&& 858993459) + ((ush (a1 - ((ush a1 1) &&& 1431655765)) 2) &&& 858993459)) 4)) &&& 252645135) + (ush (((((a1 - ((ush a1 1) &&& 1431655765)) &&& 858993459) + ((ush (a1 - ((ush a1 1) &&& 1431655765)) 2) &&& 858993459)) + (ush (((a1 - ((ush a1 1) &&& 1431655765)) &&& 858993459) + ((ush (a1 - ((ush a1 1) &&& 1431655765)) 2) &&& 858993459)) 4)) &&& 252645135) 8)) 16)) &&& 63)
set_option maxHeartbeats 4000000 in
set_option maxRecDepth 100000 in
theorem ctJ6_bitCount_0f7a4 (l : Launch) (G : va_G) (cI cC cZ cR : ClassId) (a1 : Int32) : Ct l yJ6_bitCount_0f7a4 wsJ6_bitCount_0f7a4 (rmz 0 0) G (TY cI cC cZ cR) [.int a1] [] (Qi G [] (pJ6_bitCount_0f7a4 a1) []) := by
  refine Ct.ofI (cc := cJ6_bitCount_0f7a4) (maxL := 1) (ret := (some .int)) (by decide) rfl rfl ?_
  intro p e s m below meth c A ls E0 hP hD hS hl
  obtain ⟨hx, hb, hr, hml, hlocks, hts, hown, hK, hN, hA⟩ := E0
  have hl : lv_has ls 1 [(0, .int a1)] := hl
  have k_265 : (Cond.constant RJ6 265 1431655765).before ([.int a1] : List Value).toArray s = true := hts _ (List.mem_of_getElem? (i := 1) rfl)
  have k_266 : (Cond.constant RJ6 266 858993459).before ([.int a1] : List Value).toArray s = true := hts _ (List.mem_of_getElem? (i := 2) rfl)
  have k_267 : (Cond.constant RJ6 267 252645135).before ([.int a1] : List Value).toArray s = true := hts _ (List.mem_of_getElem? (i := 3) rfl)
  generalize hres : pJ6_bitCount_0f7a4 a1 = res
  refine lv_iload_n hx hb dJ6_bitCount_0f7a4_0 rfl (lv_at hl 0 rfl) ?_
  refine lv_iload_n hx hb dJ6_bitCount_0f7a4_1 rfl (lv_at hl 0 rfl) ?_
  refine lv_iconst (v := 1) hx hb dJ6_bitCount_0f7a4_2 (by decide) ?_
  refine lv_iushr (v := (ush a1 1)) hx hb dJ6_bitCount_0f7a4_3 rfl ?_
  refine lv_ldcw hx hb hown k_265 dJ6_bitCount_0f7a4_4 ?_
  refine lv_iand hx hb dJ6_bitCount_0f7a4_7 ?_
  refine lv_isub hx hb dJ6_bitCount_0f7a4_8 ?_
  refine lv_istore_n (lv' := [(0, .int (a1 - ((ush a1 1) &&& 1431655765)))]) hx hb dJ6_bitCount_0f7a4_9 rfl hl (by decide) rfl (fun ls hl => ?_)
  refine lv_iload_n hx hb dJ6_bitCount_0f7a4_10 rfl (lv_at hl 0 rfl) ?_
  refine lv_ldcw hx hb hown k_266 dJ6_bitCount_0f7a4_11 ?_
  refine lv_iand hx hb dJ6_bitCount_0f7a4_14 ?_
  refine lv_iload_n hx hb dJ6_bitCount_0f7a4_15 rfl (lv_at hl 0 rfl) ?_
  refine lv_iconst (v := 2) hx hb dJ6_bitCount_0f7a4_16 (by decide) ?_
  refine lv_iushr (v := (ush (a1 - ((ush a1 1) &&& 1431655765)) 2)) hx hb dJ6_bitCount_0f7a4_17 rfl ?_
  refine lv_ldcw hx hb hown k_266 dJ6_bitCount_0f7a4_18 ?_
  refine lv_iand hx hb dJ6_bitCount_0f7a4_21 ?_
  refine lv_iadd hx hb dJ6_bitCount_0f7a4_22 ?_
  refine lv_istore_n (lv' := [(0, .int (((a1 - ((ush a1 1) &&& 1431655765)) &&& 858993459) + ((ush (a1 - ((ush a1 1) &&& 1431655765)) 2) &&& 858993459)))]) hx hb dJ6_bitCount_0f7a4_23 rfl hl (by decide) rfl (fun ls hl => ?_)
  refine lv_iload_n hx hb dJ6_bitCount_0f7a4_24 rfl (lv_at hl 0 rfl) ?_
  refine lv_iload_n hx hb dJ6_bitCount_0f7a4_25 rfl (lv_at hl 0 rfl) ?_
  refine lv_iconst (v := 4) hx hb dJ6_bitCount_0f7a4_26 (by decide) ?_
  refine lv_iushr (v := (ush (((a1 - ((ush a1 1) &&& 1431655765)) &&& 858993459) + ((ush (a1 - ((ush a1 1) &&& 1431655765)) 2) &&& 858993459)) 4)) hx hb dJ6_bitCount_0f7a4_27 rfl ?_
  refine lv_iadd hx hb dJ6_bitCount_0f7a4_28 ?_
  refine lv_ldcw hx hb hown k_267 dJ6_bitCount_0f7a4_29 ?_
  refine lv_iand hx hb dJ6_bitCount_0f7a4_32 ?_
  refine lv_istore_n (lv' := [(0, .int (((((a1 - ((ush a1 1) &&& 1431655765)) &&& 858993459) + ((ush (a1 - ((ush a1 1) &&& 1431655765)) 2) &&& 858993459)) + (ush (((a1 - ((ush a1 1) &&& 1431655765)) &&& 858993459) + ((ush (a1 - ((ush a1 1) &&& 1431655765)) 2) &&& 858993459)) 4)) &&& 252645135))]) hx hb dJ6_bitCount_0f7a4_33 rfl hl (by decide) rfl (fun ls hl => ?_)
  refine lv_iload_n hx hb dJ6_bitCount_0f7a4_34 rfl (lv_at hl 0 rfl) ?_
  refine lv_iload_n hx hb dJ6_bitCount_0f7a4_35 rfl (lv_at hl 0 rfl) ?_
  refine lv_bipush (v := 8) hx hb dJ6_bitCount_0f7a4_36 (by decide) ?_
  refine lv_iushr (v := (ush (((((a1 - ((ush a1 1) &&& 1431655765)) &&& 858993459) + ((ush (a1 - ((ush a1 1) &&& 1431655765)) 2) &&& 858993459)) + (ush (((a1 - ((ush a1 1) &&& 1431655765)) &&& 858993459) + ((ush (a1 - ((ush a1 1) &&& 1431655765)) 2) &&& 858993459)) 4)) &&& 252645135) 8)) hx hb dJ6_bitCount_0f7a4_38 rfl ?_
  refine lv_iadd hx hb dJ6_bitCount_0f7a4_39 ?_
  refine lv_istore_n (lv' := [(0, .int ((((((a1 - ((ush a1 1) &&& 1431655765)) &&& 858993459) + ((ush (a1 - ((ush a1 1) &&& 1431655765)) 2) &&& 858993459)) + (ush (((a1 - ((ush a1 1) &&& 1431655765)) &&& 858993459) + ((ush (a1 - ((ush a1 1) &&& 1431655765)) 2) &&& 858993459)) 4)) &&& 252645135) + (ush (((((a1 - ((ush a1 1) &&& 1431655765)) &&& 858993459) + ((ush (a1 - ((ush a1 1) &&& 1431655765)) 2) &&& 858993459)) + (ush (((a1 - ((ush a1 1) &&& 1431655765)) &&& 858993459) + ((ush (a1 - ((ush a1 1) &&& 1431655765)) 2) &&& 858993459)) 4)) &&& 252645135) 8)))]) hx hb dJ6_bitCount_0f7a4_40 rfl hl (by decide) rfl (fun ls hl => ?_)
  refine lv_iload_n hx hb dJ6_bitCount_0f7a4_41 rfl (lv_at hl 0 rfl) ?_
  refine lv_iload_n hx hb dJ6_bitCount_0f7a4_42 rfl (lv_at hl 0 rfl) ?_
  refine lv_bipush (v := 16) hx hb dJ6_bitCount_0f7a4_43 (by decide) ?_
  refine lv_iushr (v := (ush ((((((a1 - ((ush a1 1) &&& 1431655765)) &&& 858993459) + ((ush (a1 - ((ush a1 1) &&& 1431655765)) 2) &&& 858993459)) + (ush (((a1 - ((ush a1 1) &&& 1431655765)) &&& 858993459) + ((ush (a1 - ((ush a1 1) &&& 1431655765)) 2) &&& 858993459)) 4)) &&& 252645135) + (ush (((((a1 - ((ush a1 1) &&& 1431655765)) &&& 858993459) + ((ush (a1 - ((ush a1 1) &&& 1431655765)) 2) &&& 858993459)) + (ush (((a1 - ((ush a1 1) &&& 1431655765)) &&& 858993459) + ((ush (a1 - ((ush a1 1) &&& 1431655765)) 2) &&& 858993459)) 4)) &&& 252645135) 8)) 16)) hx hb dJ6_bitCount_0f7a4_45 rfl ?_
  refine lv_iadd hx hb dJ6_bitCount_0f7a4_46 ?_
  refine lv_istore_n (lv' := [(0, .int (((((((a1 - ((ush a1 1) &&& 1431655765)) &&& 858993459) + ((ush (a1 - ((ush a1 1) &&& 1431655765)) 2) &&& 858993459)) + (ush (((a1 - ((ush a1 1) &&& 1431655765)) &&& 858993459) + ((ush (a1 - ((ush a1 1) &&& 1431655765)) 2) &&& 858993459)) 4)) &&& 252645135) + (ush (((((a1 - ((ush a1 1) &&& 1431655765)) &&& 858993459) + ((ush (a1 - ((ush a1 1) &&& 1431655765)) 2) &&& 858993459)) + (ush (((a1 - ((ush a1 1) &&& 1431655765)) &&& 858993459) + ((ush (a1 - ((ush a1 1) &&& 1431655765)) 2) &&& 858993459)) 4)) &&& 252645135) 8)) + (ush ((((((a1 - ((ush a1 1) &&& 1431655765)) &&& 858993459) + ((ush (a1 - ((ush a1 1) &&& 1431655765)) 2) &&& 858993459)) + (ush (((a1 - ((ush a1 1) &&& 1431655765)) &&& 858993459) + ((ush (a1 - ((ush a1 1) &&& 1431655765)) 2) &&& 858993459)) 4)) &&& 252645135) + (ush (((((a1 - ((ush a1 1) &&& 1431655765)) &&& 858993459) + ((ush (a1 - ((ush a1 1) &&& 1431655765)) 2) &&& 858993459)) + (ush (((a1 - ((ush a1 1) &&& 1431655765)) &&& 858993459) + ((ush (a1 - ((ush a1 1) &&& 1431655765)) 2) &&& 858993459)) 4)) &&& 252645135) 8)) 16)))]) hx hb dJ6_bitCount_0f7a4_47 rfl hl (by decide) rfl (fun ls hl => ?_)
  refine lv_iload_n hx hb dJ6_bitCount_0f7a4_48 rfl (lv_at hl 0 rfl) ?_
  refine lv_bipush (v := 63) hx hb dJ6_bitCount_0f7a4_49 (by decide) ?_
  refine lv_iand hx hb dJ6_bitCount_0f7a4_51 ?_
  exact rt_r hx hb hr hlocks hP hD hS rfl ((show pJ6_bitCount_0f7a4 a1 = ((((((((a1 - ((ush a1 1) &&& 1431655765)) &&& 858993459) + ((ush (a1 - ((ush a1 1) &&& 1431655765)) 2) &&& 858993459)) + (ush (((a1 - ((ush a1 1) &&& 1431655765)) &&& 858993459) + ((ush (a1 - ((ush a1 1) &&& 1431655765)) 2) &&& 858993459)) 4)) &&& 252645135) + (ush (((((a1 - ((ush a1 1) &&& 1431655765)) &&& 858993459) + ((ush (a1 - ((ush a1 1) &&& 1431655765)) 2) &&& 858993459)) + (ush (((a1 - ((ush a1 1) &&& 1431655765)) &&& 858993459) + ((ush (a1 - ((ush a1 1) &&& 1431655765)) 2) &&& 858993459)) 4)) &&& 252645135) 8)) + (ush ((((((a1 - ((ush a1 1) &&& 1431655765)) &&& 858993459) + ((ush (a1 - ((ush a1 1) &&& 1431655765)) 2) &&& 858993459)) + (ush (((a1 - ((ush a1 1) &&& 1431655765)) &&& 858993459) + ((ush (a1 - ((ush a1 1) &&& 1431655765)) 2) &&& 858993459)) 4)) &&& 252645135) + (ush (((((a1 - ((ush a1 1) &&& 1431655765)) &&& 858993459) + ((ush (a1 - ((ush a1 1) &&& 1431655765)) 2) &&& 858993459)) + (ush (((a1 - ((ush a1 1) &&& 1431655765)) &&& 858993459) + ((ush (a1 - ((ush a1 1) &&& 1431655765)) 2) &&& 858993459)) 4)) &&& 252645135) 8)) 16)) &&& 63) by rw [pJ6_bitCount_0f7a4]).symm.trans hres |>.symm) dJ6_bitCount_0f7a4_52
theorem isPlace_in {p : Int32} (h : ¬ pX2_isPlace p = 0) : vp_in p 12 := by
  unfold pX2_isPlace at h
  split at h
  · exact absurd rfl h
  · rename_i h1
    split at h
    · exact absurd rfl h
    · rename_i h2
      have := i_nlt (z := Int32.toInt p) (w := 0) h1 rfl (by decide)
      have := i_nle (z := 12) (w := Int32.toInt p) h2 (by decide) rfl
      exact vp_in_iff.mpr ⟨by omega, by omega⟩
theorem has_in {x p : Int32} (h : ¬ pX2_has x p = 0) : vp_in p 12 := by
  unfold pX2_has at h
  split at h
  · exact absurd rfl h
  · rename_i h1
    split at h
    · exact absurd rfl h
    · rename_i h2
      have := i_nlt (z := Int32.toInt p) (w := 0) h1 rfl (by decide)
      have := i_nle (z := 12) (w := Int32.toInt p) h2 (by decide) rfl
      exact vp_in_iff.mpr ⟨by omega, by omega⟩
theorem has_b (x p : Int32) : pX2_has x p = 0 ∨ pX2_has x p = 1 := by
  unfold pX2_has
  repeat' split
  all_goals first | exact Or.inl rfl | exact Or.inr rfl
end
section
def pX1_coverAt (a1 : Int32) (x : SR) : Int32 := if (pX2_has (x.1 2) a1) = 0 then if (pX2_has (x.1 1) a1) = 0 then 0
    else 1
  else 2
set_option maxHeartbeats 4000000 in
set_option maxRecDepth 100000 in
theorem ctX1_coverAt (l : Launch) (G : va_G) (cI cC cZ cR : ClassId) (h : Ad) (x : SR) (a1 : Int32) : Ct l yX1_coverAt wsX1_coverAt (rmz 1 21) G (TY cI cC cZ cR) [.ref (h 0), .int a1] (wSt cI h x) (Qi G (wSt cI h x) (pX1_coverAt a1 x) (wSt cI h x)) := by
  refine Ct.ofI (cc := cX1_coverAt) (maxL := 2) (ret := (some .int)) (by decide) rfl rfl ?_
  intro p e s m below meth c A ls E0 hP hD hS hl
  obtain ⟨hx, hb, hr, hml, hlocks, hts, hown, hK, hN, hA⟩ := E0
  have hl : lv_has ls 2 [(0, .ref (h 0)), (1, .int a1)] := hl
  have hin : ∀ w ∈ wsX10, w ∈ wsX1_coverAt := fun w hw => List.mem_cons_of_mem _ (List.mem_append_right _ (hw))
  have k_22 : (Cond.fieldLink RX1 22 RX1 (TX1 3).2.1 (TX1 3).2.2.1).before ([.ref (h 0), .int a1] : List Value).toArray s = true := hts _ (List.mem_of_getElem? (i := 1) rfl)
  have k_19 : (Cond.fieldLink RX1 19 RX1 (TX1 2).2.1 (TX1 2).2.2.1).before ([.ref (h 0), .int a1] : List Value).toArray s = true := hts _ (List.mem_of_getElem? (i := 2) rfl)
  generalize hres : pX1_coverAt a1 x = res
  refine lv_aload_n hx hb dX1_coverAt_0 rfl (lv_at hl 0 rfl) ?_
  refine md_get (ci := 1) (C := RX1) (T := TX1) (N := 18) (v := .int (x.1 2)) hx hb hts hin hown hK hP rfl 3 (by decide) k_22 rfl rfl rfl dX1_coverAt_1 ?_
  refine lv_iload_n hx hb dX1_coverAt_4 rfl (lv_at hl 1 rfl) ?_
  refine gn_i hP hS hA (rn_SN (As := [.int (x.1 2), .int a1]) (rest := []) ⟨hx, hb, hml, hown, hts⟩ (ctX2_has l G cI cC cZ cR (x.1 2) a1) ⟨va_cnB 2 hts gX1_coverAt_X2_has_n87 rfl rfl rfl (NWs.nw hN 33 rfl) (hts _ (List.mem_of_getElem? (i := 4) rfl)) (by decide +kernel) ⟨Nat.le_of_ble_eq_true rfl, Nat.le_of_ble_eq_true rfl⟩, hts _ (List.mem_of_getElem? (i := 3) rfl), trivial⟩ hK nilP (nilD (A := A)) hN rfl hl.1 rfl (Nat.le_of_ble_eq_true rfl) dX1_coverAt_5) (fun H locs hP hS => ?_)
  refine lv_if_eq (tgt := 13) hx hb dX1_coverAt_8 (by decide) (fun c_1 => ?_) (fun c_1 => ?_)
  · refine lv_aload_n hx hb dX1_coverAt_13 rfl (lv_at hl 0 rfl) ?_
    refine md_get (ci := 1) (C := RX1) (T := TX1) (N := 18) (v := .int (x.1 1)) hx hb hts hin hown hK hP rfl 2 (by decide) k_19 rfl rfl rfl dX1_coverAt_14 ?_
    refine lv_iload_n hx hb dX1_coverAt_17 rfl (lv_at hl 1 rfl) ?_
    refine gn_i hP hS hA (rn_SN (As := [.int (x.1 1), .int a1]) (rest := []) ⟨hx, hb, hml, hown, hts⟩ (ctX2_has l G cI cC cZ cR (x.1 1) a1) ⟨va_cnB 2 hts gX1_coverAt_X2_has_n87 rfl rfl rfl (NWs.nw hN 33 rfl) (hts _ (List.mem_of_getElem? (i := 4) rfl)) (by decide +kernel) ⟨Nat.le_of_ble_eq_true rfl, Nat.le_of_ble_eq_true rfl⟩, hts _ (List.mem_of_getElem? (i := 3) rfl), trivial⟩ hK nilP (nilD (A := A)) hN rfl hl.1 rfl (Nat.le_of_ble_eq_true rfl) dX1_coverAt_18) (fun H locs hP hS => ?_)
    refine lv_if_eq (tgt := 28) hx hb dX1_coverAt_21 (by decide) (fun c_2 => ?_) (fun c_2 => ?_)
    · refine lv_iconst (v := 0) hx hb dX1_coverAt_28 (by decide) ?_
      exact rt_r hx hb hr hlocks hP hD hS rfl ((show pX1_coverAt a1 x = 0 by rw [pX1_coverAt, if_pos c_1, if_pos c_2]).symm.trans hres |>.symm) dX1_coverAt_29
    · refine lv_iconst (v := 1) hx hb dX1_coverAt_24 (by decide) ?_
      refine lv_goto (tgt := 29) hx hb dX1_coverAt_25 (by decide) ?_
      exact rt_r hx hb hr hlocks hP hD hS rfl ((show pX1_coverAt a1 x = 1 by rw [pX1_coverAt, if_pos c_1, if_neg c_2]).symm.trans hres |>.symm) dX1_coverAt_29
  · refine lv_iconst (v := 2) hx hb dX1_coverAt_11 (by decide) ?_
    exact rt_r hx hb hr hlocks hP hD hS rfl ((show pX1_coverAt a1 x = 2 by rw [pX1_coverAt, if_neg c_1]).symm.trans hres |>.symm) dX1_coverAt_12
def pX1_keepersAt_L4 (a1 : Int32) : Nat → Int32 → Int32 → SR → Int32
  | 0, v2, v3, x => 0
  | n + 1, v2, v3, x => if (x.1 3) ≤ v3 then v2
    else if 4 < v3 then v2
      else if (x.2 5 (ix v3)) = a1 then pX1_keepersAt_L4 a1 n (v2 + 1) (v3 + 1) x
        else pX1_keepersAt_L4 a1 n v2 (v3 + 1) x
def pX1_keepersAt (a1 : Int32) (x : SR) : Int32 := pX1_keepersAt_L4 a1 6 0 0 x
set_option maxHeartbeats 4000000 in
set_option maxRecDepth 100000 in
theorem ctX1_keepersAt (l : Launch) (G : va_G) (cI cC cZ cR : ClassId) (h : Ad) (x : SR) (a1 : Int32) : Ct l yX1_keepersAt wsX1_keepersAt (rmz 0 0) G (TY cI cC cZ cR) [.ref (h 0), .int a1] (wSt cI h x) (Qi G (wSt cI h x) (pX1_keepersAt a1 x) (wSt cI h x)) := by
  refine Ct.ofI (cc := cX1_keepersAt) (maxL := 4) (ret := (some .int)) (by decide) rfl rfl ?_
  intro p e s m below meth c A ls E0 hP hD hS hl
  obtain ⟨hx, hb, hr, hml, hlocks, hts, hown, hK, hN, hA⟩ := E0
  have hl : lv_has ls 4 [(0, .ref (h 0)), (1, .int a1)] := hl
  have hin : ∀ w ∈ wsX10, w ∈ wsX1_keepersAt := fun w hw => List.mem_cons_of_mem _ (List.mem_append_right _ (hw))
  have k_37 : (Cond.fieldLink RX1 37 RX1 (TX1 8).2.1 (TX1 8).2.2.1).before ([.ref (h 0), .int a1] : List Value).toArray s = true := hts _ (List.mem_of_getElem? (i := 1) rfl)
  have k_40 : (Cond.fieldLink RX1 40 RX1 (TX1 9).2.1 (TX1 9).2.2.1).before ([.ref (h 0), .int a1] : List Value).toArray s = true := hts _ (List.mem_of_getElem? (i := 2) rfl)
  generalize hres : pX1_keepersAt a1 x = res
  have lp_4 : ∀ (n : Nat) (v2 : Int32) (v3 : Int32), 0 ≤ Int32.toInt v3 → Int32.toInt v3 ≤ 5 → 5 - Int32.toInt v3 < (n : Int) → pX1_keepersAt_L4 a1 n v2 v3 x = res → ∀ (H : Heap) (locs : List Loc) (ls : Array Slot), va_P G vwCl (wSt cI h x) H → va_D A (wSt cI h x) → va_S A s.heap H locs → lv_has ls 4 [(0, .ref (h 0)), (1, .int a1), (2, .int v2), (3, .int v3)] → W p l e (rmz 0 0) s m ([.ref (h 0), .int a1] : List Value).toArray below meth c H locs 0 0 (MQ below (QiA G A res (wSt cI h x)) ([.ref (h 0), .int a1] : List Value).toArray s 0 0 A) (F0 m 4 ls []) := by
    intro n
    induction n with
    | zero =>
      intro v2 v3 g_0 g_1 hm
      exfalso; omega
    | succ n ih =>
      intro v2 v3 g_0 g_1 hm hq H locs ls hP hD hS hl
      refine lv_iload_n hx hb dX1_keepersAt_4 rfl (lv_at hl 3 rfl) ?_
      refine lv_aload_n hx hb dX1_keepersAt_5 rfl (lv_at hl 0 rfl) ?_
      refine md_get (ci := 1) (C := RX1) (T := TX1) (N := 18) (v := .int (x.1 3)) hx hb hts hin hown hK hP rfl 8 (by decide) k_37 rfl rfl rfl dX1_keepersAt_6 ?_
      refine lv_icmp_ge (tgt := 36) hx hb dX1_keepersAt_9 (by decide) (fun c_1 => ?_) (fun c_1 => ?_)
      · have t_1 := i_le (z := (Int32.toInt (x.1 3))) (w := (Int32.toInt v3)) c_1 rfl rfl
        refine lv_iload_n hx hb dX1_keepersAt_36 rfl (lv_at hl 2 rfl) ?_
        exact rt_r hx hb hr hlocks hP hD hS rfl ((show pX1_keepersAt_L4 a1 (n + 1) v2 v3 x = v2 by rw [pX1_keepersAt_L4, if_pos c_1]).symm.trans hq |>.symm) dX1_keepersAt_37
      · have t_1 := i_nle (z := (Int32.toInt (x.1 3))) (w := (Int32.toInt v3)) c_1 rfl rfl
        refine lv_iload_n hx hb dX1_keepersAt_12 rfl (lv_at hl 3 rfl) ?_
        refine lv_iconst (v := 4) hx hb dX1_keepersAt_13 (by decide) ?_
        refine lv_icmp_gt (tgt := 36) hx hb dX1_keepersAt_14 (by decide) (fun c_2 => ?_) (fun c_2 => ?_)
        · have t_2 := i_lt (z := (4)) (w := (Int32.toInt v3)) c_2 (by decide) rfl
          refine lv_iload_n hx hb dX1_keepersAt_36 rfl (lv_at hl 2 rfl) ?_
          exact rt_r hx hb hr hlocks hP hD hS rfl ((show pX1_keepersAt_L4 a1 (n + 1) v2 v3 x = v2 by rw [pX1_keepersAt_L4, if_neg c_1, if_pos c_2]).symm.trans hq |>.symm) dX1_keepersAt_37
        · have t_2 := i_nlt (z := (4)) (w := (Int32.toInt v3)) c_2 (by decide) rfl
          refine lv_aload_n hx hb dX1_keepersAt_17 rfl (lv_at hl 0 rfl) ?_
          refine md_get (ci := 1) (C := RX1) (T := TX1) (N := 18) (v := .ref (h 6)) hx hb hts hin hown hK hP rfl 9 (by decide) k_40 rfl rfl rfl dX1_keepersAt_18 ?_
          refine lv_iload_n hx hb dX1_keepersAt_21 rfl (lv_at hl 3 rfl) ?_
          refine md_ia (v := x.2 5 (ix v3)) hx hb hK hP 5 0 rfl rfl (by first | assumption | decide | exact vp_in_iff.mpr ⟨by omega, by omega⟩ | exact isPlace_in (by assumption) | exact has_in (by assumption)) rfl dX1_keepersAt_22 ?_
          refine lv_iload_n hx hb dX1_keepersAt_23 rfl (lv_at hl 1 rfl) ?_
          refine lv_icmp_ne (tgt := 30) hx hb dX1_keepersAt_24 (by decide) (fun c_3 => ?_) (fun c_3 => ?_)
          · refine lv_iinc (v := (v3 + 1)) (lv' := [(3, .int (v3 + 1)), (0, .ref (h 0)), (1, .int a1), (2, .int v2)]) hx hb dX1_keepersAt_30 hl (k := 3) rfl rfl (by decide) rfl (fun ls hl => ?_)
            have a_30 := i_add1 (a := v3) (by omega) (by omega)
            refine lv_goto (tgt := 4) hx hb dX1_keepersAt_33 (by decide) ?_
            exact ih v2 (v3 + 1) (by omega) (by omega) (by omega) ((show pX1_keepersAt_L4 a1 (n + 1) v2 v3 x = pX1_keepersAt_L4 a1 n v2 (v3 + 1) x by rw [pX1_keepersAt_L4, if_neg c_1, if_neg c_2, if_neg c_3]).symm.trans hq) _ _ _ hP hD hS (lv_sub hl [1, 2, 3, 0] rfl)
          · refine lv_iinc (v := (v2 + 1)) (lv' := [(2, .int (v2 + 1)), (0, .ref (h 0)), (1, .int a1), (3, .int v3)]) hx hb dX1_keepersAt_27 hl (k := 2) rfl rfl (by decide) rfl (fun ls hl => ?_)
            refine lv_iinc (v := (v3 + 1)) (lv' := [(3, .int (v3 + 1)), (2, .int (v2 + 1)), (0, .ref (h 0)), (1, .int a1)]) hx hb dX1_keepersAt_30 hl (k := 3) rfl rfl (by decide) rfl (fun ls hl => ?_)
            have a_30 := i_add1 (a := v3) (by omega) (by omega)
            refine lv_goto (tgt := 4) hx hb dX1_keepersAt_33 (by decide) ?_
            exact ih (v2 + 1) (v3 + 1) (by omega) (by omega) (by omega) ((show pX1_keepersAt_L4 a1 (n + 1) v2 v3 x = pX1_keepersAt_L4 a1 n (v2 + 1) (v3 + 1) x by rw [pX1_keepersAt_L4, if_neg c_1, if_neg c_2, if_pos c_3]).symm.trans hq) _ _ _ hP hD hS (lv_sub hl [2, 3, 1, 0] rfl)
  refine lv_iconst (v := 0) hx hb dX1_keepersAt_0 (by decide) ?_
  refine lv_istore_n (lv' := [(2, .int 0), (0, .ref (h 0)), (1, .int a1)]) hx hb dX1_keepersAt_1 rfl hl (by decide) rfl (fun ls hl => ?_)
  refine lv_iconst (v := 0) hx hb dX1_keepersAt_2 (by decide) ?_
  refine lv_istore_n (lv' := [(3, .int 0), (2, .int 0), (0, .ref (h 0)), (1, .int a1)]) hx hb dX1_keepersAt_3 rfl hl (by decide) rfl (fun ls hl => ?_)
  exact lp_4 6 0 0 (by first | decide | omega | assumption) (by first | decide | omega | assumption) (by decide) ((show pX1_keepersAt a1 x = pX1_keepersAt_L4 a1 6 0 0 x by rw [pX1_keepersAt]).symm.trans hres) _ _ _ hP hD hS (lv_sub hl [2, 3, 1, 0] rfl)
def pX1_rainsAfter (a1 : Int32) (x : SR) : Int32 := if ((ush (x.1 4) (((x.1 5) + a1) - ((x.1 5) + a1) / 24 * 24)) &&& 1) = 1 then 1
  else 0
set_option maxHeartbeats 4000000 in
set_option maxRecDepth 100000 in
theorem ctX1_rainsAfter (l : Launch) (G : va_G) (cI cC cZ cR : ClassId) (h : Ad) (x : SR) (a1 : Int32) : Ct l yX1_rainsAfter wsX1_rainsAfter (rmz 0 0) G (TY cI cC cZ cR) [.ref (h 0), .int a1] (wSt cI h x) (Qi G (wSt cI h x) (pX1_rainsAfter a1 x) (wSt cI h x)) := by
  refine Ct.ofI (cc := cX1_rainsAfter) (maxL := 2) (ret := (some .boolean)) (by decide) rfl rfl ?_
  intro p e s m below meth c A ls E0 hP hD hS hl
  obtain ⟨hx, hb, hr, hml, hlocks, hts, hown, hK, hN, hA⟩ := E0
  have hl : lv_has ls 2 [(0, .ref (h 0)), (1, .int a1)] := hl
  have hin : ∀ w ∈ wsX10, w ∈ wsX1_rainsAfter := fun w hw => List.mem_cons_of_mem _ (List.mem_append_right _ (hw))
  have k_55 : (Cond.fieldLink RX1 55 RX1 (TX1 14).2.1 (TX1 14).2.2.1).before ([.ref (h 0), .int a1] : List Value).toArray s = true := hts _ (List.mem_of_getElem? (i := 1) rfl)
  have k_58 : (Cond.fieldLink RX1 58 RX1 (TX1 15).2.1 (TX1 15).2.2.1).before ([.ref (h 0), .int a1] : List Value).toArray s = true := hts _ (List.mem_of_getElem? (i := 2) rfl)
  generalize hres : pX1_rainsAfter a1 x = res
  refine lv_aload_n hx hb dX1_rainsAfter_0 rfl (lv_at hl 0 rfl) ?_
  refine md_get (ci := 1) (C := RX1) (T := TX1) (N := 18) (v := .int (x.1 4)) hx hb hts hin hown hK hP rfl 14 (by decide) k_55 rfl rfl rfl dX1_rainsAfter_1 ?_
  refine lv_aload_n hx hb dX1_rainsAfter_4 rfl (lv_at hl 0 rfl) ?_
  refine md_get (ci := 1) (C := RX1) (T := TX1) (N := 18) (v := .int (x.1 5)) hx hb hts hin hown hK hP rfl 15 (by decide) k_58 rfl rfl rfl dX1_rainsAfter_5 ?_
  refine lv_iload_n hx hb dX1_rainsAfter_8 rfl (lv_at hl 1 rfl) ?_
  refine lv_iadd hx hb dX1_rainsAfter_9 ?_
  refine lv_bipush (v := 24) hx hb dX1_rainsAfter_10 (by decide) ?_
  refine lv_irem hx hb dX1_rainsAfter_12 (by decide) ?_
  refine lv_iushr (v := (ush (x.1 4) (((x.1 5) + a1) - ((x.1 5) + a1) / 24 * 24))) hx hb dX1_rainsAfter_13 rfl ?_
  refine lv_iconst (v := 1) hx hb dX1_rainsAfter_14 (by decide) ?_
  refine lv_iand hx hb dX1_rainsAfter_15 ?_
  refine lv_iconst (v := 1) hx hb dX1_rainsAfter_16 (by decide) ?_
  refine lv_icmp_ne (tgt := 24) hx hb dX1_rainsAfter_17 (by decide) (fun c_1 => ?_) (fun c_1 => ?_)
  · refine lv_iconst (v := 0) hx hb dX1_rainsAfter_24 (by decide) ?_
    exact rt_r hx hb hr hlocks hP hD hS rfl ((show pX1_rainsAfter a1 x = 0 by rw [pX1_rainsAfter, if_neg c_1]).symm.trans hres |>.symm) dX1_rainsAfter_25
  · refine lv_iconst (v := 1) hx hb dX1_rainsAfter_20 (by decide) ?_
    refine lv_goto (tgt := 25) hx hb dX1_rainsAfter_21 (by decide) ?_
    exact rt_r hx hb hr hlocks hP hD hS rfl ((show pX1_rainsAfter a1 x = 1 by rw [pX1_rainsAfter, if_pos c_1]).symm.trans hres |>.symm) dX1_rainsAfter_25
def pX1_hoursUntilRain_L2 : Nat → Int32 → SR → Int32
  | 0, v1, x => 0
  | n + 1, v1, x => if 24 ≤ v1 then (-6)
    else if (pX1_rainsAfter v1 x) = 0 then pX1_hoursUntilRain_L2 n (v1 + 1) x
      else v1
def pX1_hoursUntilRain (x : SR) : Int32 := pX1_hoursUntilRain_L2 25 0 x
set_option maxHeartbeats 4000000 in
set_option maxRecDepth 100000 in
theorem ctX1_hoursUntilRain (l : Launch) (G : va_G) (cI cC cZ cR : ClassId) (h : Ad) (x : SR) : Ct l yX1_hoursUntilRain wsX1_hoursUntilRain (rmz 1 21) G (TY cI cC cZ cR) [.ref (h 0)] (wSt cI h x) (Qi G (wSt cI h x) (pX1_hoursUntilRain x) (wSt cI h x)) := by
  refine Ct.ofI (cc := cX1_hoursUntilRain) (maxL := 2) (ret := (some .int)) (by decide) rfl rfl ?_
  intro p e s m below meth c A ls E0 hP hD hS hl
  obtain ⟨hx, hb, hr, hml, hlocks, hts, hown, hK, hN, hA⟩ := E0
  have hl : lv_has ls 2 [(0, .ref (h 0))] := hl
  have hin : ∀ w ∈ wsX10, w ∈ wsX1_hoursUntilRain := fun w hw => List.mem_cons_of_mem _ (List.mem_append_right _ (hw))
  generalize hres : pX1_hoursUntilRain x = res
  have lp_2 : ∀ (n : Nat) (v1 : Int32), 0 ≤ Int32.toInt v1 → Int32.toInt v1 ≤ 24 → 24 - Int32.toInt v1 < (n : Int) → pX1_hoursUntilRain_L2 n v1 x = res → ∀ (H : Heap) (locs : List Loc) (ls : Array Slot), va_P G vwCl (wSt cI h x) H → va_D A (wSt cI h x) → va_S A s.heap H locs → lv_has ls 2 [(0, .ref (h 0)), (1, .int v1)] → W p l e (rmz 1 21) s m ([.ref (h 0)] : List Value).toArray below meth c H locs 0 0 (MQ below (QiA G A res (wSt cI h x)) ([.ref (h 0)] : List Value).toArray s 0 0 A) (F0 m 2 ls []) := by
    intro n
    induction n with
    | zero =>
      intro v1 g_0 g_1 hm
      exfalso; omega
    | succ n ih =>
      intro v1 g_0 g_1 hm hq H locs ls hP hD hS hl
      refine lv_iload_n hx hb dX1_hoursUntilRain_2 rfl (lv_at hl 1 rfl) ?_
      refine lv_bipush (v := 24) hx hb dX1_hoursUntilRain_3 (by decide) ?_
      refine lv_icmp_ge (tgt := 24) hx hb dX1_hoursUntilRain_5 (by decide) (fun c_1 => ?_) (fun c_1 => ?_)
      · have t_1 := i_le (z := (24)) (w := (Int32.toInt v1)) c_1 (by decide) rfl
        refine lv_bipush (v := (-6)) hx hb dX1_hoursUntilRain_24 (by decide) ?_
        exact rt_r hx hb hr hlocks hP hD hS rfl ((show pX1_hoursUntilRain_L2 (n + 1) v1 x = (-6) by rw [pX1_hoursUntilRain_L2, if_pos c_1]).symm.trans hq |>.symm) dX1_hoursUntilRain_26
      · have t_1 := i_nle (z := (24)) (w := (Int32.toInt v1)) c_1 (by decide) rfl
        refine lv_aload_n hx hb dX1_hoursUntilRain_8 rfl (lv_at hl 0 rfl) ?_
        refine lv_iload_n hx hb dX1_hoursUntilRain_9 rfl (lv_at hl 1 rfl) ?_
        refine go_i hD hS hA (rn_V (As := [.int v1]) (rest := []) ⟨hx, hb, hml, hown, hts⟩ (ctX1_rainsAfter l G cI cC cZ cR h x v1) (cwV 1 hts gX1_hoursUntilRain_X1_rainsAfter rfl rfl rfl (by decide +kernel) ⟨Nat.le_of_ble_eq_true rfl, Nat.le_of_ble_eq_true rfl⟩) (md_recv hK hP rfl) hK hP hD hN rfl hl.1 rfl (Nat.le_of_ble_eq_true rfl) dX1_hoursUntilRain_10) (fun H locs hP hD hS => ?_)
        refine lv_if_eq (tgt := 18) hx hb dX1_hoursUntilRain_13 (by decide) (fun c_2 => ?_) (fun c_2 => ?_)
        · refine lv_iinc (v := (v1 + 1)) (lv' := [(1, .int (v1 + 1)), (0, .ref (h 0))]) hx hb dX1_hoursUntilRain_18 hl (k := 1) rfl rfl (by decide) rfl (fun ls hl => ?_)
          have a_18 := i_add1 (a := v1) (by omega) (by omega)
          refine lv_goto (tgt := 2) hx hb dX1_hoursUntilRain_21 (by decide) ?_
          exact ih (v1 + 1) (by omega) (by omega) (by omega) ((show pX1_hoursUntilRain_L2 (n + 1) v1 x = pX1_hoursUntilRain_L2 n (v1 + 1) x by rw [pX1_hoursUntilRain_L2, if_neg c_1, if_pos c_2]).symm.trans hq) _ _ _ hP hD hS (lv_sub hl [1, 0] rfl)
        · refine lv_iload_n hx hb dX1_hoursUntilRain_16 rfl (lv_at hl 1 rfl) ?_
          exact rt_r hx hb hr hlocks hP hD hS rfl ((show pX1_hoursUntilRain_L2 (n + 1) v1 x = v1 by rw [pX1_hoursUntilRain_L2, if_neg c_1, if_neg c_2]).symm.trans hq |>.symm) dX1_hoursUntilRain_17
  refine lv_iconst (v := 0) hx hb dX1_hoursUntilRain_0 (by decide) ?_
  refine lv_istore_n (lv' := [(1, .int 0), (0, .ref (h 0))]) hx hb dX1_hoursUntilRain_1 rfl hl (by decide) rfl (fun ls hl => ?_)
  exact lp_2 25 0 (by first | decide | omega | assumption) (by first | decide | omega | assumption) (by decide) ((show pX1_hoursUntilRain x = pX1_hoursUntilRain_L2 25 0 x by rw [pX1_hoursUntilRain]).symm.trans hres) _ _ _ hP hD hS (lv_sub hl [1, 0] rfl)
def pX1_rainIsAhead_L2 : Nat → Int32 → SR → Int32
  | 0, v1, x => 0
  | n + 1, v1, x => if (x.2 0 (ix 0)) < v1 then 0
    else if 24 ≤ v1 then 0
      else if (pX1_rainsAfter v1 x) = 0 then pX1_rainIsAhead_L2 n (v1 + 1) x
        else 1
def pX1_rainIsAhead (x : SR) : Int32 := pX1_rainIsAhead_L2 25 0 x
set_option maxHeartbeats 4000000 in
set_option maxRecDepth 100000 in
theorem ctX1_rainIsAhead (l : Launch) (G : va_G) (cI cC cZ cR : ClassId) (h : Ad) (x : SR) : Ct l yX1_rainIsAhead wsX1_rainIsAhead (rmz 1 21) G (TY cI cC cZ cR) [.ref (h 0)] (wSt cI h x) (Qi G (wSt cI h x) (pX1_rainIsAhead x) (wSt cI h x)) := by
  refine Ct.ofI (cc := cX1_rainIsAhead) (maxL := 2) (ret := (some .boolean)) (by decide) rfl rfl ?_
  intro p e s m below meth c A ls E0 hP hD hS hl
  obtain ⟨hx, hb, hr, hml, hlocks, hts, hown, hK, hN, hA⟩ := E0
  have hl : lv_has ls 2 [(0, .ref (h 0))] := hl
  have hin : ∀ w ∈ wsX10, w ∈ wsX1_rainIsAhead := fun w hw => List.mem_cons_of_mem _ (List.mem_append_right _ (hw))
  have k_9 : (Cond.fieldLink RX1 9 RX1 (TX1 0).2.1 (TX1 0).2.2.1).before ([.ref (h 0)] : List Value).toArray s = true := hts _ (List.mem_of_getElem? (i := 1) rfl)
  generalize hres : pX1_rainIsAhead x = res
  have lp_2 : ∀ (n : Nat) (v1 : Int32), 0 ≤ Int32.toInt v1 → Int32.toInt v1 ≤ 24 → 24 - Int32.toInt v1 < (n : Int) → pX1_rainIsAhead_L2 n v1 x = res → ∀ (H : Heap) (locs : List Loc) (ls : Array Slot), va_P G vwCl (wSt cI h x) H → va_D A (wSt cI h x) → va_S A s.heap H locs → lv_has ls 2 [(0, .ref (h 0)), (1, .int v1)] → W p l e (rmz 1 21) s m ([.ref (h 0)] : List Value).toArray below meth c H locs 0 0 (MQ below (QiA G A res (wSt cI h x)) ([.ref (h 0)] : List Value).toArray s 0 0 A) (F0 m 2 ls []) := by
    intro n
    induction n with
    | zero =>
      intro v1 g_0 g_1 hm
      exfalso; omega
    | succ n ih =>
      intro v1 g_0 g_1 hm hq H locs ls hP hD hS hl
      refine lv_iload_n hx hb dX1_rainIsAhead_2 rfl (lv_at hl 1 rfl) ?_
      refine lv_aload_n hx hb dX1_rainIsAhead_3 rfl (lv_at hl 0 rfl) ?_
      refine md_get (ci := 1) (C := RX1) (T := TX1) (N := 18) (v := .ref (h 1)) hx hb hts hin hown hK hP rfl 0 (by decide) k_9 rfl rfl rfl dX1_rainIsAhead_4 ?_
      refine lv_iconst (v := 0) hx hb dX1_rainIsAhead_7 (by decide) ?_
      refine md_ia (v := x.2 0 (ix 0)) hx hb hK hP 0 0 rfl rfl (vp_in_iff.mpr ⟨by decide, by decide⟩) rfl dX1_rainIsAhead_8 ?_
      refine lv_icmp_gt (tgt := 34) hx hb dX1_rainIsAhead_9 (by decide) (fun c_1 => ?_) (fun c_1 => ?_)
      · have t_1 := i_lt (z := (Int32.toInt (x.2 0 (ix 0)))) (w := (Int32.toInt v1)) c_1 rfl rfl
        refine lv_iconst (v := 0) hx hb dX1_rainIsAhead_34 (by decide) ?_
        exact rt_r hx hb hr hlocks hP hD hS rfl ((show pX1_rainIsAhead_L2 (n + 1) v1 x = 0 by rw [pX1_rainIsAhead_L2, if_pos c_1]).symm.trans hq |>.symm) dX1_rainIsAhead_35
      · have t_1 := i_nlt (z := (Int32.toInt (x.2 0 (ix 0)))) (w := (Int32.toInt v1)) c_1 rfl rfl
        refine lv_iload_n hx hb dX1_rainIsAhead_12 rfl (lv_at hl 1 rfl) ?_
        refine lv_bipush (v := 24) hx hb dX1_rainIsAhead_13 (by decide) ?_
        refine lv_icmp_ge (tgt := 34) hx hb dX1_rainIsAhead_15 (by decide) (fun c_2 => ?_) (fun c_2 => ?_)
        · have t_2 := i_le (z := (24)) (w := (Int32.toInt v1)) c_2 (by decide) rfl
          refine lv_iconst (v := 0) hx hb dX1_rainIsAhead_34 (by decide) ?_
          exact rt_r hx hb hr hlocks hP hD hS rfl ((show pX1_rainIsAhead_L2 (n + 1) v1 x = 0 by rw [pX1_rainIsAhead_L2, if_neg c_1, if_pos c_2]).symm.trans hq |>.symm) dX1_rainIsAhead_35
        · have t_2 := i_nle (z := (24)) (w := (Int32.toInt v1)) c_2 (by decide) rfl
          refine lv_aload_n hx hb dX1_rainIsAhead_18 rfl (lv_at hl 0 rfl) ?_
          refine lv_iload_n hx hb dX1_rainIsAhead_19 rfl (lv_at hl 1 rfl) ?_
          refine go_i hD hS hA (rn_V (As := [.int v1]) (rest := []) ⟨hx, hb, hml, hown, hts⟩ (ctX1_rainsAfter l G cI cC cZ cR h x v1) (cwV 1 hts gX1_rainIsAhead_X1_rainsAfter rfl rfl rfl (by decide +kernel) ⟨Nat.le_of_ble_eq_true rfl, Nat.le_of_ble_eq_true rfl⟩) (md_recv hK hP rfl) hK hP hD hN rfl hl.1 rfl (Nat.le_of_ble_eq_true rfl) dX1_rainIsAhead_20) (fun H locs hP hD hS => ?_)
          refine lv_if_eq (tgt := 28) hx hb dX1_rainIsAhead_23 (by decide) (fun c_3 => ?_) (fun c_3 => ?_)
          · refine lv_iinc (v := (v1 + 1)) (lv' := [(1, .int (v1 + 1)), (0, .ref (h 0))]) hx hb dX1_rainIsAhead_28 hl (k := 1) rfl rfl (by decide) rfl (fun ls hl => ?_)
            have a_28 := i_add1 (a := v1) (by omega) (by omega)
            refine lv_goto (tgt := 2) hx hb dX1_rainIsAhead_31 (by decide) ?_
            exact ih (v1 + 1) (by omega) (by omega) (by omega) ((show pX1_rainIsAhead_L2 (n + 1) v1 x = pX1_rainIsAhead_L2 n (v1 + 1) x by rw [pX1_rainIsAhead_L2, if_neg c_1, if_neg c_2, if_pos c_3]).symm.trans hq) _ _ _ hP hD hS (lv_sub hl [1, 0] rfl)
          · refine lv_iconst (v := 1) hx hb dX1_rainIsAhead_26 (by decide) ?_
            exact rt_r hx hb hr hlocks hP hD hS rfl ((show pX1_rainIsAhead_L2 (n + 1) v1 x = 1 by rw [pX1_rainIsAhead_L2, if_neg c_1, if_neg c_2, if_neg c_3]).symm.trans hq |>.symm) dX1_rainIsAhead_27
  refine lv_iconst (v := 0) hx hb dX1_rainIsAhead_0 (by decide) ?_
  refine lv_istore_n (lv' := [(1, .int 0), (0, .ref (h 0))]) hx hb dX1_rainIsAhead_1 rfl hl (by decide) rfl (fun ls hl => ?_)
  exact lp_2 25 0 (by first | decide | omega | assumption) (by first | decide | omega | assumption) (by decide) ((show pX1_rainIsAhead x = pX1_rainIsAhead_L2 25 0 x by rw [pX1_rainIsAhead]).symm.trans hres) _ _ _ hP hD hS (lv_sub hl [1, 0] rfl)
def pX1_openOnes (x : SR) : Int32 := ((x.1 0) &&& ((x.1 2) ^^^ (-1)))
set_option maxHeartbeats 4000000 in
set_option maxRecDepth 100000 in
theorem ctX1_openOnes (l : Launch) (G : va_G) (cI cC cZ cR : ClassId) (h : Ad) (x : SR) : Ct l yX1_openOnes wsX1_openOnes (rmz 0 0) G (TY cI cC cZ cR) [.ref (h 0)] (wSt cI h x) (Qi G (wSt cI h x) (pX1_openOnes x) (wSt cI h x)) := by
  refine Ct.ofI (cc := cX1_openOnes) (maxL := 1) (ret := (some .int)) (by decide) rfl rfl ?_
  intro p e s m below meth c A ls E0 hP hD hS hl
  obtain ⟨hx, hb, hr, hml, hlocks, hts, hown, hK, hN, hA⟩ := E0
  have hl : lv_has ls 1 [(0, .ref (h 0))] := hl
  have hin : ∀ w ∈ wsX10, w ∈ wsX1_openOnes := fun w hw => List.mem_cons_of_mem _ (List.mem_append_right _ (hw))
  have k_15 : (Cond.fieldLink RX1 15 RX1 (TX1 1).2.1 (TX1 1).2.2.1).before ([.ref (h 0)] : List Value).toArray s = true := hts _ (List.mem_of_getElem? (i := 1) rfl)
  have k_22 : (Cond.fieldLink RX1 22 RX1 (TX1 3).2.1 (TX1 3).2.2.1).before ([.ref (h 0)] : List Value).toArray s = true := hts _ (List.mem_of_getElem? (i := 2) rfl)
  generalize hres : pX1_openOnes x = res
  refine lv_aload_n hx hb dX1_openOnes_0 rfl (lv_at hl 0 rfl) ?_
  refine md_get (ci := 1) (C := RX1) (T := TX1) (N := 18) (v := .int (x.1 0)) hx hb hts hin hown hK hP rfl 1 (by decide) k_15 rfl rfl rfl dX1_openOnes_1 ?_
  refine lv_aload_n hx hb dX1_openOnes_4 rfl (lv_at hl 0 rfl) ?_
  refine md_get (ci := 1) (C := RX1) (T := TX1) (N := 18) (v := .int (x.1 2)) hx hb hts hin hown hK hP rfl 3 (by decide) k_22 rfl rfl rfl dX1_openOnes_5 ?_
  refine lv_iconst (v := (-1)) hx hb dX1_openOnes_8 (by decide) ?_
  refine lv_ixor hx hb dX1_openOnes_9 ?_
  refine lv_iand hx hb dX1_openOnes_10 ?_
  exact rt_r hx hb hr hlocks hP hD hS rfl ((show pX1_openOnes x = ((x.1 0) &&& ((x.1 2) ^^^ (-1))) by rw [pX1_openOnes]).symm.trans hres |>.symm) dX1_openOnes_11
def pX1_nearest_L9 (a1 : Int32) (a2 : Int32) : Nat → Int32 → Int32
  | 0, v2 => 0
  | n + 1, v2 => if 12 ≤ v2 then (-6)
    else if (pX2_has a1 (a2 - v2)) = 0 then if (pX2_has a1 (a2 + v2)) = 0 then pX1_nearest_L9 a1 a2 n (v2 + 1)
        else (a2 + v2)
      else (a2 - v2)
def pX1_nearest (a1 : Int32) (a2 : Int32) : Int32 := if a1 = 0 then (-6)
  else pX1_nearest_L9 a1 a2 13 0
set_option maxHeartbeats 4000000 in
set_option maxRecDepth 100000 in
theorem ctX1_nearest (l : Launch) (G : va_G) (cI cC cZ cR : ClassId) (a1 : Int32) (a2 : Int32) : Ct l yX1_nearest wsX1_nearest (rmz 1 21) G (TY cI cC cZ cR) [.int a1, .int a2] [] (Qi G [] (pX1_nearest a1 a2) []) := by
  refine Ct.ofI (cc := cX1_nearest) (maxL := 3) (ret := (some .int)) (by decide) rfl rfl ?_
  intro p e s m below meth c A ls E0 hP hD hS hl
  obtain ⟨hx, hb, hr, hml, hlocks, hts, hown, hK, hN, hA⟩ := E0
  have hl : lv_has ls 3 [(0, .int a1), (1, .int a2)] := hl
  generalize hres : pX1_nearest a1 a2 = res
  have lp_9 : ∀ (n : Nat) (v2 : Int32), 0 ≤ Int32.toInt v2 → Int32.toInt v2 ≤ 12 → 12 - Int32.toInt v2 < (n : Int) → pX1_nearest_L9 a1 a2 n v2 = res → ∀ (H : Heap) (locs : List Loc) (ls : Array Slot), va_P G vwCl [] H → va_S A s.heap H locs → lv_has ls 3 [(0, .int a1), (1, .int a2), (2, .int v2)] → W p l e (rmz 1 21) s m ([.int a1, .int a2] : List Value).toArray below meth c H locs 0 0 (MQ below (QiA G A res []) ([.int a1, .int a2] : List Value).toArray s 0 0 A) (F0 m 9 ls []) := by
    intro n
    induction n with
    | zero =>
      intro v2 g_0 g_1 hm
      exfalso; omega
    | succ n ih =>
      intro v2 g_0 g_1 hm hq H locs ls hP hS hl
      refine lv_iload_n hx hb dX1_nearest_9 rfl (lv_at hl 2 rfl) ?_
      refine lv_bipush (v := 12) hx hb dX1_nearest_10 (by decide) ?_
      refine lv_icmp_ge (tgt := 49) hx hb dX1_nearest_12 (by decide) (fun c_2 => ?_) (fun c_2 => ?_)
      · have t_2 := i_le (z := (12)) (w := (Int32.toInt v2)) c_2 (by decide) rfl
        refine lv_bipush (v := (-6)) hx hb dX1_nearest_49 (by decide) ?_
        exact rt_r hx hb hr hlocks hP hD hS rfl ((show pX1_nearest_L9 a1 a2 (n + 1) v2 = (-6) by rw [pX1_nearest_L9, if_pos c_2]).symm.trans hq |>.symm) dX1_nearest_51
      · have t_2 := i_nle (z := (12)) (w := (Int32.toInt v2)) c_2 (by decide) rfl
        refine lv_iload_n hx hb dX1_nearest_15 rfl (lv_at hl 0 rfl) ?_
        refine lv_iload_n hx hb dX1_nearest_16 rfl (lv_at hl 1 rfl) ?_
        refine lv_iload_n hx hb dX1_nearest_17 rfl (lv_at hl 2 rfl) ?_
        refine lv_isub hx hb dX1_nearest_18 ?_
        refine gn_i hP hS hA (rn_SN (As := [.int a1, .int (a2 - v2)]) (rest := []) ⟨hx, hb, hml, hown, hts⟩ (ctX2_has l G cI cC cZ cR a1 (a2 - v2)) ⟨va_cnB 2 hts gX1_nearest_X2_has_n87 rfl rfl rfl (NWs.nw hN 33 rfl) (hts _ (List.mem_of_getElem? (i := 2) rfl)) (by decide +kernel) ⟨Nat.le_of_ble_eq_true rfl, Nat.le_of_ble_eq_true rfl⟩, hts _ (List.mem_of_getElem? (i := 1) rfl), trivial⟩ hK nilP (nilD (A := A)) hN rfl hl.1 rfl (Nat.le_of_ble_eq_true rfl) dX1_nearest_19) (fun H locs hP hS => ?_)
        refine lv_if_eq (tgt := 29) hx hb dX1_nearest_22 (by decide) (fun c_3 => ?_) (fun c_3 => ?_)
        · refine lv_iload_n hx hb dX1_nearest_29 rfl (lv_at hl 0 rfl) ?_
          refine lv_iload_n hx hb dX1_nearest_30 rfl (lv_at hl 1 rfl) ?_
          refine lv_iload_n hx hb dX1_nearest_31 rfl (lv_at hl 2 rfl) ?_
          refine lv_iadd hx hb dX1_nearest_32 ?_
          refine gn_i hP hS hA (rn_SN (As := [.int a1, .int (a2 + v2)]) (rest := []) ⟨hx, hb, hml, hown, hts⟩ (ctX2_has l G cI cC cZ cR a1 (a2 + v2)) ⟨va_cnB 2 hts gX1_nearest_X2_has_n87 rfl rfl rfl (NWs.nw hN 33 rfl) (hts _ (List.mem_of_getElem? (i := 2) rfl)) (by decide +kernel) ⟨Nat.le_of_ble_eq_true rfl, Nat.le_of_ble_eq_true rfl⟩, hts _ (List.mem_of_getElem? (i := 1) rfl), trivial⟩ hK nilP (nilD (A := A)) hN rfl hl.1 rfl (Nat.le_of_ble_eq_true rfl) dX1_nearest_33) (fun H locs hP hS => ?_)
          refine lv_if_eq (tgt := 43) hx hb dX1_nearest_36 (by decide) (fun c_4 => ?_) (fun c_4 => ?_)
          · refine lv_iinc (v := (v2 + 1)) (lv' := [(2, .int (v2 + 1)), (0, .int a1), (1, .int a2)]) hx hb dX1_nearest_43 hl (k := 2) rfl rfl (by decide) rfl (fun ls hl => ?_)
            have a_43 := i_add1 (a := v2) (by omega) (by omega)
            refine lv_goto (tgt := 9) hx hb dX1_nearest_46 (by decide) ?_
            exact ih (v2 + 1) (by omega) (by omega) (by omega) ((show pX1_nearest_L9 a1 a2 (n + 1) v2 = pX1_nearest_L9 a1 a2 n (v2 + 1) by rw [pX1_nearest_L9, if_neg c_2, if_pos c_3, if_pos c_4]).symm.trans hq) _ _ _ hP hS (lv_sub hl [1, 2, 0] rfl)
          · refine lv_iload_n hx hb dX1_nearest_39 rfl (lv_at hl 1 rfl) ?_
            refine lv_iload_n hx hb dX1_nearest_40 rfl (lv_at hl 2 rfl) ?_
            refine lv_iadd hx hb dX1_nearest_41 ?_
            exact rt_r hx hb hr hlocks hP hD hS rfl ((show pX1_nearest_L9 a1 a2 (n + 1) v2 = (a2 + v2) by rw [pX1_nearest_L9, if_neg c_2, if_pos c_3, if_neg c_4]).symm.trans hq |>.symm) dX1_nearest_42
        · refine lv_iload_n hx hb dX1_nearest_25 rfl (lv_at hl 1 rfl) ?_
          refine lv_iload_n hx hb dX1_nearest_26 rfl (lv_at hl 2 rfl) ?_
          refine lv_isub hx hb dX1_nearest_27 ?_
          exact rt_r hx hb hr hlocks hP hD hS rfl ((show pX1_nearest_L9 a1 a2 (n + 1) v2 = (a2 - v2) by rw [pX1_nearest_L9, if_neg c_2, if_neg c_3]).symm.trans hq |>.symm) dX1_nearest_28
  refine lv_iload_n hx hb dX1_nearest_0 rfl (lv_at hl 0 rfl) ?_
  refine lv_if_ne (tgt := 7) hx hb dX1_nearest_1 (by decide) (fun c_1 => ?_) (fun c_1 => ?_)
  · refine lv_iconst (v := 0) hx hb dX1_nearest_7 (by decide) ?_
    refine lv_istore_n (lv' := [(2, .int 0), (0, .int a1), (1, .int a2)]) hx hb dX1_nearest_8 rfl hl (by decide) rfl (fun ls hl => ?_)
    exact lp_9 13 0 (by first | decide | omega | assumption) (by first | decide | omega | assumption) (by decide) ((show pX1_nearest a1 a2 = pX1_nearest_L9 a1 a2 13 0 by rw [pX1_nearest, if_neg c_1]).symm.trans hres) _ _ _ hP hS (lv_sub hl [1, 2, 0] rfl)
  · refine lv_bipush (v := (-6)) hx hb dX1_nearest_4 (by decide) ?_
    exact rt_r hx hb hr hlocks hP hD hS rfl ((show pX1_nearest a1 a2 = (-6) by rw [pX1_nearest, if_pos c_1]).symm.trans hres |>.symm) dX1_nearest_6
def pX1_outOfTune_L4 : Nat → Int32 → Int32 → SR → Int32
  | 0, v1, v2, x => 0
  | n + 1, v1, v2, x => if 12 ≤ v2 then v1
    else if (pX2_has (pX1_openOnes x) v2) = 0 then pX1_outOfTune_L4 n v1 (v2 + 1) x
      else if (x.2 0 (ix 5)) ≤ (x.2 1 (ix v2)) then pX1_outOfTune_L4 n v1 (v2 + 1) x
        else pX1_outOfTune_L4 n (v1 ||| (1 <<< (v2 &&& 31))) (v2 + 1) x
def pX1_outOfTune (x : SR) : Int32 := pX1_outOfTune_L4 13 0 0 x
set_option maxHeartbeats 4000000 in
set_option maxRecDepth 100000 in
theorem ctX1_outOfTune (l : Launch) (G : va_G) (cI cC cZ cR : ClassId) (h : Ad) (x : SR) : Ct l yX1_outOfTune wsX1_outOfTune (rmz 1 21) G (TY cI cC cZ cR) [.ref (h 0)] (wSt cI h x) (Qi G (wSt cI h x) (pX1_outOfTune x) (wSt cI h x)) := by
  refine Ct.ofI (cc := cX1_outOfTune) (maxL := 3) (ret := (some .int)) (by decide) rfl rfl ?_
  intro p e s m below meth c A ls E0 hP hD hS hl
  obtain ⟨hx, hb, hr, hml, hlocks, hts, hown, hK, hN, hA⟩ := E0
  have hl : lv_has ls 3 [(0, .ref (h 0))] := hl
  have hin : ∀ w ∈ wsX10, w ∈ wsX1_outOfTune := fun w hw => List.mem_cons_of_mem _ (List.mem_append_right _ (hw))
  have k_25 : (Cond.fieldLink RX1 25 RX1 (TX1 4).2.1 (TX1 4).2.2.1).before ([.ref (h 0)] : List Value).toArray s = true := hts _ (List.mem_of_getElem? (i := 1) rfl)
  have k_9 : (Cond.fieldLink RX1 9 RX1 (TX1 0).2.1 (TX1 0).2.2.1).before ([.ref (h 0)] : List Value).toArray s = true := hts _ (List.mem_of_getElem? (i := 2) rfl)
  generalize hres : pX1_outOfTune x = res
  have lp_4 : ∀ (n : Nat) (v1 : Int32) (v2 : Int32), 0 ≤ Int32.toInt v2 → Int32.toInt v2 ≤ 12 → 12 - Int32.toInt v2 < (n : Int) → pX1_outOfTune_L4 n v1 v2 x = res → ∀ (H : Heap) (locs : List Loc) (ls : Array Slot), va_P G vwCl (wSt cI h x) H → va_D A (wSt cI h x) → va_S A s.heap H locs → lv_has ls 3 [(0, .ref (h 0)), (1, .int v1), (2, .int v2)] → W p l e (rmz 1 21) s m ([.ref (h 0)] : List Value).toArray below meth c H locs 0 0 (MQ below (QiA G A res (wSt cI h x)) ([.ref (h 0)] : List Value).toArray s 0 0 A) (F0 m 4 ls []) := by
    intro n
    induction n with
    | zero =>
      intro v1 v2 g_0 g_1 hm
      exfalso; omega
    | succ n ih =>
      intro v1 v2 g_0 g_1 hm hq H locs ls hP hD hS hl
      refine lv_iload_n hx hb dX1_outOfTune_4 rfl (lv_at hl 2 rfl) ?_
      refine lv_bipush (v := 12) hx hb dX1_outOfTune_5 (by decide) ?_
      refine lv_icmp_ge (tgt := 48) hx hb dX1_outOfTune_7 (by decide) (fun c_1 => ?_) (fun c_1 => ?_)
      · have t_1 := i_le (z := (12)) (w := (Int32.toInt v2)) c_1 (by decide) rfl
        refine lv_iload_n hx hb dX1_outOfTune_48 rfl (lv_at hl 1 rfl) ?_
        exact rt_r hx hb hr hlocks hP hD hS rfl ((show pX1_outOfTune_L4 (n + 1) v1 v2 x = v1 by rw [pX1_outOfTune_L4, if_pos c_1]).symm.trans hq |>.symm) dX1_outOfTune_49
      · have t_1 := i_nle (z := (12)) (w := (Int32.toInt v2)) c_1 (by decide) rfl
        refine lv_aload_n hx hb dX1_outOfTune_10 rfl (lv_at hl 0 rfl) ?_
        refine go_i hD hS hA (rn_V (As := []) (rest := []) ⟨hx, hb, hml, hown, hts⟩ (ctX1_openOnes l G cI cC cZ cR h x) (cwV 0 hts gX1_outOfTune_X1_openOnes rfl rfl rfl (by decide +kernel) ⟨Nat.le_of_ble_eq_true rfl, Nat.le_of_ble_eq_true rfl⟩) (md_recv hK hP rfl) hK hP hD hN rfl hl.1 rfl (Nat.le_of_ble_eq_true rfl) dX1_outOfTune_11) (fun H locs hP hD hS => ?_)
        refine lv_iload_n hx hb dX1_outOfTune_14 rfl (lv_at hl 2 rfl) ?_
        refine gn_i hP hS hA (rn_SN (As := [.int (pX1_openOnes x), .int v2]) (rest := []) ⟨hx, hb, hml, hown, hts⟩ (ctX2_has l G cI cC cZ cR (pX1_openOnes x) v2) ⟨va_cnB 2 hts gX1_outOfTune_X2_has_n87 rfl rfl rfl (NWs.nw hN 33 rfl) (hts _ (List.mem_of_getElem? (i := 11) rfl)) (by decide +kernel) ⟨Nat.le_of_ble_eq_true rfl, Nat.le_of_ble_eq_true rfl⟩, hts _ (List.mem_of_getElem? (i := 10) rfl), trivial⟩ hK nilP (nilD (A := A)) hN rfl hl.1 rfl (Nat.le_of_ble_eq_true rfl) dX1_outOfTune_15) (fun H locs hP hS => ?_)
        refine lv_if_eq (tgt := 42) hx hb dX1_outOfTune_18 (by decide) (fun c_2 => ?_) (fun c_2 => ?_)
        · refine lv_iinc (v := (v2 + 1)) (lv' := [(2, .int (v2 + 1)), (0, .ref (h 0)), (1, .int v1)]) hx hb dX1_outOfTune_42 hl (k := 2) rfl rfl (by decide) rfl (fun ls hl => ?_)
          have a_42 := i_add1 (a := v2) (by omega) (by omega)
          refine lv_goto (tgt := 4) hx hb dX1_outOfTune_45 (by decide) ?_
          exact ih v1 (v2 + 1) (by omega) (by omega) (by omega) ((show pX1_outOfTune_L4 (n + 1) v1 v2 x = pX1_outOfTune_L4 n v1 (v2 + 1) x by rw [pX1_outOfTune_L4, if_neg c_1, if_pos c_2]).symm.trans hq) _ _ _ hP hD hS (lv_sub hl [1, 2, 0] rfl)
        · refine lv_aload_n hx hb dX1_outOfTune_21 rfl (lv_at hl 0 rfl) ?_
          refine md_get (ci := 1) (C := RX1) (T := TX1) (N := 18) (v := .ref (h 2)) hx hb hts hin hown hK hP rfl 4 (by decide) k_25 rfl rfl rfl dX1_outOfTune_22 ?_
          refine lv_iload_n hx hb dX1_outOfTune_25 rfl (lv_at hl 2 rfl) ?_
          refine md_ia (v := x.2 1 (ix v2)) hx hb hK hP 1 0 rfl rfl (by first | assumption | decide | exact vp_in_iff.mpr ⟨by omega, by omega⟩ | exact isPlace_in (by assumption) | exact has_in (by assumption)) rfl dX1_outOfTune_26 ?_
          refine lv_aload_n hx hb dX1_outOfTune_27 rfl (lv_at hl 0 rfl) ?_
          refine md_get (ci := 1) (C := RX1) (T := TX1) (N := 18) (v := .ref (h 1)) hx hb hts hin hown hK hP rfl 0 (by decide) k_9 rfl rfl rfl dX1_outOfTune_28 ?_
          refine lv_iconst (v := 5) hx hb dX1_outOfTune_31 (by decide) ?_
          refine md_ia (v := x.2 0 (ix 5)) hx hb hK hP 0 0 rfl rfl (vp_in_iff.mpr ⟨by decide, by decide⟩) rfl dX1_outOfTune_32 ?_
          refine lv_icmp_ge (tgt := 42) hx hb dX1_outOfTune_33 (by decide) (fun c_3 => ?_) (fun c_3 => ?_)
          · have t_3 := i_le (z := (Int32.toInt (x.2 0 (ix 5)))) (w := (Int32.toInt (x.2 1 (ix v2)))) c_3 rfl rfl
            refine lv_iinc (v := (v2 + 1)) (lv' := [(2, .int (v2 + 1)), (0, .ref (h 0)), (1, .int v1)]) hx hb dX1_outOfTune_42 hl (k := 2) rfl rfl (by decide) rfl (fun ls hl => ?_)
            have a_42 := i_add1 (a := v2) (by omega) (by omega)
            refine lv_goto (tgt := 4) hx hb dX1_outOfTune_45 (by decide) ?_
            exact ih v1 (v2 + 1) (by omega) (by omega) (by omega) ((show pX1_outOfTune_L4 (n + 1) v1 v2 x = pX1_outOfTune_L4 n v1 (v2 + 1) x by rw [pX1_outOfTune_L4, if_neg c_1, if_neg c_2, if_pos c_3]).symm.trans hq) _ _ _ hP hD hS (lv_sub hl [1, 2, 0] rfl)
          · have t_3 := i_nle (z := (Int32.toInt (x.2 0 (ix 5)))) (w := (Int32.toInt (x.2 1 (ix v2)))) c_3 rfl rfl
            refine lv_iload_n hx hb dX1_outOfTune_36 rfl (lv_at hl 1 rfl) ?_
            refine lv_iconst (v := 1) hx hb dX1_outOfTune_37 (by decide) ?_
            refine lv_iload_n hx hb dX1_outOfTune_38 rfl (lv_at hl 2 rfl) ?_
            refine lv_ishl hx hb dX1_outOfTune_39 ?_
            refine lv_ior hx hb dX1_outOfTune_40 ?_
            refine lv_istore_n (lv' := [(1, .int (v1 ||| (1 <<< (v2 &&& 31)))), (0, .ref (h 0)), (2, .int v2)]) hx hb dX1_outOfTune_41 rfl hl (by decide) rfl (fun ls hl => ?_)
            refine lv_iinc (v := (v2 + 1)) (lv' := [(2, .int (v2 + 1)), (1, .int (v1 ||| (1 <<< (v2 &&& 31)))), (0, .ref (h 0))]) hx hb dX1_outOfTune_42 hl (k := 2) rfl rfl (by decide) rfl (fun ls hl => ?_)
            have a_42 := i_add1 (a := v2) (by omega) (by omega)
            refine lv_goto (tgt := 4) hx hb dX1_outOfTune_45 (by decide) ?_
            exact ih (v1 ||| (1 <<< (v2 &&& 31))) (v2 + 1) (by omega) (by omega) (by omega) ((show pX1_outOfTune_L4 (n + 1) v1 v2 x = pX1_outOfTune_L4 n (v1 ||| (1 <<< (v2 &&& 31))) (v2 + 1) x by rw [pX1_outOfTune_L4, if_neg c_1, if_neg c_2, if_neg c_3]).symm.trans hq) _ _ _ hP hD hS (lv_sub hl [2, 1, 0] rfl)
  refine lv_iconst (v := 0) hx hb dX1_outOfTune_0 (by decide) ?_
  refine lv_istore_n (lv' := [(1, .int 0), (0, .ref (h 0))]) hx hb dX1_outOfTune_1 rfl hl (by decide) rfl (fun ls hl => ?_)
  refine lv_iconst (v := 0) hx hb dX1_outOfTune_2 (by decide) ?_
  refine lv_istore_n (lv' := [(2, .int 0), (1, .int 0), (0, .ref (h 0))]) hx hb dX1_outOfTune_3 rfl hl (by decide) rfl (fun ls hl => ?_)
  exact lp_4 13 0 0 (by first | decide | omega | assumption) (by first | decide | omega | assumption) (by decide) ((show pX1_outOfTune x = pX1_outOfTune_L4 13 0 0 x by rw [pX1_outOfTune]).symm.trans hres) _ _ _ hP hD hS (lv_sub hl [2, 1, 0] rfl)
end
section
def pX1_goTowards (a1 : Int32) (a2 : Int32) (x : SR) : SR := if a2 ≤ (x.2 5 (ix a1)) then (pR (pR x 5 a1 ((x.2 5 (ix a1)) + (-1))) 9 a1 ((x.2 9 (ix a1)) + 1))
  else (pR (pR x 5 a1 ((x.2 5 (ix a1)) + 1)) 9 a1 ((x.2 9 (ix a1)) + 1))
set_option maxHeartbeats 4000000 in
set_option maxRecDepth 100000 in
theorem ctX1_goTowards (l : Launch) (G : va_G) (cI cC cZ cR : ClassId) (h : Ad) (x : SR) (a1 : Int32) (a2 : Int32) (q_0 : vp_in a1 5) : Ct l yX1_goTowards wsX1_goTowards (rmz 0 0) G (TY cI cC cZ cR) [.ref (h 0), .int a1, .int a2] (wSt cI h x) (Qv G (wSt cI h x) (wSt cI h (pX1_goTowards a1 a2 x))) := by
  refine Ct.ofV (cc := cX1_goTowards) (maxL := 3) (ret := none) (by decide) rfl rfl ?_
  intro p e s m below meth c A ls E0 hP hD hS hl
  obtain ⟨hx, hb, hr, hml, hlocks, hts, hown, hK, hN, hA⟩ := E0
  have hl : lv_has ls 3 [(0, .ref (h 0)), (1, .int a1), (2, .int a2)] := hl
  have hin : ∀ w ∈ wsX10, w ∈ wsX1_goTowards := fun w hw => List.mem_cons_of_mem _ (List.mem_append_right _ (hw))
  have k_40 : (Cond.fieldLink RX1 40 RX1 (TX1 9).2.1 (TX1 9).2.2.1).before ([.ref (h 0), .int a1, .int a2] : List Value).toArray s = true := hts _ (List.mem_of_getElem? (i := 1) rfl)
  have k_52 : (Cond.fieldLink RX1 52 RX1 (TX1 13).2.1 (TX1 13).2.2.1).before ([.ref (h 0), .int a1, .int a2] : List Value).toArray s = true := hts _ (List.mem_of_getElem? (i := 2) rfl)
  generalize hres : pX1_goTowards a1 a2 x = res
  refine lv_aload_n hx hb dX1_goTowards_0 rfl (lv_at hl 0 rfl) ?_
  refine md_get (ci := 1) (C := RX1) (T := TX1) (N := 18) (v := .ref (h 6)) hx hb hts hin hown hK hP rfl 9 (by decide) k_40 rfl rfl rfl dX1_goTowards_1 ?_
  refine lv_iload_n hx hb dX1_goTowards_4 rfl (lv_at hl 1 rfl) ?_
  refine lv_dup2_11 hx hb dX1_goTowards_5 rfl rfl ?_
  refine md_ia (v := x.2 5 (ix a1)) hx hb hK hP 5 0 rfl rfl (by first | assumption | decide | exact vp_in_iff.mpr ⟨by omega, by omega⟩ | exact isPlace_in (by assumption) | exact has_in (by assumption)) rfl dX1_goTowards_6 ?_
  refine lv_aload_n hx hb dX1_goTowards_7 rfl (lv_at hl 0 rfl) ?_
  refine md_get (ci := 1) (C := RX1) (T := TX1) (N := 18) (v := .ref (h 6)) hx hb hts hin hown hK hP rfl 9 (by decide) k_40 rfl rfl rfl dX1_goTowards_8 ?_
  refine lv_iload_n hx hb dX1_goTowards_11 rfl (lv_at hl 1 rfl) ?_
  refine md_ia (v := x.2 5 (ix a1)) hx hb hK hP 5 0 rfl rfl (by first | assumption | decide | exact vp_in_iff.mpr ⟨by omega, by omega⟩ | exact isPlace_in (by assumption) | exact has_in (by assumption)) rfl dX1_goTowards_12 ?_
  refine lv_iload_n hx hb dX1_goTowards_13 rfl (lv_at hl 2 rfl) ?_
  refine lv_icmp_ge (tgt := 21) hx hb dX1_goTowards_14 (by decide) (fun c_1 => ?_) (fun c_1 => ?_)
  · have t_1 := i_le (z := (Int32.toInt a2)) (w := (Int32.toInt (x.2 5 (ix a1)))) c_1 rfl rfl
    refine lv_iconst (v := (-1)) hx hb dX1_goTowards_21 (by decide) ?_
    refine lv_iadd hx hb dX1_goTowards_22 ?_
    refine md_is hx hb hK hP hD hS 5 0 rfl rfl (by first | assumption | decide | exact vp_in_iff.mpr ⟨by omega, by omega⟩ | exact isPlace_in (by assumption) | exact has_in (by assumption)) dX1_goTowards_23 (fun H locs hP hD hS => ?_)
    refine lv_aload_n hx hb dX1_goTowards_24 rfl (lv_at hl 0 rfl) ?_
    refine md_get (ci := 1) (C := RX1) (T := TX1) (N := 18) (v := .ref (h 10)) hx hb hts hin hown hK hP rfl 13 (by decide) k_52 rfl rfl rfl dX1_goTowards_25 ?_
    refine lv_iload_n hx hb dX1_goTowards_28 rfl (lv_at hl 1 rfl) ?_
    refine lv_dup2_11 hx hb dX1_goTowards_29 rfl rfl ?_
    refine md_ia (v := x.2 9 (ix a1)) hx hb hK hP 9 0 rfl rfl (by first | assumption | decide | exact vp_in_iff.mpr ⟨by omega, by omega⟩ | exact isPlace_in (by assumption) | exact has_in (by assumption)) rfl dX1_goTowards_30 ?_
    refine lv_iconst (v := 1) hx hb dX1_goTowards_31 (by decide) ?_
    refine lv_iadd hx hb dX1_goTowards_32 ?_
    refine md_is hx hb hK hP hD hS 9 0 rfl rfl (by first | assumption | decide | exact vp_in_iff.mpr ⟨by omega, by omega⟩ | exact isPlace_in (by assumption) | exact has_in (by assumption)) dX1_goTowards_33 (fun H locs hP hD hS => ?_)
    exact rt_s hx hb hr hlocks hP hD hS ((show pX1_goTowards a1 a2 x = (pR (pR x 5 a1 ((x.2 5 (ix a1)) + (-1))) 9 a1 ((x.2 9 (ix a1)) + 1)) by rw [pX1_goTowards, if_pos c_1]).symm.trans hres |>.symm) dX1_goTowards_34
  · have t_1 := i_nle (z := (Int32.toInt a2)) (w := (Int32.toInt (x.2 5 (ix a1)))) c_1 rfl rfl
    refine lv_iconst (v := 1) hx hb dX1_goTowards_17 (by decide) ?_
    refine lv_goto (tgt := 22) hx hb dX1_goTowards_18 (by decide) ?_
    refine lv_iadd hx hb dX1_goTowards_22 ?_
    refine md_is hx hb hK hP hD hS 5 0 rfl rfl (by first | assumption | decide | exact vp_in_iff.mpr ⟨by omega, by omega⟩ | exact isPlace_in (by assumption) | exact has_in (by assumption)) dX1_goTowards_23 (fun H locs hP hD hS => ?_)
    refine lv_aload_n hx hb dX1_goTowards_24 rfl (lv_at hl 0 rfl) ?_
    refine md_get (ci := 1) (C := RX1) (T := TX1) (N := 18) (v := .ref (h 10)) hx hb hts hin hown hK hP rfl 13 (by decide) k_52 rfl rfl rfl dX1_goTowards_25 ?_
    refine lv_iload_n hx hb dX1_goTowards_28 rfl (lv_at hl 1 rfl) ?_
    refine lv_dup2_11 hx hb dX1_goTowards_29 rfl rfl ?_
    refine md_ia (v := x.2 9 (ix a1)) hx hb hK hP 9 0 rfl rfl (by first | assumption | decide | exact vp_in_iff.mpr ⟨by omega, by omega⟩ | exact isPlace_in (by assumption) | exact has_in (by assumption)) rfl dX1_goTowards_30 ?_
    refine lv_iconst (v := 1) hx hb dX1_goTowards_31 (by decide) ?_
    refine lv_iadd hx hb dX1_goTowards_32 ?_
    refine md_is hx hb hK hP hD hS 9 0 rfl rfl (by first | assumption | decide | exact vp_in_iff.mpr ⟨by omega, by omega⟩ | exact isPlace_in (by assumption) | exact has_in (by assumption)) dX1_goTowards_33 (fun H locs hP hD hS => ?_)
    exact rt_s hx hb hr hlocks hP hD hS ((show pX1_goTowards a1 a2 x = (pR (pR x 5 a1 ((x.2 5 (ix a1)) + 1)) 9 a1 ((x.2 9 (ix a1)) + 1)) by rw [pX1_goTowards, if_neg c_1]).symm.trans hres |>.symm) dX1_goTowards_34
def pX1_tune (a1 : Int32) (a2 : Int32) (x : SR) : SR := (pR (pR x 1 a2 (mn 100 ((x.2 1 (ix a2)) + 10))) 8 a1 ((x.2 8 (ix a1)) + 1))
set_option maxHeartbeats 4000000 in
set_option maxRecDepth 100000 in
theorem ctX1_tune (l : Launch) (G : va_G) (cI cC cZ cR : ClassId) (h : Ad) (x : SR) (a1 : Int32) (a2 : Int32) (q_0 : vp_in a1 5) (q_1 : vp_in a2 12) : Ct l yX1_tune wsX1_tune (rmz 1 21) G (TY cI cC cZ cR) [.ref (h 0), .int a1, .int a2] (wSt cI h x) (Qv G (wSt cI h x) (wSt cI h (pX1_tune a1 a2 x))) := by
  refine Ct.ofV (cc := cX1_tune) (maxL := 3) (ret := none) (by decide) rfl rfl ?_
  intro p e s m below meth c A ls E0 hP hD hS hl
  obtain ⟨hx, hb, hr, hml, hlocks, hts, hown, hK, hN, hA⟩ := E0
  have hl : lv_has ls 3 [(0, .ref (h 0)), (1, .int a1), (2, .int a2)] := hl
  have hin : ∀ w ∈ wsX10, w ∈ wsX1_tune := fun w hw => List.mem_cons_of_mem _ (List.mem_append_right _ (hw))
  have k_25 : (Cond.fieldLink RX1 25 RX1 (TX1 4).2.1 (TX1 4).2.2.1).before ([.ref (h 0), .int a1, .int a2] : List Value).toArray s = true := hts _ (List.mem_of_getElem? (i := 1) rfl)
  have k_49 : (Cond.fieldLink RX1 49 RX1 (TX1 12).2.1 (TX1 12).2.2.1).before ([.ref (h 0), .int a1, .int a2] : List Value).toArray s = true := hts _ (List.mem_of_getElem? (i := 6) rfl)
  generalize hres : pX1_tune a1 a2 x = res
  refine lv_aload_n hx hb dX1_tune_0 rfl (lv_at hl 0 rfl) ?_
  refine md_get (ci := 1) (C := RX1) (T := TX1) (N := 18) (v := .ref (h 2)) hx hb hts hin hown hK hP rfl 4 (by decide) k_25 rfl rfl rfl dX1_tune_1 ?_
  refine lv_iload_n hx hb dX1_tune_4 rfl (lv_at hl 2 rfl) ?_
  refine lv_bipush (v := 100) hx hb dX1_tune_5 (by decide) ?_
  refine lv_aload_n hx hb dX1_tune_7 rfl (lv_at hl 0 rfl) ?_
  refine md_get (ci := 1) (C := RX1) (T := TX1) (N := 18) (v := .ref (h 2)) hx hb hts hin hown hK hP rfl 4 (by decide) k_25 rfl rfl rfl dX1_tune_8 ?_
  refine lv_iload_n hx hb dX1_tune_11 rfl (lv_at hl 2 rfl) ?_
  refine md_ia (v := x.2 1 (ix a2)) hx hb hK hP 1 0 rfl rfl (by first | assumption | decide | exact vp_in_iff.mpr ⟨by omega, by omega⟩ | exact isPlace_in (by assumption) | exact has_in (by assumption)) rfl dX1_tune_12 ?_
  refine lv_bipush (v := 10) hx hb dX1_tune_13 (by decide) ?_
  refine lv_iadd hx hb dX1_tune_15 ?_
  refine va_mmin hx hb (hml.trans hl.1.symm) hown (hts _ (List.mem_of_getElem? (i := 2) rfl)) (hts _ (List.mem_of_getElem? (i := 3) rfl)) (hts _ (List.mem_of_getElem? (i := 4) rfl)) (hts _ (List.mem_of_getElem? (i := 5) rfl)) (Nat.le_of_ble_eq_true rfl) (Nat.le_of_ble_eq_true rfl) (Nat.zero_le _) (Nat.zero_le _) dX1_tune_16 ?_
  refine W.eq (g2 := F0 m 19 ls (.int (mn 100 ((x.2 1 (ix a2)) + 10)) :: [.int a2, .ref (h 2)])) rfl ?_
  refine md_is hx hb hK hP hD hS 1 0 rfl rfl (by first | assumption | decide | exact vp_in_iff.mpr ⟨by omega, by omega⟩ | exact isPlace_in (by assumption) | exact has_in (by assumption)) dX1_tune_19 (fun H locs hP hD hS => ?_)
  refine lv_aload_n hx hb dX1_tune_20 rfl (lv_at hl 0 rfl) ?_
  refine md_get (ci := 1) (C := RX1) (T := TX1) (N := 18) (v := .ref (h 9)) hx hb hts hin hown hK hP rfl 12 (by decide) k_49 rfl rfl rfl dX1_tune_21 ?_
  refine lv_iload_n hx hb dX1_tune_24 rfl (lv_at hl 1 rfl) ?_
  refine lv_dup2_11 hx hb dX1_tune_25 rfl rfl ?_
  refine md_ia (v := x.2 8 (ix a1)) hx hb hK hP 8 0 rfl rfl (by first | assumption | decide | exact vp_in_iff.mpr ⟨by omega, by omega⟩ | exact isPlace_in (by assumption) | exact has_in (by assumption)) rfl dX1_tune_26 ?_
  refine lv_iconst (v := 1) hx hb dX1_tune_27 (by decide) ?_
  refine lv_iadd hx hb dX1_tune_28 ?_
  refine md_is hx hb hK hP hD hS 8 0 rfl rfl (by first | assumption | decide | exact vp_in_iff.mpr ⟨by omega, by omega⟩ | exact isPlace_in (by assumption) | exact has_in (by assumption)) dX1_tune_29 (fun H locs hP hD hS => ?_)
  exact rt_s hx hb hr hlocks hP hD hS ((show pX1_tune a1 a2 x = (pR (pR x 1 a2 (mn 100 ((x.2 1 (ix a2)) + 10))) 8 a1 ((x.2 8 (ix a1)) + 1)) by rw [pX1_tune]).symm.trans hres |>.symm) dX1_tune_30
def pX1_putCoverOn (a1 : Int32) (a2 : Int32) (x : SR) : SR := (pR (pS (pS x 1 ((x.1 1) &&& ((1 <<< (a2 &&& 31)) ^^^ (-1)))) 2 ((x.1 2) ||| (1 <<< (a2 &&& 31)))) 6 a1 ((x.2 6 (ix a1)) + 1))
set_option maxHeartbeats 4000000 in
set_option maxRecDepth 100000 in
theorem ctX1_putCoverOn (l : Launch) (G : va_G) (cI cC cZ cR : ClassId) (h : Ad) (x : SR) (a1 : Int32) (a2 : Int32) (q_0 : vp_in a1 5) : Ct l yX1_putCoverOn wsX1_putCoverOn (rmz 0 0) G (TY cI cC cZ cR) [.ref (h 0), .int a1, .int a2] (wSt cI h x) (Qv G (wSt cI h x) (wSt cI h (pX1_putCoverOn a1 a2 x))) := by
  refine Ct.ofV (cc := cX1_putCoverOn) (maxL := 3) (ret := none) (by decide) rfl rfl ?_
  intro p e s m below meth c A ls E0 hP hD hS hl
  obtain ⟨hx, hb, hr, hml, hlocks, hts, hown, hK, hN, hA⟩ := E0
  have hl : lv_has ls 3 [(0, .ref (h 0)), (1, .int a1), (2, .int a2)] := hl
  have hin : ∀ w ∈ wsX10, w ∈ wsX1_putCoverOn := fun w hw => List.mem_cons_of_mem _ (List.mem_append_right _ (hw))
  have k_19 : (Cond.fieldLink RX1 19 RX1 (TX1 2).2.1 (TX1 2).2.2.1).before ([.ref (h 0), .int a1, .int a2] : List Value).toArray s = true := hts _ (List.mem_of_getElem? (i := 1) rfl)
  have k_22 : (Cond.fieldLink RX1 22 RX1 (TX1 3).2.1 (TX1 3).2.2.1).before ([.ref (h 0), .int a1, .int a2] : List Value).toArray s = true := hts _ (List.mem_of_getElem? (i := 2) rfl)
  have k_43 : (Cond.fieldLink RX1 43 RX1 (TX1 10).2.1 (TX1 10).2.2.1).before ([.ref (h 0), .int a1, .int a2] : List Value).toArray s = true := hts _ (List.mem_of_getElem? (i := 3) rfl)
  generalize hres : pX1_putCoverOn a1 a2 x = res
  refine lv_aload_n hx hb dX1_putCoverOn_0 rfl (lv_at hl 0 rfl) ?_
  refine lv_dup hx hb dX1_putCoverOn_1 rfl ?_
  refine md_get (ci := 1) (C := RX1) (T := TX1) (N := 18) (v := .int (x.1 1)) hx hb hts hin hown hK hP rfl 2 (by decide) k_19 rfl rfl rfl dX1_putCoverOn_2 ?_
  refine lv_iconst (v := 1) hx hb dX1_putCoverOn_5 (by decide) ?_
  refine lv_iload_n hx hb dX1_putCoverOn_6 rfl (lv_at hl 2 rfl) ?_
  refine lv_ishl hx hb dX1_putCoverOn_7 ?_
  refine lv_iconst (v := (-1)) hx hb dX1_putCoverOn_8 (by decide) ?_
  refine lv_ixor hx hb dX1_putCoverOn_9 ?_
  refine lv_iand hx hb dX1_putCoverOn_10 ?_
  refine md_put (ci := 1) (C := RX1) (T := TX1) (N := 18) hx hb hts hin tyX1 tyX1_ok nmX1 hown hK hP hD hS rfl 2 (by decide) k_19 rfl rfl (q := 1) rfl (fu (by decide)) rfl rfl dX1_putCoverOn_11 (fun H locs hP hD hS => ?_)
  refine lv_aload_n hx hb dX1_putCoverOn_14 rfl (lv_at hl 0 rfl) ?_
  refine lv_dup hx hb dX1_putCoverOn_15 rfl ?_
  refine md_get (ci := 1) (C := RX1) (T := TX1) (N := 18) (v := .int (x.1 2)) hx hb hts hin hown hK hP rfl 3 (by decide) k_22 rfl rfl rfl dX1_putCoverOn_16 ?_
  refine lv_iconst (v := 1) hx hb dX1_putCoverOn_19 (by decide) ?_
  refine lv_iload_n hx hb dX1_putCoverOn_20 rfl (lv_at hl 2 rfl) ?_
  refine lv_ishl hx hb dX1_putCoverOn_21 ?_
  refine lv_ior hx hb dX1_putCoverOn_22 ?_
  refine md_put (ci := 1) (C := RX1) (T := TX1) (N := 18) hx hb hts hin tyX1 tyX1_ok nmX1 hown hK hP hD hS rfl 3 (by decide) k_22 rfl rfl (q := 2) rfl (fu (by decide)) rfl rfl dX1_putCoverOn_23 (fun H locs hP hD hS => ?_)
  refine lv_aload_n hx hb dX1_putCoverOn_26 rfl (lv_at hl 0 rfl) ?_
  refine md_get (ci := 1) (C := RX1) (T := TX1) (N := 18) (v := .ref (h 7)) hx hb hts hin hown hK hP rfl 10 (by decide) k_43 rfl rfl rfl dX1_putCoverOn_27 ?_
  refine lv_iload_n hx hb dX1_putCoverOn_30 rfl (lv_at hl 1 rfl) ?_
  refine lv_dup2_11 hx hb dX1_putCoverOn_31 rfl rfl ?_
  refine md_ia (v := x.2 6 (ix a1)) hx hb hK hP 6 0 rfl rfl (by first | assumption | decide | exact vp_in_iff.mpr ⟨by omega, by omega⟩ | exact isPlace_in (by assumption) | exact has_in (by assumption)) rfl dX1_putCoverOn_32 ?_
  refine lv_iconst (v := 1) hx hb dX1_putCoverOn_33 (by decide) ?_
  refine lv_iadd hx hb dX1_putCoverOn_34 ?_
  refine md_is hx hb hK hP hD hS 6 0 rfl rfl (by first | assumption | decide | exact vp_in_iff.mpr ⟨by omega, by omega⟩ | exact isPlace_in (by assumption) | exact has_in (by assumption)) dX1_putCoverOn_35 (fun H locs hP hD hS => ?_)
  exact rt_s hx hb hr hlocks hP hD hS ((show pX1_putCoverOn a1 a2 x = (pR (pS (pS x 1 ((x.1 1) &&& ((1 <<< (a2 &&& 31)) ^^^ (-1)))) 2 ((x.1 2) ||| (1 <<< (a2 &&& 31)))) 6 a1 ((x.2 6 (ix a1)) + 1)) by rw [pX1_putCoverOn]).symm.trans hres |>.symm) dX1_putCoverOn_36
def pX1_takeCoverOff (a1 : Int32) (a2 : Int32) (x : SR) : SR := (pR (pS (pS x 2 ((x.1 2) &&& ((1 <<< (a2 &&& 31)) ^^^ (-1)))) 1 ((x.1 1) ||| (1 <<< (a2 &&& 31)))) 7 a1 ((x.2 7 (ix a1)) + 1))
set_option maxHeartbeats 4000000 in
set_option maxRecDepth 100000 in
theorem ctX1_takeCoverOff (l : Launch) (G : va_G) (cI cC cZ cR : ClassId) (h : Ad) (x : SR) (a1 : Int32) (a2 : Int32) (q_0 : vp_in a1 5) : Ct l yX1_takeCoverOff wsX1_takeCoverOff (rmz 0 0) G (TY cI cC cZ cR) [.ref (h 0), .int a1, .int a2] (wSt cI h x) (Qv G (wSt cI h x) (wSt cI h (pX1_takeCoverOff a1 a2 x))) := by
  refine Ct.ofV (cc := cX1_takeCoverOff) (maxL := 3) (ret := none) (by decide) rfl rfl ?_
  intro p e s m below meth c A ls E0 hP hD hS hl
  obtain ⟨hx, hb, hr, hml, hlocks, hts, hown, hK, hN, hA⟩ := E0
  have hl : lv_has ls 3 [(0, .ref (h 0)), (1, .int a1), (2, .int a2)] := hl
  have hin : ∀ w ∈ wsX10, w ∈ wsX1_takeCoverOff := fun w hw => List.mem_cons_of_mem _ (List.mem_append_right _ (hw))
  have k_22 : (Cond.fieldLink RX1 22 RX1 (TX1 3).2.1 (TX1 3).2.2.1).before ([.ref (h 0), .int a1, .int a2] : List Value).toArray s = true := hts _ (List.mem_of_getElem? (i := 1) rfl)
  have k_19 : (Cond.fieldLink RX1 19 RX1 (TX1 2).2.1 (TX1 2).2.2.1).before ([.ref (h 0), .int a1, .int a2] : List Value).toArray s = true := hts _ (List.mem_of_getElem? (i := 2) rfl)
  have k_46 : (Cond.fieldLink RX1 46 RX1 (TX1 11).2.1 (TX1 11).2.2.1).before ([.ref (h 0), .int a1, .int a2] : List Value).toArray s = true := hts _ (List.mem_of_getElem? (i := 3) rfl)
  generalize hres : pX1_takeCoverOff a1 a2 x = res
  refine lv_aload_n hx hb dX1_takeCoverOff_0 rfl (lv_at hl 0 rfl) ?_
  refine lv_dup hx hb dX1_takeCoverOff_1 rfl ?_
  refine md_get (ci := 1) (C := RX1) (T := TX1) (N := 18) (v := .int (x.1 2)) hx hb hts hin hown hK hP rfl 3 (by decide) k_22 rfl rfl rfl dX1_takeCoverOff_2 ?_
  refine lv_iconst (v := 1) hx hb dX1_takeCoverOff_5 (by decide) ?_
  refine lv_iload_n hx hb dX1_takeCoverOff_6 rfl (lv_at hl 2 rfl) ?_
  refine lv_ishl hx hb dX1_takeCoverOff_7 ?_
  refine lv_iconst (v := (-1)) hx hb dX1_takeCoverOff_8 (by decide) ?_
  refine lv_ixor hx hb dX1_takeCoverOff_9 ?_
  refine lv_iand hx hb dX1_takeCoverOff_10 ?_
  refine md_put (ci := 1) (C := RX1) (T := TX1) (N := 18) hx hb hts hin tyX1 tyX1_ok nmX1 hown hK hP hD hS rfl 3 (by decide) k_22 rfl rfl (q := 2) rfl (fu (by decide)) rfl rfl dX1_takeCoverOff_11 (fun H locs hP hD hS => ?_)
  refine lv_aload_n hx hb dX1_takeCoverOff_14 rfl (lv_at hl 0 rfl) ?_
  refine lv_dup hx hb dX1_takeCoverOff_15 rfl ?_
  refine md_get (ci := 1) (C := RX1) (T := TX1) (N := 18) (v := .int (x.1 1)) hx hb hts hin hown hK hP rfl 2 (by decide) k_19 rfl rfl rfl dX1_takeCoverOff_16 ?_
  refine lv_iconst (v := 1) hx hb dX1_takeCoverOff_19 (by decide) ?_
  refine lv_iload_n hx hb dX1_takeCoverOff_20 rfl (lv_at hl 2 rfl) ?_
  refine lv_ishl hx hb dX1_takeCoverOff_21 ?_
  refine lv_ior hx hb dX1_takeCoverOff_22 ?_
  refine md_put (ci := 1) (C := RX1) (T := TX1) (N := 18) hx hb hts hin tyX1 tyX1_ok nmX1 hown hK hP hD hS rfl 2 (by decide) k_19 rfl rfl (q := 1) rfl (fu (by decide)) rfl rfl dX1_takeCoverOff_23 (fun H locs hP hD hS => ?_)
  refine lv_aload_n hx hb dX1_takeCoverOff_26 rfl (lv_at hl 0 rfl) ?_
  refine md_get (ci := 1) (C := RX1) (T := TX1) (N := 18) (v := .ref (h 8)) hx hb hts hin hown hK hP rfl 11 (by decide) k_46 rfl rfl rfl dX1_takeCoverOff_27 ?_
  refine lv_iload_n hx hb dX1_takeCoverOff_30 rfl (lv_at hl 1 rfl) ?_
  refine lv_dup2_11 hx hb dX1_takeCoverOff_31 rfl rfl ?_
  refine md_ia (v := x.2 7 (ix a1)) hx hb hK hP 7 0 rfl rfl (by first | assumption | decide | exact vp_in_iff.mpr ⟨by omega, by omega⟩ | exact isPlace_in (by assumption) | exact has_in (by assumption)) rfl dX1_takeCoverOff_32 ?_
  refine lv_iconst (v := 1) hx hb dX1_takeCoverOff_33 (by decide) ?_
  refine lv_iadd hx hb dX1_takeCoverOff_34 ?_
  refine md_is hx hb hK hP hD hS 7 0 rfl rfl (by first | assumption | decide | exact vp_in_iff.mpr ⟨by omega, by omega⟩ | exact isPlace_in (by assumption) | exact has_in (by assumption)) dX1_takeCoverOff_35 (fun H locs hP hD hS => ?_)
  exact rt_s hx hb hr hlocks hP hD hS ((show pX1_takeCoverOff a1 a2 x = (pR (pS (pS x 2 ((x.1 2) &&& ((1 <<< (a2 &&& 31)) ^^^ (-1)))) 1 ((x.1 1) ||| (1 <<< (a2 &&& 31)))) 7 a1 ((x.2 7 (ix a1)) + 1)) by rw [pX1_takeCoverOff]).symm.trans hres |>.symm) dX1_takeCoverOff_36
def pX1_letRainFall_L2 : Nat → Int32 → SR → SR
  | 0, v1, x => x
  | n + 1, v1, x => if 12 ≤ v1 then x
    else if (pX2_has (pX1_openOnes x) v1) = 0 then pX1_letRainFall_L2 n (v1 + 1) x
      else pX1_letRainFall_L2 n (v1 + 1) (pR (pR (pR x 2 v1 (mn 100 ((x.2 2 (ix v1)) + (x.2 0 (ix 1))))) 1 v1 (mx 0 ((x.2 1 (ix v1)) - (x.2 0 (ix 3))))) 4 v1 ((x.2 4 (ix v1)) + 1))
def pX1_letRainFall (x : SR) : SR := pX1_letRainFall_L2 13 0 x
set_option maxHeartbeats 4000000 in
set_option maxRecDepth 100000 in
theorem ctX1_letRainFall (l : Launch) (G : va_G) (cI cC cZ cR : ClassId) (h : Ad) (x : SR) : Ct l yX1_letRainFall wsX1_letRainFall (rmz 1 21) G (TY cI cC cZ cR) [.ref (h 0)] (wSt cI h x) (Qv G (wSt cI h x) (wSt cI h (pX1_letRainFall x))) := by
  refine Ct.ofV (cc := cX1_letRainFall) (maxL := 2) (ret := none) (by decide) rfl rfl ?_
  intro p e s m below meth c A ls E0 hP hD hS hl
  obtain ⟨hx, hb, hr, hml, hlocks, hts, hown, hK, hN, hA⟩ := E0
  have hl : lv_has ls 2 [(0, .ref (h 0))] := hl
  have hin : ∀ w ∈ wsX10, w ∈ wsX1_letRainFall := fun w hw => List.mem_cons_of_mem _ (List.mem_append_right _ (hw))
  have k_28 : (Cond.fieldLink RX1 28 RX1 (TX1 5).2.1 (TX1 5).2.2.1).before ([.ref (h 0)] : List Value).toArray s = true := hts _ (List.mem_of_getElem? (i := 1) rfl)
  have k_9 : (Cond.fieldLink RX1 9 RX1 (TX1 0).2.1 (TX1 0).2.2.1).before ([.ref (h 0)] : List Value).toArray s = true := hts _ (List.mem_of_getElem? (i := 2) rfl)
  have k_25 : (Cond.fieldLink RX1 25 RX1 (TX1 4).2.1 (TX1 4).2.2.1).before ([.ref (h 0)] : List Value).toArray s = true := hts _ (List.mem_of_getElem? (i := 7) rfl)
  have k_34 : (Cond.fieldLink RX1 34 RX1 (TX1 7).2.1 (TX1 7).2.2.1).before ([.ref (h 0)] : List Value).toArray s = true := hts _ (List.mem_of_getElem? (i := 11) rfl)
  generalize hres : pX1_letRainFall x = res
  have lp_2 : ∀ (n : Nat) (v1 : Int32) (x : SR), 0 ≤ Int32.toInt v1 → Int32.toInt v1 ≤ 12 → 12 - Int32.toInt v1 < (n : Int) → pX1_letRainFall_L2 n v1 x = res → ∀ (H : Heap) (locs : List Loc) (ls : Array Slot), va_P G vwCl (wSt cI h x) H → va_D A (wSt cI h x) → va_S A s.heap H locs → lv_has ls 2 [(0, .ref (h 0)), (1, .int v1)] → W p l e (rmz 1 21) s m ([.ref (h 0)] : List Value).toArray below meth c H locs 0 0 (MQ below (QvA G A (wSt cI h res)) ([.ref (h 0)] : List Value).toArray s 0 0 A) (F0 m 2 ls []) := by
    intro n
    induction n with
    | zero =>
      intro v1 x g_0 g_1 hm
      exfalso; omega
    | succ n ih =>
      intro v1 x g_0 g_1 hm hq H locs ls hP hD hS hl
      refine lv_iload_n hx hb dX1_letRainFall_2 rfl (lv_at hl 1 rfl) ?_
      refine lv_bipush (v := 12) hx hb dX1_letRainFall_3 (by decide) ?_
      refine lv_icmp_ge (tgt := 82) hx hb dX1_letRainFall_5 (by decide) (fun c_1 => ?_) (fun c_1 => ?_)
      · have t_1 := i_le (z := (12)) (w := (Int32.toInt v1)) c_1 (by decide) rfl
        exact rt_s hx hb hr hlocks hP hD hS ((show pX1_letRainFall_L2 (n + 1) v1 x = x by rw [pX1_letRainFall_L2, if_pos c_1]).symm.trans hq |>.symm) dX1_letRainFall_82
      · have t_1 := i_nle (z := (12)) (w := (Int32.toInt v1)) c_1 (by decide) rfl
        refine lv_aload_n hx hb dX1_letRainFall_8 rfl (lv_at hl 0 rfl) ?_
        refine go_i hD hS hA (rn_V (As := []) (rest := []) ⟨hx, hb, hml, hown, hts⟩ (ctX1_openOnes l G cI cC cZ cR h x) (cwV 0 hts gX1_letRainFall_X1_openOnes rfl rfl rfl (by decide +kernel) ⟨Nat.le_of_ble_eq_true rfl, Nat.le_of_ble_eq_true rfl⟩) (md_recv hK hP rfl) hK hP hD hN rfl hl.1 rfl (Nat.le_of_ble_eq_true rfl) dX1_letRainFall_9) (fun H locs hP hD hS => ?_)
        refine lv_iload_n hx hb dX1_letRainFall_12 rfl (lv_at hl 1 rfl) ?_
        refine gn_i hP hS hA (rn_SN (As := [.int (pX1_openOnes x), .int v1]) (rest := []) ⟨hx, hb, hml, hown, hts⟩ (ctX2_has l G cI cC cZ cR (pX1_openOnes x) v1) ⟨va_cnB 2 hts gX1_letRainFall_X2_has_n87 rfl rfl rfl (NWs.nw hN 33 rfl) (hts _ (List.mem_of_getElem? (i := 20) rfl)) (by decide +kernel) ⟨Nat.le_of_ble_eq_true rfl, Nat.le_of_ble_eq_true rfl⟩, hts _ (List.mem_of_getElem? (i := 19) rfl), trivial⟩ hK nilP (nilD (A := A)) hN rfl hl.1 rfl (Nat.le_of_ble_eq_true rfl) dX1_letRainFall_13) (fun H locs hP hS => ?_)
        refine lv_if_eq (tgt := 76) hx hb dX1_letRainFall_16 (by decide) (fun c_2 => ?_) (fun c_2 => ?_)
        · refine lv_iinc (v := (v1 + 1)) (lv' := [(1, .int (v1 + 1)), (0, .ref (h 0))]) hx hb dX1_letRainFall_76 hl (k := 1) rfl rfl (by decide) rfl (fun ls hl => ?_)
          have a_76 := i_add1 (a := v1) (by omega) (by omega)
          refine lv_goto (tgt := 2) hx hb dX1_letRainFall_79 (by decide) ?_
          exact ih (v1 + 1) x (by omega) (by omega) (by omega) ((show pX1_letRainFall_L2 (n + 1) v1 x = pX1_letRainFall_L2 n (v1 + 1) x by rw [pX1_letRainFall_L2, if_neg c_1, if_pos c_2]).symm.trans hq) _ _ _ hP hD hS (lv_sub hl [1, 0] rfl)
        · refine lv_aload_n hx hb dX1_letRainFall_19 rfl (lv_at hl 0 rfl) ?_
          refine md_get (ci := 1) (C := RX1) (T := TX1) (N := 18) (v := .ref (h 3)) hx hb hts hin hown hK hP rfl 5 (by decide) k_28 rfl rfl rfl dX1_letRainFall_20 ?_
          refine lv_iload_n hx hb dX1_letRainFall_23 rfl (lv_at hl 1 rfl) ?_
          refine lv_bipush (v := 100) hx hb dX1_letRainFall_24 (by decide) ?_
          refine lv_aload_n hx hb dX1_letRainFall_26 rfl (lv_at hl 0 rfl) ?_
          refine md_get (ci := 1) (C := RX1) (T := TX1) (N := 18) (v := .ref (h 3)) hx hb hts hin hown hK hP rfl 5 (by decide) k_28 rfl rfl rfl dX1_letRainFall_27 ?_
          refine lv_iload_n hx hb dX1_letRainFall_30 rfl (lv_at hl 1 rfl) ?_
          refine md_ia (v := x.2 2 (ix v1)) hx hb hK hP 2 0 rfl rfl (by first | assumption | decide | exact vp_in_iff.mpr ⟨by omega, by omega⟩ | exact isPlace_in (by assumption) | exact has_in (by assumption)) rfl dX1_letRainFall_31 ?_
          refine lv_aload_n hx hb dX1_letRainFall_32 rfl (lv_at hl 0 rfl) ?_
          refine md_get (ci := 1) (C := RX1) (T := TX1) (N := 18) (v := .ref (h 1)) hx hb hts hin hown hK hP rfl 0 (by decide) k_9 rfl rfl rfl dX1_letRainFall_33 ?_
          refine lv_iconst (v := 1) hx hb dX1_letRainFall_36 (by decide) ?_
          refine md_ia (v := x.2 0 (ix 1)) hx hb hK hP 0 0 rfl rfl (vp_in_iff.mpr ⟨by decide, by decide⟩) rfl dX1_letRainFall_37 ?_
          refine lv_iadd hx hb dX1_letRainFall_38 ?_
          refine va_mmin hx hb (hml.trans hl.1.symm) hown (hts _ (List.mem_of_getElem? (i := 3) rfl)) (hts _ (List.mem_of_getElem? (i := 4) rfl)) (hts _ (List.mem_of_getElem? (i := 5) rfl)) (hts _ (List.mem_of_getElem? (i := 6) rfl)) (Nat.le_of_ble_eq_true rfl) (Nat.le_of_ble_eq_true rfl) (Nat.zero_le _) (Nat.zero_le _) dX1_letRainFall_39 ?_
          refine W.eq (g2 := F0 m 42 ls (.int (mn 100 ((x.2 2 (ix v1)) + (x.2 0 (ix 1)))) :: [.int v1, .ref (h 3)])) rfl ?_
          refine md_is hx hb hK hP hD hS 2 0 rfl rfl (by first | assumption | decide | exact vp_in_iff.mpr ⟨by omega, by omega⟩ | exact isPlace_in (by assumption) | exact has_in (by assumption)) dX1_letRainFall_42 (fun H locs hP hD hS => ?_)
          refine lv_aload_n hx hb dX1_letRainFall_43 rfl (lv_at hl 0 rfl) ?_
          refine md_get (ci := 1) (C := RX1) (T := TX1) (N := 18) (v := .ref (h 2)) hx hb hts hin hown hK hP rfl 4 (by decide) k_25 rfl rfl rfl dX1_letRainFall_44 ?_
          refine lv_iload_n hx hb dX1_letRainFall_47 rfl (lv_at hl 1 rfl) ?_
          refine lv_iconst (v := 0) hx hb dX1_letRainFall_48 (by decide) ?_
          refine lv_aload_n hx hb dX1_letRainFall_49 rfl (lv_at hl 0 rfl) ?_
          refine md_get (ci := 1) (C := RX1) (T := TX1) (N := 18) (v := .ref (h 2)) hx hb hts hin hown hK hP rfl 4 (by decide) k_25 rfl rfl rfl dX1_letRainFall_50 ?_
          refine lv_iload_n hx hb dX1_letRainFall_53 rfl (lv_at hl 1 rfl) ?_
          refine md_ia (v := x.2 1 (ix v1)) hx hb hK hP 1 0 rfl rfl (by first | assumption | decide | exact vp_in_iff.mpr ⟨by omega, by omega⟩ | exact isPlace_in (by assumption) | exact has_in (by assumption)) rfl dX1_letRainFall_54 ?_
          refine lv_aload_n hx hb dX1_letRainFall_55 rfl (lv_at hl 0 rfl) ?_
          refine md_get (ci := 1) (C := RX1) (T := TX1) (N := 18) (v := .ref (h 1)) hx hb hts hin hown hK hP rfl 0 (by decide) k_9 rfl rfl rfl dX1_letRainFall_56 ?_
          refine lv_iconst (v := 3) hx hb dX1_letRainFall_59 (by decide) ?_
          refine md_ia (v := x.2 0 (ix 3)) hx hb hK hP 0 0 rfl rfl (vp_in_iff.mpr ⟨by decide, by decide⟩) rfl dX1_letRainFall_60 ?_
          refine lv_isub hx hb dX1_letRainFall_61 ?_
          refine va_mmax hx hb (hml.trans hl.1.symm) hown (hts _ (List.mem_of_getElem? (i := 8) rfl)) (hts _ (List.mem_of_getElem? (i := 9) rfl)) (hts _ (List.mem_of_getElem? (i := 5) rfl)) (hts _ (List.mem_of_getElem? (i := 10) rfl)) (Nat.le_of_ble_eq_true rfl) (Nat.le_of_ble_eq_true rfl) (Nat.zero_le _) (Nat.zero_le _) dX1_letRainFall_62 ?_
          refine W.eq (g2 := F0 m 65 ls (.int (mx 0 ((x.2 1 (ix v1)) - (x.2 0 (ix 3)))) :: [.int v1, .ref (h 2)])) rfl ?_
          refine md_is hx hb hK hP hD hS 1 0 rfl rfl (by first | assumption | decide | exact vp_in_iff.mpr ⟨by omega, by omega⟩ | exact isPlace_in (by assumption) | exact has_in (by assumption)) dX1_letRainFall_65 (fun H locs hP hD hS => ?_)
          refine lv_aload_n hx hb dX1_letRainFall_66 rfl (lv_at hl 0 rfl) ?_
          refine md_get (ci := 1) (C := RX1) (T := TX1) (N := 18) (v := .ref (h 5)) hx hb hts hin hown hK hP rfl 7 (by decide) k_34 rfl rfl rfl dX1_letRainFall_67 ?_
          refine lv_iload_n hx hb dX1_letRainFall_70 rfl (lv_at hl 1 rfl) ?_
          refine lv_dup2_11 hx hb dX1_letRainFall_71 rfl rfl ?_
          refine md_ia (v := x.2 4 (ix v1)) hx hb hK hP 4 0 rfl rfl (by first | assumption | decide | exact vp_in_iff.mpr ⟨by omega, by omega⟩ | exact isPlace_in (by assumption) | exact has_in (by assumption)) rfl dX1_letRainFall_72 ?_
          refine lv_iconst (v := 1) hx hb dX1_letRainFall_73 (by decide) ?_
          refine lv_iadd hx hb dX1_letRainFall_74 ?_
          refine md_is hx hb hK hP hD hS 4 0 rfl rfl (by first | assumption | decide | exact vp_in_iff.mpr ⟨by omega, by omega⟩ | exact isPlace_in (by assumption) | exact has_in (by assumption)) dX1_letRainFall_75 (fun H locs hP hD hS => ?_)
          refine lv_iinc (v := (v1 + 1)) (lv' := [(1, .int (v1 + 1)), (0, .ref (h 0))]) hx hb dX1_letRainFall_76 hl (k := 1) rfl rfl (by decide) rfl (fun ls hl => ?_)
          have a_76 := i_add1 (a := v1) (by omega) (by omega)
          refine lv_goto (tgt := 2) hx hb dX1_letRainFall_79 (by decide) ?_
          exact ih (v1 + 1) (pR (pR (pR x 2 v1 (mn 100 ((x.2 2 (ix v1)) + (x.2 0 (ix 1))))) 1 v1 (mx 0 ((x.2 1 (ix v1)) - (x.2 0 (ix 3))))) 4 v1 ((x.2 4 (ix v1)) + 1)) (by omega) (by omega) (by omega) ((show pX1_letRainFall_L2 (n + 1) v1 x = pX1_letRainFall_L2 n (v1 + 1) (pR (pR (pR x 2 v1 (mn 100 ((x.2 2 (ix v1)) + (x.2 0 (ix 1))))) 1 v1 (mx 0 ((x.2 1 (ix v1)) - (x.2 0 (ix 3))))) 4 v1 ((x.2 4 (ix v1)) + 1)) by rw [pX1_letRainFall_L2, if_neg c_1, if_neg c_2]).symm.trans hq) _ _ _ hP hD hS (lv_sub hl [1, 0] rfl)
  refine lv_iconst (v := 0) hx hb dX1_letRainFall_0 (by decide) ?_
  refine lv_istore_n (lv' := [(1, .int 0), (0, .ref (h 0))]) hx hb dX1_letRainFall_1 rfl hl (by decide) rfl (fun ls hl => ?_)
  exact lp_2 13 0 x (by first | decide | omega | assumption) (by first | decide | omega | assumption) (by decide) ((show pX1_letRainFall x = pX1_letRainFall_L2 13 0 x by rw [pX1_letRainFall]).symm.trans hres) _ _ _ hP hD hS (lv_sub hl [1, 0] rfl)
def pX1_letPianosDry_L2 : Nat → Int32 → SR → SR
  | 0, v1, x => x
  | n + 1, v1, x => if 12 ≤ v1 then x
    else if (pX2_has (pX1_openOnes x) v1) = 0 then pX1_letPianosDry_L2 n (v1 + 1) x
      else pX1_letPianosDry_L2 n (v1 + 1) (pR x 2 v1 (mx 0 ((x.2 2 (ix v1)) - (x.2 0 (ix 2)))))
def pX1_letPianosDry (x : SR) : SR := pX1_letPianosDry_L2 13 0 x
set_option maxHeartbeats 4000000 in
set_option maxRecDepth 100000 in
theorem ctX1_letPianosDry (l : Launch) (G : va_G) (cI cC cZ cR : ClassId) (h : Ad) (x : SR) : Ct l yX1_letPianosDry wsX1_letPianosDry (rmz 1 21) G (TY cI cC cZ cR) [.ref (h 0)] (wSt cI h x) (Qv G (wSt cI h x) (wSt cI h (pX1_letPianosDry x))) := by
  refine Ct.ofV (cc := cX1_letPianosDry) (maxL := 2) (ret := none) (by decide) rfl rfl ?_
  intro p e s m below meth c A ls E0 hP hD hS hl
  obtain ⟨hx, hb, hr, hml, hlocks, hts, hown, hK, hN, hA⟩ := E0
  have hl : lv_has ls 2 [(0, .ref (h 0))] := hl
  have hin : ∀ w ∈ wsX10, w ∈ wsX1_letPianosDry := fun w hw => List.mem_cons_of_mem _ (List.mem_append_right _ (hw))
  have k_28 : (Cond.fieldLink RX1 28 RX1 (TX1 5).2.1 (TX1 5).2.2.1).before ([.ref (h 0)] : List Value).toArray s = true := hts _ (List.mem_of_getElem? (i := 1) rfl)
  have k_9 : (Cond.fieldLink RX1 9 RX1 (TX1 0).2.1 (TX1 0).2.2.1).before ([.ref (h 0)] : List Value).toArray s = true := hts _ (List.mem_of_getElem? (i := 2) rfl)
  generalize hres : pX1_letPianosDry x = res
  have lp_2 : ∀ (n : Nat) (v1 : Int32) (x : SR), 0 ≤ Int32.toInt v1 → Int32.toInt v1 ≤ 12 → 12 - Int32.toInt v1 < (n : Int) → pX1_letPianosDry_L2 n v1 x = res → ∀ (H : Heap) (locs : List Loc) (ls : Array Slot), va_P G vwCl (wSt cI h x) H → va_D A (wSt cI h x) → va_S A s.heap H locs → lv_has ls 2 [(0, .ref (h 0)), (1, .int v1)] → W p l e (rmz 1 21) s m ([.ref (h 0)] : List Value).toArray below meth c H locs 0 0 (MQ below (QvA G A (wSt cI h res)) ([.ref (h 0)] : List Value).toArray s 0 0 A) (F0 m 2 ls []) := by
    intro n
    induction n with
    | zero =>
      intro v1 x g_0 g_1 hm
      exfalso; omega
    | succ n ih =>
      intro v1 x g_0 g_1 hm hq H locs ls hP hD hS hl
      refine lv_iload_n hx hb dX1_letPianosDry_2 rfl (lv_at hl 1 rfl) ?_
      refine lv_bipush (v := 12) hx hb dX1_letPianosDry_3 (by decide) ?_
      refine lv_icmp_ge (tgt := 48) hx hb dX1_letPianosDry_5 (by decide) (fun c_1 => ?_) (fun c_1 => ?_)
      · have t_1 := i_le (z := (12)) (w := (Int32.toInt v1)) c_1 (by decide) rfl
        exact rt_s hx hb hr hlocks hP hD hS ((show pX1_letPianosDry_L2 (n + 1) v1 x = x by rw [pX1_letPianosDry_L2, if_pos c_1]).symm.trans hq |>.symm) dX1_letPianosDry_48
      · have t_1 := i_nle (z := (12)) (w := (Int32.toInt v1)) c_1 (by decide) rfl
        refine lv_aload_n hx hb dX1_letPianosDry_8 rfl (lv_at hl 0 rfl) ?_
        refine go_i hD hS hA (rn_V (As := []) (rest := []) ⟨hx, hb, hml, hown, hts⟩ (ctX1_openOnes l G cI cC cZ cR h x) (cwV 0 hts gX1_letPianosDry_X1_openOnes rfl rfl rfl (by decide +kernel) ⟨Nat.le_of_ble_eq_true rfl, Nat.le_of_ble_eq_true rfl⟩) (md_recv hK hP rfl) hK hP hD hN rfl hl.1 rfl (Nat.le_of_ble_eq_true rfl) dX1_letPianosDry_9) (fun H locs hP hD hS => ?_)
        refine lv_iload_n hx hb dX1_letPianosDry_12 rfl (lv_at hl 1 rfl) ?_
        refine gn_i hP hS hA (rn_SN (As := [.int (pX1_openOnes x), .int v1]) (rest := []) ⟨hx, hb, hml, hown, hts⟩ (ctX2_has l G cI cC cZ cR (pX1_openOnes x) v1) ⟨va_cnB 2 hts gX1_letPianosDry_X2_has_n87 rfl rfl rfl (NWs.nw hN 33 rfl) (hts _ (List.mem_of_getElem? (i := 15) rfl)) (by decide +kernel) ⟨Nat.le_of_ble_eq_true rfl, Nat.le_of_ble_eq_true rfl⟩, hts _ (List.mem_of_getElem? (i := 14) rfl), trivial⟩ hK nilP (nilD (A := A)) hN rfl hl.1 rfl (Nat.le_of_ble_eq_true rfl) dX1_letPianosDry_13) (fun H locs hP hS => ?_)
        refine lv_if_eq (tgt := 42) hx hb dX1_letPianosDry_16 (by decide) (fun c_2 => ?_) (fun c_2 => ?_)
        · refine lv_iinc (v := (v1 + 1)) (lv' := [(1, .int (v1 + 1)), (0, .ref (h 0))]) hx hb dX1_letPianosDry_42 hl (k := 1) rfl rfl (by decide) rfl (fun ls hl => ?_)
          have a_42 := i_add1 (a := v1) (by omega) (by omega)
          refine lv_goto (tgt := 2) hx hb dX1_letPianosDry_45 (by decide) ?_
          exact ih (v1 + 1) x (by omega) (by omega) (by omega) ((show pX1_letPianosDry_L2 (n + 1) v1 x = pX1_letPianosDry_L2 n (v1 + 1) x by rw [pX1_letPianosDry_L2, if_neg c_1, if_pos c_2]).symm.trans hq) _ _ _ hP hD hS (lv_sub hl [1, 0] rfl)
        · refine lv_aload_n hx hb dX1_letPianosDry_19 rfl (lv_at hl 0 rfl) ?_
          refine md_get (ci := 1) (C := RX1) (T := TX1) (N := 18) (v := .ref (h 3)) hx hb hts hin hown hK hP rfl 5 (by decide) k_28 rfl rfl rfl dX1_letPianosDry_20 ?_
          refine lv_iload_n hx hb dX1_letPianosDry_23 rfl (lv_at hl 1 rfl) ?_
          refine lv_iconst (v := 0) hx hb dX1_letPianosDry_24 (by decide) ?_
          refine lv_aload_n hx hb dX1_letPianosDry_25 rfl (lv_at hl 0 rfl) ?_
          refine md_get (ci := 1) (C := RX1) (T := TX1) (N := 18) (v := .ref (h 3)) hx hb hts hin hown hK hP rfl 5 (by decide) k_28 rfl rfl rfl dX1_letPianosDry_26 ?_
          refine lv_iload_n hx hb dX1_letPianosDry_29 rfl (lv_at hl 1 rfl) ?_
          refine md_ia (v := x.2 2 (ix v1)) hx hb hK hP 2 0 rfl rfl (by first | assumption | decide | exact vp_in_iff.mpr ⟨by omega, by omega⟩ | exact isPlace_in (by assumption) | exact has_in (by assumption)) rfl dX1_letPianosDry_30 ?_
          refine lv_aload_n hx hb dX1_letPianosDry_31 rfl (lv_at hl 0 rfl) ?_
          refine md_get (ci := 1) (C := RX1) (T := TX1) (N := 18) (v := .ref (h 1)) hx hb hts hin hown hK hP rfl 0 (by decide) k_9 rfl rfl rfl dX1_letPianosDry_32 ?_
          refine lv_iconst (v := 2) hx hb dX1_letPianosDry_35 (by decide) ?_
          refine md_ia (v := x.2 0 (ix 2)) hx hb hK hP 0 0 rfl rfl (vp_in_iff.mpr ⟨by decide, by decide⟩) rfl dX1_letPianosDry_36 ?_
          refine lv_isub hx hb dX1_letPianosDry_37 ?_
          refine va_mmax hx hb (hml.trans hl.1.symm) hown (hts _ (List.mem_of_getElem? (i := 3) rfl)) (hts _ (List.mem_of_getElem? (i := 4) rfl)) (hts _ (List.mem_of_getElem? (i := 5) rfl)) (hts _ (List.mem_of_getElem? (i := 6) rfl)) (Nat.le_of_ble_eq_true rfl) (Nat.le_of_ble_eq_true rfl) (Nat.zero_le _) (Nat.zero_le _) dX1_letPianosDry_38 ?_
          refine W.eq (g2 := F0 m 41 ls (.int (mx 0 ((x.2 2 (ix v1)) - (x.2 0 (ix 2)))) :: [.int v1, .ref (h 3)])) rfl ?_
          refine md_is hx hb hK hP hD hS 2 0 rfl rfl (by first | assumption | decide | exact vp_in_iff.mpr ⟨by omega, by omega⟩ | exact isPlace_in (by assumption) | exact has_in (by assumption)) dX1_letPianosDry_41 (fun H locs hP hD hS => ?_)
          refine lv_iinc (v := (v1 + 1)) (lv' := [(1, .int (v1 + 1)), (0, .ref (h 0))]) hx hb dX1_letPianosDry_42 hl (k := 1) rfl rfl (by decide) rfl (fun ls hl => ?_)
          have a_42 := i_add1 (a := v1) (by omega) (by omega)
          refine lv_goto (tgt := 2) hx hb dX1_letPianosDry_45 (by decide) ?_
          exact ih (v1 + 1) (pR x 2 v1 (mx 0 ((x.2 2 (ix v1)) - (x.2 0 (ix 2))))) (by omega) (by omega) (by omega) ((show pX1_letPianosDry_L2 (n + 1) v1 x = pX1_letPianosDry_L2 n (v1 + 1) (pR x 2 v1 (mx 0 ((x.2 2 (ix v1)) - (x.2 0 (ix 2))))) by rw [pX1_letPianosDry_L2, if_neg c_1, if_neg c_2]).symm.trans hq) _ _ _ hP hD hS (lv_sub hl [1, 0] rfl)
  refine lv_iconst (v := 0) hx hb dX1_letPianosDry_0 (by decide) ?_
  refine lv_istore_n (lv' := [(1, .int 0), (0, .ref (h 0))]) hx hb dX1_letPianosDry_1 rfl hl (by decide) rfl (fun ls hl => ?_)
  exact lp_2 13 0 x (by first | decide | omega | assumption) (by first | decide | omega | assumption) (by decide) ((show pX1_letPianosDry x = pX1_letPianosDry_L2 13 0 x by rw [pX1_letPianosDry]).symm.trans hres) _ _ _ hP hD hS (lv_sub hl [1, 0] rfl)
def pX1_letPianosBePlayed_L23 : Nat → Int32 → Int32 → SR → SR
  | 0, v1, v2, x => x
  | n + 1, v1, v2, x => if 12 ≤ v2 then x
    else if (pX2_has (pX1_openOnes x) v2) = 0 then pX1_letPianosBePlayed_L23 n v1 (v2 + 1) x
      else if 50 ≤ (x.2 2 (ix v2)) then pX1_letPianosBePlayed_L23 n v1 (v2 + 1) x
        else pX1_letPianosBePlayed_L23 n v1 (v2 + 1) (pR (pS (pR x 3 v2 ((x.2 3 (ix v2)) + (((x.2 0 (ix 4)) * (x.2 1 (ix v2))) / 100))) 6 ((x.1 6) + (((x.2 0 (ix 4)) * (x.2 1 (ix v2))) / 100))) 1 v2 (mx 0 ((x.2 1 (ix v2)) - 1)))
def pX1_letPianosBePlayed (x : SR) : SR := if ((x.1 5) - (x.1 5) / 24 * 24) < 8 then x
  else if ((x.1 5) - (x.1 5) / 24 * 24) ≤ 21 then pX1_letPianosBePlayed_L23 13 ((x.1 5) - (x.1 5) / 24 * 24) 0 x
    else x
set_option maxHeartbeats 4000000 in
set_option maxRecDepth 100000 in
theorem ctX1_letPianosBePlayed (l : Launch) (G : va_G) (cI cC cZ cR : ClassId) (h : Ad) (x : SR) : Ct l yX1_letPianosBePlayed wsX1_letPianosBePlayed (rmz 1 21) G (TY cI cC cZ cR) [.ref (h 0)] (wSt cI h x) (Qv G (wSt cI h x) (wSt cI h (pX1_letPianosBePlayed x))) := by
  refine Ct.ofV (cc := cX1_letPianosBePlayed) (maxL := 4) (ret := none) (by decide) rfl rfl ?_
  intro p e s m below meth c A ls E0 hP hD hS hl
  obtain ⟨hx, hb, hr, hml, hlocks, hts, hown, hK, hN, hA⟩ := E0
  have hl : lv_has ls 4 [(0, .ref (h 0))] := hl
  have hin : ∀ w ∈ wsX10, w ∈ wsX1_letPianosBePlayed := fun w hw => List.mem_cons_of_mem _ (List.mem_append_right _ (hw))
  have k_58 : (Cond.fieldLink RX1 58 RX1 (TX1 15).2.1 (TX1 15).2.2.1).before ([.ref (h 0)] : List Value).toArray s = true := hts _ (List.mem_of_getElem? (i := 1) rfl)
  have k_28 : (Cond.fieldLink RX1 28 RX1 (TX1 5).2.1 (TX1 5).2.2.1).before ([.ref (h 0)] : List Value).toArray s = true := hts _ (List.mem_of_getElem? (i := 2) rfl)
  have k_9 : (Cond.fieldLink RX1 9 RX1 (TX1 0).2.1 (TX1 0).2.2.1).before ([.ref (h 0)] : List Value).toArray s = true := hts _ (List.mem_of_getElem? (i := 3) rfl)
  have k_25 : (Cond.fieldLink RX1 25 RX1 (TX1 4).2.1 (TX1 4).2.2.1).before ([.ref (h 0)] : List Value).toArray s = true := hts _ (List.mem_of_getElem? (i := 4) rfl)
  have k_31 : (Cond.fieldLink RX1 31 RX1 (TX1 6).2.1 (TX1 6).2.2.1).before ([.ref (h 0)] : List Value).toArray s = true := hts _ (List.mem_of_getElem? (i := 5) rfl)
  have k_61 : (Cond.fieldLink RX1 61 RX1 (TX1 16).2.1 (TX1 16).2.2.1).before ([.ref (h 0)] : List Value).toArray s = true := hts _ (List.mem_of_getElem? (i := 6) rfl)
  generalize hres : pX1_letPianosBePlayed x = res
  have lp_23 : ∀ (n : Nat) (v1 : Int32) (v2 : Int32) (x : SR), 0 ≤ Int32.toInt v2 → Int32.toInt v2 ≤ 12 → 12 - Int32.toInt v2 < (n : Int) → pX1_letPianosBePlayed_L23 n v1 v2 x = res → ∀ (H : Heap) (locs : List Loc) (ls : Array Slot), va_P G vwCl (wSt cI h x) H → va_D A (wSt cI h x) → va_S A s.heap H locs → lv_has ls 4 [(0, .ref (h 0)), (1, .int v1), (2, .int v2)] → W p l e (rmz 1 21) s m ([.ref (h 0)] : List Value).toArray below meth c H locs 0 0 (MQ below (QvA G A (wSt cI h res)) ([.ref (h 0)] : List Value).toArray s 0 0 A) (F0 m 23 ls []) := by
    intro n
    induction n with
    | zero =>
      intro v1 v2 x g_0 g_1 hm
      exfalso; omega
    | succ n ih =>
      intro v1 v2 x g_0 g_1 hm hq H locs ls hP hD hS hl
      refine lv_iload_n hx hb dX1_letPianosBePlayed_23 rfl (lv_at hl 2 rfl) ?_
      refine lv_bipush (v := 12) hx hb dX1_letPianosBePlayed_24 (by decide) ?_
      refine lv_icmp_ge (tgt := 112) hx hb dX1_letPianosBePlayed_26 (by decide) (fun c_3 => ?_) (fun c_3 => ?_)
      · have t_3 := i_le (z := (12)) (w := (Int32.toInt v2)) c_3 (by decide) rfl
        exact rt_s hx hb hr hlocks hP hD hS ((show pX1_letPianosBePlayed_L23 (n + 1) v1 v2 x = x by rw [pX1_letPianosBePlayed_L23, if_pos c_3]).symm.trans hq |>.symm) dX1_letPianosBePlayed_112
      · have t_3 := i_nle (z := (12)) (w := (Int32.toInt v2)) c_3 (by decide) rfl
        refine lv_aload_n hx hb dX1_letPianosBePlayed_29 rfl (lv_at hl 0 rfl) ?_
        refine go_i hD hS hA (rn_V (As := []) (rest := []) ⟨hx, hb, hml, hown, hts⟩ (ctX1_openOnes l G cI cC cZ cR h x) (cwV 0 hts gX1_letPianosBePlayed_X1_openOnes rfl rfl rfl (by decide +kernel) ⟨Nat.le_of_ble_eq_true rfl, Nat.le_of_ble_eq_true rfl⟩) (md_recv hK hP rfl) hK hP hD hN rfl hl.1 rfl (Nat.le_of_ble_eq_true rfl) dX1_letPianosBePlayed_30) (fun H locs hP hD hS => ?_)
        refine lv_iload_n hx hb dX1_letPianosBePlayed_33 rfl (lv_at hl 2 rfl) ?_
        refine gn_i hP hS hA (rn_SN (As := [.int (pX1_openOnes x), .int v2]) (rest := []) ⟨hx, hb, hml, hown, hts⟩ (ctX2_has l G cI cC cZ cR (pX1_openOnes x) v2) ⟨va_cnB 2 hts gX1_letPianosBePlayed_X2_has_n87 rfl rfl rfl (NWs.nw hN 33 rfl) (hts _ (List.mem_of_getElem? (i := 19) rfl)) (by decide +kernel) ⟨Nat.le_of_ble_eq_true rfl, Nat.le_of_ble_eq_true rfl⟩, hts _ (List.mem_of_getElem? (i := 18) rfl), trivial⟩ hK nilP (nilD (A := A)) hN rfl hl.1 rfl (Nat.le_of_ble_eq_true rfl) dX1_letPianosBePlayed_34) (fun H locs hP hS => ?_)
        refine lv_if_eq (tgt := 106) hx hb dX1_letPianosBePlayed_37 (by decide) (fun c_4 => ?_) (fun c_4 => ?_)
        · refine lv_iinc (v := (v2 + 1)) (lv' := [(2, .int (v2 + 1)), (0, .ref (h 0)), (1, .int v1)]) hx hb dX1_letPianosBePlayed_106 hl (k := 2) rfl rfl (by decide) rfl (fun ls hl => ?_)
          have a_106 := i_add1 (a := v2) (by omega) (by omega)
          refine lv_goto (tgt := 23) hx hb dX1_letPianosBePlayed_109 (by decide) ?_
          exact ih v1 (v2 + 1) x (by omega) (by omega) (by omega) ((show pX1_letPianosBePlayed_L23 (n + 1) v1 v2 x = pX1_letPianosBePlayed_L23 n v1 (v2 + 1) x by rw [pX1_letPianosBePlayed_L23, if_neg c_3, if_pos c_4]).symm.trans hq) _ _ _ hP hD hS (lv_sub hl [1, 2, 0] rfl)
        · refine lv_aload_n hx hb dX1_letPianosBePlayed_40 rfl (lv_at hl 0 rfl) ?_
          refine md_get (ci := 1) (C := RX1) (T := TX1) (N := 18) (v := .ref (h 3)) hx hb hts hin hown hK hP rfl 5 (by decide) k_28 rfl rfl rfl dX1_letPianosBePlayed_41 ?_
          refine lv_iload_n hx hb dX1_letPianosBePlayed_44 rfl (lv_at hl 2 rfl) ?_
          refine md_ia (v := x.2 2 (ix v2)) hx hb hK hP 2 0 rfl rfl (by first | assumption | decide | exact vp_in_iff.mpr ⟨by omega, by omega⟩ | exact isPlace_in (by assumption) | exact has_in (by assumption)) rfl dX1_letPianosBePlayed_45 ?_
          refine lv_bipush (v := 50) hx hb dX1_letPianosBePlayed_46 (by decide) ?_
          refine lv_icmp_ge (tgt := 106) hx hb dX1_letPianosBePlayed_48 (by decide) (fun c_5 => ?_) (fun c_5 => ?_)
          · have t_5 := i_le (z := (50)) (w := (Int32.toInt (x.2 2 (ix v2)))) c_5 (by decide) rfl
            refine lv_iinc (v := (v2 + 1)) (lv' := [(2, .int (v2 + 1)), (0, .ref (h 0)), (1, .int v1)]) hx hb dX1_letPianosBePlayed_106 hl (k := 2) rfl rfl (by decide) rfl (fun ls hl => ?_)
            have a_106 := i_add1 (a := v2) (by omega) (by omega)
            refine lv_goto (tgt := 23) hx hb dX1_letPianosBePlayed_109 (by decide) ?_
            exact ih v1 (v2 + 1) x (by omega) (by omega) (by omega) ((show pX1_letPianosBePlayed_L23 (n + 1) v1 v2 x = pX1_letPianosBePlayed_L23 n v1 (v2 + 1) x by rw [pX1_letPianosBePlayed_L23, if_neg c_3, if_neg c_4, if_pos c_5]).symm.trans hq) _ _ _ hP hD hS (lv_sub hl [1, 2, 0] rfl)
          · have t_5 := i_nle (z := (50)) (w := (Int32.toInt (x.2 2 (ix v2)))) c_5 (by decide) rfl
            refine lv_aload_n hx hb dX1_letPianosBePlayed_51 rfl (lv_at hl 0 rfl) ?_
            refine md_get (ci := 1) (C := RX1) (T := TX1) (N := 18) (v := .ref (h 1)) hx hb hts hin hown hK hP rfl 0 (by decide) k_9 rfl rfl rfl dX1_letPianosBePlayed_52 ?_
            refine lv_iconst (v := 4) hx hb dX1_letPianosBePlayed_55 (by decide) ?_
            refine md_ia (v := x.2 0 (ix 4)) hx hb hK hP 0 0 rfl rfl (vp_in_iff.mpr ⟨by decide, by decide⟩) rfl dX1_letPianosBePlayed_56 ?_
            refine lv_aload_n hx hb dX1_letPianosBePlayed_57 rfl (lv_at hl 0 rfl) ?_
            refine md_get (ci := 1) (C := RX1) (T := TX1) (N := 18) (v := .ref (h 2)) hx hb hts hin hown hK hP rfl 4 (by decide) k_25 rfl rfl rfl dX1_letPianosBePlayed_58 ?_
            refine lv_iload_n hx hb dX1_letPianosBePlayed_61 rfl (lv_at hl 2 rfl) ?_
            refine md_ia (v := x.2 1 (ix v2)) hx hb hK hP 1 0 rfl rfl (by first | assumption | decide | exact vp_in_iff.mpr ⟨by omega, by omega⟩ | exact isPlace_in (by assumption) | exact has_in (by assumption)) rfl dX1_letPianosBePlayed_62 ?_
            refine lv_imul hx hb dX1_letPianosBePlayed_63 ?_
            refine lv_bipush (v := 100) hx hb dX1_letPianosBePlayed_64 (by decide) ?_
            refine lv_idiv hx hb dX1_letPianosBePlayed_66 (by decide) ?_
            refine lv_istore_n (lv' := [(3, .int (((x.2 0 (ix 4)) * (x.2 1 (ix v2))) / 100)), (0, .ref (h 0)), (1, .int v1), (2, .int v2)]) hx hb dX1_letPianosBePlayed_67 rfl hl (by decide) rfl (fun ls hl => ?_)
            refine lv_aload_n hx hb dX1_letPianosBePlayed_68 rfl (lv_at hl 1 rfl) ?_
            refine md_get (ci := 1) (C := RX1) (T := TX1) (N := 18) (v := .ref (h 4)) hx hb hts hin hown hK hP rfl 6 (by decide) k_31 rfl rfl rfl dX1_letPianosBePlayed_69 ?_
            refine lv_iload_n hx hb dX1_letPianosBePlayed_72 rfl (lv_at hl 3 rfl) ?_
            refine lv_dup2_11 hx hb dX1_letPianosBePlayed_73 rfl rfl ?_
            refine md_ia (v := x.2 3 (ix v2)) hx hb hK hP 3 0 rfl rfl (by first | assumption | decide | exact vp_in_iff.mpr ⟨by omega, by omega⟩ | exact isPlace_in (by assumption) | exact has_in (by assumption)) rfl dX1_letPianosBePlayed_74 ?_
            refine lv_iload_n hx hb dX1_letPianosBePlayed_75 rfl (lv_at hl 0 rfl) ?_
            refine lv_iadd hx hb dX1_letPianosBePlayed_76 ?_
            refine md_is hx hb hK hP hD hS 3 0 rfl rfl (by first | assumption | decide | exact vp_in_iff.mpr ⟨by omega, by omega⟩ | exact isPlace_in (by assumption) | exact has_in (by assumption)) dX1_letPianosBePlayed_77 (fun H locs hP hD hS => ?_)
            refine lv_aload_n hx hb dX1_letPianosBePlayed_78 rfl (lv_at hl 1 rfl) ?_
            refine lv_dup hx hb dX1_letPianosBePlayed_79 rfl ?_
            refine md_get (ci := 1) (C := RX1) (T := TX1) (N := 18) (v := .int (x.1 6)) hx hb hts hin hown hK hP rfl 16 (by decide) k_61 rfl rfl rfl dX1_letPianosBePlayed_80 ?_
            refine lv_iload_n hx hb dX1_letPianosBePlayed_83 rfl (lv_at hl 0 rfl) ?_
            refine lv_iadd hx hb dX1_letPianosBePlayed_84 ?_
            refine md_put (ci := 1) (C := RX1) (T := TX1) (N := 18) hx hb hts hin tyX1 tyX1_ok nmX1 hown hK hP hD hS rfl 16 (by decide) k_61 rfl rfl (q := 6) rfl (fu (by decide)) rfl rfl dX1_letPianosBePlayed_85 (fun H locs hP hD hS => ?_)
            refine lv_aload_n hx hb dX1_letPianosBePlayed_88 rfl (lv_at hl 1 rfl) ?_
            refine md_get (ci := 1) (C := RX1) (T := TX1) (N := 18) (v := .ref (h 2)) hx hb hts hin hown hK hP rfl 4 (by decide) k_25 rfl rfl rfl dX1_letPianosBePlayed_89 ?_
            refine lv_iload_n hx hb dX1_letPianosBePlayed_92 rfl (lv_at hl 3 rfl) ?_
            refine lv_iconst (v := 0) hx hb dX1_letPianosBePlayed_93 (by decide) ?_
            refine lv_aload_n hx hb dX1_letPianosBePlayed_94 rfl (lv_at hl 1 rfl) ?_
            refine md_get (ci := 1) (C := RX1) (T := TX1) (N := 18) (v := .ref (h 2)) hx hb hts hin hown hK hP rfl 4 (by decide) k_25 rfl rfl rfl dX1_letPianosBePlayed_95 ?_
            refine lv_iload_n hx hb dX1_letPianosBePlayed_98 rfl (lv_at hl 3 rfl) ?_
            refine md_ia (v := x.2 1 (ix v2)) hx hb hK hP 1 0 rfl rfl (by first | assumption | decide | exact vp_in_iff.mpr ⟨by omega, by omega⟩ | exact isPlace_in (by assumption) | exact has_in (by assumption)) rfl dX1_letPianosBePlayed_99 ?_
            refine lv_iconst (v := 1) hx hb dX1_letPianosBePlayed_100 (by decide) ?_
            refine lv_isub hx hb dX1_letPianosBePlayed_101 ?_
            refine va_mmax hx hb (hml.trans hl.1.symm) hown (hts _ (List.mem_of_getElem? (i := 7) rfl)) (hts _ (List.mem_of_getElem? (i := 8) rfl)) (hts _ (List.mem_of_getElem? (i := 9) rfl)) (hts _ (List.mem_of_getElem? (i := 10) rfl)) (Nat.le_of_ble_eq_true rfl) (Nat.le_of_ble_eq_true rfl) (Nat.zero_le _) (Nat.zero_le _) dX1_letPianosBePlayed_102 ?_
            refine W.eq (g2 := F0 m 105 ls (.int (mx 0 ((x.2 1 (ix v2)) - 1)) :: [.int v2, .ref (h 2)])) rfl ?_
            refine md_is hx hb hK hP hD hS 1 0 rfl rfl (by first | assumption | decide | exact vp_in_iff.mpr ⟨by omega, by omega⟩ | exact isPlace_in (by assumption) | exact has_in (by assumption)) dX1_letPianosBePlayed_105 (fun H locs hP hD hS => ?_)
            refine lv_iinc (v := (v2 + 1)) (lv' := [(2, .int (v2 + 1)), (3, .int (((x.2 0 (ix 4)) * (x.2 1 (ix v2))) / 100)), (0, .ref (h 0)), (1, .int v1)]) hx hb dX1_letPianosBePlayed_106 hl (k := 3) rfl rfl (by decide) rfl (fun ls hl => ?_)
            have a_106 := i_add1 (a := v2) (by omega) (by omega)
            refine lv_goto (tgt := 23) hx hb dX1_letPianosBePlayed_109 (by decide) ?_
            exact ih v1 (v2 + 1) (pR (pS (pR x 3 v2 ((x.2 3 (ix v2)) + (((x.2 0 (ix 4)) * (x.2 1 (ix v2))) / 100))) 6 ((x.1 6) + (((x.2 0 (ix 4)) * (x.2 1 (ix v2))) / 100))) 1 v2 (mx 0 ((x.2 1 (ix v2)) - 1))) (by omega) (by omega) (by omega) ((show pX1_letPianosBePlayed_L23 (n + 1) v1 v2 x = pX1_letPianosBePlayed_L23 n v1 (v2 + 1) (pR (pS (pR x 3 v2 ((x.2 3 (ix v2)) + (((x.2 0 (ix 4)) * (x.2 1 (ix v2))) / 100))) 6 ((x.1 6) + (((x.2 0 (ix 4)) * (x.2 1 (ix v2))) / 100))) 1 v2 (mx 0 ((x.2 1 (ix v2)) - 1))) by rw [pX1_letPianosBePlayed_L23, if_neg c_3, if_neg c_4, if_neg c_5]).symm.trans hq) _ _ _ hP hD hS (lv_sub hl [2, 3, 0] rfl)
  refine lv_aload_n hx hb dX1_letPianosBePlayed_0 rfl (lv_at hl 0 rfl) ?_
  refine md_get (ci := 1) (C := RX1) (T := TX1) (N := 18) (v := .int (x.1 5)) hx hb hts hin hown hK hP rfl 15 (by decide) k_58 rfl rfl rfl dX1_letPianosBePlayed_1 ?_
  refine lv_bipush (v := 24) hx hb dX1_letPianosBePlayed_4 (by decide) ?_
  refine lv_irem hx hb dX1_letPianosBePlayed_6 (by decide) ?_
  refine lv_istore_n (lv' := [(1, .int ((x.1 5) - (x.1 5) / 24 * 24)), (0, .ref (h 0))]) hx hb dX1_letPianosBePlayed_7 rfl hl (by decide) rfl (fun ls hl => ?_)
  refine lv_iload_n hx hb dX1_letPianosBePlayed_8 rfl (lv_at hl 0 rfl) ?_
  refine lv_bipush (v := 8) hx hb dX1_letPianosBePlayed_9 (by decide) ?_
  refine lv_icmp_lt (tgt := 20) hx hb dX1_letPianosBePlayed_11 (by decide) (fun c_1 => ?_) (fun c_1 => ?_)
  · have t_1 := i_lt (z := (Int32.toInt ((x.1 5) - (x.1 5) / 24 * 24))) (w := (8)) c_1 rfl (by decide)
    exact rt_s hx hb hr hlocks hP hD hS ((show pX1_letPianosBePlayed x = x by rw [pX1_letPianosBePlayed, if_pos c_1]).symm.trans hres |>.symm) dX1_letPianosBePlayed_20
  · have t_1 := i_nlt (z := (Int32.toInt ((x.1 5) - (x.1 5) / 24 * 24))) (w := (8)) c_1 rfl (by decide)
    refine lv_iload_n hx hb dX1_letPianosBePlayed_14 rfl (lv_at hl 0 rfl) ?_
    refine lv_bipush (v := 21) hx hb dX1_letPianosBePlayed_15 (by decide) ?_
    refine lv_icmp_le (tgt := 21) hx hb dX1_letPianosBePlayed_17 (by decide) (fun c_2 => ?_) (fun c_2 => ?_)
    · have t_2 := i_le (z := (Int32.toInt ((x.1 5) - (x.1 5) / 24 * 24))) (w := (21)) c_2 rfl (by decide)
      refine lv_iconst (v := 0) hx hb dX1_letPianosBePlayed_21 (by decide) ?_
      refine lv_istore_n (lv' := [(2, .int 0), (1, .int ((x.1 5) - (x.1 5) / 24 * 24)), (0, .ref (h 0))]) hx hb dX1_letPianosBePlayed_22 rfl hl (by decide) rfl (fun ls hl => ?_)
      exact lp_23 13 ((x.1 5) - (x.1 5) / 24 * 24) 0 x (by first | decide | omega | assumption) (by first | decide | omega | assumption) (by decide) ((show pX1_letPianosBePlayed x = pX1_letPianosBePlayed_L23 13 ((x.1 5) - (x.1 5) / 24 * 24) 0 x by rw [pX1_letPianosBePlayed, if_neg c_1, if_pos c_2]).symm.trans hres) _ _ _ hP hD hS (lv_sub hl [2, 1, 0] rfl)
    · have t_2 := i_nle (z := (Int32.toInt ((x.1 5) - (x.1 5) / 24 * 24))) (w := (21)) c_2 rfl (by decide)
      exact rt_s hx hb hr hlocks hP hD hS ((show pX1_letPianosBePlayed x = x by rw [pX1_letPianosBePlayed, if_neg c_1, if_neg c_2]).symm.trans hres |>.symm) dX1_letPianosBePlayed_20
end
