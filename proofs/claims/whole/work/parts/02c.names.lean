theorem dX1_outOfTune_27 : decode cX1_outOfTune 27 = .ok (.aload_n 0, 1) := by decide +kernel
theorem dX1_outOfTune_28 : decode cX1_outOfTune 28 = .ok (.getfield 9, 3) := by decide +kernel
theorem dX1_outOfTune_31 : decode cX1_outOfTune 31 = .ok (.iconst 5, 1) := by decide +kernel
theorem dX1_outOfTune_32 : decode cX1_outOfTune 32 = .ok (.iaload, 1) := by decide +kernel
theorem dX1_outOfTune_33 : decode cX1_outOfTune 33 = .ok (.if_icmp .ge 9, 3) := by decide +kernel
theorem dX1_outOfTune_36 : decode cX1_outOfTune 36 = .ok (.iload_n 1, 1) := by decide +kernel
theorem dX1_outOfTune_37 : decode cX1_outOfTune 37 = .ok (.iconst 1, 1) := by decide +kernel
theorem dX1_outOfTune_38 : decode cX1_outOfTune 38 = .ok (.iload_n 2, 1) := by decide +kernel
theorem dX1_outOfTune_39 : decode cX1_outOfTune 39 = .ok (.ishl, 1) := by decide +kernel
theorem dX1_outOfTune_40 : decode cX1_outOfTune 40 = .ok (.ior, 1) := by decide +kernel
theorem dX1_outOfTune_41 : decode cX1_outOfTune 41 = .ok (.istore_n 1, 1) := by decide +kernel
theorem dX1_outOfTune_42 : decode cX1_outOfTune 42 = .ok (.iinc 2 1, 3) := by decide +kernel
theorem dX1_outOfTune_45 : decode cX1_outOfTune 45 = .ok (.goto (-41), 3) := by decide +kernel
theorem dX1_outOfTune_48 : decode cX1_outOfTune 48 = .ok (.iload_n 1, 1) := by decide +kernel
theorem dX1_outOfTune_49 : decode cX1_outOfTune 49 = .ok (.ireturn, 1) := by decide +kernel
theorem dX1_openOnes_0 : decode cX1_openOnes 0 = .ok (.aload_n 0, 1) := by decide +kernel
theorem dX1_openOnes_1 : decode cX1_openOnes 1 = .ok (.getfield 15, 3) := by decide +kernel
theorem dX1_openOnes_4 : decode cX1_openOnes 4 = .ok (.aload_n 0, 1) := by decide +kernel
theorem dX1_openOnes_5 : decode cX1_openOnes 5 = .ok (.getfield 22, 3) := by decide +kernel
theorem dX1_openOnes_8 : decode cX1_openOnes 8 = .ok (.iconst (-1), 1) := by decide +kernel
theorem dX1_openOnes_9 : decode cX1_openOnes 9 = .ok (.ixor, 1) := by decide +kernel
theorem dX1_openOnes_10 : decode cX1_openOnes 10 = .ok (.iand, 1) := by decide +kernel
theorem dX1_openOnes_11 : decode cX1_openOnes 11 = .ok (.ireturn, 1) := by decide +kernel
theorem dX1_goTowards_0 : decode cX1_goTowards 0 = .ok (.aload_n 0, 1) := by decide +kernel
theorem dX1_goTowards_1 : decode cX1_goTowards 1 = .ok (.getfield 40, 3) := by decide +kernel
theorem dX1_goTowards_4 : decode cX1_goTowards 4 = .ok (.iload_n 1, 1) := by decide +kernel
theorem dX1_goTowards_5 : decode cX1_goTowards 5 = .ok (.dup2, 1) := by decide +kernel
theorem dX1_goTowards_6 : decode cX1_goTowards 6 = .ok (.iaload, 1) := by decide +kernel
theorem dX1_goTowards_7 : decode cX1_goTowards 7 = .ok (.aload_n 0, 1) := by decide +kernel
theorem dX1_goTowards_8 : decode cX1_goTowards 8 = .ok (.getfield 40, 3) := by decide +kernel
theorem dX1_goTowards_11 : decode cX1_goTowards 11 = .ok (.iload_n 1, 1) := by decide +kernel
theorem dX1_goTowards_12 : decode cX1_goTowards 12 = .ok (.iaload, 1) := by decide +kernel
theorem dX1_goTowards_13 : decode cX1_goTowards 13 = .ok (.iload_n 2, 1) := by decide +kernel
theorem dX1_goTowards_14 : decode cX1_goTowards 14 = .ok (.if_icmp .ge 7, 3) := by decide +kernel
theorem dX1_goTowards_17 : decode cX1_goTowards 17 = .ok (.iconst 1, 1) := by decide +kernel
theorem dX1_goTowards_18 : decode cX1_goTowards 18 = .ok (.goto 4, 3) := by decide +kernel
theorem dX1_goTowards_21 : decode cX1_goTowards 21 = .ok (.iconst (-1), 1) := by decide +kernel
theorem dX1_goTowards_22 : decode cX1_goTowards 22 = .ok (.iadd, 1) := by decide +kernel
theorem dX1_goTowards_23 : decode cX1_goTowards 23 = .ok (.iastore, 1) := by decide +kernel
theorem dX1_goTowards_24 : decode cX1_goTowards 24 = .ok (.aload_n 0, 1) := by decide +kernel
theorem dX1_goTowards_25 : decode cX1_goTowards 25 = .ok (.getfield 52, 3) := by decide +kernel
theorem dX1_goTowards_28 : decode cX1_goTowards 28 = .ok (.iload_n 1, 1) := by decide +kernel
theorem dX1_goTowards_29 : decode cX1_goTowards 29 = .ok (.dup2, 1) := by decide +kernel
theorem dX1_goTowards_30 : decode cX1_goTowards 30 = .ok (.iaload, 1) := by decide +kernel
theorem dX1_goTowards_31 : decode cX1_goTowards 31 = .ok (.iconst 1, 1) := by decide +kernel
theorem dX1_goTowards_32 : decode cX1_goTowards 32 = .ok (.iadd, 1) := by decide +kernel
theorem dX1_goTowards_33 : decode cX1_goTowards 33 = .ok (.iastore, 1) := by decide +kernel
theorem dX1_goTowards_34 : decode cX1_goTowards 34 = .ok (.return_, 1) := by decide +kernel
theorem dX1_tune_0 : decode cX1_tune 0 = .ok (.aload_n 0, 1) := by decide +kernel
theorem dX1_tune_1 : decode cX1_tune 1 = .ok (.getfield 25, 3) := by decide +kernel
theorem dX1_tune_4 : decode cX1_tune 4 = .ok (.iload_n 2, 1) := by decide +kernel
theorem dX1_tune_5 : decode cX1_tune 5 = .ok (.bipush 100, 2) := by decide +kernel
theorem dX1_tune_7 : decode cX1_tune 7 = .ok (.aload_n 0, 1) := by decide +kernel
theorem dX1_tune_8 : decode cX1_tune 8 = .ok (.getfield 25, 3) := by decide +kernel
theorem dX1_tune_11 : decode cX1_tune 11 = .ok (.iload_n 2, 1) := by decide +kernel
theorem dX1_tune_12 : decode cX1_tune 12 = .ok (.iaload, 1) := by decide +kernel
theorem dX1_tune_13 : decode cX1_tune 13 = .ok (.bipush 10, 2) := by decide +kernel
theorem dX1_tune_15 : decode cX1_tune 15 = .ok (.iadd, 1) := by decide +kernel
theorem dX1_tune_16 : decode cX1_tune 16 = .ok (.invokestatic 150, 3) := by decide +kernel
theorem dX1_tune_19 : decode cX1_tune 19 = .ok (.iastore, 1) := by decide +kernel
theorem dX1_tune_20 : decode cX1_tune 20 = .ok (.aload_n 0, 1) := by decide +kernel
theorem dX1_tune_21 : decode cX1_tune 21 = .ok (.getfield 49, 3) := by decide +kernel
theorem dX1_tune_24 : decode cX1_tune 24 = .ok (.iload_n 1, 1) := by decide +kernel
theorem dX1_tune_25 : decode cX1_tune 25 = .ok (.dup2, 1) := by decide +kernel
theorem dX1_tune_26 : decode cX1_tune 26 = .ok (.iaload, 1) := by decide +kernel
theorem dX1_tune_27 : decode cX1_tune 27 = .ok (.iconst 1, 1) := by decide +kernel
theorem dX1_tune_28 : decode cX1_tune 28 = .ok (.iadd, 1) := by decide +kernel
theorem dX1_tune_29 : decode cX1_tune 29 = .ok (.iastore, 1) := by decide +kernel
theorem dX1_tune_30 : decode cX1_tune 30 = .ok (.return_, 1) := by decide +kernel
theorem dX1_putCoverOn_0 : decode cX1_putCoverOn 0 = .ok (.aload_n 0, 1) := by decide +kernel
theorem dX1_putCoverOn_1 : decode cX1_putCoverOn 1 = .ok (.dup, 1) := by decide +kernel
theorem dX1_putCoverOn_2 : decode cX1_putCoverOn 2 = .ok (.getfield 19, 3) := by decide +kernel
theorem dX1_putCoverOn_5 : decode cX1_putCoverOn 5 = .ok (.iconst 1, 1) := by decide +kernel
theorem dX1_putCoverOn_6 : decode cX1_putCoverOn 6 = .ok (.iload_n 2, 1) := by decide +kernel
theorem dX1_putCoverOn_7 : decode cX1_putCoverOn 7 = .ok (.ishl, 1) := by decide +kernel
theorem dX1_putCoverOn_8 : decode cX1_putCoverOn 8 = .ok (.iconst (-1), 1) := by decide +kernel
theorem dX1_putCoverOn_9 : decode cX1_putCoverOn 9 = .ok (.ixor, 1) := by decide +kernel
theorem dX1_putCoverOn_10 : decode cX1_putCoverOn 10 = .ok (.iand, 1) := by decide +kernel
theorem dX1_putCoverOn_11 : decode cX1_putCoverOn 11 = .ok (.putfield 19, 3) := by decide +kernel
theorem dX1_putCoverOn_14 : decode cX1_putCoverOn 14 = .ok (.aload_n 0, 1) := by decide +kernel
theorem dX1_putCoverOn_15 : decode cX1_putCoverOn 15 = .ok (.dup, 1) := by decide +kernel
theorem dX1_putCoverOn_16 : decode cX1_putCoverOn 16 = .ok (.getfield 22, 3) := by decide +kernel
theorem dX1_putCoverOn_19 : decode cX1_putCoverOn 19 = .ok (.iconst 1, 1) := by decide +kernel
theorem dX1_putCoverOn_20 : decode cX1_putCoverOn 20 = .ok (.iload_n 2, 1) := by decide +kernel
theorem dX1_putCoverOn_21 : decode cX1_putCoverOn 21 = .ok (.ishl, 1) := by decide +kernel
theorem dX1_putCoverOn_22 : decode cX1_putCoverOn 22 = .ok (.ior, 1) := by decide +kernel
theorem dX1_putCoverOn_23 : decode cX1_putCoverOn 23 = .ok (.putfield 22, 3) := by decide +kernel
theorem dX1_putCoverOn_26 : decode cX1_putCoverOn 26 = .ok (.aload_n 0, 1) := by decide +kernel
theorem dX1_putCoverOn_27 : decode cX1_putCoverOn 27 = .ok (.getfield 43, 3) := by decide +kernel
theorem dX1_putCoverOn_30 : decode cX1_putCoverOn 30 = .ok (.iload_n 1, 1) := by decide +kernel
theorem dX1_putCoverOn_31 : decode cX1_putCoverOn 31 = .ok (.dup2, 1) := by decide +kernel
theorem dX1_putCoverOn_32 : decode cX1_putCoverOn 32 = .ok (.iaload, 1) := by decide +kernel
theorem dX1_putCoverOn_33 : decode cX1_putCoverOn 33 = .ok (.iconst 1, 1) := by decide +kernel
theorem dX1_putCoverOn_34 : decode cX1_putCoverOn 34 = .ok (.iadd, 1) := by decide +kernel
theorem dX1_putCoverOn_35 : decode cX1_putCoverOn 35 = .ok (.iastore, 1) := by decide +kernel
theorem dX1_putCoverOn_36 : decode cX1_putCoverOn 36 = .ok (.return_, 1) := by decide +kernel
theorem dX1_takeCoverOff_0 : decode cX1_takeCoverOff 0 = .ok (.aload_n 0, 1) := by decide +kernel
theorem dX1_takeCoverOff_1 : decode cX1_takeCoverOff 1 = .ok (.dup, 1) := by decide +kernel
theorem dX1_takeCoverOff_2 : decode cX1_takeCoverOff 2 = .ok (.getfield 22, 3) := by decide +kernel
theorem dX1_takeCoverOff_5 : decode cX1_takeCoverOff 5 = .ok (.iconst 1, 1) := by decide +kernel
theorem dX1_takeCoverOff_6 : decode cX1_takeCoverOff 6 = .ok (.iload_n 2, 1) := by decide +kernel
theorem dX1_takeCoverOff_7 : decode cX1_takeCoverOff 7 = .ok (.ishl, 1) := by decide +kernel
theorem dX1_takeCoverOff_8 : decode cX1_takeCoverOff 8 = .ok (.iconst (-1), 1) := by decide +kernel
theorem dX1_takeCoverOff_9 : decode cX1_takeCoverOff 9 = .ok (.ixor, 1) := by decide +kernel
theorem dX1_takeCoverOff_10 : decode cX1_takeCoverOff 10 = .ok (.iand, 1) := by decide +kernel
theorem dX1_takeCoverOff_11 : decode cX1_takeCoverOff 11 = .ok (.putfield 22, 3) := by decide +kernel
theorem dX1_takeCoverOff_14 : decode cX1_takeCoverOff 14 = .ok (.aload_n 0, 1) := by decide +kernel
theorem dX1_takeCoverOff_15 : decode cX1_takeCoverOff 15 = .ok (.dup, 1) := by decide +kernel
theorem dX1_takeCoverOff_16 : decode cX1_takeCoverOff 16 = .ok (.getfield 19, 3) := by decide +kernel
theorem dX1_takeCoverOff_19 : decode cX1_takeCoverOff 19 = .ok (.iconst 1, 1) := by decide +kernel
theorem dX1_takeCoverOff_20 : decode cX1_takeCoverOff 20 = .ok (.iload_n 2, 1) := by decide +kernel
theorem dX1_takeCoverOff_21 : decode cX1_takeCoverOff 21 = .ok (.ishl, 1) := by decide +kernel
theorem dX1_takeCoverOff_22 : decode cX1_takeCoverOff 22 = .ok (.ior, 1) := by decide +kernel
theorem dX1_takeCoverOff_23 : decode cX1_takeCoverOff 23 = .ok (.putfield 19, 3) := by decide +kernel
theorem dX1_takeCoverOff_26 : decode cX1_takeCoverOff 26 = .ok (.aload_n 0, 1) := by decide +kernel
theorem dX1_takeCoverOff_27 : decode cX1_takeCoverOff 27 = .ok (.getfield 46, 3) := by decide +kernel
theorem dX1_takeCoverOff_30 : decode cX1_takeCoverOff 30 = .ok (.iload_n 1, 1) := by decide +kernel
theorem dX1_takeCoverOff_31 : decode cX1_takeCoverOff 31 = .ok (.dup2, 1) := by decide +kernel
theorem dX1_takeCoverOff_32 : decode cX1_takeCoverOff 32 = .ok (.iaload, 1) := by decide +kernel
theorem dX1_takeCoverOff_33 : decode cX1_takeCoverOff 33 = .ok (.iconst 1, 1) := by decide +kernel
theorem dX1_takeCoverOff_34 : decode cX1_takeCoverOff 34 = .ok (.iadd, 1) := by decide +kernel
theorem dX1_takeCoverOff_35 : decode cX1_takeCoverOff 35 = .ok (.iastore, 1) := by decide +kernel
theorem dX1_takeCoverOff_36 : decode cX1_takeCoverOff 36 = .ok (.return_, 1) := by decide +kernel
set_option maxRecDepth 20000 in
theorem ggX1_letRainFall_X1_openOnes : GoodIn wsX1_letRainFall wsX1_openOnes := goodIn_r _ [16, 17, 18, 22, 23, 24, 25, 26, 27, 28, 29, 30, 31, 32, 33, 34, 35, 36, 37, 38, 39] (by decide +kernel) (by decide +kernel)
set_option maxRecDepth 20000 in
theorem gX1_letRainFall_X1_openOnes : GoodIn wsX1_letRainFall (wsV RX1 147 RX1 yX1_openOnes wsX1_openOnes) := goodIn_app (goodIn_of _ (by decide +kernel)) ggX1_letRainFall_X1_openOnes
set_option maxRecDepth 20000 in
theorem ggX1_letRainFall_X2_has : GoodIn wsX1_letRainFall wsX2_has := goodIn_r _ [21] (by decide +kernel) (by decide +kernel)
set_option maxRecDepth 20000 in
theorem gX1_letRainFall_X2_has_n87 : GoodIn wsX1_letRainFall (wsX2_has) := ggX1_letRainFall_X2_has
theorem dX1_letRainFall_0 : decode cX1_letRainFall 0 = .ok (.iconst 0, 1) := by decide +kernel
theorem dX1_letRainFall_1 : decode cX1_letRainFall 1 = .ok (.istore_n 1, 1) := by decide +kernel
theorem dX1_letRainFall_2 : decode cX1_letRainFall 2 = .ok (.iload_n 1, 1) := by decide +kernel
theorem dX1_letRainFall_3 : decode cX1_letRainFall 3 = .ok (.bipush 12, 2) := by decide +kernel
theorem dX1_letRainFall_5 : decode cX1_letRainFall 5 = .ok (.if_icmp .ge 77, 3) := by decide +kernel
theorem dX1_letRainFall_8 : decode cX1_letRainFall 8 = .ok (.aload_n 0, 1) := by decide +kernel
theorem dX1_letRainFall_9 : decode cX1_letRainFall 9 = .ok (.invokevirtual 147, 3) := by decide +kernel
theorem dX1_letRainFall_12 : decode cX1_letRainFall 12 = .ok (.iload_n 1, 1) := by decide +kernel
theorem dX1_letRainFall_13 : decode cX1_letRainFall 13 = .ok (.invokestatic 87, 3) := by decide +kernel
theorem dX1_letRainFall_16 : decode cX1_letRainFall 16 = .ok (.ifCond .eq 60, 3) := by decide +kernel
theorem dX1_letRainFall_19 : decode cX1_letRainFall 19 = .ok (.aload_n 0, 1) := by decide +kernel
theorem dX1_letRainFall_20 : decode cX1_letRainFall 20 = .ok (.getfield 28, 3) := by decide +kernel
theorem dX1_letRainFall_23 : decode cX1_letRainFall 23 = .ok (.iload_n 1, 1) := by decide +kernel
theorem dX1_letRainFall_24 : decode cX1_letRainFall 24 = .ok (.bipush 100, 2) := by decide +kernel
theorem dX1_letRainFall_26 : decode cX1_letRainFall 26 = .ok (.aload_n 0, 1) := by decide +kernel
theorem dX1_letRainFall_27 : decode cX1_letRainFall 27 = .ok (.getfield 28, 3) := by decide +kernel
theorem dX1_letRainFall_30 : decode cX1_letRainFall 30 = .ok (.iload_n 1, 1) := by decide +kernel
theorem dX1_letRainFall_31 : decode cX1_letRainFall 31 = .ok (.iaload, 1) := by decide +kernel
theorem dX1_letRainFall_32 : decode cX1_letRainFall 32 = .ok (.aload_n 0, 1) := by decide +kernel
theorem dX1_letRainFall_33 : decode cX1_letRainFall 33 = .ok (.getfield 9, 3) := by decide +kernel
theorem dX1_letRainFall_36 : decode cX1_letRainFall 36 = .ok (.iconst 1, 1) := by decide +kernel
theorem dX1_letRainFall_37 : decode cX1_letRainFall 37 = .ok (.iaload, 1) := by decide +kernel
theorem dX1_letRainFall_38 : decode cX1_letRainFall 38 = .ok (.iadd, 1) := by decide +kernel
theorem dX1_letRainFall_39 : decode cX1_letRainFall 39 = .ok (.invokestatic 150, 3) := by decide +kernel
theorem dX1_letRainFall_42 : decode cX1_letRainFall 42 = .ok (.iastore, 1) := by decide +kernel
theorem dX1_letRainFall_43 : decode cX1_letRainFall 43 = .ok (.aload_n 0, 1) := by decide +kernel
theorem dX1_letRainFall_44 : decode cX1_letRainFall 44 = .ok (.getfield 25, 3) := by decide +kernel
theorem dX1_letRainFall_47 : decode cX1_letRainFall 47 = .ok (.iload_n 1, 1) := by decide +kernel
theorem dX1_letRainFall_48 : decode cX1_letRainFall 48 = .ok (.iconst 0, 1) := by decide +kernel
theorem dX1_letRainFall_49 : decode cX1_letRainFall 49 = .ok (.aload_n 0, 1) := by decide +kernel
theorem dX1_letRainFall_50 : decode cX1_letRainFall 50 = .ok (.getfield 25, 3) := by decide +kernel
theorem dX1_letRainFall_53 : decode cX1_letRainFall 53 = .ok (.iload_n 1, 1) := by decide +kernel
theorem dX1_letRainFall_54 : decode cX1_letRainFall 54 = .ok (.iaload, 1) := by decide +kernel
theorem dX1_letRainFall_55 : decode cX1_letRainFall 55 = .ok (.aload_n 0, 1) := by decide +kernel
theorem dX1_letRainFall_56 : decode cX1_letRainFall 56 = .ok (.getfield 9, 3) := by decide +kernel
theorem dX1_letRainFall_59 : decode cX1_letRainFall 59 = .ok (.iconst 3, 1) := by decide +kernel
theorem dX1_letRainFall_60 : decode cX1_letRainFall 60 = .ok (.iaload, 1) := by decide +kernel
theorem dX1_letRainFall_61 : decode cX1_letRainFall 61 = .ok (.isub, 1) := by decide +kernel
theorem dX1_letRainFall_62 : decode cX1_letRainFall 62 = .ok (.invokestatic 155, 3) := by decide +kernel
theorem dX1_letRainFall_65 : decode cX1_letRainFall 65 = .ok (.iastore, 1) := by decide +kernel
theorem dX1_letRainFall_66 : decode cX1_letRainFall 66 = .ok (.aload_n 0, 1) := by decide +kernel
theorem dX1_letRainFall_67 : decode cX1_letRainFall 67 = .ok (.getfield 34, 3) := by decide +kernel
theorem dX1_letRainFall_70 : decode cX1_letRainFall 70 = .ok (.iload_n 1, 1) := by decide +kernel
theorem dX1_letRainFall_71 : decode cX1_letRainFall 71 = .ok (.dup2, 1) := by decide +kernel
theorem dX1_letRainFall_72 : decode cX1_letRainFall 72 = .ok (.iaload, 1) := by decide +kernel
theorem dX1_letRainFall_73 : decode cX1_letRainFall 73 = .ok (.iconst 1, 1) := by decide +kernel
theorem dX1_letRainFall_74 : decode cX1_letRainFall 74 = .ok (.iadd, 1) := by decide +kernel
theorem dX1_letRainFall_75 : decode cX1_letRainFall 75 = .ok (.iastore, 1) := by decide +kernel
theorem dX1_letRainFall_76 : decode cX1_letRainFall 76 = .ok (.iinc 1 1, 3) := by decide +kernel
theorem dX1_letRainFall_79 : decode cX1_letRainFall 79 = .ok (.goto (-77), 3) := by decide +kernel
theorem dX1_letRainFall_82 : decode cX1_letRainFall 82 = .ok (.return_, 1) := by decide +kernel
set_option maxRecDepth 20000 in
theorem ggX1_letPianosDry_X1_openOnes : GoodIn wsX1_letPianosDry wsX1_openOnes := goodIn_r _ [11, 12, 13, 17, 18, 19, 20, 21, 22, 23, 24, 25, 26, 27, 28, 29, 30, 31, 32, 33, 34] (by decide +kernel) (by decide +kernel)
set_option maxRecDepth 20000 in
theorem gX1_letPianosDry_X1_openOnes : GoodIn wsX1_letPianosDry (wsV RX1 147 RX1 yX1_openOnes wsX1_openOnes) := goodIn_app (goodIn_of _ (by decide +kernel)) ggX1_letPianosDry_X1_openOnes
set_option maxRecDepth 20000 in
theorem ggX1_letPianosDry_X2_has : GoodIn wsX1_letPianosDry wsX2_has := goodIn_r _ [16] (by decide +kernel) (by decide +kernel)
set_option maxRecDepth 20000 in
theorem gX1_letPianosDry_X2_has_n87 : GoodIn wsX1_letPianosDry (wsX2_has) := ggX1_letPianosDry_X2_has
theorem dX1_letPianosDry_0 : decode cX1_letPianosDry 0 = .ok (.iconst 0, 1) := by decide +kernel
theorem dX1_letPianosDry_1 : decode cX1_letPianosDry 1 = .ok (.istore_n 1, 1) := by decide +kernel
theorem dX1_letPianosDry_2 : decode cX1_letPianosDry 2 = .ok (.iload_n 1, 1) := by decide +kernel
theorem dX1_letPianosDry_3 : decode cX1_letPianosDry 3 = .ok (.bipush 12, 2) := by decide +kernel
theorem dX1_letPianosDry_5 : decode cX1_letPianosDry 5 = .ok (.if_icmp .ge 43, 3) := by decide +kernel
theorem dX1_letPianosDry_8 : decode cX1_letPianosDry 8 = .ok (.aload_n 0, 1) := by decide +kernel
theorem dX1_letPianosDry_9 : decode cX1_letPianosDry 9 = .ok (.invokevirtual 147, 3) := by decide +kernel
theorem dX1_letPianosDry_12 : decode cX1_letPianosDry 12 = .ok (.iload_n 1, 1) := by decide +kernel
theorem dX1_letPianosDry_13 : decode cX1_letPianosDry 13 = .ok (.invokestatic 87, 3) := by decide +kernel
theorem dX1_letPianosDry_16 : decode cX1_letPianosDry 16 = .ok (.ifCond .eq 26, 3) := by decide +kernel
theorem dX1_letPianosDry_19 : decode cX1_letPianosDry 19 = .ok (.aload_n 0, 1) := by decide +kernel
theorem dX1_letPianosDry_20 : decode cX1_letPianosDry 20 = .ok (.getfield 28, 3) := by decide +kernel
theorem dX1_letPianosDry_23 : decode cX1_letPianosDry 23 = .ok (.iload_n 1, 1) := by decide +kernel
theorem dX1_letPianosDry_24 : decode cX1_letPianosDry 24 = .ok (.iconst 0, 1) := by decide +kernel
theorem dX1_letPianosDry_25 : decode cX1_letPianosDry 25 = .ok (.aload_n 0, 1) := by decide +kernel
theorem dX1_letPianosDry_26 : decode cX1_letPianosDry 26 = .ok (.getfield 28, 3) := by decide +kernel
theorem dX1_letPianosDry_29 : decode cX1_letPianosDry 29 = .ok (.iload_n 1, 1) := by decide +kernel
theorem dX1_letPianosDry_30 : decode cX1_letPianosDry 30 = .ok (.iaload, 1) := by decide +kernel
theorem dX1_letPianosDry_31 : decode cX1_letPianosDry 31 = .ok (.aload_n 0, 1) := by decide +kernel
theorem dX1_letPianosDry_32 : decode cX1_letPianosDry 32 = .ok (.getfield 9, 3) := by decide +kernel
theorem dX1_letPianosDry_35 : decode cX1_letPianosDry 35 = .ok (.iconst 2, 1) := by decide +kernel
theorem dX1_letPianosDry_36 : decode cX1_letPianosDry 36 = .ok (.iaload, 1) := by decide +kernel
theorem dX1_letPianosDry_37 : decode cX1_letPianosDry 37 = .ok (.isub, 1) := by decide +kernel
theorem dX1_letPianosDry_38 : decode cX1_letPianosDry 38 = .ok (.invokestatic 155, 3) := by decide +kernel
theorem dX1_letPianosDry_41 : decode cX1_letPianosDry 41 = .ok (.iastore, 1) := by decide +kernel
theorem dX1_letPianosDry_42 : decode cX1_letPianosDry 42 = .ok (.iinc 1 1, 3) := by decide +kernel
theorem dX1_letPianosDry_45 : decode cX1_letPianosDry 45 = .ok (.goto (-43), 3) := by decide +kernel
theorem dX1_letPianosDry_48 : decode cX1_letPianosDry 48 = .ok (.return_, 1) := by decide +kernel
set_option maxRecDepth 20000 in
theorem ggX1_letPianosBePlayed_X1_openOnes : GoodIn wsX1_letPianosBePlayed wsX1_openOnes := goodIn_r _ [15, 16, 17, 21, 22, 23, 24, 25, 26, 27, 28, 29, 30, 31, 32, 33, 34, 35, 36, 37, 38] (by decide +kernel) (by decide +kernel)
set_option maxRecDepth 20000 in
theorem gX1_letPianosBePlayed_X1_openOnes : GoodIn wsX1_letPianosBePlayed (wsV RX1 147 RX1 yX1_openOnes wsX1_openOnes) := goodIn_app (goodIn_of _ (by decide +kernel)) ggX1_letPianosBePlayed_X1_openOnes
set_option maxRecDepth 20000 in
theorem ggX1_letPianosBePlayed_X2_has : GoodIn wsX1_letPianosBePlayed wsX2_has := goodIn_r _ [20] (by decide +kernel) (by decide +kernel)
set_option maxRecDepth 20000 in
theorem gX1_letPianosBePlayed_X2_has_n87 : GoodIn wsX1_letPianosBePlayed (wsX2_has) := ggX1_letPianosBePlayed_X2_has
theorem dX1_letPianosBePlayed_0 : decode cX1_letPianosBePlayed 0 = .ok (.aload_n 0, 1) := by decide +kernel
theorem dX1_letPianosBePlayed_1 : decode cX1_letPianosBePlayed 1 = .ok (.getfield 58, 3) := by decide +kernel
theorem dX1_letPianosBePlayed_4 : decode cX1_letPianosBePlayed 4 = .ok (.bipush 24, 2) := by decide +kernel
theorem dX1_letPianosBePlayed_6 : decode cX1_letPianosBePlayed 6 = .ok (.irem, 1) := by decide +kernel
theorem dX1_letPianosBePlayed_7 : decode cX1_letPianosBePlayed 7 = .ok (.istore_n 1, 1) := by decide +kernel
theorem dX1_letPianosBePlayed_8 : decode cX1_letPianosBePlayed 8 = .ok (.iload_n 1, 1) := by decide +kernel
theorem dX1_letPianosBePlayed_9 : decode cX1_letPianosBePlayed 9 = .ok (.bipush 8, 2) := by decide +kernel
theorem dX1_letPianosBePlayed_11 : decode cX1_letPianosBePlayed 11 = .ok (.if_icmp .lt 9, 3) := by decide +kernel
theorem dX1_letPianosBePlayed_14 : decode cX1_letPianosBePlayed 14 = .ok (.iload_n 1, 1) := by decide +kernel
theorem dX1_letPianosBePlayed_15 : decode cX1_letPianosBePlayed 15 = .ok (.bipush 21, 2) := by decide +kernel
theorem dX1_letPianosBePlayed_17 : decode cX1_letPianosBePlayed 17 = .ok (.if_icmp .le 4, 3) := by decide +kernel
theorem dX1_letPianosBePlayed_20 : decode cX1_letPianosBePlayed 20 = .ok (.return_, 1) := by decide +kernel
theorem dX1_letPianosBePlayed_21 : decode cX1_letPianosBePlayed 21 = .ok (.iconst 0, 1) := by decide +kernel
theorem dX1_letPianosBePlayed_22 : decode cX1_letPianosBePlayed 22 = .ok (.istore_n 2, 1) := by decide +kernel
theorem dX1_letPianosBePlayed_23 : decode cX1_letPianosBePlayed 23 = .ok (.iload_n 2, 1) := by decide +kernel
theorem dX1_letPianosBePlayed_24 : decode cX1_letPianosBePlayed 24 = .ok (.bipush 12, 2) := by decide +kernel
theorem dX1_letPianosBePlayed_26 : decode cX1_letPianosBePlayed 26 = .ok (.if_icmp .ge 86, 3) := by decide +kernel
theorem dX1_letPianosBePlayed_29 : decode cX1_letPianosBePlayed 29 = .ok (.aload_n 0, 1) := by decide +kernel
theorem dX1_letPianosBePlayed_30 : decode cX1_letPianosBePlayed 30 = .ok (.invokevirtual 147, 3) := by decide +kernel
theorem dX1_letPianosBePlayed_33 : decode cX1_letPianosBePlayed 33 = .ok (.iload_n 2, 1) := by decide +kernel
theorem dX1_letPianosBePlayed_34 : decode cX1_letPianosBePlayed 34 = .ok (.invokestatic 87, 3) := by decide +kernel
theorem dX1_letPianosBePlayed_37 : decode cX1_letPianosBePlayed 37 = .ok (.ifCond .eq 69, 3) := by decide +kernel
theorem dX1_letPianosBePlayed_40 : decode cX1_letPianosBePlayed 40 = .ok (.aload_n 0, 1) := by decide +kernel
theorem dX1_letPianosBePlayed_41 : decode cX1_letPianosBePlayed 41 = .ok (.getfield 28, 3) := by decide +kernel
theorem dX1_letPianosBePlayed_44 : decode cX1_letPianosBePlayed 44 = .ok (.iload_n 2, 1) := by decide +kernel
theorem dX1_letPianosBePlayed_45 : decode cX1_letPianosBePlayed 45 = .ok (.iaload, 1) := by decide +kernel
theorem dX1_letPianosBePlayed_46 : decode cX1_letPianosBePlayed 46 = .ok (.bipush 50, 2) := by decide +kernel
theorem dX1_letPianosBePlayed_48 : decode cX1_letPianosBePlayed 48 = .ok (.if_icmp .ge 58, 3) := by decide +kernel
theorem dX1_letPianosBePlayed_51 : decode cX1_letPianosBePlayed 51 = .ok (.aload_n 0, 1) := by decide +kernel
theorem dX1_letPianosBePlayed_52 : decode cX1_letPianosBePlayed 52 = .ok (.getfield 9, 3) := by decide +kernel
theorem dX1_letPianosBePlayed_55 : decode cX1_letPianosBePlayed 55 = .ok (.iconst 4, 1) := by decide +kernel
theorem dX1_letPianosBePlayed_56 : decode cX1_letPianosBePlayed 56 = .ok (.iaload, 1) := by decide +kernel
theorem dX1_letPianosBePlayed_57 : decode cX1_letPianosBePlayed 57 = .ok (.aload_n 0, 1) := by decide +kernel
theorem dX1_letPianosBePlayed_58 : decode cX1_letPianosBePlayed 58 = .ok (.getfield 25, 3) := by decide +kernel
theorem dX1_letPianosBePlayed_61 : decode cX1_letPianosBePlayed 61 = .ok (.iload_n 2, 1) := by decide +kernel
theorem dX1_letPianosBePlayed_62 : decode cX1_letPianosBePlayed 62 = .ok (.iaload, 1) := by decide +kernel
theorem dX1_letPianosBePlayed_63 : decode cX1_letPianosBePlayed 63 = .ok (.imul, 1) := by decide +kernel
theorem dX1_letPianosBePlayed_64 : decode cX1_letPianosBePlayed 64 = .ok (.bipush 100, 2) := by decide +kernel
theorem dX1_letPianosBePlayed_66 : decode cX1_letPianosBePlayed 66 = .ok (.idiv, 1) := by decide +kernel
theorem dX1_letPianosBePlayed_67 : decode cX1_letPianosBePlayed 67 = .ok (.istore_n 3, 1) := by decide +kernel
theorem dX1_letPianosBePlayed_68 : decode cX1_letPianosBePlayed 68 = .ok (.aload_n 0, 1) := by decide +kernel
theorem dX1_letPianosBePlayed_69 : decode cX1_letPianosBePlayed 69 = .ok (.getfield 31, 3) := by decide +kernel
theorem dX1_letPianosBePlayed_72 : decode cX1_letPianosBePlayed 72 = .ok (.iload_n 2, 1) := by decide +kernel
theorem dX1_letPianosBePlayed_73 : decode cX1_letPianosBePlayed 73 = .ok (.dup2, 1) := by decide +kernel
theorem dX1_letPianosBePlayed_74 : decode cX1_letPianosBePlayed 74 = .ok (.iaload, 1) := by decide +kernel
theorem dX1_letPianosBePlayed_75 : decode cX1_letPianosBePlayed 75 = .ok (.iload_n 3, 1) := by decide +kernel
theorem dX1_letPianosBePlayed_76 : decode cX1_letPianosBePlayed 76 = .ok (.iadd, 1) := by decide +kernel
theorem dX1_letPianosBePlayed_77 : decode cX1_letPianosBePlayed 77 = .ok (.iastore, 1) := by decide +kernel
theorem dX1_letPianosBePlayed_78 : decode cX1_letPianosBePlayed 78 = .ok (.aload_n 0, 1) := by decide +kernel
theorem dX1_letPianosBePlayed_79 : decode cX1_letPianosBePlayed 79 = .ok (.dup, 1) := by decide +kernel
theorem dX1_letPianosBePlayed_80 : decode cX1_letPianosBePlayed 80 = .ok (.getfield 61, 3) := by decide +kernel
theorem dX1_letPianosBePlayed_83 : decode cX1_letPianosBePlayed 83 = .ok (.iload_n 3, 1) := by decide +kernel
theorem dX1_letPianosBePlayed_84 : decode cX1_letPianosBePlayed 84 = .ok (.iadd, 1) := by decide +kernel
theorem dX1_letPianosBePlayed_85 : decode cX1_letPianosBePlayed 85 = .ok (.putfield 61, 3) := by decide +kernel
theorem dX1_letPianosBePlayed_88 : decode cX1_letPianosBePlayed 88 = .ok (.aload_n 0, 1) := by decide +kernel
theorem dX1_letPianosBePlayed_89 : decode cX1_letPianosBePlayed 89 = .ok (.getfield 25, 3) := by decide +kernel
theorem dX1_letPianosBePlayed_92 : decode cX1_letPianosBePlayed 92 = .ok (.iload_n 2, 1) := by decide +kernel
theorem dX1_letPianosBePlayed_93 : decode cX1_letPianosBePlayed 93 = .ok (.iconst 0, 1) := by decide +kernel
theorem dX1_letPianosBePlayed_94 : decode cX1_letPianosBePlayed 94 = .ok (.aload_n 0, 1) := by decide +kernel
theorem dX1_letPianosBePlayed_95 : decode cX1_letPianosBePlayed 95 = .ok (.getfield 25, 3) := by decide +kernel
theorem dX1_letPianosBePlayed_98 : decode cX1_letPianosBePlayed 98 = .ok (.iload_n 2, 1) := by decide +kernel
theorem dX1_letPianosBePlayed_99 : decode cX1_letPianosBePlayed 99 = .ok (.iaload, 1) := by decide +kernel
theorem dX1_letPianosBePlayed_100 : decode cX1_letPianosBePlayed 100 = .ok (.iconst 1, 1) := by decide +kernel
theorem dX1_letPianosBePlayed_101 : decode cX1_letPianosBePlayed 101 = .ok (.isub, 1) := by decide +kernel
theorem dX1_letPianosBePlayed_102 : decode cX1_letPianosBePlayed 102 = .ok (.invokestatic 155, 3) := by decide +kernel
theorem dX1_letPianosBePlayed_105 : decode cX1_letPianosBePlayed 105 = .ok (.iastore, 1) := by decide +kernel
theorem dX1_letPianosBePlayed_106 : decode cX1_letPianosBePlayed 106 = .ok (.iinc 2 1, 3) := by decide +kernel
theorem dX1_letPianosBePlayed_109 : decode cX1_letPianosBePlayed 109 = .ok (.goto (-86), 3) := by decide +kernel
theorem dX1_letPianosBePlayed_112 : decode cX1_letPianosBePlayed 112 = .ok (.return_, 1) := by decide +kernel
set_option maxRecDepth 20000 in
theorem ggX1_letThievesCome_X2_has : GoodIn wsX1_letThievesCome wsX2_has := goodIn_r _ [7] (by decide +kernel) (by decide +kernel)
set_option maxRecDepth 20000 in
theorem gX1_letThievesCome_X2_has_n87 : GoodIn wsX1_letThievesCome (wsX2_has) := ggX1_letThievesCome_X2_has
set_option maxRecDepth 20000 in
theorem ggX1_letThievesCome_X1_keepersAt : GoodIn wsX1_letThievesCome wsX1_keepersAt := goodIn_r _ [12, 13, 14, 15, 16, 17, 18, 19, 20, 21, 22, 23, 24, 25, 26, 27, 28, 29, 30, 31, 32] (by decide +kernel) (by decide +kernel)
set_option maxRecDepth 20000 in
theorem gX1_letThievesCome_X1_keepersAt : GoodIn wsX1_letThievesCome (wsV RX1 158 RX1 yX1_keepersAt wsX1_keepersAt) := goodIn_app (goodIn_of _ (by decide +kernel)) ggX1_letThievesCome_X1_keepersAt
theorem dX1_letThievesCome_0 : decode cX1_letThievesCome 0 = .ok (.aload_n 0, 1) := by decide +kernel
theorem dX1_letThievesCome_1 : decode cX1_letThievesCome 1 = .ok (.getfield 58, 3) := by decide +kernel
theorem dX1_letThievesCome_4 : decode cX1_letThievesCome 4 = .ok (.bipush 24, 2) := by decide +kernel
theorem dX1_letThievesCome_6 : decode cX1_letThievesCome 6 = .ok (.irem, 1) := by decide +kernel
theorem dX1_letThievesCome_7 : decode cX1_letThievesCome 7 = .ok (.istore_n 1, 1) := by decide +kernel
theorem dX1_letThievesCome_8 : decode cX1_letThievesCome 8 = .ok (.aload_n 0, 1) := by decide +kernel
theorem dX1_letThievesCome_9 : decode cX1_letThievesCome 9 = .ok (.getfield 9, 3) := by decide +kernel
theorem dX1_letThievesCome_12 : decode cX1_letThievesCome 12 = .ok (.bipush 6, 2) := by decide +kernel
theorem dX1_letThievesCome_14 : decode cX1_letThievesCome 14 = .ok (.iaload, 1) := by decide +kernel
theorem dX1_letThievesCome_15 : decode cX1_letThievesCome 15 = .ok (.istore_n 2, 1) := by decide +kernel
theorem dX1_letThievesCome_16 : decode cX1_letThievesCome 16 = .ok (.iload_n 1, 1) := by decide +kernel
theorem dX1_letThievesCome_17 : decode cX1_letThievesCome 17 = .ok (.bipush 22, 2) := by decide +kernel
theorem dX1_letThievesCome_19 : decode cX1_letThievesCome 19 = .ok (.if_icmp .ge 8, 3) := by decide +kernel
theorem dX1_letThievesCome_22 : decode cX1_letThievesCome 22 = .ok (.iload_n 1, 1) := by decide +kernel
theorem dX1_letThievesCome_23 : decode cX1_letThievesCome 23 = .ok (.iconst 5, 1) := by decide +kernel
theorem dX1_letThievesCome_24 : decode cX1_letThievesCome 24 = .ok (.if_icmp .gt 7, 3) := by decide +kernel
theorem dX1_letThievesCome_27 : decode cX1_letThievesCome 27 = .ok (.iconst 1, 1) := by decide +kernel
theorem dX1_letThievesCome_28 : decode cX1_letThievesCome 28 = .ok (.goto 4, 3) := by decide +kernel
theorem dX1_letThievesCome_31 : decode cX1_letThievesCome 31 = .ok (.iconst 0, 1) := by decide +kernel
theorem dX1_letThievesCome_32 : decode cX1_letThievesCome 32 = .ok (.istore_n 3, 1) := by decide +kernel
theorem dX1_letThievesCome_33 : decode cX1_letThievesCome 33 = .ok (.iload_n 3, 1) := by decide +kernel
theorem dX1_letThievesCome_34 : decode cX1_letThievesCome 34 = .ok (.ifCond .eq 8, 3) := by decide +kernel
theorem dX1_letThievesCome_37 : decode cX1_letThievesCome 37 = .ok (.iload_n 2, 1) := by decide +kernel
theorem dX1_letThievesCome_38 : decode cX1_letThievesCome 38 = .ok (.iconst 1, 1) := by decide +kernel
theorem dX1_letThievesCome_39 : decode cX1_letThievesCome 39 = .ok (.if_icmp .ge 4, 3) := by decide +kernel
theorem dX1_letThievesCome_42 : decode cX1_letThievesCome 42 = .ok (.return_, 1) := by decide +kernel
theorem dX1_letThievesCome_43 : decode cX1_letThievesCome 43 = .ok (.iconst 0, 1) := by decide +kernel
theorem dX1_letThievesCome_44 : decode cX1_letThievesCome 44 = .ok (.istore 4, 2) := by decide +kernel
theorem dX1_letThievesCome_46 : decode cX1_letThievesCome 46 = .ok (.iload 4, 2) := by decide +kernel
theorem dX1_letThievesCome_48 : decode cX1_letThievesCome 48 = .ok (.bipush 12, 2) := by decide +kernel
theorem dX1_letThievesCome_50 : decode cX1_letThievesCome 50 = .ok (.if_icmp .ge 84, 3) := by decide +kernel
theorem dX1_letThievesCome_53 : decode cX1_letThievesCome 53 = .ok (.bipush 7, 2) := by decide +kernel
theorem dX1_letThievesCome_55 : decode cX1_letThievesCome 55 = .ok (.aload_n 0, 1) := by decide +kernel
theorem dX1_letThievesCome_56 : decode cX1_letThievesCome 56 = .ok (.getfield 58, 3) := by decide +kernel
theorem dX1_letThievesCome_59 : decode cX1_letThievesCome 59 = .ok (.imul, 1) := by decide +kernel
theorem dX1_letThievesCome_60 : decode cX1_letThievesCome 60 = .ok (.iconst 3, 1) := by decide +kernel
theorem dX1_letThievesCome_61 : decode cX1_letThievesCome 61 = .ok (.iload 4, 2) := by decide +kernel
theorem dX1_letThievesCome_63 : decode cX1_letThievesCome 63 = .ok (.imul, 1) := by decide +kernel
theorem dX1_letThievesCome_64 : decode cX1_letThievesCome 64 = .ok (.iadd, 1) := by decide +kernel
theorem dX1_letThievesCome_65 : decode cX1_letThievesCome 65 = .ok (.iload_n 2, 1) := by decide +kernel
theorem dX1_letThievesCome_66 : decode cX1_letThievesCome 66 = .ok (.irem, 1) := by decide +kernel
theorem dX1_letThievesCome_67 : decode cX1_letThievesCome 67 = .ok (.ifCond .ne 7, 3) := by decide +kernel
theorem dX1_letThievesCome_70 : decode cX1_letThievesCome 70 = .ok (.iconst 1, 1) := by decide +kernel
theorem dX1_letThievesCome_71 : decode cX1_letThievesCome 71 = .ok (.goto 4, 3) := by decide +kernel
theorem dX1_letThievesCome_74 : decode cX1_letThievesCome 74 = .ok (.iconst 0, 1) := by decide +kernel
theorem dX1_letThievesCome_75 : decode cX1_letThievesCome 75 = .ok (.istore 5, 2) := by decide +kernel
theorem dX1_letThievesCome_77 : decode cX1_letThievesCome 77 = .ok (.iload 5, 2) := by decide +kernel
theorem dX1_letThievesCome_79 : decode cX1_letThievesCome 79 = .ok (.ifCond .eq 49, 3) := by decide +kernel
theorem dX1_letThievesCome_82 : decode cX1_letThievesCome 82 = .ok (.aload_n 0, 1) := by decide +kernel
theorem dX1_letThievesCome_83 : decode cX1_letThievesCome 83 = .ok (.getfield 19, 3) := by decide +kernel
theorem dX1_letThievesCome_86 : decode cX1_letThievesCome 86 = .ok (.iload 4, 2) := by decide +kernel
theorem dX1_letThievesCome_88 : decode cX1_letThievesCome 88 = .ok (.invokestatic 87, 3) := by decide +kernel
theorem dX1_letThievesCome_91 : decode cX1_letThievesCome 91 = .ok (.ifCond .eq 37, 3) := by decide +kernel
theorem dX1_letThievesCome_94 : decode cX1_letThievesCome 94 = .ok (.aload_n 0, 1) := by decide +kernel
theorem dX1_letThievesCome_95 : decode cX1_letThievesCome 95 = .ok (.iload 4, 2) := by decide +kernel
theorem dX1_letThievesCome_97 : decode cX1_letThievesCome 97 = .ok (.invokevirtual 158, 3) := by decide +kernel
theorem dX1_letThievesCome_100 : decode cX1_letThievesCome 100 = .ok (.ifCond .ne 28, 3) := by decide +kernel
theorem dX1_letThievesCome_103 : decode cX1_letThievesCome 103 = .ok (.aload_n 0, 1) := by decide +kernel
theorem dX1_letThievesCome_104 : decode cX1_letThievesCome 104 = .ok (.dup, 1) := by decide +kernel
theorem dX1_letThievesCome_105 : decode cX1_letThievesCome 105 = .ok (.getfield 19, 3) := by decide +kernel
theorem dX1_letThievesCome_108 : decode cX1_letThievesCome 108 = .ok (.iconst 1, 1) := by decide +kernel
theorem dX1_letThievesCome_109 : decode cX1_letThievesCome 109 = .ok (.iload 4, 2) := by decide +kernel
theorem dX1_letThievesCome_111 : decode cX1_letThievesCome 111 = .ok (.ishl, 1) := by decide +kernel
theorem dX1_letThievesCome_112 : decode cX1_letThievesCome 112 = .ok (.iconst (-1), 1) := by decide +kernel
theorem dX1_letThievesCome_113 : decode cX1_letThievesCome 113 = .ok (.ixor, 1) := by decide +kernel
theorem dX1_letThievesCome_114 : decode cX1_letThievesCome 114 = .ok (.iand, 1) := by decide +kernel
theorem dX1_letThievesCome_115 : decode cX1_letThievesCome 115 = .ok (.putfield 19, 3) := by decide +kernel
theorem dX1_letThievesCome_118 : decode cX1_letThievesCome 118 = .ok (.aload_n 0, 1) := by decide +kernel
theorem dX1_letThievesCome_119 : decode cX1_letThievesCome 119 = .ok (.dup, 1) := by decide +kernel
theorem dX1_letThievesCome_120 : decode cX1_letThievesCome 120 = .ok (.getfield 64, 3) := by decide +kernel
theorem dX1_letThievesCome_123 : decode cX1_letThievesCome 123 = .ok (.iconst 1, 1) := by decide +kernel
theorem dX1_letThievesCome_124 : decode cX1_letThievesCome 124 = .ok (.iadd, 1) := by decide +kernel
theorem dX1_letThievesCome_125 : decode cX1_letThievesCome 125 = .ok (.putfield 64, 3) := by decide +kernel
theorem dX1_letThievesCome_128 : decode cX1_letThievesCome 128 = .ok (.iinc 4 1, 3) := by decide +kernel
theorem dX1_letThievesCome_131 : decode cX1_letThievesCome 131 = .ok (.goto (-85), 3) := by decide +kernel
theorem dX1_letThievesCome_134 : decode cX1_letThievesCome 134 = .ok (.return_, 1) := by decide +kernel
set_option maxRecDepth 20000 in
theorem ggX2_init_X1_init : GoodIn wsX2_init wsX1_init := goodIn_r _ [20, 21, 2, 3, 22, 23, 24, 25, 26, 27, 28, 29, 30, 31, 32, 33, 34, 35, 36, 37, 38, 39, 40, 41, 42, 43, 44, 57, 58, 59, 60, 61, 62, 63, 64, 65, 66, 67, 68, 69, 70, 71, 72, 73, 74] (by decide +kernel) (by decide +kernel)
set_option maxRecDepth 20000 in
theorem gX2_init_X1_init_n9 : GoodIn wsX2_init (wsX1_init) := ggX2_init_X1_init
set_option maxRecDepth 20000 in
theorem ggX2_init_X0_init : GoodIn wsX2_init wsX0_init := goodIn_r _ [46, 47, 2, 3, 48, 49, 50, 51, 52, 53, 54, 55, 56, 83, 84, 85, 86, 87, 88, 89, 90] (by decide +kernel) (by decide +kernel)
set_option maxRecDepth 20000 in
theorem gX2_init_X0_init_n39 : GoodIn wsX2_init (wsX0_init) := ggX2_init_X0_init
theorem dX2_init_0 : decode cX2_init 0 = .ok (.aload_n 0, 1) := by decide +kernel
theorem dX2_init_1 : decode cX2_init 1 = .ok (.invokespecial 1, 3) := by decide +kernel
theorem dX2_init_4 : decode cX2_init 4 = .ok (.aload_n 0, 1) := by decide +kernel
theorem dX2_init_5 : decode cX2_init 5 = .ok (.new 7, 3) := by decide +kernel
theorem dX2_init_8 : decode cX2_init 8 = .ok (.dup, 1) := by decide +kernel
theorem dX2_init_9 : decode cX2_init 9 = .ok (.invokespecial 9, 3) := by decide +kernel
theorem dX2_init_12 : decode cX2_init 12 = .ok (.putfield 10, 3) := by decide +kernel
theorem dX2_init_15 : decode cX2_init 15 = .ok (.aload_n 0, 1) := by decide +kernel
theorem dX2_init_16 : decode cX2_init 16 = .ok (.new 7, 3) := by decide +kernel
theorem dX2_init_19 : decode cX2_init 19 = .ok (.dup, 1) := by decide +kernel
theorem dX2_init_20 : decode cX2_init 20 = .ok (.invokespecial 9, 3) := by decide +kernel
theorem dX2_init_23 : decode cX2_init 23 = .ok (.putfield 16, 3) := by decide +kernel
theorem dX2_init_26 : decode cX2_init 26 = .ok (.aload_n 0, 1) := by decide +kernel
theorem dX2_init_27 : decode cX2_init 27 = .ok (.new 7, 3) := by decide +kernel
theorem dX2_init_30 : decode cX2_init 30 = .ok (.dup, 1) := by decide +kernel
theorem dX2_init_31 : decode cX2_init 31 = .ok (.invokespecial 9, 3) := by decide +kernel
theorem dX2_init_34 : decode cX2_init 34 = .ok (.putfield 19, 3) := by decide +kernel
theorem dX2_init_37 : decode cX2_init 37 = .ok (.aload_n 0, 1) := by decide +kernel
theorem dX2_init_38 : decode cX2_init 38 = .ok (.bipush 6, 2) := by decide +kernel
theorem dX2_init_40 : decode cX2_init 40 = .ok (.anewarray 7, 3) := by decide +kernel
theorem dX2_init_43 : decode cX2_init 43 = .ok (.putfield 22, 3) := by decide +kernel
theorem dX2_init_46 : decode cX2_init 46 = .ok (.aload_n 0, 1) := by decide +kernel
theorem dX2_init_47 : decode cX2_init 47 = .ok (.iconst 0, 1) := by decide +kernel
theorem dX2_init_48 : decode cX2_init 48 = .ok (.putfield 26, 3) := by decide +kernel
theorem dX2_init_51 : decode cX2_init 51 = .ok (.aload_n 0, 1) := by decide +kernel
theorem dX2_init_52 : decode cX2_init 52 = .ok (.iconst 2, 1) := by decide +kernel
theorem dX2_init_53 : decode cX2_init 53 = .ok (.anewarray 7, 3) := by decide +kernel
theorem dX2_init_56 : decode cX2_init 56 = .ok (.putfield 30, 3) := by decide +kernel
theorem dX2_init_59 : decode cX2_init 59 = .ok (.aload_n 0, 1) := by decide +kernel
theorem dX2_init_60 : decode cX2_init 60 = .ok (.iconst 2, 1) := by decide +kernel
theorem dX2_init_61 : decode cX2_init 61 = .ok (.newarray .boolean, 2) := by decide +kernel
theorem dX2_init_63 : decode cX2_init 63 = .ok (.putfield 33, 3) := by decide +kernel
theorem dX2_init_66 : decode cX2_init 66 = .ok (.aload_n 0, 1) := by decide +kernel
theorem dX2_init_67 : decode cX2_init 67 = .ok (.new 37, 3) := by decide +kernel
theorem dX2_init_70 : decode cX2_init 70 = .ok (.dup, 1) := by decide +kernel
theorem dX2_init_71 : decode cX2_init 71 = .ok (.invokespecial 39, 3) := by decide +kernel
theorem dX2_init_74 : decode cX2_init 74 = .ok (.putfield 40, 3) := by decide +kernel
theorem dX2_init_77 : decode cX2_init 77 = .ok (.iconst 0, 1) := by decide +kernel
theorem dX2_init_78 : decode cX2_init 78 = .ok (.istore_n 1, 1) := by decide +kernel
theorem dX2_init_79 : decode cX2_init 79 = .ok (.iload_n 1, 1) := by decide +kernel
theorem dX2_init_80 : decode cX2_init 80 = .ok (.bipush 6, 2) := by decide +kernel
theorem dX2_init_82 : decode cX2_init 82 = .ok (.if_icmp .ge 22, 3) := by decide +kernel
theorem dX2_init_85 : decode cX2_init 85 = .ok (.aload_n 0, 1) := by decide +kernel
theorem dX2_init_86 : decode cX2_init 86 = .ok (.getfield 22, 3) := by decide +kernel
theorem dX2_init_89 : decode cX2_init 89 = .ok (.iload_n 1, 1) := by decide +kernel
theorem dX2_init_90 : decode cX2_init 90 = .ok (.new 7, 3) := by decide +kernel
theorem dX2_init_93 : decode cX2_init 93 = .ok (.dup, 1) := by decide +kernel
theorem dX2_init_94 : decode cX2_init 94 = .ok (.invokespecial 9, 3) := by decide +kernel
theorem dX2_init_97 : decode cX2_init 97 = .ok (.aastore, 1) := by decide +kernel
theorem dX2_init_98 : decode cX2_init 98 = .ok (.iinc 1 1, 3) := by decide +kernel
theorem dX2_init_101 : decode cX2_init 101 = .ok (.goto (-22), 3) := by decide +kernel
theorem dX2_init_104 : decode cX2_init 104 = .ok (.iconst 0, 1) := by decide +kernel
theorem dX2_init_105 : decode cX2_init 105 = .ok (.istore_n 1, 1) := by decide +kernel
theorem dX2_init_106 : decode cX2_init 106 = .ok (.iload_n 1, 1) := by decide +kernel
theorem dX2_init_107 : decode cX2_init 107 = .ok (.iconst 2, 1) := by decide +kernel
theorem dX2_init_108 : decode cX2_init 108 = .ok (.if_icmp .ge 22, 3) := by decide +kernel
theorem dX2_init_111 : decode cX2_init 111 = .ok (.aload_n 0, 1) := by decide +kernel
theorem dX2_init_112 : decode cX2_init 112 = .ok (.getfield 30, 3) := by decide +kernel
theorem dX2_init_115 : decode cX2_init 115 = .ok (.iload_n 1, 1) := by decide +kernel
theorem dX2_init_116 : decode cX2_init 116 = .ok (.new 7, 3) := by decide +kernel
theorem dX2_init_119 : decode cX2_init 119 = .ok (.dup, 1) := by decide +kernel
theorem dX2_init_120 : decode cX2_init 120 = .ok (.invokespecial 9, 3) := by decide +kernel
theorem dX2_init_123 : decode cX2_init 123 = .ok (.aastore, 1) := by decide +kernel
theorem dX2_init_124 : decode cX2_init 124 = .ok (.iinc 1 1, 3) := by decide +kernel
theorem dX2_init_127 : decode cX2_init 127 = .ok (.goto (-21), 3) := by decide +kernel
theorem dX2_init_130 : decode cX2_init 130 = .ok (.return_, 1) := by decide +kernel
set_option maxRecDepth 20000 in
theorem ggX2_set_X2_copy : GoodIn wsX2_set wsX2_copy := goodIn_r _ [6, 7, 8, 9, 10, 34, 35, 36, 37, 38, 39, 40, 41, 42, 43, 44, 45, 46, 47, 48, 49, 50, 51] (by decide +kernel) (by decide +kernel)
set_option maxRecDepth 20000 in
theorem gX2_set_X2_copy : GoodIn wsX2_set (va_wsS RX2 44 yX2_copy wsX2_copy) := goodIn_app (goodIn_of _ (by decide +kernel)) ggX2_set_X2_copy
set_option maxRecDepth 20000 in
theorem ggX2_set_X1_changeSetting : GoodIn wsX2_set wsX1_changeSetting := goodIn_r _ [14, 15, 34, 35, 36, 37, 38, 39, 40, 41, 42, 43, 44, 45, 46, 47, 48, 49, 50, 51] (by decide +kernel) (by decide +kernel)
set_option maxRecDepth 20000 in
theorem gX2_set_X1_changeSetting_n48 : GoodIn wsX2_set (wsX1_changeSetting) := ggX2_set_X1_changeSetting
set_option maxRecDepth 20000 in
theorem ggX2_set_X2_recorded : GoodIn wsX2_set wsX2_recorded := goodIn_r _ [19, 20, 2, 21, 22, 23, 24, 5, 25, 3, 4, 6, 7, 8, 9, 10, 26, 27, 28, 29, 30, 31, 32, 33, 34, 35, 36, 37, 38, 39, 40, 41, 42, 43, 44, 45, 46, 47, 48, 49, 50, 51] (by decide +kernel) (by decide +kernel)
set_option maxRecDepth 20000 in
theorem gX2_set_X2_recorded : GoodIn wsX2_set (wsV RX2 52 RX2 yX2_recorded wsX2_recorded) := goodIn_app (goodIn_of _ (by decide +kernel)) ggX2_set_X2_recorded
theorem dX2_set_0 : decode cX2_set 0 = .ok (.aload_n 0, 1) := by decide +kernel
theorem dX2_set_1 : decode cX2_set 1 = .ok (.getfield 10, 3) := by decide +kernel
theorem dX2_set_4 : decode cX2_set 4 = .ok (.aload_n 0, 1) := by decide +kernel
theorem dX2_set_5 : decode cX2_set 5 = .ok (.getfield 16, 3) := by decide +kernel
theorem dX2_set_8 : decode cX2_set 8 = .ok (.invokestatic 44, 3) := by decide +kernel
theorem dX2_set_11 : decode cX2_set 11 = .ok (.aload_n 0, 1) := by decide +kernel
theorem dX2_set_12 : decode cX2_set 12 = .ok (.aload_n 0, 1) := by decide +kernel
theorem dX2_set_13 : decode cX2_set 13 = .ok (.getfield 10, 3) := by decide +kernel
theorem dX2_set_16 : decode cX2_set 16 = .ok (.iload_n 1, 1) := by decide +kernel
theorem dX2_set_17 : decode cX2_set 17 = .ok (.iload_n 2, 1) := by decide +kernel
theorem dX2_set_18 : decode cX2_set 18 = .ok (.invokevirtual 48, 3) := by decide +kernel
theorem dX2_set_21 : decode cX2_set 21 = .ok (.invokevirtual 52, 3) := by decide +kernel
theorem dX2_set_24 : decode cX2_set 24 = .ok (.ireturn, 1) := by decide +kernel
set_option maxRecDepth 20000 in
theorem ggX2_rain_X2_copy : GoodIn wsX2_rain wsX2_copy := goodIn_r _ [6, 7, 8, 9, 10, 35, 36, 37, 38, 39, 40, 41, 42, 43, 44, 45, 46, 47, 48, 49, 50, 51, 52] (by decide +kernel) (by decide +kernel)
set_option maxRecDepth 20000 in
theorem gX2_rain_X2_copy : GoodIn wsX2_rain (va_wsS RX2 44 yX2_copy wsX2_copy) := goodIn_app (goodIn_of _ (by decide +kernel)) ggX2_rain_X2_copy
set_option maxRecDepth 20000 in
theorem ggX2_rain_X1_changeRain : GoodIn wsX2_rain wsX1_changeRain := goodIn_r _ [14, 15, 16, 35, 36, 37, 38, 39, 40, 41, 42, 43, 44, 45, 46, 47, 48, 49, 50, 51, 52] (by decide +kernel) (by decide +kernel)
set_option maxRecDepth 20000 in
theorem gX2_rain_X1_changeRain_n56 : GoodIn wsX2_rain (wsX1_changeRain) := ggX2_rain_X1_changeRain
set_option maxRecDepth 20000 in
theorem ggX2_rain_X2_recorded : GoodIn wsX2_rain wsX2_recorded := goodIn_r _ [20, 21, 2, 22, 23, 24, 25, 5, 26, 3, 4, 6, 7, 8, 9, 10, 27, 28, 29, 30, 31, 32, 33, 34, 35, 36, 37, 38, 39, 40, 41, 42, 43, 44, 45, 46, 47, 48, 49, 50, 51, 52] (by decide +kernel) (by decide +kernel)
set_option maxRecDepth 20000 in
theorem gX2_rain_X2_recorded : GoodIn wsX2_rain (wsV RX2 52 RX2 yX2_recorded wsX2_recorded) := goodIn_app (goodIn_of _ (by decide +kernel)) ggX2_rain_X2_recorded
theorem dX2_rain_0 : decode cX2_rain 0 = .ok (.aload_n 0, 1) := by decide +kernel
theorem dX2_rain_1 : decode cX2_rain 1 = .ok (.getfield 10, 3) := by decide +kernel
theorem dX2_rain_4 : decode cX2_rain 4 = .ok (.aload_n 0, 1) := by decide +kernel
theorem dX2_rain_5 : decode cX2_rain 5 = .ok (.getfield 16, 3) := by decide +kernel
theorem dX2_rain_8 : decode cX2_rain 8 = .ok (.invokestatic 44, 3) := by decide +kernel
theorem dX2_rain_11 : decode cX2_rain 11 = .ok (.aload_n 0, 1) := by decide +kernel
theorem dX2_rain_12 : decode cX2_rain 12 = .ok (.aload_n 0, 1) := by decide +kernel
theorem dX2_rain_13 : decode cX2_rain 13 = .ok (.getfield 10, 3) := by decide +kernel
theorem dX2_rain_16 : decode cX2_rain 16 = .ok (.iload_n 1, 1) := by decide +kernel
theorem dX2_rain_17 : decode cX2_rain 17 = .ok (.invokevirtual 56, 3) := by decide +kernel
theorem dX2_rain_20 : decode cX2_rain 20 = .ok (.invokevirtual 52, 3) := by decide +kernel
theorem dX2_rain_23 : decode cX2_rain 23 = .ok (.ireturn, 1) := by decide +kernel
set_option maxRecDepth 20000 in
theorem ggX2_piano_X2_copy : GoodIn wsX2_piano wsX2_copy := goodIn_r _ [6, 7, 8, 9, 10, 50, 51, 52, 53, 54, 55, 56, 57, 58, 59, 60, 61, 62, 63, 64, 65, 66, 67] (by decide +kernel) (by decide +kernel)
set_option maxRecDepth 20000 in
theorem gX2_piano_X2_copy : GoodIn wsX2_piano (va_wsS RX2 44 yX2_copy wsX2_copy) := goodIn_app (goodIn_of _ (by decide +kernel)) ggX2_piano_X2_copy
set_option maxRecDepth 20000 in
theorem ggX2_piano_X1_addPiano : GoodIn wsX2_piano wsX1_addPiano := goodIn_r _ [14, 15, 16, 17, 18, 19, 20, 21, 5, 22, 23, 24, 25, 26, 27, 28, 29, 30, 31, 50, 51, 52, 53, 54, 55, 56, 57, 58, 59, 60, 61, 62, 63, 64, 65, 66, 67] (by decide +kernel) (by decide +kernel)
set_option maxRecDepth 20000 in
theorem gX2_piano_X1_addPiano_n59 : GoodIn wsX2_piano (wsX1_addPiano) := ggX2_piano_X1_addPiano
set_option maxRecDepth 20000 in
theorem ggX2_piano_X2_recorded : GoodIn wsX2_piano wsX2_recorded := goodIn_r _ [35, 36, 2, 37, 38, 39, 40, 5, 41, 3, 4, 6, 7, 8, 9, 10, 42, 43, 44, 45, 46, 47, 48, 49, 50, 51, 52, 53, 54, 55, 56, 57, 58, 59, 60, 61, 62, 63, 64, 65, 66, 67] (by decide +kernel) (by decide +kernel)
set_option maxRecDepth 20000 in
theorem gX2_piano_X2_recorded : GoodIn wsX2_piano (wsV RX2 52 RX2 yX2_recorded wsX2_recorded) := goodIn_app (goodIn_of _ (by decide +kernel)) ggX2_piano_X2_recorded
theorem dX2_piano_0 : decode cX2_piano 0 = .ok (.aload_n 0, 1) := by decide +kernel
theorem dX2_piano_1 : decode cX2_piano 1 = .ok (.getfield 10, 3) := by decide +kernel
theorem dX2_piano_4 : decode cX2_piano 4 = .ok (.aload_n 0, 1) := by decide +kernel
theorem dX2_piano_5 : decode cX2_piano 5 = .ok (.getfield 16, 3) := by decide +kernel
theorem dX2_piano_8 : decode cX2_piano 8 = .ok (.invokestatic 44, 3) := by decide +kernel
theorem dX2_piano_11 : decode cX2_piano 11 = .ok (.aload_n 0, 1) := by decide +kernel
theorem dX2_piano_12 : decode cX2_piano 12 = .ok (.aload_n 0, 1) := by decide +kernel
theorem dX2_piano_13 : decode cX2_piano 13 = .ok (.getfield 10, 3) := by decide +kernel
theorem dX2_piano_16 : decode cX2_piano 16 = .ok (.iload_n 1, 1) := by decide +kernel
theorem dX2_piano_17 : decode cX2_piano 17 = .ok (.iload_n 2, 1) := by decide +kernel
theorem dX2_piano_18 : decode cX2_piano 18 = .ok (.invokevirtual 59, 3) := by decide +kernel
theorem dX2_piano_21 : decode cX2_piano 21 = .ok (.invokevirtual 52, 3) := by decide +kernel
theorem dX2_piano_24 : decode cX2_piano 24 = .ok (.ireturn, 1) := by decide +kernel
set_option maxRecDepth 20000 in
theorem ggX2_take_X2_copy : GoodIn wsX2_take wsX2_copy := goodIn_r _ [6, 7, 8, 9, 10, 45, 46, 47, 48, 49, 50, 51, 52, 53, 54, 55, 56, 57, 58, 59, 60, 61, 62] (by decide +kernel) (by decide +kernel)
set_option maxRecDepth 20000 in
theorem gX2_take_X2_copy : GoodIn wsX2_take (va_wsS RX2 44 yX2_copy wsX2_copy) := goodIn_app (goodIn_of _ (by decide +kernel)) ggX2_take_X2_copy
set_option maxRecDepth 20000 in
theorem ggX2_take_X1_removePiano : GoodIn wsX2_take wsX1_removePiano := goodIn_r _ [14, 15, 16, 17, 18, 5, 19, 20, 21, 22, 23, 24, 25, 26, 45, 46, 47, 48, 49, 50, 51, 52, 53, 54, 55, 56, 57, 58, 59, 60, 61, 62] (by decide +kernel) (by decide +kernel)
set_option maxRecDepth 20000 in
theorem gX2_take_X1_removePiano_n62 : GoodIn wsX2_take (wsX1_removePiano) := ggX2_take_X1_removePiano
set_option maxRecDepth 20000 in
theorem ggX2_take_X2_recorded : GoodIn wsX2_take wsX2_recorded := goodIn_r _ [30, 31, 2, 32, 33, 34, 35, 5, 36, 3, 4, 6, 7, 8, 9, 10, 37, 38, 39, 40, 41, 42, 43, 44, 45, 46, 47, 48, 49, 50, 51, 52, 53, 54, 55, 56, 57, 58, 59, 60, 61, 62] (by decide +kernel) (by decide +kernel)
set_option maxRecDepth 20000 in
theorem gX2_take_X2_recorded : GoodIn wsX2_take (wsV RX2 52 RX2 yX2_recorded wsX2_recorded) := goodIn_app (goodIn_of _ (by decide +kernel)) ggX2_take_X2_recorded
theorem dX2_take_0 : decode cX2_take 0 = .ok (.aload_n 0, 1) := by decide +kernel
theorem dX2_take_1 : decode cX2_take 1 = .ok (.getfield 10, 3) := by decide +kernel
theorem dX2_take_4 : decode cX2_take 4 = .ok (.aload_n 0, 1) := by decide +kernel
theorem dX2_take_5 : decode cX2_take 5 = .ok (.getfield 16, 3) := by decide +kernel
theorem dX2_take_8 : decode cX2_take 8 = .ok (.invokestatic 44, 3) := by decide +kernel
theorem dX2_take_11 : decode cX2_take 11 = .ok (.aload_n 0, 1) := by decide +kernel
theorem dX2_take_12 : decode cX2_take 12 = .ok (.aload_n 0, 1) := by decide +kernel
theorem dX2_take_13 : decode cX2_take 13 = .ok (.getfield 10, 3) := by decide +kernel
theorem dX2_take_16 : decode cX2_take 16 = .ok (.iload_n 1, 1) := by decide +kernel
theorem dX2_take_17 : decode cX2_take 17 = .ok (.invokevirtual 62, 3) := by decide +kernel
theorem dX2_take_20 : decode cX2_take 20 = .ok (.invokevirtual 52, 3) := by decide +kernel
theorem dX2_take_23 : decode cX2_take 23 = .ok (.ireturn, 1) := by decide +kernel
set_option maxRecDepth 20000 in
theorem ggX2_keeper_X2_copy : GoodIn wsX2_keeper wsX2_copy := goodIn_r _ [6, 7, 8, 9, 10, 45, 46, 47, 48, 49, 50, 51, 52, 53, 54, 55, 56, 57, 58, 59, 60, 61, 62] (by decide +kernel) (by decide +kernel)
set_option maxRecDepth 20000 in
theorem gX2_keeper_X2_copy : GoodIn wsX2_keeper (va_wsS RX2 44 yX2_copy wsX2_copy) := goodIn_app (goodIn_of _ (by decide +kernel)) ggX2_keeper_X2_copy
set_option maxRecDepth 20000 in
theorem ggX2_keeper_X1_hireKeeper : GoodIn wsX2_keeper wsX1_hireKeeper := goodIn_r _ [14, 15, 16, 5, 17, 18, 19, 20, 12, 21, 22, 23, 24, 25, 26, 45, 46, 47, 48, 49, 50, 51, 52, 53, 54, 55, 56, 57, 58, 59, 60, 61, 62] (by decide +kernel) (by decide +kernel)
set_option maxRecDepth 20000 in
theorem gX2_keeper_X1_hireKeeper_n65 : GoodIn wsX2_keeper (wsX1_hireKeeper) := ggX2_keeper_X1_hireKeeper
set_option maxRecDepth 20000 in
theorem ggX2_keeper_X2_recorded : GoodIn wsX2_keeper wsX2_recorded := goodIn_r _ [30, 31, 2, 32, 33, 34, 35, 5, 36, 3, 4, 6, 7, 8, 9, 10, 37, 38, 39, 40, 41, 42, 43, 44, 45, 46, 47, 48, 49, 50, 51, 52, 53, 54, 55, 56, 57, 58, 59, 60, 61, 62] (by decide +kernel) (by decide +kernel)
set_option maxRecDepth 20000 in
theorem gX2_keeper_X2_recorded : GoodIn wsX2_keeper (wsV RX2 52 RX2 yX2_recorded wsX2_recorded) := goodIn_app (goodIn_of _ (by decide +kernel)) ggX2_keeper_X2_recorded
theorem dX2_keeper_0 : decode cX2_keeper 0 = .ok (.aload_n 0, 1) := by decide +kernel
theorem dX2_keeper_1 : decode cX2_keeper 1 = .ok (.getfield 10, 3) := by decide +kernel
theorem dX2_keeper_4 : decode cX2_keeper 4 = .ok (.aload_n 0, 1) := by decide +kernel
theorem dX2_keeper_5 : decode cX2_keeper 5 = .ok (.getfield 16, 3) := by decide +kernel
theorem dX2_keeper_8 : decode cX2_keeper 8 = .ok (.invokestatic 44, 3) := by decide +kernel
theorem dX2_keeper_11 : decode cX2_keeper 11 = .ok (.aload_n 0, 1) := by decide +kernel
theorem dX2_keeper_12 : decode cX2_keeper 12 = .ok (.aload_n 0, 1) := by decide +kernel
theorem dX2_keeper_13 : decode cX2_keeper 13 = .ok (.getfield 10, 3) := by decide +kernel
theorem dX2_keeper_16 : decode cX2_keeper 16 = .ok (.iload_n 1, 1) := by decide +kernel
theorem dX2_keeper_17 : decode cX2_keeper 17 = .ok (.invokevirtual 65, 3) := by decide +kernel
theorem dX2_keeper_20 : decode cX2_keeper 20 = .ok (.invokevirtual 52, 3) := by decide +kernel
theorem dX2_keeper_23 : decode cX2_keeper 23 = .ok (.ireturn, 1) := by decide +kernel
set_option maxRecDepth 20000 in
theorem ggX2_cover_X2_copy : GoodIn wsX2_cover wsX2_copy := goodIn_r _ [6, 7, 8, 9, 10, 45, 46, 47, 48, 49, 50, 51, 52, 53, 54, 55, 56, 57, 58, 59, 60, 61, 62] (by decide +kernel) (by decide +kernel)
set_option maxRecDepth 20000 in
theorem gX2_cover_X2_copy : GoodIn wsX2_cover (va_wsS RX2 44 yX2_copy wsX2_copy) := goodIn_app (goodIn_of _ (by decide +kernel)) ggX2_cover_X2_copy
set_option maxRecDepth 20000 in
theorem ggX2_cover_X1_layCover : GoodIn wsX2_cover wsX1_layCover := goodIn_r _ [14, 15, 16, 17, 18, 5, 19, 20, 21, 22, 23, 24, 25, 26, 45, 46, 47, 48, 49, 50, 51, 52, 53, 54, 55, 56, 57, 58, 59, 60, 61, 62] (by decide +kernel) (by decide +kernel)
set_option maxRecDepth 20000 in
theorem gX2_cover_X1_layCover_n68 : GoodIn wsX2_cover (wsX1_layCover) := ggX2_cover_X1_layCover
set_option maxRecDepth 20000 in
theorem ggX2_cover_X2_recorded : GoodIn wsX2_cover wsX2_recorded := goodIn_r _ [30, 31, 2, 32, 33, 34, 35, 5, 36, 3, 4, 6, 7, 8, 9, 10, 37, 38, 39, 40, 41, 42, 43, 44, 45, 46, 47, 48, 49, 50, 51, 52, 53, 54, 55, 56, 57, 58, 59, 60, 61, 62] (by decide +kernel) (by decide +kernel)
set_option maxRecDepth 20000 in
theorem gX2_cover_X2_recorded : GoodIn wsX2_cover (wsV RX2 52 RX2 yX2_recorded wsX2_recorded) := goodIn_app (goodIn_of _ (by decide +kernel)) ggX2_cover_X2_recorded
theorem dX2_cover_0 : decode cX2_cover 0 = .ok (.aload_n 0, 1) := by decide +kernel
theorem dX2_cover_1 : decode cX2_cover 1 = .ok (.getfield 10, 3) := by decide +kernel
theorem dX2_cover_4 : decode cX2_cover 4 = .ok (.aload_n 0, 1) := by decide +kernel
theorem dX2_cover_5 : decode cX2_cover 5 = .ok (.getfield 16, 3) := by decide +kernel
theorem dX2_cover_8 : decode cX2_cover 8 = .ok (.invokestatic 44, 3) := by decide +kernel
theorem dX2_cover_11 : decode cX2_cover 11 = .ok (.aload_n 0, 1) := by decide +kernel
theorem dX2_cover_12 : decode cX2_cover 12 = .ok (.aload_n 0, 1) := by decide +kernel
theorem dX2_cover_13 : decode cX2_cover 13 = .ok (.getfield 10, 3) := by decide +kernel
theorem dX2_cover_16 : decode cX2_cover 16 = .ok (.iload_n 1, 1) := by decide +kernel
theorem dX2_cover_17 : decode cX2_cover 17 = .ok (.invokevirtual 68, 3) := by decide +kernel
theorem dX2_cover_20 : decode cX2_cover 20 = .ok (.invokevirtual 52, 3) := by decide +kernel
theorem dX2_cover_23 : decode cX2_cover 23 = .ok (.ireturn, 1) := by decide +kernel
set_option maxRecDepth 20000 in
theorem ggX2_pass_X2_copy : GoodIn wsX2_pass wsX2_copy := goodIn_r _ [6, 7, 8, 9, 10, 123, 124, 125, 126, 127, 128, 129, 130, 131, 132, 133, 134, 135, 136, 137, 138, 139, 140] (by decide +kernel) (by decide +kernel)
set_option maxRecDepth 20000 in
theorem gX2_pass_X2_copy : GoodIn wsX2_pass (va_wsS RX2 44 yX2_copy wsX2_copy) := goodIn_app (goodIn_of _ (by decide +kernel)) ggX2_pass_X2_copy
set_option maxRecDepth 20000 in
theorem ggX2_pass_X1_passCounted : GoodIn wsX2_pass wsX1_passCounted := goodIn_r _ [14, 15, 16, 17, 18, 12, 19, 20, 21, 22, 23, 24, 25, 26, 27, 28, 29, 30, 31, 32, 33, 34, 35, 36, 37, 38, 39, 40, 41, 42, 5, 43, 44, 45, 46, 47, 48, 49, 50, 51, 52, 53, 54, 55, 56, 57, 58, 59, 60, 61, 62, 63, 64, 65, 66, 67, 68, 69, 70, 71, 72, 73, 74, 75, 76, 77, 78, 79, 80, 81, 82, 83, 84, 85, 86, 87, 88, 89, 90, 91, 92, 93, 94, 95, 96, 97, 98, 99, 100, 101, 102, 103, 104, 123, 124, 125, 126, 127, 128, 129, 130, 131, 132, 133, 134, 135, 136, 137, 138, 139, 140] (by decide +kernel) (by decide +kernel)
set_option maxRecDepth 20000 in
theorem gX2_pass_X1_passCounted_n71 : GoodIn wsX2_pass (wsX1_passCounted) := ggX2_pass_X1_passCounted
set_option maxRecDepth 20000 in
theorem ggX2_pass_X2_recorded : GoodIn wsX2_pass wsX2_recorded := goodIn_r _ [108, 109, 2, 110, 111, 112, 113, 5, 114, 3, 4, 6, 7, 8, 9, 10, 115, 116, 117, 118, 119, 120, 121, 122, 123, 124, 125, 126, 127, 128, 129, 130, 131, 132, 133, 134, 135, 136, 137, 138, 139, 140] (by decide +kernel) (by decide +kernel)
set_option maxRecDepth 20000 in
theorem gX2_pass_X2_recorded : GoodIn wsX2_pass (wsV RX2 52 RX2 yX2_recorded wsX2_recorded) := goodIn_app (goodIn_of _ (by decide +kernel)) ggX2_pass_X2_recorded
theorem dX2_pass_0 : decode cX2_pass 0 = .ok (.aload_n 0, 1) := by decide +kernel
theorem dX2_pass_1 : decode cX2_pass 1 = .ok (.getfield 10, 3) := by decide +kernel
theorem dX2_pass_4 : decode cX2_pass 4 = .ok (.aload_n 0, 1) := by decide +kernel
theorem dX2_pass_5 : decode cX2_pass 5 = .ok (.getfield 16, 3) := by decide +kernel
theorem dX2_pass_8 : decode cX2_pass 8 = .ok (.invokestatic 44, 3) := by decide +kernel
theorem dX2_pass_11 : decode cX2_pass 11 = .ok (.aload_n 0, 1) := by decide +kernel
theorem dX2_pass_12 : decode cX2_pass 12 = .ok (.aload_n 0, 1) := by decide +kernel
theorem dX2_pass_13 : decode cX2_pass 13 = .ok (.getfield 10, 3) := by decide +kernel
theorem dX2_pass_16 : decode cX2_pass 16 = .ok (.iload_n 1, 1) := by decide +kernel
theorem dX2_pass_17 : decode cX2_pass 17 = .ok (.invokevirtual 71, 3) := by decide +kernel
theorem dX2_pass_20 : decode cX2_pass 20 = .ok (.invokevirtual 52, 3) := by decide +kernel
theorem dX2_pass_23 : decode cX2_pass 23 = .ok (.ireturn, 1) := by decide +kernel
set_option maxRecDepth 20000 in
theorem ggX2_of_X2_has : GoodIn wsX2_of wsX2_has := goodIn_r _ [5] (by decide +kernel) (by decide +kernel)
set_option maxRecDepth 20000 in
theorem gX2_of_X2_has : GoodIn wsX2_of (va_wsS RX2 77 yX2_has wsX2_has) := goodIn_app (goodIn_of _ (by decide +kernel)) ggX2_of_X2_has
set_option maxRecDepth 20000 in
theorem ggX2_of_X1_coverAt : GoodIn wsX2_of wsX1_coverAt := goodIn_r _ [9, 10, 11, 3, 4, 5, 25, 26, 27, 28, 29, 30, 31, 32, 33, 34, 35, 36, 37, 38, 39, 40, 41, 42] (by decide +kernel) (by decide +kernel)
set_option maxRecDepth 20000 in
theorem gX2_of_X1_coverAt_n88 : GoodIn wsX2_of (wsX1_coverAt) := ggX2_of_X1_coverAt
set_option maxRecDepth 20000 in
theorem ggX2_of_X1_keepersAt : GoodIn wsX2_of wsX1_keepersAt := goodIn_r _ [14, 15, 16, 25, 26, 27, 28, 29, 30, 31, 32, 33, 34, 35, 36, 37, 38, 39, 40, 41, 42] (by decide +kernel) (by decide +kernel)
set_option maxRecDepth 20000 in
theorem gX2_of_X1_keepersAt_n97 : GoodIn wsX2_of (wsX1_keepersAt) := ggX2_of_X1_keepersAt
theorem dX2_of_0 : decode cX2_of 0 = .ok (.aload_n 0, 1) := by decide +kernel
theorem dX2_of_1 : decode cX2_of 1 = .ok (.getfield 10, 3) := by decide +kernel
theorem dX2_of_4 : decode cX2_of 4 = .ok (.getfield 74, 3) := by decide +kernel
theorem dX2_of_7 : decode cX2_of 7 = .ok (.iload_n 1, 1) := by decide +kernel
theorem dX2_of_8 : decode cX2_of 8 = .ok (.invokestatic 77, 3) := by decide +kernel
theorem dX2_of_11 : decode cX2_of 11 = .ok (.ifCond .ne 5, 3) := by decide +kernel
theorem dX2_of_14 : decode cX2_of 14 = .ok (.iconst (-1), 1) := by decide +kernel
theorem dX2_of_15 : decode cX2_of 15 = .ok (.ireturn, 1) := by decide +kernel
theorem dX2_of_16 : decode cX2_of 16 = .ok (.iload_n 2, 1) := by decide +kernel
theorem dX2_of_17 : decode cX2_of 17 = .ok (.tableswitch 97 0 5 #[39, 49, 59, 68, 78, 88], 39) := by decide +kernel
theorem dX2_of_56 : decode cX2_of 56 = .ok (.aload_n 0, 1) := by decide +kernel
theorem dX2_of_57 : decode cX2_of 57 = .ok (.getfield 10, 3) := by decide +kernel
theorem dX2_of_60 : decode cX2_of 60 = .ok (.getfield 81, 3) := by decide +kernel
theorem dX2_of_63 : decode cX2_of 63 = .ok (.iload_n 1, 1) := by decide +kernel
theorem dX2_of_64 : decode cX2_of 64 = .ok (.iaload, 1) := by decide +kernel
theorem dX2_of_65 : decode cX2_of 65 = .ok (.ireturn, 1) := by decide +kernel
theorem dX2_of_66 : decode cX2_of 66 = .ok (.aload_n 0, 1) := by decide +kernel
theorem dX2_of_67 : decode cX2_of 67 = .ok (.getfield 10, 3) := by decide +kernel
theorem dX2_of_70 : decode cX2_of 70 = .ok (.getfield 85, 3) := by decide +kernel
theorem dX2_of_73 : decode cX2_of 73 = .ok (.iload_n 1, 1) := by decide +kernel
theorem dX2_of_74 : decode cX2_of 74 = .ok (.iaload, 1) := by decide +kernel
theorem dX2_of_75 : decode cX2_of 75 = .ok (.ireturn, 1) := by decide +kernel
theorem dX2_of_76 : decode cX2_of 76 = .ok (.aload_n 0, 1) := by decide +kernel
theorem dX2_of_77 : decode cX2_of 77 = .ok (.getfield 10, 3) := by decide +kernel
theorem dX2_of_80 : decode cX2_of 80 = .ok (.iload_n 1, 1) := by decide +kernel
theorem dX2_of_81 : decode cX2_of 81 = .ok (.invokevirtual 88, 3) := by decide +kernel
theorem dX2_of_84 : decode cX2_of 84 = .ok (.ireturn, 1) := by decide +kernel
theorem dX2_of_85 : decode cX2_of 85 = .ok (.aload_n 0, 1) := by decide +kernel
theorem dX2_of_86 : decode cX2_of 86 = .ok (.getfield 10, 3) := by decide +kernel
theorem dX2_of_89 : decode cX2_of 89 = .ok (.getfield 91, 3) := by decide +kernel
theorem dX2_of_92 : decode cX2_of 92 = .ok (.iload_n 1, 1) := by decide +kernel
theorem dX2_of_93 : decode cX2_of 93 = .ok (.iaload, 1) := by decide +kernel
theorem dX2_of_94 : decode cX2_of 94 = .ok (.ireturn, 1) := by decide +kernel
theorem dX2_of_95 : decode cX2_of 95 = .ok (.aload_n 0, 1) := by decide +kernel
theorem dX2_of_96 : decode cX2_of 96 = .ok (.getfield 10, 3) := by decide +kernel
theorem dX2_of_99 : decode cX2_of 99 = .ok (.getfield 94, 3) := by decide +kernel
theorem dX2_of_102 : decode cX2_of 102 = .ok (.iload_n 1, 1) := by decide +kernel
theorem dX2_of_103 : decode cX2_of 103 = .ok (.iaload, 1) := by decide +kernel
theorem dX2_of_104 : decode cX2_of 104 = .ok (.ireturn, 1) := by decide +kernel
theorem dX2_of_105 : decode cX2_of 105 = .ok (.aload_n 0, 1) := by decide +kernel
theorem dX2_of_106 : decode cX2_of 106 = .ok (.getfield 10, 3) := by decide +kernel
theorem dX2_of_109 : decode cX2_of 109 = .ok (.iload_n 1, 1) := by decide +kernel
theorem dX2_of_110 : decode cX2_of 110 = .ok (.invokevirtual 97, 3) := by decide +kernel
theorem dX2_of_113 : decode cX2_of 113 = .ok (.ireturn, 1) := by decide +kernel
theorem dX2_of_114 : decode cX2_of 114 = .ok (.bipush (-2), 2) := by decide +kernel
theorem dX2_of_116 : decode cX2_of 116 = .ok (.ireturn, 1) := by decide +kernel
theorem dX2_ofKeeper_0 : decode cX2_ofKeeper 0 = .ok (.iload_n 1, 1) := by decide +kernel
theorem dX2_ofKeeper_1 : decode cX2_ofKeeper 1 = .ok (.ifCond .lt 19, 3) := by decide +kernel
theorem dX2_ofKeeper_4 : decode cX2_ofKeeper 4 = .ok (.iload_n 1, 1) := by decide +kernel
theorem dX2_ofKeeper_5 : decode cX2_ofKeeper 5 = .ok (.aload_n 0, 1) := by decide +kernel
theorem dX2_ofKeeper_6 : decode cX2_ofKeeper 6 = .ok (.getfield 10, 3) := by decide +kernel
theorem dX2_ofKeeper_9 : decode cX2_ofKeeper 9 = .ok (.getfield 100, 3) := by decide +kernel
theorem dX2_ofKeeper_12 : decode cX2_ofKeeper 12 = .ok (.if_icmp .ge 8, 3) := by decide +kernel
theorem dX2_ofKeeper_15 : decode cX2_ofKeeper 15 = .ok (.iload_n 1, 1) := by decide +kernel
theorem dX2_ofKeeper_16 : decode cX2_ofKeeper 16 = .ok (.iconst 4, 1) := by decide +kernel
theorem dX2_ofKeeper_17 : decode cX2_ofKeeper 17 = .ok (.if_icmp .lt 5, 3) := by decide +kernel
theorem dX2_ofKeeper_20 : decode cX2_ofKeeper 20 = .ok (.iconst (-1), 1) := by decide +kernel
theorem dX2_ofKeeper_21 : decode cX2_ofKeeper 21 = .ok (.ireturn, 1) := by decide +kernel
theorem dX2_ofKeeper_22 : decode cX2_ofKeeper 22 = .ok (.iload_n 2, 1) := by decide +kernel
theorem dX2_ofKeeper_23 : decode cX2_ofKeeper 23 = .ok (.tableswitch 83 0 4 #[33, 43, 53, 63, 73], 33) := by decide +kernel
theorem dX2_ofKeeper_56 : decode cX2_ofKeeper 56 = .ok (.aload_n 0, 1) := by decide +kernel
theorem dX2_ofKeeper_57 : decode cX2_ofKeeper 57 = .ok (.getfield 10, 3) := by decide +kernel
theorem dX2_ofKeeper_60 : decode cX2_ofKeeper 60 = .ok (.getfield 103, 3) := by decide +kernel
theorem dX2_ofKeeper_63 : decode cX2_ofKeeper 63 = .ok (.iload_n 1, 1) := by decide +kernel
theorem dX2_ofKeeper_64 : decode cX2_ofKeeper 64 = .ok (.iaload, 1) := by decide +kernel
theorem dX2_ofKeeper_65 : decode cX2_ofKeeper 65 = .ok (.ireturn, 1) := by decide +kernel
theorem dX2_ofKeeper_66 : decode cX2_ofKeeper 66 = .ok (.aload_n 0, 1) := by decide +kernel
theorem dX2_ofKeeper_67 : decode cX2_ofKeeper 67 = .ok (.getfield 10, 3) := by decide +kernel
theorem dX2_ofKeeper_70 : decode cX2_ofKeeper 70 = .ok (.getfield 106, 3) := by decide +kernel
theorem dX2_ofKeeper_73 : decode cX2_ofKeeper 73 = .ok (.iload_n 1, 1) := by decide +kernel
theorem dX2_ofKeeper_74 : decode cX2_ofKeeper 74 = .ok (.iaload, 1) := by decide +kernel
theorem dX2_ofKeeper_75 : decode cX2_ofKeeper 75 = .ok (.ireturn, 1) := by decide +kernel
theorem dX2_ofKeeper_76 : decode cX2_ofKeeper 76 = .ok (.aload_n 0, 1) := by decide +kernel
theorem dX2_ofKeeper_77 : decode cX2_ofKeeper 77 = .ok (.getfield 10, 3) := by decide +kernel
theorem dX2_ofKeeper_80 : decode cX2_ofKeeper 80 = .ok (.getfield 109, 3) := by decide +kernel
theorem dX2_ofKeeper_83 : decode cX2_ofKeeper 83 = .ok (.iload_n 1, 1) := by decide +kernel
theorem dX2_ofKeeper_84 : decode cX2_ofKeeper 84 = .ok (.iaload, 1) := by decide +kernel
theorem dX2_ofKeeper_85 : decode cX2_ofKeeper 85 = .ok (.ireturn, 1) := by decide +kernel
theorem dX2_ofKeeper_86 : decode cX2_ofKeeper 86 = .ok (.aload_n 0, 1) := by decide +kernel
theorem dX2_ofKeeper_87 : decode cX2_ofKeeper 87 = .ok (.getfield 10, 3) := by decide +kernel
theorem dX2_ofKeeper_90 : decode cX2_ofKeeper 90 = .ok (.getfield 112, 3) := by decide +kernel
theorem dX2_ofKeeper_93 : decode cX2_ofKeeper 93 = .ok (.iload_n 1, 1) := by decide +kernel
theorem dX2_ofKeeper_94 : decode cX2_ofKeeper 94 = .ok (.iaload, 1) := by decide +kernel
theorem dX2_ofKeeper_95 : decode cX2_ofKeeper 95 = .ok (.ireturn, 1) := by decide +kernel
theorem dX2_ofKeeper_96 : decode cX2_ofKeeper 96 = .ok (.aload_n 0, 1) := by decide +kernel
theorem dX2_ofKeeper_97 : decode cX2_ofKeeper 97 = .ok (.getfield 10, 3) := by decide +kernel
theorem dX2_ofKeeper_100 : decode cX2_ofKeeper 100 = .ok (.getfield 115, 3) := by decide +kernel
theorem dX2_ofKeeper_103 : decode cX2_ofKeeper 103 = .ok (.iload_n 1, 1) := by decide +kernel
theorem dX2_ofKeeper_104 : decode cX2_ofKeeper 104 = .ok (.iaload, 1) := by decide +kernel
theorem dX2_ofKeeper_105 : decode cX2_ofKeeper 105 = .ok (.ireturn, 1) := by decide +kernel
theorem dX2_ofKeeper_106 : decode cX2_ofKeeper 106 = .ok (.bipush (-2), 2) := by decide +kernel
theorem dX2_ofKeeper_108 : decode cX2_ofKeeper 108 = .ok (.ireturn, 1) := by decide +kernel
set_option maxRecDepth 20000 in
theorem ggX2_count_X1_rainIsAhead : GoodIn wsX2_count wsX1_rainIsAhead := goodIn_r _ [7, 8, 9, 10, 11, 5, 12, 13, 14, 23, 24, 25, 26, 27, 28, 29, 30, 31, 32, 33, 34, 35, 36, 37, 38, 39, 40] (by decide +kernel) (by decide +kernel)
set_option maxRecDepth 20000 in
theorem gX2_count_X1_rainIsAhead_n139 : GoodIn wsX2_count (wsX1_rainIsAhead) := ggX2_count_X1_rainIsAhead
set_option maxRecDepth 20000 in
theorem ggX2_count_X1_rainsAfter : GoodIn wsX2_count wsX1_rainsAfter := goodIn_r _ [12, 13, 14, 23, 24, 25, 26, 27, 28, 29, 30, 31, 32, 33, 34, 35, 36, 37, 38, 39, 40] (by decide +kernel) (by decide +kernel)
set_option maxRecDepth 20000 in
theorem gX2_count_X1_rainsAfter_n143 : GoodIn wsX2_count (wsX1_rainsAfter) := ggX2_count_X1_rainsAfter
theorem dX2_count_0 : decode cX2_count 0 = .ok (.iload_n 1, 1) := by decide +kernel
theorem dX2_count_1 : decode cX2_count 1 = .ok (.bipush 10, 2) := by decide +kernel
theorem dX2_count_3 : decode cX2_count 3 = .ok (.if_icmp .lt 22, 3) := by decide +kernel
theorem dX2_count_6 : decode cX2_count 6 = .ok (.iload_n 1, 1) := by decide +kernel
theorem dX2_count_7 : decode cX2_count 7 = .ok (.bipush 17, 2) := by decide +kernel
theorem dX2_count_9 : decode cX2_count 9 = .ok (.if_icmp .ge 16, 3) := by decide +kernel
theorem dX2_count_12 : decode cX2_count 12 = .ok (.aload_n 0, 1) := by decide +kernel
theorem dX2_count_13 : decode cX2_count 13 = .ok (.getfield 10, 3) := by decide +kernel
theorem dX2_count_16 : decode cX2_count 16 = .ok (.getfield 118, 3) := by decide +kernel
theorem dX2_count_19 : decode cX2_count 19 = .ok (.iload_n 1, 1) := by decide +kernel
theorem dX2_count_20 : decode cX2_count 20 = .ok (.bipush 10, 2) := by decide +kernel
theorem dX2_count_22 : decode cX2_count 22 = .ok (.isub, 1) := by decide +kernel
theorem dX2_count_23 : decode cX2_count 23 = .ok (.iaload, 1) := by decide +kernel
theorem dX2_count_24 : decode cX2_count 24 = .ok (.ireturn, 1) := by decide +kernel
theorem dX2_count_25 : decode cX2_count 25 = .ok (.iload_n 1, 1) := by decide +kernel
theorem dX2_count_26 : decode cX2_count 26 = .ok (.tableswitch 200 0 18 #[90, 98, 106, 114, 122, 130, 138, 146, 154, 170, 200, 200, 200, 200, 200, 200, 200, 187, 195], 90) := by decide +kernel
theorem dX2_count_116 : decode cX2_count 116 = .ok (.aload_n 0, 1) := by decide +kernel
theorem dX2_count_117 : decode cX2_count 117 = .ok (.getfield 10, 3) := by decide +kernel
theorem dX2_count_120 : decode cX2_count 120 = .ok (.getfield 121, 3) := by decide +kernel
theorem dX2_count_123 : decode cX2_count 123 = .ok (.ireturn, 1) := by decide +kernel
theorem dX2_count_124 : decode cX2_count 124 = .ok (.aload_n 0, 1) := by decide +kernel
theorem dX2_count_125 : decode cX2_count 125 = .ok (.getfield 10, 3) := by decide +kernel
theorem dX2_count_128 : decode cX2_count 128 = .ok (.getfield 74, 3) := by decide +kernel
theorem dX2_count_131 : decode cX2_count 131 = .ok (.ireturn, 1) := by decide +kernel
theorem dX2_count_132 : decode cX2_count 132 = .ok (.aload_n 0, 1) := by decide +kernel
theorem dX2_count_133 : decode cX2_count 133 = .ok (.getfield 10, 3) := by decide +kernel
theorem dX2_count_136 : decode cX2_count 136 = .ok (.getfield 124, 3) := by decide +kernel
theorem dX2_count_139 : decode cX2_count 139 = .ok (.ireturn, 1) := by decide +kernel
theorem dX2_count_140 : decode cX2_count 140 = .ok (.aload_n 0, 1) := by decide +kernel
theorem dX2_count_141 : decode cX2_count 141 = .ok (.getfield 10, 3) := by decide +kernel
theorem dX2_count_144 : decode cX2_count 144 = .ok (.getfield 127, 3) := by decide +kernel
theorem dX2_count_147 : decode cX2_count 147 = .ok (.ireturn, 1) := by decide +kernel
theorem dX2_count_148 : decode cX2_count 148 = .ok (.aload_n 0, 1) := by decide +kernel
theorem dX2_count_149 : decode cX2_count 149 = .ok (.getfield 10, 3) := by decide +kernel
theorem dX2_count_152 : decode cX2_count 152 = .ok (.getfield 100, 3) := by decide +kernel
theorem dX2_count_155 : decode cX2_count 155 = .ok (.ireturn, 1) := by decide +kernel
theorem dX2_count_156 : decode cX2_count 156 = .ok (.aload_n 0, 1) := by decide +kernel
theorem dX2_count_157 : decode cX2_count 157 = .ok (.getfield 10, 3) := by decide +kernel
theorem dX2_count_160 : decode cX2_count 160 = .ok (.getfield 130, 3) := by decide +kernel
theorem dX2_count_163 : decode cX2_count 163 = .ok (.ireturn, 1) := by decide +kernel
theorem dX2_count_164 : decode cX2_count 164 = .ok (.aload_n 0, 1) := by decide +kernel
theorem dX2_count_165 : decode cX2_count 165 = .ok (.getfield 10, 3) := by decide +kernel
theorem dX2_count_168 : decode cX2_count 168 = .ok (.getfield 133, 3) := by decide +kernel
theorem dX2_count_171 : decode cX2_count 171 = .ok (.ireturn, 1) := by decide +kernel
theorem dX2_count_172 : decode cX2_count 172 = .ok (.aload_n 0, 1) := by decide +kernel
theorem dX2_count_173 : decode cX2_count 173 = .ok (.getfield 10, 3) := by decide +kernel
theorem dX2_count_176 : decode cX2_count 176 = .ok (.getfield 136, 3) := by decide +kernel
theorem dX2_count_179 : decode cX2_count 179 = .ok (.ireturn, 1) := by decide +kernel
theorem dX2_count_180 : decode cX2_count 180 = .ok (.aload_n 0, 1) := by decide +kernel
theorem dX2_count_181 : decode cX2_count 181 = .ok (.getfield 10, 3) := by decide +kernel
theorem dX2_count_184 : decode cX2_count 184 = .ok (.invokevirtual 139, 3) := by decide +kernel
theorem dX2_count_187 : decode cX2_count 187 = .ok (.ifCond .eq 7, 3) := by decide +kernel
theorem dX2_count_190 : decode cX2_count 190 = .ok (.iconst 1, 1) := by decide +kernel
theorem dX2_count_191 : decode cX2_count 191 = .ok (.goto 4, 3) := by decide +kernel
theorem dX2_count_194 : decode cX2_count 194 = .ok (.iconst 0, 1) := by decide +kernel
theorem dX2_count_195 : decode cX2_count 195 = .ok (.ireturn, 1) := by decide +kernel
theorem dX2_count_196 : decode cX2_count 196 = .ok (.aload_n 0, 1) := by decide +kernel
theorem dX2_count_197 : decode cX2_count 197 = .ok (.getfield 10, 3) := by decide +kernel
theorem dX2_count_200 : decode cX2_count 200 = .ok (.iconst 0, 1) := by decide +kernel
theorem dX2_count_201 : decode cX2_count 201 = .ok (.invokevirtual 143, 3) := by decide +kernel
theorem dX2_count_204 : decode cX2_count 204 = .ok (.ifCond .eq 7, 3) := by decide +kernel
theorem dX2_count_207 : decode cX2_count 207 = .ok (.iconst 1, 1) := by decide +kernel
theorem dX2_count_208 : decode cX2_count 208 = .ok (.goto 4, 3) := by decide +kernel
theorem dX2_count_211 : decode cX2_count 211 = .ok (.iconst 0, 1) := by decide +kernel
theorem dX2_count_212 : decode cX2_count 212 = .ok (.ireturn, 1) := by decide +kernel
theorem dX2_count_213 : decode cX2_count 213 = .ok (.aload_n 0, 1) := by decide +kernel
theorem dX2_count_214 : decode cX2_count 214 = .ok (.getfield 40, 3) := by decide +kernel
theorem dX2_count_217 : decode cX2_count 217 = .ok (.getfield 147, 3) := by decide +kernel
theorem dX2_count_220 : decode cX2_count 220 = .ok (.ireturn, 1) := by decide +kernel
theorem dX2_count_221 : decode cX2_count 221 = .ok (.aload_n 0, 1) := by decide +kernel
theorem dX2_count_222 : decode cX2_count 222 = .ok (.getfield 26, 3) := by decide +kernel
theorem dX2_count_225 : decode cX2_count 225 = .ok (.ireturn, 1) := by decide +kernel
theorem dX2_count_226 : decode cX2_count 226 = .ok (.bipush (-2), 2) := by decide +kernel
theorem dX2_count_228 : decode cX2_count 228 = .ok (.ireturn, 1) := by decide +kernel
set_option maxRecDepth 20000 in
theorem ggX2_worst_X2_has : GoodIn wsX2_worst wsX2_has := goodIn_r _ [5] (by decide +kernel) (by decide +kernel)
set_option maxRecDepth 20000 in
theorem gX2_worst_X2_has : GoodIn wsX2_worst (va_wsS RX2 77 yX2_has wsX2_has) := goodIn_app (goodIn_of _ (by decide +kernel)) ggX2_worst_X2_has
theorem dX2_worst_0 : decode cX2_worst 0 = .ok (.bipush (-6), 2) := by decide +kernel
theorem dX2_worst_2 : decode cX2_worst 2 = .ok (.istore_n 1, 1) := by decide +kernel
theorem dX2_worst_3 : decode cX2_worst 3 = .ok (.iconst 0, 1) := by decide +kernel
theorem dX2_worst_4 : decode cX2_worst 4 = .ok (.istore_n 2, 1) := by decide +kernel
theorem dX2_worst_5 : decode cX2_worst 5 = .ok (.iconst 0, 1) := by decide +kernel
theorem dX2_worst_6 : decode cX2_worst 6 = .ok (.istore_n 3, 1) := by decide +kernel
theorem dX2_worst_7 : decode cX2_worst 7 = .ok (.iload_n 3, 1) := by decide +kernel
theorem dX2_worst_8 : decode cX2_worst 8 = .ok (.bipush 12, 2) := by decide +kernel
theorem dX2_worst_10 : decode cX2_worst 10 = .ok (.if_icmp .ge 61, 3) := by decide +kernel
theorem dX2_worst_13 : decode cX2_worst 13 = .ok (.aload_n 0, 1) := by decide +kernel
theorem dX2_worst_14 : decode cX2_worst 14 = .ok (.getfield 10, 3) := by decide +kernel
theorem dX2_worst_17 : decode cX2_worst 17 = .ok (.getfield 81, 3) := by decide +kernel
theorem dX2_worst_20 : decode cX2_worst 20 = .ok (.iload_n 3, 1) := by decide +kernel
theorem dX2_worst_21 : decode cX2_worst 21 = .ok (.iaload, 1) := by decide +kernel
theorem dX2_worst_22 : decode cX2_worst 22 = .ok (.aload_n 0, 1) := by decide +kernel
theorem dX2_worst_23 : decode cX2_worst 23 = .ok (.getfield 10, 3) := by decide +kernel
theorem dX2_worst_26 : decode cX2_worst 26 = .ok (.getfield 85, 3) := by decide +kernel
theorem dX2_worst_29 : decode cX2_worst 29 = .ok (.iload_n 3, 1) := by decide +kernel
theorem dX2_worst_30 : decode cX2_worst 30 = .ok (.iaload, 1) := by decide +kernel
theorem dX2_worst_31 : decode cX2_worst 31 = .ok (.isub, 1) := by decide +kernel
theorem dX2_worst_32 : decode cX2_worst 32 = .ok (.istore 4, 2) := by decide +kernel
theorem dX2_worst_34 : decode cX2_worst 34 = .ok (.aload_n 0, 1) := by decide +kernel
theorem dX2_worst_35 : decode cX2_worst 35 = .ok (.getfield 10, 3) := by decide +kernel
theorem dX2_worst_38 : decode cX2_worst 38 = .ok (.getfield 74, 3) := by decide +kernel
theorem dX2_worst_41 : decode cX2_worst 41 = .ok (.iload_n 3, 1) := by decide +kernel
theorem dX2_worst_42 : decode cX2_worst 42 = .ok (.invokestatic 77, 3) := by decide +kernel
theorem dX2_worst_45 : decode cX2_worst 45 = .ok (.ifCond .eq 20, 3) := by decide +kernel
theorem dX2_worst_48 : decode cX2_worst 48 = .ok (.iload_n 1, 1) := by decide +kernel
theorem dX2_worst_49 : decode cX2_worst 49 = .ok (.bipush (-6), 2) := by decide +kernel
theorem dX2_worst_51 : decode cX2_worst 51 = .ok (.if_icmp .eq 9, 3) := by decide +kernel
theorem dX2_worst_54 : decode cX2_worst 54 = .ok (.iload 4, 2) := by decide +kernel
theorem dX2_worst_56 : decode cX2_worst 56 = .ok (.iload_n 2, 1) := by decide +kernel
theorem dX2_worst_57 : decode cX2_worst 57 = .ok (.if_icmp .ge 8, 3) := by decide +kernel
theorem dX2_worst_60 : decode cX2_worst 60 = .ok (.iload_n 3, 1) := by decide +kernel
theorem dX2_worst_61 : decode cX2_worst 61 = .ok (.istore_n 1, 1) := by decide +kernel
theorem dX2_worst_62 : decode cX2_worst 62 = .ok (.iload 4, 2) := by decide +kernel
theorem dX2_worst_64 : decode cX2_worst 64 = .ok (.istore_n 2, 1) := by decide +kernel
theorem dX2_worst_65 : decode cX2_worst 65 = .ok (.iinc 3 1, 3) := by decide +kernel
theorem dX2_worst_68 : decode cX2_worst 68 = .ok (.goto (-61), 3) := by decide +kernel
theorem dX2_worst_71 : decode cX2_worst 71 = .ok (.iload_n 1, 1) := by decide +kernel
theorem dX2_worst_72 : decode cX2_worst 72 = .ok (.ireturn, 1) := by decide +kernel
set_option maxRecDepth 20000 in
theorem ggX2_why_X2_has : GoodIn wsX2_why wsX2_has := goodIn_r _ [5] (by decide +kernel) (by decide +kernel)
set_option maxRecDepth 20000 in
theorem gX2_why_X2_has : GoodIn wsX2_why (va_wsS RX2 77 yX2_has wsX2_has) := goodIn_app (goodIn_of _ (by decide +kernel)) ggX2_why_X2_has
set_option maxRecDepth 20000 in
theorem ggX2_why_X1_rainIsAhead : GoodIn wsX2_why wsX1_rainIsAhead := goodIn_r _ [9, 10, 11, 12, 13, 7, 14, 15, 16, 30, 31, 32, 33, 34, 35, 36, 37, 38, 39, 40, 41, 42, 43, 44, 45, 46, 47] (by decide +kernel) (by decide +kernel)
set_option maxRecDepth 20000 in
theorem gX2_why_X1_rainIsAhead_n139 : GoodIn wsX2_why (wsX1_rainIsAhead) := ggX2_why_X1_rainIsAhead
set_option maxRecDepth 20000 in
theorem ggX2_why_X1_keepersAt : GoodIn wsX2_why wsX1_keepersAt := goodIn_r _ [19, 20, 21, 30, 31, 32, 33, 34, 35, 36, 37, 38, 39, 40, 41, 42, 43, 44, 45, 46, 47] (by decide +kernel) (by decide +kernel)
set_option maxRecDepth 20000 in
theorem gX2_why_X1_keepersAt_n97 : GoodIn wsX2_why (wsX1_keepersAt) := ggX2_why_X1_keepersAt
theorem dX2_why_0 : decode cX2_why 0 = .ok (.aload_n 0, 1) := by decide +kernel
theorem dX2_why_1 : decode cX2_why 1 = .ok (.getfield 10, 3) := by decide +kernel
theorem dX2_why_4 : decode cX2_why 4 = .ok (.getfield 74, 3) := by decide +kernel
theorem dX2_why_7 : decode cX2_why 7 = .ok (.iload_n 1, 1) := by decide +kernel
theorem dX2_why_8 : decode cX2_why 8 = .ok (.invokestatic 77, 3) := by decide +kernel
theorem dX2_why_11 : decode cX2_why 11 = .ok (.ifCond .ne 5, 3) := by decide +kernel
theorem dX2_why_14 : decode cX2_why 14 = .ok (.iconst (-1), 1) := by decide +kernel
theorem dX2_why_15 : decode cX2_why 15 = .ok (.ireturn, 1) := by decide +kernel
theorem dX2_why_16 : decode cX2_why 16 = .ok (.aload_n 0, 1) := by decide +kernel
theorem dX2_why_17 : decode cX2_why 17 = .ok (.getfield 10, 3) := by decide +kernel
theorem dX2_why_20 : decode cX2_why 20 = .ok (.getfield 124, 3) := by decide +kernel
theorem dX2_why_23 : decode cX2_why 23 = .ok (.iload_n 1, 1) := by decide +kernel
theorem dX2_why_24 : decode cX2_why 24 = .ok (.invokestatic 77, 3) := by decide +kernel
theorem dX2_why_27 : decode cX2_why 27 = .ok (.ifCond .eq 5, 3) := by decide +kernel
theorem dX2_why_30 : decode cX2_why 30 = .ok (.iconst 0, 1) := by decide +kernel
theorem dX2_why_31 : decode cX2_why 31 = .ok (.ireturn, 1) := by decide +kernel
theorem dX2_why_32 : decode cX2_why 32 = .ok (.aload_n 0, 1) := by decide +kernel
theorem dX2_why_33 : decode cX2_why 33 = .ok (.getfield 10, 3) := by decide +kernel
theorem dX2_why_36 : decode cX2_why 36 = .ok (.getfield 127, 3) := by decide +kernel
theorem dX2_why_39 : decode cX2_why 39 = .ok (.iload_n 1, 1) := by decide +kernel
theorem dX2_why_40 : decode cX2_why 40 = .ok (.invokestatic 77, 3) := by decide +kernel
theorem dX2_why_43 : decode cX2_why 43 = .ok (.ifCond .ne 5, 3) := by decide +kernel
theorem dX2_why_46 : decode cX2_why 46 = .ok (.iconst 1, 1) := by decide +kernel
theorem dX2_why_47 : decode cX2_why 47 = .ok (.ireturn, 1) := by decide +kernel
theorem dX2_why_48 : decode cX2_why 48 = .ok (.aload_n 0, 1) := by decide +kernel
theorem dX2_why_49 : decode cX2_why 49 = .ok (.getfield 10, 3) := by decide +kernel
theorem dX2_why_52 : decode cX2_why 52 = .ok (.invokevirtual 139, 3) := by decide +kernel
theorem dX2_why_55 : decode cX2_why 55 = .ok (.ifCond .ne 5, 3) := by decide +kernel
theorem dX2_why_58 : decode cX2_why 58 = .ok (.iconst 2, 1) := by decide +kernel
theorem dX2_why_59 : decode cX2_why 59 = .ok (.ireturn, 1) := by decide +kernel
theorem dX2_why_60 : decode cX2_why 60 = .ok (.aload_n 0, 1) := by decide +kernel
theorem dX2_why_61 : decode cX2_why 61 = .ok (.getfield 10, 3) := by decide +kernel
theorem dX2_why_64 : decode cX2_why 64 = .ok (.getfield 100, 3) := by decide +kernel
theorem dX2_why_67 : decode cX2_why 67 = .ok (.ifCond .ne 5, 3) := by decide +kernel
theorem dX2_why_70 : decode cX2_why 70 = .ok (.iconst 3, 1) := by decide +kernel
theorem dX2_why_71 : decode cX2_why 71 = .ok (.ireturn, 1) := by decide +kernel
theorem dX2_why_72 : decode cX2_why 72 = .ok (.aload_n 0, 1) := by decide +kernel
theorem dX2_why_73 : decode cX2_why 73 = .ok (.getfield 10, 3) := by decide +kernel
theorem dX2_why_76 : decode cX2_why 76 = .ok (.iload_n 1, 1) := by decide +kernel
theorem dX2_why_77 : decode cX2_why 77 = .ok (.invokevirtual 97, 3) := by decide +kernel
theorem dX2_why_80 : decode cX2_why 80 = .ok (.ifCond .ne 7, 3) := by decide +kernel
theorem dX2_why_83 : decode cX2_why 83 = .ok (.iconst 4, 1) := by decide +kernel
theorem dX2_why_84 : decode cX2_why 84 = .ok (.goto 4, 3) := by decide +kernel
theorem dX2_why_87 : decode cX2_why 87 = .ok (.iconst 5, 1) := by decide +kernel
theorem dX2_why_88 : decode cX2_why 88 = .ok (.ireturn, 1) := by decide +kernel
set_option maxRecDepth 20000 in
theorem ggX2_rainIn_X1_hoursUntilRain : GoodIn wsX2_rainIn wsX1_hoursUntilRain := goodIn_r _ [5, 6, 7, 8, 3, 9, 10, 11, 20, 21, 22, 23, 24, 25, 26, 27, 28, 29, 30, 31, 32, 33, 34, 35, 36, 37] (by decide +kernel) (by decide +kernel)
set_option maxRecDepth 20000 in
theorem gX2_rainIn_X1_hoursUntilRain_n150 : GoodIn wsX2_rainIn (wsX1_hoursUntilRain) := ggX2_rainIn_X1_hoursUntilRain
theorem dX2_rainIn_0 : decode cX2_rainIn 0 = .ok (.aload_n 0, 1) := by decide +kernel
theorem dX2_rainIn_1 : decode cX2_rainIn 1 = .ok (.getfield 10, 3) := by decide +kernel
theorem dX2_rainIn_4 : decode cX2_rainIn 4 = .ok (.invokevirtual 150, 3) := by decide +kernel
theorem dX2_rainIn_7 : decode cX2_rainIn 7 = .ok (.ireturn, 1) := by decide +kernel
set_option maxRecDepth 20000 in
theorem ggX2_coveredIn_X2_has : GoodIn wsX2_coveredIn wsX2_has := goodIn_r _ [6] (by decide +kernel) (by decide +kernel)
set_option maxRecDepth 20000 in
theorem gX2_coveredIn_X2_has : GoodIn wsX2_coveredIn (va_wsS RX2 77 yX2_has wsX2_has) := goodIn_app (goodIn_of _ (by decide +kernel)) ggX2_coveredIn_X2_has
set_option maxRecDepth 20000 in
theorem ggX2_coveredIn_X2_copy : GoodIn wsX2_coveredIn wsX2_copy := goodIn_r _ [9, 10, 11, 12, 13, 110, 111, 112, 113, 114, 115, 116, 117, 118, 119, 120, 121, 122, 123, 124, 125, 126, 127] (by decide +kernel) (by decide +kernel)
set_option maxRecDepth 20000 in
theorem gX2_coveredIn_X2_copy : GoodIn wsX2_coveredIn (va_wsS RX2 44 yX2_copy wsX2_copy) := goodIn_app (goodIn_of _ (by decide +kernel)) ggX2_coveredIn_X2_copy
set_option maxRecDepth 20000 in
theorem ggX2_coveredIn_X1_passHours : GoodIn wsX2_coveredIn wsX1_passHours := goodIn_r _ [17, 18, 19, 20, 21, 22, 15, 23, 24, 25, 26, 27, 28, 29, 30, 31, 32, 33, 34, 35, 36, 37, 38, 39, 40, 4, 5, 6, 41, 42, 43, 44, 45, 46, 47, 48, 49, 50, 51, 52, 53, 54, 55, 56, 57, 58, 59, 60, 61, 62, 63, 64, 65, 66, 67, 68, 69, 70, 71, 72, 73, 74, 75, 76, 77, 78, 79, 80, 81, 82, 83, 84, 85, 86, 87, 88, 89, 90, 91, 92, 93, 94, 95, 96, 97, 98, 99, 100, 101, 110, 111, 112, 113, 114, 115, 116, 117, 118, 119, 120, 121, 122, 123, 124, 125, 126, 127] (by decide +kernel) (by decide +kernel)
set_option maxRecDepth 20000 in
theorem gX2_coveredIn_X1_passHours_n154 : GoodIn wsX2_coveredIn (wsX1_passHours) := ggX2_coveredIn_X1_passHours
theorem dX2_coveredIn_0 : decode cX2_coveredIn 0 = .ok (.aload_n 0, 1) := by decide +kernel
theorem dX2_coveredIn_1 : decode cX2_coveredIn 1 = .ok (.getfield 10, 3) := by decide +kernel
theorem dX2_coveredIn_4 : decode cX2_coveredIn 4 = .ok (.getfield 74, 3) := by decide +kernel
theorem dX2_coveredIn_7 : decode cX2_coveredIn 7 = .ok (.iload_n 1, 1) := by decide +kernel
theorem dX2_coveredIn_8 : decode cX2_coveredIn 8 = .ok (.invokestatic 77, 3) := by decide +kernel
theorem dX2_coveredIn_11 : decode cX2_coveredIn 11 = .ok (.ifCond .ne 5, 3) := by decide +kernel
theorem dX2_coveredIn_14 : decode cX2_coveredIn 14 = .ok (.iconst (-1), 1) := by decide +kernel
theorem dX2_coveredIn_15 : decode cX2_coveredIn 15 = .ok (.ireturn, 1) := by decide +kernel
theorem dX2_coveredIn_16 : decode cX2_coveredIn 16 = .ok (.aload_n 0, 1) := by decide +kernel
theorem dX2_coveredIn_17 : decode cX2_coveredIn 17 = .ok (.getfield 10, 3) := by decide +kernel
theorem dX2_coveredIn_20 : decode cX2_coveredIn 20 = .ok (.aload_n 0, 1) := by decide +kernel
theorem dX2_coveredIn_21 : decode cX2_coveredIn 21 = .ok (.getfield 19, 3) := by decide +kernel
theorem dX2_coveredIn_24 : decode cX2_coveredIn 24 = .ok (.invokestatic 44, 3) := by decide +kernel
theorem dX2_coveredIn_27 : decode cX2_coveredIn 27 = .ok (.iconst 0, 1) := by decide +kernel
theorem dX2_coveredIn_28 : decode cX2_coveredIn 28 = .ok (.istore_n 2, 1) := by decide +kernel
theorem dX2_coveredIn_29 : decode cX2_coveredIn 29 = .ok (.iload_n 2, 1) := by decide +kernel
theorem dX2_coveredIn_30 : decode cX2_coveredIn 30 = .ok (.bipush 96, 2) := by decide +kernel
theorem dX2_coveredIn_32 : decode cX2_coveredIn 32 = .ok (.if_icmp .ge 34, 3) := by decide +kernel
theorem dX2_coveredIn_35 : decode cX2_coveredIn 35 = .ok (.aload_n 0, 1) := by decide +kernel
theorem dX2_coveredIn_36 : decode cX2_coveredIn 36 = .ok (.getfield 19, 3) := by decide +kernel
theorem dX2_coveredIn_39 : decode cX2_coveredIn 39 = .ok (.getfield 124, 3) := by decide +kernel
theorem dX2_coveredIn_42 : decode cX2_coveredIn 42 = .ok (.iload_n 1, 1) := by decide +kernel
theorem dX2_coveredIn_43 : decode cX2_coveredIn 43 = .ok (.invokestatic 77, 3) := by decide +kernel
theorem dX2_coveredIn_46 : decode cX2_coveredIn 46 = .ok (.ifCond .eq 5, 3) := by decide +kernel
theorem dX2_coveredIn_49 : decode cX2_coveredIn 49 = .ok (.iload_n 2, 1) := by decide +kernel
theorem dX2_coveredIn_50 : decode cX2_coveredIn 50 = .ok (.ireturn, 1) := by decide +kernel
theorem dX2_coveredIn_51 : decode cX2_coveredIn 51 = .ok (.aload_n 0, 1) := by decide +kernel
theorem dX2_coveredIn_52 : decode cX2_coveredIn 52 = .ok (.getfield 19, 3) := by decide +kernel
theorem dX2_coveredIn_55 : decode cX2_coveredIn 55 = .ok (.iconst 1, 1) := by decide +kernel
theorem dX2_coveredIn_56 : decode cX2_coveredIn 56 = .ok (.invokevirtual 154, 3) := by decide +kernel
theorem dX2_coveredIn_59 : decode cX2_coveredIn 59 = .ok (.pop, 1) := by decide +kernel
theorem dX2_coveredIn_60 : decode cX2_coveredIn 60 = .ok (.iinc 2 1, 3) := by decide +kernel
theorem dX2_coveredIn_63 : decode cX2_coveredIn 63 = .ok (.goto (-34), 3) := by decide +kernel
theorem dX2_coveredIn_66 : decode cX2_coveredIn 66 = .ok (.aload_n 0, 1) := by decide +kernel
theorem dX2_coveredIn_67 : decode cX2_coveredIn 67 = .ok (.getfield 19, 3) := by decide +kernel
theorem dX2_coveredIn_70 : decode cX2_coveredIn 70 = .ok (.getfield 124, 3) := by decide +kernel
theorem dX2_coveredIn_73 : decode cX2_coveredIn 73 = .ok (.iload_n 1, 1) := by decide +kernel
theorem dX2_coveredIn_74 : decode cX2_coveredIn 74 = .ok (.invokestatic 77, 3) := by decide +kernel
theorem dX2_coveredIn_77 : decode cX2_coveredIn 77 = .ok (.ifCond .eq 8, 3) := by decide +kernel
theorem dX2_coveredIn_80 : decode cX2_coveredIn 80 = .ok (.bipush 96, 2) := by decide +kernel
theorem dX2_coveredIn_82 : decode cX2_coveredIn 82 = .ok (.goto 5, 3) := by decide +kernel
theorem dX2_coveredIn_85 : decode cX2_coveredIn 85 = .ok (.bipush (-6), 2) := by decide +kernel
theorem dX2_coveredIn_87 : decode cX2_coveredIn 87 = .ok (.ireturn, 1) := by decide +kernel
set_option maxRecDepth 20000 in
theorem ggX2_willBeWet_X2_copy : GoodIn wsX2_willBeWet wsX2_copy := goodIn_r _ [6, 7, 8, 9, 10, 109, 110, 111, 112, 113, 114, 115, 116, 117, 118, 119, 120, 121, 122, 123, 124, 125, 126] (by decide +kernel) (by decide +kernel)
set_option maxRecDepth 20000 in
theorem gX2_willBeWet_X2_copy : GoodIn wsX2_willBeWet (va_wsS RX2 44 yX2_copy wsX2_copy) := goodIn_app (goodIn_of _ (by decide +kernel)) ggX2_willBeWet_X2_copy
set_option maxRecDepth 20000 in
theorem ggX2_willBeWet_X1_passHours : GoodIn wsX2_willBeWet wsX1_passHours := goodIn_r _ [14, 15, 16, 17, 18, 19, 12, 20, 21, 22, 23, 24, 25, 26, 27, 28, 29, 30, 31, 32, 33, 34, 35, 36, 37, 38, 5, 39, 40, 41, 42, 43, 44, 45, 46, 47, 48, 49, 50, 51, 52, 53, 54, 55, 56, 57, 58, 59, 60, 61, 62, 63, 64, 65, 66, 67, 68, 69, 70, 71, 72, 73, 74, 75, 76, 77, 78, 79, 80, 81, 82, 83, 84, 85, 86, 87, 88, 89, 90, 91, 92, 93, 94, 95, 96, 97, 98, 99, 100, 109, 110, 111, 112, 113, 114, 115, 116, 117, 118, 119, 120, 121, 122, 123, 124, 125, 126] (by decide +kernel) (by decide +kernel)
set_option maxRecDepth 20000 in
theorem gX2_willBeWet_X1_passHours_n154 : GoodIn wsX2_willBeWet (wsX1_passHours) := ggX2_willBeWet_X1_passHours
theorem dX2_willBeWet_0 : decode cX2_willBeWet 0 = .ok (.iload_n 1, 1) := by decide +kernel
theorem dX2_willBeWet_1 : decode cX2_willBeWet 1 = .ok (.iconst 1, 1) := by decide +kernel
theorem dX2_willBeWet_2 : decode cX2_willBeWet 2 = .ok (.if_icmp .lt 9, 3) := by decide +kernel
theorem dX2_willBeWet_5 : decode cX2_willBeWet 5 = .ok (.iload_n 1, 1) := by decide +kernel
theorem dX2_willBeWet_6 : decode cX2_willBeWet 6 = .ok (.bipush 99, 2) := by decide +kernel
theorem dX2_willBeWet_8 : decode cX2_willBeWet 8 = .ok (.if_icmp .le 6, 3) := by decide +kernel
theorem dX2_willBeWet_11 : decode cX2_willBeWet 11 = .ok (.bipush (-2), 2) := by decide +kernel
theorem dX2_willBeWet_13 : decode cX2_willBeWet 13 = .ok (.ireturn, 1) := by decide +kernel
theorem dX2_willBeWet_14 : decode cX2_willBeWet 14 = .ok (.aload_n 0, 1) := by decide +kernel
theorem dX2_willBeWet_15 : decode cX2_willBeWet 15 = .ok (.getfield 10, 3) := by decide +kernel
theorem dX2_willBeWet_18 : decode cX2_willBeWet 18 = .ok (.aload_n 0, 1) := by decide +kernel
theorem dX2_willBeWet_19 : decode cX2_willBeWet 19 = .ok (.getfield 19, 3) := by decide +kernel
theorem dX2_willBeWet_22 : decode cX2_willBeWet 22 = .ok (.invokestatic 44, 3) := by decide +kernel
theorem dX2_willBeWet_25 : decode cX2_willBeWet 25 = .ok (.aload_n 0, 1) := by decide +kernel
theorem dX2_willBeWet_26 : decode cX2_willBeWet 26 = .ok (.getfield 19, 3) := by decide +kernel
theorem dX2_willBeWet_29 : decode cX2_willBeWet 29 = .ok (.iload_n 1, 1) := by decide +kernel
theorem dX2_willBeWet_30 : decode cX2_willBeWet 30 = .ok (.invokevirtual 154, 3) := by decide +kernel
theorem dX2_willBeWet_33 : decode cX2_willBeWet 33 = .ok (.pop, 1) := by decide +kernel
theorem dX2_willBeWet_34 : decode cX2_willBeWet 34 = .ok (.iconst 0, 1) := by decide +kernel
theorem dX2_willBeWet_35 : decode cX2_willBeWet 35 = .ok (.istore_n 2, 1) := by decide +kernel
theorem dX2_willBeWet_36 : decode cX2_willBeWet 36 = .ok (.iconst 0, 1) := by decide +kernel
theorem dX2_willBeWet_37 : decode cX2_willBeWet 37 = .ok (.istore_n 3, 1) := by decide +kernel
theorem dX2_willBeWet_38 : decode cX2_willBeWet 38 = .ok (.iload_n 3, 1) := by decide +kernel
theorem dX2_willBeWet_39 : decode cX2_willBeWet 39 = .ok (.bipush 12, 2) := by decide +kernel
theorem dX2_willBeWet_41 : decode cX2_willBeWet 41 = .ok (.if_icmp .ge 36, 3) := by decide +kernel
theorem dX2_willBeWet_44 : decode cX2_willBeWet 44 = .ok (.aload_n 0, 1) := by decide +kernel
theorem dX2_willBeWet_45 : decode cX2_willBeWet 45 = .ok (.getfield 19, 3) := by decide +kernel
theorem dX2_willBeWet_48 : decode cX2_willBeWet 48 = .ok (.getfield 94, 3) := by decide +kernel
theorem dX2_willBeWet_51 : decode cX2_willBeWet 51 = .ok (.iload_n 3, 1) := by decide +kernel
theorem dX2_willBeWet_52 : decode cX2_willBeWet 52 = .ok (.iaload, 1) := by decide +kernel
theorem dX2_willBeWet_53 : decode cX2_willBeWet 53 = .ok (.aload_n 0, 1) := by decide +kernel
theorem dX2_willBeWet_54 : decode cX2_willBeWet 54 = .ok (.getfield 10, 3) := by decide +kernel
theorem dX2_willBeWet_57 : decode cX2_willBeWet 57 = .ok (.getfield 94, 3) := by decide +kernel
theorem dX2_willBeWet_60 : decode cX2_willBeWet 60 = .ok (.iload_n 3, 1) := by decide +kernel
theorem dX2_willBeWet_61 : decode cX2_willBeWet 61 = .ok (.iaload, 1) := by decide +kernel
theorem dX2_willBeWet_62 : decode cX2_willBeWet 62 = .ok (.if_icmp .le 9, 3) := by decide +kernel
theorem dX2_willBeWet_65 : decode cX2_willBeWet 65 = .ok (.iload_n 2, 1) := by decide +kernel
theorem dX2_willBeWet_66 : decode cX2_willBeWet 66 = .ok (.iconst 1, 1) := by decide +kernel
theorem dX2_willBeWet_67 : decode cX2_willBeWet 67 = .ok (.iload_n 3, 1) := by decide +kernel
theorem dX2_willBeWet_68 : decode cX2_willBeWet 68 = .ok (.ishl, 1) := by decide +kernel
theorem dX2_willBeWet_69 : decode cX2_willBeWet 69 = .ok (.ior, 1) := by decide +kernel
theorem dX2_willBeWet_70 : decode cX2_willBeWet 70 = .ok (.istore_n 2, 1) := by decide +kernel
theorem dX2_willBeWet_71 : decode cX2_willBeWet 71 = .ok (.iinc 3 1, 3) := by decide +kernel
theorem dX2_willBeWet_74 : decode cX2_willBeWet 74 = .ok (.goto (-36), 3) := by decide +kernel
theorem dX2_willBeWet_77 : decode cX2_willBeWet 77 = .ok (.iload_n 2, 1) := by decide +kernel
theorem dX2_willBeWet_78 : decode cX2_willBeWet 78 = .ok (.ireturn, 1) := by decide +kernel
set_option maxRecDepth 20000 in
theorem ggX2_bestPlace_X2_coinsWithOneMoreAt : GoodIn wsX2_bestPlace wsX2_coinsWithOneMoreAt := goodIn_r _ [5, 6, 7, 8, 9, 4, 10, 11, 12, 13, 14, 15, 16, 17, 18, 19, 20, 21, 22, 23, 24, 25, 26, 27, 28, 29, 30, 31, 32, 33, 34, 35, 36, 37, 38, 39, 40, 41, 42, 43, 44, 45, 46, 47, 48, 49, 50, 51, 52, 53, 54, 55, 56, 57, 58, 59, 60, 61, 62, 63, 64, 65, 66, 67, 68, 69, 70, 71, 72, 73, 74, 75, 76, 77, 78, 79, 80, 81, 82, 83, 84, 85, 86, 87, 88, 89, 90, 91, 92, 93, 94, 95, 96, 97, 98, 99, 100, 101, 102, 103, 104, 105, 106, 107, 108, 109, 110, 111, 112, 113, 114, 115, 116, 117, 118, 119, 120, 121, 122, 123, 124, 125, 126, 127, 128, 129, 130, 131, 132, 133] (by decide +kernel) (by decide +kernel)
set_option maxRecDepth 20000 in
theorem gX2_bestPlace_X2_coinsWithOneMoreAt : GoodIn wsX2_bestPlace (wsV RX2 157 RX2 yX2_coinsWithOneMoreAt wsX2_coinsWithOneMoreAt) := goodIn_app (goodIn_of _ (by decide +kernel)) ggX2_bestPlace_X2_coinsWithOneMoreAt
theorem dX2_bestPlace_0 : decode cX2_bestPlace 0 = .ok (.iload_n 1, 1) := by decide +kernel
theorem dX2_bestPlace_1 : decode cX2_bestPlace 1 = .ok (.iconst 1, 1) := by decide +kernel
theorem dX2_bestPlace_2 : decode cX2_bestPlace 2 = .ok (.if_icmp .lt 18, 3) := by decide +kernel
theorem dX2_bestPlace_5 : decode cX2_bestPlace 5 = .ok (.iload_n 1, 1) := by decide +kernel
theorem dX2_bestPlace_6 : decode cX2_bestPlace 6 = .ok (.bipush 48, 2) := by decide +kernel
theorem dX2_bestPlace_8 : decode cX2_bestPlace 8 = .ok (.if_icmp .gt 12, 3) := by decide +kernel
theorem dX2_bestPlace_11 : decode cX2_bestPlace 11 = .ok (.iload_n 2, 1) := by decide +kernel
theorem dX2_bestPlace_12 : decode cX2_bestPlace 12 = .ok (.ifCond .lt 8, 3) := by decide +kernel
theorem dX2_bestPlace_15 : decode cX2_bestPlace 15 = .ok (.iload_n 2, 1) := by decide +kernel
theorem dX2_bestPlace_16 : decode cX2_bestPlace 16 = .ok (.iconst 1, 1) := by decide +kernel
theorem dX2_bestPlace_17 : decode cX2_bestPlace 17 = .ok (.if_icmp .le 6, 3) := by decide +kernel
theorem dX2_bestPlace_20 : decode cX2_bestPlace 20 = .ok (.bipush (-2), 2) := by decide +kernel
theorem dX2_bestPlace_22 : decode cX2_bestPlace 22 = .ok (.ireturn, 1) := by decide +kernel
theorem dX2_bestPlace_23 : decode cX2_bestPlace 23 = .ok (.bipush (-6), 2) := by decide +kernel
theorem dX2_bestPlace_25 : decode cX2_bestPlace 25 = .ok (.istore_n 3, 1) := by decide +kernel
theorem dX2_bestPlace_26 : decode cX2_bestPlace 26 = .ok (.iconst 0, 1) := by decide +kernel
theorem dX2_bestPlace_27 : decode cX2_bestPlace 27 = .ok (.istore 4, 2) := by decide +kernel
theorem dX2_bestPlace_29 : decode cX2_bestPlace 29 = .ok (.iconst 0, 1) := by decide +kernel
theorem dX2_bestPlace_30 : decode cX2_bestPlace 30 = .ok (.istore 5, 2) := by decide +kernel
theorem dX2_bestPlace_32 : decode cX2_bestPlace 32 = .ok (.iload 5, 2) := by decide +kernel
theorem dX2_bestPlace_34 : decode cX2_bestPlace 34 = .ok (.bipush 12, 2) := by decide +kernel
theorem dX2_bestPlace_36 : decode cX2_bestPlace 36 = .ok (.if_icmp .ge 38, 3) := by decide +kernel
theorem dX2_bestPlace_39 : decode cX2_bestPlace 39 = .ok (.aload_n 0, 1) := by decide +kernel
theorem dX2_bestPlace_40 : decode cX2_bestPlace 40 = .ok (.iload 5, 2) := by decide +kernel
theorem dX2_bestPlace_42 : decode cX2_bestPlace 42 = .ok (.iload_n 1, 1) := by decide +kernel
theorem dX2_bestPlace_43 : decode cX2_bestPlace 43 = .ok (.invokevirtual 157, 3) := by decide +kernel
theorem dX2_bestPlace_46 : decode cX2_bestPlace 46 = .ok (.istore 6, 2) := by decide +kernel
theorem dX2_bestPlace_48 : decode cX2_bestPlace 48 = .ok (.iload_n 3, 1) := by decide +kernel
theorem dX2_bestPlace_49 : decode cX2_bestPlace 49 = .ok (.bipush (-6), 2) := by decide +kernel
theorem dX2_bestPlace_51 : decode cX2_bestPlace 51 = .ok (.if_icmp .eq 10, 3) := by decide +kernel
theorem dX2_bestPlace_54 : decode cX2_bestPlace 54 = .ok (.iload 6, 2) := by decide +kernel
theorem dX2_bestPlace_56 : decode cX2_bestPlace 56 = .ok (.iload 4, 2) := by decide +kernel
theorem dX2_bestPlace_58 : decode cX2_bestPlace 58 = .ok (.if_icmp .le 10, 3) := by decide +kernel
theorem dX2_bestPlace_61 : decode cX2_bestPlace 61 = .ok (.iload 5, 2) := by decide +kernel
theorem dX2_bestPlace_63 : decode cX2_bestPlace 63 = .ok (.istore_n 3, 1) := by decide +kernel
theorem dX2_bestPlace_64 : decode cX2_bestPlace 64 = .ok (.iload 6, 2) := by decide +kernel
theorem dX2_bestPlace_66 : decode cX2_bestPlace 66 = .ok (.istore 4, 2) := by decide +kernel
theorem dX2_bestPlace_68 : decode cX2_bestPlace 68 = .ok (.iinc 5 1, 3) := by decide +kernel
theorem dX2_bestPlace_71 : decode cX2_bestPlace 71 = .ok (.goto (-39), 3) := by decide +kernel
theorem dX2_bestPlace_74 : decode cX2_bestPlace 74 = .ok (.iload_n 2, 1) := by decide +kernel
theorem dX2_bestPlace_75 : decode cX2_bestPlace 75 = .ok (.ifCond .ne 7, 3) := by decide +kernel
theorem dX2_bestPlace_78 : decode cX2_bestPlace 78 = .ok (.iload_n 3, 1) := by decide +kernel
theorem dX2_bestPlace_79 : decode cX2_bestPlace 79 = .ok (.goto 5, 3) := by decide +kernel
theorem dX2_bestPlace_82 : decode cX2_bestPlace 82 = .ok (.iload 4, 2) := by decide +kernel
theorem dX2_bestPlace_84 : decode cX2_bestPlace 84 = .ok (.ireturn, 1) := by decide +kernel
set_option maxRecDepth 20000 in
theorem ggX2_coinsWithOneMoreAt_X2_copy : GoodIn wsX2_coinsWithOneMoreAt wsX2_copy := goodIn_r _ [6, 7, 8, 9, 10, 112, 113, 114, 115, 116, 117, 118, 119, 120, 121, 122, 123, 124, 125, 126, 127, 128, 129] (by decide +kernel) (by decide +kernel)
set_option maxRecDepth 20000 in
theorem gX2_coinsWithOneMoreAt_X2_copy : GoodIn wsX2_coinsWithOneMoreAt (va_wsS RX2 44 yX2_copy wsX2_copy) := goodIn_app (goodIn_of _ (by decide +kernel)) ggX2_coinsWithOneMoreAt_X2_copy
set_option maxRecDepth 20000 in
theorem ggX2_coinsWithOneMoreAt_X1_addKeeper : GoodIn wsX2_coinsWithOneMoreAt wsX1_addKeeper := goodIn_r _ [14, 15, 16, 17, 18, 19, 20, 112, 113, 114, 115, 116, 117, 118, 119, 120, 121, 122, 123, 124, 125, 126, 127, 128, 129] (by decide +kernel) (by decide +kernel)
set_option maxRecDepth 20000 in
theorem gX2_coinsWithOneMoreAt_X1_addKeeper_n160 : GoodIn wsX2_coinsWithOneMoreAt (wsX1_addKeeper) := ggX2_coinsWithOneMoreAt_X1_addKeeper
set_option maxRecDepth 20000 in
theorem ggX2_coinsWithOneMoreAt_X1_passHours : GoodIn wsX2_coinsWithOneMoreAt wsX1_passHours := goodIn_r _ [23, 24, 25, 26, 27, 28, 12, 29, 15, 30, 31, 16, 32, 33, 34, 35, 36, 37, 38, 39, 40, 41, 42, 43, 44, 45, 5, 46, 47, 48, 49, 50, 51, 52, 53, 54, 55, 56, 57, 58, 59, 60, 20, 61, 62, 63, 64, 65, 66, 67, 68, 19, 69, 70, 71, 72, 17, 73, 74, 75, 76, 18, 77, 78, 79, 80, 81, 82, 83, 84, 85, 86, 87, 88, 89, 90, 91, 92, 93, 94, 95, 96, 97, 98, 99, 100, 101, 102, 103, 112, 113, 114, 115, 116, 117, 118, 119, 120, 121, 122, 123, 124, 125, 126, 127, 128, 129] (by decide +kernel) (by decide +kernel)
set_option maxRecDepth 20000 in
theorem gX2_coinsWithOneMoreAt_X1_passHours_n154 : GoodIn wsX2_coinsWithOneMoreAt (wsX1_passHours) := ggX2_coinsWithOneMoreAt_X1_passHours
theorem dX2_coinsWithOneMoreAt_0 : decode cX2_coinsWithOneMoreAt 0 = .ok (.aload_n 0, 1) := by decide +kernel
theorem dX2_coinsWithOneMoreAt_1 : decode cX2_coinsWithOneMoreAt 1 = .ok (.getfield 10, 3) := by decide +kernel
theorem dX2_coinsWithOneMoreAt_4 : decode cX2_coinsWithOneMoreAt 4 = .ok (.aload_n 0, 1) := by decide +kernel
theorem dX2_coinsWithOneMoreAt_5 : decode cX2_coinsWithOneMoreAt 5 = .ok (.getfield 19, 3) := by decide +kernel
theorem dX2_coinsWithOneMoreAt_8 : decode cX2_coinsWithOneMoreAt 8 = .ok (.invokestatic 44, 3) := by decide +kernel
theorem dX2_coinsWithOneMoreAt_11 : decode cX2_coinsWithOneMoreAt 11 = .ok (.aload_n 0, 1) := by decide +kernel
theorem dX2_coinsWithOneMoreAt_12 : decode cX2_coinsWithOneMoreAt 12 = .ok (.getfield 19, 3) := by decide +kernel
theorem dX2_coinsWithOneMoreAt_15 : decode cX2_coinsWithOneMoreAt 15 = .ok (.iload_n 1, 1) := by decide +kernel
theorem dX2_coinsWithOneMoreAt_16 : decode cX2_coinsWithOneMoreAt 16 = .ok (.invokevirtual 160, 3) := by decide +kernel
theorem dX2_coinsWithOneMoreAt_19 : decode cX2_coinsWithOneMoreAt 19 = .ok (.aload_n 0, 1) := by decide +kernel
theorem dX2_coinsWithOneMoreAt_20 : decode cX2_coinsWithOneMoreAt 20 = .ok (.getfield 19, 3) := by decide +kernel
theorem dX2_coinsWithOneMoreAt_23 : decode cX2_coinsWithOneMoreAt 23 = .ok (.iload_n 2, 1) := by decide +kernel
theorem dX2_coinsWithOneMoreAt_24 : decode cX2_coinsWithOneMoreAt 24 = .ok (.invokevirtual 154, 3) := by decide +kernel
theorem dX2_coinsWithOneMoreAt_27 : decode cX2_coinsWithOneMoreAt 27 = .ok (.ireturn, 1) := by decide +kernel
set_option maxRecDepth 20000 in
theorem ggX2_put_X2_charactersIn : GoodIn wsX2_put wsX2_charactersIn := goodIn_r _ [6, 2, 7, 8] (by decide +kernel) (by decide +kernel)
set_option maxRecDepth 20000 in
theorem gX2_put_X2_charactersIn : GoodIn wsX2_put (va_wsS RX2 164 yX2_charactersIn wsX2_charactersIn) := goodIn_app (goodIn_of _ (by decide +kernel)) ggX2_put_X2_charactersIn
set_option maxRecDepth 20000 in
theorem ggX2_put_X0_append : GoodIn wsX2_put wsX0_append := goodIn_r _ [12, 13, 14, 23, 24, 25, 26, 27, 28, 29, 30] (by decide +kernel) (by decide +kernel)
set_option maxRecDepth 20000 in
theorem gX2_put_X0_append_n170 : GoodIn wsX2_put (wsX0_append) := ggX2_put_X0_append
theorem dX2_put_0 : decode cX2_put 0 = .ok (.lload_n 1, 1) := by decide +kernel
theorem dX2_put_1 : decode cX2_put 1 = .ok (.invokestatic 164, 3) := by decide +kernel
theorem dX2_put_4 : decode cX2_put 4 = .ok (.istore_n 3, 1) := by decide +kernel
theorem dX2_put_5 : decode cX2_put 5 = .ok (.iload_n 3, 1) := by decide +kernel
theorem dX2_put_6 : decode cX2_put 6 = .ok (.ifCond .ne 6, 3) := by decide +kernel
theorem dX2_put_9 : decode cX2_put 9 = .ok (.bipush (-2), 2) := by decide +kernel
theorem dX2_put_11 : decode cX2_put 11 = .ok (.ireturn, 1) := by decide +kernel
theorem dX2_put_12 : decode cX2_put 12 = .ok (.aload_n 0, 1) := by decide +kernel
theorem dX2_put_13 : decode cX2_put 13 = .ok (.getfield 40, 3) := by decide +kernel
theorem dX2_put_16 : decode cX2_put 16 = .ok (.getfield 147, 3) := by decide +kernel
theorem dX2_put_19 : decode cX2_put 19 = .ok (.iload_n 3, 1) := by decide +kernel
theorem dX2_put_20 : decode cX2_put 20 = .ok (.iadd, 1) := by decide +kernel
theorem dX2_put_21 : decode cX2_put 21 = .ok (.bipush 80, 2) := by decide +kernel
theorem dX2_put_23 : decode cX2_put 23 = .ok (.if_icmp .le 6, 3) := by decide +kernel
theorem dX2_put_26 : decode cX2_put 26 = .ok (.bipush (-4), 2) := by decide +kernel
theorem dX2_put_28 : decode cX2_put 28 = .ok (.ireturn, 1) := by decide +kernel
theorem dX2_put_29 : decode cX2_put 29 = .ok (.iload_n 3, 1) := by decide +kernel
theorem dX2_put_30 : decode cX2_put 30 = .ok (.iconst 1, 1) := by decide +kernel
theorem dX2_put_31 : decode cX2_put 31 = .ok (.isub, 1) := by decide +kernel
theorem dX2_put_32 : decode cX2_put 32 = .ok (.istore 4, 2) := by decide +kernel
theorem dX2_put_34 : decode cX2_put 34 = .ok (.iload 4, 2) := by decide +kernel
theorem dX2_put_36 : decode cX2_put 36 = .ok (.ifCond .lt 29, 3) := by decide +kernel
theorem dX2_put_39 : decode cX2_put 39 = .ok (.aload_n 0, 1) := by decide +kernel
theorem dX2_put_40 : decode cX2_put 40 = .ok (.getfield 40, 3) := by decide +kernel
theorem dX2_put_43 : decode cX2_put 43 = .ok (.lload_n 1, 1) := by decide +kernel
theorem dX2_put_44 : decode cX2_put 44 = .ok (.bipush 8, 2) := by decide +kernel
theorem dX2_put_46 : decode cX2_put 46 = .ok (.iload 4, 2) := by decide +kernel
theorem dX2_put_48 : decode cX2_put 48 = .ok (.imul, 1) := by decide +kernel
theorem dX2_put_49 : decode cX2_put 49 = .ok (.lushr, 1) := by decide +kernel
theorem dX2_put_50 : decode cX2_put 50 = .ok (.ldc2_w 168, 3) := by decide +kernel
theorem dX2_put_53 : decode cX2_put 53 = .ok (.land, 1) := by decide +kernel
theorem dX2_put_54 : decode cX2_put 54 = .ok (.l2i, 1) := by decide +kernel
theorem dX2_put_55 : decode cX2_put 55 = .ok (.i2c, 1) := by decide +kernel
theorem dX2_put_56 : decode cX2_put 56 = .ok (.invokevirtual 170, 3) := by decide +kernel
theorem dX2_put_59 : decode cX2_put 59 = .ok (.iinc 4 (-1), 3) := by decide +kernel
theorem dX2_put_62 : decode cX2_put 62 = .ok (.goto (-28), 3) := by decide +kernel
theorem dX2_put_65 : decode cX2_put 65 = .ok (.aload_n 0, 1) := by decide +kernel
theorem dX2_put_66 : decode cX2_put 66 = .ok (.getfield 40, 3) := by decide +kernel
theorem dX2_put_69 : decode cX2_put 69 = .ok (.getfield 147, 3) := by decide +kernel
theorem dX2_put_72 : decode cX2_put 72 = .ok (.ireturn, 1) := by decide +kernel
theorem dX2_charactersIn_0 : decode cX2_charactersIn 0 = .ok (.lload_n 0, 1) := by decide +kernel
theorem dX2_charactersIn_1 : decode cX2_charactersIn 1 = .ok (.lstore_n 2, 1) := by decide +kernel
theorem dX2_charactersIn_2 : decode cX2_charactersIn 2 = .ok (.iconst 0, 1) := by decide +kernel
theorem dX2_charactersIn_3 : decode cX2_charactersIn 3 = .ok (.istore 4, 2) := by decide +kernel
theorem dX2_charactersIn_5 : decode cX2_charactersIn 5 = .ok (.iload 4, 2) := by decide +kernel
theorem dX2_charactersIn_7 : decode cX2_charactersIn 7 = .ok (.bipush 8, 2) := by decide +kernel
theorem dX2_charactersIn_9 : decode cX2_charactersIn 9 = .ok (.if_icmp .ge 51, 3) := by decide +kernel
theorem dX2_charactersIn_12 : decode cX2_charactersIn 12 = .ok (.lload_n 2, 1) := by decide +kernel
theorem dX2_charactersIn_13 : decode cX2_charactersIn 13 = .ok (.ldc2_w 168, 3) := by decide +kernel
theorem dX2_charactersIn_16 : decode cX2_charactersIn 16 = .ok (.land, 1) := by decide +kernel
theorem dX2_charactersIn_17 : decode cX2_charactersIn 17 = .ok (.lconst 0, 1) := by decide +kernel
theorem dX2_charactersIn_18 : decode cX2_charactersIn 18 = .ok (.lcmp, 1) := by decide +kernel
theorem dX2_charactersIn_19 : decode cX2_charactersIn 19 = .ok (.ifCond .eq 41, 3) := by decide +kernel
theorem dX2_charactersIn_22 : decode cX2_charactersIn 22 = .ok (.lload_n 2, 1) := by decide +kernel
theorem dX2_charactersIn_23 : decode cX2_charactersIn 23 = .ok (.ldc2_w 168, 3) := by decide +kernel
theorem dX2_charactersIn_26 : decode cX2_charactersIn 26 = .ok (.land, 1) := by decide +kernel
theorem dX2_charactersIn_27 : decode cX2_charactersIn 27 = .ok (.lstore 5, 2) := by decide +kernel
theorem dX2_charactersIn_29 : decode cX2_charactersIn 29 = .ok (.lload 5, 2) := by decide +kernel
theorem dX2_charactersIn_31 : decode cX2_charactersIn 31 = .ok (.ldc2_w 174, 3) := by decide +kernel
theorem dX2_charactersIn_34 : decode cX2_charactersIn 34 = .ok (.lcmp, 1) := by decide +kernel
theorem dX2_charactersIn_35 : decode cX2_charactersIn 35 = .ok (.ifCond .lt 12, 3) := by decide +kernel
theorem dX2_charactersIn_38 : decode cX2_charactersIn 38 = .ok (.lload 5, 2) := by decide +kernel
theorem dX2_charactersIn_40 : decode cX2_charactersIn 40 = .ok (.ldc2_w 176, 3) := by decide +kernel
theorem dX2_charactersIn_43 : decode cX2_charactersIn 43 = .ok (.lcmp, 1) := by decide +kernel
theorem dX2_charactersIn_44 : decode cX2_charactersIn 44 = .ok (.ifCond .le 5, 3) := by decide +kernel
theorem dX2_charactersIn_47 : decode cX2_charactersIn 47 = .ok (.iconst 0, 1) := by decide +kernel
theorem dX2_charactersIn_48 : decode cX2_charactersIn 48 = .ok (.ireturn, 1) := by decide +kernel
theorem dX2_charactersIn_49 : decode cX2_charactersIn 49 = .ok (.lload_n 2, 1) := by decide +kernel
theorem dX2_charactersIn_50 : decode cX2_charactersIn 50 = .ok (.bipush 8, 2) := by decide +kernel
theorem dX2_charactersIn_52 : decode cX2_charactersIn 52 = .ok (.lushr, 1) := by decide +kernel
theorem dX2_charactersIn_53 : decode cX2_charactersIn 53 = .ok (.lstore_n 2, 1) := by decide +kernel
theorem dX2_charactersIn_54 : decode cX2_charactersIn 54 = .ok (.iinc 4 1, 3) := by decide +kernel
theorem dX2_charactersIn_57 : decode cX2_charactersIn 57 = .ok (.goto (-52), 3) := by decide +kernel
theorem dX2_charactersIn_60 : decode cX2_charactersIn 60 = .ok (.lload_n 2, 1) := by decide +kernel
theorem dX2_charactersIn_61 : decode cX2_charactersIn 61 = .ok (.lconst 0, 1) := by decide +kernel
theorem dX2_charactersIn_62 : decode cX2_charactersIn 62 = .ok (.lcmp, 1) := by decide +kernel
theorem dX2_charactersIn_63 : decode cX2_charactersIn 63 = .ok (.ifCond .ne 8, 3) := by decide +kernel
theorem dX2_charactersIn_66 : decode cX2_charactersIn 66 = .ok (.iload 4, 2) := by decide +kernel
theorem dX2_charactersIn_68 : decode cX2_charactersIn 68 = .ok (.goto 4, 3) := by decide +kernel
theorem dX2_charactersIn_71 : decode cX2_charactersIn 71 = .ok (.iconst 0, 1) := by decide +kernel
theorem dX2_charactersIn_72 : decode cX2_charactersIn 72 = .ok (.ireturn, 1) := by decide +kernel
set_option maxRecDepth 20000 in
theorem ggX2_wipe_X0_clear : GoodIn wsX2_wipe wsX0_clear := goodIn_r _ [5, 6, 15, 16, 17, 18, 19, 20, 21, 22] (by decide +kernel) (by decide +kernel)
set_option maxRecDepth 20000 in
theorem gX2_wipe_X0_clear_n178 : GoodIn wsX2_wipe (wsX0_clear) := ggX2_wipe_X0_clear
theorem dX2_wipe_0 : decode cX2_wipe 0 = .ok (.aload_n 0, 1) := by decide +kernel
theorem dX2_wipe_1 : decode cX2_wipe 1 = .ok (.getfield 40, 3) := by decide +kernel
theorem dX2_wipe_4 : decode cX2_wipe 4 = .ok (.getfield 147, 3) := by decide +kernel
theorem dX2_wipe_7 : decode cX2_wipe 7 = .ok (.istore_n 1, 1) := by decide +kernel
theorem dX2_wipe_8 : decode cX2_wipe 8 = .ok (.aload_n 0, 1) := by decide +kernel
theorem dX2_wipe_9 : decode cX2_wipe 9 = .ok (.getfield 40, 3) := by decide +kernel
theorem dX2_wipe_12 : decode cX2_wipe 12 = .ok (.invokevirtual 178, 3) := by decide +kernel
theorem dX2_wipe_15 : decode cX2_wipe 15 = .ok (.iload_n 1, 1) := by decide +kernel
theorem dX2_wipe_16 : decode cX2_wipe 16 = .ok (.ireturn, 1) := by decide +kernel
set_option maxRecDepth 20000 in
theorem ggX2_fault_X0_findFault : GoodIn wsX2_fault wsX0_findFault := goodIn_r _ [5, 6, 7, 8, 9, 10, 3, 11, 12, 13, 14, 15, 16, 17, 18, 19, 20, 21, 22, 23, 24, 25, 26, 27, 28, 29, 30, 31, 32, 33, 34, 35, 36, 37, 38, 39, 40, 41, 42, 43, 44, 53, 54, 55, 56, 57, 58, 59, 60] (by decide +kernel) (by decide +kernel)
set_option maxRecDepth 20000 in
theorem gX2_fault_X0_findFault_n181 : GoodIn wsX2_fault (wsX0_findFault) := ggX2_fault_X0_findFault
theorem dX2_fault_0 : decode cX2_fault 0 = .ok (.aload_n 0, 1) := by decide +kernel
theorem dX2_fault_1 : decode cX2_fault 1 = .ok (.getfield 40, 3) := by decide +kernel
theorem dX2_fault_4 : decode cX2_fault 4 = .ok (.invokevirtual 181, 3) := by decide +kernel
theorem dX2_fault_7 : decode cX2_fault 7 = .ok (.ireturn, 1) := by decide +kernel
set_option maxRecDepth 20000 in
theorem ggX2_carryOut_X0_findFault : GoodIn wsX2_carryOut wsX0_findFault := goodIn_r _ [7, 8, 9, 10, 11, 12, 5, 13, 14, 15, 16, 17, 18, 19, 20, 21, 22, 23, 24, 25, 26, 27, 28, 29, 30, 31, 32, 33, 34, 35, 36, 37, 38, 39, 40, 41, 42, 43, 44, 45, 46, 200, 201, 202, 203, 204, 205, 206, 207] (by decide +kernel) (by decide +kernel)
set_option maxRecDepth 20000 in
theorem gX2_carryOut_X0_findFault_n181 : GoodIn wsX2_carryOut (wsX0_findFault) := ggX2_carryOut_X0_findFault
set_option maxRecDepth 20000 in
theorem ggX2_carryOut_X2_copy : GoodIn wsX2_carryOut wsX2_copy := goodIn_r _ [50, 51, 52, 53, 54, 208, 209, 210, 211, 212, 213, 214, 215, 216, 217, 218, 219, 220, 221, 222, 223, 224, 225] (by decide +kernel) (by decide +kernel)
set_option maxRecDepth 20000 in
theorem gX2_carryOut_X2_copy : GoodIn wsX2_carryOut (va_wsS RX2 44 yX2_copy wsX2_copy) := goodIn_app (goodIn_of _ (by decide +kernel)) ggX2_carryOut_X2_copy
set_option maxRecDepth 20000 in
theorem ggX2_carryOut_X0_rewind : GoodIn wsX2_carryOut wsX0_rewind := goodIn_r _ [13, 9, 8, 200, 201, 202, 203, 204, 205, 206, 207] (by decide +kernel) (by decide +kernel)
set_option maxRecDepth 20000 in
theorem gX2_carryOut_X0_rewind_n184 : GoodIn wsX2_carryOut (wsX0_rewind) := ggX2_carryOut_X0_rewind
set_option maxRecDepth 20000 in
theorem ggX2_carryOut_X0_readOrder : GoodIn wsX2_carryOut wsX0_readOrder := goodIn_r _ [17, 18, 19, 20, 8, 21, 9, 22, 23, 24, 25, 5, 26, 27, 28, 29, 30, 31, 32, 33, 34, 35, 36, 37, 38, 39, 40, 41, 42, 43, 44, 45, 46, 200, 201, 202, 203, 204, 205, 206, 207] (by decide +kernel) (by decide +kernel)
set_option maxRecDepth 20000 in
theorem gX2_carryOut_X0_readOrder_n191 : GoodIn wsX2_carryOut (wsX0_readOrder) := ggX2_carryOut_X0_readOrder
set_option maxRecDepth 20000 in
theorem ggX2_carryOut_X2_answerToOrder : GoodIn wsX2_carryOut wsX2_answerToOrder := goodIn_r _ [58, 1, 2, 59, 60, 61, 62, 63, 64, 65, 66, 67, 68, 69, 49, 70, 71, 72, 73, 74, 75, 76, 77, 78, 79, 80, 81, 82, 83, 84, 85, 86, 87, 88, 89, 90, 91, 92, 93, 94, 95, 96, 97, 98, 99, 100, 101, 102, 103, 104, 105, 106, 107, 108, 109, 110, 111, 112, 113, 114, 115, 116, 117, 118, 119, 120, 121, 122, 123, 124, 125, 126, 127, 128, 129, 130, 131, 132, 133, 134, 135, 136, 137, 138, 139, 140, 141, 142, 143, 144, 145, 146, 147, 148, 149, 150, 151, 152, 153, 154, 155, 156, 157, 158, 159, 160, 161, 162, 163, 164, 165, 166, 167, 168, 169, 170, 171, 172, 173, 174, 175, 176, 177, 178, 192, 193, 194, 195, 196, 197, 198, 199, 200, 201, 202, 203, 204, 205, 206, 207, 208, 209, 210, 211, 212, 213, 214, 215, 216, 217, 218, 219, 220, 221, 222, 223, 224, 225] (by decide +kernel) (by decide +kernel)
set_option maxRecDepth 20000 in
theorem gX2_carryOut_X2_answerToOrder : GoodIn wsX2_carryOut (wsV RX2 194 RX2 yX2_answerToOrder wsX2_answerToOrder) := goodIn_app (goodIn_of _ (by decide +kernel)) ggX2_carryOut_X2_answerToOrder
set_option maxRecDepth 20000 in
theorem ggX2_carryOut_X0_clear : GoodIn wsX2_carryOut wsX0_clear := goodIn_r _ [181, 22, 200, 201, 202, 203, 204, 205, 206, 207] (by decide +kernel) (by decide +kernel)
set_option maxRecDepth 20000 in
theorem gX2_carryOut_X0_clear_n178 : GoodIn wsX2_carryOut (wsX0_clear) := ggX2_carryOut_X0_clear
set_option maxRecDepth 20000 in
theorem ggX2_carryOut_X2_recorded : GoodIn wsX2_carryOut wsX2_recorded := goodIn_r _ [185, 186, 3, 187, 188, 189, 190, 49, 191, 47, 48, 50, 51, 52, 53, 54, 192, 193, 194, 195, 196, 197, 198, 199, 208, 209, 210, 211, 212, 213, 214, 215, 216, 217, 218, 219, 220, 221, 222, 223, 224, 225] (by decide +kernel) (by decide +kernel)
set_option maxRecDepth 20000 in
theorem gX2_carryOut_X2_recorded : GoodIn wsX2_carryOut (wsV RX2 52 RX2 yX2_recorded wsX2_recorded) := goodIn_app (goodIn_of _ (by decide +kernel)) ggX2_carryOut_X2_recorded
theorem dX2_carryOut_0 : decode cX2_carryOut 0 = .ok (.aload_n 0, 1) := by decide +kernel
theorem dX2_carryOut_1 : decode cX2_carryOut 1 = .ok (.getfield 40, 3) := by decide +kernel
theorem dX2_carryOut_4 : decode cX2_carryOut 4 = .ok (.invokevirtual 181, 3) := by decide +kernel
theorem dX2_carryOut_7 : decode cX2_carryOut 7 = .ok (.bipush (-6), 2) := by decide +kernel
theorem dX2_carryOut_9 : decode cX2_carryOut 9 = .ok (.if_icmp .eq 6, 3) := by decide +kernel
theorem dX2_carryOut_12 : decode cX2_carryOut 12 = .ok (.bipush (-3), 2) := by decide +kernel
theorem dX2_carryOut_14 : decode cX2_carryOut 14 = .ok (.ireturn, 1) := by decide +kernel
theorem dX2_carryOut_15 : decode cX2_carryOut 15 = .ok (.aload_n 0, 1) := by decide +kernel
theorem dX2_carryOut_16 : decode cX2_carryOut 16 = .ok (.getfield 10, 3) := by decide +kernel
theorem dX2_carryOut_19 : decode cX2_carryOut 19 = .ok (.aload_n 0, 1) := by decide +kernel
theorem dX2_carryOut_20 : decode cX2_carryOut 20 = .ok (.getfield 16, 3) := by decide +kernel
theorem dX2_carryOut_23 : decode cX2_carryOut 23 = .ok (.invokestatic 44, 3) := by decide +kernel
theorem dX2_carryOut_26 : decode cX2_carryOut 26 = .ok (.aload_n 0, 1) := by decide +kernel
theorem dX2_carryOut_27 : decode cX2_carryOut 27 = .ok (.getfield 40, 3) := by decide +kernel
theorem dX2_carryOut_30 : decode cX2_carryOut 30 = .ok (.invokevirtual 184, 3) := by decide +kernel
theorem dX2_carryOut_33 : decode cX2_carryOut 33 = .ok (.iconst 0, 1) := by decide +kernel
theorem dX2_carryOut_34 : decode cX2_carryOut 34 = .ok (.istore_n 1, 1) := by decide +kernel
theorem dX2_carryOut_35 : decode cX2_carryOut 35 = .ok (.iload_n 1, 1) := by decide +kernel
theorem dX2_carryOut_36 : decode cX2_carryOut 36 = .ok (.bipush 80, 2) := by decide +kernel
theorem dX2_carryOut_38 : decode cX2_carryOut 38 = .ok (.if_icmp .ge 36, 3) := by decide +kernel
theorem dX2_carryOut_41 : decode cX2_carryOut 41 = .ok (.aload_n 0, 1) := by decide +kernel
theorem dX2_carryOut_42 : decode cX2_carryOut 42 = .ok (.getfield 40, 3) := by decide +kernel
theorem dX2_carryOut_45 : decode cX2_carryOut 45 = .ok (.getfield 187, 3) := by decide +kernel
theorem dX2_carryOut_48 : decode cX2_carryOut 48 = .ok (.ifCond .eq 26, 3) := by decide +kernel
theorem dX2_carryOut_51 : decode cX2_carryOut 51 = .ok (.aload_n 0, 1) := by decide +kernel
theorem dX2_carryOut_52 : decode cX2_carryOut 52 = .ok (.getfield 40, 3) := by decide +kernel
theorem dX2_carryOut_55 : decode cX2_carryOut 55 = .ok (.invokevirtual 191, 3) := by decide +kernel
theorem dX2_carryOut_58 : decode cX2_carryOut 58 = .ok (.ifCond .eq 16, 3) := by decide +kernel
theorem dX2_carryOut_61 : decode cX2_carryOut 61 = .ok (.aload_n 0, 1) := by decide +kernel
theorem dX2_carryOut_62 : decode cX2_carryOut 62 = .ok (.invokevirtual 194, 3) := by decide +kernel
theorem dX2_carryOut_65 : decode cX2_carryOut 65 = .ok (.ifCond .lt 9, 3) := by decide +kernel
theorem dX2_carryOut_68 : decode cX2_carryOut 68 = .ok (.iinc 1 1, 3) := by decide +kernel
theorem dX2_carryOut_71 : decode cX2_carryOut 71 = .ok (.goto (-36), 3) := by decide +kernel
theorem dX2_carryOut_74 : decode cX2_carryOut 74 = .ok (.aload_n 0, 1) := by decide +kernel
theorem dX2_carryOut_75 : decode cX2_carryOut 75 = .ok (.getfield 40, 3) := by decide +kernel
theorem dX2_carryOut_78 : decode cX2_carryOut 78 = .ok (.invokevirtual 178, 3) := by decide +kernel
theorem dX2_carryOut_81 : decode cX2_carryOut 81 = .ok (.aload_n 0, 1) := by decide +kernel
theorem dX2_carryOut_82 : decode cX2_carryOut 82 = .ok (.iload_n 1, 1) := by decide +kernel
theorem dX2_carryOut_83 : decode cX2_carryOut 83 = .ok (.invokevirtual 52, 3) := by decide +kernel
theorem dX2_carryOut_86 : decode cX2_carryOut 86 = .ok (.ireturn, 1) := by decide +kernel
set_option maxRecDepth 20000 in
theorem ggX2_answerToOrder_X1_addPiano : GoodIn wsX2_answerToOrder wsX1_addPiano := goodIn_r _ [6, 7, 8, 9, 10, 11, 12, 13, 14, 15, 16, 17, 18, 19, 20, 21, 22, 23, 24, 140, 141, 142, 143, 144, 145, 146, 147, 148, 149, 150, 151, 152, 153, 154, 155, 156, 157] (by decide +kernel) (by decide +kernel)
set_option maxRecDepth 20000 in
theorem gX2_answerToOrder_X1_addPiano_n59 : GoodIn wsX2_answerToOrder (wsX1_addPiano) := ggX2_answerToOrder_X1_addPiano
set_option maxRecDepth 20000 in
theorem ggX2_answerToOrder_X1_hireKeeper : GoodIn wsX2_answerToOrder wsX1_hireKeeper := goodIn_r _ [27, 28, 13, 14, 15, 29, 30, 31, 4, 32, 33, 34, 35, 36, 37, 140, 141, 142, 143, 144, 145, 146, 147, 148, 149, 150, 151, 152, 153, 154, 155, 156, 157] (by decide +kernel) (by decide +kernel)
set_option maxRecDepth 20000 in
theorem gX2_answerToOrder_X1_hireKeeper_n65 : GoodIn wsX2_answerToOrder (wsX1_hireKeeper) := ggX2_answerToOrder_X1_hireKeeper
set_option maxRecDepth 20000 in
theorem ggX2_answerToOrder_X1_layCover : GoodIn wsX2_answerToOrder wsX1_layCover := goodIn_r _ [40, 7, 8, 41, 16, 14, 17, 18, 19, 20, 21, 22, 23, 24, 140, 141, 142, 143, 144, 145, 146, 147, 148, 149, 150, 151, 152, 153, 154, 155, 156, 157] (by decide +kernel) (by decide +kernel)
set_option maxRecDepth 20000 in
theorem gX2_answerToOrder_X1_layCover_n68 : GoodIn wsX2_answerToOrder (wsX1_layCover) := ggX2_answerToOrder_X1_layCover
set_option maxRecDepth 20000 in
theorem ggX2_answerToOrder_X1_changeRain : GoodIn wsX2_answerToOrder wsX1_changeRain := goodIn_r _ [44, 45, 46, 140, 141, 142, 143, 144, 145, 146, 147, 148, 149, 150, 151, 152, 153, 154, 155, 156, 157] (by decide +kernel) (by decide +kernel)
set_option maxRecDepth 20000 in
theorem gX2_answerToOrder_X1_changeRain_n56 : GoodIn wsX2_answerToOrder (wsX1_changeRain) := ggX2_answerToOrder_X1_changeRain
set_option maxRecDepth 20000 in
theorem ggX2_answerToOrder_X1_passCounted : GoodIn wsX2_answerToOrder wsX1_passCounted := goodIn_r _ [49, 50, 51, 52, 53, 4, 54, 55, 56, 57, 58, 59, 28, 8, 41, 33, 60, 61, 62, 63, 64, 65, 66, 67, 68, 46, 69, 70, 71, 16, 14, 17, 72, 73, 74, 75, 9, 76, 77, 78, 79, 7, 80, 81, 82, 83, 37, 84, 85, 86, 87, 88, 89, 90, 91, 36, 92, 93, 94, 95, 34, 96, 97, 98, 99, 35, 100, 101, 102, 103, 10, 104, 105, 106, 12, 107, 108, 109, 110, 111, 112, 113, 114, 11, 115, 116, 117, 118, 119, 120, 121, 122, 123, 140, 141, 142, 143, 144, 145, 146, 147, 148, 149, 150, 151, 152, 153, 154, 155, 156, 157] (by decide +kernel) (by decide +kernel)
set_option maxRecDepth 20000 in
theorem gX2_answerToOrder_X1_passCounted_n71 : GoodIn wsX2_answerToOrder (wsX1_passCounted) := ggX2_answerToOrder_X1_passCounted
theorem dX2_answerToOrder_0 : decode cX2_answerToOrder 0 = .ok (.aload_n 0, 1) := by decide +kernel
theorem dX2_answerToOrder_1 : decode cX2_answerToOrder 1 = .ok (.getfield 40, 3) := by decide +kernel
theorem dX2_answerToOrder_4 : decode cX2_answerToOrder 4 = .ok (.getfield 197, 3) := by decide +kernel
theorem dX2_answerToOrder_7 : decode cX2_answerToOrder 7 = .ok (.lookupswitch 131 #[(99, 86), (107, 71), (112, 49), (114, 101), (116, 116)], 49) := by decide +kernel
theorem dX2_answerToOrder_56 : decode cX2_answerToOrder 56 = .ok (.aload_n 0, 1) := by decide +kernel
theorem dX2_answerToOrder_57 : decode cX2_answerToOrder 57 = .ok (.getfield 10, 3) := by decide +kernel
theorem dX2_answerToOrder_60 : decode cX2_answerToOrder 60 = .ok (.aload_n 0, 1) := by decide +kernel
theorem dX2_answerToOrder_61 : decode cX2_answerToOrder 61 = .ok (.getfield 40, 3) := by decide +kernel
theorem dX2_answerToOrder_64 : decode cX2_answerToOrder 64 = .ok (.getfield 201, 3) := by decide +kernel
theorem dX2_answerToOrder_67 : decode cX2_answerToOrder 67 = .ok (.aload_n 0, 1) := by decide +kernel
theorem dX2_answerToOrder_68 : decode cX2_answerToOrder 68 = .ok (.getfield 40, 3) := by decide +kernel
theorem dX2_answerToOrder_71 : decode cX2_answerToOrder 71 = .ok (.getfield 204, 3) := by decide +kernel
theorem dX2_answerToOrder_74 : decode cX2_answerToOrder 74 = .ok (.invokevirtual 59, 3) := by decide +kernel
theorem dX2_answerToOrder_77 : decode cX2_answerToOrder 77 = .ok (.ireturn, 1) := by decide +kernel
theorem dX2_answerToOrder_78 : decode cX2_answerToOrder 78 = .ok (.aload_n 0, 1) := by decide +kernel
theorem dX2_answerToOrder_79 : decode cX2_answerToOrder 79 = .ok (.getfield 10, 3) := by decide +kernel
theorem dX2_answerToOrder_82 : decode cX2_answerToOrder 82 = .ok (.aload_n 0, 1) := by decide +kernel
theorem dX2_answerToOrder_83 : decode cX2_answerToOrder 83 = .ok (.getfield 40, 3) := by decide +kernel
theorem dX2_answerToOrder_86 : decode cX2_answerToOrder 86 = .ok (.getfield 201, 3) := by decide +kernel
theorem dX2_answerToOrder_89 : decode cX2_answerToOrder 89 = .ok (.invokevirtual 65, 3) := by decide +kernel
theorem dX2_answerToOrder_92 : decode cX2_answerToOrder 92 = .ok (.ireturn, 1) := by decide +kernel
theorem dX2_answerToOrder_93 : decode cX2_answerToOrder 93 = .ok (.aload_n 0, 1) := by decide +kernel
theorem dX2_answerToOrder_94 : decode cX2_answerToOrder 94 = .ok (.getfield 10, 3) := by decide +kernel
theorem dX2_answerToOrder_97 : decode cX2_answerToOrder 97 = .ok (.aload_n 0, 1) := by decide +kernel
theorem dX2_answerToOrder_98 : decode cX2_answerToOrder 98 = .ok (.getfield 40, 3) := by decide +kernel
theorem dX2_answerToOrder_101 : decode cX2_answerToOrder 101 = .ok (.getfield 201, 3) := by decide +kernel
theorem dX2_answerToOrder_104 : decode cX2_answerToOrder 104 = .ok (.invokevirtual 68, 3) := by decide +kernel
theorem dX2_answerToOrder_107 : decode cX2_answerToOrder 107 = .ok (.ireturn, 1) := by decide +kernel
theorem dX2_answerToOrder_108 : decode cX2_answerToOrder 108 = .ok (.aload_n 0, 1) := by decide +kernel
theorem dX2_answerToOrder_109 : decode cX2_answerToOrder 109 = .ok (.getfield 10, 3) := by decide +kernel
theorem dX2_answerToOrder_112 : decode cX2_answerToOrder 112 = .ok (.aload_n 0, 1) := by decide +kernel
theorem dX2_answerToOrder_113 : decode cX2_answerToOrder 113 = .ok (.getfield 40, 3) := by decide +kernel
theorem dX2_answerToOrder_116 : decode cX2_answerToOrder 116 = .ok (.getfield 207, 3) := by decide +kernel
theorem dX2_answerToOrder_119 : decode cX2_answerToOrder 119 = .ok (.invokevirtual 56, 3) := by decide +kernel
theorem dX2_answerToOrder_122 : decode cX2_answerToOrder 122 = .ok (.ireturn, 1) := by decide +kernel
theorem dX2_answerToOrder_123 : decode cX2_answerToOrder 123 = .ok (.aload_n 0, 1) := by decide +kernel
theorem dX2_answerToOrder_124 : decode cX2_answerToOrder 124 = .ok (.getfield 10, 3) := by decide +kernel
theorem dX2_answerToOrder_127 : decode cX2_answerToOrder 127 = .ok (.aload_n 0, 1) := by decide +kernel
theorem dX2_answerToOrder_128 : decode cX2_answerToOrder 128 = .ok (.getfield 40, 3) := by decide +kernel
theorem dX2_answerToOrder_131 : decode cX2_answerToOrder 131 = .ok (.getfield 201, 3) := by decide +kernel
theorem dX2_answerToOrder_134 : decode cX2_answerToOrder 134 = .ok (.invokevirtual 71, 3) := by decide +kernel
theorem dX2_answerToOrder_137 : decode cX2_answerToOrder 137 = .ok (.ireturn, 1) := by decide +kernel
theorem dX2_answerToOrder_138 : decode cX2_answerToOrder 138 = .ok (.bipush (-3), 2) := by decide +kernel
theorem dX2_answerToOrder_140 : decode cX2_answerToOrder 140 = .ok (.ireturn, 1) := by decide +kernel
set_option maxRecDepth 20000 in
theorem ggX2_undo_X2_copy : GoodIn wsX2_undo wsX2_copy := goodIn_r _ [7, 8, 9, 10, 11, 20, 21, 22, 23, 24, 25, 26, 27, 28, 29, 30, 31, 32, 33, 34, 35, 36, 37] (by decide +kernel) (by decide +kernel)
set_option maxRecDepth 20000 in
theorem gX2_undo_X2_copy : GoodIn wsX2_undo (va_wsS RX2 44 yX2_copy wsX2_copy) := goodIn_app (goodIn_of _ (by decide +kernel)) ggX2_undo_X2_copy
theorem dX2_undo_0 : decode cX2_undo 0 = .ok (.aload_n 0, 1) := by decide +kernel
theorem dX2_undo_1 : decode cX2_undo 1 = .ok (.getfield 26, 3) := by decide +kernel
theorem dX2_undo_4 : decode cX2_undo 4 = .ok (.iconst 1, 1) := by decide +kernel
theorem dX2_undo_5 : decode cX2_undo 5 = .ok (.if_icmp .lt 12, 3) := by decide +kernel
theorem dX2_undo_8 : decode cX2_undo 8 = .ok (.aload_n 0, 1) := by decide +kernel
theorem dX2_undo_9 : decode cX2_undo 9 = .ok (.getfield 26, 3) := by decide +kernel
theorem dX2_undo_12 : decode cX2_undo 12 = .ok (.bipush 6, 2) := by decide +kernel
theorem dX2_undo_14 : decode cX2_undo 14 = .ok (.if_icmp .le 6, 3) := by decide +kernel
theorem dX2_undo_17 : decode cX2_undo 17 = .ok (.bipush (-5), 2) := by decide +kernel
theorem dX2_undo_19 : decode cX2_undo 19 = .ok (.ireturn, 1) := by decide +kernel
theorem dX2_undo_20 : decode cX2_undo 20 = .ok (.aload_n 0, 1) := by decide +kernel
theorem dX2_undo_21 : decode cX2_undo 21 = .ok (.dup, 1) := by decide +kernel
theorem dX2_undo_22 : decode cX2_undo 22 = .ok (.getfield 26, 3) := by decide +kernel
theorem dX2_undo_25 : decode cX2_undo 25 = .ok (.iconst 1, 1) := by decide +kernel
theorem dX2_undo_26 : decode cX2_undo 26 = .ok (.isub, 1) := by decide +kernel
theorem dX2_undo_27 : decode cX2_undo 27 = .ok (.putfield 26, 3) := by decide +kernel
theorem dX2_undo_30 : decode cX2_undo 30 = .ok (.aload_n 0, 1) := by decide +kernel
theorem dX2_undo_31 : decode cX2_undo 31 = .ok (.getfield 22, 3) := by decide +kernel
theorem dX2_undo_34 : decode cX2_undo 34 = .ok (.aload_n 0, 1) := by decide +kernel
theorem dX2_undo_35 : decode cX2_undo 35 = .ok (.getfield 26, 3) := by decide +kernel
theorem dX2_undo_38 : decode cX2_undo 38 = .ok (.aaload, 1) := by decide +kernel
theorem dX2_undo_39 : decode cX2_undo 39 = .ok (.aload_n 0, 1) := by decide +kernel
theorem dX2_undo_40 : decode cX2_undo 40 = .ok (.getfield 10, 3) := by decide +kernel
theorem dX2_undo_43 : decode cX2_undo 43 = .ok (.invokestatic 44, 3) := by decide +kernel
theorem dX2_undo_46 : decode cX2_undo 46 = .ok (.aload_n 0, 1) := by decide +kernel
theorem dX2_undo_47 : decode cX2_undo 47 = .ok (.getfield 26, 3) := by decide +kernel
theorem dX2_undo_50 : decode cX2_undo 50 = .ok (.ireturn, 1) := by decide +kernel
set_option maxRecDepth 20000 in
theorem ggX2_save_X2_copy : GoodIn wsX2_save wsX2_copy := goodIn_r _ [7, 8, 9, 10, 11, 27, 28, 29, 30, 31, 32, 33, 34, 35, 36, 37, 38, 39, 40, 41, 42, 43, 44] (by decide +kernel) (by decide +kernel)
set_option maxRecDepth 20000 in
theorem gX2_save_X2_copy : GoodIn wsX2_save (va_wsS RX2 44 yX2_copy wsX2_copy) := goodIn_app (goodIn_of _ (by decide +kernel)) ggX2_save_X2_copy
set_option maxRecDepth 20000 in
theorem ggX2_save_J6_bitCount_0f7a4 : GoodIn wsX2_save wsJ6_bitCount_0f7a4 := goodIn_r _ [15, 16, 17, 18] (by decide +kernel) (by decide +kernel)
set_option maxRecDepth 20000 in
theorem gX2_save_J6_bitCount_0f7a4 : GoodIn wsX2_save (va_wsS RX2 208 yJ6_bitCount_0f7a4 wsJ6_bitCount_0f7a4) := goodIn_app (goodIn_of _ (by decide +kernel)) ggX2_save_J6_bitCount_0f7a4
theorem dX2_save_0 : decode cX2_save 0 = .ok (.iload_n 1, 1) := by decide +kernel
theorem dX2_save_1 : decode cX2_save 1 = .ok (.ifCond .lt 8, 3) := by decide +kernel
theorem dX2_save_4 : decode cX2_save 4 = .ok (.iload_n 1, 1) := by decide +kernel
theorem dX2_save_5 : decode cX2_save 5 = .ok (.iconst 2, 1) := by decide +kernel
theorem dX2_save_6 : decode cX2_save 6 = .ok (.if_icmp .lt 6, 3) := by decide +kernel
theorem dX2_save_9 : decode cX2_save 9 = .ok (.bipush (-2), 2) := by decide +kernel
theorem dX2_save_11 : decode cX2_save 11 = .ok (.ireturn, 1) := by decide +kernel
theorem dX2_save_12 : decode cX2_save 12 = .ok (.aload_n 0, 1) := by decide +kernel
theorem dX2_save_13 : decode cX2_save 13 = .ok (.getfield 10, 3) := by decide +kernel
theorem dX2_save_16 : decode cX2_save 16 = .ok (.aload_n 0, 1) := by decide +kernel
theorem dX2_save_17 : decode cX2_save 17 = .ok (.getfield 30, 3) := by decide +kernel
theorem dX2_save_20 : decode cX2_save 20 = .ok (.iload_n 1, 1) := by decide +kernel
theorem dX2_save_21 : decode cX2_save 21 = .ok (.aaload, 1) := by decide +kernel
theorem dX2_save_22 : decode cX2_save 22 = .ok (.invokestatic 44, 3) := by decide +kernel
theorem dX2_save_25 : decode cX2_save 25 = .ok (.aload_n 0, 1) := by decide +kernel
theorem dX2_save_26 : decode cX2_save 26 = .ok (.getfield 33, 3) := by decide +kernel
theorem dX2_save_29 : decode cX2_save 29 = .ok (.iload_n 1, 1) := by decide +kernel
theorem dX2_save_30 : decode cX2_save 30 = .ok (.iconst 1, 1) := by decide +kernel
theorem dX2_save_31 : decode cX2_save 31 = .ok (.bastore, 1) := by decide +kernel
theorem dX2_save_32 : decode cX2_save 32 = .ok (.aload_n 0, 1) := by decide +kernel
theorem dX2_save_33 : decode cX2_save 33 = .ok (.getfield 10, 3) := by decide +kernel
theorem dX2_save_36 : decode cX2_save 36 = .ok (.getfield 74, 3) := by decide +kernel
theorem dX2_save_39 : decode cX2_save 39 = .ok (.invokestatic 208, 3) := by decide +kernel
theorem dX2_save_42 : decode cX2_save 42 = .ok (.ireturn, 1) := by decide +kernel
set_option maxRecDepth 20000 in
theorem ggX2_restore_X2_copy : GoodIn wsX2_restore wsX2_copy := goodIn_r _ [8, 9, 10, 11, 12, 38, 39, 40, 41, 42, 43, 44, 45, 46, 47, 48, 49, 50, 51, 52, 53, 54, 55] (by decide +kernel) (by decide +kernel)
set_option maxRecDepth 20000 in
theorem gX2_restore_X2_copy : GoodIn wsX2_restore (va_wsS RX2 44 yX2_copy wsX2_copy) := goodIn_app (goodIn_of _ (by decide +kernel)) ggX2_restore_X2_copy
set_option maxRecDepth 20000 in
theorem ggX2_restore_J6_bitCount_0f7a4 : GoodIn wsX2_restore wsJ6_bitCount_0f7a4 := goodIn_r _ [16, 17, 18, 19] (by decide +kernel) (by decide +kernel)
set_option maxRecDepth 20000 in
theorem gX2_restore_J6_bitCount_0f7a4 : GoodIn wsX2_restore (va_wsS RX2 208 yJ6_bitCount_0f7a4 wsJ6_bitCount_0f7a4) := goodIn_app (goodIn_of _ (by decide +kernel)) ggX2_restore_J6_bitCount_0f7a4
set_option maxRecDepth 20000 in
theorem ggX2_restore_X2_recorded : GoodIn wsX2_restore wsX2_recorded := goodIn_r _ [23, 24, 3, 25, 26, 27, 28, 7, 29, 5, 6, 8, 9, 10, 11, 12, 30, 31, 32, 33, 34, 35, 36, 37, 38, 39, 40, 41, 42, 43, 44, 45, 46, 47, 48, 49, 50, 51, 52, 53, 54, 55] (by decide +kernel) (by decide +kernel)
set_option maxRecDepth 20000 in
theorem gX2_restore_X2_recorded : GoodIn wsX2_restore (wsV RX2 52 RX2 yX2_recorded wsX2_recorded) := goodIn_app (goodIn_of _ (by decide +kernel)) ggX2_restore_X2_recorded
theorem dX2_restore_0 : decode cX2_restore 0 = .ok (.iload_n 1, 1) := by decide +kernel
theorem dX2_restore_1 : decode cX2_restore 1 = .ok (.ifCond .lt 8, 3) := by decide +kernel
theorem dX2_restore_4 : decode cX2_restore 4 = .ok (.iload_n 1, 1) := by decide +kernel
theorem dX2_restore_5 : decode cX2_restore 5 = .ok (.iconst 2, 1) := by decide +kernel
theorem dX2_restore_6 : decode cX2_restore 6 = .ok (.if_icmp .lt 6, 3) := by decide +kernel
theorem dX2_restore_9 : decode cX2_restore 9 = .ok (.bipush (-2), 2) := by decide +kernel
theorem dX2_restore_11 : decode cX2_restore 11 = .ok (.ireturn, 1) := by decide +kernel
theorem dX2_restore_12 : decode cX2_restore 12 = .ok (.aload_n 0, 1) := by decide +kernel
theorem dX2_restore_13 : decode cX2_restore 13 = .ok (.getfield 33, 3) := by decide +kernel
theorem dX2_restore_16 : decode cX2_restore 16 = .ok (.iload_n 1, 1) := by decide +kernel
theorem dX2_restore_17 : decode cX2_restore 17 = .ok (.baload, 1) := by decide +kernel
theorem dX2_restore_18 : decode cX2_restore 18 = .ok (.ifCond .ne 6, 3) := by decide +kernel
theorem dX2_restore_21 : decode cX2_restore 21 = .ok (.bipush (-5), 2) := by decide +kernel
theorem dX2_restore_23 : decode cX2_restore 23 = .ok (.ireturn, 1) := by decide +kernel
theorem dX2_restore_24 : decode cX2_restore 24 = .ok (.aload_n 0, 1) := by decide +kernel
theorem dX2_restore_25 : decode cX2_restore 25 = .ok (.getfield 10, 3) := by decide +kernel
theorem dX2_restore_28 : decode cX2_restore 28 = .ok (.aload_n 0, 1) := by decide +kernel
theorem dX2_restore_29 : decode cX2_restore 29 = .ok (.getfield 16, 3) := by decide +kernel
theorem dX2_restore_32 : decode cX2_restore 32 = .ok (.invokestatic 44, 3) := by decide +kernel
theorem dX2_restore_35 : decode cX2_restore 35 = .ok (.aload_n 0, 1) := by decide +kernel
theorem dX2_restore_36 : decode cX2_restore 36 = .ok (.getfield 30, 3) := by decide +kernel
theorem dX2_restore_39 : decode cX2_restore 39 = .ok (.iload_n 1, 1) := by decide +kernel
theorem dX2_restore_40 : decode cX2_restore 40 = .ok (.aaload, 1) := by decide +kernel
theorem dX2_restore_41 : decode cX2_restore 41 = .ok (.aload_n 0, 1) := by decide +kernel
theorem dX2_restore_42 : decode cX2_restore 42 = .ok (.getfield 10, 3) := by decide +kernel
theorem dX2_restore_45 : decode cX2_restore 45 = .ok (.invokestatic 44, 3) := by decide +kernel
theorem dX2_restore_48 : decode cX2_restore 48 = .ok (.aload_n 0, 1) := by decide +kernel
theorem dX2_restore_49 : decode cX2_restore 49 = .ok (.aload_n 0, 1) := by decide +kernel
theorem dX2_restore_50 : decode cX2_restore 50 = .ok (.getfield 10, 3) := by decide +kernel
theorem dX2_restore_53 : decode cX2_restore 53 = .ok (.getfield 74, 3) := by decide +kernel
theorem dX2_restore_56 : decode cX2_restore 56 = .ok (.invokestatic 208, 3) := by decide +kernel
theorem dX2_restore_59 : decode cX2_restore 59 = .ok (.invokevirtual 52, 3) := by decide +kernel
theorem dX2_restore_62 : decode cX2_restore 62 = .ok (.ireturn, 1) := by decide +kernel
set_option maxRecDepth 20000 in
theorem ggX2_recorded_X2_dropOldest : GoodIn wsX2_recorded wsX2_dropOldest := goodIn_r _ [8, 3, 1, 16, 17, 18, 19, 20, 21, 22, 23] (by decide +kernel) (by decide +kernel)
set_option maxRecDepth 20000 in
theorem gX2_recorded_X2_dropOldest : GoodIn wsX2_recorded (wsV RX2 213 RX2 yX2_dropOldest wsX2_dropOldest) := goodIn_app (goodIn_of _ (by decide +kernel)) ggX2_recorded_X2_dropOldest
set_option maxRecDepth 20000 in
theorem ggX2_recorded_X2_copy : GoodIn wsX2_recorded wsX2_copy := goodIn_r _ [11, 12, 13, 14, 15, 24, 25, 26, 27, 28, 29, 30, 31, 32, 33, 34, 35, 36, 37, 38, 39, 40, 41] (by decide +kernel) (by decide +kernel)
set_option maxRecDepth 20000 in
theorem gX2_recorded_X2_copy : GoodIn wsX2_recorded (va_wsS RX2 44 yX2_copy wsX2_copy) := goodIn_app (goodIn_of _ (by decide +kernel)) ggX2_recorded_X2_copy
theorem dX2_recorded_0 : decode cX2_recorded 0 = .ok (.iload_n 1, 1) := by decide +kernel
theorem dX2_recorded_1 : decode cX2_recorded 1 = .ok (.ifCond .ge 5, 3) := by decide +kernel
theorem dX2_recorded_4 : decode cX2_recorded 4 = .ok (.iload_n 1, 1) := by decide +kernel
theorem dX2_recorded_5 : decode cX2_recorded 5 = .ok (.ireturn, 1) := by decide +kernel
theorem dX2_recorded_6 : decode cX2_recorded 6 = .ok (.aload_n 0, 1) := by decide +kernel
theorem dX2_recorded_7 : decode cX2_recorded 7 = .ok (.getfield 26, 3) := by decide +kernel
theorem dX2_recorded_10 : decode cX2_recorded 10 = .ok (.bipush 6, 2) := by decide +kernel
theorem dX2_recorded_12 : decode cX2_recorded 12 = .ok (.if_icmp .lt 7, 3) := by decide +kernel
theorem dX2_recorded_15 : decode cX2_recorded 15 = .ok (.aload_n 0, 1) := by decide +kernel
theorem dX2_recorded_16 : decode cX2_recorded 16 = .ok (.invokevirtual 213, 3) := by decide +kernel
theorem dX2_recorded_19 : decode cX2_recorded 19 = .ok (.aload_n 0, 1) := by decide +kernel
theorem dX2_recorded_20 : decode cX2_recorded 20 = .ok (.getfield 26, 3) := by decide +kernel
theorem dX2_recorded_23 : decode cX2_recorded 23 = .ok (.ifCond .lt 38, 3) := by decide +kernel
theorem dX2_recorded_26 : decode cX2_recorded 26 = .ok (.aload_n 0, 1) := by decide +kernel
theorem dX2_recorded_27 : decode cX2_recorded 27 = .ok (.getfield 26, 3) := by decide +kernel
theorem dX2_recorded_30 : decode cX2_recorded 30 = .ok (.bipush 6, 2) := by decide +kernel
theorem dX2_recorded_32 : decode cX2_recorded 32 = .ok (.if_icmp .ge 29, 3) := by decide +kernel
theorem dX2_recorded_35 : decode cX2_recorded 35 = .ok (.aload_n 0, 1) := by decide +kernel
theorem dX2_recorded_36 : decode cX2_recorded 36 = .ok (.getfield 16, 3) := by decide +kernel
theorem dX2_recorded_39 : decode cX2_recorded 39 = .ok (.aload_n 0, 1) := by decide +kernel
theorem dX2_recorded_40 : decode cX2_recorded 40 = .ok (.getfield 22, 3) := by decide +kernel
theorem dX2_recorded_43 : decode cX2_recorded 43 = .ok (.aload_n 0, 1) := by decide +kernel
theorem dX2_recorded_44 : decode cX2_recorded 44 = .ok (.getfield 26, 3) := by decide +kernel
theorem dX2_recorded_47 : decode cX2_recorded 47 = .ok (.aaload, 1) := by decide +kernel
theorem dX2_recorded_48 : decode cX2_recorded 48 = .ok (.invokestatic 44, 3) := by decide +kernel
theorem dX2_recorded_51 : decode cX2_recorded 51 = .ok (.aload_n 0, 1) := by decide +kernel
theorem dX2_recorded_52 : decode cX2_recorded 52 = .ok (.dup, 1) := by decide +kernel
theorem dX2_recorded_53 : decode cX2_recorded 53 = .ok (.getfield 26, 3) := by decide +kernel
theorem dX2_recorded_56 : decode cX2_recorded 56 = .ok (.iconst 1, 1) := by decide +kernel
theorem dX2_recorded_57 : decode cX2_recorded 57 = .ok (.iadd, 1) := by decide +kernel
theorem dX2_recorded_58 : decode cX2_recorded 58 = .ok (.putfield 26, 3) := by decide +kernel
theorem dX2_recorded_61 : decode cX2_recorded 61 = .ok (.iload_n 1, 1) := by decide +kernel
theorem dX2_recorded_62 : decode cX2_recorded 62 = .ok (.ireturn, 1) := by decide +kernel
theorem dX2_dropOldest_0 : decode cX2_dropOldest 0 = .ok (.aload_n 0, 1) := by decide +kernel
theorem dX2_dropOldest_1 : decode cX2_dropOldest 1 = .ok (.getfield 22, 3) := by decide +kernel
theorem dX2_dropOldest_4 : decode cX2_dropOldest 4 = .ok (.iconst 0, 1) := by decide +kernel
theorem dX2_dropOldest_5 : decode cX2_dropOldest 5 = .ok (.aaload, 1) := by decide +kernel
theorem dX2_dropOldest_6 : decode cX2_dropOldest 6 = .ok (.astore_n 1, 1) := by decide +kernel
theorem dX2_dropOldest_7 : decode cX2_dropOldest 7 = .ok (.iconst 1, 1) := by decide +kernel
theorem dX2_dropOldest_8 : decode cX2_dropOldest 8 = .ok (.istore_n 2, 1) := by decide +kernel
theorem dX2_dropOldest_9 : decode cX2_dropOldest 9 = .ok (.iload_n 2, 1) := by decide +kernel
theorem dX2_dropOldest_10 : decode cX2_dropOldest 10 = .ok (.bipush 6, 2) := by decide +kernel
theorem dX2_dropOldest_12 : decode cX2_dropOldest 12 = .ok (.if_icmp .ge 23, 3) := by decide +kernel
theorem dX2_dropOldest_15 : decode cX2_dropOldest 15 = .ok (.aload_n 0, 1) := by decide +kernel
theorem dX2_dropOldest_16 : decode cX2_dropOldest 16 = .ok (.getfield 22, 3) := by decide +kernel
theorem dX2_dropOldest_19 : decode cX2_dropOldest 19 = .ok (.iload_n 2, 1) := by decide +kernel
theorem dX2_dropOldest_20 : decode cX2_dropOldest 20 = .ok (.iconst 1, 1) := by decide +kernel
theorem dX2_dropOldest_21 : decode cX2_dropOldest 21 = .ok (.isub, 1) := by decide +kernel
theorem dX2_dropOldest_22 : decode cX2_dropOldest 22 = .ok (.aload_n 0, 1) := by decide +kernel
theorem dX2_dropOldest_23 : decode cX2_dropOldest 23 = .ok (.getfield 22, 3) := by decide +kernel
theorem dX2_dropOldest_26 : decode cX2_dropOldest 26 = .ok (.iload_n 2, 1) := by decide +kernel
theorem dX2_dropOldest_27 : decode cX2_dropOldest 27 = .ok (.aaload, 1) := by decide +kernel
theorem dX2_dropOldest_28 : decode cX2_dropOldest 28 = .ok (.aastore, 1) := by decide +kernel
theorem dX2_dropOldest_29 : decode cX2_dropOldest 29 = .ok (.iinc 2 1, 3) := by decide +kernel
theorem dX2_dropOldest_32 : decode cX2_dropOldest 32 = .ok (.goto (-23), 3) := by decide +kernel
theorem dX2_dropOldest_35 : decode cX2_dropOldest 35 = .ok (.aload_n 0, 1) := by decide +kernel
theorem dX2_dropOldest_36 : decode cX2_dropOldest 36 = .ok (.getfield 22, 3) := by decide +kernel
theorem dX2_dropOldest_39 : decode cX2_dropOldest 39 = .ok (.iconst 5, 1) := by decide +kernel
theorem dX2_dropOldest_40 : decode cX2_dropOldest 40 = .ok (.aload_n 1, 1) := by decide +kernel
theorem dX2_dropOldest_41 : decode cX2_dropOldest 41 = .ok (.aastore, 1) := by decide +kernel
theorem dX2_dropOldest_42 : decode cX2_dropOldest 42 = .ok (.aload_n 0, 1) := by decide +kernel
theorem dX2_dropOldest_43 : decode cX2_dropOldest 43 = .ok (.iconst 5, 1) := by decide +kernel
theorem dX2_dropOldest_44 : decode cX2_dropOldest 44 = .ok (.putfield 26, 3) := by decide +kernel
theorem dX2_dropOldest_47 : decode cX2_dropOldest 47 = .ok (.return_, 1) := by decide +kernel
theorem dX2_isPlace_0 : decode cX2_isPlace 0 = .ok (.iload_n 0, 1) := by decide +kernel
theorem dX2_isPlace_1 : decode cX2_isPlace 1 = .ok (.ifCond .lt 13, 3) := by decide +kernel
theorem dX2_isPlace_4 : decode cX2_isPlace 4 = .ok (.iload_n 0, 1) := by decide +kernel
theorem dX2_isPlace_5 : decode cX2_isPlace 5 = .ok (.bipush 12, 2) := by decide +kernel
theorem dX2_isPlace_7 : decode cX2_isPlace 7 = .ok (.if_icmp .ge 7, 3) := by decide +kernel
theorem dX2_isPlace_10 : decode cX2_isPlace 10 = .ok (.iconst 1, 1) := by decide +kernel
theorem dX2_isPlace_11 : decode cX2_isPlace 11 = .ok (.goto 4, 3) := by decide +kernel
theorem dX2_isPlace_14 : decode cX2_isPlace 14 = .ok (.iconst 0, 1) := by decide +kernel
theorem dX2_isPlace_15 : decode cX2_isPlace 15 = .ok (.ireturn, 1) := by decide +kernel
theorem dX2_has_0 : decode cX2_has 0 = .ok (.iload_n 1, 1) := by decide +kernel
theorem dX2_has_1 : decode cX2_has 1 = .ok (.ifCond .lt 22, 3) := by decide +kernel
theorem dX2_has_4 : decode cX2_has 4 = .ok (.iload_n 1, 1) := by decide +kernel
theorem dX2_has_5 : decode cX2_has 5 = .ok (.bipush 12, 2) := by decide +kernel
theorem dX2_has_7 : decode cX2_has 7 = .ok (.if_icmp .ge 16, 3) := by decide +kernel
theorem dX2_has_10 : decode cX2_has 10 = .ok (.iload_n 0, 1) := by decide +kernel
theorem dX2_has_11 : decode cX2_has 11 = .ok (.iload_n 1, 1) := by decide +kernel
theorem dX2_has_12 : decode cX2_has 12 = .ok (.iushr, 1) := by decide +kernel
theorem dX2_has_13 : decode cX2_has 13 = .ok (.iconst 1, 1) := by decide +kernel
theorem dX2_has_14 : decode cX2_has 14 = .ok (.iand, 1) := by decide +kernel
theorem dX2_has_15 : decode cX2_has 15 = .ok (.iconst 1, 1) := by decide +kernel
theorem dX2_has_16 : decode cX2_has 16 = .ok (.if_icmp .ne 7, 3) := by decide +kernel
theorem dX2_has_19 : decode cX2_has 19 = .ok (.iconst 1, 1) := by decide +kernel
theorem dX2_has_20 : decode cX2_has 20 = .ok (.goto 4, 3) := by decide +kernel
theorem dX2_has_23 : decode cX2_has 23 = .ok (.iconst 0, 1) := by decide +kernel
theorem dX2_has_24 : decode cX2_has 24 = .ok (.ireturn, 1) := by decide +kernel
theorem dX2_copy_0 : decode cX2_copy 0 = .ok (.aload_n 0, 1) := by decide +kernel
theorem dX2_copy_1 : decode cX2_copy 1 = .ok (.ifnull 7, 3) := by decide +kernel
theorem dX2_copy_4 : decode cX2_copy 4 = .ok (.aload_n 1, 1) := by decide +kernel
theorem dX2_copy_5 : decode cX2_copy 5 = .ok (.ifnonnull 4, 3) := by decide +kernel
theorem dX2_copy_8 : decode cX2_copy 8 = .ok (.return_, 1) := by decide +kernel
theorem dX2_copy_9 : decode cX2_copy 9 = .ok (.aload_n 1, 1) := by decide +kernel
theorem dX2_copy_10 : decode cX2_copy 10 = .ok (.aload_n 0, 1) := by decide +kernel
theorem dX2_copy_11 : decode cX2_copy 11 = .ok (.getfield 74, 3) := by decide +kernel
theorem dX2_copy_14 : decode cX2_copy 14 = .ok (.putfield 74, 3) := by decide +kernel
theorem dX2_copy_17 : decode cX2_copy 17 = .ok (.aload_n 1, 1) := by decide +kernel
theorem dX2_copy_18 : decode cX2_copy 18 = .ok (.aload_n 0, 1) := by decide +kernel
theorem dX2_copy_19 : decode cX2_copy 19 = .ok (.getfield 127, 3) := by decide +kernel
theorem dX2_copy_22 : decode cX2_copy 22 = .ok (.putfield 127, 3) := by decide +kernel
theorem dX2_copy_25 : decode cX2_copy 25 = .ok (.aload_n 1, 1) := by decide +kernel
theorem dX2_copy_26 : decode cX2_copy 26 = .ok (.aload_n 0, 1) := by decide +kernel
theorem dX2_copy_27 : decode cX2_copy 27 = .ok (.getfield 124, 3) := by decide +kernel
theorem dX2_copy_30 : decode cX2_copy 30 = .ok (.putfield 124, 3) := by decide +kernel
theorem dX2_copy_33 : decode cX2_copy 33 = .ok (.aload_n 1, 1) := by decide +kernel
theorem dX2_copy_34 : decode cX2_copy 34 = .ok (.aload_n 0, 1) := by decide +kernel
theorem dX2_copy_35 : decode cX2_copy 35 = .ok (.getfield 100, 3) := by decide +kernel
theorem dX2_copy_38 : decode cX2_copy 38 = .ok (.putfield 100, 3) := by decide +kernel
theorem dX2_copy_41 : decode cX2_copy 41 = .ok (.aload_n 1, 1) := by decide +kernel
theorem dX2_copy_42 : decode cX2_copy 42 = .ok (.aload_n 0, 1) := by decide +kernel
theorem dX2_copy_43 : decode cX2_copy 43 = .ok (.getfield 136, 3) := by decide +kernel
theorem dX2_copy_46 : decode cX2_copy 46 = .ok (.putfield 136, 3) := by decide +kernel
theorem dX2_copy_49 : decode cX2_copy 49 = .ok (.aload_n 1, 1) := by decide +kernel
theorem dX2_copy_50 : decode cX2_copy 50 = .ok (.aload_n 0, 1) := by decide +kernel
theorem dX2_copy_51 : decode cX2_copy 51 = .ok (.getfield 121, 3) := by decide +kernel
theorem dX2_copy_54 : decode cX2_copy 54 = .ok (.putfield 121, 3) := by decide +kernel
theorem dX2_copy_57 : decode cX2_copy 57 = .ok (.aload_n 1, 1) := by decide +kernel
theorem dX2_copy_58 : decode cX2_copy 58 = .ok (.aload_n 0, 1) := by decide +kernel
theorem dX2_copy_59 : decode cX2_copy 59 = .ok (.getfield 130, 3) := by decide +kernel
theorem dX2_copy_62 : decode cX2_copy 62 = .ok (.putfield 130, 3) := by decide +kernel
theorem dX2_copy_65 : decode cX2_copy 65 = .ok (.aload_n 1, 1) := by decide +kernel
theorem dX2_copy_66 : decode cX2_copy 66 = .ok (.aload_n 0, 1) := by decide +kernel
theorem dX2_copy_67 : decode cX2_copy 67 = .ok (.getfield 133, 3) := by decide +kernel
theorem dX2_copy_70 : decode cX2_copy 70 = .ok (.putfield 133, 3) := by decide +kernel
theorem dX2_copy_73 : decode cX2_copy 73 = .ok (.aload_n 0, 1) := by decide +kernel
theorem dX2_copy_74 : decode cX2_copy 74 = .ok (.getfield 118, 3) := by decide +kernel
theorem dX2_copy_77 : decode cX2_copy 77 = .ok (.iconst 0, 1) := by decide +kernel
theorem dX2_copy_78 : decode cX2_copy 78 = .ok (.aload_n 1, 1) := by decide +kernel
theorem dX2_copy_79 : decode cX2_copy 79 = .ok (.getfield 118, 3) := by decide +kernel
theorem dX2_copy_82 : decode cX2_copy 82 = .ok (.iconst 0, 1) := by decide +kernel
theorem dX2_copy_83 : decode cX2_copy 83 = .ok (.bipush 7, 2) := by decide +kernel
theorem dX2_copy_85 : decode cX2_copy 85 = .ok (.invokestatic 216, 3) := by decide +kernel
theorem dX2_copy_88 : decode cX2_copy 88 = .ok (.aload_n 0, 1) := by decide +kernel
theorem dX2_copy_89 : decode cX2_copy 89 = .ok (.getfield 81, 3) := by decide +kernel
theorem dX2_copy_92 : decode cX2_copy 92 = .ok (.iconst 0, 1) := by decide +kernel
theorem dX2_copy_93 : decode cX2_copy 93 = .ok (.aload_n 1, 1) := by decide +kernel
theorem dX2_copy_94 : decode cX2_copy 94 = .ok (.getfield 81, 3) := by decide +kernel
theorem dX2_copy_97 : decode cX2_copy 97 = .ok (.iconst 0, 1) := by decide +kernel
theorem dX2_copy_98 : decode cX2_copy 98 = .ok (.bipush 12, 2) := by decide +kernel
theorem dX2_copy_100 : decode cX2_copy 100 = .ok (.invokestatic 216, 3) := by decide +kernel
theorem dX2_copy_103 : decode cX2_copy 103 = .ok (.aload_n 0, 1) := by decide +kernel
theorem dX2_copy_104 : decode cX2_copy 104 = .ok (.getfield 85, 3) := by decide +kernel
theorem dX2_copy_107 : decode cX2_copy 107 = .ok (.iconst 0, 1) := by decide +kernel
theorem dX2_copy_108 : decode cX2_copy 108 = .ok (.aload_n 1, 1) := by decide +kernel
theorem dX2_copy_109 : decode cX2_copy 109 = .ok (.getfield 85, 3) := by decide +kernel
theorem dX2_copy_112 : decode cX2_copy 112 = .ok (.iconst 0, 1) := by decide +kernel
theorem dX2_copy_113 : decode cX2_copy 113 = .ok (.bipush 12, 2) := by decide +kernel
theorem dX2_copy_115 : decode cX2_copy 115 = .ok (.invokestatic 216, 3) := by decide +kernel
theorem dX2_copy_118 : decode cX2_copy 118 = .ok (.aload_n 0, 1) := by decide +kernel
theorem dX2_copy_119 : decode cX2_copy 119 = .ok (.getfield 91, 3) := by decide +kernel
theorem dX2_copy_122 : decode cX2_copy 122 = .ok (.iconst 0, 1) := by decide +kernel
theorem dX2_copy_123 : decode cX2_copy 123 = .ok (.aload_n 1, 1) := by decide +kernel
theorem dX2_copy_124 : decode cX2_copy 124 = .ok (.getfield 91, 3) := by decide +kernel
theorem dX2_copy_127 : decode cX2_copy 127 = .ok (.iconst 0, 1) := by decide +kernel
theorem dX2_copy_128 : decode cX2_copy 128 = .ok (.bipush 12, 2) := by decide +kernel
theorem dX2_copy_130 : decode cX2_copy 130 = .ok (.invokestatic 216, 3) := by decide +kernel
theorem dX2_copy_133 : decode cX2_copy 133 = .ok (.aload_n 0, 1) := by decide +kernel
theorem dX2_copy_134 : decode cX2_copy 134 = .ok (.getfield 94, 3) := by decide +kernel
theorem dX2_copy_137 : decode cX2_copy 137 = .ok (.iconst 0, 1) := by decide +kernel
theorem dX2_copy_138 : decode cX2_copy 138 = .ok (.aload_n 1, 1) := by decide +kernel
theorem dX2_copy_139 : decode cX2_copy 139 = .ok (.getfield 94, 3) := by decide +kernel
theorem dX2_copy_142 : decode cX2_copy 142 = .ok (.iconst 0, 1) := by decide +kernel
theorem dX2_copy_143 : decode cX2_copy 143 = .ok (.bipush 12, 2) := by decide +kernel
theorem dX2_copy_145 : decode cX2_copy 145 = .ok (.invokestatic 216, 3) := by decide +kernel
theorem dX2_copy_148 : decode cX2_copy 148 = .ok (.aload_n 0, 1) := by decide +kernel
theorem dX2_copy_149 : decode cX2_copy 149 = .ok (.getfield 103, 3) := by decide +kernel
theorem dX2_copy_152 : decode cX2_copy 152 = .ok (.iconst 0, 1) := by decide +kernel
theorem dX2_copy_153 : decode cX2_copy 153 = .ok (.aload_n 1, 1) := by decide +kernel
theorem dX2_copy_154 : decode cX2_copy 154 = .ok (.getfield 103, 3) := by decide +kernel
theorem dX2_copy_157 : decode cX2_copy 157 = .ok (.iconst 0, 1) := by decide +kernel
theorem dX2_copy_158 : decode cX2_copy 158 = .ok (.iconst 5, 1) := by decide +kernel
theorem dX2_copy_159 : decode cX2_copy 159 = .ok (.invokestatic 216, 3) := by decide +kernel
theorem dX2_copy_162 : decode cX2_copy 162 = .ok (.aload_n 0, 1) := by decide +kernel
theorem dX2_copy_163 : decode cX2_copy 163 = .ok (.getfield 106, 3) := by decide +kernel
theorem dX2_copy_166 : decode cX2_copy 166 = .ok (.iconst 0, 1) := by decide +kernel
theorem dX2_copy_167 : decode cX2_copy 167 = .ok (.aload_n 1, 1) := by decide +kernel
theorem dX2_copy_168 : decode cX2_copy 168 = .ok (.getfield 106, 3) := by decide +kernel
theorem dX2_copy_171 : decode cX2_copy 171 = .ok (.iconst 0, 1) := by decide +kernel
theorem dX2_copy_172 : decode cX2_copy 172 = .ok (.iconst 5, 1) := by decide +kernel
theorem dX2_copy_173 : decode cX2_copy 173 = .ok (.invokestatic 216, 3) := by decide +kernel
theorem dX2_copy_176 : decode cX2_copy 176 = .ok (.aload_n 0, 1) := by decide +kernel
theorem dX2_copy_177 : decode cX2_copy 177 = .ok (.getfield 109, 3) := by decide +kernel
theorem dX2_copy_180 : decode cX2_copy 180 = .ok (.iconst 0, 1) := by decide +kernel
theorem dX2_copy_181 : decode cX2_copy 181 = .ok (.aload_n 1, 1) := by decide +kernel
theorem dX2_copy_182 : decode cX2_copy 182 = .ok (.getfield 109, 3) := by decide +kernel
theorem dX2_copy_185 : decode cX2_copy 185 = .ok (.iconst 0, 1) := by decide +kernel
theorem dX2_copy_186 : decode cX2_copy 186 = .ok (.iconst 5, 1) := by decide +kernel
theorem dX2_copy_187 : decode cX2_copy 187 = .ok (.invokestatic 216, 3) := by decide +kernel
theorem dX2_copy_190 : decode cX2_copy 190 = .ok (.aload_n 0, 1) := by decide +kernel
theorem dX2_copy_191 : decode cX2_copy 191 = .ok (.getfield 112, 3) := by decide +kernel
theorem dX2_copy_194 : decode cX2_copy 194 = .ok (.iconst 0, 1) := by decide +kernel
theorem dX2_copy_195 : decode cX2_copy 195 = .ok (.aload_n 1, 1) := by decide +kernel
theorem dX2_copy_196 : decode cX2_copy 196 = .ok (.getfield 112, 3) := by decide +kernel
theorem dX2_copy_199 : decode cX2_copy 199 = .ok (.iconst 0, 1) := by decide +kernel
theorem dX2_copy_200 : decode cX2_copy 200 = .ok (.iconst 5, 1) := by decide +kernel
theorem dX2_copy_201 : decode cX2_copy 201 = .ok (.invokestatic 216, 3) := by decide +kernel
theorem dX2_copy_204 : decode cX2_copy 204 = .ok (.aload_n 0, 1) := by decide +kernel
theorem dX2_copy_205 : decode cX2_copy 205 = .ok (.getfield 115, 3) := by decide +kernel
theorem dX2_copy_208 : decode cX2_copy 208 = .ok (.iconst 0, 1) := by decide +kernel
theorem dX2_copy_209 : decode cX2_copy 209 = .ok (.aload_n 1, 1) := by decide +kernel
theorem dX2_copy_210 : decode cX2_copy 210 = .ok (.getfield 115, 3) := by decide +kernel
theorem dX2_copy_213 : decode cX2_copy 213 = .ok (.iconst 0, 1) := by decide +kernel
theorem dX2_copy_214 : decode cX2_copy 214 = .ok (.iconst 5, 1) := by decide +kernel
theorem dX2_copy_215 : decode cX2_copy 215 = .ok (.invokestatic 216, 3) := by decide +kernel
theorem dX2_copy_218 : decode cX2_copy 218 = .ok (.return_, 1) := by decide +kernel
theorem dX3_init_0 : decode cX3_init 0 = .ok (.aload_n 0, 1) := by decide +kernel
theorem dX3_init_1 : decode cX3_init 1 = .ok (.invokespecial 1, 3) := by decide +kernel
theorem dX3_init_4 : decode cX3_init 4 = .ok (.aload_n 0, 1) := by decide +kernel
theorem dX3_init_5 : decode cX3_init 5 = .ok (.bipush 109, 2) := by decide +kernel
theorem dX3_init_7 : decode cX3_init 7 = .ok (.newarray .int, 2) := by decide +kernel
theorem dX3_init_9 : decode cX3_init 9 = .ok (.putfield 7, 3) := by decide +kernel
theorem dX3_init_12 : decode cX3_init 12 = .ok (.aload_n 0, 1) := by decide +kernel
theorem dX3_init_13 : decode cX3_init 13 = .ok (.bipush 109, 2) := by decide +kernel
theorem dX3_init_15 : decode cX3_init 15 = .ok (.newarray .int, 2) := by decide +kernel
theorem dX3_init_17 : decode cX3_init 17 = .ok (.putfield 13, 3) := by decide +kernel
theorem dX3_init_20 : decode cX3_init 20 = .ok (.aload_n 0, 1) := by decide +kernel
theorem dX3_init_21 : decode cX3_init 21 = .ok (.sipush 654, 3) := by decide +kernel
theorem dX3_init_24 : decode cX3_init 24 = .ok (.newarray .int, 2) := by decide +kernel
theorem dX3_init_26 : decode cX3_init 26 = .ok (.putfield 16, 3) := by decide +kernel
theorem dX3_init_29 : decode cX3_init 29 = .ok (.aload_n 0, 1) := by decide +kernel
theorem dX3_init_30 : decode cX3_init 30 = .ok (.sipush 218, 3) := by decide +kernel
theorem dX3_init_33 : decode cX3_init 33 = .ok (.newarray .int, 2) := by decide +kernel
theorem dX3_init_35 : decode cX3_init 35 = .ok (.putfield 19, 3) := by decide +kernel
theorem dX3_init_38 : decode cX3_init 38 = .ok (.aload_n 0, 1) := by decide +kernel
theorem dX3_init_39 : decode cX3_init 39 = .ok (.iconst 2, 1) := by decide +kernel
theorem dX3_init_40 : decode cX3_init 40 = .ok (.newarray .int, 2) := by decide +kernel
theorem dX3_init_42 : decode cX3_init 42 = .ok (.putfield 22, 3) := by decide +kernel
theorem dX3_init_45 : decode cX3_init 45 = .ok (.aload_n 0, 1) := by decide +kernel
theorem dX3_init_46 : decode cX3_init 46 = .ok (.bipush 80, 2) := by decide +kernel
theorem dX3_init_48 : decode cX3_init 48 = .ok (.newarray .int, 2) := by decide +kernel
theorem dX3_init_50 : decode cX3_init 50 = .ok (.putfield 25, 3) := by decide +kernel
theorem dX3_init_53 : decode cX3_init 53 = .ok (.aload_n 0, 1) := by decide +kernel
theorem dX3_init_54 : decode cX3_init 54 = .ok (.getfield 7, 3) := by decide +kernel
theorem dX3_init_57 : decode cX3_init 57 = .ok (.iconst 0, 1) := by decide +kernel
theorem dX3_init_58 : decode cX3_init 58 = .ok (.iconst 2, 1) := by decide +kernel
theorem dX3_init_59 : decode cX3_init 59 = .ok (.iastore, 1) := by decide +kernel
theorem dX3_init_60 : decode cX3_init 60 = .ok (.aload_n 0, 1) := by decide +kernel
theorem dX3_init_61 : decode cX3_init 61 = .ok (.getfield 7, 3) := by decide +kernel
theorem dX3_init_64 : decode cX3_init 64 = .ok (.iconst 1, 1) := by decide +kernel
theorem dX3_init_65 : decode cX3_init 65 = .ok (.bipush 20, 2) := by decide +kernel
theorem dX3_init_67 : decode cX3_init 67 = .ok (.iastore, 1) := by decide +kernel
theorem dX3_init_68 : decode cX3_init 68 = .ok (.aload_n 0, 1) := by decide +kernel
theorem dX3_init_69 : decode cX3_init 69 = .ok (.getfield 7, 3) := by decide +kernel
theorem dX3_init_72 : decode cX3_init 72 = .ok (.iconst 2, 1) := by decide +kernel
theorem dX3_init_73 : decode cX3_init 73 = .ok (.iconst 4, 1) := by decide +kernel
theorem dX3_init_74 : decode cX3_init 74 = .ok (.iastore, 1) := by decide +kernel
theorem dX3_init_75 : decode cX3_init 75 = .ok (.aload_n 0, 1) := by decide +kernel
theorem dX3_init_76 : decode cX3_init 76 = .ok (.getfield 7, 3) := by decide +kernel
theorem dX3_init_79 : decode cX3_init 79 = .ok (.iconst 3, 1) := by decide +kernel
theorem dX3_init_80 : decode cX3_init 80 = .ok (.iconst 3, 1) := by decide +kernel
theorem dX3_init_81 : decode cX3_init 81 = .ok (.iastore, 1) := by decide +kernel
theorem dX3_init_82 : decode cX3_init 82 = .ok (.aload_n 0, 1) := by decide +kernel
theorem dX3_init_83 : decode cX3_init 83 = .ok (.getfield 7, 3) := by decide +kernel
theorem dX3_init_86 : decode cX3_init 86 = .ok (.iconst 4, 1) := by decide +kernel
theorem dX3_init_87 : decode cX3_init 87 = .ok (.bipush 10, 2) := by decide +kernel
theorem dX3_init_89 : decode cX3_init 89 = .ok (.iastore, 1) := by decide +kernel
theorem dX3_init_90 : decode cX3_init 90 = .ok (.aload_n 0, 1) := by decide +kernel
theorem dX3_init_91 : decode cX3_init 91 = .ok (.getfield 7, 3) := by decide +kernel
theorem dX3_init_94 : decode cX3_init 94 = .ok (.iconst 5, 1) := by decide +kernel
theorem dX3_init_95 : decode cX3_init 95 = .ok (.bipush 60, 2) := by decide +kernel
theorem dX3_init_97 : decode cX3_init 97 = .ok (.iastore, 1) := by decide +kernel
theorem dX3_init_98 : decode cX3_init 98 = .ok (.aload_n 0, 1) := by decide +kernel
theorem dX3_init_99 : decode cX3_init 99 = .ok (.getfield 7, 3) := by decide +kernel
theorem dX3_init_102 : decode cX3_init 102 = .ok (.bipush 6, 2) := by decide +kernel
theorem dX3_init_104 : decode cX3_init 104 = .ok (.bipush 7, 2) := by decide +kernel
theorem dX3_init_106 : decode cX3_init 106 = .ok (.iastore, 1) := by decide +kernel
theorem dX3_init_107 : decode cX3_init 107 = .ok (.return_, 1) := by decide +kernel
theorem dX3_moves_0 : decode cX3_moves 0 = .ok (.iconst 0, 1) := by decide +kernel
theorem dX3_moves_1 : decode cX3_moves 1 = .ok (.istore 4, 2) := by decide +kernel
theorem dX3_moves_3 : decode cX3_moves 3 = .ok (.iload 4, 2) := by decide +kernel
theorem dX3_moves_5 : decode cX3_moves 5 = .ok (.bipush 109, 2) := by decide +kernel
theorem dX3_moves_7 : decode cX3_moves 7 = .ok (.if_icmp .ge 21, 3) := by decide +kernel
theorem dX3_moves_10 : decode cX3_moves 10 = .ok (.aload_n 2, 1) := by decide +kernel
theorem dX3_moves_11 : decode cX3_moves 11 = .ok (.iload_n 3, 1) := by decide +kernel
theorem dX3_moves_12 : decode cX3_moves 12 = .ok (.iload 4, 2) := by decide +kernel
theorem dX3_moves_14 : decode cX3_moves 14 = .ok (.iadd, 1) := by decide +kernel
theorem dX3_moves_15 : decode cX3_moves 15 = .ok (.aload_n 0, 1) := by decide +kernel
theorem dX3_moves_16 : decode cX3_moves 16 = .ok (.iload_n 1, 1) := by decide +kernel
theorem dX3_moves_17 : decode cX3_moves 17 = .ok (.iload 4, 2) := by decide +kernel
theorem dX3_moves_19 : decode cX3_moves 19 = .ok (.iadd, 1) := by decide +kernel
theorem dX3_moves_20 : decode cX3_moves 20 = .ok (.iaload, 1) := by decide +kernel
theorem dX3_moves_21 : decode cX3_moves 21 = .ok (.iastore, 1) := by decide +kernel
theorem dX3_moves_22 : decode cX3_moves 22 = .ok (.iinc 4 1, 3) := by decide +kernel
theorem dX3_moves_25 : decode cX3_moves 25 = .ok (.goto (-22), 3) := by decide +kernel
theorem dX3_moves_28 : decode cX3_moves 28 = .ok (.return_, 1) := by decide +kernel
theorem dX3_within_0 : decode cX3_within 0 = .ok (.iload_n 0, 1) := by decide +kernel
theorem dX3_within_1 : decode cX3_within 1 = .ok (.iload_n 1, 1) := by decide +kernel
theorem dX3_within_2 : decode cX3_within 2 = .ok (.if_icmp .lt 12, 3) := by decide +kernel
theorem dX3_within_5 : decode cX3_within 5 = .ok (.iload_n 0, 1) := by decide +kernel
theorem dX3_within_6 : decode cX3_within 6 = .ok (.iload_n 2, 1) := by decide +kernel
theorem dX3_within_7 : decode cX3_within 7 = .ok (.if_icmp .gt 7, 3) := by decide +kernel
theorem dX3_within_10 : decode cX3_within 10 = .ok (.iconst 1, 1) := by decide +kernel
theorem dX3_within_11 : decode cX3_within 11 = .ok (.goto 4, 3) := by decide +kernel
theorem dX3_within_14 : decode cX3_within 14 = .ok (.iconst 0, 1) := by decide +kernel
theorem dX3_within_15 : decode cX3_within 15 = .ok (.ireturn, 1) := by decide +kernel
theorem dX3_size_0 : decode cX3_size 0 = .ok (.iload_n 0, 1) := by decide +kernel
theorem dX3_size_1 : decode cX3_size 1 = .ok (.ifCond .ge 8, 3) := by decide +kernel
theorem dX3_size_4 : decode cX3_size 4 = .ok (.iload_n 0, 1) := by decide +kernel
theorem dX3_size_5 : decode cX3_size 5 = .ok (.ineg, 1) := by decide +kernel
theorem dX3_size_6 : decode cX3_size 6 = .ok (.goto 4, 3) := by decide +kernel
theorem dX3_size_9 : decode cX3_size 9 = .ok (.iload_n 0, 1) := by decide +kernel
theorem dX3_size_10 : decode cX3_size 10 = .ok (.ireturn, 1) := by decide +kernel
theorem dX3_held_0 : decode cX3_held 0 = .ok (.iload_n 0, 1) := by decide +kernel
theorem dX3_held_1 : decode cX3_held 1 = .ok (.ifCond .ge 7, 3) := by decide +kernel
theorem dX3_held_4 : decode cX3_held 4 = .ok (.iconst 0, 1) := by decide +kernel
theorem dX3_held_5 : decode cX3_held 5 = .ok (.goto 15, 3) := by decide +kernel
theorem dX3_held_8 : decode cX3_held 8 = .ok (.iload_n 0, 1) := by decide +kernel
theorem dX3_held_9 : decode cX3_held 9 = .ok (.bipush 100, 2) := by decide +kernel
theorem dX3_held_11 : decode cX3_held 11 = .ok (.if_icmp .le 8, 3) := by decide +kernel
theorem dX3_held_14 : decode cX3_held 14 = .ok (.bipush 100, 2) := by decide +kernel
theorem dX3_held_16 : decode cX3_held 16 = .ok (.goto 4, 3) := by decide +kernel
theorem dX3_held_19 : decode cX3_held 19 = .ok (.iload_n 0, 1) := by decide +kernel
theorem dX3_held_20 : decode cX3_held 20 = .ok (.ireturn, 1) := by decide +kernel
set_option maxRecDepth 20000 in
theorem ggX3_record_X3_moves : GoodIn wsX3_record wsX3_moves := goodIn_r _ [7] (by decide +kernel) (by decide +kernel)
set_option maxRecDepth 20000 in
theorem gX3_record_X3_moves : GoodIn wsX3_record (va_wsS RX3 32 yX3_moves wsX3_moves) := goodIn_app (goodIn_of _ (by decide +kernel)) ggX3_record_X3_moves
theorem dX3_record_0 : decode cX3_record 0 = .ok (.aload_n 0, 1) := by decide +kernel
theorem dX3_record_1 : decode cX3_record 1 = .ok (.getfield 28, 3) := by decide +kernel
theorem dX3_record_4 : decode cX3_record 4 = .ok (.bipush 6, 2) := by decide +kernel
theorem dX3_record_6 : decode cX3_record 6 = .ok (.if_icmp .ne 43, 3) := by decide +kernel
theorem dX3_record_9 : decode cX3_record 9 = .ok (.iconst 0, 1) := by decide +kernel
theorem dX3_record_10 : decode cX3_record 10 = .ok (.istore_n 1, 1) := by decide +kernel
theorem dX3_record_11 : decode cX3_record 11 = .ok (.iload_n 1, 1) := by decide +kernel
theorem dX3_record_12 : decode cX3_record 12 = .ok (.sipush 545, 3) := by decide +kernel
theorem dX3_record_15 : decode cX3_record 15 = .ok (.if_icmp .ge 24, 3) := by decide +kernel
theorem dX3_record_18 : decode cX3_record 18 = .ok (.aload_n 0, 1) := by decide +kernel
theorem dX3_record_19 : decode cX3_record 19 = .ok (.getfield 16, 3) := by decide +kernel
theorem dX3_record_22 : decode cX3_record 22 = .ok (.iload_n 1, 1) := by decide +kernel
theorem dX3_record_23 : decode cX3_record 23 = .ok (.aload_n 0, 1) := by decide +kernel
theorem dX3_record_24 : decode cX3_record 24 = .ok (.getfield 16, 3) := by decide +kernel
theorem dX3_record_27 : decode cX3_record 27 = .ok (.iload_n 1, 1) := by decide +kernel
theorem dX3_record_28 : decode cX3_record 28 = .ok (.bipush 109, 2) := by decide +kernel
theorem dX3_record_30 : decode cX3_record 30 = .ok (.iadd, 1) := by decide +kernel
theorem dX3_record_31 : decode cX3_record 31 = .ok (.iaload, 1) := by decide +kernel
theorem dX3_record_32 : decode cX3_record 32 = .ok (.iastore, 1) := by decide +kernel
theorem dX3_record_33 : decode cX3_record 33 = .ok (.iinc 1 1, 3) := by decide +kernel
theorem dX3_record_36 : decode cX3_record 36 = .ok (.goto (-25), 3) := by decide +kernel
