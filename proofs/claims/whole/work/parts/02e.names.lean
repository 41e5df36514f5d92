theorem dX3_bestPlace_122 : decode cX3_bestPlace 122 = .ok (.iload 4, 2) := by decide +kernel
theorem dX3_bestPlace_124 : decode cX3_bestPlace 124 = .ok (.ireturn, 1) := by decide +kernel
set_option maxRecDepth 20000 in
theorem ggX3_put_X3_within : GoodIn wsX3_put wsX3_within := goodIn_r _ [7] (by decide +kernel) (by decide +kernel)
set_option maxRecDepth 20000 in
theorem gX3_put_X3_within : GoodIn wsX3_put (va_wsS RX3 36 yX3_within wsX3_within) := goodIn_app (goodIn_of _ (by decide +kernel)) ggX3_put_X3_within
theorem dX3_put_0 : decode cX3_put 0 = .ok (.iconst 0, 1) := by decide +kernel
theorem dX3_put_1 : decode cX3_put 1 = .ok (.istore_n 3, 1) := by decide +kernel
theorem dX3_put_2 : decode cX3_put 2 = .ok (.lload_n 1, 1) := by decide +kernel
theorem dX3_put_3 : decode cX3_put 3 = .ok (.lstore 4, 2) := by decide +kernel
theorem dX3_put_5 : decode cX3_put 5 = .ok (.iconst 1, 1) := by decide +kernel
theorem dX3_put_6 : decode cX3_put 6 = .ok (.istore 6, 2) := by decide +kernel
theorem dX3_put_8 : decode cX3_put 8 = .ok (.iload_n 3, 1) := by decide +kernel
theorem dX3_put_9 : decode cX3_put 9 = .ok (.bipush 8, 2) := by decide +kernel
theorem dX3_put_11 : decode cX3_put 11 = .ok (.if_icmp .ge 56, 3) := by decide +kernel
theorem dX3_put_14 : decode cX3_put 14 = .ok (.lload 4, 2) := by decide +kernel
theorem dX3_put_16 : decode cX3_put 16 = .ok (.ldc2_w 159, 3) := by decide +kernel
theorem dX3_put_19 : decode cX3_put 19 = .ok (.land, 1) := by decide +kernel
theorem dX3_put_20 : decode cX3_put 20 = .ok (.lconst 0, 1) := by decide +kernel
theorem dX3_put_21 : decode cX3_put 21 = .ok (.lcmp, 1) := by decide +kernel
theorem dX3_put_22 : decode cX3_put 22 = .ok (.ifCond .eq 45, 3) := by decide +kernel
theorem dX3_put_25 : decode cX3_put 25 = .ok (.iload 6, 2) := by decide +kernel
theorem dX3_put_27 : decode cX3_put 27 = .ok (.ifCond .eq 24, 3) := by decide +kernel
theorem dX3_put_30 : decode cX3_put 30 = .ok (.lload 4, 2) := by decide +kernel
theorem dX3_put_32 : decode cX3_put 32 = .ok (.ldc2_w 159, 3) := by decide +kernel
theorem dX3_put_35 : decode cX3_put 35 = .ok (.land, 1) := by decide +kernel
theorem dX3_put_36 : decode cX3_put 36 = .ok (.l2i, 1) := by decide +kernel
theorem dX3_put_37 : decode cX3_put 37 = .ok (.bipush 33, 2) := by decide +kernel
theorem dX3_put_39 : decode cX3_put 39 = .ok (.bipush 126, 2) := by decide +kernel
theorem dX3_put_41 : decode cX3_put 41 = .ok (.invokestatic 36, 3) := by decide +kernel
theorem dX3_put_44 : decode cX3_put 44 = .ok (.ifCond .eq 7, 3) := by decide +kernel
theorem dX3_put_47 : decode cX3_put 47 = .ok (.iconst 1, 1) := by decide +kernel
theorem dX3_put_48 : decode cX3_put 48 = .ok (.goto 4, 3) := by decide +kernel
theorem dX3_put_51 : decode cX3_put 51 = .ok (.iconst 0, 1) := by decide +kernel
theorem dX3_put_52 : decode cX3_put 52 = .ok (.istore 6, 2) := by decide +kernel
theorem dX3_put_54 : decode cX3_put 54 = .ok (.lload 4, 2) := by decide +kernel
theorem dX3_put_56 : decode cX3_put 56 = .ok (.bipush 8, 2) := by decide +kernel
theorem dX3_put_58 : decode cX3_put 58 = .ok (.lushr, 1) := by decide +kernel
theorem dX3_put_59 : decode cX3_put 59 = .ok (.lstore 4, 2) := by decide +kernel
theorem dX3_put_61 : decode cX3_put 61 = .ok (.iinc 3 1, 3) := by decide +kernel
theorem dX3_put_64 : decode cX3_put 64 = .ok (.goto (-56), 3) := by decide +kernel
theorem dX3_put_67 : decode cX3_put 67 = .ok (.iload_n 3, 1) := by decide +kernel
theorem dX3_put_68 : decode cX3_put 68 = .ok (.ifCond .eq 15, 3) := by decide +kernel
theorem dX3_put_71 : decode cX3_put 71 = .ok (.iload 6, 2) := by decide +kernel
theorem dX3_put_73 : decode cX3_put 73 = .ok (.ifCond .eq 10, 3) := by decide +kernel
theorem dX3_put_76 : decode cX3_put 76 = .ok (.lload 4, 2) := by decide +kernel
theorem dX3_put_78 : decode cX3_put 78 = .ok (.lconst 0, 1) := by decide +kernel
theorem dX3_put_79 : decode cX3_put 79 = .ok (.lcmp, 1) := by decide +kernel
theorem dX3_put_80 : decode cX3_put 80 = .ok (.ifCond .eq 6, 3) := by decide +kernel
theorem dX3_put_83 : decode cX3_put 83 = .ok (.bipush (-2), 2) := by decide +kernel
theorem dX3_put_85 : decode cX3_put 85 = .ok (.ireturn, 1) := by decide +kernel
theorem dX3_put_86 : decode cX3_put 86 = .ok (.aload_n 0, 1) := by decide +kernel
theorem dX3_put_87 : decode cX3_put 87 = .ok (.getfield 153, 3) := by decide +kernel
theorem dX3_put_90 : decode cX3_put 90 = .ok (.iload_n 3, 1) := by decide +kernel
theorem dX3_put_91 : decode cX3_put 91 = .ok (.iadd, 1) := by decide +kernel
theorem dX3_put_92 : decode cX3_put 92 = .ok (.bipush 80, 2) := by decide +kernel
theorem dX3_put_94 : decode cX3_put 94 = .ok (.if_icmp .le 6, 3) := by decide +kernel
theorem dX3_put_97 : decode cX3_put 97 = .ok (.bipush (-4), 2) := by decide +kernel
theorem dX3_put_99 : decode cX3_put 99 = .ok (.ireturn, 1) := by decide +kernel
theorem dX3_put_100 : decode cX3_put 100 = .ok (.iload_n 3, 1) := by decide +kernel
theorem dX3_put_101 : decode cX3_put 101 = .ok (.iconst 1, 1) := by decide +kernel
theorem dX3_put_102 : decode cX3_put 102 = .ok (.isub, 1) := by decide +kernel
theorem dX3_put_103 : decode cX3_put 103 = .ok (.istore 7, 2) := by decide +kernel
theorem dX3_put_105 : decode cX3_put 105 = .ok (.iload 7, 2) := by decide +kernel
theorem dX3_put_107 : decode cX3_put 107 = .ok (.ifCond .lt 40, 3) := by decide +kernel
theorem dX3_put_110 : decode cX3_put 110 = .ok (.aload_n 0, 1) := by decide +kernel
theorem dX3_put_111 : decode cX3_put 111 = .ok (.getfield 25, 3) := by decide +kernel
theorem dX3_put_114 : decode cX3_put 114 = .ok (.aload_n 0, 1) := by decide +kernel
theorem dX3_put_115 : decode cX3_put 115 = .ok (.getfield 153, 3) := by decide +kernel
theorem dX3_put_118 : decode cX3_put 118 = .ok (.lload_n 1, 1) := by decide +kernel
theorem dX3_put_119 : decode cX3_put 119 = .ok (.bipush 8, 2) := by decide +kernel
theorem dX3_put_121 : decode cX3_put 121 = .ok (.iload 7, 2) := by decide +kernel
theorem dX3_put_123 : decode cX3_put 123 = .ok (.imul, 1) := by decide +kernel
theorem dX3_put_124 : decode cX3_put 124 = .ok (.lushr, 1) := by decide +kernel
theorem dX3_put_125 : decode cX3_put 125 = .ok (.ldc2_w 159, 3) := by decide +kernel
theorem dX3_put_128 : decode cX3_put 128 = .ok (.land, 1) := by decide +kernel
theorem dX3_put_129 : decode cX3_put 129 = .ok (.l2i, 1) := by decide +kernel
theorem dX3_put_130 : decode cX3_put 130 = .ok (.iastore, 1) := by decide +kernel
theorem dX3_put_131 : decode cX3_put 131 = .ok (.aload_n 0, 1) := by decide +kernel
theorem dX3_put_132 : decode cX3_put 132 = .ok (.dup, 1) := by decide +kernel
theorem dX3_put_133 : decode cX3_put 133 = .ok (.getfield 153, 3) := by decide +kernel
theorem dX3_put_136 : decode cX3_put 136 = .ok (.iconst 1, 1) := by decide +kernel
theorem dX3_put_137 : decode cX3_put 137 = .ok (.iadd, 1) := by decide +kernel
theorem dX3_put_138 : decode cX3_put 138 = .ok (.putfield 153, 3) := by decide +kernel
theorem dX3_put_141 : decode cX3_put 141 = .ok (.iinc 7 (-1), 3) := by decide +kernel
theorem dX3_put_144 : decode cX3_put 144 = .ok (.goto (-39), 3) := by decide +kernel
theorem dX3_put_147 : decode cX3_put 147 = .ok (.aload_n 0, 1) := by decide +kernel
theorem dX3_put_148 : decode cX3_put 148 = .ok (.getfield 153, 3) := by decide +kernel
theorem dX3_put_151 : decode cX3_put 151 = .ok (.ireturn, 1) := by decide +kernel
theorem dX3_wipe_0 : decode cX3_wipe 0 = .ok (.aload_n 0, 1) := by decide +kernel
theorem dX3_wipe_1 : decode cX3_wipe 1 = .ok (.getfield 153, 3) := by decide +kernel
theorem dX3_wipe_4 : decode cX3_wipe 4 = .ok (.istore_n 1, 1) := by decide +kernel
theorem dX3_wipe_5 : decode cX3_wipe 5 = .ok (.aload_n 0, 1) := by decide +kernel
theorem dX3_wipe_6 : decode cX3_wipe 6 = .ok (.iconst 0, 1) := by decide +kernel
theorem dX3_wipe_7 : decode cX3_wipe 7 = .ok (.putfield 153, 3) := by decide +kernel
theorem dX3_wipe_10 : decode cX3_wipe 10 = .ok (.iload_n 1, 1) := by decide +kernel
theorem dX3_wipe_11 : decode cX3_wipe 11 = .ok (.ireturn, 1) := by decide +kernel
theorem dX3_character_0 : decode cX3_character 0 = .ok (.iload_n 1, 1) := by decide +kernel
theorem dX3_character_1 : decode cX3_character 1 = .ok (.aload_n 0, 1) := by decide +kernel
theorem dX3_character_2 : decode cX3_character 2 = .ok (.getfield 153, 3) := by decide +kernel
theorem dX3_character_5 : decode cX3_character 5 = .ok (.if_icmp .ge 12, 3) := by decide +kernel
theorem dX3_character_8 : decode cX3_character 8 = .ok (.aload_n 0, 1) := by decide +kernel
theorem dX3_character_9 : decode cX3_character 9 = .ok (.getfield 25, 3) := by decide +kernel
theorem dX3_character_12 : decode cX3_character 12 = .ok (.iload_n 1, 1) := by decide +kernel
theorem dX3_character_13 : decode cX3_character 13 = .ok (.iaload, 1) := by decide +kernel
theorem dX3_character_14 : decode cX3_character 14 = .ok (.goto 4, 3) := by decide +kernel
theorem dX3_character_17 : decode cX3_character 17 = .ok (.iconst (-1), 1) := by decide +kernel
theorem dX3_character_18 : decode cX3_character 18 = .ok (.ireturn, 1) := by decide +kernel
set_option maxRecDepth 20000 in
theorem ggX3_isNext_X3_character : GoodIn wsX3_isNext wsX3_character := goodIn_r _ [6, 7, 8, 9, 10, 11, 12, 13, 14, 15, 16, 17, 18, 19, 20, 21] (by decide +kernel) (by decide +kernel)
set_option maxRecDepth 20000 in
theorem gX3_isNext_X3_character : GoodIn wsX3_isNext (wsV RX3 164 RX3 yX3_character wsX3_character) := goodIn_app (goodIn_of _ (by decide +kernel)) ggX3_isNext_X3_character
theorem dX3_isNext_0 : decode cX3_isNext 0 = .ok (.aload_n 0, 1) := by decide +kernel
theorem dX3_isNext_1 : decode cX3_isNext 1 = .ok (.aload_n 0, 1) := by decide +kernel
theorem dX3_isNext_2 : decode cX3_isNext 2 = .ok (.getfield 161, 3) := by decide +kernel
theorem dX3_isNext_5 : decode cX3_isNext 5 = .ok (.invokevirtual 164, 3) := by decide +kernel
theorem dX3_isNext_8 : decode cX3_isNext 8 = .ok (.iload_n 1, 1) := by decide +kernel
theorem dX3_isNext_9 : decode cX3_isNext 9 = .ok (.if_icmp .ne 7, 3) := by decide +kernel
theorem dX3_isNext_12 : decode cX3_isNext 12 = .ok (.iconst 1, 1) := by decide +kernel
theorem dX3_isNext_13 : decode cX3_isNext 13 = .ok (.goto 4, 3) := by decide +kernel
theorem dX3_isNext_16 : decode cX3_isNext 16 = .ok (.iconst 0, 1) := by decide +kernel
theorem dX3_isNext_17 : decode cX3_isNext 17 = .ok (.istore_n 2, 1) := by decide +kernel
theorem dX3_isNext_18 : decode cX3_isNext 18 = .ok (.aload_n 0, 1) := by decide +kernel
theorem dX3_isNext_19 : decode cX3_isNext 19 = .ok (.dup, 1) := by decide +kernel
theorem dX3_isNext_20 : decode cX3_isNext 20 = .ok (.getfield 161, 3) := by decide +kernel
theorem dX3_isNext_23 : decode cX3_isNext 23 = .ok (.iload_n 2, 1) := by decide +kernel
theorem dX3_isNext_24 : decode cX3_isNext 24 = .ok (.ifCond .eq 7, 3) := by decide +kernel
theorem dX3_isNext_27 : decode cX3_isNext 27 = .ok (.iconst 1, 1) := by decide +kernel
theorem dX3_isNext_28 : decode cX3_isNext 28 = .ok (.goto 4, 3) := by decide +kernel
theorem dX3_isNext_31 : decode cX3_isNext 31 = .ok (.iconst 0, 1) := by decide +kernel
theorem dX3_isNext_32 : decode cX3_isNext 32 = .ok (.iadd, 1) := by decide +kernel
theorem dX3_isNext_33 : decode cX3_isNext 33 = .ok (.putfield 161, 3) := by decide +kernel
theorem dX3_isNext_36 : decode cX3_isNext 36 = .ok (.iload_n 2, 1) := by decide +kernel
theorem dX3_isNext_37 : decode cX3_isNext 37 = .ok (.ireturn, 1) := by decide +kernel
set_option maxRecDepth 20000 in
theorem ggX3_isDigit_X3_character : GoodIn wsX3_isDigit wsX3_character := goodIn_r _ [6, 7, 8, 12, 13, 14, 15, 16, 17, 18, 19, 20, 21, 22, 23, 24] (by decide +kernel) (by decide +kernel)
set_option maxRecDepth 20000 in
theorem gX3_isDigit_X3_character : GoodIn wsX3_isDigit (wsV RX3 164 RX3 yX3_character wsX3_character) := goodIn_app (goodIn_of _ (by decide +kernel)) ggX3_isDigit_X3_character
set_option maxRecDepth 20000 in
theorem ggX3_isDigit_X3_within : GoodIn wsX3_isDigit wsX3_within := goodIn_r _ [11] (by decide +kernel) (by decide +kernel)
set_option maxRecDepth 20000 in
theorem gX3_isDigit_X3_within : GoodIn wsX3_isDigit (va_wsS RX3 36 yX3_within wsX3_within) := goodIn_app (goodIn_of _ (by decide +kernel)) ggX3_isDigit_X3_within
theorem dX3_isDigit_0 : decode cX3_isDigit 0 = .ok (.aload_n 0, 1) := by decide +kernel
theorem dX3_isDigit_1 : decode cX3_isDigit 1 = .ok (.aload_n 0, 1) := by decide +kernel
theorem dX3_isDigit_2 : decode cX3_isDigit 2 = .ok (.getfield 161, 3) := by decide +kernel
theorem dX3_isDigit_5 : decode cX3_isDigit 5 = .ok (.invokevirtual 164, 3) := by decide +kernel
theorem dX3_isDigit_8 : decode cX3_isDigit 8 = .ok (.bipush 48, 2) := by decide +kernel
theorem dX3_isDigit_10 : decode cX3_isDigit 10 = .ok (.bipush 57, 2) := by decide +kernel
theorem dX3_isDigit_12 : decode cX3_isDigit 12 = .ok (.invokestatic 36, 3) := by decide +kernel
theorem dX3_isDigit_15 : decode cX3_isDigit 15 = .ok (.ireturn, 1) := by decide +kernel
set_option maxRecDepth 20000 in
theorem ggX3_takeNumber_X3_isDigit : GoodIn wsX3_takeNumber wsX3_isDigit := goodIn_r _ [6, 1, 7, 8, 9, 5, 10, 11, 12, 13, 14, 15, 16, 17, 18, 19, 20, 21, 22, 23, 24, 25, 26, 27, 28] (by decide +kernel) (by decide +kernel)
set_option maxRecDepth 20000 in
theorem gX3_takeNumber_X3_isDigit : GoodIn wsX3_takeNumber (wsV RX3 167 RX3 yX3_isDigit wsX3_isDigit) := goodIn_app (goodIn_of _ (by decide +kernel)) ggX3_takeNumber_X3_isDigit
set_option maxRecDepth 20000 in
theorem ggX3_takeNumber_X3_character : GoodIn wsX3_takeNumber wsX3_character := goodIn_r _ [10, 11, 12, 16, 17, 18, 19, 20, 21, 22, 23, 24, 25, 26, 27, 28] (by decide +kernel) (by decide +kernel)
set_option maxRecDepth 20000 in
theorem gX3_takeNumber_X3_character : GoodIn wsX3_takeNumber (wsV RX3 164 RX3 yX3_character wsX3_character) := goodIn_app (goodIn_of _ (by decide +kernel)) ggX3_takeNumber_X3_character
theorem dX3_takeNumber_0 : decode cX3_takeNumber 0 = .ok (.aload_n 0, 1) := by decide +kernel
theorem dX3_takeNumber_1 : decode cX3_takeNumber 1 = .ok (.invokevirtual 167, 3) := by decide +kernel
theorem dX3_takeNumber_4 : decode cX3_takeNumber 4 = .ok (.ifCond .ne 5, 3) := by decide +kernel
theorem dX3_takeNumber_7 : decode cX3_takeNumber 7 = .ok (.iconst (-1), 1) := by decide +kernel
theorem dX3_takeNumber_8 : decode cX3_takeNumber 8 = .ok (.ireturn, 1) := by decide +kernel
theorem dX3_takeNumber_9 : decode cX3_takeNumber 9 = .ok (.aload_n 0, 1) := by decide +kernel
theorem dX3_takeNumber_10 : decode cX3_takeNumber 10 = .ok (.aload_n 0, 1) := by decide +kernel
theorem dX3_takeNumber_11 : decode cX3_takeNumber 11 = .ok (.getfield 161, 3) := by decide +kernel
theorem dX3_takeNumber_14 : decode cX3_takeNumber 14 = .ok (.invokevirtual 164, 3) := by decide +kernel
theorem dX3_takeNumber_17 : decode cX3_takeNumber 17 = .ok (.bipush 48, 2) := by decide +kernel
theorem dX3_takeNumber_19 : decode cX3_takeNumber 19 = .ok (.isub, 1) := by decide +kernel
theorem dX3_takeNumber_20 : decode cX3_takeNumber 20 = .ok (.istore_n 2, 1) := by decide +kernel
theorem dX3_takeNumber_21 : decode cX3_takeNumber 21 = .ok (.aload_n 0, 1) := by decide +kernel
theorem dX3_takeNumber_22 : decode cX3_takeNumber 22 = .ok (.dup, 1) := by decide +kernel
theorem dX3_takeNumber_23 : decode cX3_takeNumber 23 = .ok (.getfield 161, 3) := by decide +kernel
theorem dX3_takeNumber_26 : decode cX3_takeNumber 26 = .ok (.iconst 1, 1) := by decide +kernel
theorem dX3_takeNumber_27 : decode cX3_takeNumber 27 = .ok (.iadd, 1) := by decide +kernel
theorem dX3_takeNumber_28 : decode cX3_takeNumber 28 = .ok (.putfield 161, 3) := by decide +kernel
theorem dX3_takeNumber_31 : decode cX3_takeNumber 31 = .ok (.iload_n 2, 1) := by decide +kernel
theorem dX3_takeNumber_32 : decode cX3_takeNumber 32 = .ok (.ifCond .le 57, 3) := by decide +kernel
theorem dX3_takeNumber_35 : decode cX3_takeNumber 35 = .ok (.aload_n 0, 1) := by decide +kernel
theorem dX3_takeNumber_36 : decode cX3_takeNumber 36 = .ok (.invokevirtual 167, 3) := by decide +kernel
theorem dX3_takeNumber_39 : decode cX3_takeNumber 39 = .ok (.ifCond .eq 50, 3) := by decide +kernel
theorem dX3_takeNumber_42 : decode cX3_takeNumber 42 = .ok (.bipush 10, 2) := by decide +kernel
theorem dX3_takeNumber_44 : decode cX3_takeNumber 44 = .ok (.iload_n 2, 1) := by decide +kernel
theorem dX3_takeNumber_45 : decode cX3_takeNumber 45 = .ok (.imul, 1) := by decide +kernel
theorem dX3_takeNumber_46 : decode cX3_takeNumber 46 = .ok (.aload_n 0, 1) := by decide +kernel
theorem dX3_takeNumber_47 : decode cX3_takeNumber 47 = .ok (.aload_n 0, 1) := by decide +kernel
theorem dX3_takeNumber_48 : decode cX3_takeNumber 48 = .ok (.getfield 161, 3) := by decide +kernel
theorem dX3_takeNumber_51 : decode cX3_takeNumber 51 = .ok (.invokevirtual 164, 3) := by decide +kernel
theorem dX3_takeNumber_54 : decode cX3_takeNumber 54 = .ok (.iadd, 1) := by decide +kernel
theorem dX3_takeNumber_55 : decode cX3_takeNumber 55 = .ok (.bipush 48, 2) := by decide +kernel
theorem dX3_takeNumber_57 : decode cX3_takeNumber 57 = .ok (.isub, 1) := by decide +kernel
theorem dX3_takeNumber_58 : decode cX3_takeNumber 58 = .ok (.iload_n 1, 1) := by decide +kernel
theorem dX3_takeNumber_59 : decode cX3_takeNumber 59 = .ok (.if_icmp .gt 30, 3) := by decide +kernel
theorem dX3_takeNumber_62 : decode cX3_takeNumber 62 = .ok (.bipush 10, 2) := by decide +kernel
theorem dX3_takeNumber_64 : decode cX3_takeNumber 64 = .ok (.iload_n 2, 1) := by decide +kernel
theorem dX3_takeNumber_65 : decode cX3_takeNumber 65 = .ok (.imul, 1) := by decide +kernel
theorem dX3_takeNumber_66 : decode cX3_takeNumber 66 = .ok (.aload_n 0, 1) := by decide +kernel
theorem dX3_takeNumber_67 : decode cX3_takeNumber 67 = .ok (.aload_n 0, 1) := by decide +kernel
theorem dX3_takeNumber_68 : decode cX3_takeNumber 68 = .ok (.getfield 161, 3) := by decide +kernel
theorem dX3_takeNumber_71 : decode cX3_takeNumber 71 = .ok (.invokevirtual 164, 3) := by decide +kernel
theorem dX3_takeNumber_74 : decode cX3_takeNumber 74 = .ok (.iadd, 1) := by decide +kernel
theorem dX3_takeNumber_75 : decode cX3_takeNumber 75 = .ok (.bipush 48, 2) := by decide +kernel
theorem dX3_takeNumber_77 : decode cX3_takeNumber 77 = .ok (.isub, 1) := by decide +kernel
theorem dX3_takeNumber_78 : decode cX3_takeNumber 78 = .ok (.istore_n 2, 1) := by decide +kernel
theorem dX3_takeNumber_79 : decode cX3_takeNumber 79 = .ok (.aload_n 0, 1) := by decide +kernel
theorem dX3_takeNumber_80 : decode cX3_takeNumber 80 = .ok (.dup, 1) := by decide +kernel
theorem dX3_takeNumber_81 : decode cX3_takeNumber 81 = .ok (.getfield 161, 3) := by decide +kernel
theorem dX3_takeNumber_84 : decode cX3_takeNumber 84 = .ok (.iconst 1, 1) := by decide +kernel
theorem dX3_takeNumber_85 : decode cX3_takeNumber 85 = .ok (.iadd, 1) := by decide +kernel
theorem dX3_takeNumber_86 : decode cX3_takeNumber 86 = .ok (.putfield 161, 3) := by decide +kernel
theorem dX3_takeNumber_89 : decode cX3_takeNumber 89 = .ok (.iload_n 2, 1) := by decide +kernel
theorem dX3_takeNumber_90 : decode cX3_takeNumber 90 = .ok (.ireturn, 1) := by decide +kernel
set_option maxRecDepth 20000 in
theorem ggX3_takesNumber_X3_takeNumber : GoodIn wsX3_takesNumber wsX3_takeNumber := goodIn_r _ [6, 7, 8, 9, 10, 5, 11, 12, 13, 14, 15, 16, 17, 18, 19, 20, 21, 22, 23, 24, 25, 26, 27, 28, 29, 30, 31, 32, 33] (by decide +kernel) (by decide +kernel)
set_option maxRecDepth 20000 in
theorem gX3_takesNumber_X3_takeNumber : GoodIn wsX3_takesNumber (wsV RX3 170 RX3 yX3_takeNumber wsX3_takeNumber) := goodIn_app (goodIn_of _ (by decide +kernel)) ggX3_takesNumber_X3_takeNumber
theorem dX3_takesNumber_0 : decode cX3_takesNumber 0 = .ok (.aload_n 0, 1) := by decide +kernel
theorem dX3_takesNumber_1 : decode cX3_takesNumber 1 = .ok (.aload_n 0, 1) := by decide +kernel
theorem dX3_takesNumber_2 : decode cX3_takesNumber 2 = .ok (.bipush 99, 2) := by decide +kernel
theorem dX3_takesNumber_4 : decode cX3_takesNumber 4 = .ok (.invokevirtual 170, 3) := by decide +kernel
theorem dX3_takesNumber_7 : decode cX3_takesNumber 7 = .ok (.putfield 173, 3) := by decide +kernel
theorem dX3_takesNumber_10 : decode cX3_takesNumber 10 = .ok (.aload_n 0, 1) := by decide +kernel
theorem dX3_takesNumber_11 : decode cX3_takesNumber 11 = .ok (.getfield 173, 3) := by decide +kernel
theorem dX3_takesNumber_14 : decode cX3_takesNumber 14 = .ok (.ifCond .lt 7, 3) := by decide +kernel
theorem dX3_takesNumber_17 : decode cX3_takesNumber 17 = .ok (.iconst 1, 1) := by decide +kernel
theorem dX3_takesNumber_18 : decode cX3_takesNumber 18 = .ok (.goto 4, 3) := by decide +kernel
theorem dX3_takesNumber_21 : decode cX3_takesNumber 21 = .ok (.iconst 0, 1) := by decide +kernel
theorem dX3_takesNumber_22 : decode cX3_takesNumber 22 = .ok (.ireturn, 1) := by decide +kernel
set_option maxRecDepth 20000 in
theorem ggX3_takesHours_X3_isNext : GoodIn wsX3_takesHours wsX3_isNext := goodIn_r _ [6, 7, 8, 9, 10, 5, 11, 12, 13, 25, 26, 27, 28, 29, 30, 31, 32, 33, 34, 35, 36, 37] (by decide +kernel) (by decide +kernel)
set_option maxRecDepth 20000 in
theorem gX3_takesHours_X3_isNext : GoodIn wsX3_takesHours (wsV RX3 176 RX3 yX3_isNext wsX3_isNext) := goodIn_app (goodIn_of _ (by decide +kernel)) ggX3_takesHours_X3_isNext
set_option maxRecDepth 20000 in
theorem ggX3_takesHours_X3_takeNumber : GoodIn wsX3_takesHours wsX3_takeNumber := goodIn_r _ [17, 7, 18, 19, 20, 5, 21, 8, 9, 10, 11, 12, 13, 22, 23, 24, 25, 26, 27, 28, 29, 30, 31, 32, 33, 34, 35, 36, 37] (by decide +kernel) (by decide +kernel)
set_option maxRecDepth 20000 in
theorem gX3_takesHours_X3_takeNumber : GoodIn wsX3_takesHours (wsV RX3 170 RX3 yX3_takeNumber wsX3_takeNumber) := goodIn_app (goodIn_of _ (by decide +kernel)) ggX3_takesHours_X3_takeNumber
theorem dX3_takesHours_0 : decode cX3_takesHours 0 = .ok (.aload_n 0, 1) := by decide +kernel
theorem dX3_takesHours_1 : decode cX3_takesHours 1 = .ok (.iconst 0, 1) := by decide +kernel
theorem dX3_takesHours_2 : decode cX3_takesHours 2 = .ok (.putfield 173, 3) := by decide +kernel
theorem dX3_takesHours_5 : decode cX3_takesHours 5 = .ok (.aload_n 0, 1) := by decide +kernel
theorem dX3_takesHours_6 : decode cX3_takesHours 6 = .ok (.bipush 45, 2) := by decide +kernel
theorem dX3_takesHours_8 : decode cX3_takesHours 8 = .ok (.invokevirtual 176, 3) := by decide +kernel
theorem dX3_takesHours_11 : decode cX3_takesHours 11 = .ok (.ifCond .eq 5, 3) := by decide +kernel
theorem dX3_takesHours_14 : decode cX3_takesHours 14 = .ok (.iconst 1, 1) := by decide +kernel
theorem dX3_takesHours_15 : decode cX3_takesHours 15 = .ok (.ireturn, 1) := by decide +kernel
theorem dX3_takesHours_16 : decode cX3_takesHours 16 = .ok (.aload_n 0, 1) := by decide +kernel
theorem dX3_takesHours_17 : decode cX3_takesHours 17 = .ok (.bipush 23, 2) := by decide +kernel
theorem dX3_takesHours_19 : decode cX3_takesHours 19 = .ok (.invokevirtual 170, 3) := by decide +kernel
theorem dX3_takesHours_22 : decode cX3_takesHours 22 = .ok (.istore_n 1, 1) := by decide +kernel
theorem dX3_takesHours_23 : decode cX3_takesHours 23 = .ok (.iload_n 1, 1) := by decide +kernel
theorem dX3_takesHours_24 : decode cX3_takesHours 24 = .ok (.ifCond .lt 36, 3) := by decide +kernel
theorem dX3_takesHours_27 : decode cX3_takesHours 27 = .ok (.aload_n 0, 1) := by decide +kernel
theorem dX3_takesHours_28 : decode cX3_takesHours 28 = .ok (.dup, 1) := by decide +kernel
theorem dX3_takesHours_29 : decode cX3_takesHours 29 = .ok (.getfield 173, 3) := by decide +kernel
theorem dX3_takesHours_32 : decode cX3_takesHours 32 = .ok (.iconst 1, 1) := by decide +kernel
theorem dX3_takesHours_33 : decode cX3_takesHours 33 = .ok (.iload_n 1, 1) := by decide +kernel
theorem dX3_takesHours_34 : decode cX3_takesHours 34 = .ok (.ishl, 1) := by decide +kernel
theorem dX3_takesHours_35 : decode cX3_takesHours 35 = .ok (.ior, 1) := by decide +kernel
theorem dX3_takesHours_36 : decode cX3_takesHours 36 = .ok (.putfield 173, 3) := by decide +kernel
theorem dX3_takesHours_39 : decode cX3_takesHours 39 = .ok (.aload_n 0, 1) := by decide +kernel
theorem dX3_takesHours_40 : decode cX3_takesHours 40 = .ok (.bipush 44, 2) := by decide +kernel
theorem dX3_takesHours_42 : decode cX3_takesHours 42 = .ok (.invokevirtual 176, 3) := by decide +kernel
theorem dX3_takesHours_45 : decode cX3_takesHours 45 = .ok (.ifCond .ne 5, 3) := by decide +kernel
theorem dX3_takesHours_48 : decode cX3_takesHours 48 = .ok (.iconst 1, 1) := by decide +kernel
theorem dX3_takesHours_49 : decode cX3_takesHours 49 = .ok (.ireturn, 1) := by decide +kernel
theorem dX3_takesHours_50 : decode cX3_takesHours 50 = .ok (.aload_n 0, 1) := by decide +kernel
theorem dX3_takesHours_51 : decode cX3_takesHours 51 = .ok (.bipush 23, 2) := by decide +kernel
theorem dX3_takesHours_53 : decode cX3_takesHours 53 = .ok (.invokevirtual 170, 3) := by decide +kernel
theorem dX3_takesHours_56 : decode cX3_takesHours 56 = .ok (.istore_n 1, 1) := by decide +kernel
theorem dX3_takesHours_57 : decode cX3_takesHours 57 = .ok (.goto (-34), 3) := by decide +kernel
theorem dX3_takesHours_60 : decode cX3_takesHours 60 = .ok (.iconst 0, 1) := by decide +kernel
theorem dX3_takesHours_61 : decode cX3_takesHours 61 = .ok (.ireturn, 1) := by decide +kernel
set_option maxRecDepth 20000 in
theorem ggX3_readsOrder_X3_character : GoodIn wsX3_readsOrder wsX3_character := goodIn_r _ [8, 9, 10, 35, 36, 37, 38, 39, 40, 41, 42, 43, 44, 45, 46, 47] (by decide +kernel) (by decide +kernel)
set_option maxRecDepth 20000 in
theorem gX3_readsOrder_X3_character : GoodIn wsX3_readsOrder (wsV RX3 164 RX3 yX3_character wsX3_character) := goodIn_app (goodIn_of _ (by decide +kernel)) ggX3_readsOrder_X3_character
set_option maxRecDepth 20000 in
theorem ggX3_readsOrder_X3_takesNumber : GoodIn wsX3_readsOrder wsX3_takesNumber := goodIn_r _ [14, 15, 16, 17, 18, 7, 19, 1, 20, 21, 22, 23, 4, 5, 6, 8, 9, 10, 24, 25, 26, 35, 36, 37, 38, 39, 40, 41, 42, 43, 44, 45, 46, 47] (by decide +kernel) (by decide +kernel)
set_option maxRecDepth 20000 in
theorem gX3_readsOrder_X3_takesNumber : GoodIn wsX3_readsOrder (wsV RX3 186 RX3 yX3_takesNumber wsX3_takesNumber) := goodIn_app (goodIn_of _ (by decide +kernel)) ggX3_readsOrder_X3_takesNumber
set_option maxRecDepth 20000 in
theorem ggX3_readsOrder_X3_isNext : GoodIn wsX3_readsOrder wsX3_isNext := goodIn_r _ [30, 1, 4, 5, 6, 7, 8, 9, 10, 35, 36, 37, 38, 39, 40, 41, 42, 43, 44, 45, 46, 47] (by decide +kernel) (by decide +kernel)
set_option maxRecDepth 20000 in
theorem gX3_readsOrder_X3_isNext : GoodIn wsX3_readsOrder (wsV RX3 176 RX3 yX3_isNext wsX3_isNext) := goodIn_app (goodIn_of _ (by decide +kernel)) ggX3_readsOrder_X3_isNext
set_option maxRecDepth 20000 in
theorem ggX3_readsOrder_X3_takesHours : GoodIn wsX3_readsOrder wsX3_takesHours := goodIn_r _ [34, 15, 27, 28, 29, 7, 30, 1, 4, 5, 6, 8, 9, 10, 16, 17, 18, 19, 20, 21, 22, 23, 24, 25, 26, 35, 36, 37, 38, 39, 40, 41, 42, 43, 44, 45, 46, 47] (by decide +kernel) (by decide +kernel)
set_option maxRecDepth 20000 in
theorem gX3_readsOrder_X3_takesHours : GoodIn wsX3_readsOrder (wsV RX3 189 RX3 yX3_takesHours wsX3_takesHours) := goodIn_app (goodIn_of _ (by decide +kernel)) ggX3_readsOrder_X3_takesHours
theorem dX3_readsOrder_0 : decode cX3_readsOrder 0 = .ok (.aload_n 0, 1) := by decide +kernel
theorem dX3_readsOrder_1 : decode cX3_readsOrder 1 = .ok (.aload_n 0, 1) := by decide +kernel
theorem dX3_readsOrder_2 : decode cX3_readsOrder 2 = .ok (.aload_n 0, 1) := by decide +kernel
theorem dX3_readsOrder_3 : decode cX3_readsOrder 3 = .ok (.getfield 161, 3) := by decide +kernel
theorem dX3_readsOrder_6 : decode cX3_readsOrder 6 = .ok (.invokevirtual 164, 3) := by decide +kernel
theorem dX3_readsOrder_9 : decode cX3_readsOrder 9 = .ok (.putfield 179, 3) := by decide +kernel
theorem dX3_readsOrder_12 : decode cX3_readsOrder 12 = .ok (.aload_n 0, 1) := by decide +kernel
theorem dX3_readsOrder_13 : decode cX3_readsOrder 13 = .ok (.iconst 0, 1) := by decide +kernel
theorem dX3_readsOrder_14 : decode cX3_readsOrder 14 = .ok (.putfield 182, 3) := by decide +kernel
theorem dX3_readsOrder_17 : decode cX3_readsOrder 17 = .ok (.aload_n 0, 1) := by decide +kernel
theorem dX3_readsOrder_18 : decode cX3_readsOrder 18 = .ok (.dup, 1) := by decide +kernel
theorem dX3_readsOrder_19 : decode cX3_readsOrder 19 = .ok (.getfield 161, 3) := by decide +kernel
theorem dX3_readsOrder_22 : decode cX3_readsOrder 22 = .ok (.iconst 1, 1) := by decide +kernel
theorem dX3_readsOrder_23 : decode cX3_readsOrder 23 = .ok (.iadd, 1) := by decide +kernel
theorem dX3_readsOrder_24 : decode cX3_readsOrder 24 = .ok (.putfield 161, 3) := by decide +kernel
theorem dX3_readsOrder_27 : decode cX3_readsOrder 27 = .ok (.iconst 0, 1) := by decide +kernel
theorem dX3_readsOrder_28 : decode cX3_readsOrder 28 = .ok (.istore_n 1, 1) := by decide +kernel
theorem dX3_readsOrder_29 : decode cX3_readsOrder 29 = .ok (.aload_n 0, 1) := by decide +kernel
theorem dX3_readsOrder_30 : decode cX3_readsOrder 30 = .ok (.getfield 179, 3) := by decide +kernel
theorem dX3_readsOrder_33 : decode cX3_readsOrder 33 = .ok (.lookupswitch 90 #[(99, 80), (107, 80), (112, 51), (114, 85), (116, 80)], 51) := by decide +kernel
theorem dX3_readsOrder_84 : decode cX3_readsOrder 84 = .ok (.aload_n 0, 1) := by decide +kernel
theorem dX3_readsOrder_85 : decode cX3_readsOrder 85 = .ok (.invokevirtual 186, 3) := by decide +kernel
theorem dX3_readsOrder_88 : decode cX3_readsOrder 88 = .ok (.istore_n 1, 1) := by decide +kernel
theorem dX3_readsOrder_89 : decode cX3_readsOrder 89 = .ok (.aload_n 0, 1) := by decide +kernel
theorem dX3_readsOrder_90 : decode cX3_readsOrder 90 = .ok (.iload_n 1, 1) := by decide +kernel
theorem dX3_readsOrder_91 : decode cX3_readsOrder 91 = .ok (.ifCond .eq 16, 3) := by decide +kernel
theorem dX3_readsOrder_94 : decode cX3_readsOrder 94 = .ok (.aload_n 0, 1) := by decide +kernel
theorem dX3_readsOrder_95 : decode cX3_readsOrder 95 = .ok (.bipush 99, 2) := by decide +kernel
theorem dX3_readsOrder_97 : decode cX3_readsOrder 97 = .ok (.invokevirtual 176, 3) := by decide +kernel
theorem dX3_readsOrder_100 : decode cX3_readsOrder 100 = .ok (.ifCond .eq 7, 3) := by decide +kernel
theorem dX3_readsOrder_103 : decode cX3_readsOrder 103 = .ok (.iconst 1, 1) := by decide +kernel
theorem dX3_readsOrder_104 : decode cX3_readsOrder 104 = .ok (.goto 4, 3) := by decide +kernel
theorem dX3_readsOrder_107 : decode cX3_readsOrder 107 = .ok (.iconst 0, 1) := by decide +kernel
theorem dX3_readsOrder_108 : decode cX3_readsOrder 108 = .ok (.putfield 182, 3) := by decide +kernel
theorem dX3_readsOrder_111 : decode cX3_readsOrder 111 = .ok (.iload_n 1, 1) := by decide +kernel
theorem dX3_readsOrder_112 : decode cX3_readsOrder 112 = .ok (.ireturn, 1) := by decide +kernel
theorem dX3_readsOrder_113 : decode cX3_readsOrder 113 = .ok (.aload_n 0, 1) := by decide +kernel
theorem dX3_readsOrder_114 : decode cX3_readsOrder 114 = .ok (.invokevirtual 186, 3) := by decide +kernel
theorem dX3_readsOrder_117 : decode cX3_readsOrder 117 = .ok (.ireturn, 1) := by decide +kernel
theorem dX3_readsOrder_118 : decode cX3_readsOrder 118 = .ok (.aload_n 0, 1) := by decide +kernel
theorem dX3_readsOrder_119 : decode cX3_readsOrder 119 = .ok (.invokevirtual 189, 3) := by decide +kernel
theorem dX3_readsOrder_122 : decode cX3_readsOrder 122 = .ok (.ireturn, 1) := by decide +kernel
theorem dX3_readsOrder_123 : decode cX3_readsOrder 123 = .ok (.aload_n 0, 1) := by decide +kernel
theorem dX3_readsOrder_124 : decode cX3_readsOrder 124 = .ok (.dup, 1) := by decide +kernel
theorem dX3_readsOrder_125 : decode cX3_readsOrder 125 = .ok (.getfield 161, 3) := by decide +kernel
theorem dX3_readsOrder_128 : decode cX3_readsOrder 128 = .ok (.iconst 1, 1) := by decide +kernel
theorem dX3_readsOrder_129 : decode cX3_readsOrder 129 = .ok (.isub, 1) := by decide +kernel
theorem dX3_readsOrder_130 : decode cX3_readsOrder 130 = .ok (.putfield 161, 3) := by decide +kernel
theorem dX3_readsOrder_133 : decode cX3_readsOrder 133 = .ok (.iconst 0, 1) := by decide +kernel
theorem dX3_readsOrder_134 : decode cX3_readsOrder 134 = .ok (.ireturn, 1) := by decide +kernel
set_option maxRecDepth 20000 in
theorem ggX3_findFault_X3_readsOrder : GoodIn wsX3_findFault wsX3_readsOrder := goodIn_r _ [7, 1, 8, 9, 10, 11, 12, 6, 13, 2, 14, 15, 16, 17, 18, 19, 20, 21, 22, 23, 24, 25, 26, 27, 28, 29, 30, 31, 32, 33, 34, 35, 36, 37, 38, 39, 40, 41, 42, 43, 44, 45, 46, 47, 48, 49, 50, 51] (by decide +kernel) (by decide +kernel)
set_option maxRecDepth 20000 in
theorem gX3_findFault_X3_readsOrder : GoodIn wsX3_findFault (wsV RX3 192 RX3 yX3_readsOrder wsX3_readsOrder) := goodIn_app (goodIn_of _ (by decide +kernel)) ggX3_findFault_X3_readsOrder
set_option maxRecDepth 20000 in
theorem ggX3_findFault_X3_isNext : GoodIn wsX3_findFault wsX3_isNext := goodIn_r _ [34, 1, 10, 11, 12, 6, 13, 2, 14, 39, 40, 41, 42, 43, 44, 45, 46, 47, 48, 49, 50, 51] (by decide +kernel) (by decide +kernel)
set_option maxRecDepth 20000 in
theorem gX3_findFault_X3_isNext : GoodIn wsX3_findFault (wsV RX3 176 RX3 yX3_isNext wsX3_isNext) := goodIn_app (goodIn_of _ (by decide +kernel)) ggX3_findFault_X3_isNext
theorem dX3_findFault_0 : decode cX3_findFault 0 = .ok (.aload_n 0, 1) := by decide +kernel
theorem dX3_findFault_1 : decode cX3_findFault 1 = .ok (.iconst 0, 1) := by decide +kernel
theorem dX3_findFault_2 : decode cX3_findFault 2 = .ok (.putfield 161, 3) := by decide +kernel
theorem dX3_findFault_5 : decode cX3_findFault 5 = .ok (.aload_n 0, 1) := by decide +kernel
theorem dX3_findFault_6 : decode cX3_findFault 6 = .ok (.invokevirtual 192, 3) := by decide +kernel
theorem dX3_findFault_9 : decode cX3_findFault 9 = .ok (.ifCond .ne 8, 3) := by decide +kernel
theorem dX3_findFault_12 : decode cX3_findFault 12 = .ok (.aload_n 0, 1) := by decide +kernel
theorem dX3_findFault_13 : decode cX3_findFault 13 = .ok (.getfield 161, 3) := by decide +kernel
theorem dX3_findFault_16 : decode cX3_findFault 16 = .ok (.ireturn, 1) := by decide +kernel
theorem dX3_findFault_17 : decode cX3_findFault 17 = .ok (.aload_n 0, 1) := by decide +kernel
theorem dX3_findFault_18 : decode cX3_findFault 18 = .ok (.getfield 161, 3) := by decide +kernel
theorem dX3_findFault_21 : decode cX3_findFault 21 = .ok (.aload_n 0, 1) := by decide +kernel
theorem dX3_findFault_22 : decode cX3_findFault 22 = .ok (.getfield 153, 3) := by decide +kernel
theorem dX3_findFault_25 : decode cX3_findFault 25 = .ok (.if_icmp .ne 6, 3) := by decide +kernel
theorem dX3_findFault_28 : decode cX3_findFault 28 = .ok (.bipush (-6), 2) := by decide +kernel
theorem dX3_findFault_30 : decode cX3_findFault 30 = .ok (.ireturn, 1) := by decide +kernel
theorem dX3_findFault_31 : decode cX3_findFault 31 = .ok (.aload_n 0, 1) := by decide +kernel
theorem dX3_findFault_32 : decode cX3_findFault 32 = .ok (.bipush 59, 2) := by decide +kernel
theorem dX3_findFault_34 : decode cX3_findFault 34 = .ok (.invokevirtual 176, 3) := by decide +kernel
theorem dX3_findFault_37 : decode cX3_findFault 37 = .ok (.ifCond .ne (-32), 3) := by decide +kernel
theorem dX3_findFault_40 : decode cX3_findFault 40 = .ok (.aload_n 0, 1) := by decide +kernel
theorem dX3_findFault_41 : decode cX3_findFault 41 = .ok (.getfield 161, 3) := by decide +kernel
theorem dX3_findFault_44 : decode cX3_findFault 44 = .ok (.ireturn, 1) := by decide +kernel
set_option maxRecDepth 20000 in
theorem ggX3_fault_X3_findFault : GoodIn wsX3_fault wsX3_findFault := goodIn_r _ [5, 6, 7, 8, 9, 10, 4, 11, 12, 13, 14, 15, 16, 17, 18, 19, 20, 21, 22, 23, 24, 25, 26, 27, 28, 29, 30, 31, 32, 33, 34, 35, 36, 37, 38, 39, 40, 41, 42, 43, 44, 45, 46, 47, 48, 49, 50, 51, 52, 53, 54, 55] (by decide +kernel) (by decide +kernel)
set_option maxRecDepth 20000 in
theorem gX3_fault_X3_findFault : GoodIn wsX3_fault (wsV RX3 195 RX3 yX3_findFault wsX3_findFault) := goodIn_app (goodIn_of _ (by decide +kernel)) ggX3_fault_X3_findFault
theorem dX3_fault_0 : decode cX3_fault 0 = .ok (.aload_n 0, 1) := by decide +kernel
theorem dX3_fault_1 : decode cX3_fault 1 = .ok (.invokevirtual 195, 3) := by decide +kernel
theorem dX3_fault_4 : decode cX3_fault 4 = .ok (.ireturn, 1) := by decide +kernel
set_option maxRecDepth 20000 in
theorem ggX3_whyNotDone_X3_whyNoPiano : GoodIn wsX3_whyNotDone wsX3_whyNoPiano := goodIn_r _ [8, 9, 10, 7, 11, 12, 13, 14, 15, 16, 17, 18, 19, 20, 21, 22, 23, 36, 37, 38, 39, 40, 41, 42, 43, 44, 45, 46, 47, 48] (by decide +kernel) (by decide +kernel)
set_option maxRecDepth 20000 in
theorem gX3_whyNotDone_X3_whyNoPiano : GoodIn wsX3_whyNotDone (wsV RX3 122 RX3 yX3_whyNoPiano wsX3_whyNoPiano) := goodIn_app (goodIn_of _ (by decide +kernel)) ggX3_whyNotDone_X3_whyNoPiano
set_option maxRecDepth 20000 in
theorem ggX3_whyNotDone_X3_whyNoKeeper : GoodIn wsX3_whyNotDone wsX3_whyNoKeeper := goodIn_r _ [27, 23, 9, 10, 7, 11, 12, 13, 14, 36, 37, 38, 39, 40, 41, 42, 43, 44, 45, 46, 47, 48] (by decide +kernel) (by decide +kernel)
set_option maxRecDepth 20000 in
theorem gX3_whyNotDone_X3_whyNoKeeper : GoodIn wsX3_whyNotDone (wsV RX3 132 RX3 yX3_whyNoKeeper wsX3_whyNoKeeper) := goodIn_app (goodIn_of _ (by decide +kernel)) ggX3_whyNotDone_X3_whyNoKeeper
set_option maxRecDepth 20000 in
theorem ggX3_whyNotDone_X3_whyNoCover : GoodIn wsX3_whyNotDone wsX3_whyNoCover := goodIn_r _ [31, 15, 16, 17, 7, 18, 9, 10, 11, 12, 13, 14, 19, 20, 21, 22, 23, 36, 37, 38, 39, 40, 41, 42, 43, 44, 45, 46, 47, 48] (by decide +kernel) (by decide +kernel)
set_option maxRecDepth 20000 in
theorem gX3_whyNotDone_X3_whyNoCover : GoodIn wsX3_whyNotDone (wsV RX3 138 RX3 yX3_whyNoCover wsX3_whyNoCover) := goodIn_app (goodIn_of _ (by decide +kernel)) ggX3_whyNotDone_X3_whyNoCover
set_option maxRecDepth 20000 in
theorem ggX3_whyNotDone_X3_whyNotPassed : GoodIn wsX3_whyNotDone wsX3_whyNotPassed := goodIn_r _ [35, 23, 12, 13, 7, 14, 36, 37, 38, 39, 40, 41, 42, 43, 44, 45, 46, 47, 48] (by decide +kernel) (by decide +kernel)
set_option maxRecDepth 20000 in
theorem gX3_whyNotDone_X3_whyNotPassed : GoodIn wsX3_whyNotDone (wsV RX3 144 RX3 yX3_whyNotPassed wsX3_whyNotPassed) := goodIn_app (goodIn_of _ (by decide +kernel)) ggX3_whyNotDone_X3_whyNotPassed
theorem dX3_whyNotDone_0 : decode cX3_whyNotDone 0 = .ok (.aload_n 0, 1) := by decide +kernel
theorem dX3_whyNotDone_1 : decode cX3_whyNotDone 1 = .ok (.getfield 179, 3) := by decide +kernel
theorem dX3_whyNotDone_4 : decode cX3_whyNotDone 4 = .ok (.lookupswitch 92 #[(99, 74), (107, 65), (112, 44), (116, 83)], 44) := by decide +kernel
theorem dX3_whyNotDone_48 : decode cX3_whyNotDone 48 = .ok (.aload_n 0, 1) := by decide +kernel
theorem dX3_whyNotDone_49 : decode cX3_whyNotDone 49 = .ok (.aload_n 0, 1) := by decide +kernel
theorem dX3_whyNotDone_50 : decode cX3_whyNotDone 50 = .ok (.getfield 173, 3) := by decide +kernel
theorem dX3_whyNotDone_53 : decode cX3_whyNotDone 53 = .ok (.aload_n 0, 1) := by decide +kernel
theorem dX3_whyNotDone_54 : decode cX3_whyNotDone 54 = .ok (.getfield 182, 3) := by decide +kernel
theorem dX3_whyNotDone_57 : decode cX3_whyNotDone 57 = .ok (.ifCond .eq 7, 3) := by decide +kernel
theorem dX3_whyNotDone_60 : decode cX3_whyNotDone 60 = .ok (.iconst 1, 1) := by decide +kernel
theorem dX3_whyNotDone_61 : decode cX3_whyNotDone 61 = .ok (.goto 4, 3) := by decide +kernel
theorem dX3_whyNotDone_64 : decode cX3_whyNotDone 64 = .ok (.iconst 0, 1) := by decide +kernel
theorem dX3_whyNotDone_65 : decode cX3_whyNotDone 65 = .ok (.invokevirtual 122, 3) := by decide +kernel
theorem dX3_whyNotDone_68 : decode cX3_whyNotDone 68 = .ok (.ireturn, 1) := by decide +kernel
theorem dX3_whyNotDone_69 : decode cX3_whyNotDone 69 = .ok (.aload_n 0, 1) := by decide +kernel
theorem dX3_whyNotDone_70 : decode cX3_whyNotDone 70 = .ok (.aload_n 0, 1) := by decide +kernel
theorem dX3_whyNotDone_71 : decode cX3_whyNotDone 71 = .ok (.getfield 173, 3) := by decide +kernel
theorem dX3_whyNotDone_74 : decode cX3_whyNotDone 74 = .ok (.invokevirtual 132, 3) := by decide +kernel
theorem dX3_whyNotDone_77 : decode cX3_whyNotDone 77 = .ok (.ireturn, 1) := by decide +kernel
theorem dX3_whyNotDone_78 : decode cX3_whyNotDone 78 = .ok (.aload_n 0, 1) := by decide +kernel
theorem dX3_whyNotDone_79 : decode cX3_whyNotDone 79 = .ok (.aload_n 0, 1) := by decide +kernel
theorem dX3_whyNotDone_80 : decode cX3_whyNotDone 80 = .ok (.getfield 173, 3) := by decide +kernel
theorem dX3_whyNotDone_83 : decode cX3_whyNotDone 83 = .ok (.invokevirtual 138, 3) := by decide +kernel
theorem dX3_whyNotDone_86 : decode cX3_whyNotDone 86 = .ok (.ireturn, 1) := by decide +kernel
theorem dX3_whyNotDone_87 : decode cX3_whyNotDone 87 = .ok (.aload_n 0, 1) := by decide +kernel
theorem dX3_whyNotDone_88 : decode cX3_whyNotDone 88 = .ok (.aload_n 0, 1) := by decide +kernel
theorem dX3_whyNotDone_89 : decode cX3_whyNotDone 89 = .ok (.getfield 173, 3) := by decide +kernel
theorem dX3_whyNotDone_92 : decode cX3_whyNotDone 92 = .ok (.invokevirtual 144, 3) := by decide +kernel
theorem dX3_whyNotDone_95 : decode cX3_whyNotDone 95 = .ok (.ireturn, 1) := by decide +kernel
theorem dX3_whyNotDone_96 : decode cX3_whyNotDone 96 = .ok (.iconst 0, 1) := by decide +kernel
theorem dX3_whyNotDone_97 : decode cX3_whyNotDone 97 = .ok (.ireturn, 1) := by decide +kernel
set_option maxRecDepth 20000 in
theorem ggX3_doesOrder_X3_pianoComes : GoodIn wsX3_doesOrder wsX3_pianoComes := goodIn_r _ [9, 10, 11, 12, 8, 13, 4, 103, 104, 105, 106, 107, 108, 109, 110, 111, 112, 113, 114, 115] (by decide +kernel) (by decide +kernel)
set_option maxRecDepth 20000 in
theorem gX3_doesOrder_X3_pianoComes : GoodIn wsX3_doesOrder (wsV RX3 125 RX3 yX3_pianoComes wsX3_pianoComes) := goodIn_app (goodIn_of _ (by decide +kernel)) ggX3_doesOrder_X3_pianoComes
set_option maxRecDepth 20000 in
theorem ggX3_doesOrder_X3_keeperComes : GoodIn wsX3_doesOrder wsX3_keeperComes := goodIn_r _ [17, 4, 103, 104, 105, 106, 107, 108, 109, 110, 111, 112, 113, 114, 115] (by decide +kernel) (by decide +kernel)
set_option maxRecDepth 20000 in
theorem gX3_doesOrder_X3_keeperComes : GoodIn wsX3_doesOrder (wsV RX3 135 RX3 yX3_keeperComes wsX3_keeperComes) := goodIn_app (goodIn_of _ (by decide +kernel)) ggX3_doesOrder_X3_keeperComes
set_option maxRecDepth 20000 in
theorem ggX3_doesOrder_X3_setPiano : GoodIn wsX3_doesOrder wsX3_setPiano := goodIn_r _ [13, 4, 103, 104, 105, 106, 107, 108, 109, 110, 111, 112, 113, 114, 115] (by decide +kernel) (by decide +kernel)
set_option maxRecDepth 20000 in
theorem gX3_doesOrder_X3_setPiano : GoodIn wsX3_doesOrder (wsV RX3 75 RX3 yX3_setPiano wsX3_setPiano) := goodIn_app (goodIn_of _ (by decide +kernel)) ggX3_doesOrder_X3_setPiano
set_option maxRecDepth 20000 in
theorem ggX3_doesOrder_X3_passes : GoodIn wsX3_doesOrder wsX3_passes := goodIn_r _ [21, 4, 22, 23, 24, 8, 25, 26, 27, 28, 29, 30, 31, 32, 33, 34, 35, 36, 37, 38, 39, 40, 41, 42, 43, 44, 45, 46, 47, 48, 49, 50, 51, 52, 53, 54, 55, 56, 57, 58, 59, 60, 61, 62, 63, 64, 65, 66, 67, 68, 69, 70, 71, 72, 73, 74, 75, 76, 77, 78, 79, 80, 81, 82, 83, 10, 11, 12, 13, 84, 85, 86, 87, 88, 89, 90, 91, 92, 93, 94, 95, 96, 97, 98, 99, 100, 101, 102, 103, 104, 105, 106, 107, 108, 109, 110, 111, 112, 113, 114, 115] (by decide +kernel) (by decide +kernel)
set_option maxRecDepth 20000 in
theorem gX3_doesOrder_X3_passes : GoodIn wsX3_doesOrder (wsV RX3 147 RX3 yX3_passes wsX3_passes) := goodIn_app (goodIn_of _ (by decide +kernel)) ggX3_doesOrder_X3_passes
theorem dX3_doesOrder_0 : decode cX3_doesOrder 0 = .ok (.aload_n 0, 1) := by decide +kernel
theorem dX3_doesOrder_1 : decode cX3_doesOrder 1 = .ok (.getfield 179, 3) := by decide +kernel
theorem dX3_doesOrder_4 : decode cX3_doesOrder 4 = .ok (.lookupswitch 104 #[(99, 79), (107, 67), (112, 44), (116, 92)], 44) := by decide +kernel
theorem dX3_doesOrder_48 : decode cX3_doesOrder 48 = .ok (.aload_n 0, 1) := by decide +kernel
theorem dX3_doesOrder_49 : decode cX3_doesOrder 49 = .ok (.aload_n 0, 1) := by decide +kernel
theorem dX3_doesOrder_50 : decode cX3_doesOrder 50 = .ok (.getfield 173, 3) := by decide +kernel
theorem dX3_doesOrder_53 : decode cX3_doesOrder 53 = .ok (.aload_n 0, 1) := by decide +kernel
theorem dX3_doesOrder_54 : decode cX3_doesOrder 54 = .ok (.getfield 182, 3) := by decide +kernel
theorem dX3_doesOrder_57 : decode cX3_doesOrder 57 = .ok (.ifCond .eq 7, 3) := by decide +kernel
theorem dX3_doesOrder_60 : decode cX3_doesOrder 60 = .ok (.iconst 1, 1) := by decide +kernel
theorem dX3_doesOrder_61 : decode cX3_doesOrder 61 = .ok (.goto 4, 3) := by decide +kernel
theorem dX3_doesOrder_64 : decode cX3_doesOrder 64 = .ok (.iconst 0, 1) := by decide +kernel
theorem dX3_doesOrder_65 : decode cX3_doesOrder 65 = .ok (.invokevirtual 125, 3) := by decide +kernel
theorem dX3_doesOrder_68 : decode cX3_doesOrder 68 = .ok (.goto 51, 3) := by decide +kernel
theorem dX3_doesOrder_71 : decode cX3_doesOrder 71 = .ok (.aload_n 0, 1) := by decide +kernel
theorem dX3_doesOrder_72 : decode cX3_doesOrder 72 = .ok (.aload_n 0, 1) := by decide +kernel
theorem dX3_doesOrder_73 : decode cX3_doesOrder 73 = .ok (.getfield 173, 3) := by decide +kernel
theorem dX3_doesOrder_76 : decode cX3_doesOrder 76 = .ok (.invokevirtual 135, 3) := by decide +kernel
theorem dX3_doesOrder_79 : decode cX3_doesOrder 79 = .ok (.pop, 1) := by decide +kernel
theorem dX3_doesOrder_80 : decode cX3_doesOrder 80 = .ok (.goto 39, 3) := by decide +kernel
theorem dX3_doesOrder_83 : decode cX3_doesOrder 83 = .ok (.aload_n 0, 1) := by decide +kernel
theorem dX3_doesOrder_84 : decode cX3_doesOrder 84 = .ok (.aload_n 0, 1) := by decide +kernel
theorem dX3_doesOrder_85 : decode cX3_doesOrder 85 = .ok (.getfield 173, 3) := by decide +kernel
theorem dX3_doesOrder_88 : decode cX3_doesOrder 88 = .ok (.iconst 3, 1) := by decide +kernel
theorem dX3_doesOrder_89 : decode cX3_doesOrder 89 = .ok (.iconst 1, 1) := by decide +kernel
theorem dX3_doesOrder_90 : decode cX3_doesOrder 90 = .ok (.invokevirtual 75, 3) := by decide +kernel
theorem dX3_doesOrder_93 : decode cX3_doesOrder 93 = .ok (.goto 26, 3) := by decide +kernel
theorem dX3_doesOrder_96 : decode cX3_doesOrder 96 = .ok (.aload_n 0, 1) := by decide +kernel
theorem dX3_doesOrder_97 : decode cX3_doesOrder 97 = .ok (.aload_n 0, 1) := by decide +kernel
theorem dX3_doesOrder_98 : decode cX3_doesOrder 98 = .ok (.getfield 173, 3) := by decide +kernel
theorem dX3_doesOrder_101 : decode cX3_doesOrder 101 = .ok (.invokevirtual 147, 3) := by decide +kernel
theorem dX3_doesOrder_104 : decode cX3_doesOrder 104 = .ok (.pop, 1) := by decide +kernel
theorem dX3_doesOrder_105 : decode cX3_doesOrder 105 = .ok (.goto 14, 3) := by decide +kernel
theorem dX3_doesOrder_108 : decode cX3_doesOrder 108 = .ok (.aload_n 0, 1) := by decide +kernel
theorem dX3_doesOrder_109 : decode cX3_doesOrder 109 = .ok (.getfield 7, 3) := by decide +kernel
theorem dX3_doesOrder_112 : decode cX3_doesOrder 112 = .ok (.bipush 8, 2) := by decide +kernel
theorem dX3_doesOrder_114 : decode cX3_doesOrder 114 = .ok (.aload_n 0, 1) := by decide +kernel
theorem dX3_doesOrder_115 : decode cX3_doesOrder 115 = .ok (.getfield 173, 3) := by decide +kernel
theorem dX3_doesOrder_118 : decode cX3_doesOrder 118 = .ok (.iastore, 1) := by decide +kernel
theorem dX3_doesOrder_119 : decode cX3_doesOrder 119 = .ok (.return_, 1) := by decide +kernel
set_option maxRecDepth 20000 in
theorem ggX3_carryOut_X3_findFault : GoodIn wsX3_carryOut wsX3_findFault := goodIn_r _ [7, 1, 2, 8, 9, 10, 6, 11, 12, 13, 14, 15, 16, 17, 18, 19, 20, 21, 22, 23, 24, 25, 26, 27, 28, 29, 30, 31, 32, 33, 34, 35, 36, 37, 38, 39, 40, 41, 42, 171, 172, 173, 174, 175, 176, 177, 178, 179, 180, 181, 182, 183] (by decide +kernel) (by decide +kernel)
set_option maxRecDepth 20000 in
theorem gX3_carryOut_X3_findFault : GoodIn wsX3_carryOut (wsV RX3 195 RX3 yX3_findFault wsX3_findFault) := goodIn_app (goodIn_of _ (by decide +kernel)) ggX3_carryOut_X3_findFault
set_option maxRecDepth 20000 in
theorem ggX3_carryOut_X3_record : GoodIn wsX3_carryOut wsX3_record := goodIn_r _ [46, 47, 48, 49, 50, 51, 6, 52, 171, 172, 173, 174, 175, 176, 177, 178, 179, 180, 181, 182, 183] (by decide +kernel) (by decide +kernel)
set_option maxRecDepth 20000 in
theorem gX3_carryOut_X3_record : GoodIn wsX3_carryOut (wsV RX3 118 RX3 yX3_record wsX3_record) := goodIn_app (goodIn_of _ (by decide +kernel)) ggX3_carryOut_X3_record
set_option maxRecDepth 20000 in
theorem ggX3_carryOut_X3_readsOrder : GoodIn wsX3_carryOut wsX3_readsOrder := goodIn_r _ [11, 1, 12, 13, 14, 15, 16, 6, 17, 2, 18, 19, 20, 21, 22, 23, 24, 25, 26, 27, 28, 29, 30, 31, 32, 33, 34, 35, 36, 37, 38, 39, 40, 41, 42, 171, 172, 173, 174, 175, 176, 177, 178, 179, 180, 181, 182, 183] (by decide +kernel) (by decide +kernel)
set_option maxRecDepth 20000 in
theorem gX3_carryOut_X3_readsOrder : GoodIn wsX3_carryOut (wsV RX3 192 RX3 yX3_readsOrder wsX3_readsOrder) := goodIn_app (goodIn_of _ (by decide +kernel)) ggX3_carryOut_X3_readsOrder
set_option maxRecDepth 20000 in
theorem ggX3_carryOut_X3_isNext : GoodIn wsX3_carryOut wsX3_isNext := goodIn_r _ [38, 1, 14, 15, 16, 6, 17, 2, 18, 171, 172, 173, 174, 175, 176, 177, 178, 179, 180, 181, 182, 183] (by decide +kernel) (by decide +kernel)
set_option maxRecDepth 20000 in
theorem gX3_carryOut_X3_isNext : GoodIn wsX3_carryOut (wsV RX3 176 RX3 yX3_isNext wsX3_isNext) := goodIn_app (goodIn_of _ (by decide +kernel)) ggX3_carryOut_X3_isNext
set_option maxRecDepth 20000 in
theorem ggX3_carryOut_X3_whyNotDone : GoodIn wsX3_carryOut wsX3_whyNotDone := goodIn_r _ [56, 12, 23, 13, 57, 58, 59, 6, 60, 61, 62, 63, 32, 33, 34, 64, 65, 66, 67, 68, 69, 70, 71, 49, 72, 73, 74, 75, 76, 77, 78, 79, 80, 81, 82, 83, 171, 172, 173, 174, 175, 176, 177, 178, 179, 180, 181, 182, 183] (by decide +kernel) (by decide +kernel)
set_option maxRecDepth 20000 in
theorem gX3_carryOut_X3_whyNotDone : GoodIn wsX3_carryOut (wsV RX3 198 RX3 yX3_whyNotDone wsX3_whyNotDone) := goodIn_app (goodIn_of _ (by decide +kernel)) ggX3_carryOut_X3_whyNotDone
set_option maxRecDepth 20000 in
theorem ggX3_carryOut_X3_doesOrder : GoodIn wsX3_carryOut wsX3_doesOrder := goodIn_r _ [87, 12, 23, 13, 49, 88, 89, 90, 6, 91, 92, 93, 94, 95, 96, 97, 98, 99, 100, 101, 102, 103, 104, 105, 106, 107, 108, 109, 110, 111, 112, 113, 114, 115, 116, 117, 118, 119, 120, 121, 122, 123, 124, 125, 126, 127, 128, 129, 130, 131, 132, 64, 65, 66, 67, 61, 62, 63, 32, 33, 34, 68, 69, 70, 71, 133, 134, 135, 136, 137, 138, 139, 140, 141, 142, 143, 144, 145, 146, 147, 148, 149, 150, 151, 152, 153, 154, 155, 156, 157, 158, 159, 160, 161, 162, 163, 164, 165, 166, 167, 168, 169, 170, 171, 172, 173, 174, 175, 176, 177, 178, 179, 180, 181, 182, 183] (by decide +kernel) (by decide +kernel)
set_option maxRecDepth 20000 in
theorem gX3_carryOut_X3_doesOrder : GoodIn wsX3_carryOut (wsV RX3 201 RX3 yX3_doesOrder wsX3_doesOrder) := goodIn_app (goodIn_of _ (by decide +kernel)) ggX3_carryOut_X3_doesOrder
theorem dX3_carryOut_0 : decode cX3_carryOut 0 = .ok (.aload_n 0, 1) := by decide +kernel
theorem dX3_carryOut_1 : decode cX3_carryOut 1 = .ok (.invokevirtual 195, 3) := by decide +kernel
theorem dX3_carryOut_4 : decode cX3_carryOut 4 = .ok (.bipush (-6), 2) := by decide +kernel
theorem dX3_carryOut_6 : decode cX3_carryOut 6 = .ok (.if_icmp .eq 6, 3) := by decide +kernel
theorem dX3_carryOut_9 : decode cX3_carryOut 9 = .ok (.bipush (-3), 2) := by decide +kernel
theorem dX3_carryOut_11 : decode cX3_carryOut 11 = .ok (.ireturn, 1) := by decide +kernel
theorem dX3_carryOut_12 : decode cX3_carryOut 12 = .ok (.aload_n 0, 1) := by decide +kernel
theorem dX3_carryOut_13 : decode cX3_carryOut 13 = .ok (.invokevirtual 118, 3) := by decide +kernel
theorem dX3_carryOut_16 : decode cX3_carryOut 16 = .ok (.iconst 0, 1) := by decide +kernel
theorem dX3_carryOut_17 : decode cX3_carryOut 17 = .ok (.istore_n 1, 1) := by decide +kernel
theorem dX3_carryOut_18 : decode cX3_carryOut 18 = .ok (.aload_n 0, 1) := by decide +kernel
theorem dX3_carryOut_19 : decode cX3_carryOut 19 = .ok (.iconst 0, 1) := by decide +kernel
theorem dX3_carryOut_20 : decode cX3_carryOut 20 = .ok (.putfield 161, 3) := by decide +kernel
theorem dX3_carryOut_23 : decode cX3_carryOut 23 = .ok (.iconst 1, 1) := by decide +kernel
theorem dX3_carryOut_24 : decode cX3_carryOut 24 = .ok (.istore_n 2, 1) := by decide +kernel
theorem dX3_carryOut_25 : decode cX3_carryOut 25 = .ok (.iload_n 2, 1) := by decide +kernel
theorem dX3_carryOut_26 : decode cX3_carryOut 26 = .ok (.ifCond .eq 53, 3) := by decide +kernel
theorem dX3_carryOut_29 : decode cX3_carryOut 29 = .ok (.aload_n 0, 1) := by decide +kernel
theorem dX3_carryOut_30 : decode cX3_carryOut 30 = .ok (.getfield 161, 3) := by decide +kernel
theorem dX3_carryOut_33 : decode cX3_carryOut 33 = .ok (.aload_n 0, 1) := by decide +kernel
theorem dX3_carryOut_34 : decode cX3_carryOut 34 = .ok (.getfield 153, 3) := by decide +kernel
theorem dX3_carryOut_37 : decode cX3_carryOut 37 = .ok (.if_icmp .ge 42, 3) := by decide +kernel
theorem dX3_carryOut_40 : decode cX3_carryOut 40 = .ok (.aload_n 0, 1) := by decide +kernel
theorem dX3_carryOut_41 : decode cX3_carryOut 41 = .ok (.invokevirtual 192, 3) := by decide +kernel
theorem dX3_carryOut_44 : decode cX3_carryOut 44 = .ok (.pop, 1) := by decide +kernel
theorem dX3_carryOut_45 : decode cX3_carryOut 45 = .ok (.aload_n 0, 1) := by decide +kernel
theorem dX3_carryOut_46 : decode cX3_carryOut 46 = .ok (.bipush 59, 2) := by decide +kernel
theorem dX3_carryOut_48 : decode cX3_carryOut 48 = .ok (.invokevirtual 176, 3) := by decide +kernel
theorem dX3_carryOut_51 : decode cX3_carryOut 51 = .ok (.pop, 1) := by decide +kernel
theorem dX3_carryOut_52 : decode cX3_carryOut 52 = .ok (.aload_n 0, 1) := by decide +kernel
theorem dX3_carryOut_53 : decode cX3_carryOut 53 = .ok (.invokevirtual 198, 3) := by decide +kernel
theorem dX3_carryOut_56 : decode cX3_carryOut 56 = .ok (.ifCond .ne 7, 3) := by decide +kernel
theorem dX3_carryOut_59 : decode cX3_carryOut 59 = .ok (.iconst 1, 1) := by decide +kernel
theorem dX3_carryOut_60 : decode cX3_carryOut 60 = .ok (.goto 4, 3) := by decide +kernel
theorem dX3_carryOut_63 : decode cX3_carryOut 63 = .ok (.iconst 0, 1) := by decide +kernel
theorem dX3_carryOut_64 : decode cX3_carryOut 64 = .ok (.istore_n 2, 1) := by decide +kernel
theorem dX3_carryOut_65 : decode cX3_carryOut 65 = .ok (.iload_n 2, 1) := by decide +kernel
theorem dX3_carryOut_66 : decode cX3_carryOut 66 = .ok (.ifCond .eq (-41), 3) := by decide +kernel
theorem dX3_carryOut_69 : decode cX3_carryOut 69 = .ok (.aload_n 0, 1) := by decide +kernel
theorem dX3_carryOut_70 : decode cX3_carryOut 70 = .ok (.invokevirtual 201, 3) := by decide +kernel
theorem dX3_carryOut_73 : decode cX3_carryOut 73 = .ok (.iinc 1 1, 3) := by decide +kernel
theorem dX3_carryOut_76 : decode cX3_carryOut 76 = .ok (.goto (-51), 3) := by decide +kernel
theorem dX3_carryOut_79 : decode cX3_carryOut 79 = .ok (.aload_n 0, 1) := by decide +kernel
theorem dX3_carryOut_80 : decode cX3_carryOut 80 = .ok (.iconst 0, 1) := by decide +kernel
theorem dX3_carryOut_81 : decode cX3_carryOut 81 = .ok (.putfield 153, 3) := by decide +kernel
theorem dX3_carryOut_84 : decode cX3_carryOut 84 = .ok (.iload_n 1, 1) := by decide +kernel
theorem dX3_carryOut_85 : decode cX3_carryOut 85 = .ok (.ireturn, 1) := by decide +kernel
set_option maxRecDepth 20000 in
theorem ggX3_undo_X3_moves : GoodIn wsX3_undo wsX3_moves := goodIn_r _ [7] (by decide +kernel) (by decide +kernel)
set_option maxRecDepth 20000 in
theorem gX3_undo_X3_moves : GoodIn wsX3_undo (va_wsS RX3 32 yX3_moves wsX3_moves) := goodIn_app (goodIn_of _ (by decide +kernel)) ggX3_undo_X3_moves
theorem dX3_undo_0 : decode cX3_undo 0 = .ok (.aload_n 0, 1) := by decide +kernel
theorem dX3_undo_1 : decode cX3_undo 1 = .ok (.getfield 28, 3) := by decide +kernel
theorem dX3_undo_4 : decode cX3_undo 4 = .ok (.ifCond .ne 6, 3) := by decide +kernel
theorem dX3_undo_7 : decode cX3_undo 7 = .ok (.bipush (-5), 2) := by decide +kernel
theorem dX3_undo_9 : decode cX3_undo 9 = .ok (.ireturn, 1) := by decide +kernel
theorem dX3_undo_10 : decode cX3_undo 10 = .ok (.aload_n 0, 1) := by decide +kernel
theorem dX3_undo_11 : decode cX3_undo 11 = .ok (.dup, 1) := by decide +kernel
theorem dX3_undo_12 : decode cX3_undo 12 = .ok (.getfield 28, 3) := by decide +kernel
theorem dX3_undo_15 : decode cX3_undo 15 = .ok (.iconst 1, 1) := by decide +kernel
theorem dX3_undo_16 : decode cX3_undo 16 = .ok (.isub, 1) := by decide +kernel
theorem dX3_undo_17 : decode cX3_undo 17 = .ok (.putfield 28, 3) := by decide +kernel
theorem dX3_undo_20 : decode cX3_undo 20 = .ok (.aload_n 0, 1) := by decide +kernel
theorem dX3_undo_21 : decode cX3_undo 21 = .ok (.getfield 16, 3) := by decide +kernel
theorem dX3_undo_24 : decode cX3_undo 24 = .ok (.aload_n 0, 1) := by decide +kernel
theorem dX3_undo_25 : decode cX3_undo 25 = .ok (.getfield 28, 3) := by decide +kernel
theorem dX3_undo_28 : decode cX3_undo 28 = .ok (.bipush 109, 2) := by decide +kernel
theorem dX3_undo_30 : decode cX3_undo 30 = .ok (.imul, 1) := by decide +kernel
theorem dX3_undo_31 : decode cX3_undo 31 = .ok (.aload_n 0, 1) := by decide +kernel
theorem dX3_undo_32 : decode cX3_undo 32 = .ok (.getfield 7, 3) := by decide +kernel
theorem dX3_undo_35 : decode cX3_undo 35 = .ok (.iconst 0, 1) := by decide +kernel
theorem dX3_undo_36 : decode cX3_undo 36 = .ok (.invokestatic 32, 3) := by decide +kernel
theorem dX3_undo_39 : decode cX3_undo 39 = .ok (.aload_n 0, 1) := by decide +kernel
theorem dX3_undo_40 : decode cX3_undo 40 = .ok (.getfield 28, 3) := by decide +kernel
theorem dX3_undo_43 : decode cX3_undo 43 = .ok (.ireturn, 1) := by decide +kernel
set_option maxRecDepth 20000 in
theorem ggX3_save_X3_within : GoodIn wsX3_save wsX3_within := goodIn_r _ [7] (by decide +kernel) (by decide +kernel)
set_option maxRecDepth 20000 in
theorem gX3_save_X3_within : GoodIn wsX3_save (va_wsS RX3 36 yX3_within wsX3_within) := goodIn_app (goodIn_of _ (by decide +kernel)) ggX3_save_X3_within
set_option maxRecDepth 20000 in
theorem ggX3_save_X3_moves : GoodIn wsX3_save wsX3_moves := goodIn_r _ [10] (by decide +kernel) (by decide +kernel)
set_option maxRecDepth 20000 in
theorem gX3_save_X3_moves : GoodIn wsX3_save (va_wsS RX3 32 yX3_moves wsX3_moves) := goodIn_app (goodIn_of _ (by decide +kernel)) ggX3_save_X3_moves
set_option maxRecDepth 20000 in
theorem ggX3_save_X3_pianosThere : GoodIn wsX3_save wsX3_pianosThere := goodIn_r _ [14, 15, 16, 17, 6, 18, 1, 19, 20, 21, 22, 23, 24, 25, 26, 27, 28, 29, 30, 31] (by decide +kernel) (by decide +kernel)
set_option maxRecDepth 20000 in
theorem gX3_save_X3_pianosThere : GoodIn wsX3_save (wsV RX3 128 RX3 yX3_pianosThere wsX3_pianosThere) := goodIn_app (goodIn_of _ (by decide +kernel)) ggX3_save_X3_pianosThere
theorem dX3_save_0 : decode cX3_save 0 = .ok (.iload_n 1, 1) := by decide +kernel
theorem dX3_save_1 : decode cX3_save 1 = .ok (.iconst 0, 1) := by decide +kernel
theorem dX3_save_2 : decode cX3_save 2 = .ok (.iconst 1, 1) := by decide +kernel
theorem dX3_save_3 : decode cX3_save 3 = .ok (.invokestatic 36, 3) := by decide +kernel
theorem dX3_save_6 : decode cX3_save 6 = .ok (.ifCond .ne 6, 3) := by decide +kernel
theorem dX3_save_9 : decode cX3_save 9 = .ok (.bipush (-2), 2) := by decide +kernel
theorem dX3_save_11 : decode cX3_save 11 = .ok (.ireturn, 1) := by decide +kernel
theorem dX3_save_12 : decode cX3_save 12 = .ok (.aload_n 0, 1) := by decide +kernel
theorem dX3_save_13 : decode cX3_save 13 = .ok (.getfield 7, 3) := by decide +kernel
theorem dX3_save_16 : decode cX3_save 16 = .ok (.iconst 0, 1) := by decide +kernel
theorem dX3_save_17 : decode cX3_save 17 = .ok (.aload_n 0, 1) := by decide +kernel
theorem dX3_save_18 : decode cX3_save 18 = .ok (.getfield 19, 3) := by decide +kernel
theorem dX3_save_21 : decode cX3_save 21 = .ok (.bipush 109, 2) := by decide +kernel
theorem dX3_save_23 : decode cX3_save 23 = .ok (.iload_n 1, 1) := by decide +kernel
theorem dX3_save_24 : decode cX3_save 24 = .ok (.imul, 1) := by decide +kernel
theorem dX3_save_25 : decode cX3_save 25 = .ok (.invokestatic 32, 3) := by decide +kernel
theorem dX3_save_28 : decode cX3_save 28 = .ok (.aload_n 0, 1) := by decide +kernel
theorem dX3_save_29 : decode cX3_save 29 = .ok (.getfield 22, 3) := by decide +kernel
theorem dX3_save_32 : decode cX3_save 32 = .ok (.iload_n 1, 1) := by decide +kernel
theorem dX3_save_33 : decode cX3_save 33 = .ok (.iconst 1, 1) := by decide +kernel
theorem dX3_save_34 : decode cX3_save 34 = .ok (.iastore, 1) := by decide +kernel
theorem dX3_save_35 : decode cX3_save 35 = .ok (.aload_n 0, 1) := by decide +kernel
theorem dX3_save_36 : decode cX3_save 36 = .ok (.invokevirtual 128, 3) := by decide +kernel
theorem dX3_save_39 : decode cX3_save 39 = .ok (.ireturn, 1) := by decide +kernel
set_option maxRecDepth 20000 in
theorem ggX3_restore_X3_within : GoodIn wsX3_restore wsX3_within := goodIn_r _ [7] (by decide +kernel) (by decide +kernel)
set_option maxRecDepth 20000 in
theorem gX3_restore_X3_within : GoodIn wsX3_restore (va_wsS RX3 36 yX3_within wsX3_within) := goodIn_app (goodIn_of _ (by decide +kernel)) ggX3_restore_X3_within
set_option maxRecDepth 20000 in
theorem ggX3_restore_X3_record : GoodIn wsX3_restore wsX3_record := goodIn_r _ [11, 12, 13, 3, 14, 15, 6, 16, 25, 26, 27, 28, 29, 30, 31, 32, 33, 34, 35, 36, 37] (by decide +kernel) (by decide +kernel)
set_option maxRecDepth 20000 in
theorem gX3_restore_X3_record : GoodIn wsX3_restore (wsV RX3 118 RX3 yX3_record wsX3_record) := goodIn_app (goodIn_of _ (by decide +kernel)) ggX3_restore_X3_record
set_option maxRecDepth 20000 in
theorem ggX3_restore_X3_moves : GoodIn wsX3_restore wsX3_moves := goodIn_r _ [16] (by decide +kernel) (by decide +kernel)
set_option maxRecDepth 20000 in
theorem gX3_restore_X3_moves : GoodIn wsX3_restore (va_wsS RX3 32 yX3_moves wsX3_moves) := goodIn_app (goodIn_of _ (by decide +kernel)) ggX3_restore_X3_moves
set_option maxRecDepth 20000 in
theorem ggX3_restore_X3_pianosThere : GoodIn wsX3_restore wsX3_pianosThere := goodIn_r _ [20, 21, 22, 23, 6, 24, 3, 25, 26, 27, 28, 29, 30, 31, 32, 33, 34, 35, 36, 37] (by decide +kernel) (by decide +kernel)
set_option maxRecDepth 20000 in
theorem gX3_restore_X3_pianosThere : GoodIn wsX3_restore (wsV RX3 128 RX3 yX3_pianosThere wsX3_pianosThere) := goodIn_app (goodIn_of _ (by decide +kernel)) ggX3_restore_X3_pianosThere
theorem dX3_restore_0 : decode cX3_restore 0 = .ok (.iload_n 1, 1) := by decide +kernel
theorem dX3_restore_1 : decode cX3_restore 1 = .ok (.iconst 0, 1) := by decide +kernel
theorem dX3_restore_2 : decode cX3_restore 2 = .ok (.iconst 1, 1) := by decide +kernel
theorem dX3_restore_3 : decode cX3_restore 3 = .ok (.invokestatic 36, 3) := by decide +kernel
theorem dX3_restore_6 : decode cX3_restore 6 = .ok (.ifCond .ne 6, 3) := by decide +kernel
theorem dX3_restore_9 : decode cX3_restore 9 = .ok (.bipush (-2), 2) := by decide +kernel
theorem dX3_restore_11 : decode cX3_restore 11 = .ok (.ireturn, 1) := by decide +kernel
theorem dX3_restore_12 : decode cX3_restore 12 = .ok (.aload_n 0, 1) := by decide +kernel
theorem dX3_restore_13 : decode cX3_restore 13 = .ok (.getfield 22, 3) := by decide +kernel
theorem dX3_restore_16 : decode cX3_restore 16 = .ok (.iload_n 1, 1) := by decide +kernel
theorem dX3_restore_17 : decode cX3_restore 17 = .ok (.iaload, 1) := by decide +kernel
theorem dX3_restore_18 : decode cX3_restore 18 = .ok (.ifCond .ne 6, 3) := by decide +kernel
theorem dX3_restore_21 : decode cX3_restore 21 = .ok (.bipush (-5), 2) := by decide +kernel
theorem dX3_restore_23 : decode cX3_restore 23 = .ok (.ireturn, 1) := by decide +kernel
theorem dX3_restore_24 : decode cX3_restore 24 = .ok (.aload_n 0, 1) := by decide +kernel
theorem dX3_restore_25 : decode cX3_restore 25 = .ok (.invokevirtual 118, 3) := by decide +kernel
theorem dX3_restore_28 : decode cX3_restore 28 = .ok (.aload_n 0, 1) := by decide +kernel
theorem dX3_restore_29 : decode cX3_restore 29 = .ok (.getfield 19, 3) := by decide +kernel
theorem dX3_restore_32 : decode cX3_restore 32 = .ok (.bipush 109, 2) := by decide +kernel
theorem dX3_restore_34 : decode cX3_restore 34 = .ok (.iload_n 1, 1) := by decide +kernel
theorem dX3_restore_35 : decode cX3_restore 35 = .ok (.imul, 1) := by decide +kernel
theorem dX3_restore_36 : decode cX3_restore 36 = .ok (.aload_n 0, 1) := by decide +kernel
theorem dX3_restore_37 : decode cX3_restore 37 = .ok (.getfield 7, 3) := by decide +kernel
theorem dX3_restore_40 : decode cX3_restore 40 = .ok (.iconst 0, 1) := by decide +kernel
theorem dX3_restore_41 : decode cX3_restore 41 = .ok (.invokestatic 32, 3) := by decide +kernel
theorem dX3_restore_44 : decode cX3_restore 44 = .ok (.aload_n 0, 1) := by decide +kernel
theorem dX3_restore_45 : decode cX3_restore 45 = .ok (.invokevirtual 128, 3) := by decide +kernel
theorem dX3_restore_48 : decode cX3_restore 48 = .ok (.ireturn, 1) := by decide +kernel
theorem dJ6_bitCount_0f7a4_0 : decode cJ6_bitCount_0f7a4 0 = .ok (.iload_n 0, 1) := by decide +kernel
theorem dJ6_bitCount_0f7a4_1 : decode cJ6_bitCount_0f7a4 1 = .ok (.iload_n 0, 1) := by decide +kernel
theorem dJ6_bitCount_0f7a4_2 : decode cJ6_bitCount_0f7a4 2 = .ok (.iconst 1, 1) := by decide +kernel
theorem dJ6_bitCount_0f7a4_3 : decode cJ6_bitCount_0f7a4 3 = .ok (.iushr, 1) := by decide +kernel
theorem dJ6_bitCount_0f7a4_4 : decode cJ6_bitCount_0f7a4 4 = .ok (.ldc_w 265, 3) := by decide +kernel
theorem dJ6_bitCount_0f7a4_7 : decode cJ6_bitCount_0f7a4 7 = .ok (.iand, 1) := by decide +kernel
theorem dJ6_bitCount_0f7a4_8 : decode cJ6_bitCount_0f7a4 8 = .ok (.isub, 1) := by decide +kernel
theorem dJ6_bitCount_0f7a4_9 : decode cJ6_bitCount_0f7a4 9 = .ok (.istore_n 0, 1) := by decide +kernel
theorem dJ6_bitCount_0f7a4_10 : decode cJ6_bitCount_0f7a4 10 = .ok (.iload_n 0, 1) := by decide +kernel
theorem dJ6_bitCount_0f7a4_11 : decode cJ6_bitCount_0f7a4 11 = .ok (.ldc_w 266, 3) := by decide +kernel
theorem dJ6_bitCount_0f7a4_14 : decode cJ6_bitCount_0f7a4 14 = .ok (.iand, 1) := by decide +kernel
theorem dJ6_bitCount_0f7a4_15 : decode cJ6_bitCount_0f7a4 15 = .ok (.iload_n 0, 1) := by decide +kernel
theorem dJ6_bitCount_0f7a4_16 : decode cJ6_bitCount_0f7a4 16 = .ok (.iconst 2, 1) := by decide +kernel
theorem dJ6_bitCount_0f7a4_17 : decode cJ6_bitCount_0f7a4 17 = .ok (.iushr, 1) := by decide +kernel
theorem dJ6_bitCount_0f7a4_18 : decode cJ6_bitCount_0f7a4 18 = .ok (.ldc_w 266, 3) := by decide +kernel
theorem dJ6_bitCount_0f7a4_21 : decode cJ6_bitCount_0f7a4 21 = .ok (.iand, 1) := by decide +kernel
theorem dJ6_bitCount_0f7a4_22 : decode cJ6_bitCount_0f7a4 22 = .ok (.iadd, 1) := by decide +kernel
theorem dJ6_bitCount_0f7a4_23 : decode cJ6_bitCount_0f7a4 23 = .ok (.istore_n 0, 1) := by decide +kernel
theorem dJ6_bitCount_0f7a4_24 : decode cJ6_bitCount_0f7a4 24 = .ok (.iload_n 0, 1) := by decide +kernel
theorem dJ6_bitCount_0f7a4_25 : decode cJ6_bitCount_0f7a4 25 = .ok (.iload_n 0, 1) := by decide +kernel
theorem dJ6_bitCount_0f7a4_26 : decode cJ6_bitCount_0f7a4 26 = .ok (.iconst 4, 1) := by decide +kernel
theorem dJ6_bitCount_0f7a4_27 : decode cJ6_bitCount_0f7a4 27 = .ok (.iushr, 1) := by decide +kernel
theorem dJ6_bitCount_0f7a4_28 : decode cJ6_bitCount_0f7a4 28 = .ok (.iadd, 1) := by decide +kernel
theorem dJ6_bitCount_0f7a4_29 : decode cJ6_bitCount_0f7a4 29 = .ok (.ldc_w 267, 3) := by decide +kernel
theorem dJ6_bitCount_0f7a4_32 : decode cJ6_bitCount_0f7a4 32 = .ok (.iand, 1) := by decide +kernel
theorem dJ6_bitCount_0f7a4_33 : decode cJ6_bitCount_0f7a4 33 = .ok (.istore_n 0, 1) := by decide +kernel
theorem dJ6_bitCount_0f7a4_34 : decode cJ6_bitCount_0f7a4 34 = .ok (.iload_n 0, 1) := by decide +kernel
theorem dJ6_bitCount_0f7a4_35 : decode cJ6_bitCount_0f7a4 35 = .ok (.iload_n 0, 1) := by decide +kernel
theorem dJ6_bitCount_0f7a4_36 : decode cJ6_bitCount_0f7a4 36 = .ok (.bipush 8, 2) := by decide +kernel
theorem dJ6_bitCount_0f7a4_38 : decode cJ6_bitCount_0f7a4 38 = .ok (.iushr, 1) := by decide +kernel
theorem dJ6_bitCount_0f7a4_39 : decode cJ6_bitCount_0f7a4 39 = .ok (.iadd, 1) := by decide +kernel
theorem dJ6_bitCount_0f7a4_40 : decode cJ6_bitCount_0f7a4 40 = .ok (.istore_n 0, 1) := by decide +kernel
theorem dJ6_bitCount_0f7a4_41 : decode cJ6_bitCount_0f7a4 41 = .ok (.iload_n 0, 1) := by decide +kernel
theorem dJ6_bitCount_0f7a4_42 : decode cJ6_bitCount_0f7a4 42 = .ok (.iload_n 0, 1) := by decide +kernel
theorem dJ6_bitCount_0f7a4_43 : decode cJ6_bitCount_0f7a4 43 = .ok (.bipush 16, 2) := by decide +kernel
theorem dJ6_bitCount_0f7a4_45 : decode cJ6_bitCount_0f7a4 45 = .ok (.iushr, 1) := by decide +kernel
theorem dJ6_bitCount_0f7a4_46 : decode cJ6_bitCount_0f7a4 46 = .ok (.iadd, 1) := by decide +kernel
theorem dJ6_bitCount_0f7a4_47 : decode cJ6_bitCount_0f7a4 47 = .ok (.istore_n 0, 1) := by decide +kernel
theorem dJ6_bitCount_0f7a4_48 : decode cJ6_bitCount_0f7a4 48 = .ok (.iload_n 0, 1) := by decide +kernel
theorem dJ6_bitCount_0f7a4_49 : decode cJ6_bitCount_0f7a4 49 = .ok (.bipush 63, 2) := by decide +kernel
theorem dJ6_bitCount_0f7a4_51 : decode cJ6_bitCount_0f7a4 51 = .ok (.iand, 1) := by decide +kernel
theorem dJ6_bitCount_0f7a4_52 : decode cJ6_bitCount_0f7a4 52 = .ok (.ireturn, 1) := by decide +kernel
theorem dJ9_max_7cf53_0 : decode cJ9_max_7cf53 0 = .ok (.iload_n 0, 1) := by decide +kernel
theorem dJ9_max_7cf53_1 : decode cJ9_max_7cf53 1 = .ok (.iload_n 1, 1) := by decide +kernel
theorem dJ9_max_7cf53_2 : decode cJ9_max_7cf53 2 = .ok (.if_icmp .lt 7, 3) := by decide +kernel
theorem dJ9_max_7cf53_5 : decode cJ9_max_7cf53 5 = .ok (.iload_n 0, 1) := by decide +kernel
theorem dJ9_max_7cf53_6 : decode cJ9_max_7cf53 6 = .ok (.goto 4, 3) := by decide +kernel
theorem dJ9_max_7cf53_9 : decode cJ9_max_7cf53 9 = .ok (.iload_n 1, 1) := by decide +kernel
theorem dJ9_max_7cf53_10 : decode cJ9_max_7cf53 10 = .ok (.ireturn, 1) := by decide +kernel
theorem dJ9_min_7cf53_0 : decode cJ9_min_7cf53 0 = .ok (.iload_n 0, 1) := by decide +kernel
theorem dJ9_min_7cf53_1 : decode cJ9_min_7cf53 1 = .ok (.iload_n 1, 1) := by decide +kernel
theorem dJ9_min_7cf53_2 : decode cJ9_min_7cf53 2 = .ok (.if_icmp .gt 7, 3) := by decide +kernel
theorem dJ9_min_7cf53_5 : decode cJ9_min_7cf53 5 = .ok (.iload_n 0, 1) := by decide +kernel
theorem dJ9_min_7cf53_6 : decode cJ9_min_7cf53 6 = .ok (.goto 4, 3) := by decide +kernel
theorem dJ9_min_7cf53_9 : decode cJ9_min_7cf53 9 = .ok (.iload_n 1, 1) := by decide +kernel
theorem dJ9_min_7cf53_10 : decode cJ9_min_7cf53 10 = .ok (.ireturn, 1) := by decide +kernel
abbrev vwCl : List vw_C := [(RX0, TX0, 8), (RX1, TX1, 18), (RX2, TX2, 8), (RX3, TX3, 13)]
