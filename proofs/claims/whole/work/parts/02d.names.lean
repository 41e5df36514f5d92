theorem dX3_record_39 : decode cX3_record 39 = .ok (.aload_n 0, 1) := by decide +kernel
theorem dX3_record_40 : decode cX3_record 40 = .ok (.dup, 1) := by decide +kernel
theorem dX3_record_41 : decode cX3_record 41 = .ok (.getfield 28, 3) := by decide +kernel
theorem dX3_record_44 : decode cX3_record 44 = .ok (.iconst 1, 1) := by decide +kernel
theorem dX3_record_45 : decode cX3_record 45 = .ok (.isub, 1) := by decide +kernel
theorem dX3_record_46 : decode cX3_record 46 = .ok (.putfield 28, 3) := by decide +kernel
theorem dX3_record_49 : decode cX3_record 49 = .ok (.aload_n 0, 1) := by decide +kernel
theorem dX3_record_50 : decode cX3_record 50 = .ok (.getfield 7, 3) := by decide +kernel
theorem dX3_record_53 : decode cX3_record 53 = .ok (.iconst 0, 1) := by decide +kernel
theorem dX3_record_54 : decode cX3_record 54 = .ok (.aload_n 0, 1) := by decide +kernel
theorem dX3_record_55 : decode cX3_record 55 = .ok (.getfield 16, 3) := by decide +kernel
theorem dX3_record_58 : decode cX3_record 58 = .ok (.aload_n 0, 1) := by decide +kernel
theorem dX3_record_59 : decode cX3_record 59 = .ok (.getfield 28, 3) := by decide +kernel
theorem dX3_record_62 : decode cX3_record 62 = .ok (.bipush 109, 2) := by decide +kernel
theorem dX3_record_64 : decode cX3_record 64 = .ok (.imul, 1) := by decide +kernel
theorem dX3_record_65 : decode cX3_record 65 = .ok (.invokestatic 32, 3) := by decide +kernel
theorem dX3_record_68 : decode cX3_record 68 = .ok (.aload_n 0, 1) := by decide +kernel
theorem dX3_record_69 : decode cX3_record 69 = .ok (.dup, 1) := by decide +kernel
theorem dX3_record_70 : decode cX3_record 70 = .ok (.getfield 28, 3) := by decide +kernel
theorem dX3_record_73 : decode cX3_record 73 = .ok (.iconst 1, 1) := by decide +kernel
theorem dX3_record_74 : decode cX3_record 74 = .ok (.iadd, 1) := by decide +kernel
theorem dX3_record_75 : decode cX3_record 75 = .ok (.putfield 28, 3) := by decide +kernel
theorem dX3_record_78 : decode cX3_record 78 = .ok (.return_, 1) := by decide +kernel
theorem dX3_pianoPart_0 : decode cX3_pianoPart 0 = .ok (.aload_n 0, 1) := by decide +kernel
theorem dX3_pianoPart_1 : decode cX3_pianoPart 1 = .ok (.getfield 7, 3) := by decide +kernel
theorem dX3_pianoPart_4 : decode cX3_pianoPart 4 = .ok (.bipush 12, 2) := by decide +kernel
theorem dX3_pianoPart_6 : decode cX3_pianoPart 6 = .ok (.bipush 6, 2) := by decide +kernel
theorem dX3_pianoPart_8 : decode cX3_pianoPart 8 = .ok (.iload_n 1, 1) := by decide +kernel
theorem dX3_pianoPart_9 : decode cX3_pianoPart 9 = .ok (.imul, 1) := by decide +kernel
theorem dX3_pianoPart_10 : decode cX3_pianoPart 10 = .ok (.iadd, 1) := by decide +kernel
theorem dX3_pianoPart_11 : decode cX3_pianoPart 11 = .ok (.iload_n 2, 1) := by decide +kernel
theorem dX3_pianoPart_12 : decode cX3_pianoPart 12 = .ok (.iadd, 1) := by decide +kernel
theorem dX3_pianoPart_13 : decode cX3_pianoPart 13 = .ok (.iaload, 1) := by decide +kernel
theorem dX3_pianoPart_14 : decode cX3_pianoPart 14 = .ok (.ireturn, 1) := by decide +kernel
theorem dX3_setPiano_0 : decode cX3_setPiano 0 = .ok (.aload_n 0, 1) := by decide +kernel
theorem dX3_setPiano_1 : decode cX3_setPiano 1 = .ok (.getfield 7, 3) := by decide +kernel
theorem dX3_setPiano_4 : decode cX3_setPiano 4 = .ok (.bipush 12, 2) := by decide +kernel
theorem dX3_setPiano_6 : decode cX3_setPiano 6 = .ok (.bipush 6, 2) := by decide +kernel
theorem dX3_setPiano_8 : decode cX3_setPiano 8 = .ok (.iload_n 1, 1) := by decide +kernel
theorem dX3_setPiano_9 : decode cX3_setPiano 9 = .ok (.imul, 1) := by decide +kernel
theorem dX3_setPiano_10 : decode cX3_setPiano 10 = .ok (.iadd, 1) := by decide +kernel
theorem dX3_setPiano_11 : decode cX3_setPiano 11 = .ok (.iload_n 2, 1) := by decide +kernel
theorem dX3_setPiano_12 : decode cX3_setPiano 12 = .ok (.iadd, 1) := by decide +kernel
theorem dX3_setPiano_13 : decode cX3_setPiano 13 = .ok (.iload_n 3, 1) := by decide +kernel
theorem dX3_setPiano_14 : decode cX3_setPiano 14 = .ok (.iastore, 1) := by decide +kernel
theorem dX3_setPiano_15 : decode cX3_setPiano 15 = .ok (.return_, 1) := by decide +kernel
theorem dX3_keeperPart_0 : decode cX3_keeperPart 0 = .ok (.aload_n 0, 1) := by decide +kernel
theorem dX3_keeperPart_1 : decode cX3_keeperPart 1 = .ok (.getfield 7, 3) := by decide +kernel
theorem dX3_keeperPart_4 : decode cX3_keeperPart 4 = .ok (.bipush 84, 2) := by decide +kernel
theorem dX3_keeperPart_6 : decode cX3_keeperPart 6 = .ok (.iconst 5, 1) := by decide +kernel
theorem dX3_keeperPart_7 : decode cX3_keeperPart 7 = .ok (.iload_n 1, 1) := by decide +kernel
theorem dX3_keeperPart_8 : decode cX3_keeperPart 8 = .ok (.imul, 1) := by decide +kernel
theorem dX3_keeperPart_9 : decode cX3_keeperPart 9 = .ok (.iadd, 1) := by decide +kernel
theorem dX3_keeperPart_10 : decode cX3_keeperPart 10 = .ok (.iload_n 2, 1) := by decide +kernel
theorem dX3_keeperPart_11 : decode cX3_keeperPart 11 = .ok (.iadd, 1) := by decide +kernel
theorem dX3_keeperPart_12 : decode cX3_keeperPart 12 = .ok (.iaload, 1) := by decide +kernel
theorem dX3_keeperPart_13 : decode cX3_keeperPart 13 = .ok (.ireturn, 1) := by decide +kernel
theorem dX3_adds_0 : decode cX3_adds 0 = .ok (.aload_n 0, 1) := by decide +kernel
theorem dX3_adds_1 : decode cX3_adds 1 = .ok (.getfield 7, 3) := by decide +kernel
theorem dX3_adds_4 : decode cX3_adds 4 = .ok (.bipush 84, 2) := by decide +kernel
theorem dX3_adds_6 : decode cX3_adds 6 = .ok (.iconst 5, 1) := by decide +kernel
theorem dX3_adds_7 : decode cX3_adds 7 = .ok (.iload_n 1, 1) := by decide +kernel
theorem dX3_adds_8 : decode cX3_adds 8 = .ok (.imul, 1) := by decide +kernel
theorem dX3_adds_9 : decode cX3_adds 9 = .ok (.iadd, 1) := by decide +kernel
theorem dX3_adds_10 : decode cX3_adds 10 = .ok (.iload_n 2, 1) := by decide +kernel
theorem dX3_adds_11 : decode cX3_adds 11 = .ok (.iadd, 1) := by decide +kernel
theorem dX3_adds_12 : decode cX3_adds 12 = .ok (.dup2, 1) := by decide +kernel
theorem dX3_adds_13 : decode cX3_adds 13 = .ok (.iaload, 1) := by decide +kernel
theorem dX3_adds_14 : decode cX3_adds 14 = .ok (.iload_n 3, 1) := by decide +kernel
theorem dX3_adds_15 : decode cX3_adds 15 = .ok (.iadd, 1) := by decide +kernel
theorem dX3_adds_16 : decode cX3_adds 16 = .ok (.iastore, 1) := by decide +kernel
theorem dX3_adds_17 : decode cX3_adds 17 = .ok (.return_, 1) := by decide +kernel
set_option maxRecDepth 20000 in
theorem ggX3_isPlace_X3_within : GoodIn wsX3_isPlace wsX3_within := goodIn_r _ [4] (by decide +kernel) (by decide +kernel)
set_option maxRecDepth 20000 in
theorem gX3_isPlace_X3_within : GoodIn wsX3_isPlace (va_wsS RX3 36 yX3_within wsX3_within) := goodIn_app (goodIn_of _ (by decide +kernel)) ggX3_isPlace_X3_within
theorem dX3_isPlace_0 : decode cX3_isPlace 0 = .ok (.iload_n 0, 1) := by decide +kernel
theorem dX3_isPlace_1 : decode cX3_isPlace 1 = .ok (.iconst 0, 1) := by decide +kernel
theorem dX3_isPlace_2 : decode cX3_isPlace 2 = .ok (.bipush 11, 2) := by decide +kernel
theorem dX3_isPlace_4 : decode cX3_isPlace 4 = .ok (.invokestatic 36, 3) := by decide +kernel
theorem dX3_isPlace_7 : decode cX3_isPlace 7 = .ok (.ireturn, 1) := by decide +kernel
set_option maxRecDepth 20000 in
theorem ggX3_isPiano_X3_isPlace : GoodIn wsX3_isPiano wsX3_isPlace := goodIn_r _ [4, 5, 6, 3, 7] (by decide +kernel) (by decide +kernel)
set_option maxRecDepth 20000 in
theorem gX3_isPiano_X3_isPlace : GoodIn wsX3_isPiano (va_wsS RX3 40 yX3_isPlace wsX3_isPlace) := goodIn_app (goodIn_of _ (by decide +kernel)) ggX3_isPiano_X3_isPlace
set_option maxRecDepth 20000 in
theorem ggX3_isPiano_X3_pianoPart : GoodIn wsX3_isPiano wsX3_pianoPart := goodIn_r _ [11, 12, 13, 14, 15, 16, 17, 18, 19, 20, 21, 22, 23, 24, 25] (by decide +kernel) (by decide +kernel)
set_option maxRecDepth 20000 in
theorem gX3_isPiano_X3_pianoPart : GoodIn wsX3_isPiano (wsV RX3 44 RX3 yX3_pianoPart wsX3_pianoPart) := goodIn_app (goodIn_of _ (by decide +kernel)) ggX3_isPiano_X3_pianoPart
theorem dX3_isPiano_0 : decode cX3_isPiano 0 = .ok (.iload_n 1, 1) := by decide +kernel
theorem dX3_isPiano_1 : decode cX3_isPiano 1 = .ok (.invokestatic 40, 3) := by decide +kernel
theorem dX3_isPiano_4 : decode cX3_isPiano 4 = .ok (.ifCond .eq 17, 3) := by decide +kernel
theorem dX3_isPiano_7 : decode cX3_isPiano 7 = .ok (.aload_n 0, 1) := by decide +kernel
theorem dX3_isPiano_8 : decode cX3_isPiano 8 = .ok (.iload_n 1, 1) := by decide +kernel
theorem dX3_isPiano_9 : decode cX3_isPiano 9 = .ok (.iconst 0, 1) := by decide +kernel
theorem dX3_isPiano_10 : decode cX3_isPiano 10 = .ok (.invokevirtual 44, 3) := by decide +kernel
theorem dX3_isPiano_13 : decode cX3_isPiano 13 = .ok (.iconst 1, 1) := by decide +kernel
theorem dX3_isPiano_14 : decode cX3_isPiano 14 = .ok (.if_icmp .ne 7, 3) := by decide +kernel
theorem dX3_isPiano_17 : decode cX3_isPiano 17 = .ok (.iconst 1, 1) := by decide +kernel
theorem dX3_isPiano_18 : decode cX3_isPiano 18 = .ok (.goto 4, 3) := by decide +kernel
theorem dX3_isPiano_21 : decode cX3_isPiano 21 = .ok (.iconst 0, 1) := by decide +kernel
theorem dX3_isPiano_22 : decode cX3_isPiano 22 = .ok (.ireturn, 1) := by decide +kernel
set_option maxRecDepth 20000 in
theorem ggX3_isOpen_X3_isPiano : GoodIn wsX3_isOpen wsX3_isPiano := goodIn_r _ [5, 6, 7, 4, 8, 9, 10, 11, 12, 13, 14, 15, 16, 17, 18, 19, 20, 21, 22, 23, 24, 25, 26, 27, 28, 29] (by decide +kernel) (by decide +kernel)
set_option maxRecDepth 20000 in
theorem gX3_isOpen_X3_isPiano : GoodIn wsX3_isOpen (wsV RX3 48 RX3 yX3_isPiano wsX3_isPiano) := goodIn_app (goodIn_of _ (by decide +kernel)) ggX3_isOpen_X3_isPiano
set_option maxRecDepth 20000 in
theorem ggX3_isOpen_X3_pianoPart : GoodIn wsX3_isOpen wsX3_pianoPart := goodIn_r _ [15, 16, 17, 18, 19, 20, 21, 22, 23, 24, 25, 26, 27, 28, 29] (by decide +kernel) (by decide +kernel)
set_option maxRecDepth 20000 in
theorem gX3_isOpen_X3_pianoPart : GoodIn wsX3_isOpen (wsV RX3 44 RX3 yX3_pianoPart wsX3_pianoPart) := goodIn_app (goodIn_of _ (by decide +kernel)) ggX3_isOpen_X3_pianoPart
theorem dX3_isOpen_0 : decode cX3_isOpen 0 = .ok (.aload_n 0, 1) := by decide +kernel
theorem dX3_isOpen_1 : decode cX3_isOpen 1 = .ok (.iload_n 1, 1) := by decide +kernel
theorem dX3_isOpen_2 : decode cX3_isOpen 2 = .ok (.invokevirtual 48, 3) := by decide +kernel
theorem dX3_isOpen_5 : decode cX3_isOpen 5 = .ok (.ifCond .eq 17, 3) := by decide +kernel
theorem dX3_isOpen_8 : decode cX3_isOpen 8 = .ok (.aload_n 0, 1) := by decide +kernel
theorem dX3_isOpen_9 : decode cX3_isOpen 9 = .ok (.iload_n 1, 1) := by decide +kernel
theorem dX3_isOpen_10 : decode cX3_isOpen 10 = .ok (.iconst 3, 1) := by decide +kernel
theorem dX3_isOpen_11 : decode cX3_isOpen 11 = .ok (.invokevirtual 44, 3) := by decide +kernel
theorem dX3_isOpen_14 : decode cX3_isOpen 14 = .ok (.iconst 2, 1) := by decide +kernel
theorem dX3_isOpen_15 : decode cX3_isOpen 15 = .ok (.if_icmp .eq 7, 3) := by decide +kernel
theorem dX3_isOpen_18 : decode cX3_isOpen 18 = .ok (.iconst 1, 1) := by decide +kernel
theorem dX3_isOpen_19 : decode cX3_isOpen 19 = .ok (.goto 4, 3) := by decide +kernel
theorem dX3_isOpen_22 : decode cX3_isOpen 22 = .ok (.iconst 0, 1) := by decide +kernel
theorem dX3_isOpen_23 : decode cX3_isOpen 23 = .ok (.ireturn, 1) := by decide +kernel
theorem dX3_rainsIn_0 : decode cX3_rainsIn 0 = .ok (.aload_n 0, 1) := by decide +kernel
theorem dX3_rainsIn_1 : decode cX3_rainsIn 1 = .ok (.getfield 7, 3) := by decide +kernel
theorem dX3_rainsIn_4 : decode cX3_rainsIn 4 = .ok (.bipush 8, 2) := by decide +kernel
theorem dX3_rainsIn_6 : decode cX3_rainsIn 6 = .ok (.iaload, 1) := by decide +kernel
theorem dX3_rainsIn_7 : decode cX3_rainsIn 7 = .ok (.aload_n 0, 1) := by decide +kernel
theorem dX3_rainsIn_8 : decode cX3_rainsIn 8 = .ok (.getfield 7, 3) := by decide +kernel
theorem dX3_rainsIn_11 : decode cX3_rainsIn 11 = .ok (.bipush 7, 2) := by decide +kernel
theorem dX3_rainsIn_13 : decode cX3_rainsIn 13 = .ok (.iaload, 1) := by decide +kernel
theorem dX3_rainsIn_14 : decode cX3_rainsIn 14 = .ok (.iload_n 1, 1) := by decide +kernel
theorem dX3_rainsIn_15 : decode cX3_rainsIn 15 = .ok (.iadd, 1) := by decide +kernel
theorem dX3_rainsIn_16 : decode cX3_rainsIn 16 = .ok (.bipush 24, 2) := by decide +kernel
theorem dX3_rainsIn_18 : decode cX3_rainsIn 18 = .ok (.irem, 1) := by decide +kernel
theorem dX3_rainsIn_19 : decode cX3_rainsIn 19 = .ok (.ishr, 1) := by decide +kernel
theorem dX3_rainsIn_20 : decode cX3_rainsIn 20 = .ok (.iconst 1, 1) := by decide +kernel
theorem dX3_rainsIn_21 : decode cX3_rainsIn 21 = .ok (.iand, 1) := by decide +kernel
theorem dX3_rainsIn_22 : decode cX3_rainsIn 22 = .ok (.iconst 1, 1) := by decide +kernel
theorem dX3_rainsIn_23 : decode cX3_rainsIn 23 = .ok (.if_icmp .ne 7, 3) := by decide +kernel
theorem dX3_rainsIn_26 : decode cX3_rainsIn 26 = .ok (.iconst 1, 1) := by decide +kernel
theorem dX3_rainsIn_27 : decode cX3_rainsIn 27 = .ok (.goto 4, 3) := by decide +kernel
theorem dX3_rainsIn_30 : decode cX3_rainsIn 30 = .ok (.iconst 0, 1) := by decide +kernel
theorem dX3_rainsIn_31 : decode cX3_rainsIn 31 = .ok (.ireturn, 1) := by decide +kernel
set_option maxRecDepth 20000 in
theorem ggX3_isRainAhead_X3_rainsIn : GoodIn wsX3_isRainAhead wsX3_rainsIn := goodIn_r _ [6, 1, 7, 8, 9, 10, 11, 12, 13, 14, 15, 16, 17, 18, 19] (by decide +kernel) (by decide +kernel)
set_option maxRecDepth 20000 in
theorem gX3_isRainAhead_X3_rainsIn : GoodIn wsX3_isRainAhead (wsV RX3 51 RX3 yX3_rainsIn wsX3_rainsIn) := goodIn_app (goodIn_of _ (by decide +kernel)) ggX3_isRainAhead_X3_rainsIn
theorem dX3_isRainAhead_0 : decode cX3_isRainAhead 0 = .ok (.iconst 0, 1) := by decide +kernel
theorem dX3_isRainAhead_1 : decode cX3_isRainAhead 1 = .ok (.istore_n 1, 1) := by decide +kernel
theorem dX3_isRainAhead_2 : decode cX3_isRainAhead 2 = .ok (.iconst 0, 1) := by decide +kernel
theorem dX3_isRainAhead_3 : decode cX3_isRainAhead 3 = .ok (.istore_n 2, 1) := by decide +kernel
theorem dX3_isRainAhead_4 : decode cX3_isRainAhead 4 = .ok (.iload_n 2, 1) := by decide +kernel
theorem dX3_isRainAhead_5 : decode cX3_isRainAhead 5 = .ok (.aload_n 0, 1) := by decide +kernel
theorem dX3_isRainAhead_6 : decode cX3_isRainAhead 6 = .ok (.getfield 7, 3) := by decide +kernel
theorem dX3_isRainAhead_9 : decode cX3_isRainAhead 9 = .ok (.iconst 0, 1) := by decide +kernel
theorem dX3_isRainAhead_10 : decode cX3_isRainAhead 10 = .ok (.iaload, 1) := by decide +kernel
theorem dX3_isRainAhead_11 : decode cX3_isRainAhead 11 = .ok (.if_icmp .gt 27, 3) := by decide +kernel
theorem dX3_isRainAhead_14 : decode cX3_isRainAhead 14 = .ok (.iload_n 1, 1) := by decide +kernel
theorem dX3_isRainAhead_15 : decode cX3_isRainAhead 15 = .ok (.ifCond .ne 11, 3) := by decide +kernel
theorem dX3_isRainAhead_18 : decode cX3_isRainAhead 18 = .ok (.aload_n 0, 1) := by decide +kernel
theorem dX3_isRainAhead_19 : decode cX3_isRainAhead 19 = .ok (.iload_n 2, 1) := by decide +kernel
theorem dX3_isRainAhead_20 : decode cX3_isRainAhead 20 = .ok (.invokevirtual 51, 3) := by decide +kernel
theorem dX3_isRainAhead_23 : decode cX3_isRainAhead 23 = .ok (.ifCond .eq 7, 3) := by decide +kernel
theorem dX3_isRainAhead_26 : decode cX3_isRainAhead 26 = .ok (.iconst 1, 1) := by decide +kernel
theorem dX3_isRainAhead_27 : decode cX3_isRainAhead 27 = .ok (.goto 4, 3) := by decide +kernel
theorem dX3_isRainAhead_30 : decode cX3_isRainAhead 30 = .ok (.iconst 0, 1) := by decide +kernel
theorem dX3_isRainAhead_31 : decode cX3_isRainAhead 31 = .ok (.istore_n 1, 1) := by decide +kernel
theorem dX3_isRainAhead_32 : decode cX3_isRainAhead 32 = .ok (.iinc 2 1, 3) := by decide +kernel
theorem dX3_isRainAhead_35 : decode cX3_isRainAhead 35 = .ok (.goto (-31), 3) := by decide +kernel
theorem dX3_isRainAhead_38 : decode cX3_isRainAhead 38 = .ok (.iload_n 1, 1) := by decide +kernel
theorem dX3_isRainAhead_39 : decode cX3_isRainAhead 39 = .ok (.ireturn, 1) := by decide +kernel
set_option maxRecDepth 20000 in
theorem ggX3_keepersAt_X3_keeperPart : GoodIn wsX3_keepersAt wsX3_keeperPart := goodIn_r _ [6, 1, 7, 8, 9, 10, 11, 12, 13, 14, 15, 16, 17, 18, 19] (by decide +kernel) (by decide +kernel)
set_option maxRecDepth 20000 in
theorem gX3_keepersAt_X3_keeperPart : GoodIn wsX3_keepersAt (wsV RX3 54 RX3 yX3_keeperPart wsX3_keeperPart) := goodIn_app (goodIn_of _ (by decide +kernel)) ggX3_keepersAt_X3_keeperPart
theorem dX3_keepersAt_0 : decode cX3_keepersAt 0 = .ok (.iconst 0, 1) := by decide +kernel
theorem dX3_keepersAt_1 : decode cX3_keepersAt 1 = .ok (.istore_n 2, 1) := by decide +kernel
theorem dX3_keepersAt_2 : decode cX3_keepersAt 2 = .ok (.iconst 0, 1) := by decide +kernel
theorem dX3_keepersAt_3 : decode cX3_keepersAt 3 = .ok (.istore_n 3, 1) := by decide +kernel
theorem dX3_keepersAt_4 : decode cX3_keepersAt 4 = .ok (.iload_n 3, 1) := by decide +kernel
theorem dX3_keepersAt_5 : decode cX3_keepersAt 5 = .ok (.aload_n 0, 1) := by decide +kernel
theorem dX3_keepersAt_6 : decode cX3_keepersAt 6 = .ok (.getfield 7, 3) := by decide +kernel
theorem dX3_keepersAt_9 : decode cX3_keepersAt 9 = .ok (.bipush 11, 2) := by decide +kernel
theorem dX3_keepersAt_11 : decode cX3_keepersAt 11 = .ok (.iaload, 1) := by decide +kernel
theorem dX3_keepersAt_12 : decode cX3_keepersAt 12 = .ok (.if_icmp .ge 27, 3) := by decide +kernel
theorem dX3_keepersAt_15 : decode cX3_keepersAt 15 = .ok (.iload_n 2, 1) := by decide +kernel
theorem dX3_keepersAt_16 : decode cX3_keepersAt 16 = .ok (.aload_n 0, 1) := by decide +kernel
theorem dX3_keepersAt_17 : decode cX3_keepersAt 17 = .ok (.iload_n 3, 1) := by decide +kernel
theorem dX3_keepersAt_18 : decode cX3_keepersAt 18 = .ok (.iconst 0, 1) := by decide +kernel
theorem dX3_keepersAt_19 : decode cX3_keepersAt 19 = .ok (.invokevirtual 54, 3) := by decide +kernel
theorem dX3_keepersAt_22 : decode cX3_keepersAt 22 = .ok (.iload_n 1, 1) := by decide +kernel
theorem dX3_keepersAt_23 : decode cX3_keepersAt 23 = .ok (.if_icmp .ne 7, 3) := by decide +kernel
theorem dX3_keepersAt_26 : decode cX3_keepersAt 26 = .ok (.iconst 1, 1) := by decide +kernel
theorem dX3_keepersAt_27 : decode cX3_keepersAt 27 = .ok (.goto 4, 3) := by decide +kernel
theorem dX3_keepersAt_30 : decode cX3_keepersAt 30 = .ok (.iconst 0, 1) := by decide +kernel
theorem dX3_keepersAt_31 : decode cX3_keepersAt 31 = .ok (.iadd, 1) := by decide +kernel
theorem dX3_keepersAt_32 : decode cX3_keepersAt 32 = .ok (.istore_n 2, 1) := by decide +kernel
theorem dX3_keepersAt_33 : decode cX3_keepersAt 33 = .ok (.iinc 3 1, 3) := by decide +kernel
theorem dX3_keepersAt_36 : decode cX3_keepersAt 36 = .ok (.goto (-32), 3) := by decide +kernel
theorem dX3_keepersAt_39 : decode cX3_keepersAt 39 = .ok (.iload_n 2, 1) := by decide +kernel
theorem dX3_keepersAt_40 : decode cX3_keepersAt 40 = .ok (.ireturn, 1) := by decide +kernel
set_option maxRecDepth 20000 in
theorem ggX3_pianosThere_X3_pianoPart : GoodIn wsX3_pianosThere wsX3_pianoPart := goodIn_r _ [5, 6, 7, 8, 9, 10, 11, 12, 13, 14, 15, 16, 17, 18, 19] (by decide +kernel) (by decide +kernel)
set_option maxRecDepth 20000 in
theorem gX3_pianosThere_X3_pianoPart : GoodIn wsX3_pianosThere (wsV RX3 44 RX3 yX3_pianoPart wsX3_pianoPart) := goodIn_app (goodIn_of _ (by decide +kernel)) ggX3_pianosThere_X3_pianoPart
theorem dX3_pianosThere_0 : decode cX3_pianosThere 0 = .ok (.iconst 0, 1) := by decide +kernel
theorem dX3_pianosThere_1 : decode cX3_pianosThere 1 = .ok (.istore_n 1, 1) := by decide +kernel
theorem dX3_pianosThere_2 : decode cX3_pianosThere 2 = .ok (.iconst 0, 1) := by decide +kernel
theorem dX3_pianosThere_3 : decode cX3_pianosThere 3 = .ok (.istore_n 2, 1) := by decide +kernel
theorem dX3_pianosThere_4 : decode cX3_pianosThere 4 = .ok (.iload_n 2, 1) := by decide +kernel
theorem dX3_pianosThere_5 : decode cX3_pianosThere 5 = .ok (.bipush 12, 2) := by decide +kernel
theorem dX3_pianosThere_7 : decode cX3_pianosThere 7 = .ok (.if_icmp .ge 18, 3) := by decide +kernel
theorem dX3_pianosThere_10 : decode cX3_pianosThere 10 = .ok (.iload_n 1, 1) := by decide +kernel
theorem dX3_pianosThere_11 : decode cX3_pianosThere 11 = .ok (.aload_n 0, 1) := by decide +kernel
theorem dX3_pianosThere_12 : decode cX3_pianosThere 12 = .ok (.iload_n 2, 1) := by decide +kernel
theorem dX3_pianosThere_13 : decode cX3_pianosThere 13 = .ok (.iconst 0, 1) := by decide +kernel
theorem dX3_pianosThere_14 : decode cX3_pianosThere 14 = .ok (.invokevirtual 44, 3) := by decide +kernel
theorem dX3_pianosThere_17 : decode cX3_pianosThere 17 = .ok (.iadd, 1) := by decide +kernel
theorem dX3_pianosThere_18 : decode cX3_pianosThere 18 = .ok (.istore_n 1, 1) := by decide +kernel
theorem dX3_pianosThere_19 : decode cX3_pianosThere 19 = .ok (.iinc 2 1, 3) := by decide +kernel
theorem dX3_pianosThere_22 : decode cX3_pianosThere 22 = .ok (.goto (-18), 3) := by decide +kernel
theorem dX3_pianosThere_25 : decode cX3_pianosThere 25 = .ok (.iload_n 1, 1) := by decide +kernel
theorem dX3_pianosThere_26 : decode cX3_pianosThere 26 = .ok (.ireturn, 1) := by decide +kernel
set_option maxRecDepth 20000 in
theorem ggX3_isWanted_X3_isPiano : GoodIn wsX3_isWanted wsX3_isPiano := goodIn_r _ [7, 8, 9, 6, 10, 11, 12, 13, 14, 15, 16, 17, 2, 22, 23, 24, 25, 26, 27, 28, 29, 30, 31, 32, 33, 34] (by decide +kernel) (by decide +kernel)
set_option maxRecDepth 20000 in
theorem gX3_isWanted_X3_isPiano : GoodIn wsX3_isWanted (wsV RX3 48 RX3 yX3_isPiano wsX3_isPiano) := goodIn_app (goodIn_of _ (by decide +kernel)) ggX3_isWanted_X3_isPiano
set_option maxRecDepth 20000 in
theorem ggX3_isWanted_X3_pianoPart : GoodIn wsX3_isWanted wsX3_pianoPart := goodIn_r _ [17, 2, 22, 23, 24, 25, 26, 27, 28, 29, 30, 31, 32, 33, 34] (by decide +kernel) (by decide +kernel)
set_option maxRecDepth 20000 in
theorem gX3_isWanted_X3_pianoPart : GoodIn wsX3_isWanted (wsV RX3 44 RX3 yX3_pianoPart wsX3_pianoPart) := goodIn_app (goodIn_of _ (by decide +kernel)) ggX3_isWanted_X3_pianoPart
set_option maxRecDepth 20000 in
theorem ggX3_isWanted_X3_isOpen : GoodIn wsX3_isWanted wsX3_isOpen := goodIn_r _ [21, 3, 4, 5, 6, 7, 8, 9, 10, 11, 12, 13, 14, 15, 16, 17, 2, 22, 23, 24, 25, 26, 27, 28, 29, 30, 31, 32, 33, 34] (by decide +kernel) (by decide +kernel)
set_option maxRecDepth 20000 in
theorem gX3_isWanted_X3_isOpen : GoodIn wsX3_isWanted (wsV RX3 60 RX3 yX3_isOpen wsX3_isOpen) := goodIn_app (goodIn_of _ (by decide +kernel)) ggX3_isWanted_X3_isOpen
theorem dX3_isWanted_0 : decode cX3_isWanted 0 = .ok (.aload_n 0, 1) := by decide +kernel
theorem dX3_isWanted_1 : decode cX3_isWanted 1 = .ok (.iload_n 1, 1) := by decide +kernel
theorem dX3_isWanted_2 : decode cX3_isWanted 2 = .ok (.invokevirtual 48, 3) := by decide +kernel
theorem dX3_isWanted_5 : decode cX3_isWanted 5 = .ok (.ifCond .eq 15, 3) := by decide +kernel
theorem dX3_isWanted_8 : decode cX3_isWanted 8 = .ok (.aload_n 0, 1) := by decide +kernel
theorem dX3_isWanted_9 : decode cX3_isWanted 9 = .ok (.getfield 57, 3) := by decide +kernel
theorem dX3_isWanted_12 : decode cX3_isWanted 12 = .ok (.iload_n 1, 1) := by decide +kernel
theorem dX3_isWanted_13 : decode cX3_isWanted 13 = .ok (.ishr, 1) := by decide +kernel
theorem dX3_isWanted_14 : decode cX3_isWanted 14 = .ok (.iconst 1, 1) := by decide +kernel
theorem dX3_isWanted_15 : decode cX3_isWanted 15 = .ok (.iand, 1) := by decide +kernel
theorem dX3_isWanted_16 : decode cX3_isWanted 16 = .ok (.iconst 1, 1) := by decide +kernel
theorem dX3_isWanted_17 : decode cX3_isWanted 17 = .ok (.if_icmp .ne 5, 3) := by decide +kernel
theorem dX3_isWanted_20 : decode cX3_isWanted 20 = .ok (.iconst 0, 1) := by decide +kernel
theorem dX3_isWanted_21 : decode cX3_isWanted 21 = .ok (.ireturn, 1) := by decide +kernel
theorem dX3_isWanted_22 : decode cX3_isWanted 22 = .ok (.iload_n 2, 1) := by decide +kernel
theorem dX3_isWanted_23 : decode cX3_isWanted 23 = .ok (.iconst 3, 1) := by decide +kernel
theorem dX3_isWanted_24 : decode cX3_isWanted 24 = .ok (.if_icmp .ge 21, 3) := by decide +kernel
theorem dX3_isWanted_27 : decode cX3_isWanted 27 = .ok (.aload_n 0, 1) := by decide +kernel
theorem dX3_isWanted_28 : decode cX3_isWanted 28 = .ok (.iload_n 1, 1) := by decide +kernel
theorem dX3_isWanted_29 : decode cX3_isWanted 29 = .ok (.iconst 3, 1) := by decide +kernel
theorem dX3_isWanted_30 : decode cX3_isWanted 30 = .ok (.invokevirtual 44, 3) := by decide +kernel
theorem dX3_isWanted_33 : decode cX3_isWanted 33 = .ok (.iload_n 2, 1) := by decide +kernel
theorem dX3_isWanted_34 : decode cX3_isWanted 34 = .ok (.if_icmp .ne 7, 3) := by decide +kernel
theorem dX3_isWanted_37 : decode cX3_isWanted 37 = .ok (.iconst 1, 1) := by decide +kernel
theorem dX3_isWanted_38 : decode cX3_isWanted 38 = .ok (.goto 35, 3) := by decide +kernel
theorem dX3_isWanted_41 : decode cX3_isWanted 41 = .ok (.iconst 0, 1) := by decide +kernel
theorem dX3_isWanted_42 : decode cX3_isWanted 42 = .ok (.goto 31, 3) := by decide +kernel
theorem dX3_isWanted_45 : decode cX3_isWanted 45 = .ok (.aload_n 0, 1) := by decide +kernel
theorem dX3_isWanted_46 : decode cX3_isWanted 46 = .ok (.iload_n 1, 1) := by decide +kernel
theorem dX3_isWanted_47 : decode cX3_isWanted 47 = .ok (.invokevirtual 60, 3) := by decide +kernel
theorem dX3_isWanted_50 : decode cX3_isWanted 50 = .ok (.ifCond .eq 22, 3) := by decide +kernel
theorem dX3_isWanted_53 : decode cX3_isWanted 53 = .ok (.aload_n 0, 1) := by decide +kernel
theorem dX3_isWanted_54 : decode cX3_isWanted 54 = .ok (.iload_n 1, 1) := by decide +kernel
theorem dX3_isWanted_55 : decode cX3_isWanted 55 = .ok (.iconst 1, 1) := by decide +kernel
theorem dX3_isWanted_56 : decode cX3_isWanted 56 = .ok (.invokevirtual 44, 3) := by decide +kernel
theorem dX3_isWanted_59 : decode cX3_isWanted 59 = .ok (.aload_n 0, 1) := by decide +kernel
theorem dX3_isWanted_60 : decode cX3_isWanted 60 = .ok (.getfield 7, 3) := by decide +kernel
theorem dX3_isWanted_63 : decode cX3_isWanted 63 = .ok (.iconst 5, 1) := by decide +kernel
theorem dX3_isWanted_64 : decode cX3_isWanted 64 = .ok (.iaload, 1) := by decide +kernel
theorem dX3_isWanted_65 : decode cX3_isWanted 65 = .ok (.if_icmp .ge 7, 3) := by decide +kernel
theorem dX3_isWanted_68 : decode cX3_isWanted 68 = .ok (.iconst 1, 1) := by decide +kernel
theorem dX3_isWanted_69 : decode cX3_isWanted 69 = .ok (.goto 4, 3) := by decide +kernel
theorem dX3_isWanted_72 : decode cX3_isWanted 72 = .ok (.iconst 0, 1) := by decide +kernel
theorem dX3_isWanted_73 : decode cX3_isWanted 73 = .ok (.ireturn, 1) := by decide +kernel
set_option maxRecDepth 20000 in
theorem ggX3_nearest_X3_isWanted : GoodIn wsX3_nearest wsX3_isWanted := goodIn_r _ [5, 6, 7, 8, 9, 10, 4, 11, 12, 13, 14, 15, 16, 17, 18, 19, 20, 21, 22, 23, 24, 25, 33, 34, 35, 36, 37, 38, 39, 40, 41, 42, 43, 44, 45] (by decide +kernel) (by decide +kernel)
set_option maxRecDepth 20000 in
theorem gX3_nearest_X3_isWanted : GoodIn wsX3_nearest (wsV RX3 63 RX3 yX3_isWanted wsX3_isWanted) := goodIn_app (goodIn_of _ (by decide +kernel)) ggX3_nearest_X3_isWanted
set_option maxRecDepth 20000 in
theorem ggX3_nearest_X3_keeperPart : GoodIn wsX3_nearest wsX3_keeperPart := goodIn_r _ [29, 7, 33, 34, 35, 36, 37, 38, 39, 40, 41, 42, 43, 44, 45] (by decide +kernel) (by decide +kernel)
set_option maxRecDepth 20000 in
theorem gX3_nearest_X3_keeperPart : GoodIn wsX3_nearest (wsV RX3 54 RX3 yX3_keeperPart wsX3_keeperPart) := goodIn_app (goodIn_of _ (by decide +kernel)) ggX3_nearest_X3_keeperPart
set_option maxRecDepth 20000 in
theorem ggX3_nearest_X3_size : GoodIn wsX3_nearest wsX3_size := goodIn_r _ [32] (by decide +kernel) (by decide +kernel)
set_option maxRecDepth 20000 in
theorem gX3_nearest_X3_size : GoodIn wsX3_nearest (va_wsS RX3 67 yX3_size wsX3_size) := goodIn_app (goodIn_of _ (by decide +kernel)) ggX3_nearest_X3_size
theorem dX3_nearest_0 : decode cX3_nearest 0 = .ok (.bipush (-6), 2) := by decide +kernel
theorem dX3_nearest_2 : decode cX3_nearest 2 = .ok (.istore_n 3, 1) := by decide +kernel
theorem dX3_nearest_3 : decode cX3_nearest 3 = .ok (.iconst 0, 1) := by decide +kernel
theorem dX3_nearest_4 : decode cX3_nearest 4 = .ok (.istore 4, 2) := by decide +kernel
theorem dX3_nearest_6 : decode cX3_nearest 6 = .ok (.iload 4, 2) := by decide +kernel
theorem dX3_nearest_8 : decode cX3_nearest 8 = .ok (.bipush 12, 2) := by decide +kernel
theorem dX3_nearest_10 : decode cX3_nearest 10 = .ok (.if_icmp .ge 70, 3) := by decide +kernel
theorem dX3_nearest_13 : decode cX3_nearest 13 = .ok (.aload_n 0, 1) := by decide +kernel
theorem dX3_nearest_14 : decode cX3_nearest 14 = .ok (.iload 4, 2) := by decide +kernel
theorem dX3_nearest_16 : decode cX3_nearest 16 = .ok (.iload_n 2, 1) := by decide +kernel
theorem dX3_nearest_17 : decode cX3_nearest 17 = .ok (.invokevirtual 63, 3) := by decide +kernel
theorem dX3_nearest_20 : decode cX3_nearest 20 = .ok (.ifCond .eq 39, 3) := by decide +kernel
theorem dX3_nearest_23 : decode cX3_nearest 23 = .ok (.iload_n 3, 1) := by decide +kernel
theorem dX3_nearest_24 : decode cX3_nearest 24 = .ok (.bipush (-6), 2) := by decide +kernel
theorem dX3_nearest_26 : decode cX3_nearest 26 = .ok (.if_icmp .eq 29, 3) := by decide +kernel
theorem dX3_nearest_29 : decode cX3_nearest 29 = .ok (.iload 4, 2) := by decide +kernel
theorem dX3_nearest_31 : decode cX3_nearest 31 = .ok (.aload_n 0, 1) := by decide +kernel
theorem dX3_nearest_32 : decode cX3_nearest 32 = .ok (.iload_n 1, 1) := by decide +kernel
theorem dX3_nearest_33 : decode cX3_nearest 33 = .ok (.iconst 0, 1) := by decide +kernel
theorem dX3_nearest_34 : decode cX3_nearest 34 = .ok (.invokevirtual 54, 3) := by decide +kernel
theorem dX3_nearest_37 : decode cX3_nearest 37 = .ok (.isub, 1) := by decide +kernel
theorem dX3_nearest_38 : decode cX3_nearest 38 = .ok (.invokestatic 67, 3) := by decide +kernel
theorem dX3_nearest_41 : decode cX3_nearest 41 = .ok (.iload_n 3, 1) := by decide +kernel
theorem dX3_nearest_42 : decode cX3_nearest 42 = .ok (.aload_n 0, 1) := by decide +kernel
theorem dX3_nearest_43 : decode cX3_nearest 43 = .ok (.iload_n 1, 1) := by decide +kernel
theorem dX3_nearest_44 : decode cX3_nearest 44 = .ok (.iconst 0, 1) := by decide +kernel
theorem dX3_nearest_45 : decode cX3_nearest 45 = .ok (.invokevirtual 54, 3) := by decide +kernel
theorem dX3_nearest_48 : decode cX3_nearest 48 = .ok (.isub, 1) := by decide +kernel
theorem dX3_nearest_49 : decode cX3_nearest 49 = .ok (.invokestatic 67, 3) := by decide +kernel
theorem dX3_nearest_52 : decode cX3_nearest 52 = .ok (.if_icmp .ge 7, 3) := by decide +kernel
theorem dX3_nearest_55 : decode cX3_nearest 55 = .ok (.iconst 1, 1) := by decide +kernel
theorem dX3_nearest_56 : decode cX3_nearest 56 = .ok (.goto 4, 3) := by decide +kernel
theorem dX3_nearest_59 : decode cX3_nearest 59 = .ok (.iconst 0, 1) := by decide +kernel
theorem dX3_nearest_60 : decode cX3_nearest 60 = .ok (.istore 5, 2) := by decide +kernel
theorem dX3_nearest_62 : decode cX3_nearest 62 = .ok (.iload 5, 2) := by decide +kernel
theorem dX3_nearest_64 : decode cX3_nearest 64 = .ok (.ifCond .eq 8, 3) := by decide +kernel
theorem dX3_nearest_67 : decode cX3_nearest 67 = .ok (.iload 4, 2) := by decide +kernel
theorem dX3_nearest_69 : decode cX3_nearest 69 = .ok (.goto 4, 3) := by decide +kernel
theorem dX3_nearest_72 : decode cX3_nearest 72 = .ok (.iload_n 3, 1) := by decide +kernel
theorem dX3_nearest_73 : decode cX3_nearest 73 = .ok (.istore_n 3, 1) := by decide +kernel
theorem dX3_nearest_74 : decode cX3_nearest 74 = .ok (.iinc 4 1, 3) := by decide +kernel
theorem dX3_nearest_77 : decode cX3_nearest 77 = .ok (.goto (-71), 3) := by decide +kernel
theorem dX3_nearest_80 : decode cX3_nearest 80 = .ok (.iload_n 3, 1) := by decide +kernel
theorem dX3_nearest_81 : decode cX3_nearest 81 = .ok (.ireturn, 1) := by decide +kernel
set_option maxRecDepth 20000 in
theorem ggX3_does_X3_keeperPart : GoodIn wsX3_does wsX3_keeperPart := goodIn_r _ [5, 6, 22, 23, 24, 25, 26, 27, 28, 29, 30, 31, 32, 33, 34] (by decide +kernel) (by decide +kernel)
set_option maxRecDepth 20000 in
theorem gX3_does_X3_keeperPart : GoodIn wsX3_does (wsV RX3 54 RX3 yX3_keeperPart wsX3_keeperPart) := goodIn_app (goodIn_of _ (by decide +kernel)) ggX3_does_X3_keeperPart
set_option maxRecDepth 20000 in
theorem ggX3_does_X3_adds : GoodIn wsX3_does wsX3_adds := goodIn_r _ [10, 6, 22, 23, 24, 25, 26, 27, 28, 29, 30, 31, 32, 33, 34] (by decide +kernel) (by decide +kernel)
set_option maxRecDepth 20000 in
theorem gX3_does_X3_adds : GoodIn wsX3_does (wsV RX3 71 RX3 yX3_adds wsX3_adds) := goodIn_app (goodIn_of _ (by decide +kernel)) ggX3_does_X3_adds
set_option maxRecDepth 20000 in
theorem ggX3_does_X3_setPiano : GoodIn wsX3_does wsX3_setPiano := goodIn_r _ [14, 6, 22, 23, 24, 25, 26, 27, 28, 29, 30, 31, 32, 33, 34] (by decide +kernel) (by decide +kernel)
set_option maxRecDepth 20000 in
theorem gX3_does_X3_setPiano : GoodIn wsX3_does (wsV RX3 75 RX3 yX3_setPiano wsX3_setPiano) := goodIn_app (goodIn_of _ (by decide +kernel)) ggX3_does_X3_setPiano
set_option maxRecDepth 20000 in
theorem ggX3_does_X3_pianoPart : GoodIn wsX3_does wsX3_pianoPart := goodIn_r _ [18, 6, 22, 23, 24, 25, 26, 27, 28, 29, 30, 31, 32, 33, 34] (by decide +kernel) (by decide +kernel)
set_option maxRecDepth 20000 in
theorem gX3_does_X3_pianoPart : GoodIn wsX3_does (wsV RX3 44 RX3 yX3_pianoPart wsX3_pianoPart) := goodIn_app (goodIn_of _ (by decide +kernel)) ggX3_does_X3_pianoPart
set_option maxRecDepth 20000 in
theorem ggX3_does_X3_held : GoodIn wsX3_does wsX3_held := goodIn_r _ [21] (by decide +kernel) (by decide +kernel)
set_option maxRecDepth 20000 in
theorem gX3_does_X3_held : GoodIn wsX3_does (va_wsS RX3 78 yX3_held wsX3_held) := goodIn_app (goodIn_of _ (by decide +kernel)) ggX3_does_X3_held
theorem dX3_does_0 : decode cX3_does 0 = .ok (.aload_n 0, 1) := by decide +kernel
theorem dX3_does_1 : decode cX3_does 1 = .ok (.iload_n 1, 1) := by decide +kernel
theorem dX3_does_2 : decode cX3_does 2 = .ok (.iconst 0, 1) := by decide +kernel
theorem dX3_does_3 : decode cX3_does 3 = .ok (.invokevirtual 54, 3) := by decide +kernel
theorem dX3_does_6 : decode cX3_does 6 = .ok (.iload_n 2, 1) := by decide +kernel
theorem dX3_does_7 : decode cX3_does 7 = .ok (.if_icmp .eq 34, 3) := by decide +kernel
theorem dX3_does_10 : decode cX3_does 10 = .ok (.aload_n 0, 1) := by decide +kernel
theorem dX3_does_11 : decode cX3_does 11 = .ok (.iload_n 1, 1) := by decide +kernel
theorem dX3_does_12 : decode cX3_does 12 = .ok (.iconst 0, 1) := by decide +kernel
theorem dX3_does_13 : decode cX3_does 13 = .ok (.aload_n 0, 1) := by decide +kernel
theorem dX3_does_14 : decode cX3_does 14 = .ok (.iload_n 1, 1) := by decide +kernel
theorem dX3_does_15 : decode cX3_does 15 = .ok (.iconst 0, 1) := by decide +kernel
theorem dX3_does_16 : decode cX3_does 16 = .ok (.invokevirtual 54, 3) := by decide +kernel
theorem dX3_does_19 : decode cX3_does 19 = .ok (.iload_n 2, 1) := by decide +kernel
theorem dX3_does_20 : decode cX3_does 20 = .ok (.if_icmp .ge 7, 3) := by decide +kernel
theorem dX3_does_23 : decode cX3_does 23 = .ok (.iconst 1, 1) := by decide +kernel
theorem dX3_does_24 : decode cX3_does 24 = .ok (.goto 4, 3) := by decide +kernel
theorem dX3_does_27 : decode cX3_does 27 = .ok (.iconst (-1), 1) := by decide +kernel
theorem dX3_does_28 : decode cX3_does 28 = .ok (.invokevirtual 71, 3) := by decide +kernel
theorem dX3_does_31 : decode cX3_does 31 = .ok (.aload_n 0, 1) := by decide +kernel
theorem dX3_does_32 : decode cX3_does 32 = .ok (.iload_n 1, 1) := by decide +kernel
theorem dX3_does_33 : decode cX3_does 33 = .ok (.iconst 4, 1) := by decide +kernel
theorem dX3_does_34 : decode cX3_does 34 = .ok (.iconst 1, 1) := by decide +kernel
theorem dX3_does_35 : decode cX3_does 35 = .ok (.invokevirtual 71, 3) := by decide +kernel
theorem dX3_does_38 : decode cX3_does 38 = .ok (.goto 61, 3) := by decide +kernel
theorem dX3_does_41 : decode cX3_does 41 = .ok (.iload_n 3, 1) := by decide +kernel
theorem dX3_does_42 : decode cX3_does 42 = .ok (.iconst 3, 1) := by decide +kernel
theorem dX3_does_43 : decode cX3_does 43 = .ok (.if_icmp .ge 31, 3) := by decide +kernel
theorem dX3_does_46 : decode cX3_does 46 = .ok (.aload_n 0, 1) := by decide +kernel
theorem dX3_does_47 : decode cX3_does 47 = .ok (.iload_n 2, 1) := by decide +kernel
theorem dX3_does_48 : decode cX3_does 48 = .ok (.iconst 3, 1) := by decide +kernel
theorem dX3_does_49 : decode cX3_does 49 = .ok (.iconst 3, 1) := by decide +kernel
theorem dX3_does_50 : decode cX3_does 50 = .ok (.iload_n 3, 1) := by decide +kernel
theorem dX3_does_51 : decode cX3_does 51 = .ok (.isub, 1) := by decide +kernel
theorem dX3_does_52 : decode cX3_does 52 = .ok (.invokevirtual 75, 3) := by decide +kernel
theorem dX3_does_55 : decode cX3_does 55 = .ok (.aload_n 0, 1) := by decide +kernel
theorem dX3_does_56 : decode cX3_does 56 = .ok (.iload_n 1, 1) := by decide +kernel
theorem dX3_does_57 : decode cX3_does 57 = .ok (.iload_n 3, 1) := by decide +kernel
theorem dX3_does_58 : decode cX3_does 58 = .ok (.iconst 1, 1) := by decide +kernel
theorem dX3_does_59 : decode cX3_does 59 = .ok (.if_icmp .ne 7, 3) := by decide +kernel
theorem dX3_does_62 : decode cX3_does 62 = .ok (.iconst 1, 1) := by decide +kernel
theorem dX3_does_63 : decode cX3_does 63 = .ok (.goto 4, 3) := by decide +kernel
theorem dX3_does_66 : decode cX3_does 66 = .ok (.iconst 2, 1) := by decide +kernel
theorem dX3_does_67 : decode cX3_does 67 = .ok (.iconst 1, 1) := by decide +kernel
theorem dX3_does_68 : decode cX3_does 68 = .ok (.invokevirtual 71, 3) := by decide +kernel
theorem dX3_does_71 : decode cX3_does 71 = .ok (.goto 28, 3) := by decide +kernel
theorem dX3_does_74 : decode cX3_does 74 = .ok (.aload_n 0, 1) := by decide +kernel
theorem dX3_does_75 : decode cX3_does 75 = .ok (.iload_n 2, 1) := by decide +kernel
theorem dX3_does_76 : decode cX3_does 76 = .ok (.iconst 1, 1) := by decide +kernel
theorem dX3_does_77 : decode cX3_does 77 = .ok (.aload_n 0, 1) := by decide +kernel
theorem dX3_does_78 : decode cX3_does 78 = .ok (.iload_n 2, 1) := by decide +kernel
theorem dX3_does_79 : decode cX3_does 79 = .ok (.iconst 1, 1) := by decide +kernel
theorem dX3_does_80 : decode cX3_does 80 = .ok (.invokevirtual 44, 3) := by decide +kernel
theorem dX3_does_83 : decode cX3_does 83 = .ok (.bipush 10, 2) := by decide +kernel
theorem dX3_does_85 : decode cX3_does 85 = .ok (.iadd, 1) := by decide +kernel
theorem dX3_does_86 : decode cX3_does 86 = .ok (.invokestatic 78, 3) := by decide +kernel
theorem dX3_does_89 : decode cX3_does 89 = .ok (.invokevirtual 75, 3) := by decide +kernel
theorem dX3_does_92 : decode cX3_does 92 = .ok (.aload_n 0, 1) := by decide +kernel
theorem dX3_does_93 : decode cX3_does 93 = .ok (.iload_n 1, 1) := by decide +kernel
theorem dX3_does_94 : decode cX3_does 94 = .ok (.iconst 3, 1) := by decide +kernel
theorem dX3_does_95 : decode cX3_does 95 = .ok (.iconst 1, 1) := by decide +kernel
theorem dX3_does_96 : decode cX3_does 96 = .ok (.invokevirtual 71, 3) := by decide +kernel
theorem dX3_does_99 : decode cX3_does 99 = .ok (.return_, 1) := by decide +kernel
set_option maxRecDepth 20000 in
theorem ggX3_keeperGoes_X3_nearest : GoodIn wsX3_keeperGoes wsX3_nearest := goodIn_r _ [6, 7, 8, 9, 5, 10, 1, 11, 12, 13, 14, 15, 16, 17, 18, 19, 20, 21, 22, 23, 24, 25, 26, 27, 28, 29, 30, 31, 32, 33, 34, 35, 36, 52, 53, 54, 55, 56, 57, 58, 59, 60, 61, 62, 63, 64] (by decide +kernel) (by decide +kernel)
set_option maxRecDepth 20000 in
theorem gX3_keeperGoes_X3_nearest : GoodIn wsX3_keeperGoes (wsV RX3 81 RX3 yX3_nearest wsX3_nearest) := goodIn_app (goodIn_of _ (by decide +kernel)) ggX3_keeperGoes_X3_nearest
set_option maxRecDepth 20000 in
theorem ggX3_keeperGoes_X3_does : GoodIn wsX3_keeperGoes wsX3_does := goodIn_r _ [40, 30, 31, 32, 5, 33, 11, 41, 42, 43, 44, 45, 46, 47, 48, 22, 23, 24, 25, 49, 50, 51, 52, 53, 54, 55, 56, 57, 58, 59, 60, 61, 62, 63, 64] (by decide +kernel) (by decide +kernel)
set_option maxRecDepth 20000 in
theorem gX3_keeperGoes_X3_does : GoodIn wsX3_keeperGoes (wsV RX3 84 RX3 yX3_does wsX3_does) := goodIn_app (goodIn_of _ (by decide +kernel)) ggX3_keeperGoes_X3_does
theorem dX3_keeperGoes_0 : decode cX3_keeperGoes 0 = .ok (.iload_n 2, 1) := by decide +kernel
theorem dX3_keeperGoes_1 : decode cX3_keeperGoes 1 = .ok (.ifCond .eq 7, 3) := by decide +kernel
theorem dX3_keeperGoes_4 : decode cX3_keeperGoes 4 = .ok (.iconst 1, 1) := by decide +kernel
theorem dX3_keeperGoes_5 : decode cX3_keeperGoes 5 = .ok (.goto 4, 3) := by decide +kernel
theorem dX3_keeperGoes_8 : decode cX3_keeperGoes 8 = .ok (.iconst 2, 1) := by decide +kernel
theorem dX3_keeperGoes_9 : decode cX3_keeperGoes 9 = .ok (.istore_n 3, 1) := by decide +kernel
theorem dX3_keeperGoes_10 : decode cX3_keeperGoes 10 = .ok (.aload_n 0, 1) := by decide +kernel
theorem dX3_keeperGoes_11 : decode cX3_keeperGoes 11 = .ok (.iload_n 1, 1) := by decide +kernel
theorem dX3_keeperGoes_12 : decode cX3_keeperGoes 12 = .ok (.iload_n 3, 1) := by decide +kernel
theorem dX3_keeperGoes_13 : decode cX3_keeperGoes 13 = .ok (.invokevirtual 81, 3) := by decide +kernel
theorem dX3_keeperGoes_16 : decode cX3_keeperGoes 16 = .ok (.istore 4, 2) := by decide +kernel
theorem dX3_keeperGoes_18 : decode cX3_keeperGoes 18 = .ok (.iload 4, 2) := by decide +kernel
theorem dX3_keeperGoes_20 : decode cX3_keeperGoes 20 = .ok (.bipush (-6), 2) := by decide +kernel
theorem dX3_keeperGoes_22 : decode cX3_keeperGoes 22 = .ok (.if_icmp .ne 13, 3) := by decide +kernel
theorem dX3_keeperGoes_25 : decode cX3_keeperGoes 25 = .ok (.iconst 3, 1) := by decide +kernel
theorem dX3_keeperGoes_26 : decode cX3_keeperGoes 26 = .ok (.istore_n 3, 1) := by decide +kernel
theorem dX3_keeperGoes_27 : decode cX3_keeperGoes 27 = .ok (.aload_n 0, 1) := by decide +kernel
theorem dX3_keeperGoes_28 : decode cX3_keeperGoes 28 = .ok (.iload_n 1, 1) := by decide +kernel
theorem dX3_keeperGoes_29 : decode cX3_keeperGoes 29 = .ok (.iload_n 3, 1) := by decide +kernel
theorem dX3_keeperGoes_30 : decode cX3_keeperGoes 30 = .ok (.invokevirtual 81, 3) := by decide +kernel
theorem dX3_keeperGoes_33 : decode cX3_keeperGoes 33 = .ok (.istore 4, 2) := by decide +kernel
theorem dX3_keeperGoes_35 : decode cX3_keeperGoes 35 = .ok (.iload 4, 2) := by decide +kernel
theorem dX3_keeperGoes_37 : decode cX3_keeperGoes 37 = .ok (.bipush (-6), 2) := by decide +kernel
theorem dX3_keeperGoes_39 : decode cX3_keeperGoes 39 = .ok (.if_icmp .eq 24, 3) := by decide +kernel
theorem dX3_keeperGoes_42 : decode cX3_keeperGoes 42 = .ok (.aload_n 0, 1) := by decide +kernel
theorem dX3_keeperGoes_43 : decode cX3_keeperGoes 43 = .ok (.dup, 1) := by decide +kernel
theorem dX3_keeperGoes_44 : decode cX3_keeperGoes 44 = .ok (.getfield 57, 3) := by decide +kernel
theorem dX3_keeperGoes_47 : decode cX3_keeperGoes 47 = .ok (.iconst 1, 1) := by decide +kernel
theorem dX3_keeperGoes_48 : decode cX3_keeperGoes 48 = .ok (.iload 4, 2) := by decide +kernel
theorem dX3_keeperGoes_50 : decode cX3_keeperGoes 50 = .ok (.ishl, 1) := by decide +kernel
theorem dX3_keeperGoes_51 : decode cX3_keeperGoes 51 = .ok (.ior, 1) := by decide +kernel
theorem dX3_keeperGoes_52 : decode cX3_keeperGoes 52 = .ok (.putfield 57, 3) := by decide +kernel
theorem dX3_keeperGoes_55 : decode cX3_keeperGoes 55 = .ok (.aload_n 0, 1) := by decide +kernel
theorem dX3_keeperGoes_56 : decode cX3_keeperGoes 56 = .ok (.iload_n 1, 1) := by decide +kernel
theorem dX3_keeperGoes_57 : decode cX3_keeperGoes 57 = .ok (.iload 4, 2) := by decide +kernel
theorem dX3_keeperGoes_59 : decode cX3_keeperGoes 59 = .ok (.iload_n 3, 1) := by decide +kernel
theorem dX3_keeperGoes_60 : decode cX3_keeperGoes 60 = .ok (.invokevirtual 84, 3) := by decide +kernel
theorem dX3_keeperGoes_63 : decode cX3_keeperGoes 63 = .ok (.return_, 1) := by decide +kernel
set_option maxRecDepth 20000 in
theorem ggX3_keepersGo_X3_isRainAhead : GoodIn wsX3_keepersGo wsX3_isRainAhead := goodIn_r _ [7, 2, 8, 9, 10, 6, 11, 64, 65, 66, 67, 68, 69, 70, 71, 72, 73, 74, 75, 76] (by decide +kernel) (by decide +kernel)
set_option maxRecDepth 20000 in
theorem gX3_keepersGo_X3_isRainAhead : GoodIn wsX3_keepersGo (wsV RX3 87 RX3 yX3_isRainAhead wsX3_isRainAhead) := goodIn_app (goodIn_of _ (by decide +kernel)) ggX3_keepersGo_X3_isRainAhead
set_option maxRecDepth 20000 in
theorem ggX3_keepersGo_X3_keeperGoes : GoodIn wsX3_keepersGo wsX3_keeperGoes := goodIn_r _ [15, 1, 16, 17, 18, 6, 19, 20, 21, 22, 23, 2, 24, 25, 26, 27, 28, 29, 30, 31, 32, 33, 34, 35, 36, 37, 38, 39, 40, 41, 42, 43, 44, 45, 46, 47, 48, 49, 50, 51, 52, 53, 54, 55, 56, 57, 58, 59, 60, 61, 62, 63, 64, 65, 66, 67, 68, 69, 70, 71, 72, 73, 74, 75, 76] (by decide +kernel) (by decide +kernel)
set_option maxRecDepth 20000 in
theorem gX3_keepersGo_X3_keeperGoes : GoodIn wsX3_keepersGo (wsV RX3 91 RX3 yX3_keeperGoes wsX3_keeperGoes) := goodIn_app (goodIn_of _ (by decide +kernel)) ggX3_keepersGo_X3_keeperGoes
theorem dX3_keepersGo_0 : decode cX3_keepersGo 0 = .ok (.aload_n 0, 1) := by decide +kernel
theorem dX3_keepersGo_1 : decode cX3_keepersGo 1 = .ok (.invokevirtual 87, 3) := by decide +kernel
theorem dX3_keepersGo_4 : decode cX3_keepersGo 4 = .ok (.istore_n 1, 1) := by decide +kernel
theorem dX3_keepersGo_5 : decode cX3_keepersGo 5 = .ok (.aload_n 0, 1) := by decide +kernel
theorem dX3_keepersGo_6 : decode cX3_keepersGo 6 = .ok (.iconst 0, 1) := by decide +kernel
theorem dX3_keepersGo_7 : decode cX3_keepersGo 7 = .ok (.putfield 57, 3) := by decide +kernel
theorem dX3_keepersGo_10 : decode cX3_keepersGo 10 = .ok (.iconst 0, 1) := by decide +kernel
theorem dX3_keepersGo_11 : decode cX3_keepersGo 11 = .ok (.istore_n 2, 1) := by decide +kernel
theorem dX3_keepersGo_12 : decode cX3_keepersGo 12 = .ok (.iload_n 2, 1) := by decide +kernel
theorem dX3_keepersGo_13 : decode cX3_keepersGo 13 = .ok (.aload_n 0, 1) := by decide +kernel
theorem dX3_keepersGo_14 : decode cX3_keepersGo 14 = .ok (.getfield 7, 3) := by decide +kernel
theorem dX3_keepersGo_17 : decode cX3_keepersGo 17 = .ok (.bipush 11, 2) := by decide +kernel
theorem dX3_keepersGo_19 : decode cX3_keepersGo 19 = .ok (.iaload, 1) := by decide +kernel
theorem dX3_keepersGo_20 : decode cX3_keepersGo 20 = .ok (.if_icmp .ge 15, 3) := by decide +kernel
theorem dX3_keepersGo_23 : decode cX3_keepersGo 23 = .ok (.aload_n 0, 1) := by decide +kernel
theorem dX3_keepersGo_24 : decode cX3_keepersGo 24 = .ok (.iload_n 2, 1) := by decide +kernel
theorem dX3_keepersGo_25 : decode cX3_keepersGo 25 = .ok (.iload_n 1, 1) := by decide +kernel
theorem dX3_keepersGo_26 : decode cX3_keepersGo 26 = .ok (.invokevirtual 91, 3) := by decide +kernel
theorem dX3_keepersGo_29 : decode cX3_keepersGo 29 = .ok (.iinc 2 1, 3) := by decide +kernel
theorem dX3_keepersGo_32 : decode cX3_keepersGo 32 = .ok (.goto (-20), 3) := by decide +kernel
theorem dX3_keepersGo_35 : decode cX3_keepersGo 35 = .ok (.return_, 1) := by decide +kernel
set_option maxRecDepth 20000 in
theorem ggX3_rainsOn_X3_pianoPart : GoodIn wsX3_rainsOn wsX3_pianoPart := goodIn_r _ [6, 1, 14, 15, 16, 17, 18, 19, 20, 21, 22, 23, 24, 25, 26] (by decide +kernel) (by decide +kernel)
set_option maxRecDepth 20000 in
theorem gX3_rainsOn_X3_pianoPart : GoodIn wsX3_rainsOn (wsV RX3 44 RX3 yX3_pianoPart wsX3_pianoPart) := goodIn_app (goodIn_of _ (by decide +kernel)) ggX3_rainsOn_X3_pianoPart
set_option maxRecDepth 20000 in
theorem ggX3_rainsOn_X3_held : GoodIn wsX3_rainsOn wsX3_held := goodIn_r _ [9] (by decide +kernel) (by decide +kernel)
set_option maxRecDepth 20000 in
theorem gX3_rainsOn_X3_held : GoodIn wsX3_rainsOn (va_wsS RX3 78 yX3_held wsX3_held) := goodIn_app (goodIn_of _ (by decide +kernel)) ggX3_rainsOn_X3_held
set_option maxRecDepth 20000 in
theorem ggX3_rainsOn_X3_setPiano : GoodIn wsX3_rainsOn wsX3_setPiano := goodIn_r _ [13, 1, 14, 15, 16, 17, 18, 19, 20, 21, 22, 23, 24, 25, 26] (by decide +kernel) (by decide +kernel)
set_option maxRecDepth 20000 in
theorem gX3_rainsOn_X3_setPiano : GoodIn wsX3_rainsOn (wsV RX3 75 RX3 yX3_setPiano wsX3_setPiano) := goodIn_app (goodIn_of _ (by decide +kernel)) ggX3_rainsOn_X3_setPiano
theorem dX3_rainsOn_0 : decode cX3_rainsOn 0 = .ok (.aload_n 0, 1) := by decide +kernel
theorem dX3_rainsOn_1 : decode cX3_rainsOn 1 = .ok (.iload_n 1, 1) := by decide +kernel
theorem dX3_rainsOn_2 : decode cX3_rainsOn 2 = .ok (.iconst 2, 1) := by decide +kernel
theorem dX3_rainsOn_3 : decode cX3_rainsOn 3 = .ok (.aload_n 0, 1) := by decide +kernel
theorem dX3_rainsOn_4 : decode cX3_rainsOn 4 = .ok (.iload_n 1, 1) := by decide +kernel
theorem dX3_rainsOn_5 : decode cX3_rainsOn 5 = .ok (.iconst 2, 1) := by decide +kernel
theorem dX3_rainsOn_6 : decode cX3_rainsOn 6 = .ok (.invokevirtual 44, 3) := by decide +kernel
theorem dX3_rainsOn_9 : decode cX3_rainsOn 9 = .ok (.aload_n 0, 1) := by decide +kernel
theorem dX3_rainsOn_10 : decode cX3_rainsOn 10 = .ok (.getfield 7, 3) := by decide +kernel
theorem dX3_rainsOn_13 : decode cX3_rainsOn 13 = .ok (.iconst 1, 1) := by decide +kernel
theorem dX3_rainsOn_14 : decode cX3_rainsOn 14 = .ok (.iaload, 1) := by decide +kernel
theorem dX3_rainsOn_15 : decode cX3_rainsOn 15 = .ok (.iadd, 1) := by decide +kernel
theorem dX3_rainsOn_16 : decode cX3_rainsOn 16 = .ok (.invokestatic 78, 3) := by decide +kernel
theorem dX3_rainsOn_19 : decode cX3_rainsOn 19 = .ok (.invokevirtual 75, 3) := by decide +kernel
theorem dX3_rainsOn_22 : decode cX3_rainsOn 22 = .ok (.aload_n 0, 1) := by decide +kernel
theorem dX3_rainsOn_23 : decode cX3_rainsOn 23 = .ok (.iload_n 1, 1) := by decide +kernel
theorem dX3_rainsOn_24 : decode cX3_rainsOn 24 = .ok (.iconst 1, 1) := by decide +kernel
theorem dX3_rainsOn_25 : decode cX3_rainsOn 25 = .ok (.aload_n 0, 1) := by decide +kernel
theorem dX3_rainsOn_26 : decode cX3_rainsOn 26 = .ok (.iload_n 1, 1) := by decide +kernel
theorem dX3_rainsOn_27 : decode cX3_rainsOn 27 = .ok (.iconst 1, 1) := by decide +kernel
theorem dX3_rainsOn_28 : decode cX3_rainsOn 28 = .ok (.invokevirtual 44, 3) := by decide +kernel
theorem dX3_rainsOn_31 : decode cX3_rainsOn 31 = .ok (.aload_n 0, 1) := by decide +kernel
theorem dX3_rainsOn_32 : decode cX3_rainsOn 32 = .ok (.getfield 7, 3) := by decide +kernel
theorem dX3_rainsOn_35 : decode cX3_rainsOn 35 = .ok (.iconst 3, 1) := by decide +kernel
theorem dX3_rainsOn_36 : decode cX3_rainsOn 36 = .ok (.iaload, 1) := by decide +kernel
theorem dX3_rainsOn_37 : decode cX3_rainsOn 37 = .ok (.isub, 1) := by decide +kernel
theorem dX3_rainsOn_38 : decode cX3_rainsOn 38 = .ok (.invokestatic 78, 3) := by decide +kernel
theorem dX3_rainsOn_41 : decode cX3_rainsOn 41 = .ok (.invokevirtual 75, 3) := by decide +kernel
theorem dX3_rainsOn_44 : decode cX3_rainsOn 44 = .ok (.aload_n 0, 1) := by decide +kernel
theorem dX3_rainsOn_45 : decode cX3_rainsOn 45 = .ok (.iload_n 1, 1) := by decide +kernel
theorem dX3_rainsOn_46 : decode cX3_rainsOn 46 = .ok (.iconst 5, 1) := by decide +kernel
theorem dX3_rainsOn_47 : decode cX3_rainsOn 47 = .ok (.aload_n 0, 1) := by decide +kernel
theorem dX3_rainsOn_48 : decode cX3_rainsOn 48 = .ok (.iload_n 1, 1) := by decide +kernel
theorem dX3_rainsOn_49 : decode cX3_rainsOn 49 = .ok (.iconst 5, 1) := by decide +kernel
theorem dX3_rainsOn_50 : decode cX3_rainsOn 50 = .ok (.invokevirtual 44, 3) := by decide +kernel
theorem dX3_rainsOn_53 : decode cX3_rainsOn 53 = .ok (.iconst 1, 1) := by decide +kernel
theorem dX3_rainsOn_54 : decode cX3_rainsOn 54 = .ok (.iadd, 1) := by decide +kernel
theorem dX3_rainsOn_55 : decode cX3_rainsOn 55 = .ok (.invokevirtual 75, 3) := by decide +kernel
theorem dX3_rainsOn_58 : decode cX3_rainsOn 58 = .ok (.return_, 1) := by decide +kernel
set_option maxRecDepth 20000 in
theorem ggX3_dries_X3_pianoPart : GoodIn wsX3_dries wsX3_pianoPart := goodIn_r _ [6, 1, 17, 18, 19, 20, 21, 22, 23, 24, 25, 26, 27, 28, 29] (by decide +kernel) (by decide +kernel)
set_option maxRecDepth 20000 in
theorem gX3_dries_X3_pianoPart : GoodIn wsX3_dries (wsV RX3 44 RX3 yX3_pianoPart wsX3_pianoPart) := goodIn_app (goodIn_of _ (by decide +kernel)) ggX3_dries_X3_pianoPart
set_option maxRecDepth 20000 in
theorem ggX3_dries_X3_held : GoodIn wsX3_dries wsX3_held := goodIn_r _ [9] (by decide +kernel) (by decide +kernel)
set_option maxRecDepth 20000 in
theorem gX3_dries_X3_held : GoodIn wsX3_dries (va_wsS RX3 78 yX3_held wsX3_held) := goodIn_app (goodIn_of _ (by decide +kernel)) ggX3_dries_X3_held
set_option maxRecDepth 20000 in
theorem ggX3_dries_X3_setPiano : GoodIn wsX3_dries wsX3_setPiano := goodIn_r _ [13, 1, 17, 18, 19, 20, 21, 22, 23, 24, 25, 26, 27, 28, 29] (by decide +kernel) (by decide +kernel)
set_option maxRecDepth 20000 in
theorem gX3_dries_X3_setPiano : GoodIn wsX3_dries (wsV RX3 75 RX3 yX3_setPiano wsX3_setPiano) := goodIn_app (goodIn_of _ (by decide +kernel)) ggX3_dries_X3_setPiano
set_option maxRecDepth 20000 in
theorem ggX3_dries_X3_within : GoodIn wsX3_dries wsX3_within := goodIn_r _ [16] (by decide +kernel) (by decide +kernel)
set_option maxRecDepth 20000 in
theorem gX3_dries_X3_within : GoodIn wsX3_dries (va_wsS RX3 36 yX3_within wsX3_within) := goodIn_app (goodIn_of _ (by decide +kernel)) ggX3_dries_X3_within
theorem dX3_dries_0 : decode cX3_dries 0 = .ok (.aload_n 0, 1) := by decide +kernel
theorem dX3_dries_1 : decode cX3_dries 1 = .ok (.iload_n 1, 1) := by decide +kernel
theorem dX3_dries_2 : decode cX3_dries 2 = .ok (.iconst 2, 1) := by decide +kernel
theorem dX3_dries_3 : decode cX3_dries 3 = .ok (.aload_n 0, 1) := by decide +kernel
theorem dX3_dries_4 : decode cX3_dries 4 = .ok (.iload_n 1, 1) := by decide +kernel
theorem dX3_dries_5 : decode cX3_dries 5 = .ok (.iconst 2, 1) := by decide +kernel
theorem dX3_dries_6 : decode cX3_dries 6 = .ok (.invokevirtual 44, 3) := by decide +kernel
theorem dX3_dries_9 : decode cX3_dries 9 = .ok (.aload_n 0, 1) := by decide +kernel
theorem dX3_dries_10 : decode cX3_dries 10 = .ok (.getfield 7, 3) := by decide +kernel
theorem dX3_dries_13 : decode cX3_dries 13 = .ok (.iconst 2, 1) := by decide +kernel
theorem dX3_dries_14 : decode cX3_dries 14 = .ok (.iaload, 1) := by decide +kernel
theorem dX3_dries_15 : decode cX3_dries 15 = .ok (.isub, 1) := by decide +kernel
theorem dX3_dries_16 : decode cX3_dries 16 = .ok (.invokestatic 78, 3) := by decide +kernel
theorem dX3_dries_19 : decode cX3_dries 19 = .ok (.invokevirtual 75, 3) := by decide +kernel
theorem dX3_dries_22 : decode cX3_dries 22 = .ok (.iload_n 2, 1) := by decide +kernel
theorem dX3_dries_23 : decode cX3_dries 23 = .ok (.bipush 8, 2) := by decide +kernel
theorem dX3_dries_25 : decode cX3_dries 25 = .ok (.bipush 21, 2) := by decide +kernel
theorem dX3_dries_27 : decode cX3_dries 27 = .ok (.invokestatic 36, 3) := by decide +kernel
theorem dX3_dries_30 : decode cX3_dries 30 = .ok (.ifCond .eq 73, 3) := by decide +kernel
theorem dX3_dries_33 : decode cX3_dries 33 = .ok (.aload_n 0, 1) := by decide +kernel
theorem dX3_dries_34 : decode cX3_dries 34 = .ok (.iload_n 1, 1) := by decide +kernel
theorem dX3_dries_35 : decode cX3_dries 35 = .ok (.iconst 2, 1) := by decide +kernel
theorem dX3_dries_36 : decode cX3_dries 36 = .ok (.invokevirtual 44, 3) := by decide +kernel
theorem dX3_dries_39 : decode cX3_dries 39 = .ok (.bipush 50, 2) := by decide +kernel
theorem dX3_dries_41 : decode cX3_dries 41 = .ok (.if_icmp .ge 62, 3) := by decide +kernel
theorem dX3_dries_44 : decode cX3_dries 44 = .ok (.aload_n 0, 1) := by decide +kernel
theorem dX3_dries_45 : decode cX3_dries 45 = .ok (.getfield 7, 3) := by decide +kernel
theorem dX3_dries_48 : decode cX3_dries 48 = .ok (.iconst 4, 1) := by decide +kernel
theorem dX3_dries_49 : decode cX3_dries 49 = .ok (.iaload, 1) := by decide +kernel
theorem dX3_dries_50 : decode cX3_dries 50 = .ok (.aload_n 0, 1) := by decide +kernel
theorem dX3_dries_51 : decode cX3_dries 51 = .ok (.iload_n 1, 1) := by decide +kernel
theorem dX3_dries_52 : decode cX3_dries 52 = .ok (.iconst 1, 1) := by decide +kernel
theorem dX3_dries_53 : decode cX3_dries 53 = .ok (.invokevirtual 44, 3) := by decide +kernel
theorem dX3_dries_56 : decode cX3_dries 56 = .ok (.imul, 1) := by decide +kernel
theorem dX3_dries_57 : decode cX3_dries 57 = .ok (.bipush 100, 2) := by decide +kernel
theorem dX3_dries_59 : decode cX3_dries 59 = .ok (.idiv, 1) := by decide +kernel
theorem dX3_dries_60 : decode cX3_dries 60 = .ok (.istore_n 3, 1) := by decide +kernel
theorem dX3_dries_61 : decode cX3_dries 61 = .ok (.aload_n 0, 1) := by decide +kernel
theorem dX3_dries_62 : decode cX3_dries 62 = .ok (.iload_n 1, 1) := by decide +kernel
theorem dX3_dries_63 : decode cX3_dries 63 = .ok (.iconst 4, 1) := by decide +kernel
theorem dX3_dries_64 : decode cX3_dries 64 = .ok (.aload_n 0, 1) := by decide +kernel
theorem dX3_dries_65 : decode cX3_dries 65 = .ok (.iload_n 1, 1) := by decide +kernel
theorem dX3_dries_66 : decode cX3_dries 66 = .ok (.iconst 4, 1) := by decide +kernel
theorem dX3_dries_67 : decode cX3_dries 67 = .ok (.invokevirtual 44, 3) := by decide +kernel
theorem dX3_dries_70 : decode cX3_dries 70 = .ok (.iload_n 3, 1) := by decide +kernel
theorem dX3_dries_71 : decode cX3_dries 71 = .ok (.iadd, 1) := by decide +kernel
theorem dX3_dries_72 : decode cX3_dries 72 = .ok (.invokevirtual 75, 3) := by decide +kernel
theorem dX3_dries_75 : decode cX3_dries 75 = .ok (.aload_n 0, 1) := by decide +kernel
theorem dX3_dries_76 : decode cX3_dries 76 = .ok (.iload_n 1, 1) := by decide +kernel
theorem dX3_dries_77 : decode cX3_dries 77 = .ok (.iconst 1, 1) := by decide +kernel
theorem dX3_dries_78 : decode cX3_dries 78 = .ok (.aload_n 0, 1) := by decide +kernel
theorem dX3_dries_79 : decode cX3_dries 79 = .ok (.iload_n 1, 1) := by decide +kernel
theorem dX3_dries_80 : decode cX3_dries 80 = .ok (.iconst 1, 1) := by decide +kernel
theorem dX3_dries_81 : decode cX3_dries 81 = .ok (.invokevirtual 44, 3) := by decide +kernel
theorem dX3_dries_84 : decode cX3_dries 84 = .ok (.iconst 1, 1) := by decide +kernel
theorem dX3_dries_85 : decode cX3_dries 85 = .ok (.isub, 1) := by decide +kernel
theorem dX3_dries_86 : decode cX3_dries 86 = .ok (.invokestatic 78, 3) := by decide +kernel
theorem dX3_dries_89 : decode cX3_dries 89 = .ok (.invokevirtual 75, 3) := by decide +kernel
theorem dX3_dries_92 : decode cX3_dries 92 = .ok (.aload_n 0, 1) := by decide +kernel
theorem dX3_dries_93 : decode cX3_dries 93 = .ok (.getfield 7, 3) := by decide +kernel
theorem dX3_dries_96 : decode cX3_dries 96 = .ok (.bipush 9, 2) := by decide +kernel
theorem dX3_dries_98 : decode cX3_dries 98 = .ok (.dup2, 1) := by decide +kernel
theorem dX3_dries_99 : decode cX3_dries 99 = .ok (.iaload, 1) := by decide +kernel
theorem dX3_dries_100 : decode cX3_dries 100 = .ok (.iload_n 3, 1) := by decide +kernel
theorem dX3_dries_101 : decode cX3_dries 101 = .ok (.iadd, 1) := by decide +kernel
theorem dX3_dries_102 : decode cX3_dries 102 = .ok (.iastore, 1) := by decide +kernel
theorem dX3_dries_103 : decode cX3_dries 103 = .ok (.return_, 1) := by decide +kernel
set_option maxRecDepth 20000 in
theorem ggX3_thieves_X3_isPiano : GoodIn wsX3_thieves wsX3_isPiano := goodIn_r _ [6, 7, 8, 5, 9, 10, 11, 12, 13, 14, 15, 16, 1, 29, 30, 31, 32, 33, 34, 35, 36, 37, 38, 39, 40, 41] (by decide +kernel) (by decide +kernel)
set_option maxRecDepth 20000 in
theorem gX3_thieves_X3_isPiano : GoodIn wsX3_thieves (wsV RX3 48 RX3 yX3_isPiano wsX3_isPiano) := goodIn_app (goodIn_of _ (by decide +kernel)) ggX3_thieves_X3_isPiano
set_option maxRecDepth 20000 in
theorem ggX3_thieves_X3_pianoPart : GoodIn wsX3_thieves wsX3_pianoPart := goodIn_r _ [16, 1, 29, 30, 31, 32, 33, 34, 35, 36, 37, 38, 39, 40, 41] (by decide +kernel) (by decide +kernel)
set_option maxRecDepth 20000 in
theorem gX3_thieves_X3_pianoPart : GoodIn wsX3_thieves (wsV RX3 44 RX3 yX3_pianoPart wsX3_pianoPart) := goodIn_app (goodIn_of _ (by decide +kernel)) ggX3_thieves_X3_pianoPart
set_option maxRecDepth 20000 in
theorem ggX3_thieves_X3_keepersAt : GoodIn wsX3_thieves wsX3_keepersAt := goodIn_r _ [20, 1, 21, 22, 23, 5, 24, 29, 30, 31, 32, 33, 34, 35, 36, 37, 38, 39, 40, 41] (by decide +kernel) (by decide +kernel)
set_option maxRecDepth 20000 in
theorem gX3_thieves_X3_keepersAt : GoodIn wsX3_thieves (wsV RX3 95 RX3 yX3_keepersAt wsX3_keepersAt) := goodIn_app (goodIn_of _ (by decide +kernel)) ggX3_thieves_X3_keepersAt
set_option maxRecDepth 20000 in
theorem ggX3_thieves_X3_setPiano : GoodIn wsX3_thieves wsX3_setPiano := goodIn_r _ [28, 1, 29, 30, 31, 32, 33, 34, 35, 36, 37, 38, 39, 40, 41] (by decide +kernel) (by decide +kernel)
set_option maxRecDepth 20000 in
theorem gX3_thieves_X3_setPiano : GoodIn wsX3_thieves (wsV RX3 75 RX3 yX3_setPiano wsX3_setPiano) := goodIn_app (goodIn_of _ (by decide +kernel)) ggX3_thieves_X3_setPiano
theorem dX3_thieves_0 : decode cX3_thieves 0 = .ok (.iconst 0, 1) := by decide +kernel
theorem dX3_thieves_1 : decode cX3_thieves 1 = .ok (.istore_n 1, 1) := by decide +kernel
theorem dX3_thieves_2 : decode cX3_thieves 2 = .ok (.iload_n 1, 1) := by decide +kernel
theorem dX3_thieves_3 : decode cX3_thieves 3 = .ok (.bipush 12, 2) := by decide +kernel
theorem dX3_thieves_5 : decode cX3_thieves 5 = .ok (.if_icmp .ge 88, 3) := by decide +kernel
theorem dX3_thieves_8 : decode cX3_thieves 8 = .ok (.aload_n 0, 1) := by decide +kernel
theorem dX3_thieves_9 : decode cX3_thieves 9 = .ok (.iload_n 1, 1) := by decide +kernel
theorem dX3_thieves_10 : decode cX3_thieves 10 = .ok (.invokevirtual 48, 3) := by decide +kernel
theorem dX3_thieves_13 : decode cX3_thieves 13 = .ok (.ifCond .eq 25, 3) := by decide +kernel
theorem dX3_thieves_16 : decode cX3_thieves 16 = .ok (.aload_n 0, 1) := by decide +kernel
theorem dX3_thieves_17 : decode cX3_thieves 17 = .ok (.iload_n 1, 1) := by decide +kernel
theorem dX3_thieves_18 : decode cX3_thieves 18 = .ok (.iconst 3, 1) := by decide +kernel
theorem dX3_thieves_19 : decode cX3_thieves 19 = .ok (.invokevirtual 44, 3) := by decide +kernel
theorem dX3_thieves_22 : decode cX3_thieves 22 = .ok (.iconst 1, 1) := by decide +kernel
theorem dX3_thieves_23 : decode cX3_thieves 23 = .ok (.if_icmp .ne 15, 3) := by decide +kernel
theorem dX3_thieves_26 : decode cX3_thieves 26 = .ok (.aload_n 0, 1) := by decide +kernel
theorem dX3_thieves_27 : decode cX3_thieves 27 = .ok (.iload_n 1, 1) := by decide +kernel
theorem dX3_thieves_28 : decode cX3_thieves 28 = .ok (.invokevirtual 95, 3) := by decide +kernel
theorem dX3_thieves_31 : decode cX3_thieves 31 = .ok (.ifCond .ne 7, 3) := by decide +kernel
theorem dX3_thieves_34 : decode cX3_thieves 34 = .ok (.iconst 1, 1) := by decide +kernel
theorem dX3_thieves_35 : decode cX3_thieves 35 = .ok (.goto 4, 3) := by decide +kernel
theorem dX3_thieves_38 : decode cX3_thieves 38 = .ok (.iconst 0, 1) := by decide +kernel
theorem dX3_thieves_39 : decode cX3_thieves 39 = .ok (.istore_n 2, 1) := by decide +kernel
theorem dX3_thieves_40 : decode cX3_thieves 40 = .ok (.iload_n 2, 1) := by decide +kernel
theorem dX3_thieves_41 : decode cX3_thieves 41 = .ok (.ifCond .eq 46, 3) := by decide +kernel
theorem dX3_thieves_44 : decode cX3_thieves 44 = .ok (.bipush 7, 2) := by decide +kernel
theorem dX3_thieves_46 : decode cX3_thieves 46 = .ok (.aload_n 0, 1) := by decide +kernel
theorem dX3_thieves_47 : decode cX3_thieves 47 = .ok (.getfield 7, 3) := by decide +kernel
theorem dX3_thieves_50 : decode cX3_thieves 50 = .ok (.bipush 7, 2) := by decide +kernel
theorem dX3_thieves_52 : decode cX3_thieves 52 = .ok (.iaload, 1) := by decide +kernel
theorem dX3_thieves_53 : decode cX3_thieves 53 = .ok (.imul, 1) := by decide +kernel
theorem dX3_thieves_54 : decode cX3_thieves 54 = .ok (.iconst 3, 1) := by decide +kernel
theorem dX3_thieves_55 : decode cX3_thieves 55 = .ok (.iload_n 1, 1) := by decide +kernel
theorem dX3_thieves_56 : decode cX3_thieves 56 = .ok (.imul, 1) := by decide +kernel
theorem dX3_thieves_57 : decode cX3_thieves 57 = .ok (.iadd, 1) := by decide +kernel
theorem dX3_thieves_58 : decode cX3_thieves 58 = .ok (.aload_n 0, 1) := by decide +kernel
theorem dX3_thieves_59 : decode cX3_thieves 59 = .ok (.getfield 7, 3) := by decide +kernel
theorem dX3_thieves_62 : decode cX3_thieves 62 = .ok (.bipush 6, 2) := by decide +kernel
theorem dX3_thieves_64 : decode cX3_thieves 64 = .ok (.iaload, 1) := by decide +kernel
theorem dX3_thieves_65 : decode cX3_thieves 65 = .ok (.irem, 1) := by decide +kernel
theorem dX3_thieves_66 : decode cX3_thieves 66 = .ok (.ifCond .ne 21, 3) := by decide +kernel
theorem dX3_thieves_69 : decode cX3_thieves 69 = .ok (.aload_n 0, 1) := by decide +kernel
theorem dX3_thieves_70 : decode cX3_thieves 70 = .ok (.iload_n 1, 1) := by decide +kernel
theorem dX3_thieves_71 : decode cX3_thieves 71 = .ok (.iconst 3, 1) := by decide +kernel
theorem dX3_thieves_72 : decode cX3_thieves 72 = .ok (.iconst 0, 1) := by decide +kernel
theorem dX3_thieves_73 : decode cX3_thieves 73 = .ok (.invokevirtual 75, 3) := by decide +kernel
theorem dX3_thieves_76 : decode cX3_thieves 76 = .ok (.aload_n 0, 1) := by decide +kernel
theorem dX3_thieves_77 : decode cX3_thieves 77 = .ok (.getfield 7, 3) := by decide +kernel
theorem dX3_thieves_80 : decode cX3_thieves 80 = .ok (.bipush 10, 2) := by decide +kernel
theorem dX3_thieves_82 : decode cX3_thieves 82 = .ok (.dup2, 1) := by decide +kernel
theorem dX3_thieves_83 : decode cX3_thieves 83 = .ok (.iaload, 1) := by decide +kernel
theorem dX3_thieves_84 : decode cX3_thieves 84 = .ok (.iconst 1, 1) := by decide +kernel
theorem dX3_thieves_85 : decode cX3_thieves 85 = .ok (.iadd, 1) := by decide +kernel
theorem dX3_thieves_86 : decode cX3_thieves 86 = .ok (.iastore, 1) := by decide +kernel
theorem dX3_thieves_87 : decode cX3_thieves 87 = .ok (.iinc 1 1, 3) := by decide +kernel
theorem dX3_thieves_90 : decode cX3_thieves 90 = .ok (.goto (-88), 3) := by decide +kernel
theorem dX3_thieves_93 : decode cX3_thieves 93 = .ok (.return_, 1) := by decide +kernel
set_option maxRecDepth 20000 in
theorem ggX3_hour_X3_rainsIn : GoodIn wsX3_hour wsX3_rainsIn := goodIn_r _ [6, 1, 84, 85, 86, 87, 88, 89, 90, 91, 92, 93, 94, 95, 96] (by decide +kernel) (by decide +kernel)
set_option maxRecDepth 20000 in
theorem gX3_hour_X3_rainsIn : GoodIn wsX3_hour (wsV RX3 51 RX3 yX3_rainsIn wsX3_rainsIn) := goodIn_app (goodIn_of _ (by decide +kernel)) ggX3_hour_X3_rainsIn
set_option maxRecDepth 20000 in
theorem ggX3_hour_X3_keepersGo : GoodIn wsX3_hour wsX3_keepersGo := goodIn_r _ [10, 11, 1, 12, 13, 14, 5, 15, 2, 3, 4, 6, 16, 17, 18, 19, 20, 21, 22, 23, 24, 25, 26, 27, 28, 29, 30, 31, 32, 33, 34, 35, 36, 37, 38, 39, 40, 41, 42, 43, 44, 45, 46, 47, 48, 49, 50, 51, 52, 53, 54, 55, 56, 57, 58, 59, 60, 61, 62, 63, 64, 65, 66, 67, 84, 85, 86, 87, 88, 89, 90, 91, 92, 93, 94, 95, 96] (by decide +kernel) (by decide +kernel)
set_option maxRecDepth 20000 in
theorem gX3_hour_X3_keepersGo : GoodIn wsX3_hour (wsV RX3 98 RX3 yX3_keepersGo wsX3_keepersGo) := goodIn_app (goodIn_of _ (by decide +kernel)) ggX3_hour_X3_keepersGo
set_option maxRecDepth 20000 in
theorem ggX3_hour_X3_isOpen : GoodIn wsX3_hour wsX3_isOpen := goodIn_r _ [45, 28, 29, 30, 5, 31, 32, 33, 34, 35, 36, 37, 38, 39, 40, 41, 1, 84, 85, 86, 87, 88, 89, 90, 91, 92, 93, 94, 95, 96] (by decide +kernel) (by decide +kernel)
set_option maxRecDepth 20000 in
theorem gX3_hour_X3_isOpen : GoodIn wsX3_hour (wsV RX3 60 RX3 yX3_isOpen wsX3_isOpen) := goodIn_app (goodIn_of _ (by decide +kernel)) ggX3_hour_X3_isOpen
set_option maxRecDepth 20000 in
theorem ggX3_hour_X3_rainsOn : GoodIn wsX3_hour wsX3_rainsOn := goodIn_r _ [71, 1, 38, 39, 40, 5, 41, 65, 66, 67, 61, 62, 63, 64, 84, 85, 86, 87, 88, 89, 90, 91, 92, 93, 94, 95, 96] (by decide +kernel) (by decide +kernel)
set_option maxRecDepth 20000 in
theorem gX3_hour_X3_rainsOn : GoodIn wsX3_hour (wsV RX3 101 RX3 yX3_rainsOn wsX3_rainsOn) := goodIn_app (goodIn_of _ (by decide +kernel)) ggX3_hour_X3_rainsOn
set_option maxRecDepth 20000 in
theorem ggX3_hour_X3_dries : GoodIn wsX3_hour wsX3_dries := goodIn_r _ [75, 1, 38, 39, 40, 5, 41, 65, 66, 67, 61, 62, 63, 64, 35, 36, 37, 84, 85, 86, 87, 88, 89, 90, 91, 92, 93, 94, 95, 96] (by decide +kernel) (by decide +kernel)
set_option maxRecDepth 20000 in
theorem gX3_hour_X3_dries : GoodIn wsX3_hour (wsV RX3 105 RX3 yX3_dries wsX3_dries) := goodIn_app (goodIn_of _ (by decide +kernel)) ggX3_hour_X3_dries
set_option maxRecDepth 20000 in
theorem ggX3_hour_X3_thieves : GoodIn wsX3_hour wsX3_thieves := goodIn_r _ [79, 1, 28, 29, 30, 5, 31, 32, 33, 34, 35, 36, 37, 38, 39, 40, 41, 80, 81, 82, 83, 46, 47, 48, 49, 61, 62, 63, 64, 84, 85, 86, 87, 88, 89, 90, 91, 92, 93, 94, 95, 96] (by decide +kernel) (by decide +kernel)
set_option maxRecDepth 20000 in
theorem gX3_hour_X3_thieves : GoodIn wsX3_hour (wsV RX3 109 RX3 yX3_thieves wsX3_thieves) := goodIn_app (goodIn_of _ (by decide +kernel)) ggX3_hour_X3_thieves
theorem dX3_hour_0 : decode cX3_hour 0 = .ok (.aload_n 0, 1) := by decide +kernel
theorem dX3_hour_1 : decode cX3_hour 1 = .ok (.getfield 7, 3) := by decide +kernel
theorem dX3_hour_4 : decode cX3_hour 4 = .ok (.bipush 7, 2) := by decide +kernel
theorem dX3_hour_6 : decode cX3_hour 6 = .ok (.iaload, 1) := by decide +kernel
theorem dX3_hour_7 : decode cX3_hour 7 = .ok (.bipush 24, 2) := by decide +kernel
theorem dX3_hour_9 : decode cX3_hour 9 = .ok (.irem, 1) := by decide +kernel
theorem dX3_hour_10 : decode cX3_hour 10 = .ok (.istore_n 1, 1) := by decide +kernel
theorem dX3_hour_11 : decode cX3_hour 11 = .ok (.aload_n 0, 1) := by decide +kernel
theorem dX3_hour_12 : decode cX3_hour 12 = .ok (.iconst 0, 1) := by decide +kernel
theorem dX3_hour_13 : decode cX3_hour 13 = .ok (.invokevirtual 51, 3) := by decide +kernel
theorem dX3_hour_16 : decode cX3_hour 16 = .ok (.istore_n 2, 1) := by decide +kernel
theorem dX3_hour_17 : decode cX3_hour 17 = .ok (.aload_n 0, 1) := by decide +kernel
theorem dX3_hour_18 : decode cX3_hour 18 = .ok (.invokevirtual 98, 3) := by decide +kernel
theorem dX3_hour_21 : decode cX3_hour 21 = .ok (.iconst 0, 1) := by decide +kernel
theorem dX3_hour_22 : decode cX3_hour 22 = .ok (.istore_n 3, 1) := by decide +kernel
theorem dX3_hour_23 : decode cX3_hour 23 = .ok (.iload_n 3, 1) := by decide +kernel
theorem dX3_hour_24 : decode cX3_hour 24 = .ok (.bipush 12, 2) := by decide +kernel
theorem dX3_hour_26 : decode cX3_hour 26 = .ok (.if_icmp .ge 35, 3) := by decide +kernel
theorem dX3_hour_29 : decode cX3_hour 29 = .ok (.aload_n 0, 1) := by decide +kernel
theorem dX3_hour_30 : decode cX3_hour 30 = .ok (.iload_n 3, 1) := by decide +kernel
theorem dX3_hour_31 : decode cX3_hour 31 = .ok (.invokevirtual 60, 3) := by decide +kernel
theorem dX3_hour_34 : decode cX3_hour 34 = .ok (.ifCond .eq 21, 3) := by decide +kernel
theorem dX3_hour_37 : decode cX3_hour 37 = .ok (.iload_n 2, 1) := by decide +kernel
theorem dX3_hour_38 : decode cX3_hour 38 = .ok (.ifCond .eq 11, 3) := by decide +kernel
theorem dX3_hour_41 : decode cX3_hour 41 = .ok (.aload_n 0, 1) := by decide +kernel
theorem dX3_hour_42 : decode cX3_hour 42 = .ok (.iload_n 3, 1) := by decide +kernel
theorem dX3_hour_43 : decode cX3_hour 43 = .ok (.invokevirtual 101, 3) := by decide +kernel
theorem dX3_hour_46 : decode cX3_hour 46 = .ok (.goto 9, 3) := by decide +kernel
theorem dX3_hour_49 : decode cX3_hour 49 = .ok (.aload_n 0, 1) := by decide +kernel
theorem dX3_hour_50 : decode cX3_hour 50 = .ok (.iload_n 3, 1) := by decide +kernel
theorem dX3_hour_51 : decode cX3_hour 51 = .ok (.iload_n 1, 1) := by decide +kernel
theorem dX3_hour_52 : decode cX3_hour 52 = .ok (.invokevirtual 105, 3) := by decide +kernel
theorem dX3_hour_55 : decode cX3_hour 55 = .ok (.iinc 3 1, 3) := by decide +kernel
theorem dX3_hour_58 : decode cX3_hour 58 = .ok (.goto (-35), 3) := by decide +kernel
theorem dX3_hour_61 : decode cX3_hour 61 = .ok (.iload_n 1, 1) := by decide +kernel
theorem dX3_hour_62 : decode cX3_hour 62 = .ok (.bipush 22, 2) := by decide +kernel
theorem dX3_hour_64 : decode cX3_hour 64 = .ok (.if_icmp .ge 8, 3) := by decide +kernel
theorem dX3_hour_67 : decode cX3_hour 67 = .ok (.iload_n 1, 1) := by decide +kernel
theorem dX3_hour_68 : decode cX3_hour 68 = .ok (.iconst 5, 1) := by decide +kernel
theorem dX3_hour_69 : decode cX3_hour 69 = .ok (.if_icmp .gt 7, 3) := by decide +kernel
theorem dX3_hour_72 : decode cX3_hour 72 = .ok (.aload_n 0, 1) := by decide +kernel
theorem dX3_hour_73 : decode cX3_hour 73 = .ok (.invokevirtual 109, 3) := by decide +kernel
theorem dX3_hour_76 : decode cX3_hour 76 = .ok (.aload_n 0, 1) := by decide +kernel
theorem dX3_hour_77 : decode cX3_hour 77 = .ok (.getfield 7, 3) := by decide +kernel
theorem dX3_hour_80 : decode cX3_hour 80 = .ok (.bipush 7, 2) := by decide +kernel
theorem dX3_hour_82 : decode cX3_hour 82 = .ok (.dup2, 1) := by decide +kernel
theorem dX3_hour_83 : decode cX3_hour 83 = .ok (.iaload, 1) := by decide +kernel
theorem dX3_hour_84 : decode cX3_hour 84 = .ok (.iconst 1, 1) := by decide +kernel
theorem dX3_hour_85 : decode cX3_hour 85 = .ok (.iadd, 1) := by decide +kernel
theorem dX3_hour_86 : decode cX3_hour 86 = .ok (.iastore, 1) := by decide +kernel
theorem dX3_hour_87 : decode cX3_hour 87 = .ok (.return_, 1) := by decide +kernel
set_option maxRecDepth 20000 in
theorem ggX3_passes_X3_hour : GoodIn wsX3_passes wsX3_hour := goodIn_r _ [6, 1, 7, 8, 9, 5, 10, 11, 12, 13, 14, 15, 16, 17, 18, 19, 20, 21, 22, 23, 24, 25, 26, 27, 28, 29, 30, 31, 32, 33, 34, 35, 36, 37, 38, 39, 40, 41, 42, 43, 44, 45, 46, 47, 48, 49, 50, 51, 52, 53, 54, 55, 56, 57, 58, 59, 60, 61, 62, 63, 64, 65, 66, 67, 68, 69, 70, 71, 72, 73, 74, 75, 76, 77, 78, 79, 80, 81, 82, 83, 84, 85, 86, 87, 88, 89, 90, 91, 92, 93, 94, 95, 96, 97, 98, 99, 100] (by decide +kernel) (by decide +kernel)
set_option maxRecDepth 20000 in
theorem gX3_passes_X3_hour : GoodIn wsX3_passes (wsV RX3 112 RX3 yX3_hour wsX3_hour) := goodIn_app (goodIn_of _ (by decide +kernel)) ggX3_passes_X3_hour
theorem dX3_passes_0 : decode cX3_passes 0 = .ok (.aload_n 0, 1) := by decide +kernel
theorem dX3_passes_1 : decode cX3_passes 1 = .ok (.getfield 7, 3) := by decide +kernel
theorem dX3_passes_4 : decode cX3_passes 4 = .ok (.bipush 9, 2) := by decide +kernel
theorem dX3_passes_6 : decode cX3_passes 6 = .ok (.iaload, 1) := by decide +kernel
theorem dX3_passes_7 : decode cX3_passes 7 = .ok (.istore_n 2, 1) := by decide +kernel
theorem dX3_passes_8 : decode cX3_passes 8 = .ok (.iconst 0, 1) := by decide +kernel
theorem dX3_passes_9 : decode cX3_passes 9 = .ok (.istore_n 3, 1) := by decide +kernel
theorem dX3_passes_10 : decode cX3_passes 10 = .ok (.iload_n 3, 1) := by decide +kernel
theorem dX3_passes_11 : decode cX3_passes 11 = .ok (.iload_n 1, 1) := by decide +kernel
theorem dX3_passes_12 : decode cX3_passes 12 = .ok (.if_icmp .ge 13, 3) := by decide +kernel
theorem dX3_passes_15 : decode cX3_passes 15 = .ok (.aload_n 0, 1) := by decide +kernel
theorem dX3_passes_16 : decode cX3_passes 16 = .ok (.invokevirtual 112, 3) := by decide +kernel
theorem dX3_passes_19 : decode cX3_passes 19 = .ok (.iinc 3 1, 3) := by decide +kernel
theorem dX3_passes_22 : decode cX3_passes 22 = .ok (.goto (-12), 3) := by decide +kernel
theorem dX3_passes_25 : decode cX3_passes 25 = .ok (.aload_n 0, 1) := by decide +kernel
theorem dX3_passes_26 : decode cX3_passes 26 = .ok (.getfield 7, 3) := by decide +kernel
theorem dX3_passes_29 : decode cX3_passes 29 = .ok (.bipush 9, 2) := by decide +kernel
theorem dX3_passes_31 : decode cX3_passes 31 = .ok (.iaload, 1) := by decide +kernel
theorem dX3_passes_32 : decode cX3_passes 32 = .ok (.iload_n 2, 1) := by decide +kernel
theorem dX3_passes_33 : decode cX3_passes 33 = .ok (.isub, 1) := by decide +kernel
theorem dX3_passes_34 : decode cX3_passes 34 = .ok (.ireturn, 1) := by decide +kernel
set_option maxRecDepth 20000 in
theorem ggX3_isValue_X3_within : GoodIn wsX3_isValue wsX3_within := goodIn_r _ [4] (by decide +kernel) (by decide +kernel)
set_option maxRecDepth 20000 in
theorem gX3_isValue_X3_within : GoodIn wsX3_isValue (va_wsS RX3 36 yX3_within wsX3_within) := goodIn_app (goodIn_of _ (by decide +kernel)) ggX3_isValue_X3_within
theorem dX3_isValue_0 : decode cX3_isValue 0 = .ok (.iload_n 0, 1) := by decide +kernel
theorem dX3_isValue_1 : decode cX3_isValue 1 = .ok (.tableswitch 91 0 6 #[43, 51, 59, 67, 75, 83, 59], 43) := by decide +kernel
theorem dX3_isValue_44 : decode cX3_isValue 44 = .ok (.iload_n 1, 1) := by decide +kernel
theorem dX3_isValue_45 : decode cX3_isValue 45 = .ok (.iconst 0, 1) := by decide +kernel
theorem dX3_isValue_46 : decode cX3_isValue 46 = .ok (.bipush 12, 2) := by decide +kernel
theorem dX3_isValue_48 : decode cX3_isValue 48 = .ok (.invokestatic 36, 3) := by decide +kernel
theorem dX3_isValue_51 : decode cX3_isValue 51 = .ok (.ireturn, 1) := by decide +kernel
theorem dX3_isValue_52 : decode cX3_isValue 52 = .ok (.iload_n 1, 1) := by decide +kernel
theorem dX3_isValue_53 : decode cX3_isValue 53 = .ok (.iconst 1, 1) := by decide +kernel
theorem dX3_isValue_54 : decode cX3_isValue 54 = .ok (.bipush 50, 2) := by decide +kernel
theorem dX3_isValue_56 : decode cX3_isValue 56 = .ok (.invokestatic 36, 3) := by decide +kernel
theorem dX3_isValue_59 : decode cX3_isValue 59 = .ok (.ireturn, 1) := by decide +kernel
theorem dX3_isValue_60 : decode cX3_isValue 60 = .ok (.iload_n 1, 1) := by decide +kernel
theorem dX3_isValue_61 : decode cX3_isValue 61 = .ok (.iconst 1, 1) := by decide +kernel
theorem dX3_isValue_62 : decode cX3_isValue 62 = .ok (.bipush 20, 2) := by decide +kernel
theorem dX3_isValue_64 : decode cX3_isValue 64 = .ok (.invokestatic 36, 3) := by decide +kernel
theorem dX3_isValue_67 : decode cX3_isValue 67 = .ok (.ireturn, 1) := by decide +kernel
theorem dX3_isValue_68 : decode cX3_isValue 68 = .ok (.iload_n 1, 1) := by decide +kernel
theorem dX3_isValue_69 : decode cX3_isValue 69 = .ok (.iconst 0, 1) := by decide +kernel
theorem dX3_isValue_70 : decode cX3_isValue 70 = .ok (.bipush 20, 2) := by decide +kernel
theorem dX3_isValue_72 : decode cX3_isValue 72 = .ok (.invokestatic 36, 3) := by decide +kernel
theorem dX3_isValue_75 : decode cX3_isValue 75 = .ok (.ireturn, 1) := by decide +kernel
theorem dX3_isValue_76 : decode cX3_isValue 76 = .ok (.iload_n 1, 1) := by decide +kernel
theorem dX3_isValue_77 : decode cX3_isValue 77 = .ok (.iconst 0, 1) := by decide +kernel
theorem dX3_isValue_78 : decode cX3_isValue 78 = .ok (.bipush 50, 2) := by decide +kernel
theorem dX3_isValue_80 : decode cX3_isValue 80 = .ok (.invokestatic 36, 3) := by decide +kernel
theorem dX3_isValue_83 : decode cX3_isValue 83 = .ok (.ireturn, 1) := by decide +kernel
theorem dX3_isValue_84 : decode cX3_isValue 84 = .ok (.iload_n 1, 1) := by decide +kernel
theorem dX3_isValue_85 : decode cX3_isValue 85 = .ok (.iconst 0, 1) := by decide +kernel
theorem dX3_isValue_86 : decode cX3_isValue 86 = .ok (.bipush 100, 2) := by decide +kernel
theorem dX3_isValue_88 : decode cX3_isValue 88 = .ok (.invokestatic 36, 3) := by decide +kernel
theorem dX3_isValue_91 : decode cX3_isValue 91 = .ok (.ireturn, 1) := by decide +kernel
theorem dX3_isValue_92 : decode cX3_isValue 92 = .ok (.iconst 0, 1) := by decide +kernel
theorem dX3_isValue_93 : decode cX3_isValue 93 = .ok (.ireturn, 1) := by decide +kernel
set_option maxRecDepth 20000 in
theorem ggX3_set_X3_isValue : GoodIn wsX3_set wsX3_isValue := goodIn_r _ [5, 6, 7, 4, 8] (by decide +kernel) (by decide +kernel)
set_option maxRecDepth 20000 in
theorem gX3_set_X3_isValue : GoodIn wsX3_set (va_wsS RX3 115 yX3_isValue wsX3_isValue) := goodIn_app (goodIn_of _ (by decide +kernel)) ggX3_set_X3_isValue
set_option maxRecDepth 20000 in
theorem ggX3_set_X3_record : GoodIn wsX3_set wsX3_record := goodIn_r _ [12, 13, 14, 1, 15, 16, 4, 17, 18, 19, 20, 21, 22, 23, 24, 25, 26, 27, 28, 29, 30] (by decide +kernel) (by decide +kernel)
set_option maxRecDepth 20000 in
theorem gX3_set_X3_record : GoodIn wsX3_set (wsV RX3 118 RX3 yX3_record wsX3_record) := goodIn_app (goodIn_of _ (by decide +kernel)) ggX3_set_X3_record
theorem dX3_set_0 : decode cX3_set 0 = .ok (.iload_n 1, 1) := by decide +kernel
theorem dX3_set_1 : decode cX3_set 1 = .ok (.iload_n 2, 1) := by decide +kernel
theorem dX3_set_2 : decode cX3_set 2 = .ok (.invokestatic 115, 3) := by decide +kernel
theorem dX3_set_5 : decode cX3_set 5 = .ok (.ifCond .ne 6, 3) := by decide +kernel
theorem dX3_set_8 : decode cX3_set 8 = .ok (.bipush (-2), 2) := by decide +kernel
theorem dX3_set_10 : decode cX3_set 10 = .ok (.ireturn, 1) := by decide +kernel
theorem dX3_set_11 : decode cX3_set 11 = .ok (.aload_n 0, 1) := by decide +kernel
theorem dX3_set_12 : decode cX3_set 12 = .ok (.invokevirtual 118, 3) := by decide +kernel
theorem dX3_set_15 : decode cX3_set 15 = .ok (.aload_n 0, 1) := by decide +kernel
theorem dX3_set_16 : decode cX3_set 16 = .ok (.getfield 7, 3) := by decide +kernel
theorem dX3_set_19 : decode cX3_set 19 = .ok (.iload_n 1, 1) := by decide +kernel
theorem dX3_set_20 : decode cX3_set 20 = .ok (.iaload, 1) := by decide +kernel
theorem dX3_set_21 : decode cX3_set 21 = .ok (.istore_n 3, 1) := by decide +kernel
theorem dX3_set_22 : decode cX3_set 22 = .ok (.aload_n 0, 1) := by decide +kernel
theorem dX3_set_23 : decode cX3_set 23 = .ok (.getfield 7, 3) := by decide +kernel
theorem dX3_set_26 : decode cX3_set 26 = .ok (.iload_n 1, 1) := by decide +kernel
theorem dX3_set_27 : decode cX3_set 27 = .ok (.iload_n 2, 1) := by decide +kernel
theorem dX3_set_28 : decode cX3_set 28 = .ok (.iastore, 1) := by decide +kernel
theorem dX3_set_29 : decode cX3_set 29 = .ok (.iload_n 3, 1) := by decide +kernel
theorem dX3_set_30 : decode cX3_set 30 = .ok (.ireturn, 1) := by decide +kernel
set_option maxRecDepth 20000 in
theorem ggX3_rain_X3_within : GoodIn wsX3_rain wsX3_within := goodIn_r _ [6] (by decide +kernel) (by decide +kernel)
set_option maxRecDepth 20000 in
theorem gX3_rain_X3_within : GoodIn wsX3_rain (va_wsS RX3 36 yX3_within wsX3_within) := goodIn_app (goodIn_of _ (by decide +kernel)) ggX3_rain_X3_within
set_option maxRecDepth 20000 in
theorem ggX3_rain_X3_record : GoodIn wsX3_rain wsX3_record := goodIn_r _ [10, 11, 12, 2, 13, 14, 5, 15, 16, 17, 18, 19, 20, 21, 22, 23, 24, 25, 26, 27, 28] (by decide +kernel) (by decide +kernel)
set_option maxRecDepth 20000 in
theorem gX3_rain_X3_record : GoodIn wsX3_rain (wsV RX3 118 RX3 yX3_record wsX3_record) := goodIn_app (goodIn_of _ (by decide +kernel)) ggX3_rain_X3_record
theorem dX3_rain_0 : decode cX3_rain 0 = .ok (.iload_n 1, 1) := by decide +kernel
theorem dX3_rain_1 : decode cX3_rain 1 = .ok (.iconst 0, 1) := by decide +kernel
theorem dX3_rain_2 : decode cX3_rain 2 = .ok (.ldc 121, 2) := by decide +kernel
theorem dX3_rain_4 : decode cX3_rain 4 = .ok (.invokestatic 36, 3) := by decide +kernel
theorem dX3_rain_7 : decode cX3_rain 7 = .ok (.ifCond .ne 6, 3) := by decide +kernel
theorem dX3_rain_10 : decode cX3_rain 10 = .ok (.bipush (-2), 2) := by decide +kernel
theorem dX3_rain_12 : decode cX3_rain 12 = .ok (.ireturn, 1) := by decide +kernel
theorem dX3_rain_13 : decode cX3_rain 13 = .ok (.aload_n 0, 1) := by decide +kernel
theorem dX3_rain_14 : decode cX3_rain 14 = .ok (.invokevirtual 118, 3) := by decide +kernel
theorem dX3_rain_17 : decode cX3_rain 17 = .ok (.aload_n 0, 1) := by decide +kernel
theorem dX3_rain_18 : decode cX3_rain 18 = .ok (.getfield 7, 3) := by decide +kernel
theorem dX3_rain_21 : decode cX3_rain 21 = .ok (.bipush 8, 2) := by decide +kernel
theorem dX3_rain_23 : decode cX3_rain 23 = .ok (.iaload, 1) := by decide +kernel
theorem dX3_rain_24 : decode cX3_rain 24 = .ok (.istore_n 2, 1) := by decide +kernel
theorem dX3_rain_25 : decode cX3_rain 25 = .ok (.aload_n 0, 1) := by decide +kernel
theorem dX3_rain_26 : decode cX3_rain 26 = .ok (.getfield 7, 3) := by decide +kernel
theorem dX3_rain_29 : decode cX3_rain 29 = .ok (.bipush 8, 2) := by decide +kernel
theorem dX3_rain_31 : decode cX3_rain 31 = .ok (.iload_n 1, 1) := by decide +kernel
theorem dX3_rain_32 : decode cX3_rain 32 = .ok (.iastore, 1) := by decide +kernel
theorem dX3_rain_33 : decode cX3_rain 33 = .ok (.iload_n 2, 1) := by decide +kernel
theorem dX3_rain_34 : decode cX3_rain 34 = .ok (.ireturn, 1) := by decide +kernel
set_option maxRecDepth 20000 in
theorem ggX3_whyNoPiano_X3_isPlace : GoodIn wsX3_whyNoPiano wsX3_isPlace := goodIn_r _ [4, 5, 6, 3, 7] (by decide +kernel) (by decide +kernel)
set_option maxRecDepth 20000 in
theorem gX3_whyNoPiano_X3_isPlace : GoodIn wsX3_whyNoPiano (va_wsS RX3 40 yX3_isPlace wsX3_isPlace) := goodIn_app (goodIn_of _ (by decide +kernel)) ggX3_whyNoPiano_X3_isPlace
set_option maxRecDepth 20000 in
theorem ggX3_whyNoPiano_X3_within : GoodIn wsX3_whyNoPiano wsX3_within := goodIn_r _ [7] (by decide +kernel) (by decide +kernel)
set_option maxRecDepth 20000 in
theorem gX3_whyNoPiano_X3_within : GoodIn wsX3_whyNoPiano (va_wsS RX3 36 yX3_within wsX3_within) := goodIn_app (goodIn_of _ (by decide +kernel)) ggX3_whyNoPiano_X3_within
set_option maxRecDepth 20000 in
theorem ggX3_whyNoPiano_X3_isPiano : GoodIn wsX3_whyNoPiano wsX3_isPiano := goodIn_r _ [11, 1, 2, 3, 4, 5, 6, 7, 12, 13, 14, 15, 16, 17, 18, 19, 20, 21, 22, 23, 24, 25, 26, 27, 28, 29] (by decide +kernel) (by decide +kernel)
set_option maxRecDepth 20000 in
theorem gX3_whyNoPiano_X3_isPiano : GoodIn wsX3_whyNoPiano (wsV RX3 48 RX3 yX3_isPiano wsX3_isPiano) := goodIn_app (goodIn_of _ (by decide +kernel)) ggX3_whyNoPiano_X3_isPiano
theorem dX3_whyNoPiano_0 : decode cX3_whyNoPiano 0 = .ok (.iload_n 1, 1) := by decide +kernel
theorem dX3_whyNoPiano_1 : decode cX3_whyNoPiano 1 = .ok (.invokestatic 40, 3) := by decide +kernel
theorem dX3_whyNoPiano_4 : decode cX3_whyNoPiano 4 = .ok (.ifCond .ne 5, 3) := by decide +kernel
theorem dX3_whyNoPiano_7 : decode cX3_whyNoPiano 7 = .ok (.iconst (-1), 1) := by decide +kernel
theorem dX3_whyNoPiano_8 : decode cX3_whyNoPiano 8 = .ok (.ireturn, 1) := by decide +kernel
theorem dX3_whyNoPiano_9 : decode cX3_whyNoPiano 9 = .ok (.iload_n 2, 1) := by decide +kernel
theorem dX3_whyNoPiano_10 : decode cX3_whyNoPiano 10 = .ok (.iconst 0, 1) := by decide +kernel
theorem dX3_whyNoPiano_11 : decode cX3_whyNoPiano 11 = .ok (.iconst 1, 1) := by decide +kernel
theorem dX3_whyNoPiano_12 : decode cX3_whyNoPiano 12 = .ok (.invokestatic 36, 3) := by decide +kernel
theorem dX3_whyNoPiano_15 : decode cX3_whyNoPiano 15 = .ok (.ifCond .ne 8, 3) := by decide +kernel
theorem dX3_whyNoPiano_18 : decode cX3_whyNoPiano 18 = .ok (.bipush (-2), 2) := by decide +kernel
theorem dX3_whyNoPiano_20 : decode cX3_whyNoPiano 20 = .ok (.goto 17, 3) := by decide +kernel
theorem dX3_whyNoPiano_23 : decode cX3_whyNoPiano 23 = .ok (.aload_n 0, 1) := by decide +kernel
theorem dX3_whyNoPiano_24 : decode cX3_whyNoPiano 24 = .ok (.iload_n 1, 1) := by decide +kernel
theorem dX3_whyNoPiano_25 : decode cX3_whyNoPiano 25 = .ok (.invokevirtual 48, 3) := by decide +kernel
theorem dX3_whyNoPiano_28 : decode cX3_whyNoPiano 28 = .ok (.ifCond .eq 8, 3) := by decide +kernel
theorem dX3_whyNoPiano_31 : decode cX3_whyNoPiano 31 = .ok (.bipush (-5), 2) := by decide +kernel
theorem dX3_whyNoPiano_33 : decode cX3_whyNoPiano 33 = .ok (.goto 4, 3) := by decide +kernel
theorem dX3_whyNoPiano_36 : decode cX3_whyNoPiano 36 = .ok (.iconst 0, 1) := by decide +kernel
theorem dX3_whyNoPiano_37 : decode cX3_whyNoPiano 37 = .ok (.ireturn, 1) := by decide +kernel
set_option maxRecDepth 20000 in
theorem ggX3_pianoComes_X3_setPiano : GoodIn wsX3_pianoComes wsX3_setPiano := goodIn_r _ [5, 6, 7, 8, 9, 10, 11, 12, 13, 14, 15, 16, 17, 18, 19] (by decide +kernel) (by decide +kernel)
set_option maxRecDepth 20000 in
theorem gX3_pianoComes_X3_setPiano : GoodIn wsX3_pianoComes (wsV RX3 75 RX3 yX3_setPiano wsX3_setPiano) := goodIn_app (goodIn_of _ (by decide +kernel)) ggX3_pianoComes_X3_setPiano
theorem dX3_pianoComes_0 : decode cX3_pianoComes 0 = .ok (.aload_n 0, 1) := by decide +kernel
theorem dX3_pianoComes_1 : decode cX3_pianoComes 1 = .ok (.iload_n 1, 1) := by decide +kernel
theorem dX3_pianoComes_2 : decode cX3_pianoComes 2 = .ok (.iconst 0, 1) := by decide +kernel
theorem dX3_pianoComes_3 : decode cX3_pianoComes 3 = .ok (.iconst 1, 1) := by decide +kernel
theorem dX3_pianoComes_4 : decode cX3_pianoComes 4 = .ok (.invokevirtual 75, 3) := by decide +kernel
theorem dX3_pianoComes_7 : decode cX3_pianoComes 7 = .ok (.aload_n 0, 1) := by decide +kernel
theorem dX3_pianoComes_8 : decode cX3_pianoComes 8 = .ok (.iload_n 1, 1) := by decide +kernel
theorem dX3_pianoComes_9 : decode cX3_pianoComes 9 = .ok (.iconst 1, 1) := by decide +kernel
theorem dX3_pianoComes_10 : decode cX3_pianoComes 10 = .ok (.bipush 100, 2) := by decide +kernel
theorem dX3_pianoComes_12 : decode cX3_pianoComes 12 = .ok (.invokevirtual 75, 3) := by decide +kernel
theorem dX3_pianoComes_15 : decode cX3_pianoComes 15 = .ok (.aload_n 0, 1) := by decide +kernel
theorem dX3_pianoComes_16 : decode cX3_pianoComes 16 = .ok (.iload_n 1, 1) := by decide +kernel
theorem dX3_pianoComes_17 : decode cX3_pianoComes 17 = .ok (.iconst 2, 1) := by decide +kernel
theorem dX3_pianoComes_18 : decode cX3_pianoComes 18 = .ok (.iconst 0, 1) := by decide +kernel
theorem dX3_pianoComes_19 : decode cX3_pianoComes 19 = .ok (.invokevirtual 75, 3) := by decide +kernel
theorem dX3_pianoComes_22 : decode cX3_pianoComes 22 = .ok (.aload_n 0, 1) := by decide +kernel
theorem dX3_pianoComes_23 : decode cX3_pianoComes 23 = .ok (.iload_n 1, 1) := by decide +kernel
theorem dX3_pianoComes_24 : decode cX3_pianoComes 24 = .ok (.iconst 3, 1) := by decide +kernel
theorem dX3_pianoComes_25 : decode cX3_pianoComes 25 = .ok (.iload_n 2, 1) := by decide +kernel
theorem dX3_pianoComes_26 : decode cX3_pianoComes 26 = .ok (.invokevirtual 75, 3) := by decide +kernel
theorem dX3_pianoComes_29 : decode cX3_pianoComes 29 = .ok (.aload_n 0, 1) := by decide +kernel
theorem dX3_pianoComes_30 : decode cX3_pianoComes 30 = .ok (.iload_n 1, 1) := by decide +kernel
theorem dX3_pianoComes_31 : decode cX3_pianoComes 31 = .ok (.iconst 4, 1) := by decide +kernel
theorem dX3_pianoComes_32 : decode cX3_pianoComes 32 = .ok (.iconst 0, 1) := by decide +kernel
theorem dX3_pianoComes_33 : decode cX3_pianoComes 33 = .ok (.invokevirtual 75, 3) := by decide +kernel
theorem dX3_pianoComes_36 : decode cX3_pianoComes 36 = .ok (.aload_n 0, 1) := by decide +kernel
theorem dX3_pianoComes_37 : decode cX3_pianoComes 37 = .ok (.iload_n 1, 1) := by decide +kernel
theorem dX3_pianoComes_38 : decode cX3_pianoComes 38 = .ok (.iconst 5, 1) := by decide +kernel
theorem dX3_pianoComes_39 : decode cX3_pianoComes 39 = .ok (.iconst 0, 1) := by decide +kernel
theorem dX3_pianoComes_40 : decode cX3_pianoComes 40 = .ok (.invokevirtual 75, 3) := by decide +kernel
theorem dX3_pianoComes_43 : decode cX3_pianoComes 43 = .ok (.return_, 1) := by decide +kernel
set_option maxRecDepth 20000 in
theorem ggX3_piano_X3_whyNoPiano : GoodIn wsX3_piano wsX3_whyNoPiano := goodIn_r _ [5, 6, 7, 4, 8, 9, 10, 11, 12, 13, 14, 15, 16, 17, 18, 19, 20, 42, 43, 44, 45, 46, 47, 48, 49, 50, 51, 52, 53, 54] (by decide +kernel) (by decide +kernel)
set_option maxRecDepth 20000 in
theorem gX3_piano_X3_whyNoPiano : GoodIn wsX3_piano (wsV RX3 122 RX3 yX3_whyNoPiano wsX3_whyNoPiano) := goodIn_app (goodIn_of _ (by decide +kernel)) ggX3_piano_X3_whyNoPiano
set_option maxRecDepth 20000 in
theorem ggX3_piano_X3_record : GoodIn wsX3_piano wsX3_record := goodIn_r _ [24, 25, 26, 20, 27, 28, 4, 29, 42, 43, 44, 45, 46, 47, 48, 49, 50, 51, 52, 53, 54] (by decide +kernel) (by decide +kernel)
set_option maxRecDepth 20000 in
theorem gX3_piano_X3_record : GoodIn wsX3_piano (wsV RX3 118 RX3 yX3_record wsX3_record) := goodIn_app (goodIn_of _ (by decide +kernel)) ggX3_piano_X3_record
set_option maxRecDepth 20000 in
theorem ggX3_piano_X3_pianoComes : GoodIn wsX3_piano wsX3_pianoComes := goodIn_r _ [33, 34, 35, 36, 4, 37, 20, 42, 43, 44, 45, 46, 47, 48, 49, 50, 51, 52, 53, 54] (by decide +kernel) (by decide +kernel)
set_option maxRecDepth 20000 in
theorem gX3_piano_X3_pianoComes : GoodIn wsX3_piano (wsV RX3 125 RX3 yX3_pianoComes wsX3_pianoComes) := goodIn_app (goodIn_of _ (by decide +kernel)) ggX3_piano_X3_pianoComes
set_option maxRecDepth 20000 in
theorem ggX3_piano_X3_pianosThere : GoodIn wsX3_piano wsX3_pianosThere := goodIn_r _ [41, 16, 17, 18, 4, 19, 20, 42, 43, 44, 45, 46, 47, 48, 49, 50, 51, 52, 53, 54] (by decide +kernel) (by decide +kernel)
set_option maxRecDepth 20000 in
theorem gX3_piano_X3_pianosThere : GoodIn wsX3_piano (wsV RX3 128 RX3 yX3_pianosThere wsX3_pianosThere) := goodIn_app (goodIn_of _ (by decide +kernel)) ggX3_piano_X3_pianosThere
theorem dX3_piano_0 : decode cX3_piano 0 = .ok (.aload_n 0, 1) := by decide +kernel
theorem dX3_piano_1 : decode cX3_piano 1 = .ok (.iload_n 1, 1) := by decide +kernel
theorem dX3_piano_2 : decode cX3_piano 2 = .ok (.iload_n 2, 1) := by decide +kernel
theorem dX3_piano_3 : decode cX3_piano 3 = .ok (.invokevirtual 122, 3) := by decide +kernel
theorem dX3_piano_6 : decode cX3_piano 6 = .ok (.istore_n 3, 1) := by decide +kernel
theorem dX3_piano_7 : decode cX3_piano 7 = .ok (.iload_n 3, 1) := by decide +kernel
theorem dX3_piano_8 : decode cX3_piano 8 = .ok (.ifCond .ge 5, 3) := by decide +kernel
theorem dX3_piano_11 : decode cX3_piano 11 = .ok (.iload_n 3, 1) := by decide +kernel
theorem dX3_piano_12 : decode cX3_piano 12 = .ok (.ireturn, 1) := by decide +kernel
theorem dX3_piano_13 : decode cX3_piano 13 = .ok (.aload_n 0, 1) := by decide +kernel
theorem dX3_piano_14 : decode cX3_piano 14 = .ok (.invokevirtual 118, 3) := by decide +kernel
theorem dX3_piano_17 : decode cX3_piano 17 = .ok (.aload_n 0, 1) := by decide +kernel
theorem dX3_piano_18 : decode cX3_piano 18 = .ok (.iload_n 1, 1) := by decide +kernel
theorem dX3_piano_19 : decode cX3_piano 19 = .ok (.iload_n 2, 1) := by decide +kernel
theorem dX3_piano_20 : decode cX3_piano 20 = .ok (.invokevirtual 125, 3) := by decide +kernel
theorem dX3_piano_23 : decode cX3_piano 23 = .ok (.aload_n 0, 1) := by decide +kernel
theorem dX3_piano_24 : decode cX3_piano 24 = .ok (.invokevirtual 128, 3) := by decide +kernel
theorem dX3_piano_27 : decode cX3_piano 27 = .ok (.ireturn, 1) := by decide +kernel
set_option maxRecDepth 20000 in
theorem ggX3_take_X3_isPiano : GoodIn wsX3_take wsX3_isPiano := goodIn_r _ [5, 6, 7, 4, 8, 9, 10, 11, 12, 13, 14, 15, 16, 34, 35, 36, 37, 38, 39, 40, 41, 42, 43, 44, 45, 46] (by decide +kernel) (by decide +kernel)
set_option maxRecDepth 20000 in
theorem gX3_take_X3_isPiano : GoodIn wsX3_take (wsV RX3 48 RX3 yX3_isPiano wsX3_isPiano) := goodIn_app (goodIn_of _ (by decide +kernel)) ggX3_take_X3_isPiano
set_option maxRecDepth 20000 in
theorem ggX3_take_X3_record : GoodIn wsX3_take wsX3_record := goodIn_r _ [20, 21, 22, 16, 23, 24, 4, 25, 34, 35, 36, 37, 38, 39, 40, 41, 42, 43, 44, 45, 46] (by decide +kernel) (by decide +kernel)
set_option maxRecDepth 20000 in
theorem gX3_take_X3_record : GoodIn wsX3_take (wsV RX3 118 RX3 yX3_record wsX3_record) := goodIn_app (goodIn_of _ (by decide +kernel)) ggX3_take_X3_record
set_option maxRecDepth 20000 in
theorem ggX3_take_X3_setPiano : GoodIn wsX3_take wsX3_setPiano := goodIn_r _ [29, 16, 34, 35, 36, 37, 38, 39, 40, 41, 42, 43, 44, 45, 46] (by decide +kernel) (by decide +kernel)
set_option maxRecDepth 20000 in
theorem gX3_take_X3_setPiano : GoodIn wsX3_take (wsV RX3 75 RX3 yX3_setPiano wsX3_setPiano) := goodIn_app (goodIn_of _ (by decide +kernel)) ggX3_take_X3_setPiano
set_option maxRecDepth 20000 in
theorem ggX3_take_X3_pianosThere : GoodIn wsX3_take wsX3_pianosThere := goodIn_r _ [33, 12, 13, 14, 4, 15, 16, 34, 35, 36, 37, 38, 39, 40, 41, 42, 43, 44, 45, 46] (by decide +kernel) (by decide +kernel)
set_option maxRecDepth 20000 in
theorem gX3_take_X3_pianosThere : GoodIn wsX3_take (wsV RX3 128 RX3 yX3_pianosThere wsX3_pianosThere) := goodIn_app (goodIn_of _ (by decide +kernel)) ggX3_take_X3_pianosThere
theorem dX3_take_0 : decode cX3_take 0 = .ok (.aload_n 0, 1) := by decide +kernel
theorem dX3_take_1 : decode cX3_take 1 = .ok (.iload_n 1, 1) := by decide +kernel
theorem dX3_take_2 : decode cX3_take 2 = .ok (.invokevirtual 48, 3) := by decide +kernel
theorem dX3_take_5 : decode cX3_take 5 = .ok (.ifCond .ne 5, 3) := by decide +kernel
theorem dX3_take_8 : decode cX3_take 8 = .ok (.iconst (-1), 1) := by decide +kernel
theorem dX3_take_9 : decode cX3_take 9 = .ok (.ireturn, 1) := by decide +kernel
theorem dX3_take_10 : decode cX3_take 10 = .ok (.aload_n 0, 1) := by decide +kernel
theorem dX3_take_11 : decode cX3_take 11 = .ok (.invokevirtual 118, 3) := by decide +kernel
theorem dX3_take_14 : decode cX3_take 14 = .ok (.iconst 0, 1) := by decide +kernel
theorem dX3_take_15 : decode cX3_take 15 = .ok (.istore_n 2, 1) := by decide +kernel
theorem dX3_take_16 : decode cX3_take 16 = .ok (.iload_n 2, 1) := by decide +kernel
theorem dX3_take_17 : decode cX3_take 17 = .ok (.bipush 6, 2) := by decide +kernel
theorem dX3_take_19 : decode cX3_take 19 = .ok (.if_icmp .ge 16, 3) := by decide +kernel
theorem dX3_take_22 : decode cX3_take 22 = .ok (.aload_n 0, 1) := by decide +kernel
theorem dX3_take_23 : decode cX3_take 23 = .ok (.iload_n 1, 1) := by decide +kernel
theorem dX3_take_24 : decode cX3_take 24 = .ok (.iload_n 2, 1) := by decide +kernel
theorem dX3_take_25 : decode cX3_take 25 = .ok (.iconst 0, 1) := by decide +kernel
theorem dX3_take_26 : decode cX3_take 26 = .ok (.invokevirtual 75, 3) := by decide +kernel
theorem dX3_take_29 : decode cX3_take 29 = .ok (.iinc 2 1, 3) := by decide +kernel
theorem dX3_take_32 : decode cX3_take 32 = .ok (.goto (-16), 3) := by decide +kernel
theorem dX3_take_35 : decode cX3_take 35 = .ok (.aload_n 0, 1) := by decide +kernel
theorem dX3_take_36 : decode cX3_take 36 = .ok (.invokevirtual 128, 3) := by decide +kernel
theorem dX3_take_39 : decode cX3_take 39 = .ok (.ireturn, 1) := by decide +kernel
set_option maxRecDepth 20000 in
theorem ggX3_whyNoKeeper_X3_isPlace : GoodIn wsX3_whyNoKeeper wsX3_isPlace := goodIn_r _ [5, 6, 7, 4, 8] (by decide +kernel) (by decide +kernel)
set_option maxRecDepth 20000 in
theorem gX3_whyNoKeeper_X3_isPlace : GoodIn wsX3_whyNoKeeper (va_wsS RX3 40 yX3_isPlace wsX3_isPlace) := goodIn_app (goodIn_of _ (by decide +kernel)) ggX3_whyNoKeeper_X3_isPlace
theorem dX3_whyNoKeeper_0 : decode cX3_whyNoKeeper 0 = .ok (.iload_n 1, 1) := by decide +kernel
theorem dX3_whyNoKeeper_1 : decode cX3_whyNoKeeper 1 = .ok (.invokestatic 40, 3) := by decide +kernel
theorem dX3_whyNoKeeper_4 : decode cX3_whyNoKeeper 4 = .ok (.ifCond .ne 7, 3) := by decide +kernel
theorem dX3_whyNoKeeper_7 : decode cX3_whyNoKeeper 7 = .ok (.iconst (-1), 1) := by decide +kernel
theorem dX3_whyNoKeeper_8 : decode cX3_whyNoKeeper 8 = .ok (.goto 20, 3) := by decide +kernel
theorem dX3_whyNoKeeper_11 : decode cX3_whyNoKeeper 11 = .ok (.aload_n 0, 1) := by decide +kernel
theorem dX3_whyNoKeeper_12 : decode cX3_whyNoKeeper 12 = .ok (.getfield 7, 3) := by decide +kernel
theorem dX3_whyNoKeeper_15 : decode cX3_whyNoKeeper 15 = .ok (.bipush 11, 2) := by decide +kernel
theorem dX3_whyNoKeeper_17 : decode cX3_whyNoKeeper 17 = .ok (.iaload, 1) := by decide +kernel
theorem dX3_whyNoKeeper_18 : decode cX3_whyNoKeeper 18 = .ok (.iconst 4, 1) := by decide +kernel
theorem dX3_whyNoKeeper_19 : decode cX3_whyNoKeeper 19 = .ok (.if_icmp .ne 8, 3) := by decide +kernel
theorem dX3_whyNoKeeper_22 : decode cX3_whyNoKeeper 22 = .ok (.bipush (-4), 2) := by decide +kernel
theorem dX3_whyNoKeeper_24 : decode cX3_whyNoKeeper 24 = .ok (.goto 4, 3) := by decide +kernel
theorem dX3_whyNoKeeper_27 : decode cX3_whyNoKeeper 27 = .ok (.iconst 0, 1) := by decide +kernel
theorem dX3_whyNoKeeper_28 : decode cX3_whyNoKeeper 28 = .ok (.ireturn, 1) := by decide +kernel
theorem dX3_keeperComes_0 : decode cX3_keeperComes 0 = .ok (.aload_n 0, 1) := by decide +kernel
theorem dX3_keeperComes_1 : decode cX3_keeperComes 1 = .ok (.getfield 7, 3) := by decide +kernel
theorem dX3_keeperComes_4 : decode cX3_keeperComes 4 = .ok (.bipush 11, 2) := by decide +kernel
theorem dX3_keeperComes_6 : decode cX3_keeperComes 6 = .ok (.iaload, 1) := by decide +kernel
theorem dX3_keeperComes_7 : decode cX3_keeperComes 7 = .ok (.istore_n 2, 1) := by decide +kernel
theorem dX3_keeperComes_8 : decode cX3_keeperComes 8 = .ok (.iconst 0, 1) := by decide +kernel
theorem dX3_keeperComes_9 : decode cX3_keeperComes 9 = .ok (.istore_n 3, 1) := by decide +kernel
theorem dX3_keeperComes_10 : decode cX3_keeperComes 10 = .ok (.iload_n 3, 1) := by decide +kernel
theorem dX3_keeperComes_11 : decode cX3_keeperComes 11 = .ok (.iconst 5, 1) := by decide +kernel
theorem dX3_keeperComes_12 : decode cX3_keeperComes 12 = .ok (.if_icmp .ge 31, 3) := by decide +kernel
theorem dX3_keeperComes_15 : decode cX3_keeperComes 15 = .ok (.aload_n 0, 1) := by decide +kernel
theorem dX3_keeperComes_16 : decode cX3_keeperComes 16 = .ok (.getfield 7, 3) := by decide +kernel
theorem dX3_keeperComes_19 : decode cX3_keeperComes 19 = .ok (.bipush 84, 2) := by decide +kernel
theorem dX3_keeperComes_21 : decode cX3_keeperComes 21 = .ok (.iconst 5, 1) := by decide +kernel
theorem dX3_keeperComes_22 : decode cX3_keeperComes 22 = .ok (.iload_n 2, 1) := by decide +kernel
theorem dX3_keeperComes_23 : decode cX3_keeperComes 23 = .ok (.imul, 1) := by decide +kernel
theorem dX3_keeperComes_24 : decode cX3_keeperComes 24 = .ok (.iadd, 1) := by decide +kernel
theorem dX3_keeperComes_25 : decode cX3_keeperComes 25 = .ok (.iload_n 3, 1) := by decide +kernel
theorem dX3_keeperComes_26 : decode cX3_keeperComes 26 = .ok (.iadd, 1) := by decide +kernel
theorem dX3_keeperComes_27 : decode cX3_keeperComes 27 = .ok (.iload_n 3, 1) := by decide +kernel
theorem dX3_keeperComes_28 : decode cX3_keeperComes 28 = .ok (.ifCond .ne 7, 3) := by decide +kernel
theorem dX3_keeperComes_31 : decode cX3_keeperComes 31 = .ok (.iload_n 1, 1) := by decide +kernel
theorem dX3_keeperComes_32 : decode cX3_keeperComes 32 = .ok (.goto 4, 3) := by decide +kernel
theorem dX3_keeperComes_35 : decode cX3_keeperComes 35 = .ok (.iconst 0, 1) := by decide +kernel
theorem dX3_keeperComes_36 : decode cX3_keeperComes 36 = .ok (.iastore, 1) := by decide +kernel
theorem dX3_keeperComes_37 : decode cX3_keeperComes 37 = .ok (.iinc 3 1, 3) := by decide +kernel
theorem dX3_keeperComes_40 : decode cX3_keeperComes 40 = .ok (.goto (-30), 3) := by decide +kernel
theorem dX3_keeperComes_43 : decode cX3_keeperComes 43 = .ok (.aload_n 0, 1) := by decide +kernel
theorem dX3_keeperComes_44 : decode cX3_keeperComes 44 = .ok (.getfield 7, 3) := by decide +kernel
theorem dX3_keeperComes_47 : decode cX3_keeperComes 47 = .ok (.bipush 11, 2) := by decide +kernel
theorem dX3_keeperComes_49 : decode cX3_keeperComes 49 = .ok (.dup2, 1) := by decide +kernel
theorem dX3_keeperComes_50 : decode cX3_keeperComes 50 = .ok (.iaload, 1) := by decide +kernel
theorem dX3_keeperComes_51 : decode cX3_keeperComes 51 = .ok (.iconst 1, 1) := by decide +kernel
theorem dX3_keeperComes_52 : decode cX3_keeperComes 52 = .ok (.iadd, 1) := by decide +kernel
theorem dX3_keeperComes_53 : decode cX3_keeperComes 53 = .ok (.iastore, 1) := by decide +kernel
theorem dX3_keeperComes_54 : decode cX3_keeperComes 54 = .ok (.iload_n 2, 1) := by decide +kernel
theorem dX3_keeperComes_55 : decode cX3_keeperComes 55 = .ok (.ireturn, 1) := by decide +kernel
set_option maxRecDepth 20000 in
theorem ggX3_keeper_X3_whyNoKeeper : GoodIn wsX3_keeper wsX3_whyNoKeeper := goodIn_r _ [5, 6, 7, 8, 4, 9, 10, 11, 12, 26, 27, 28, 29, 30, 31, 32, 33, 34, 35, 36, 37, 38] (by decide +kernel) (by decide +kernel)
set_option maxRecDepth 20000 in
theorem gX3_keeper_X3_whyNoKeeper : GoodIn wsX3_keeper (wsV RX3 132 RX3 yX3_whyNoKeeper wsX3_whyNoKeeper) := goodIn_app (goodIn_of _ (by decide +kernel)) ggX3_keeper_X3_whyNoKeeper
set_option maxRecDepth 20000 in
theorem ggX3_keeper_X3_record : GoodIn wsX3_keeper wsX3_record := goodIn_r _ [16, 17, 18, 6, 19, 20, 4, 21, 26, 27, 28, 29, 30, 31, 32, 33, 34, 35, 36, 37, 38] (by decide +kernel) (by decide +kernel)
set_option maxRecDepth 20000 in
theorem gX3_keeper_X3_record : GoodIn wsX3_keeper (wsV RX3 118 RX3 yX3_record wsX3_record) := goodIn_app (goodIn_of _ (by decide +kernel)) ggX3_keeper_X3_record
set_option maxRecDepth 20000 in
theorem ggX3_keeper_X3_keeperComes : GoodIn wsX3_keeper wsX3_keeperComes := goodIn_r _ [25, 6, 26, 27, 28, 29, 30, 31, 32, 33, 34, 35, 36, 37, 38] (by decide +kernel) (by decide +kernel)
set_option maxRecDepth 20000 in
theorem gX3_keeper_X3_keeperComes : GoodIn wsX3_keeper (wsV RX3 135 RX3 yX3_keeperComes wsX3_keeperComes) := goodIn_app (goodIn_of _ (by decide +kernel)) ggX3_keeper_X3_keeperComes
theorem dX3_keeper_0 : decode cX3_keeper 0 = .ok (.aload_n 0, 1) := by decide +kernel
theorem dX3_keeper_1 : decode cX3_keeper 1 = .ok (.iload_n 1, 1) := by decide +kernel
theorem dX3_keeper_2 : decode cX3_keeper 2 = .ok (.invokevirtual 132, 3) := by decide +kernel
theorem dX3_keeper_5 : decode cX3_keeper 5 = .ok (.istore_n 2, 1) := by decide +kernel
theorem dX3_keeper_6 : decode cX3_keeper 6 = .ok (.iload_n 2, 1) := by decide +kernel
theorem dX3_keeper_7 : decode cX3_keeper 7 = .ok (.ifCond .ge 5, 3) := by decide +kernel
theorem dX3_keeper_10 : decode cX3_keeper 10 = .ok (.iload_n 2, 1) := by decide +kernel
theorem dX3_keeper_11 : decode cX3_keeper 11 = .ok (.ireturn, 1) := by decide +kernel
theorem dX3_keeper_12 : decode cX3_keeper 12 = .ok (.aload_n 0, 1) := by decide +kernel
theorem dX3_keeper_13 : decode cX3_keeper 13 = .ok (.invokevirtual 118, 3) := by decide +kernel
theorem dX3_keeper_16 : decode cX3_keeper 16 = .ok (.aload_n 0, 1) := by decide +kernel
theorem dX3_keeper_17 : decode cX3_keeper 17 = .ok (.iload_n 1, 1) := by decide +kernel
theorem dX3_keeper_18 : decode cX3_keeper 18 = .ok (.invokevirtual 135, 3) := by decide +kernel
theorem dX3_keeper_21 : decode cX3_keeper 21 = .ok (.ireturn, 1) := by decide +kernel
set_option maxRecDepth 20000 in
theorem ggX3_whyNoCover_X3_isPiano : GoodIn wsX3_whyNoCover wsX3_isPiano := goodIn_r _ [5, 6, 7, 4, 8, 9, 10, 11, 12, 13, 14, 15, 16, 17, 18, 19, 20, 21, 22, 23, 24, 25, 26, 27, 28, 29] (by decide +kernel) (by decide +kernel)
set_option maxRecDepth 20000 in
theorem gX3_whyNoCover_X3_isPiano : GoodIn wsX3_whyNoCover (wsV RX3 48 RX3 yX3_isPiano wsX3_isPiano) := goodIn_app (goodIn_of _ (by decide +kernel)) ggX3_whyNoCover_X3_isPiano
set_option maxRecDepth 20000 in
theorem ggX3_whyNoCover_X3_pianoPart : GoodIn wsX3_whyNoCover wsX3_pianoPart := goodIn_r _ [15, 16, 17, 18, 19, 20, 21, 22, 23, 24, 25, 26, 27, 28, 29] (by decide +kernel) (by decide +kernel)
set_option maxRecDepth 20000 in
theorem gX3_whyNoCover_X3_pianoPart : GoodIn wsX3_whyNoCover (wsV RX3 44 RX3 yX3_pianoPart wsX3_pianoPart) := goodIn_app (goodIn_of _ (by decide +kernel)) ggX3_whyNoCover_X3_pianoPart
theorem dX3_whyNoCover_0 : decode cX3_whyNoCover 0 = .ok (.aload_n 0, 1) := by decide +kernel
theorem dX3_whyNoCover_1 : decode cX3_whyNoCover 1 = .ok (.iload_n 1, 1) := by decide +kernel
theorem dX3_whyNoCover_2 : decode cX3_whyNoCover 2 = .ok (.invokevirtual 48, 3) := by decide +kernel
theorem dX3_whyNoCover_5 : decode cX3_whyNoCover 5 = .ok (.ifCond .ne 7, 3) := by decide +kernel
theorem dX3_whyNoCover_8 : decode cX3_whyNoCover 8 = .ok (.iconst (-1), 1) := by decide +kernel
theorem dX3_whyNoCover_9 : decode cX3_whyNoCover 9 = .ok (.goto 18, 3) := by decide +kernel
theorem dX3_whyNoCover_12 : decode cX3_whyNoCover 12 = .ok (.aload_n 0, 1) := by decide +kernel
theorem dX3_whyNoCover_13 : decode cX3_whyNoCover 13 = .ok (.iload_n 1, 1) := by decide +kernel
theorem dX3_whyNoCover_14 : decode cX3_whyNoCover 14 = .ok (.iconst 3, 1) := by decide +kernel
theorem dX3_whyNoCover_15 : decode cX3_whyNoCover 15 = .ok (.invokevirtual 44, 3) := by decide +kernel
theorem dX3_whyNoCover_18 : decode cX3_whyNoCover 18 = .ok (.ifCond .eq 8, 3) := by decide +kernel
theorem dX3_whyNoCover_21 : decode cX3_whyNoCover 21 = .ok (.bipush (-5), 2) := by decide +kernel
theorem dX3_whyNoCover_23 : decode cX3_whyNoCover 23 = .ok (.goto 4, 3) := by decide +kernel
theorem dX3_whyNoCover_26 : decode cX3_whyNoCover 26 = .ok (.iconst 0, 1) := by decide +kernel
theorem dX3_whyNoCover_27 : decode cX3_whyNoCover 27 = .ok (.ireturn, 1) := by decide +kernel
set_option maxRecDepth 20000 in
theorem ggX3_withCovers_X3_isPiano : GoodIn wsX3_withCovers wsX3_isPiano := goodIn_r _ [5, 6, 7, 4, 8, 9, 10, 11, 12, 13, 14, 15, 16, 17, 18, 19, 20, 21, 22, 23, 24, 25, 26, 27, 28, 29] (by decide +kernel) (by decide +kernel)
set_option maxRecDepth 20000 in
theorem gX3_withCovers_X3_isPiano : GoodIn wsX3_withCovers (wsV RX3 48 RX3 yX3_isPiano wsX3_isPiano) := goodIn_app (goodIn_of _ (by decide +kernel)) ggX3_withCovers_X3_isPiano
set_option maxRecDepth 20000 in
theorem ggX3_withCovers_X3_pianoPart : GoodIn wsX3_withCovers wsX3_pianoPart := goodIn_r _ [15, 16, 17, 18, 19, 20, 21, 22, 23, 24, 25, 26, 27, 28, 29] (by decide +kernel) (by decide +kernel)
set_option maxRecDepth 20000 in
theorem gX3_withCovers_X3_pianoPart : GoodIn wsX3_withCovers (wsV RX3 44 RX3 yX3_pianoPart wsX3_pianoPart) := goodIn_app (goodIn_of _ (by decide +kernel)) ggX3_withCovers_X3_pianoPart
theorem dX3_withCovers_0 : decode cX3_withCovers 0 = .ok (.iconst 0, 1) := by decide +kernel
theorem dX3_withCovers_1 : decode cX3_withCovers 1 = .ok (.istore_n 1, 1) := by decide +kernel
theorem dX3_withCovers_2 : decode cX3_withCovers 2 = .ok (.iconst 0, 1) := by decide +kernel
theorem dX3_withCovers_3 : decode cX3_withCovers 3 = .ok (.istore_n 2, 1) := by decide +kernel
theorem dX3_withCovers_4 : decode cX3_withCovers 4 = .ok (.iload_n 2, 1) := by decide +kernel
theorem dX3_withCovers_5 : decode cX3_withCovers 5 = .ok (.bipush 12, 2) := by decide +kernel
theorem dX3_withCovers_7 : decode cX3_withCovers 7 = .ok (.if_icmp .ge 34, 3) := by decide +kernel
theorem dX3_withCovers_10 : decode cX3_withCovers 10 = .ok (.iload_n 1, 1) := by decide +kernel
theorem dX3_withCovers_11 : decode cX3_withCovers 11 = .ok (.aload_n 0, 1) := by decide +kernel
theorem dX3_withCovers_12 : decode cX3_withCovers 12 = .ok (.iload_n 2, 1) := by decide +kernel
theorem dX3_withCovers_13 : decode cX3_withCovers 13 = .ok (.invokevirtual 48, 3) := by decide +kernel
theorem dX3_withCovers_16 : decode cX3_withCovers 16 = .ok (.ifCond .eq 16, 3) := by decide +kernel
theorem dX3_withCovers_19 : decode cX3_withCovers 19 = .ok (.aload_n 0, 1) := by decide +kernel
theorem dX3_withCovers_20 : decode cX3_withCovers 20 = .ok (.iload_n 2, 1) := by decide +kernel
theorem dX3_withCovers_21 : decode cX3_withCovers 21 = .ok (.iconst 3, 1) := by decide +kernel
theorem dX3_withCovers_22 : decode cX3_withCovers 22 = .ok (.invokevirtual 44, 3) := by decide +kernel
theorem dX3_withCovers_25 : decode cX3_withCovers 25 = .ok (.ifCond .eq 7, 3) := by decide +kernel
theorem dX3_withCovers_28 : decode cX3_withCovers 28 = .ok (.iconst 1, 1) := by decide +kernel
theorem dX3_withCovers_29 : decode cX3_withCovers 29 = .ok (.goto 4, 3) := by decide +kernel
theorem dX3_withCovers_32 : decode cX3_withCovers 32 = .ok (.iconst 0, 1) := by decide +kernel
theorem dX3_withCovers_33 : decode cX3_withCovers 33 = .ok (.iadd, 1) := by decide +kernel
theorem dX3_withCovers_34 : decode cX3_withCovers 34 = .ok (.istore_n 1, 1) := by decide +kernel
theorem dX3_withCovers_35 : decode cX3_withCovers 35 = .ok (.iinc 2 1, 3) := by decide +kernel
theorem dX3_withCovers_38 : decode cX3_withCovers 38 = .ok (.goto (-34), 3) := by decide +kernel
theorem dX3_withCovers_41 : decode cX3_withCovers 41 = .ok (.iload_n 1, 1) := by decide +kernel
theorem dX3_withCovers_42 : decode cX3_withCovers 42 = .ok (.ireturn, 1) := by decide +kernel
set_option maxRecDepth 20000 in
theorem ggX3_cover_X3_whyNoCover : GoodIn wsX3_cover wsX3_whyNoCover := goodIn_r _ [5, 6, 7, 8, 4, 9, 10, 11, 12, 13, 14, 15, 16, 17, 18, 19, 20, 38, 39, 40, 41, 42, 43, 44, 45, 46, 47, 48, 49, 50] (by decide +kernel) (by decide +kernel)
set_option maxRecDepth 20000 in
theorem gX3_cover_X3_whyNoCover : GoodIn wsX3_cover (wsV RX3 138 RX3 yX3_whyNoCover wsX3_whyNoCover) := goodIn_app (goodIn_of _ (by decide +kernel)) ggX3_cover_X3_whyNoCover
set_option maxRecDepth 20000 in
theorem ggX3_cover_X3_record : GoodIn wsX3_cover wsX3_record := goodIn_r _ [24, 25, 26, 20, 27, 28, 4, 29, 38, 39, 40, 41, 42, 43, 44, 45, 46, 47, 48, 49, 50] (by decide +kernel) (by decide +kernel)
set_option maxRecDepth 20000 in
theorem gX3_cover_X3_record : GoodIn wsX3_cover (wsV RX3 118 RX3 yX3_record wsX3_record) := goodIn_app (goodIn_of _ (by decide +kernel)) ggX3_cover_X3_record
set_option maxRecDepth 20000 in
theorem ggX3_cover_X3_setPiano : GoodIn wsX3_cover wsX3_setPiano := goodIn_r _ [33, 20, 38, 39, 40, 41, 42, 43, 44, 45, 46, 47, 48, 49, 50] (by decide +kernel) (by decide +kernel)
set_option maxRecDepth 20000 in
theorem gX3_cover_X3_setPiano : GoodIn wsX3_cover (wsV RX3 75 RX3 yX3_setPiano wsX3_setPiano) := goodIn_app (goodIn_of _ (by decide +kernel)) ggX3_cover_X3_setPiano
set_option maxRecDepth 20000 in
theorem ggX3_cover_X3_withCovers : GoodIn wsX3_cover wsX3_withCovers := goodIn_r _ [37, 6, 7, 8, 4, 9, 10, 11, 12, 13, 14, 15, 16, 17, 18, 19, 20, 38, 39, 40, 41, 42, 43, 44, 45, 46, 47, 48, 49, 50] (by decide +kernel) (by decide +kernel)
set_option maxRecDepth 20000 in
theorem gX3_cover_X3_withCovers : GoodIn wsX3_cover (wsV RX3 141 RX3 yX3_withCovers wsX3_withCovers) := goodIn_app (goodIn_of _ (by decide +kernel)) ggX3_cover_X3_withCovers
theorem dX3_cover_0 : decode cX3_cover 0 = .ok (.aload_n 0, 1) := by decide +kernel
theorem dX3_cover_1 : decode cX3_cover 1 = .ok (.iload_n 1, 1) := by decide +kernel
theorem dX3_cover_2 : decode cX3_cover 2 = .ok (.invokevirtual 138, 3) := by decide +kernel
theorem dX3_cover_5 : decode cX3_cover 5 = .ok (.istore_n 2, 1) := by decide +kernel
theorem dX3_cover_6 : decode cX3_cover 6 = .ok (.iload_n 2, 1) := by decide +kernel
theorem dX3_cover_7 : decode cX3_cover 7 = .ok (.ifCond .ge 5, 3) := by decide +kernel
theorem dX3_cover_10 : decode cX3_cover 10 = .ok (.iload_n 2, 1) := by decide +kernel
theorem dX3_cover_11 : decode cX3_cover 11 = .ok (.ireturn, 1) := by decide +kernel
theorem dX3_cover_12 : decode cX3_cover 12 = .ok (.aload_n 0, 1) := by decide +kernel
theorem dX3_cover_13 : decode cX3_cover 13 = .ok (.invokevirtual 118, 3) := by decide +kernel
theorem dX3_cover_16 : decode cX3_cover 16 = .ok (.aload_n 0, 1) := by decide +kernel
theorem dX3_cover_17 : decode cX3_cover 17 = .ok (.iload_n 1, 1) := by decide +kernel
theorem dX3_cover_18 : decode cX3_cover 18 = .ok (.iconst 3, 1) := by decide +kernel
theorem dX3_cover_19 : decode cX3_cover 19 = .ok (.iconst 1, 1) := by decide +kernel
theorem dX3_cover_20 : decode cX3_cover 20 = .ok (.invokevirtual 75, 3) := by decide +kernel
theorem dX3_cover_23 : decode cX3_cover 23 = .ok (.aload_n 0, 1) := by decide +kernel
theorem dX3_cover_24 : decode cX3_cover 24 = .ok (.invokevirtual 141, 3) := by decide +kernel
theorem dX3_cover_27 : decode cX3_cover 27 = .ok (.ireturn, 1) := by decide +kernel
set_option maxRecDepth 20000 in
theorem ggX3_whyNotPassed_X3_within : GoodIn wsX3_whyNotPassed wsX3_within := goodIn_r _ [5] (by decide +kernel) (by decide +kernel)
set_option maxRecDepth 20000 in
theorem gX3_whyNotPassed_X3_within : GoodIn wsX3_whyNotPassed (va_wsS RX3 36 yX3_within wsX3_within) := goodIn_app (goodIn_of _ (by decide +kernel)) ggX3_whyNotPassed_X3_within
theorem dX3_whyNotPassed_0 : decode cX3_whyNotPassed 0 = .ok (.iload_n 1, 1) := by decide +kernel
theorem dX3_whyNotPassed_1 : decode cX3_whyNotPassed 1 = .ok (.iconst 1, 1) := by decide +kernel
theorem dX3_whyNotPassed_2 : decode cX3_whyNotPassed 2 = .ok (.bipush 99, 2) := by decide +kernel
theorem dX3_whyNotPassed_4 : decode cX3_whyNotPassed 4 = .ok (.invokestatic 36, 3) := by decide +kernel
theorem dX3_whyNotPassed_7 : decode cX3_whyNotPassed 7 = .ok (.ifCond .ne 8, 3) := by decide +kernel
theorem dX3_whyNotPassed_10 : decode cX3_whyNotPassed 10 = .ok (.bipush (-2), 2) := by decide +kernel
theorem dX3_whyNotPassed_12 : decode cX3_whyNotPassed 12 = .ok (.goto 24, 3) := by decide +kernel
theorem dX3_whyNotPassed_15 : decode cX3_whyNotPassed 15 = .ok (.aload_n 0, 1) := by decide +kernel
theorem dX3_whyNotPassed_16 : decode cX3_whyNotPassed 16 = .ok (.getfield 7, 3) := by decide +kernel
theorem dX3_whyNotPassed_19 : decode cX3_whyNotPassed 19 = .ok (.bipush 7, 2) := by decide +kernel
theorem dX3_whyNotPassed_21 : decode cX3_whyNotPassed 21 = .ok (.iaload, 1) := by decide +kernel
theorem dX3_whyNotPassed_22 : decode cX3_whyNotPassed 22 = .ok (.iload_n 1, 1) := by decide +kernel
theorem dX3_whyNotPassed_23 : decode cX3_whyNotPassed 23 = .ok (.iadd, 1) := by decide +kernel
theorem dX3_whyNotPassed_24 : decode cX3_whyNotPassed 24 = .ok (.sipush 9999, 3) := by decide +kernel
theorem dX3_whyNotPassed_27 : decode cX3_whyNotPassed 27 = .ok (.if_icmp .le 8, 3) := by decide +kernel
theorem dX3_whyNotPassed_30 : decode cX3_whyNotPassed 30 = .ok (.bipush (-5), 2) := by decide +kernel
theorem dX3_whyNotPassed_32 : decode cX3_whyNotPassed 32 = .ok (.goto 4, 3) := by decide +kernel
theorem dX3_whyNotPassed_35 : decode cX3_whyNotPassed 35 = .ok (.iconst 0, 1) := by decide +kernel
theorem dX3_whyNotPassed_36 : decode cX3_whyNotPassed 36 = .ok (.ireturn, 1) := by decide +kernel
set_option maxRecDepth 20000 in
theorem ggX3_pass_X3_whyNotPassed : GoodIn wsX3_pass wsX3_whyNotPassed := goodIn_r _ [5, 6, 7, 8, 4, 9, 105, 106, 107, 108, 109, 110, 111, 112, 113, 114, 115, 116, 117] (by decide +kernel) (by decide +kernel)
set_option maxRecDepth 20000 in
theorem gX3_pass_X3_whyNotPassed : GoodIn wsX3_pass (wsV RX3 144 RX3 yX3_whyNotPassed wsX3_whyNotPassed) := goodIn_app (goodIn_of _ (by decide +kernel)) ggX3_pass_X3_whyNotPassed
set_option maxRecDepth 20000 in
theorem ggX3_pass_X3_record : GoodIn wsX3_pass wsX3_record := goodIn_r _ [13, 14, 15, 6, 16, 17, 4, 18, 105, 106, 107, 108, 109, 110, 111, 112, 113, 114, 115, 116, 117] (by decide +kernel) (by decide +kernel)
set_option maxRecDepth 20000 in
theorem gX3_pass_X3_record : GoodIn wsX3_pass (wsV RX3 118 RX3 yX3_record wsX3_record) := goodIn_app (goodIn_of _ (by decide +kernel)) ggX3_pass_X3_record
set_option maxRecDepth 20000 in
theorem ggX3_pass_X3_passes : GoodIn wsX3_pass wsX3_passes := goodIn_r _ [22, 6, 23, 24, 25, 4, 26, 27, 28, 29, 30, 31, 32, 33, 34, 35, 36, 37, 38, 39, 40, 41, 42, 43, 44, 45, 46, 47, 48, 49, 50, 51, 52, 53, 54, 55, 56, 57, 58, 7, 8, 9, 59, 60, 61, 62, 63, 64, 65, 66, 67, 68, 69, 70, 71, 72, 73, 74, 75, 76, 77, 78, 79, 80, 81, 82, 83, 84, 85, 86, 87, 88, 89, 90, 91, 92, 93, 94, 95, 96, 97, 98, 99, 100, 101, 102, 103, 104, 105, 106, 107, 108, 109, 110, 111, 112, 113, 114, 115, 116, 117] (by decide +kernel) (by decide +kernel)
set_option maxRecDepth 20000 in
theorem gX3_pass_X3_passes : GoodIn wsX3_pass (wsV RX3 147 RX3 yX3_passes wsX3_passes) := goodIn_app (goodIn_of _ (by decide +kernel)) ggX3_pass_X3_passes
theorem dX3_pass_0 : decode cX3_pass 0 = .ok (.aload_n 0, 1) := by decide +kernel
theorem dX3_pass_1 : decode cX3_pass 1 = .ok (.iload_n 1, 1) := by decide +kernel
theorem dX3_pass_2 : decode cX3_pass 2 = .ok (.invokevirtual 144, 3) := by decide +kernel
theorem dX3_pass_5 : decode cX3_pass 5 = .ok (.istore_n 2, 1) := by decide +kernel
theorem dX3_pass_6 : decode cX3_pass 6 = .ok (.iload_n 2, 1) := by decide +kernel
theorem dX3_pass_7 : decode cX3_pass 7 = .ok (.ifCond .ge 5, 3) := by decide +kernel
theorem dX3_pass_10 : decode cX3_pass 10 = .ok (.iload_n 2, 1) := by decide +kernel
theorem dX3_pass_11 : decode cX3_pass 11 = .ok (.ireturn, 1) := by decide +kernel
theorem dX3_pass_12 : decode cX3_pass 12 = .ok (.aload_n 0, 1) := by decide +kernel
theorem dX3_pass_13 : decode cX3_pass 13 = .ok (.invokevirtual 118, 3) := by decide +kernel
theorem dX3_pass_16 : decode cX3_pass 16 = .ok (.aload_n 0, 1) := by decide +kernel
theorem dX3_pass_17 : decode cX3_pass 17 = .ok (.iload_n 1, 1) := by decide +kernel
theorem dX3_pass_18 : decode cX3_pass 18 = .ok (.invokevirtual 147, 3) := by decide +kernel
theorem dX3_pass_21 : decode cX3_pass 21 = .ok (.ireturn, 1) := by decide +kernel
set_option maxRecDepth 20000 in
theorem ggX3_of_X3_isPiano : GoodIn wsX3_of wsX3_isPiano := goodIn_r _ [5, 6, 7, 4, 8, 9, 10, 11, 12, 13, 14, 15, 16, 25, 26, 27, 28, 29, 30, 31, 32, 33, 34, 35, 36, 37] (by decide +kernel) (by decide +kernel)
set_option maxRecDepth 20000 in
theorem gX3_of_X3_isPiano : GoodIn wsX3_of (wsV RX3 48 RX3 yX3_isPiano wsX3_isPiano) := goodIn_app (goodIn_of _ (by decide +kernel)) ggX3_of_X3_isPiano
set_option maxRecDepth 20000 in
theorem ggX3_of_X3_keepersAt : GoodIn wsX3_of wsX3_keepersAt := goodIn_r _ [20, 16, 21, 22, 23, 4, 24, 25, 26, 27, 28, 29, 30, 31, 32, 33, 34, 35, 36, 37] (by decide +kernel) (by decide +kernel)
set_option maxRecDepth 20000 in
theorem gX3_of_X3_keepersAt : GoodIn wsX3_of (wsV RX3 95 RX3 yX3_keepersAt wsX3_keepersAt) := goodIn_app (goodIn_of _ (by decide +kernel)) ggX3_of_X3_keepersAt
set_option maxRecDepth 20000 in
theorem ggX3_of_X3_within : GoodIn wsX3_of wsX3_within := goodIn_r _ [11] (by decide +kernel) (by decide +kernel)
set_option maxRecDepth 20000 in
theorem gX3_of_X3_within : GoodIn wsX3_of (va_wsS RX3 36 yX3_within wsX3_within) := goodIn_app (goodIn_of _ (by decide +kernel)) ggX3_of_X3_within
set_option maxRecDepth 20000 in
theorem ggX3_of_X3_pianoPart : GoodIn wsX3_of wsX3_pianoPart := goodIn_r _ [15, 16, 25, 26, 27, 28, 29, 30, 31, 32, 33, 34, 35, 36, 37] (by decide +kernel) (by decide +kernel)
set_option maxRecDepth 20000 in
theorem gX3_of_X3_pianoPart : GoodIn wsX3_of (wsV RX3 44 RX3 yX3_pianoPart wsX3_pianoPart) := goodIn_app (goodIn_of _ (by decide +kernel)) ggX3_of_X3_pianoPart
theorem dX3_of_0 : decode cX3_of 0 = .ok (.aload_n 0, 1) := by decide +kernel
theorem dX3_of_1 : decode cX3_of 1 = .ok (.iload_n 1, 1) := by decide +kernel
theorem dX3_of_2 : decode cX3_of 2 = .ok (.invokevirtual 48, 3) := by decide +kernel
theorem dX3_of_5 : decode cX3_of 5 = .ok (.ifCond .ne 5, 3) := by decide +kernel
theorem dX3_of_8 : decode cX3_of 8 = .ok (.iconst (-1), 1) := by decide +kernel
theorem dX3_of_9 : decode cX3_of 9 = .ok (.ireturn, 1) := by decide +kernel
theorem dX3_of_10 : decode cX3_of 10 = .ok (.iload_n 2, 1) := by decide +kernel
theorem dX3_of_11 : decode cX3_of 11 = .ok (.iconst 5, 1) := by decide +kernel
theorem dX3_of_12 : decode cX3_of 12 = .ok (.if_icmp .ne 9, 3) := by decide +kernel
theorem dX3_of_15 : decode cX3_of 15 = .ok (.aload_n 0, 1) := by decide +kernel
theorem dX3_of_16 : decode cX3_of 16 = .ok (.iload_n 1, 1) := by decide +kernel
theorem dX3_of_17 : decode cX3_of 17 = .ok (.invokevirtual 95, 3) := by decide +kernel
theorem dX3_of_20 : decode cX3_of 20 = .ok (.ireturn, 1) := by decide +kernel
theorem dX3_of_21 : decode cX3_of 21 = .ok (.iload_n 2, 1) := by decide +kernel
theorem dX3_of_22 : decode cX3_of 22 = .ok (.iconst 0, 1) := by decide +kernel
theorem dX3_of_23 : decode cX3_of 23 = .ok (.iconst 4, 1) := by decide +kernel
theorem dX3_of_24 : decode cX3_of 24 = .ok (.invokestatic 36, 3) := by decide +kernel
theorem dX3_of_27 : decode cX3_of 27 = .ok (.ifCond .ne 8, 3) := by decide +kernel
theorem dX3_of_30 : decode cX3_of 30 = .ok (.bipush (-2), 2) := by decide +kernel
theorem dX3_of_32 : decode cX3_of 32 = .ok (.goto 11, 3) := by decide +kernel
theorem dX3_of_35 : decode cX3_of 35 = .ok (.aload_n 0, 1) := by decide +kernel
theorem dX3_of_36 : decode cX3_of 36 = .ok (.iload_n 1, 1) := by decide +kernel
theorem dX3_of_37 : decode cX3_of 37 = .ok (.iload_n 2, 1) := by decide +kernel
theorem dX3_of_38 : decode cX3_of 38 = .ok (.iconst 1, 1) := by decide +kernel
theorem dX3_of_39 : decode cX3_of 39 = .ok (.iadd, 1) := by decide +kernel
theorem dX3_of_40 : decode cX3_of 40 = .ok (.invokevirtual 44, 3) := by decide +kernel
theorem dX3_of_43 : decode cX3_of 43 = .ok (.ireturn, 1) := by decide +kernel
set_option maxRecDepth 20000 in
theorem ggX3_ofKeeper_X3_within : GoodIn wsX3_ofKeeper wsX3_within := goodIn_r _ [5] (by decide +kernel) (by decide +kernel)
set_option maxRecDepth 20000 in
theorem gX3_ofKeeper_X3_within : GoodIn wsX3_ofKeeper (va_wsS RX3 36 yX3_within wsX3_within) := goodIn_app (goodIn_of _ (by decide +kernel)) ggX3_ofKeeper_X3_within
set_option maxRecDepth 20000 in
theorem ggX3_ofKeeper_X3_keeperPart : GoodIn wsX3_ofKeeper wsX3_keeperPart := goodIn_r _ [9, 1, 10, 11, 12, 13, 14, 15, 16, 17, 18, 19, 20, 21, 22] (by decide +kernel) (by decide +kernel)
set_option maxRecDepth 20000 in
theorem gX3_ofKeeper_X3_keeperPart : GoodIn wsX3_ofKeeper (wsV RX3 54 RX3 yX3_keeperPart wsX3_keeperPart) := goodIn_app (goodIn_of _ (by decide +kernel)) ggX3_ofKeeper_X3_keeperPart
theorem dX3_ofKeeper_0 : decode cX3_ofKeeper 0 = .ok (.iload_n 1, 1) := by decide +kernel
theorem dX3_ofKeeper_1 : decode cX3_ofKeeper 1 = .ok (.iconst 0, 1) := by decide +kernel
theorem dX3_ofKeeper_2 : decode cX3_ofKeeper 2 = .ok (.aload_n 0, 1) := by decide +kernel
theorem dX3_ofKeeper_3 : decode cX3_ofKeeper 3 = .ok (.getfield 7, 3) := by decide +kernel
theorem dX3_ofKeeper_6 : decode cX3_ofKeeper 6 = .ok (.bipush 11, 2) := by decide +kernel
theorem dX3_ofKeeper_8 : decode cX3_ofKeeper 8 = .ok (.iaload, 1) := by decide +kernel
theorem dX3_ofKeeper_9 : decode cX3_ofKeeper 9 = .ok (.iconst 1, 1) := by decide +kernel
theorem dX3_ofKeeper_10 : decode cX3_ofKeeper 10 = .ok (.isub, 1) := by decide +kernel
theorem dX3_ofKeeper_11 : decode cX3_ofKeeper 11 = .ok (.invokestatic 36, 3) := by decide +kernel
theorem dX3_ofKeeper_14 : decode cX3_ofKeeper 14 = .ok (.ifCond .ne 5, 3) := by decide +kernel
theorem dX3_ofKeeper_17 : decode cX3_ofKeeper 17 = .ok (.iconst (-1), 1) := by decide +kernel
theorem dX3_ofKeeper_18 : decode cX3_ofKeeper 18 = .ok (.ireturn, 1) := by decide +kernel
theorem dX3_ofKeeper_19 : decode cX3_ofKeeper 19 = .ok (.iload_n 2, 1) := by decide +kernel
theorem dX3_ofKeeper_20 : decode cX3_ofKeeper 20 = .ok (.iconst 0, 1) := by decide +kernel
theorem dX3_ofKeeper_21 : decode cX3_ofKeeper 21 = .ok (.iconst 4, 1) := by decide +kernel
theorem dX3_ofKeeper_22 : decode cX3_ofKeeper 22 = .ok (.invokestatic 36, 3) := by decide +kernel
theorem dX3_ofKeeper_25 : decode cX3_ofKeeper 25 = .ok (.ifCond .eq 12, 3) := by decide +kernel
theorem dX3_ofKeeper_28 : decode cX3_ofKeeper 28 = .ok (.aload_n 0, 1) := by decide +kernel
theorem dX3_ofKeeper_29 : decode cX3_ofKeeper 29 = .ok (.iload_n 1, 1) := by decide +kernel
theorem dX3_ofKeeper_30 : decode cX3_ofKeeper 30 = .ok (.iload_n 2, 1) := by decide +kernel
theorem dX3_ofKeeper_31 : decode cX3_ofKeeper 31 = .ok (.invokevirtual 54, 3) := by decide +kernel
theorem dX3_ofKeeper_34 : decode cX3_ofKeeper 34 = .ok (.goto 5, 3) := by decide +kernel
theorem dX3_ofKeeper_37 : decode cX3_ofKeeper 37 = .ok (.bipush (-2), 2) := by decide +kernel
theorem dX3_ofKeeper_39 : decode cX3_ofKeeper 39 = .ok (.ireturn, 1) := by decide +kernel
set_option maxRecDepth 20000 in
theorem ggX3_pianosWith_X3_isPiano : GoodIn wsX3_pianosWith wsX3_isPiano := goodIn_r _ [5, 6, 7, 4, 8, 9, 10, 11, 12, 13, 14, 15, 16, 17, 18, 19, 20, 21, 22, 23, 24, 25, 26, 27, 28, 29] (by decide +kernel) (by decide +kernel)
set_option maxRecDepth 20000 in
theorem gX3_pianosWith_X3_isPiano : GoodIn wsX3_pianosWith (wsV RX3 48 RX3 yX3_isPiano wsX3_isPiano) := goodIn_app (goodIn_of _ (by decide +kernel)) ggX3_pianosWith_X3_isPiano
set_option maxRecDepth 20000 in
theorem ggX3_pianosWith_X3_pianoPart : GoodIn wsX3_pianosWith wsX3_pianoPart := goodIn_r _ [15, 16, 17, 18, 19, 20, 21, 22, 23, 24, 25, 26, 27, 28, 29] (by decide +kernel) (by decide +kernel)
set_option maxRecDepth 20000 in
theorem gX3_pianosWith_X3_pianoPart : GoodIn wsX3_pianosWith (wsV RX3 44 RX3 yX3_pianoPart wsX3_pianoPart) := goodIn_app (goodIn_of _ (by decide +kernel)) ggX3_pianosWith_X3_pianoPart
theorem dX3_pianosWith_0 : decode cX3_pianosWith 0 = .ok (.iconst 0, 1) := by decide +kernel
theorem dX3_pianosWith_1 : decode cX3_pianosWith 1 = .ok (.istore_n 2, 1) := by decide +kernel
theorem dX3_pianosWith_2 : decode cX3_pianosWith 2 = .ok (.iconst 0, 1) := by decide +kernel
theorem dX3_pianosWith_3 : decode cX3_pianosWith 3 = .ok (.istore_n 3, 1) := by decide +kernel
theorem dX3_pianosWith_4 : decode cX3_pianosWith 4 = .ok (.iload_n 3, 1) := by decide +kernel
theorem dX3_pianosWith_5 : decode cX3_pianosWith 5 = .ok (.bipush 12, 2) := by decide +kernel
theorem dX3_pianosWith_7 : decode cX3_pianosWith 7 = .ok (.if_icmp .ge 41, 3) := by decide +kernel
theorem dX3_pianosWith_10 : decode cX3_pianosWith 10 = .ok (.iload_n 2, 1) := by decide +kernel
theorem dX3_pianosWith_11 : decode cX3_pianosWith 11 = .ok (.aload_n 0, 1) := by decide +kernel
theorem dX3_pianosWith_12 : decode cX3_pianosWith 12 = .ok (.iload_n 3, 1) := by decide +kernel
theorem dX3_pianosWith_13 : decode cX3_pianosWith 13 = .ok (.invokevirtual 48, 3) := by decide +kernel
theorem dX3_pianosWith_16 : decode cX3_pianosWith 16 = .ok (.ifCond .eq 23, 3) := by decide +kernel
theorem dX3_pianosWith_19 : decode cX3_pianosWith 19 = .ok (.iload_n 1, 1) := by decide +kernel
theorem dX3_pianosWith_20 : decode cX3_pianosWith 20 = .ok (.ifCond .eq 13, 3) := by decide +kernel
theorem dX3_pianosWith_23 : decode cX3_pianosWith 23 = .ok (.aload_n 0, 1) := by decide +kernel
theorem dX3_pianosWith_24 : decode cX3_pianosWith 24 = .ok (.iload_n 3, 1) := by decide +kernel
theorem dX3_pianosWith_25 : decode cX3_pianosWith 25 = .ok (.iconst 3, 1) := by decide +kernel
theorem dX3_pianosWith_26 : decode cX3_pianosWith 26 = .ok (.invokevirtual 44, 3) := by decide +kernel
theorem dX3_pianosWith_29 : decode cX3_pianosWith 29 = .ok (.iload_n 1, 1) := by decide +kernel
theorem dX3_pianosWith_30 : decode cX3_pianosWith 30 = .ok (.if_icmp .ne 9, 3) := by decide +kernel
theorem dX3_pianosWith_33 : decode cX3_pianosWith 33 = .ok (.iconst 1, 1) := by decide +kernel
theorem dX3_pianosWith_34 : decode cX3_pianosWith 34 = .ok (.iload_n 3, 1) := by decide +kernel
theorem dX3_pianosWith_35 : decode cX3_pianosWith 35 = .ok (.ishl, 1) := by decide +kernel
theorem dX3_pianosWith_36 : decode cX3_pianosWith 36 = .ok (.goto 4, 3) := by decide +kernel
theorem dX3_pianosWith_39 : decode cX3_pianosWith 39 = .ok (.iconst 0, 1) := by decide +kernel
theorem dX3_pianosWith_40 : decode cX3_pianosWith 40 = .ok (.ior, 1) := by decide +kernel
theorem dX3_pianosWith_41 : decode cX3_pianosWith 41 = .ok (.istore_n 2, 1) := by decide +kernel
theorem dX3_pianosWith_42 : decode cX3_pianosWith 42 = .ok (.iinc 3 1, 3) := by decide +kernel
theorem dX3_pianosWith_45 : decode cX3_pianosWith 45 = .ok (.goto (-41), 3) := by decide +kernel
theorem dX3_pianosWith_48 : decode cX3_pianosWith 48 = .ok (.iload_n 2, 1) := by decide +kernel
theorem dX3_pianosWith_49 : decode cX3_pianosWith 49 = .ok (.ireturn, 1) := by decide +kernel
set_option maxRecDepth 20000 in
theorem ggX3_count_X3_within : GoodIn wsX3_count wsX3_within := goodIn_r _ [7] (by decide +kernel) (by decide +kernel)
set_option maxRecDepth 20000 in
theorem gX3_count_X3_within : GoodIn wsX3_count (va_wsS RX3 36 yX3_within wsX3_within) := goodIn_app (goodIn_of _ (by decide +kernel)) ggX3_count_X3_within
set_option maxRecDepth 20000 in
theorem ggX3_count_X3_pianosWith : GoodIn wsX3_count wsX3_pianosWith := goodIn_r _ [11, 12, 13, 14, 6, 15, 16, 17, 18, 4, 5, 7, 19, 20, 21, 22, 1, 31, 32, 33, 34, 35, 36, 37, 38, 39, 40, 41, 42, 43] (by decide +kernel) (by decide +kernel)
set_option maxRecDepth 20000 in
theorem gX3_count_X3_pianosWith : GoodIn wsX3_count (wsV RX3 150 RX3 yX3_pianosWith wsX3_pianosWith) := goodIn_app (goodIn_of _ (by decide +kernel)) ggX3_count_X3_pianosWith
set_option maxRecDepth 20000 in
theorem ggX3_count_X3_isRainAhead : GoodIn wsX3_count wsX3_isRainAhead := goodIn_r _ [26, 1, 27, 28, 29, 6, 30, 31, 32, 33, 34, 35, 36, 37, 38, 39, 40, 41, 42, 43] (by decide +kernel) (by decide +kernel)
set_option maxRecDepth 20000 in
theorem gX3_count_X3_isRainAhead : GoodIn wsX3_count (wsV RX3 87 RX3 yX3_isRainAhead wsX3_isRainAhead) := goodIn_app (goodIn_of _ (by decide +kernel)) ggX3_count_X3_isRainAhead
set_option maxRecDepth 20000 in
theorem ggX3_count_X3_rainsIn : GoodIn wsX3_count wsX3_rainsIn := goodIn_r _ [30, 1, 31, 32, 33, 34, 35, 36, 37, 38, 39, 40, 41, 42, 43] (by decide +kernel) (by decide +kernel)
set_option maxRecDepth 20000 in
theorem gX3_count_X3_rainsIn : GoodIn wsX3_count (wsV RX3 51 RX3 yX3_rainsIn wsX3_rainsIn) := goodIn_app (goodIn_of _ (by decide +kernel)) ggX3_count_X3_rainsIn
theorem dX3_count_0 : decode cX3_count 0 = .ok (.iload_n 1, 1) := by decide +kernel
theorem dX3_count_1 : decode cX3_count 1 = .ok (.bipush 10, 2) := by decide +kernel
theorem dX3_count_3 : decode cX3_count 3 = .ok (.bipush 16, 2) := by decide +kernel
theorem dX3_count_5 : decode cX3_count 5 = .ok (.invokestatic 36, 3) := by decide +kernel
theorem dX3_count_8 : decode cX3_count 8 = .ok (.ifCond .eq 13, 3) := by decide +kernel
theorem dX3_count_11 : decode cX3_count 11 = .ok (.aload_n 0, 1) := by decide +kernel
theorem dX3_count_12 : decode cX3_count 12 = .ok (.getfield 7, 3) := by decide +kernel
theorem dX3_count_15 : decode cX3_count 15 = .ok (.iload_n 1, 1) := by decide +kernel
theorem dX3_count_16 : decode cX3_count 16 = .ok (.bipush 10, 2) := by decide +kernel
theorem dX3_count_18 : decode cX3_count 18 = .ok (.isub, 1) := by decide +kernel
theorem dX3_count_19 : decode cX3_count 19 = .ok (.iaload, 1) := by decide +kernel
theorem dX3_count_20 : decode cX3_count 20 = .ok (.ireturn, 1) := by decide +kernel
theorem dX3_count_21 : decode cX3_count 21 = .ok (.iload_n 1, 1) := by decide +kernel
theorem dX3_count_22 : decode cX3_count 22 = .ok (.tableswitch 185 0 18 #[90, 98, 104, 110, 116, 124, 132, 140, 148, 161, 185, 185, 185, 185, 185, 185, 185, 175, 180], 90) := by decide +kernel
theorem dX3_count_112 : decode cX3_count 112 = .ok (.aload_n 0, 1) := by decide +kernel
theorem dX3_count_113 : decode cX3_count 113 = .ok (.getfield 7, 3) := by decide +kernel
theorem dX3_count_116 : decode cX3_count 116 = .ok (.bipush 7, 2) := by decide +kernel
theorem dX3_count_118 : decode cX3_count 118 = .ok (.iaload, 1) := by decide +kernel
theorem dX3_count_119 : decode cX3_count 119 = .ok (.ireturn, 1) := by decide +kernel
theorem dX3_count_120 : decode cX3_count 120 = .ok (.aload_n 0, 1) := by decide +kernel
theorem dX3_count_121 : decode cX3_count 121 = .ok (.iconst 0, 1) := by decide +kernel
theorem dX3_count_122 : decode cX3_count 122 = .ok (.invokevirtual 150, 3) := by decide +kernel
theorem dX3_count_125 : decode cX3_count 125 = .ok (.ireturn, 1) := by decide +kernel
theorem dX3_count_126 : decode cX3_count 126 = .ok (.aload_n 0, 1) := by decide +kernel
theorem dX3_count_127 : decode cX3_count 127 = .ok (.iconst 2, 1) := by decide +kernel
theorem dX3_count_128 : decode cX3_count 128 = .ok (.invokevirtual 150, 3) := by decide +kernel
theorem dX3_count_131 : decode cX3_count 131 = .ok (.ireturn, 1) := by decide +kernel
theorem dX3_count_132 : decode cX3_count 132 = .ok (.aload_n 0, 1) := by decide +kernel
theorem dX3_count_133 : decode cX3_count 133 = .ok (.iconst 1, 1) := by decide +kernel
theorem dX3_count_134 : decode cX3_count 134 = .ok (.invokevirtual 150, 3) := by decide +kernel
theorem dX3_count_137 : decode cX3_count 137 = .ok (.ireturn, 1) := by decide +kernel
theorem dX3_count_138 : decode cX3_count 138 = .ok (.aload_n 0, 1) := by decide +kernel
theorem dX3_count_139 : decode cX3_count 139 = .ok (.getfield 7, 3) := by decide +kernel
theorem dX3_count_142 : decode cX3_count 142 = .ok (.bipush 11, 2) := by decide +kernel
theorem dX3_count_144 : decode cX3_count 144 = .ok (.iaload, 1) := by decide +kernel
theorem dX3_count_145 : decode cX3_count 145 = .ok (.ireturn, 1) := by decide +kernel
theorem dX3_count_146 : decode cX3_count 146 = .ok (.aload_n 0, 1) := by decide +kernel
theorem dX3_count_147 : decode cX3_count 147 = .ok (.getfield 7, 3) := by decide +kernel
theorem dX3_count_150 : decode cX3_count 150 = .ok (.bipush 9, 2) := by decide +kernel
theorem dX3_count_152 : decode cX3_count 152 = .ok (.iaload, 1) := by decide +kernel
theorem dX3_count_153 : decode cX3_count 153 = .ok (.ireturn, 1) := by decide +kernel
theorem dX3_count_154 : decode cX3_count 154 = .ok (.aload_n 0, 1) := by decide +kernel
theorem dX3_count_155 : decode cX3_count 155 = .ok (.getfield 7, 3) := by decide +kernel
theorem dX3_count_158 : decode cX3_count 158 = .ok (.bipush 10, 2) := by decide +kernel
theorem dX3_count_160 : decode cX3_count 160 = .ok (.iaload, 1) := by decide +kernel
theorem dX3_count_161 : decode cX3_count 161 = .ok (.ireturn, 1) := by decide +kernel
theorem dX3_count_162 : decode cX3_count 162 = .ok (.aload_n 0, 1) := by decide +kernel
theorem dX3_count_163 : decode cX3_count 163 = .ok (.getfield 7, 3) := by decide +kernel
theorem dX3_count_166 : decode cX3_count 166 = .ok (.bipush 8, 2) := by decide +kernel
theorem dX3_count_168 : decode cX3_count 168 = .ok (.iaload, 1) := by decide +kernel
theorem dX3_count_169 : decode cX3_count 169 = .ok (.ireturn, 1) := by decide +kernel
theorem dX3_count_170 : decode cX3_count 170 = .ok (.aload_n 0, 1) := by decide +kernel
theorem dX3_count_171 : decode cX3_count 171 = .ok (.invokevirtual 87, 3) := by decide +kernel
theorem dX3_count_174 : decode cX3_count 174 = .ok (.ifCond .eq 7, 3) := by decide +kernel
theorem dX3_count_177 : decode cX3_count 177 = .ok (.iconst 1, 1) := by decide +kernel
theorem dX3_count_178 : decode cX3_count 178 = .ok (.goto 4, 3) := by decide +kernel
theorem dX3_count_181 : decode cX3_count 181 = .ok (.iconst 0, 1) := by decide +kernel
theorem dX3_count_182 : decode cX3_count 182 = .ok (.ireturn, 1) := by decide +kernel
theorem dX3_count_183 : decode cX3_count 183 = .ok (.aload_n 0, 1) := by decide +kernel
theorem dX3_count_184 : decode cX3_count 184 = .ok (.iconst 0, 1) := by decide +kernel
theorem dX3_count_185 : decode cX3_count 185 = .ok (.invokevirtual 51, 3) := by decide +kernel
theorem dX3_count_188 : decode cX3_count 188 = .ok (.ifCond .eq 7, 3) := by decide +kernel
theorem dX3_count_191 : decode cX3_count 191 = .ok (.iconst 1, 1) := by decide +kernel
theorem dX3_count_192 : decode cX3_count 192 = .ok (.goto 4, 3) := by decide +kernel
theorem dX3_count_195 : decode cX3_count 195 = .ok (.iconst 0, 1) := by decide +kernel
theorem dX3_count_196 : decode cX3_count 196 = .ok (.ireturn, 1) := by decide +kernel
theorem dX3_count_197 : decode cX3_count 197 = .ok (.aload_n 0, 1) := by decide +kernel
theorem dX3_count_198 : decode cX3_count 198 = .ok (.getfield 153, 3) := by decide +kernel
theorem dX3_count_201 : decode cX3_count 201 = .ok (.ireturn, 1) := by decide +kernel
theorem dX3_count_202 : decode cX3_count 202 = .ok (.aload_n 0, 1) := by decide +kernel
theorem dX3_count_203 : decode cX3_count 203 = .ok (.getfield 28, 3) := by decide +kernel
theorem dX3_count_206 : decode cX3_count 206 = .ok (.ireturn, 1) := by decide +kernel
theorem dX3_count_207 : decode cX3_count 207 = .ok (.bipush (-2), 2) := by decide +kernel
theorem dX3_count_209 : decode cX3_count 209 = .ok (.ireturn, 1) := by decide +kernel
set_option maxRecDepth 20000 in
theorem ggX3_worth_X3_pianoPart : GoodIn wsX3_worth wsX3_pianoPart := goodIn_r _ [5, 6, 7, 8, 9, 10, 11, 12, 13, 14, 15, 16, 17, 18, 19] (by decide +kernel) (by decide +kernel)
set_option maxRecDepth 20000 in
theorem gX3_worth_X3_pianoPart : GoodIn wsX3_worth (wsV RX3 44 RX3 yX3_pianoPart wsX3_pianoPart) := goodIn_app (goodIn_of _ (by decide +kernel)) ggX3_worth_X3_pianoPart
theorem dX3_worth_0 : decode cX3_worth 0 = .ok (.aload_n 0, 1) := by decide +kernel
theorem dX3_worth_1 : decode cX3_worth 1 = .ok (.iload_n 1, 1) := by decide +kernel
theorem dX3_worth_2 : decode cX3_worth 2 = .ok (.iconst 1, 1) := by decide +kernel
theorem dX3_worth_3 : decode cX3_worth 3 = .ok (.invokevirtual 44, 3) := by decide +kernel
theorem dX3_worth_6 : decode cX3_worth 6 = .ok (.aload_n 0, 1) := by decide +kernel
theorem dX3_worth_7 : decode cX3_worth 7 = .ok (.iload_n 1, 1) := by decide +kernel
theorem dX3_worth_8 : decode cX3_worth 8 = .ok (.iconst 2, 1) := by decide +kernel
theorem dX3_worth_9 : decode cX3_worth 9 = .ok (.invokevirtual 44, 3) := by decide +kernel
theorem dX3_worth_12 : decode cX3_worth 12 = .ok (.isub, 1) := by decide +kernel
theorem dX3_worth_13 : decode cX3_worth 13 = .ok (.ireturn, 1) := by decide +kernel
set_option maxRecDepth 20000 in
theorem ggX3_worst_X3_isPiano : GoodIn wsX3_worst wsX3_isPiano := goodIn_r _ [5, 6, 7, 4, 8, 9, 10, 11, 12, 13, 14, 15, 16, 21, 22, 23, 24, 25, 26, 27, 28, 29, 30, 31, 32, 33] (by decide +kernel) (by decide +kernel)
set_option maxRecDepth 20000 in
theorem gX3_worst_X3_isPiano : GoodIn wsX3_worst (wsV RX3 48 RX3 yX3_isPiano wsX3_isPiano) := goodIn_app (goodIn_of _ (by decide +kernel)) ggX3_worst_X3_isPiano
set_option maxRecDepth 20000 in
theorem ggX3_worst_X3_worth : GoodIn wsX3_worst wsX3_worth := goodIn_r _ [20, 12, 13, 14, 4, 15, 16, 21, 22, 23, 24, 25, 26, 27, 28, 29, 30, 31, 32, 33] (by decide +kernel) (by decide +kernel)
set_option maxRecDepth 20000 in
theorem gX3_worst_X3_worth : GoodIn wsX3_worst (wsV RX3 156 RX3 yX3_worth wsX3_worth) := goodIn_app (goodIn_of _ (by decide +kernel)) ggX3_worst_X3_worth
theorem dX3_worst_0 : decode cX3_worst 0 = .ok (.bipush (-6), 2) := by decide +kernel
theorem dX3_worst_2 : decode cX3_worst 2 = .ok (.istore_n 1, 1) := by decide +kernel
theorem dX3_worst_3 : decode cX3_worst 3 = .ok (.iconst 0, 1) := by decide +kernel
theorem dX3_worst_4 : decode cX3_worst 4 = .ok (.istore_n 2, 1) := by decide +kernel
theorem dX3_worst_5 : decode cX3_worst 5 = .ok (.iload_n 2, 1) := by decide +kernel
theorem dX3_worst_6 : decode cX3_worst 6 = .ok (.bipush 12, 2) := by decide +kernel
theorem dX3_worst_8 : decode cX3_worst 8 = .ok (.if_icmp .ge 42, 3) := by decide +kernel
theorem dX3_worst_11 : decode cX3_worst 11 = .ok (.aload_n 0, 1) := by decide +kernel
theorem dX3_worst_12 : decode cX3_worst 12 = .ok (.iload_n 2, 1) := by decide +kernel
theorem dX3_worst_13 : decode cX3_worst 13 = .ok (.invokevirtual 48, 3) := by decide +kernel
theorem dX3_worst_16 : decode cX3_worst 16 = .ok (.ifCond .eq 26, 3) := by decide +kernel
theorem dX3_worst_19 : decode cX3_worst 19 = .ok (.iload_n 1, 1) := by decide +kernel
theorem dX3_worst_20 : decode cX3_worst 20 = .ok (.bipush (-6), 2) := by decide +kernel
theorem dX3_worst_22 : decode cX3_worst 22 = .ok (.if_icmp .eq 16, 3) := by decide +kernel
theorem dX3_worst_25 : decode cX3_worst 25 = .ok (.aload_n 0, 1) := by decide +kernel
theorem dX3_worst_26 : decode cX3_worst 26 = .ok (.iload_n 2, 1) := by decide +kernel
theorem dX3_worst_27 : decode cX3_worst 27 = .ok (.invokevirtual 156, 3) := by decide +kernel
theorem dX3_worst_30 : decode cX3_worst 30 = .ok (.aload_n 0, 1) := by decide +kernel
theorem dX3_worst_31 : decode cX3_worst 31 = .ok (.iload_n 1, 1) := by decide +kernel
theorem dX3_worst_32 : decode cX3_worst 32 = .ok (.invokevirtual 156, 3) := by decide +kernel
theorem dX3_worst_35 : decode cX3_worst 35 = .ok (.if_icmp .ge 7, 3) := by decide +kernel
theorem dX3_worst_38 : decode cX3_worst 38 = .ok (.iload_n 2, 1) := by decide +kernel
theorem dX3_worst_39 : decode cX3_worst 39 = .ok (.goto 4, 3) := by decide +kernel
theorem dX3_worst_42 : decode cX3_worst 42 = .ok (.iload_n 1, 1) := by decide +kernel
theorem dX3_worst_43 : decode cX3_worst 43 = .ok (.istore_n 1, 1) := by decide +kernel
theorem dX3_worst_44 : decode cX3_worst 44 = .ok (.iinc 2 1, 3) := by decide +kernel
theorem dX3_worst_47 : decode cX3_worst 47 = .ok (.goto (-42), 3) := by decide +kernel
theorem dX3_worst_50 : decode cX3_worst 50 = .ok (.iload_n 1, 1) := by decide +kernel
theorem dX3_worst_51 : decode cX3_worst 51 = .ok (.ireturn, 1) := by decide +kernel
set_option maxRecDepth 20000 in
theorem ggX3_why_X3_isPiano : GoodIn wsX3_why wsX3_isPiano := goodIn_r _ [6, 7, 8, 5, 9, 10, 11, 12, 13, 14, 15, 16, 1, 33, 34, 35, 36, 37, 38, 39, 40, 41, 42, 43, 44, 45] (by decide +kernel) (by decide +kernel)
set_option maxRecDepth 20000 in
theorem gX3_why_X3_isPiano : GoodIn wsX3_why (wsV RX3 48 RX3 yX3_isPiano wsX3_isPiano) := goodIn_app (goodIn_of _ (by decide +kernel)) ggX3_why_X3_isPiano
set_option maxRecDepth 20000 in
theorem ggX3_why_X3_pianoPart : GoodIn wsX3_why wsX3_pianoPart := goodIn_r _ [16, 1, 33, 34, 35, 36, 37, 38, 39, 40, 41, 42, 43, 44, 45] (by decide +kernel) (by decide +kernel)
set_option maxRecDepth 20000 in
theorem gX3_why_X3_pianoPart : GoodIn wsX3_why (wsV RX3 44 RX3 yX3_pianoPart wsX3_pianoPart) := goodIn_app (goodIn_of _ (by decide +kernel)) ggX3_why_X3_pianoPart
set_option maxRecDepth 20000 in
theorem ggX3_why_X3_isRainAhead : GoodIn wsX3_why wsX3_isRainAhead := goodIn_r _ [20, 1, 21, 22, 23, 5, 24, 33, 34, 35, 36, 37, 38, 39, 40, 41, 42, 43, 44, 45] (by decide +kernel) (by decide +kernel)
set_option maxRecDepth 20000 in
theorem gX3_why_X3_isRainAhead : GoodIn wsX3_why (wsV RX3 87 RX3 yX3_isRainAhead wsX3_isRainAhead) := goodIn_app (goodIn_of _ (by decide +kernel)) ggX3_why_X3_isRainAhead
set_option maxRecDepth 20000 in
theorem ggX3_why_X3_keepersAt : GoodIn wsX3_why wsX3_keepersAt := goodIn_r _ [28, 1, 29, 30, 31, 5, 32, 33, 34, 35, 36, 37, 38, 39, 40, 41, 42, 43, 44, 45] (by decide +kernel) (by decide +kernel)
set_option maxRecDepth 20000 in
theorem gX3_why_X3_keepersAt : GoodIn wsX3_why (wsV RX3 95 RX3 yX3_keepersAt wsX3_keepersAt) := goodIn_app (goodIn_of _ (by decide +kernel)) ggX3_why_X3_keepersAt
theorem dX3_why_0 : decode cX3_why 0 = .ok (.aload_n 0, 1) := by decide +kernel
theorem dX3_why_1 : decode cX3_why 1 = .ok (.iload_n 1, 1) := by decide +kernel
theorem dX3_why_2 : decode cX3_why 2 = .ok (.invokevirtual 48, 3) := by decide +kernel
theorem dX3_why_5 : decode cX3_why 5 = .ok (.ifCond .ne 5, 3) := by decide +kernel
theorem dX3_why_8 : decode cX3_why 8 = .ok (.iconst (-1), 1) := by decide +kernel
theorem dX3_why_9 : decode cX3_why 9 = .ok (.ireturn, 1) := by decide +kernel
theorem dX3_why_10 : decode cX3_why 10 = .ok (.aload_n 0, 1) := by decide +kernel
theorem dX3_why_11 : decode cX3_why 11 = .ok (.iload_n 1, 1) := by decide +kernel
theorem dX3_why_12 : decode cX3_why 12 = .ok (.iconst 3, 1) := by decide +kernel
theorem dX3_why_13 : decode cX3_why 13 = .ok (.invokevirtual 44, 3) := by decide +kernel
theorem dX3_why_16 : decode cX3_why 16 = .ok (.iconst 1, 1) := by decide +kernel
theorem dX3_why_17 : decode cX3_why 17 = .ok (.if_icmp .eq 19, 3) := by decide +kernel
theorem dX3_why_20 : decode cX3_why 20 = .ok (.aload_n 0, 1) := by decide +kernel
theorem dX3_why_21 : decode cX3_why 21 = .ok (.iload_n 1, 1) := by decide +kernel
theorem dX3_why_22 : decode cX3_why 22 = .ok (.iconst 3, 1) := by decide +kernel
theorem dX3_why_23 : decode cX3_why 23 = .ok (.invokevirtual 44, 3) := by decide +kernel
theorem dX3_why_26 : decode cX3_why 26 = .ok (.iconst 2, 1) := by decide +kernel
theorem dX3_why_27 : decode cX3_why 27 = .ok (.if_icmp .ne 7, 3) := by decide +kernel
theorem dX3_why_30 : decode cX3_why 30 = .ok (.iconst 0, 1) := by decide +kernel
theorem dX3_why_31 : decode cX3_why 31 = .ok (.goto 4, 3) := by decide +kernel
theorem dX3_why_34 : decode cX3_why 34 = .ok (.iconst 1, 1) := by decide +kernel
theorem dX3_why_35 : decode cX3_why 35 = .ok (.ireturn, 1) := by decide +kernel
theorem dX3_why_36 : decode cX3_why 36 = .ok (.aload_n 0, 1) := by decide +kernel
theorem dX3_why_37 : decode cX3_why 37 = .ok (.invokevirtual 87, 3) := by decide +kernel
theorem dX3_why_40 : decode cX3_why 40 = .ok (.ifCond .ne 5, 3) := by decide +kernel
theorem dX3_why_43 : decode cX3_why 43 = .ok (.iconst 2, 1) := by decide +kernel
theorem dX3_why_44 : decode cX3_why 44 = .ok (.ireturn, 1) := by decide +kernel
theorem dX3_why_45 : decode cX3_why 45 = .ok (.aload_n 0, 1) := by decide +kernel
theorem dX3_why_46 : decode cX3_why 46 = .ok (.getfield 7, 3) := by decide +kernel
theorem dX3_why_49 : decode cX3_why 49 = .ok (.bipush 11, 2) := by decide +kernel
theorem dX3_why_51 : decode cX3_why 51 = .ok (.iaload, 1) := by decide +kernel
theorem dX3_why_52 : decode cX3_why 52 = .ok (.ifCond .ne 7, 3) := by decide +kernel
theorem dX3_why_55 : decode cX3_why 55 = .ok (.iconst 3, 1) := by decide +kernel
theorem dX3_why_56 : decode cX3_why 56 = .ok (.goto 16, 3) := by decide +kernel
theorem dX3_why_59 : decode cX3_why 59 = .ok (.aload_n 0, 1) := by decide +kernel
theorem dX3_why_60 : decode cX3_why 60 = .ok (.iload_n 1, 1) := by decide +kernel
theorem dX3_why_61 : decode cX3_why 61 = .ok (.invokevirtual 95, 3) := by decide +kernel
theorem dX3_why_64 : decode cX3_why 64 = .ok (.ifCond .ne 7, 3) := by decide +kernel
theorem dX3_why_67 : decode cX3_why 67 = .ok (.iconst 4, 1) := by decide +kernel
theorem dX3_why_68 : decode cX3_why 68 = .ok (.goto 4, 3) := by decide +kernel
theorem dX3_why_71 : decode cX3_why 71 = .ok (.iconst 5, 1) := by decide +kernel
theorem dX3_why_72 : decode cX3_why 72 = .ok (.ireturn, 1) := by decide +kernel
set_option maxRecDepth 20000 in
theorem ggX3_rainIn_X3_rainsIn : GoodIn wsX3_rainIn wsX3_rainsIn := goodIn_r _ [5, 6, 7, 8, 9, 10, 11, 12, 13, 14, 15, 16, 17, 18, 19] (by decide +kernel) (by decide +kernel)
set_option maxRecDepth 20000 in
theorem gX3_rainIn_X3_rainsIn : GoodIn wsX3_rainIn (wsV RX3 51 RX3 yX3_rainsIn wsX3_rainsIn) := goodIn_app (goodIn_of _ (by decide +kernel)) ggX3_rainIn_X3_rainsIn
theorem dX3_rainIn_0 : decode cX3_rainIn 0 = .ok (.bipush (-6), 2) := by decide +kernel
theorem dX3_rainIn_2 : decode cX3_rainIn 2 = .ok (.istore_n 1, 1) := by decide +kernel
theorem dX3_rainIn_3 : decode cX3_rainIn 3 = .ok (.bipush 23, 2) := by decide +kernel
theorem dX3_rainIn_5 : decode cX3_rainIn 5 = .ok (.istore_n 2, 1) := by decide +kernel
theorem dX3_rainIn_6 : decode cX3_rainIn 6 = .ok (.iload_n 2, 1) := by decide +kernel
theorem dX3_rainIn_7 : decode cX3_rainIn 7 = .ok (.ifCond .lt 23, 3) := by decide +kernel
theorem dX3_rainIn_10 : decode cX3_rainIn 10 = .ok (.aload_n 0, 1) := by decide +kernel
theorem dX3_rainIn_11 : decode cX3_rainIn 11 = .ok (.iload_n 2, 1) := by decide +kernel
theorem dX3_rainIn_12 : decode cX3_rainIn 12 = .ok (.invokevirtual 51, 3) := by decide +kernel
theorem dX3_rainIn_15 : decode cX3_rainIn 15 = .ok (.ifCond .eq 7, 3) := by decide +kernel
theorem dX3_rainIn_18 : decode cX3_rainIn 18 = .ok (.iload_n 2, 1) := by decide +kernel
theorem dX3_rainIn_19 : decode cX3_rainIn 19 = .ok (.goto 4, 3) := by decide +kernel
theorem dX3_rainIn_22 : decode cX3_rainIn 22 = .ok (.iload_n 1, 1) := by decide +kernel
theorem dX3_rainIn_23 : decode cX3_rainIn 23 = .ok (.istore_n 1, 1) := by decide +kernel
theorem dX3_rainIn_24 : decode cX3_rainIn 24 = .ok (.iinc 2 (-1), 3) := by decide +kernel
theorem dX3_rainIn_27 : decode cX3_rainIn 27 = .ok (.goto (-21), 3) := by decide +kernel
theorem dX3_rainIn_30 : decode cX3_rainIn 30 = .ok (.iload_n 1, 1) := by decide +kernel
theorem dX3_rainIn_31 : decode cX3_rainIn 31 = .ok (.ireturn, 1) := by decide +kernel
set_option maxRecDepth 20000 in
theorem ggX3_coveredIn_X3_isPiano : GoodIn wsX3_coveredIn wsX3_isPiano := goodIn_r _ [7, 8, 9, 6, 10, 11, 12, 13, 14, 15, 16, 17, 1, 92, 93, 94, 95, 96, 97, 98, 99, 100, 101, 102, 103, 104] (by decide +kernel) (by decide +kernel)
set_option maxRecDepth 20000 in
theorem gX3_coveredIn_X3_isPiano : GoodIn wsX3_coveredIn (wsV RX3 48 RX3 yX3_isPiano wsX3_isPiano) := goodIn_app (goodIn_of _ (by decide +kernel)) ggX3_coveredIn_X3_isPiano
set_option maxRecDepth 20000 in
theorem ggX3_coveredIn_X3_moves : GoodIn wsX3_coveredIn wsX3_moves := goodIn_r _ [20] (by decide +kernel) (by decide +kernel)
set_option maxRecDepth 20000 in
theorem gX3_coveredIn_X3_moves : GoodIn wsX3_coveredIn (va_wsS RX3 32 yX3_moves wsX3_moves) := goodIn_app (goodIn_of _ (by decide +kernel)) ggX3_coveredIn_X3_moves
set_option maxRecDepth 20000 in
theorem ggX3_coveredIn_X3_pianoPart : GoodIn wsX3_coveredIn wsX3_pianoPart := goodIn_r _ [17, 1, 92, 93, 94, 95, 96, 97, 98, 99, 100, 101, 102, 103, 104] (by decide +kernel) (by decide +kernel)
set_option maxRecDepth 20000 in
theorem gX3_coveredIn_X3_pianoPart : GoodIn wsX3_coveredIn (wsV RX3 44 RX3 yX3_pianoPart wsX3_pianoPart) := goodIn_app (goodIn_of _ (by decide +kernel)) ggX3_coveredIn_X3_pianoPart
set_option maxRecDepth 20000 in
theorem ggX3_coveredIn_X3_hour : GoodIn wsX3_coveredIn wsX3_hour := goodIn_r _ [24, 1, 25, 26, 27, 6, 28, 29, 30, 31, 32, 33, 34, 35, 36, 37, 38, 39, 40, 41, 42, 43, 44, 45, 46, 47, 48, 49, 3, 4, 5, 7, 8, 9, 10, 11, 12, 13, 14, 15, 16, 17, 50, 51, 52, 53, 54, 55, 56, 57, 58, 59, 60, 61, 62, 63, 64, 65, 66, 67, 68, 69, 70, 71, 72, 73, 74, 75, 76, 77, 78, 79, 80, 81, 82, 83, 84, 85, 86, 87, 88, 89, 90, 91, 92, 93, 94, 95, 96, 97, 98, 99, 100, 101, 102, 103, 104] (by decide +kernel) (by decide +kernel)
set_option maxRecDepth 20000 in
theorem gX3_coveredIn_X3_hour : GoodIn wsX3_coveredIn (wsV RX3 112 RX3 yX3_hour wsX3_hour) := goodIn_app (goodIn_of _ (by decide +kernel)) ggX3_coveredIn_X3_hour
theorem dX3_coveredIn_0 : decode cX3_coveredIn 0 = .ok (.aload_n 0, 1) := by decide +kernel
theorem dX3_coveredIn_1 : decode cX3_coveredIn 1 = .ok (.iload_n 1, 1) := by decide +kernel
theorem dX3_coveredIn_2 : decode cX3_coveredIn 2 = .ok (.invokevirtual 48, 3) := by decide +kernel
theorem dX3_coveredIn_5 : decode cX3_coveredIn 5 = .ok (.ifCond .ne 5, 3) := by decide +kernel
theorem dX3_coveredIn_8 : decode cX3_coveredIn 8 = .ok (.iconst (-1), 1) := by decide +kernel
theorem dX3_coveredIn_9 : decode cX3_coveredIn 9 = .ok (.ireturn, 1) := by decide +kernel
theorem dX3_coveredIn_10 : decode cX3_coveredIn 10 = .ok (.aload_n 0, 1) := by decide +kernel
theorem dX3_coveredIn_11 : decode cX3_coveredIn 11 = .ok (.getfield 7, 3) := by decide +kernel
theorem dX3_coveredIn_14 : decode cX3_coveredIn 14 = .ok (.iconst 0, 1) := by decide +kernel
theorem dX3_coveredIn_15 : decode cX3_coveredIn 15 = .ok (.aload_n 0, 1) := by decide +kernel
theorem dX3_coveredIn_16 : decode cX3_coveredIn 16 = .ok (.getfield 13, 3) := by decide +kernel
theorem dX3_coveredIn_19 : decode cX3_coveredIn 19 = .ok (.iconst 0, 1) := by decide +kernel
theorem dX3_coveredIn_20 : decode cX3_coveredIn 20 = .ok (.invokestatic 32, 3) := by decide +kernel
theorem dX3_coveredIn_23 : decode cX3_coveredIn 23 = .ok (.iconst 0, 1) := by decide +kernel
theorem dX3_coveredIn_24 : decode cX3_coveredIn 24 = .ok (.istore_n 2, 1) := by decide +kernel
theorem dX3_coveredIn_25 : decode cX3_coveredIn 25 = .ok (.aload_n 0, 1) := by decide +kernel
theorem dX3_coveredIn_26 : decode cX3_coveredIn 26 = .ok (.iload_n 1, 1) := by decide +kernel
theorem dX3_coveredIn_27 : decode cX3_coveredIn 27 = .ok (.iconst 3, 1) := by decide +kernel
theorem dX3_coveredIn_28 : decode cX3_coveredIn 28 = .ok (.invokevirtual 44, 3) := by decide +kernel
theorem dX3_coveredIn_31 : decode cX3_coveredIn 31 = .ok (.iconst 2, 1) := by decide +kernel
theorem dX3_coveredIn_32 : decode cX3_coveredIn 32 = .ok (.if_icmp .eq 19, 3) := by decide +kernel
theorem dX3_coveredIn_35 : decode cX3_coveredIn 35 = .ok (.iload_n 2, 1) := by decide +kernel
theorem dX3_coveredIn_36 : decode cX3_coveredIn 36 = .ok (.bipush 96, 2) := by decide +kernel
theorem dX3_coveredIn_38 : decode cX3_coveredIn 38 = .ok (.if_icmp .ge 13, 3) := by decide +kernel
theorem dX3_coveredIn_41 : decode cX3_coveredIn 41 = .ok (.aload_n 0, 1) := by decide +kernel
theorem dX3_coveredIn_42 : decode cX3_coveredIn 42 = .ok (.invokevirtual 112, 3) := by decide +kernel
theorem dX3_coveredIn_45 : decode cX3_coveredIn 45 = .ok (.iinc 2 1, 3) := by decide +kernel
theorem dX3_coveredIn_48 : decode cX3_coveredIn 48 = .ok (.goto (-23), 3) := by decide +kernel
theorem dX3_coveredIn_51 : decode cX3_coveredIn 51 = .ok (.aload_n 0, 1) := by decide +kernel
theorem dX3_coveredIn_52 : decode cX3_coveredIn 52 = .ok (.iload_n 1, 1) := by decide +kernel
theorem dX3_coveredIn_53 : decode cX3_coveredIn 53 = .ok (.iconst 3, 1) := by decide +kernel
theorem dX3_coveredIn_54 : decode cX3_coveredIn 54 = .ok (.invokevirtual 44, 3) := by decide +kernel
theorem dX3_coveredIn_57 : decode cX3_coveredIn 57 = .ok (.iconst 2, 1) := by decide +kernel
theorem dX3_coveredIn_58 : decode cX3_coveredIn 58 = .ok (.if_icmp .ne 7, 3) := by decide +kernel
theorem dX3_coveredIn_61 : decode cX3_coveredIn 61 = .ok (.iload_n 2, 1) := by decide +kernel
theorem dX3_coveredIn_62 : decode cX3_coveredIn 62 = .ok (.goto 5, 3) := by decide +kernel
theorem dX3_coveredIn_65 : decode cX3_coveredIn 65 = .ok (.bipush (-6), 2) := by decide +kernel
theorem dX3_coveredIn_67 : decode cX3_coveredIn 67 = .ok (.istore_n 3, 1) := by decide +kernel
theorem dX3_coveredIn_68 : decode cX3_coveredIn 68 = .ok (.aload_n 0, 1) := by decide +kernel
theorem dX3_coveredIn_69 : decode cX3_coveredIn 69 = .ok (.getfield 13, 3) := by decide +kernel
theorem dX3_coveredIn_72 : decode cX3_coveredIn 72 = .ok (.iconst 0, 1) := by decide +kernel
theorem dX3_coveredIn_73 : decode cX3_coveredIn 73 = .ok (.aload_n 0, 1) := by decide +kernel
theorem dX3_coveredIn_74 : decode cX3_coveredIn 74 = .ok (.getfield 7, 3) := by decide +kernel
theorem dX3_coveredIn_77 : decode cX3_coveredIn 77 = .ok (.iconst 0, 1) := by decide +kernel
theorem dX3_coveredIn_78 : decode cX3_coveredIn 78 = .ok (.invokestatic 32, 3) := by decide +kernel
theorem dX3_coveredIn_81 : decode cX3_coveredIn 81 = .ok (.iload_n 3, 1) := by decide +kernel
theorem dX3_coveredIn_82 : decode cX3_coveredIn 82 = .ok (.ireturn, 1) := by decide +kernel
set_option maxRecDepth 20000 in
theorem ggX3_willBeWet_X3_within : GoodIn wsX3_willBeWet wsX3_within := goodIn_r _ [6] (by decide +kernel) (by decide +kernel)
set_option maxRecDepth 20000 in
theorem gX3_willBeWet_X3_within : GoodIn wsX3_willBeWet (va_wsS RX3 36 yX3_within wsX3_within) := goodIn_app (goodIn_of _ (by decide +kernel)) ggX3_willBeWet_X3_within
set_option maxRecDepth 20000 in
theorem ggX3_willBeWet_X3_moves : GoodIn wsX3_willBeWet wsX3_moves := goodIn_r _ [9] (by decide +kernel) (by decide +kernel)
set_option maxRecDepth 20000 in
theorem gX3_willBeWet_X3_moves : GoodIn wsX3_willBeWet (va_wsS RX3 32 yX3_moves wsX3_moves) := goodIn_app (goodIn_of _ (by decide +kernel)) ggX3_willBeWet_X3_moves
set_option maxRecDepth 20000 in
theorem ggX3_willBeWet_X3_passes : GoodIn wsX3_willBeWet wsX3_passes := goodIn_r _ [13, 1, 14, 15, 16, 5, 17, 18, 19, 20, 21, 22, 23, 24, 25, 26, 27, 28, 29, 30, 31, 32, 33, 34, 35, 36, 37, 38, 39, 40, 41, 42, 43, 44, 45, 46, 47, 48, 49, 3, 4, 6, 50, 51, 52, 53, 54, 55, 56, 57, 58, 59, 60, 61, 62, 63, 64, 65, 66, 67, 68, 69, 70, 71, 72, 73, 74, 75, 76, 77, 78, 79, 80, 81, 82, 83, 84, 85, 86, 87, 88, 89, 90, 91, 92, 93, 94, 95, 96, 97, 98, 99, 100, 101, 102, 103, 104, 105, 106, 107, 108] (by decide +kernel) (by decide +kernel)
set_option maxRecDepth 20000 in
theorem gX3_willBeWet_X3_passes : GoodIn wsX3_willBeWet (wsV RX3 147 RX3 yX3_passes wsX3_passes) := goodIn_app (goodIn_of _ (by decide +kernel)) ggX3_willBeWet_X3_passes
set_option maxRecDepth 20000 in
theorem ggX3_willBeWet_X3_pianoPart : GoodIn wsX3_willBeWet wsX3_pianoPart := goodIn_r _ [53, 1, 96, 97, 98, 99, 100, 101, 102, 103, 104, 105, 106, 107, 108] (by decide +kernel) (by decide +kernel)
set_option maxRecDepth 20000 in
theorem gX3_willBeWet_X3_pianoPart : GoodIn wsX3_willBeWet (wsV RX3 44 RX3 yX3_pianoPart wsX3_pianoPart) := goodIn_app (goodIn_of _ (by decide +kernel)) ggX3_willBeWet_X3_pianoPart
theorem dX3_willBeWet_0 : decode cX3_willBeWet 0 = .ok (.iload_n 1, 1) := by decide +kernel
theorem dX3_willBeWet_1 : decode cX3_willBeWet 1 = .ok (.iconst 1, 1) := by decide +kernel
theorem dX3_willBeWet_2 : decode cX3_willBeWet 2 = .ok (.bipush 99, 2) := by decide +kernel
theorem dX3_willBeWet_4 : decode cX3_willBeWet 4 = .ok (.invokestatic 36, 3) := by decide +kernel
theorem dX3_willBeWet_7 : decode cX3_willBeWet 7 = .ok (.ifCond .ne 6, 3) := by decide +kernel
theorem dX3_willBeWet_10 : decode cX3_willBeWet 10 = .ok (.bipush (-2), 2) := by decide +kernel
theorem dX3_willBeWet_12 : decode cX3_willBeWet 12 = .ok (.ireturn, 1) := by decide +kernel
theorem dX3_willBeWet_13 : decode cX3_willBeWet 13 = .ok (.aload_n 0, 1) := by decide +kernel
theorem dX3_willBeWet_14 : decode cX3_willBeWet 14 = .ok (.getfield 7, 3) := by decide +kernel
theorem dX3_willBeWet_17 : decode cX3_willBeWet 17 = .ok (.iconst 0, 1) := by decide +kernel
theorem dX3_willBeWet_18 : decode cX3_willBeWet 18 = .ok (.aload_n 0, 1) := by decide +kernel
theorem dX3_willBeWet_19 : decode cX3_willBeWet 19 = .ok (.getfield 13, 3) := by decide +kernel
theorem dX3_willBeWet_22 : decode cX3_willBeWet 22 = .ok (.iconst 0, 1) := by decide +kernel
theorem dX3_willBeWet_23 : decode cX3_willBeWet 23 = .ok (.invokestatic 32, 3) := by decide +kernel
theorem dX3_willBeWet_26 : decode cX3_willBeWet 26 = .ok (.aload_n 0, 1) := by decide +kernel
theorem dX3_willBeWet_27 : decode cX3_willBeWet 27 = .ok (.iload_n 1, 1) := by decide +kernel
theorem dX3_willBeWet_28 : decode cX3_willBeWet 28 = .ok (.invokevirtual 147, 3) := by decide +kernel
theorem dX3_willBeWet_31 : decode cX3_willBeWet 31 = .ok (.pop, 1) := by decide +kernel
theorem dX3_willBeWet_32 : decode cX3_willBeWet 32 = .ok (.iconst 0, 1) := by decide +kernel
theorem dX3_willBeWet_33 : decode cX3_willBeWet 33 = .ok (.istore_n 2, 1) := by decide +kernel
theorem dX3_willBeWet_34 : decode cX3_willBeWet 34 = .ok (.iconst 0, 1) := by decide +kernel
theorem dX3_willBeWet_35 : decode cX3_willBeWet 35 = .ok (.istore_n 3, 1) := by decide +kernel
theorem dX3_willBeWet_36 : decode cX3_willBeWet 36 = .ok (.iload_n 3, 1) := by decide +kernel
theorem dX3_willBeWet_37 : decode cX3_willBeWet 37 = .ok (.bipush 12, 2) := by decide +kernel
theorem dX3_willBeWet_39 : decode cX3_willBeWet 39 = .ok (.if_icmp .ge 42, 3) := by decide +kernel
theorem dX3_willBeWet_42 : decode cX3_willBeWet 42 = .ok (.iload_n 2, 1) := by decide +kernel
theorem dX3_willBeWet_43 : decode cX3_willBeWet 43 = .ok (.aload_n 0, 1) := by decide +kernel
theorem dX3_willBeWet_44 : decode cX3_willBeWet 44 = .ok (.iload_n 3, 1) := by decide +kernel
theorem dX3_willBeWet_45 : decode cX3_willBeWet 45 = .ok (.iconst 5, 1) := by decide +kernel
theorem dX3_willBeWet_46 : decode cX3_willBeWet 46 = .ok (.invokevirtual 44, 3) := by decide +kernel
theorem dX3_willBeWet_49 : decode cX3_willBeWet 49 = .ok (.aload_n 0, 1) := by decide +kernel
theorem dX3_willBeWet_50 : decode cX3_willBeWet 50 = .ok (.getfield 13, 3) := by decide +kernel
theorem dX3_willBeWet_53 : decode cX3_willBeWet 53 = .ok (.bipush 12, 2) := by decide +kernel
theorem dX3_willBeWet_55 : decode cX3_willBeWet 55 = .ok (.bipush 6, 2) := by decide +kernel
theorem dX3_willBeWet_57 : decode cX3_willBeWet 57 = .ok (.iload_n 3, 1) := by decide +kernel
theorem dX3_willBeWet_58 : decode cX3_willBeWet 58 = .ok (.imul, 1) := by decide +kernel
theorem dX3_willBeWet_59 : decode cX3_willBeWet 59 = .ok (.iadd, 1) := by decide +kernel
theorem dX3_willBeWet_60 : decode cX3_willBeWet 60 = .ok (.iconst 5, 1) := by decide +kernel
theorem dX3_willBeWet_61 : decode cX3_willBeWet 61 = .ok (.iadd, 1) := by decide +kernel
theorem dX3_willBeWet_62 : decode cX3_willBeWet 62 = .ok (.iaload, 1) := by decide +kernel
theorem dX3_willBeWet_63 : decode cX3_willBeWet 63 = .ok (.if_icmp .le 9, 3) := by decide +kernel
theorem dX3_willBeWet_66 : decode cX3_willBeWet 66 = .ok (.iconst 1, 1) := by decide +kernel
theorem dX3_willBeWet_67 : decode cX3_willBeWet 67 = .ok (.iload_n 3, 1) := by decide +kernel
theorem dX3_willBeWet_68 : decode cX3_willBeWet 68 = .ok (.ishl, 1) := by decide +kernel
theorem dX3_willBeWet_69 : decode cX3_willBeWet 69 = .ok (.goto 4, 3) := by decide +kernel
theorem dX3_willBeWet_72 : decode cX3_willBeWet 72 = .ok (.iconst 0, 1) := by decide +kernel
theorem dX3_willBeWet_73 : decode cX3_willBeWet 73 = .ok (.ior, 1) := by decide +kernel
theorem dX3_willBeWet_74 : decode cX3_willBeWet 74 = .ok (.istore_n 2, 1) := by decide +kernel
theorem dX3_willBeWet_75 : decode cX3_willBeWet 75 = .ok (.iinc 3 1, 3) := by decide +kernel
theorem dX3_willBeWet_78 : decode cX3_willBeWet 78 = .ok (.goto (-42), 3) := by decide +kernel
theorem dX3_willBeWet_81 : decode cX3_willBeWet 81 = .ok (.aload_n 0, 1) := by decide +kernel
theorem dX3_willBeWet_82 : decode cX3_willBeWet 82 = .ok (.getfield 13, 3) := by decide +kernel
theorem dX3_willBeWet_85 : decode cX3_willBeWet 85 = .ok (.iconst 0, 1) := by decide +kernel
theorem dX3_willBeWet_86 : decode cX3_willBeWet 86 = .ok (.aload_n 0, 1) := by decide +kernel
theorem dX3_willBeWet_87 : decode cX3_willBeWet 87 = .ok (.getfield 7, 3) := by decide +kernel
theorem dX3_willBeWet_90 : decode cX3_willBeWet 90 = .ok (.iconst 0, 1) := by decide +kernel
theorem dX3_willBeWet_91 : decode cX3_willBeWet 91 = .ok (.invokestatic 32, 3) := by decide +kernel
theorem dX3_willBeWet_94 : decode cX3_willBeWet 94 = .ok (.iload_n 2, 1) := by decide +kernel
theorem dX3_willBeWet_95 : decode cX3_willBeWet 95 = .ok (.ireturn, 1) := by decide +kernel
set_option maxRecDepth 20000 in
theorem ggX3_bestPlace_X3_within : GoodIn wsX3_bestPlace wsX3_within := goodIn_r _ [6] (by decide +kernel) (by decide +kernel)
set_option maxRecDepth 20000 in
theorem gX3_bestPlace_X3_within : GoodIn wsX3_bestPlace (va_wsS RX3 36 yX3_within wsX3_within) := goodIn_app (goodIn_of _ (by decide +kernel)) ggX3_bestPlace_X3_within
set_option maxRecDepth 20000 in
theorem ggX3_bestPlace_X3_moves : GoodIn wsX3_bestPlace wsX3_moves := goodIn_r _ [9] (by decide +kernel) (by decide +kernel)
set_option maxRecDepth 20000 in
theorem gX3_bestPlace_X3_moves : GoodIn wsX3_bestPlace (va_wsS RX3 32 yX3_moves wsX3_moves) := goodIn_app (goodIn_of _ (by decide +kernel)) ggX3_bestPlace_X3_moves
set_option maxRecDepth 20000 in
theorem ggX3_bestPlace_X3_keeperComes : GoodIn wsX3_bestPlace wsX3_keeperComes := goodIn_r _ [13, 1, 100, 101, 102, 103, 104, 105, 106, 107, 108, 109, 110, 111, 112] (by decide +kernel) (by decide +kernel)
set_option maxRecDepth 20000 in
theorem gX3_bestPlace_X3_keeperComes : GoodIn wsX3_bestPlace (wsV RX3 135 RX3 yX3_keeperComes wsX3_keeperComes) := goodIn_app (goodIn_of _ (by decide +kernel)) ggX3_bestPlace_X3_keeperComes
set_option maxRecDepth 20000 in
theorem ggX3_bestPlace_X3_passes : GoodIn wsX3_bestPlace wsX3_passes := goodIn_r _ [17, 1, 18, 19, 20, 5, 21, 22, 23, 24, 25, 26, 27, 28, 29, 30, 31, 32, 33, 34, 35, 36, 37, 38, 39, 40, 41, 42, 43, 44, 45, 46, 47, 48, 49, 50, 51, 52, 53, 3, 4, 6, 54, 55, 56, 57, 58, 59, 60, 61, 62, 63, 64, 65, 66, 67, 68, 69, 70, 71, 72, 73, 74, 75, 76, 77, 78, 79, 80, 81, 82, 83, 84, 85, 86, 87, 88, 89, 90, 91, 92, 93, 94, 95, 96, 97, 98, 99, 100, 101, 102, 103, 104, 105, 106, 107, 108, 109, 110, 111, 112] (by decide +kernel) (by decide +kernel)
set_option maxRecDepth 20000 in
theorem gX3_bestPlace_X3_passes : GoodIn wsX3_bestPlace (wsV RX3 147 RX3 yX3_passes wsX3_passes) := goodIn_app (goodIn_of _ (by decide +kernel)) ggX3_bestPlace_X3_passes
theorem dX3_bestPlace_0 : decode cX3_bestPlace 0 = .ok (.iload_n 1, 1) := by decide +kernel
theorem dX3_bestPlace_1 : decode cX3_bestPlace 1 = .ok (.iconst 1, 1) := by decide +kernel
theorem dX3_bestPlace_2 : decode cX3_bestPlace 2 = .ok (.bipush 48, 2) := by decide +kernel
theorem dX3_bestPlace_4 : decode cX3_bestPlace 4 = .ok (.invokestatic 36, 3) := by decide +kernel
theorem dX3_bestPlace_7 : decode cX3_bestPlace 7 = .ok (.ifCond .eq 12, 3) := by decide +kernel
theorem dX3_bestPlace_10 : decode cX3_bestPlace 10 = .ok (.iload_n 2, 1) := by decide +kernel
theorem dX3_bestPlace_11 : decode cX3_bestPlace 11 = .ok (.iconst 0, 1) := by decide +kernel
theorem dX3_bestPlace_12 : decode cX3_bestPlace 12 = .ok (.iconst 1, 1) := by decide +kernel
theorem dX3_bestPlace_13 : decode cX3_bestPlace 13 = .ok (.invokestatic 36, 3) := by decide +kernel
theorem dX3_bestPlace_16 : decode cX3_bestPlace 16 = .ok (.ifCond .ne 6, 3) := by decide +kernel
theorem dX3_bestPlace_19 : decode cX3_bestPlace 19 = .ok (.bipush (-2), 2) := by decide +kernel
theorem dX3_bestPlace_21 : decode cX3_bestPlace 21 = .ok (.ireturn, 1) := by decide +kernel
theorem dX3_bestPlace_22 : decode cX3_bestPlace 22 = .ok (.aload_n 0, 1) := by decide +kernel
theorem dX3_bestPlace_23 : decode cX3_bestPlace 23 = .ok (.getfield 7, 3) := by decide +kernel
theorem dX3_bestPlace_26 : decode cX3_bestPlace 26 = .ok (.iconst 0, 1) := by decide +kernel
theorem dX3_bestPlace_27 : decode cX3_bestPlace 27 = .ok (.aload_n 0, 1) := by decide +kernel
theorem dX3_bestPlace_28 : decode cX3_bestPlace 28 = .ok (.getfield 13, 3) := by decide +kernel
theorem dX3_bestPlace_31 : decode cX3_bestPlace 31 = .ok (.iconst 0, 1) := by decide +kernel
theorem dX3_bestPlace_32 : decode cX3_bestPlace 32 = .ok (.invokestatic 32, 3) := by decide +kernel
theorem dX3_bestPlace_35 : decode cX3_bestPlace 35 = .ok (.bipush (-6), 2) := by decide +kernel
theorem dX3_bestPlace_37 : decode cX3_bestPlace 37 = .ok (.istore_n 3, 1) := by decide +kernel
theorem dX3_bestPlace_38 : decode cX3_bestPlace 38 = .ok (.iconst (-1), 1) := by decide +kernel
theorem dX3_bestPlace_39 : decode cX3_bestPlace 39 = .ok (.istore 4, 2) := by decide +kernel
theorem dX3_bestPlace_41 : decode cX3_bestPlace 41 = .ok (.iconst 0, 1) := by decide +kernel
theorem dX3_bestPlace_42 : decode cX3_bestPlace 42 = .ok (.istore 5, 2) := by decide +kernel
theorem dX3_bestPlace_44 : decode cX3_bestPlace 44 = .ok (.iload 5, 2) := by decide +kernel
theorem dX3_bestPlace_46 : decode cX3_bestPlace 46 = .ok (.bipush 12, 2) := by decide +kernel
theorem dX3_bestPlace_48 : decode cX3_bestPlace 48 = .ok (.if_icmp .ge 66, 3) := by decide +kernel
theorem dX3_bestPlace_51 : decode cX3_bestPlace 51 = .ok (.aload_n 0, 1) := by decide +kernel
theorem dX3_bestPlace_52 : decode cX3_bestPlace 52 = .ok (.iload 5, 2) := by decide +kernel
theorem dX3_bestPlace_54 : decode cX3_bestPlace 54 = .ok (.invokevirtual 135, 3) := by decide +kernel
theorem dX3_bestPlace_57 : decode cX3_bestPlace 57 = .ok (.pop, 1) := by decide +kernel
theorem dX3_bestPlace_58 : decode cX3_bestPlace 58 = .ok (.aload_n 0, 1) := by decide +kernel
theorem dX3_bestPlace_59 : decode cX3_bestPlace 59 = .ok (.iload_n 1, 1) := by decide +kernel
theorem dX3_bestPlace_60 : decode cX3_bestPlace 60 = .ok (.invokevirtual 147, 3) := by decide +kernel
theorem dX3_bestPlace_63 : decode cX3_bestPlace 63 = .ok (.istore 6, 2) := by decide +kernel
theorem dX3_bestPlace_65 : decode cX3_bestPlace 65 = .ok (.aload_n 0, 1) := by decide +kernel
theorem dX3_bestPlace_66 : decode cX3_bestPlace 66 = .ok (.getfield 13, 3) := by decide +kernel
theorem dX3_bestPlace_69 : decode cX3_bestPlace 69 = .ok (.iconst 0, 1) := by decide +kernel
theorem dX3_bestPlace_70 : decode cX3_bestPlace 70 = .ok (.aload_n 0, 1) := by decide +kernel
theorem dX3_bestPlace_71 : decode cX3_bestPlace 71 = .ok (.getfield 7, 3) := by decide +kernel
theorem dX3_bestPlace_74 : decode cX3_bestPlace 74 = .ok (.iconst 0, 1) := by decide +kernel
theorem dX3_bestPlace_75 : decode cX3_bestPlace 75 = .ok (.invokestatic 32, 3) := by decide +kernel
theorem dX3_bestPlace_78 : decode cX3_bestPlace 78 = .ok (.iload 6, 2) := by decide +kernel
theorem dX3_bestPlace_80 : decode cX3_bestPlace 80 = .ok (.iload 4, 2) := by decide +kernel
theorem dX3_bestPlace_82 : decode cX3_bestPlace 82 = .ok (.if_icmp .le 8, 3) := by decide +kernel
theorem dX3_bestPlace_85 : decode cX3_bestPlace 85 = .ok (.iload 5, 2) := by decide +kernel
theorem dX3_bestPlace_87 : decode cX3_bestPlace 87 = .ok (.goto 4, 3) := by decide +kernel
theorem dX3_bestPlace_90 : decode cX3_bestPlace 90 = .ok (.iload_n 3, 1) := by decide +kernel
theorem dX3_bestPlace_91 : decode cX3_bestPlace 91 = .ok (.istore_n 3, 1) := by decide +kernel
theorem dX3_bestPlace_92 : decode cX3_bestPlace 92 = .ok (.iload 6, 2) := by decide +kernel
theorem dX3_bestPlace_94 : decode cX3_bestPlace 94 = .ok (.iload 4, 2) := by decide +kernel
theorem dX3_bestPlace_96 : decode cX3_bestPlace 96 = .ok (.if_icmp .le 8, 3) := by decide +kernel
theorem dX3_bestPlace_99 : decode cX3_bestPlace 99 = .ok (.iload 6, 2) := by decide +kernel
theorem dX3_bestPlace_101 : decode cX3_bestPlace 101 = .ok (.goto 5, 3) := by decide +kernel
theorem dX3_bestPlace_104 : decode cX3_bestPlace 104 = .ok (.iload 4, 2) := by decide +kernel
theorem dX3_bestPlace_106 : decode cX3_bestPlace 106 = .ok (.istore 4, 2) := by decide +kernel
theorem dX3_bestPlace_108 : decode cX3_bestPlace 108 = .ok (.iinc 5 1, 3) := by decide +kernel
theorem dX3_bestPlace_111 : decode cX3_bestPlace 111 = .ok (.goto (-67), 3) := by decide +kernel
theorem dX3_bestPlace_114 : decode cX3_bestPlace 114 = .ok (.iload_n 2, 1) := by decide +kernel
theorem dX3_bestPlace_115 : decode cX3_bestPlace 115 = .ok (.ifCond .ne 7, 3) := by decide +kernel
theorem dX3_bestPlace_118 : decode cX3_bestPlace 118 = .ok (.iload_n 3, 1) := by decide +kernel
theorem dX3_bestPlace_119 : decode cX3_bestPlace 119 = .ok (.goto 5, 3) := by decide +kernel
