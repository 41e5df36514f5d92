theorem inlX0 : ∀ w ∈ wsX00, w ∈ wsL_law := fun _ h => List.mem_append_left _ (List.mem_append_right _ h)
theorem inX0 : ∀ w ∈ wsX00, w ∈ lw_tbl := fun w h => wsL_law_in w (inlX0 w h)
theorem inlX1 : ∀ w ∈ wsX10, w ∈ wsL_law := fun _ h => List.mem_append_left _ (List.mem_append_left _ (List.mem_append_right _ h))
theorem inX1 : ∀ w ∈ wsX10, w ∈ lw_tbl := fun w h => wsL_law_in w (inlX1 w h)
theorem inlX2 : ∀ w ∈ wsX20, w ∈ wsL_law := fun _ h => List.mem_append_left _ (List.mem_append_left _ (List.mem_append_left _ (List.mem_append_right _ h)))
theorem inX2 : ∀ w ∈ wsX20, w ∈ lw_tbl := fun w h => wsL_law_in w (inlX2 w h)
theorem inX3 : ∀ w ∈ wsX30, w ∈ lw_tbl := by decide +kernel
theorem inJ6 : ∀ w ∈ wsJ60, w ∈ lw_tbl := by decide +kernel
theorem inJ9 : ∀ w ∈ wsJ90, w ∈ lw_tbl := by decide +kernel
theorem inJ10 : ∀ w ∈ wsJ100, w ∈ lw_tbl := by decide +kernel
theorem dX0_init_0 : decode cX0_init 0 = .ok (.aload_n 0, 1) := by decide +kernel
theorem dX0_init_1 : decode cX0_init 1 = .ok (.invokespecial 3, 3) := by decide +kernel
theorem dX0_init_4 : decode cX0_init 4 = .ok (.aload_n 0, 1) := by decide +kernel
theorem dX0_init_5 : decode cX0_init 5 = .ok (.bipush 80, 2) := by decide +kernel
theorem dX0_init_7 : decode cX0_init 7 = .ok (.newarray .char, 2) := by decide +kernel
theorem dX0_init_9 : decode cX0_init 9 = .ok (.putfield 9, 3) := by decide +kernel
theorem dX0_init_12 : decode cX0_init 12 = .ok (.aload_n 0, 1) := by decide +kernel
theorem dX0_init_13 : decode cX0_init 13 = .ok (.iconst 0, 1) := by decide +kernel
theorem dX0_init_14 : decode cX0_init 14 = .ok (.putfield 15, 3) := by decide +kernel
theorem dX0_init_17 : decode cX0_init 17 = .ok (.aload_n 0, 1) := by decide +kernel
theorem dX0_init_18 : decode cX0_init 18 = .ok (.iconst 0, 1) := by decide +kernel
theorem dX0_init_19 : decode cX0_init 19 = .ok (.putfield 19, 3) := by decide +kernel
theorem dX0_init_22 : decode cX0_init 22 = .ok (.aload_n 0, 1) := by decide +kernel
theorem dX0_init_23 : decode cX0_init 23 = .ok (.iconst 0, 1) := by decide +kernel
theorem dX0_init_24 : decode cX0_init 24 = .ok (.putfield 22, 3) := by decide +kernel
theorem dX0_init_27 : decode cX0_init 27 = .ok (.aload_n 0, 1) := by decide +kernel
theorem dX0_init_28 : decode cX0_init 28 = .ok (.iconst 0, 1) := by decide +kernel
theorem dX0_init_29 : decode cX0_init 29 = .ok (.putfield 26, 3) := by decide +kernel
theorem dX0_init_32 : decode cX0_init 32 = .ok (.aload_n 0, 1) := by decide +kernel
theorem dX0_init_33 : decode cX0_init 33 = .ok (.iconst 0, 1) := by decide +kernel
theorem dX0_init_34 : decode cX0_init 34 = .ok (.putfield 29, 3) := by decide +kernel
theorem dX0_init_37 : decode cX0_init 37 = .ok (.aload_n 0, 1) := by decide +kernel
theorem dX0_init_38 : decode cX0_init 38 = .ok (.iconst 0, 1) := by decide +kernel
theorem dX0_init_39 : decode cX0_init 39 = .ok (.putfield 32, 3) := by decide +kernel
theorem dX0_init_42 : decode cX0_init 42 = .ok (.aload_n 0, 1) := by decide +kernel
theorem dX0_init_43 : decode cX0_init 43 = .ok (.iconst 0, 1) := by decide +kernel
theorem dX0_init_44 : decode cX0_init 44 = .ok (.putfield 35, 3) := by decide +kernel
theorem dX0_init_47 : decode cX0_init 47 = .ok (.return_, 1) := by decide +kernel
theorem dX1_init_0 : decode cX1_init 0 = .ok (.aload_n 0, 1) := by decide +kernel
theorem dX1_init_1 : decode cX1_init 1 = .ok (.invokespecial 3, 3) := by decide +kernel
theorem dX1_init_4 : decode cX1_init 4 = .ok (.aload_n 0, 1) := by decide +kernel
theorem dX1_init_5 : decode cX1_init 5 = .ok (.bipush 7, 2) := by decide +kernel
theorem dX1_init_7 : decode cX1_init 7 = .ok (.newarray .int, 2) := by decide +kernel
theorem dX1_init_9 : decode cX1_init 9 = .ok (.putfield 9, 3) := by decide +kernel
theorem dX1_init_12 : decode cX1_init 12 = .ok (.aload_n 0, 1) := by decide +kernel
theorem dX1_init_13 : decode cX1_init 13 = .ok (.iconst 0, 1) := by decide +kernel
theorem dX1_init_14 : decode cX1_init 14 = .ok (.putfield 15, 3) := by decide +kernel
theorem dX1_init_17 : decode cX1_init 17 = .ok (.aload_n 0, 1) := by decide +kernel
theorem dX1_init_18 : decode cX1_init 18 = .ok (.iconst 0, 1) := by decide +kernel
theorem dX1_init_19 : decode cX1_init 19 = .ok (.putfield 19, 3) := by decide +kernel
theorem dX1_init_22 : decode cX1_init 22 = .ok (.aload_n 0, 1) := by decide +kernel
theorem dX1_init_23 : decode cX1_init 23 = .ok (.iconst 0, 1) := by decide +kernel
theorem dX1_init_24 : decode cX1_init 24 = .ok (.putfield 22, 3) := by decide +kernel
theorem dX1_init_27 : decode cX1_init 27 = .ok (.aload_n 0, 1) := by decide +kernel
theorem dX1_init_28 : decode cX1_init 28 = .ok (.bipush 12, 2) := by decide +kernel
theorem dX1_init_30 : decode cX1_init 30 = .ok (.newarray .int, 2) := by decide +kernel
theorem dX1_init_32 : decode cX1_init 32 = .ok (.putfield 25, 3) := by decide +kernel
theorem dX1_init_35 : decode cX1_init 35 = .ok (.aload_n 0, 1) := by decide +kernel
theorem dX1_init_36 : decode cX1_init 36 = .ok (.bipush 12, 2) := by decide +kernel
theorem dX1_init_38 : decode cX1_init 38 = .ok (.newarray .int, 2) := by decide +kernel
theorem dX1_init_40 : decode cX1_init 40 = .ok (.putfield 28, 3) := by decide +kernel
theorem dX1_init_43 : decode cX1_init 43 = .ok (.aload_n 0, 1) := by decide +kernel
theorem dX1_init_44 : decode cX1_init 44 = .ok (.bipush 12, 2) := by decide +kernel
theorem dX1_init_46 : decode cX1_init 46 = .ok (.newarray .int, 2) := by decide +kernel
theorem dX1_init_48 : decode cX1_init 48 = .ok (.putfield 31, 3) := by decide +kernel
theorem dX1_init_51 : decode cX1_init 51 = .ok (.aload_n 0, 1) := by decide +kernel
theorem dX1_init_52 : decode cX1_init 52 = .ok (.bipush 12, 2) := by decide +kernel
theorem dX1_init_54 : decode cX1_init 54 = .ok (.newarray .int, 2) := by decide +kernel
theorem dX1_init_56 : decode cX1_init 56 = .ok (.putfield 34, 3) := by decide +kernel
theorem dX1_init_59 : decode cX1_init 59 = .ok (.aload_n 0, 1) := by decide +kernel
theorem dX1_init_60 : decode cX1_init 60 = .ok (.iconst 0, 1) := by decide +kernel
theorem dX1_init_61 : decode cX1_init 61 = .ok (.putfield 37, 3) := by decide +kernel
theorem dX1_init_64 : decode cX1_init 64 = .ok (.aload_n 0, 1) := by decide +kernel
theorem dX1_init_65 : decode cX1_init 65 = .ok (.iconst 5, 1) := by decide +kernel
theorem dX1_init_66 : decode cX1_init 66 = .ok (.newarray .int, 2) := by decide +kernel
theorem dX1_init_68 : decode cX1_init 68 = .ok (.putfield 40, 3) := by decide +kernel
theorem dX1_init_71 : decode cX1_init 71 = .ok (.aload_n 0, 1) := by decide +kernel
theorem dX1_init_72 : decode cX1_init 72 = .ok (.iconst 5, 1) := by decide +kernel
theorem dX1_init_73 : decode cX1_init 73 = .ok (.newarray .int, 2) := by decide +kernel
theorem dX1_init_75 : decode cX1_init 75 = .ok (.putfield 43, 3) := by decide +kernel
theorem dX1_init_78 : decode cX1_init 78 = .ok (.aload_n 0, 1) := by decide +kernel
theorem dX1_init_79 : decode cX1_init 79 = .ok (.iconst 5, 1) := by decide +kernel
theorem dX1_init_80 : decode cX1_init 80 = .ok (.newarray .int, 2) := by decide +kernel
theorem dX1_init_82 : decode cX1_init 82 = .ok (.putfield 46, 3) := by decide +kernel
theorem dX1_init_85 : decode cX1_init 85 = .ok (.aload_n 0, 1) := by decide +kernel
theorem dX1_init_86 : decode cX1_init 86 = .ok (.iconst 5, 1) := by decide +kernel
theorem dX1_init_87 : decode cX1_init 87 = .ok (.newarray .int, 2) := by decide +kernel
theorem dX1_init_89 : decode cX1_init 89 = .ok (.putfield 49, 3) := by decide +kernel
theorem dX1_init_92 : decode cX1_init 92 = .ok (.aload_n 0, 1) := by decide +kernel
theorem dX1_init_93 : decode cX1_init 93 = .ok (.iconst 5, 1) := by decide +kernel
theorem dX1_init_94 : decode cX1_init 94 = .ok (.newarray .int, 2) := by decide +kernel
theorem dX1_init_96 : decode cX1_init 96 = .ok (.putfield 52, 3) := by decide +kernel
theorem dX1_init_99 : decode cX1_init 99 = .ok (.aload_n 0, 1) := by decide +kernel
theorem dX1_init_100 : decode cX1_init 100 = .ok (.iconst 0, 1) := by decide +kernel
theorem dX1_init_101 : decode cX1_init 101 = .ok (.putfield 55, 3) := by decide +kernel
theorem dX1_init_104 : decode cX1_init 104 = .ok (.aload_n 0, 1) := by decide +kernel
theorem dX1_init_105 : decode cX1_init 105 = .ok (.iconst 0, 1) := by decide +kernel
theorem dX1_init_106 : decode cX1_init 106 = .ok (.putfield 58, 3) := by decide +kernel
theorem dX1_init_109 : decode cX1_init 109 = .ok (.aload_n 0, 1) := by decide +kernel
theorem dX1_init_110 : decode cX1_init 110 = .ok (.iconst 0, 1) := by decide +kernel
theorem dX1_init_111 : decode cX1_init 111 = .ok (.putfield 61, 3) := by decide +kernel
theorem dX1_init_114 : decode cX1_init 114 = .ok (.aload_n 0, 1) := by decide +kernel
theorem dX1_init_115 : decode cX1_init 115 = .ok (.iconst 0, 1) := by decide +kernel
theorem dX1_init_116 : decode cX1_init 116 = .ok (.putfield 64, 3) := by decide +kernel
theorem dX1_init_119 : decode cX1_init 119 = .ok (.getstatic 67, 3) := by decide +kernel
theorem dX1_init_122 : decode cX1_init 122 = .ok (.iconst 0, 1) := by decide +kernel
theorem dX1_init_123 : decode cX1_init 123 = .ok (.aload_n 0, 1) := by decide +kernel
theorem dX1_init_124 : decode cX1_init 124 = .ok (.getfield 9, 3) := by decide +kernel
theorem dX1_init_127 : decode cX1_init 127 = .ok (.iconst 0, 1) := by decide +kernel
theorem dX1_init_128 : decode cX1_init 128 = .ok (.bipush 7, 2) := by decide +kernel
theorem dX1_init_130 : decode cX1_init 130 = .ok (.invokestatic 70, 3) := by decide +kernel
theorem dX1_init_133 : decode cX1_init 133 = .ok (.return_, 1) := by decide +kernel
theorem dX1_changeSetting_0 : decode cX1_changeSetting 0 = .ok (.iload_n 1, 1) := by decide +kernel
theorem dX1_changeSetting_1 : decode cX1_changeSetting 1 = .ok (.ifCond .lt 9, 3) := by decide +kernel
theorem dX1_changeSetting_4 : decode cX1_changeSetting 4 = .ok (.iload_n 1, 1) := by decide +kernel
theorem dX1_changeSetting_5 : decode cX1_changeSetting 5 = .ok (.bipush 7, 2) := by decide +kernel
theorem dX1_changeSetting_7 : decode cX1_changeSetting 7 = .ok (.if_icmp .lt 6, 3) := by decide +kernel
theorem dX1_changeSetting_10 : decode cX1_changeSetting 10 = .ok (.bipush (-2), 2) := by decide +kernel
theorem dX1_changeSetting_12 : decode cX1_changeSetting 12 = .ok (.ireturn, 1) := by decide +kernel
theorem dX1_changeSetting_13 : decode cX1_changeSetting 13 = .ok (.iload_n 2, 1) := by decide +kernel
theorem dX1_changeSetting_14 : decode cX1_changeSetting 14 = .ok (.getstatic 76, 3) := by decide +kernel
theorem dX1_changeSetting_17 : decode cX1_changeSetting 17 = .ok (.iload_n 1, 1) := by decide +kernel
theorem dX1_changeSetting_18 : decode cX1_changeSetting 18 = .ok (.iaload, 1) := by decide +kernel
theorem dX1_changeSetting_19 : decode cX1_changeSetting 19 = .ok (.if_icmp .lt 12, 3) := by decide +kernel
theorem dX1_changeSetting_22 : decode cX1_changeSetting 22 = .ok (.iload_n 2, 1) := by decide +kernel
theorem dX1_changeSetting_23 : decode cX1_changeSetting 23 = .ok (.getstatic 79, 3) := by decide +kernel
theorem dX1_changeSetting_26 : decode cX1_changeSetting 26 = .ok (.iload_n 1, 1) := by decide +kernel
theorem dX1_changeSetting_27 : decode cX1_changeSetting 27 = .ok (.iaload, 1) := by decide +kernel
theorem dX1_changeSetting_28 : decode cX1_changeSetting 28 = .ok (.if_icmp .le 6, 3) := by decide +kernel
theorem dX1_changeSetting_31 : decode cX1_changeSetting 31 = .ok (.bipush (-2), 2) := by decide +kernel
theorem dX1_changeSetting_33 : decode cX1_changeSetting 33 = .ok (.ireturn, 1) := by decide +kernel
theorem dX1_changeSetting_34 : decode cX1_changeSetting 34 = .ok (.aload_n 0, 1) := by decide +kernel
theorem dX1_changeSetting_35 : decode cX1_changeSetting 35 = .ok (.getfield 9, 3) := by decide +kernel
theorem dX1_changeSetting_38 : decode cX1_changeSetting 38 = .ok (.iload_n 1, 1) := by decide +kernel
theorem dX1_changeSetting_39 : decode cX1_changeSetting 39 = .ok (.iaload, 1) := by decide +kernel
theorem dX1_changeSetting_40 : decode cX1_changeSetting 40 = .ok (.istore_n 3, 1) := by decide +kernel
theorem dX1_changeSetting_41 : decode cX1_changeSetting 41 = .ok (.aload_n 0, 1) := by decide +kernel
theorem dX1_changeSetting_42 : decode cX1_changeSetting 42 = .ok (.getfield 9, 3) := by decide +kernel
theorem dX1_changeSetting_45 : decode cX1_changeSetting 45 = .ok (.iload_n 1, 1) := by decide +kernel
theorem dX1_changeSetting_46 : decode cX1_changeSetting 46 = .ok (.iload_n 2, 1) := by decide +kernel
theorem dX1_changeSetting_47 : decode cX1_changeSetting 47 = .ok (.iastore, 1) := by decide +kernel
theorem dX1_changeSetting_48 : decode cX1_changeSetting 48 = .ok (.iload_n 3, 1) := by decide +kernel
theorem dX1_changeSetting_49 : decode cX1_changeSetting 49 = .ok (.ireturn, 1) := by decide +kernel
theorem dX1_changeRain_0 : decode cX1_changeRain 0 = .ok (.iload_n 1, 1) := by decide +kernel
theorem dX1_changeRain_1 : decode cX1_changeRain 1 = .ok (.ifCond .lt 9, 3) := by decide +kernel
theorem dX1_changeRain_4 : decode cX1_changeRain 4 = .ok (.iload_n 1, 1) := by decide +kernel
theorem dX1_changeRain_5 : decode cX1_changeRain 5 = .ok (.ldc 82, 2) := by decide +kernel
theorem dX1_changeRain_7 : decode cX1_changeRain 7 = .ok (.if_icmp .le 6, 3) := by decide +kernel
theorem dX1_changeRain_10 : decode cX1_changeRain 10 = .ok (.bipush (-2), 2) := by decide +kernel
theorem dX1_changeRain_12 : decode cX1_changeRain 12 = .ok (.ireturn, 1) := by decide +kernel
theorem dX1_changeRain_13 : decode cX1_changeRain 13 = .ok (.aload_n 0, 1) := by decide +kernel
theorem dX1_changeRain_14 : decode cX1_changeRain 14 = .ok (.getfield 55, 3) := by decide +kernel
theorem dX1_changeRain_17 : decode cX1_changeRain 17 = .ok (.istore_n 2, 1) := by decide +kernel
theorem dX1_changeRain_18 : decode cX1_changeRain 18 = .ok (.aload_n 0, 1) := by decide +kernel
theorem dX1_changeRain_19 : decode cX1_changeRain 19 = .ok (.iload_n 1, 1) := by decide +kernel
theorem dX1_changeRain_20 : decode cX1_changeRain 20 = .ok (.putfield 55, 3) := by decide +kernel
theorem dX1_changeRain_23 : decode cX1_changeRain 23 = .ok (.iload_n 2, 1) := by decide +kernel
theorem dX1_changeRain_24 : decode cX1_changeRain 24 = .ok (.ireturn, 1) := by decide +kernel
set_option maxRecDepth 20000 in
theorem ggX1_addPiano_X2_isPlace : GoodIn wsX1_addPiano wsX2_isPlace := goodIn_r _ [9] (by decide +kernel) (by decide +kernel)
set_option maxRecDepth 20000 in
theorem gX1_addPiano_X2_isPlace_n83 : GoodIn wsX1_addPiano (wsX2_isPlace) := ggX1_addPiano_X2_isPlace
set_option maxRecDepth 20000 in
theorem ggX1_addPiano_X2_has : GoodIn wsX1_addPiano wsX2_has := goodIn_r _ [11] (by decide +kernel) (by decide +kernel)
set_option maxRecDepth 20000 in
theorem gX1_addPiano_X2_has_n87 : GoodIn wsX1_addPiano (wsX2_has) := ggX1_addPiano_X2_has
set_option maxRecDepth 20000 in
theorem ggX1_addPiano_J6_bitCount_0f7a4 : GoodIn wsX1_addPiano wsJ6_bitCount_0f7a4 := goodIn_r _ [15, 16, 17, 18] (by decide +kernel) (by decide +kernel)
set_option maxRecDepth 20000 in
theorem gX1_addPiano_J6_bitCount_0f7a4 : GoodIn wsX1_addPiano (va_wsS RX1 91 yJ6_bitCount_0f7a4 wsJ6_bitCount_0f7a4) := goodIn_app (goodIn_of _ (by decide +kernel)) ggX1_addPiano_J6_bitCount_0f7a4
theorem dX1_addPiano_0 : decode cX1_addPiano 0 = .ok (.iload_n 1, 1) := by decide +kernel
theorem dX1_addPiano_1 : decode cX1_addPiano 1 = .ok (.invokestatic 83, 3) := by decide +kernel
theorem dX1_addPiano_4 : decode cX1_addPiano 4 = .ok (.ifCond .ne 5, 3) := by decide +kernel
theorem dX1_addPiano_7 : decode cX1_addPiano 7 = .ok (.iconst (-1), 1) := by decide +kernel
theorem dX1_addPiano_8 : decode cX1_addPiano 8 = .ok (.ireturn, 1) := by decide +kernel
theorem dX1_addPiano_9 : decode cX1_addPiano 9 = .ok (.iload_n 2, 1) := by decide +kernel
theorem dX1_addPiano_10 : decode cX1_addPiano 10 = .ok (.ifCond .eq 11, 3) := by decide +kernel
theorem dX1_addPiano_13 : decode cX1_addPiano 13 = .ok (.iload_n 2, 1) := by decide +kernel
theorem dX1_addPiano_14 : decode cX1_addPiano 14 = .ok (.iconst 1, 1) := by decide +kernel
theorem dX1_addPiano_15 : decode cX1_addPiano 15 = .ok (.if_icmp .eq 6, 3) := by decide +kernel
theorem dX1_addPiano_18 : decode cX1_addPiano 18 = .ok (.bipush (-2), 2) := by decide +kernel
theorem dX1_addPiano_20 : decode cX1_addPiano 20 = .ok (.ireturn, 1) := by decide +kernel
theorem dX1_addPiano_21 : decode cX1_addPiano 21 = .ok (.aload_n 0, 1) := by decide +kernel
theorem dX1_addPiano_22 : decode cX1_addPiano 22 = .ok (.getfield 15, 3) := by decide +kernel
theorem dX1_addPiano_25 : decode cX1_addPiano 25 = .ok (.iload_n 1, 1) := by decide +kernel
theorem dX1_addPiano_26 : decode cX1_addPiano 26 = .ok (.invokestatic 87, 3) := by decide +kernel
theorem dX1_addPiano_29 : decode cX1_addPiano 29 = .ok (.ifCond .eq 6, 3) := by decide +kernel
theorem dX1_addPiano_32 : decode cX1_addPiano 32 = .ok (.bipush (-5), 2) := by decide +kernel
theorem dX1_addPiano_34 : decode cX1_addPiano 34 = .ok (.ireturn, 1) := by decide +kernel
theorem dX1_addPiano_35 : decode cX1_addPiano 35 = .ok (.aload_n 0, 1) := by decide +kernel
theorem dX1_addPiano_36 : decode cX1_addPiano 36 = .ok (.dup, 1) := by decide +kernel
theorem dX1_addPiano_37 : decode cX1_addPiano 37 = .ok (.getfield 15, 3) := by decide +kernel
theorem dX1_addPiano_40 : decode cX1_addPiano 40 = .ok (.iconst 1, 1) := by decide +kernel
theorem dX1_addPiano_41 : decode cX1_addPiano 41 = .ok (.iload_n 1, 1) := by decide +kernel
theorem dX1_addPiano_42 : decode cX1_addPiano 42 = .ok (.ishl, 1) := by decide +kernel
theorem dX1_addPiano_43 : decode cX1_addPiano 43 = .ok (.ior, 1) := by decide +kernel
theorem dX1_addPiano_44 : decode cX1_addPiano 44 = .ok (.putfield 15, 3) := by decide +kernel
theorem dX1_addPiano_47 : decode cX1_addPiano 47 = .ok (.aload_n 0, 1) := by decide +kernel
theorem dX1_addPiano_48 : decode cX1_addPiano 48 = .ok (.dup, 1) := by decide +kernel
theorem dX1_addPiano_49 : decode cX1_addPiano 49 = .ok (.getfield 19, 3) := by decide +kernel
theorem dX1_addPiano_52 : decode cX1_addPiano 52 = .ok (.iload_n 2, 1) := by decide +kernel
theorem dX1_addPiano_53 : decode cX1_addPiano 53 = .ok (.iload_n 1, 1) := by decide +kernel
theorem dX1_addPiano_54 : decode cX1_addPiano 54 = .ok (.ishl, 1) := by decide +kernel
theorem dX1_addPiano_55 : decode cX1_addPiano 55 = .ok (.ior, 1) := by decide +kernel
theorem dX1_addPiano_56 : decode cX1_addPiano 56 = .ok (.putfield 19, 3) := by decide +kernel
theorem dX1_addPiano_59 : decode cX1_addPiano 59 = .ok (.aload_n 0, 1) := by decide +kernel
theorem dX1_addPiano_60 : decode cX1_addPiano 60 = .ok (.getfield 25, 3) := by decide +kernel
theorem dX1_addPiano_63 : decode cX1_addPiano 63 = .ok (.iload_n 1, 1) := by decide +kernel
theorem dX1_addPiano_64 : decode cX1_addPiano 64 = .ok (.bipush 100, 2) := by decide +kernel
theorem dX1_addPiano_66 : decode cX1_addPiano 66 = .ok (.iastore, 1) := by decide +kernel
theorem dX1_addPiano_67 : decode cX1_addPiano 67 = .ok (.aload_n 0, 1) := by decide +kernel
theorem dX1_addPiano_68 : decode cX1_addPiano 68 = .ok (.getfield 28, 3) := by decide +kernel
theorem dX1_addPiano_71 : decode cX1_addPiano 71 = .ok (.iload_n 1, 1) := by decide +kernel
theorem dX1_addPiano_72 : decode cX1_addPiano 72 = .ok (.iconst 0, 1) := by decide +kernel
theorem dX1_addPiano_73 : decode cX1_addPiano 73 = .ok (.iastore, 1) := by decide +kernel
theorem dX1_addPiano_74 : decode cX1_addPiano 74 = .ok (.aload_n 0, 1) := by decide +kernel
theorem dX1_addPiano_75 : decode cX1_addPiano 75 = .ok (.getfield 31, 3) := by decide +kernel
theorem dX1_addPiano_78 : decode cX1_addPiano 78 = .ok (.iload_n 1, 1) := by decide +kernel
theorem dX1_addPiano_79 : decode cX1_addPiano 79 = .ok (.iconst 0, 1) := by decide +kernel
theorem dX1_addPiano_80 : decode cX1_addPiano 80 = .ok (.iastore, 1) := by decide +kernel
theorem dX1_addPiano_81 : decode cX1_addPiano 81 = .ok (.aload_n 0, 1) := by decide +kernel
theorem dX1_addPiano_82 : decode cX1_addPiano 82 = .ok (.getfield 34, 3) := by decide +kernel
theorem dX1_addPiano_85 : decode cX1_addPiano 85 = .ok (.iload_n 1, 1) := by decide +kernel
theorem dX1_addPiano_86 : decode cX1_addPiano 86 = .ok (.iconst 0, 1) := by decide +kernel
theorem dX1_addPiano_87 : decode cX1_addPiano 87 = .ok (.iastore, 1) := by decide +kernel
theorem dX1_addPiano_88 : decode cX1_addPiano 88 = .ok (.aload_n 0, 1) := by decide +kernel
theorem dX1_addPiano_89 : decode cX1_addPiano 89 = .ok (.getfield 15, 3) := by decide +kernel
theorem dX1_addPiano_92 : decode cX1_addPiano 92 = .ok (.invokestatic 91, 3) := by decide +kernel
theorem dX1_addPiano_95 : decode cX1_addPiano 95 = .ok (.ireturn, 1) := by decide +kernel
set_option maxRecDepth 20000 in
theorem ggX1_removePiano_X2_has : GoodIn wsX1_removePiano wsX2_has := goodIn_r _ [6] (by decide +kernel) (by decide +kernel)
set_option maxRecDepth 20000 in
theorem gX1_removePiano_X2_has_n87 : GoodIn wsX1_removePiano (wsX2_has) := ggX1_removePiano_X2_has
set_option maxRecDepth 20000 in
theorem ggX1_removePiano_J6_bitCount_0f7a4 : GoodIn wsX1_removePiano wsJ6_bitCount_0f7a4 := goodIn_r _ [10, 11, 12, 13] (by decide +kernel) (by decide +kernel)
set_option maxRecDepth 20000 in
theorem gX1_removePiano_J6_bitCount_0f7a4 : GoodIn wsX1_removePiano (va_wsS RX1 91 yJ6_bitCount_0f7a4 wsJ6_bitCount_0f7a4) := goodIn_app (goodIn_of _ (by decide +kernel)) ggX1_removePiano_J6_bitCount_0f7a4
theorem dX1_removePiano_0 : decode cX1_removePiano 0 = .ok (.aload_n 0, 1) := by decide +kernel
theorem dX1_removePiano_1 : decode cX1_removePiano 1 = .ok (.getfield 15, 3) := by decide +kernel
theorem dX1_removePiano_4 : decode cX1_removePiano 4 = .ok (.iload_n 1, 1) := by decide +kernel
theorem dX1_removePiano_5 : decode cX1_removePiano 5 = .ok (.invokestatic 87, 3) := by decide +kernel
theorem dX1_removePiano_8 : decode cX1_removePiano 8 = .ok (.ifCond .ne 5, 3) := by decide +kernel
theorem dX1_removePiano_11 : decode cX1_removePiano 11 = .ok (.iconst (-1), 1) := by decide +kernel
theorem dX1_removePiano_12 : decode cX1_removePiano 12 = .ok (.ireturn, 1) := by decide +kernel
theorem dX1_removePiano_13 : decode cX1_removePiano 13 = .ok (.iconst 1, 1) := by decide +kernel
theorem dX1_removePiano_14 : decode cX1_removePiano 14 = .ok (.iload_n 1, 1) := by decide +kernel
theorem dX1_removePiano_15 : decode cX1_removePiano 15 = .ok (.ishl, 1) := by decide +kernel
theorem dX1_removePiano_16 : decode cX1_removePiano 16 = .ok (.iconst (-1), 1) := by decide +kernel
theorem dX1_removePiano_17 : decode cX1_removePiano 17 = .ok (.ixor, 1) := by decide +kernel
theorem dX1_removePiano_18 : decode cX1_removePiano 18 = .ok (.istore_n 2, 1) := by decide +kernel
theorem dX1_removePiano_19 : decode cX1_removePiano 19 = .ok (.aload_n 0, 1) := by decide +kernel
theorem dX1_removePiano_20 : decode cX1_removePiano 20 = .ok (.dup, 1) := by decide +kernel
theorem dX1_removePiano_21 : decode cX1_removePiano 21 = .ok (.getfield 15, 3) := by decide +kernel
theorem dX1_removePiano_24 : decode cX1_removePiano 24 = .ok (.iload_n 2, 1) := by decide +kernel
theorem dX1_removePiano_25 : decode cX1_removePiano 25 = .ok (.iand, 1) := by decide +kernel
theorem dX1_removePiano_26 : decode cX1_removePiano 26 = .ok (.putfield 15, 3) := by decide +kernel
theorem dX1_removePiano_29 : decode cX1_removePiano 29 = .ok (.aload_n 0, 1) := by decide +kernel
theorem dX1_removePiano_30 : decode cX1_removePiano 30 = .ok (.dup, 1) := by decide +kernel
theorem dX1_removePiano_31 : decode cX1_removePiano 31 = .ok (.getfield 19, 3) := by decide +kernel
theorem dX1_removePiano_34 : decode cX1_removePiano 34 = .ok (.iload_n 2, 1) := by decide +kernel
theorem dX1_removePiano_35 : decode cX1_removePiano 35 = .ok (.iand, 1) := by decide +kernel
theorem dX1_removePiano_36 : decode cX1_removePiano 36 = .ok (.putfield 19, 3) := by decide +kernel
theorem dX1_removePiano_39 : decode cX1_removePiano 39 = .ok (.aload_n 0, 1) := by decide +kernel
theorem dX1_removePiano_40 : decode cX1_removePiano 40 = .ok (.dup, 1) := by decide +kernel
theorem dX1_removePiano_41 : decode cX1_removePiano 41 = .ok (.getfield 22, 3) := by decide +kernel
theorem dX1_removePiano_44 : decode cX1_removePiano 44 = .ok (.iload_n 2, 1) := by decide +kernel
theorem dX1_removePiano_45 : decode cX1_removePiano 45 = .ok (.iand, 1) := by decide +kernel
theorem dX1_removePiano_46 : decode cX1_removePiano 46 = .ok (.putfield 22, 3) := by decide +kernel
theorem dX1_removePiano_49 : decode cX1_removePiano 49 = .ok (.aload_n 0, 1) := by decide +kernel
theorem dX1_removePiano_50 : decode cX1_removePiano 50 = .ok (.getfield 15, 3) := by decide +kernel
theorem dX1_removePiano_53 : decode cX1_removePiano 53 = .ok (.invokestatic 91, 3) := by decide +kernel
theorem dX1_removePiano_56 : decode cX1_removePiano 56 = .ok (.ireturn, 1) := by decide +kernel
set_option maxRecDepth 20000 in
theorem ggX1_hireKeeper_X2_isPlace : GoodIn wsX1_hireKeeper wsX2_isPlace := goodIn_r _ [4] (by decide +kernel) (by decide +kernel)
set_option maxRecDepth 20000 in
theorem gX1_hireKeeper_X2_isPlace_n83 : GoodIn wsX1_hireKeeper (wsX2_isPlace) := ggX1_hireKeeper_X2_isPlace
set_option maxRecDepth 20000 in
theorem ggX1_hireKeeper_X1_addKeeper : GoodIn wsX1_hireKeeper wsX1_addKeeper := goodIn_r _ [9, 1, 10, 11, 12, 13, 14, 15, 16, 17, 18, 19, 20, 21, 22, 23, 24, 25, 26, 27, 28, 29, 30, 31, 32] (by decide +kernel) (by decide +kernel)
set_option maxRecDepth 20000 in
theorem gX1_hireKeeper_X1_addKeeper : GoodIn wsX1_hireKeeper (wsV RX1 97 RX1 yX1_addKeeper wsX1_addKeeper) := goodIn_app (goodIn_of _ (by decide +kernel)) ggX1_hireKeeper_X1_addKeeper
theorem dX1_hireKeeper_0 : decode cX1_hireKeeper 0 = .ok (.iload_n 1, 1) := by decide +kernel
theorem dX1_hireKeeper_1 : decode cX1_hireKeeper 1 = .ok (.invokestatic 83, 3) := by decide +kernel
theorem dX1_hireKeeper_4 : decode cX1_hireKeeper 4 = .ok (.ifCond .ne 5, 3) := by decide +kernel
theorem dX1_hireKeeper_7 : decode cX1_hireKeeper 7 = .ok (.iconst (-1), 1) := by decide +kernel
theorem dX1_hireKeeper_8 : decode cX1_hireKeeper 8 = .ok (.ireturn, 1) := by decide +kernel
theorem dX1_hireKeeper_9 : decode cX1_hireKeeper 9 = .ok (.aload_n 0, 1) := by decide +kernel
theorem dX1_hireKeeper_10 : decode cX1_hireKeeper 10 = .ok (.getfield 37, 3) := by decide +kernel
theorem dX1_hireKeeper_13 : decode cX1_hireKeeper 13 = .ok (.iconst 4, 1) := by decide +kernel
theorem dX1_hireKeeper_14 : decode cX1_hireKeeper 14 = .ok (.if_icmp .lt 6, 3) := by decide +kernel
theorem dX1_hireKeeper_17 : decode cX1_hireKeeper 17 = .ok (.bipush (-4), 2) := by decide +kernel
theorem dX1_hireKeeper_19 : decode cX1_hireKeeper 19 = .ok (.ireturn, 1) := by decide +kernel
theorem dX1_hireKeeper_20 : decode cX1_hireKeeper 20 = .ok (.aload_n 0, 1) := by decide +kernel
theorem dX1_hireKeeper_21 : decode cX1_hireKeeper 21 = .ok (.iload_n 1, 1) := by decide +kernel
theorem dX1_hireKeeper_22 : decode cX1_hireKeeper 22 = .ok (.invokevirtual 97, 3) := by decide +kernel
theorem dX1_hireKeeper_25 : decode cX1_hireKeeper 25 = .ok (.aload_n 0, 1) := by decide +kernel
theorem dX1_hireKeeper_26 : decode cX1_hireKeeper 26 = .ok (.getfield 37, 3) := by decide +kernel
theorem dX1_hireKeeper_29 : decode cX1_hireKeeper 29 = .ok (.iconst 1, 1) := by decide +kernel
theorem dX1_hireKeeper_30 : decode cX1_hireKeeper 30 = .ok (.isub, 1) := by decide +kernel
theorem dX1_hireKeeper_31 : decode cX1_hireKeeper 31 = .ok (.ireturn, 1) := by decide +kernel
theorem dX1_addKeeper_0 : decode cX1_addKeeper 0 = .ok (.aload_n 0, 1) := by decide +kernel
theorem dX1_addKeeper_1 : decode cX1_addKeeper 1 = .ok (.getfield 37, 3) := by decide +kernel
theorem dX1_addKeeper_4 : decode cX1_addKeeper 4 = .ok (.ifCond .lt 11, 3) := by decide +kernel
theorem dX1_addKeeper_7 : decode cX1_addKeeper 7 = .ok (.aload_n 0, 1) := by decide +kernel
theorem dX1_addKeeper_8 : decode cX1_addKeeper 8 = .ok (.getfield 37, 3) := by decide +kernel
theorem dX1_addKeeper_11 : decode cX1_addKeeper 11 = .ok (.iconst 4, 1) := by decide +kernel
theorem dX1_addKeeper_12 : decode cX1_addKeeper 12 = .ok (.if_icmp .le 4, 3) := by decide +kernel
theorem dX1_addKeeper_15 : decode cX1_addKeeper 15 = .ok (.return_, 1) := by decide +kernel
theorem dX1_addKeeper_16 : decode cX1_addKeeper 16 = .ok (.aload_n 0, 1) := by decide +kernel
theorem dX1_addKeeper_17 : decode cX1_addKeeper 17 = .ok (.getfield 40, 3) := by decide +kernel
theorem dX1_addKeeper_20 : decode cX1_addKeeper 20 = .ok (.aload_n 0, 1) := by decide +kernel
theorem dX1_addKeeper_21 : decode cX1_addKeeper 21 = .ok (.getfield 37, 3) := by decide +kernel
theorem dX1_addKeeper_24 : decode cX1_addKeeper 24 = .ok (.iload_n 1, 1) := by decide +kernel
theorem dX1_addKeeper_25 : decode cX1_addKeeper 25 = .ok (.iastore, 1) := by decide +kernel
theorem dX1_addKeeper_26 : decode cX1_addKeeper 26 = .ok (.aload_n 0, 1) := by decide +kernel
theorem dX1_addKeeper_27 : decode cX1_addKeeper 27 = .ok (.getfield 43, 3) := by decide +kernel
theorem dX1_addKeeper_30 : decode cX1_addKeeper 30 = .ok (.aload_n 0, 1) := by decide +kernel
theorem dX1_addKeeper_31 : decode cX1_addKeeper 31 = .ok (.getfield 37, 3) := by decide +kernel
theorem dX1_addKeeper_34 : decode cX1_addKeeper 34 = .ok (.iconst 0, 1) := by decide +kernel
theorem dX1_addKeeper_35 : decode cX1_addKeeper 35 = .ok (.iastore, 1) := by decide +kernel
theorem dX1_addKeeper_36 : decode cX1_addKeeper 36 = .ok (.aload_n 0, 1) := by decide +kernel
theorem dX1_addKeeper_37 : decode cX1_addKeeper 37 = .ok (.getfield 46, 3) := by decide +kernel
theorem dX1_addKeeper_40 : decode cX1_addKeeper 40 = .ok (.aload_n 0, 1) := by decide +kernel
theorem dX1_addKeeper_41 : decode cX1_addKeeper 41 = .ok (.getfield 37, 3) := by decide +kernel
theorem dX1_addKeeper_44 : decode cX1_addKeeper 44 = .ok (.iconst 0, 1) := by decide +kernel
theorem dX1_addKeeper_45 : decode cX1_addKeeper 45 = .ok (.iastore, 1) := by decide +kernel
theorem dX1_addKeeper_46 : decode cX1_addKeeper 46 = .ok (.aload_n 0, 1) := by decide +kernel
theorem dX1_addKeeper_47 : decode cX1_addKeeper 47 = .ok (.getfield 49, 3) := by decide +kernel
theorem dX1_addKeeper_50 : decode cX1_addKeeper 50 = .ok (.aload_n 0, 1) := by decide +kernel
theorem dX1_addKeeper_51 : decode cX1_addKeeper 51 = .ok (.getfield 37, 3) := by decide +kernel
theorem dX1_addKeeper_54 : decode cX1_addKeeper 54 = .ok (.iconst 0, 1) := by decide +kernel
theorem dX1_addKeeper_55 : decode cX1_addKeeper 55 = .ok (.iastore, 1) := by decide +kernel
theorem dX1_addKeeper_56 : decode cX1_addKeeper 56 = .ok (.aload_n 0, 1) := by decide +kernel
theorem dX1_addKeeper_57 : decode cX1_addKeeper 57 = .ok (.getfield 52, 3) := by decide +kernel
theorem dX1_addKeeper_60 : decode cX1_addKeeper 60 = .ok (.aload_n 0, 1) := by decide +kernel
theorem dX1_addKeeper_61 : decode cX1_addKeeper 61 = .ok (.getfield 37, 3) := by decide +kernel
theorem dX1_addKeeper_64 : decode cX1_addKeeper 64 = .ok (.iconst 0, 1) := by decide +kernel
theorem dX1_addKeeper_65 : decode cX1_addKeeper 65 = .ok (.iastore, 1) := by decide +kernel
theorem dX1_addKeeper_66 : decode cX1_addKeeper 66 = .ok (.aload_n 0, 1) := by decide +kernel
theorem dX1_addKeeper_67 : decode cX1_addKeeper 67 = .ok (.dup, 1) := by decide +kernel
theorem dX1_addKeeper_68 : decode cX1_addKeeper 68 = .ok (.getfield 37, 3) := by decide +kernel
theorem dX1_addKeeper_71 : decode cX1_addKeeper 71 = .ok (.iconst 1, 1) := by decide +kernel
theorem dX1_addKeeper_72 : decode cX1_addKeeper 72 = .ok (.iadd, 1) := by decide +kernel
theorem dX1_addKeeper_73 : decode cX1_addKeeper 73 = .ok (.putfield 37, 3) := by decide +kernel
theorem dX1_addKeeper_76 : decode cX1_addKeeper 76 = .ok (.return_, 1) := by decide +kernel
set_option maxRecDepth 20000 in
theorem ggX1_layCover_X2_has : GoodIn wsX1_layCover wsX2_has := goodIn_r _ [6] (by decide +kernel) (by decide +kernel)
set_option maxRecDepth 20000 in
theorem gX1_layCover_X2_has_n87 : GoodIn wsX1_layCover (wsX2_has) := ggX1_layCover_X2_has
set_option maxRecDepth 20000 in
theorem ggX1_layCover_J6_bitCount_0f7a4 : GoodIn wsX1_layCover wsJ6_bitCount_0f7a4 := goodIn_r _ [10, 11, 12, 13] (by decide +kernel) (by decide +kernel)
set_option maxRecDepth 20000 in
theorem gX1_layCover_J6_bitCount_0f7a4 : GoodIn wsX1_layCover (va_wsS RX1 91 yJ6_bitCount_0f7a4 wsJ6_bitCount_0f7a4) := goodIn_app (goodIn_of _ (by decide +kernel)) ggX1_layCover_J6_bitCount_0f7a4
theorem dX1_layCover_0 : decode cX1_layCover 0 = .ok (.aload_n 0, 1) := by decide +kernel
theorem dX1_layCover_1 : decode cX1_layCover 1 = .ok (.getfield 15, 3) := by decide +kernel
theorem dX1_layCover_4 : decode cX1_layCover 4 = .ok (.iload_n 1, 1) := by decide +kernel
theorem dX1_layCover_5 : decode cX1_layCover 5 = .ok (.invokestatic 87, 3) := by decide +kernel
theorem dX1_layCover_8 : decode cX1_layCover 8 = .ok (.ifCond .ne 5, 3) := by decide +kernel
theorem dX1_layCover_11 : decode cX1_layCover 11 = .ok (.iconst (-1), 1) := by decide +kernel
theorem dX1_layCover_12 : decode cX1_layCover 12 = .ok (.ireturn, 1) := by decide +kernel
theorem dX1_layCover_13 : decode cX1_layCover 13 = .ok (.aload_n 0, 1) := by decide +kernel
theorem dX1_layCover_14 : decode cX1_layCover 14 = .ok (.getfield 19, 3) := by decide +kernel
theorem dX1_layCover_17 : decode cX1_layCover 17 = .ok (.aload_n 0, 1) := by decide +kernel
theorem dX1_layCover_18 : decode cX1_layCover 18 = .ok (.getfield 22, 3) := by decide +kernel
theorem dX1_layCover_21 : decode cX1_layCover 21 = .ok (.ior, 1) := by decide +kernel
theorem dX1_layCover_22 : decode cX1_layCover 22 = .ok (.iload_n 1, 1) := by decide +kernel
theorem dX1_layCover_23 : decode cX1_layCover 23 = .ok (.invokestatic 87, 3) := by decide +kernel
theorem dX1_layCover_26 : decode cX1_layCover 26 = .ok (.ifCond .eq 6, 3) := by decide +kernel
theorem dX1_layCover_29 : decode cX1_layCover 29 = .ok (.bipush (-5), 2) := by decide +kernel
theorem dX1_layCover_31 : decode cX1_layCover 31 = .ok (.ireturn, 1) := by decide +kernel
theorem dX1_layCover_32 : decode cX1_layCover 32 = .ok (.aload_n 0, 1) := by decide +kernel
theorem dX1_layCover_33 : decode cX1_layCover 33 = .ok (.dup, 1) := by decide +kernel
theorem dX1_layCover_34 : decode cX1_layCover 34 = .ok (.getfield 19, 3) := by decide +kernel
theorem dX1_layCover_37 : decode cX1_layCover 37 = .ok (.iconst 1, 1) := by decide +kernel
theorem dX1_layCover_38 : decode cX1_layCover 38 = .ok (.iload_n 1, 1) := by decide +kernel
theorem dX1_layCover_39 : decode cX1_layCover 39 = .ok (.ishl, 1) := by decide +kernel
theorem dX1_layCover_40 : decode cX1_layCover 40 = .ok (.ior, 1) := by decide +kernel
theorem dX1_layCover_41 : decode cX1_layCover 41 = .ok (.putfield 19, 3) := by decide +kernel
theorem dX1_layCover_44 : decode cX1_layCover 44 = .ok (.aload_n 0, 1) := by decide +kernel
theorem dX1_layCover_45 : decode cX1_layCover 45 = .ok (.getfield 19, 3) := by decide +kernel
theorem dX1_layCover_48 : decode cX1_layCover 48 = .ok (.aload_n 0, 1) := by decide +kernel
theorem dX1_layCover_49 : decode cX1_layCover 49 = .ok (.getfield 22, 3) := by decide +kernel
theorem dX1_layCover_52 : decode cX1_layCover 52 = .ok (.ior, 1) := by decide +kernel
theorem dX1_layCover_53 : decode cX1_layCover 53 = .ok (.invokestatic 91, 3) := by decide +kernel
theorem dX1_layCover_56 : decode cX1_layCover 56 = .ok (.ireturn, 1) := by decide +kernel
set_option maxRecDepth 20000 in
theorem ggX1_passCounted_X1_passHours : GoodIn wsX1_passCounted wsX1_passHours := goodIn_r _ [6, 7, 1, 8, 9, 10, 5, 11, 12, 13, 14, 15, 16, 17, 18, 19, 20, 21, 22, 23, 24, 25, 26, 27, 28, 29, 30, 31, 32, 33, 34, 35, 36, 37, 38, 39, 40, 41, 42, 43, 44, 45, 46, 47, 48, 49, 50, 51, 52, 53, 54, 55, 56, 57, 58, 59, 60, 61, 62, 63, 64, 65, 66, 67, 68, 69, 70, 71, 72, 73, 74, 75, 76, 77, 78, 79, 80, 81, 82, 83, 84, 85, 86, 87, 88, 89, 90, 91, 92, 93, 94, 95, 96, 97, 98, 99, 100, 101, 102, 103, 104, 105, 106, 107, 108, 109, 110] (by decide +kernel) (by decide +kernel)
set_option maxRecDepth 20000 in
theorem gX1_passCounted_X1_passHours : GoodIn wsX1_passCounted (wsV RX1 101 RX1 yX1_passHours wsX1_passHours) := goodIn_app (goodIn_of _ (by decide +kernel)) ggX1_passCounted_X1_passHours
theorem dX1_passCounted_0 : decode cX1_passCounted 0 = .ok (.iload_n 1, 1) := by decide +kernel
theorem dX1_passCounted_1 : decode cX1_passCounted 1 = .ok (.iconst 1, 1) := by decide +kernel
theorem dX1_passCounted_2 : decode cX1_passCounted 2 = .ok (.if_icmp .lt 9, 3) := by decide +kernel
theorem dX1_passCounted_5 : decode cX1_passCounted 5 = .ok (.iload_n 1, 1) := by decide +kernel
theorem dX1_passCounted_6 : decode cX1_passCounted 6 = .ok (.bipush 99, 2) := by decide +kernel
theorem dX1_passCounted_8 : decode cX1_passCounted 8 = .ok (.if_icmp .le 6, 3) := by decide +kernel
theorem dX1_passCounted_11 : decode cX1_passCounted 11 = .ok (.bipush (-2), 2) := by decide +kernel
theorem dX1_passCounted_13 : decode cX1_passCounted 13 = .ok (.ireturn, 1) := by decide +kernel
theorem dX1_passCounted_14 : decode cX1_passCounted 14 = .ok (.aload_n 0, 1) := by decide +kernel
theorem dX1_passCounted_15 : decode cX1_passCounted 15 = .ok (.getfield 58, 3) := by decide +kernel
theorem dX1_passCounted_18 : decode cX1_passCounted 18 = .ok (.iload_n 1, 1) := by decide +kernel
theorem dX1_passCounted_19 : decode cX1_passCounted 19 = .ok (.iadd, 1) := by decide +kernel
theorem dX1_passCounted_20 : decode cX1_passCounted 20 = .ok (.sipush 9999, 3) := by decide +kernel
theorem dX1_passCounted_23 : decode cX1_passCounted 23 = .ok (.if_icmp .le 6, 3) := by decide +kernel
theorem dX1_passCounted_26 : decode cX1_passCounted 26 = .ok (.bipush (-5), 2) := by decide +kernel
theorem dX1_passCounted_28 : decode cX1_passCounted 28 = .ok (.ireturn, 1) := by decide +kernel
theorem dX1_passCounted_29 : decode cX1_passCounted 29 = .ok (.aload_n 0, 1) := by decide +kernel
theorem dX1_passCounted_30 : decode cX1_passCounted 30 = .ok (.iload_n 1, 1) := by decide +kernel
theorem dX1_passCounted_31 : decode cX1_passCounted 31 = .ok (.invokevirtual 101, 3) := by decide +kernel
theorem dX1_passCounted_34 : decode cX1_passCounted 34 = .ok (.ireturn, 1) := by decide +kernel
set_option maxRecDepth 20000 in
theorem ggX1_coverAt_X2_has : GoodIn wsX1_coverAt wsX2_has := goodIn_r _ [5] (by decide +kernel) (by decide +kernel)
set_option maxRecDepth 20000 in
theorem gX1_coverAt_X2_has_n87 : GoodIn wsX1_coverAt (wsX2_has) := ggX1_coverAt_X2_has
theorem dX1_coverAt_0 : decode cX1_coverAt 0 = .ok (.aload_n 0, 1) := by decide +kernel
theorem dX1_coverAt_1 : decode cX1_coverAt 1 = .ok (.getfield 22, 3) := by decide +kernel
theorem dX1_coverAt_4 : decode cX1_coverAt 4 = .ok (.iload_n 1, 1) := by decide +kernel
theorem dX1_coverAt_5 : decode cX1_coverAt 5 = .ok (.invokestatic 87, 3) := by decide +kernel
theorem dX1_coverAt_8 : decode cX1_coverAt 8 = .ok (.ifCond .eq 5, 3) := by decide +kernel
theorem dX1_coverAt_11 : decode cX1_coverAt 11 = .ok (.iconst 2, 1) := by decide +kernel
theorem dX1_coverAt_12 : decode cX1_coverAt 12 = .ok (.ireturn, 1) := by decide +kernel
theorem dX1_coverAt_13 : decode cX1_coverAt 13 = .ok (.aload_n 0, 1) := by decide +kernel
theorem dX1_coverAt_14 : decode cX1_coverAt 14 = .ok (.getfield 19, 3) := by decide +kernel
theorem dX1_coverAt_17 : decode cX1_coverAt 17 = .ok (.iload_n 1, 1) := by decide +kernel
theorem dX1_coverAt_18 : decode cX1_coverAt 18 = .ok (.invokestatic 87, 3) := by decide +kernel
theorem dX1_coverAt_21 : decode cX1_coverAt 21 = .ok (.ifCond .eq 7, 3) := by decide +kernel
theorem dX1_coverAt_24 : decode cX1_coverAt 24 = .ok (.iconst 1, 1) := by decide +kernel
theorem dX1_coverAt_25 : decode cX1_coverAt 25 = .ok (.goto 4, 3) := by decide +kernel
theorem dX1_coverAt_28 : decode cX1_coverAt 28 = .ok (.iconst 0, 1) := by decide +kernel
theorem dX1_coverAt_29 : decode cX1_coverAt 29 = .ok (.ireturn, 1) := by decide +kernel
theorem dX1_keepersAt_0 : decode cX1_keepersAt 0 = .ok (.iconst 0, 1) := by decide +kernel
theorem dX1_keepersAt_1 : decode cX1_keepersAt 1 = .ok (.istore_n 2, 1) := by decide +kernel
theorem dX1_keepersAt_2 : decode cX1_keepersAt 2 = .ok (.iconst 0, 1) := by decide +kernel
theorem dX1_keepersAt_3 : decode cX1_keepersAt 3 = .ok (.istore_n 3, 1) := by decide +kernel
theorem dX1_keepersAt_4 : decode cX1_keepersAt 4 = .ok (.iload_n 3, 1) := by decide +kernel
theorem dX1_keepersAt_5 : decode cX1_keepersAt 5 = .ok (.aload_n 0, 1) := by decide +kernel
theorem dX1_keepersAt_6 : decode cX1_keepersAt 6 = .ok (.getfield 37, 3) := by decide +kernel
theorem dX1_keepersAt_9 : decode cX1_keepersAt 9 = .ok (.if_icmp .ge 27, 3) := by decide +kernel
theorem dX1_keepersAt_12 : decode cX1_keepersAt 12 = .ok (.iload_n 3, 1) := by decide +kernel
theorem dX1_keepersAt_13 : decode cX1_keepersAt 13 = .ok (.iconst 4, 1) := by decide +kernel
theorem dX1_keepersAt_14 : decode cX1_keepersAt 14 = .ok (.if_icmp .gt 22, 3) := by decide +kernel
theorem dX1_keepersAt_17 : decode cX1_keepersAt 17 = .ok (.aload_n 0, 1) := by decide +kernel
theorem dX1_keepersAt_18 : decode cX1_keepersAt 18 = .ok (.getfield 40, 3) := by decide +kernel
theorem dX1_keepersAt_21 : decode cX1_keepersAt 21 = .ok (.iload_n 3, 1) := by decide +kernel
theorem dX1_keepersAt_22 : decode cX1_keepersAt 22 = .ok (.iaload, 1) := by decide +kernel
theorem dX1_keepersAt_23 : decode cX1_keepersAt 23 = .ok (.iload_n 1, 1) := by decide +kernel
theorem dX1_keepersAt_24 : decode cX1_keepersAt 24 = .ok (.if_icmp .ne 6, 3) := by decide +kernel
theorem dX1_keepersAt_27 : decode cX1_keepersAt 27 = .ok (.iinc 2 1, 3) := by decide +kernel
theorem dX1_keepersAt_30 : decode cX1_keepersAt 30 = .ok (.iinc 3 1, 3) := by decide +kernel
theorem dX1_keepersAt_33 : decode cX1_keepersAt 33 = .ok (.goto (-29), 3) := by decide +kernel
theorem dX1_keepersAt_36 : decode cX1_keepersAt 36 = .ok (.iload_n 2, 1) := by decide +kernel
theorem dX1_keepersAt_37 : decode cX1_keepersAt 37 = .ok (.ireturn, 1) := by decide +kernel
theorem dX1_rainsAfter_0 : decode cX1_rainsAfter 0 = .ok (.aload_n 0, 1) := by decide +kernel
theorem dX1_rainsAfter_1 : decode cX1_rainsAfter 1 = .ok (.getfield 55, 3) := by decide +kernel
theorem dX1_rainsAfter_4 : decode cX1_rainsAfter 4 = .ok (.aload_n 0, 1) := by decide +kernel
theorem dX1_rainsAfter_5 : decode cX1_rainsAfter 5 = .ok (.getfield 58, 3) := by decide +kernel
theorem dX1_rainsAfter_8 : decode cX1_rainsAfter 8 = .ok (.iload_n 1, 1) := by decide +kernel
theorem dX1_rainsAfter_9 : decode cX1_rainsAfter 9 = .ok (.iadd, 1) := by decide +kernel
theorem dX1_rainsAfter_10 : decode cX1_rainsAfter 10 = .ok (.bipush 24, 2) := by decide +kernel
theorem dX1_rainsAfter_12 : decode cX1_rainsAfter 12 = .ok (.irem, 1) := by decide +kernel
theorem dX1_rainsAfter_13 : decode cX1_rainsAfter 13 = .ok (.iushr, 1) := by decide +kernel
theorem dX1_rainsAfter_14 : decode cX1_rainsAfter 14 = .ok (.iconst 1, 1) := by decide +kernel
theorem dX1_rainsAfter_15 : decode cX1_rainsAfter 15 = .ok (.iand, 1) := by decide +kernel
theorem dX1_rainsAfter_16 : decode cX1_rainsAfter 16 = .ok (.iconst 1, 1) := by decide +kernel
theorem dX1_rainsAfter_17 : decode cX1_rainsAfter 17 = .ok (.if_icmp .ne 7, 3) := by decide +kernel
theorem dX1_rainsAfter_20 : decode cX1_rainsAfter 20 = .ok (.iconst 1, 1) := by decide +kernel
theorem dX1_rainsAfter_21 : decode cX1_rainsAfter 21 = .ok (.goto 4, 3) := by decide +kernel
theorem dX1_rainsAfter_24 : decode cX1_rainsAfter 24 = .ok (.iconst 0, 1) := by decide +kernel
theorem dX1_rainsAfter_25 : decode cX1_rainsAfter 25 = .ok (.ireturn, 1) := by decide +kernel
set_option maxRecDepth 20000 in
theorem ggX1_hoursUntilRain_X1_rainsAfter : GoodIn wsX1_hoursUntilRain wsX1_rainsAfter := goodIn_r _ [5, 6, 7, 8, 9, 10, 11, 12, 13, 14, 15, 16, 17, 18, 19, 20, 21, 22, 23, 24, 25] (by decide +kernel) (by decide +kernel)
set_option maxRecDepth 20000 in
theorem gX1_hoursUntilRain_X1_rainsAfter : GoodIn wsX1_hoursUntilRain (wsV RX1 104 RX1 yX1_rainsAfter wsX1_rainsAfter) := goodIn_app (goodIn_of _ (by decide +kernel)) ggX1_hoursUntilRain_X1_rainsAfter
theorem dX1_hoursUntilRain_0 : decode cX1_hoursUntilRain 0 = .ok (.iconst 0, 1) := by decide +kernel
theorem dX1_hoursUntilRain_1 : decode cX1_hoursUntilRain 1 = .ok (.istore_n 1, 1) := by decide +kernel
theorem dX1_hoursUntilRain_2 : decode cX1_hoursUntilRain 2 = .ok (.iload_n 1, 1) := by decide +kernel
theorem dX1_hoursUntilRain_3 : decode cX1_hoursUntilRain 3 = .ok (.bipush 24, 2) := by decide +kernel
theorem dX1_hoursUntilRain_5 : decode cX1_hoursUntilRain 5 = .ok (.if_icmp .ge 19, 3) := by decide +kernel
theorem dX1_hoursUntilRain_8 : decode cX1_hoursUntilRain 8 = .ok (.aload_n 0, 1) := by decide +kernel
theorem dX1_hoursUntilRain_9 : decode cX1_hoursUntilRain 9 = .ok (.iload_n 1, 1) := by decide +kernel
theorem dX1_hoursUntilRain_10 : decode cX1_hoursUntilRain 10 = .ok (.invokevirtual 104, 3) := by decide +kernel
theorem dX1_hoursUntilRain_13 : decode cX1_hoursUntilRain 13 = .ok (.ifCond .eq 5, 3) := by decide +kernel
theorem dX1_hoursUntilRain_16 : decode cX1_hoursUntilRain 16 = .ok (.iload_n 1, 1) := by decide +kernel
theorem dX1_hoursUntilRain_17 : decode cX1_hoursUntilRain 17 = .ok (.ireturn, 1) := by decide +kernel
theorem dX1_hoursUntilRain_18 : decode cX1_hoursUntilRain 18 = .ok (.iinc 1 1, 3) := by decide +kernel
theorem dX1_hoursUntilRain_21 : decode cX1_hoursUntilRain 21 = .ok (.goto (-19), 3) := by decide +kernel
theorem dX1_hoursUntilRain_24 : decode cX1_hoursUntilRain 24 = .ok (.bipush (-6), 2) := by decide +kernel
theorem dX1_hoursUntilRain_26 : decode cX1_hoursUntilRain 26 = .ok (.ireturn, 1) := by decide +kernel
set_option maxRecDepth 20000 in
theorem ggX1_rainIsAhead_X1_rainsAfter : GoodIn wsX1_rainIsAhead wsX1_rainsAfter := goodIn_r _ [6, 7, 8, 9, 10, 11, 12, 13, 14, 15, 16, 17, 18, 19, 20, 21, 22, 23, 24, 25, 26] (by decide +kernel) (by decide +kernel)
set_option maxRecDepth 20000 in
theorem gX1_rainIsAhead_X1_rainsAfter : GoodIn wsX1_rainIsAhead (wsV RX1 104 RX1 yX1_rainsAfter wsX1_rainsAfter) := goodIn_app (goodIn_of _ (by decide +kernel)) ggX1_rainIsAhead_X1_rainsAfter
theorem dX1_rainIsAhead_0 : decode cX1_rainIsAhead 0 = .ok (.iconst 0, 1) := by decide +kernel
theorem dX1_rainIsAhead_1 : decode cX1_rainIsAhead 1 = .ok (.istore_n 1, 1) := by decide +kernel
theorem dX1_rainIsAhead_2 : decode cX1_rainIsAhead 2 = .ok (.iload_n 1, 1) := by decide +kernel
theorem dX1_rainIsAhead_3 : decode cX1_rainIsAhead 3 = .ok (.aload_n 0, 1) := by decide +kernel
theorem dX1_rainIsAhead_4 : decode cX1_rainIsAhead 4 = .ok (.getfield 9, 3) := by decide +kernel
theorem dX1_rainIsAhead_7 : decode cX1_rainIsAhead 7 = .ok (.iconst 0, 1) := by decide +kernel
theorem dX1_rainIsAhead_8 : decode cX1_rainIsAhead 8 = .ok (.iaload, 1) := by decide +kernel
theorem dX1_rainIsAhead_9 : decode cX1_rainIsAhead 9 = .ok (.if_icmp .gt 25, 3) := by decide +kernel
theorem dX1_rainIsAhead_12 : decode cX1_rainIsAhead 12 = .ok (.iload_n 1, 1) := by decide +kernel
theorem dX1_rainIsAhead_13 : decode cX1_rainIsAhead 13 = .ok (.bipush 24, 2) := by decide +kernel
theorem dX1_rainIsAhead_15 : decode cX1_rainIsAhead 15 = .ok (.if_icmp .ge 19, 3) := by decide +kernel
theorem dX1_rainIsAhead_18 : decode cX1_rainIsAhead 18 = .ok (.aload_n 0, 1) := by decide +kernel
theorem dX1_rainIsAhead_19 : decode cX1_rainIsAhead 19 = .ok (.iload_n 1, 1) := by decide +kernel
theorem dX1_rainIsAhead_20 : decode cX1_rainIsAhead 20 = .ok (.invokevirtual 104, 3) := by decide +kernel
theorem dX1_rainIsAhead_23 : decode cX1_rainIsAhead 23 = .ok (.ifCond .eq 5, 3) := by decide +kernel
theorem dX1_rainIsAhead_26 : decode cX1_rainIsAhead 26 = .ok (.iconst 1, 1) := by decide +kernel
theorem dX1_rainIsAhead_27 : decode cX1_rainIsAhead 27 = .ok (.ireturn, 1) := by decide +kernel
theorem dX1_rainIsAhead_28 : decode cX1_rainIsAhead 28 = .ok (.iinc 1 1, 3) := by decide +kernel
theorem dX1_rainIsAhead_31 : decode cX1_rainIsAhead 31 = .ok (.goto (-29), 3) := by decide +kernel
theorem dX1_rainIsAhead_34 : decode cX1_rainIsAhead 34 = .ok (.iconst 0, 1) := by decide +kernel
theorem dX1_rainIsAhead_35 : decode cX1_rainIsAhead 35 = .ok (.ireturn, 1) := by decide +kernel
set_option maxRecDepth 20000 in
theorem ggX1_passHours_X1_letKeepersAct : GoodIn wsX1_passHours wsX1_letKeepersAct := goodIn_r _ [7, 8, 9, 10, 11, 12, 13, 14, 6, 15, 16, 17, 18, 19, 20, 21, 2, 22, 23, 24, 25, 26, 27, 28, 29, 30, 31, 32, 33, 34, 35, 36, 37, 38, 39, 40, 41, 42, 43, 44, 45, 46, 47, 48, 49, 50, 51, 52, 53, 54, 55, 56, 57, 58, 59, 60, 61, 89, 90, 91, 92, 93, 94, 95, 96, 97, 98, 99, 100, 101, 102, 103, 104, 105, 106] (by decide +kernel) (by decide +kernel)
set_option maxRecDepth 20000 in
theorem gX1_passHours_X1_letKeepersAct : GoodIn wsX1_passHours (wsV RX1 107 RX1 yX1_letKeepersAct wsX1_letKeepersAct) := goodIn_app (goodIn_of _ (by decide +kernel)) ggX1_passHours_X1_letKeepersAct
set_option maxRecDepth 20000 in
theorem ggX1_passHours_X1_rainsAfter : GoodIn wsX1_passHours wsX1_rainsAfter := goodIn_r _ [20, 21, 2, 89, 90, 91, 92, 93, 94, 95, 96, 97, 98, 99, 100, 101, 102, 103, 104, 105, 106] (by decide +kernel) (by decide +kernel)
set_option maxRecDepth 20000 in
theorem gX1_passHours_X1_rainsAfter : GoodIn wsX1_passHours (wsV RX1 104 RX1 yX1_rainsAfter wsX1_rainsAfter) := goodIn_app (goodIn_of _ (by decide +kernel)) ggX1_passHours_X1_rainsAfter
set_option maxRecDepth 20000 in
theorem ggX1_passHours_X1_letRainFall : GoodIn wsX1_passHours wsX1_letRainFall := goodIn_r _ [65, 66, 16, 47, 48, 49, 50, 32, 67, 68, 69, 70, 33, 34, 35, 6, 36, 37, 10, 25, 26, 27, 89, 90, 91, 92, 93, 94, 95, 96, 97, 98, 99, 100, 101, 102, 103, 104, 105, 106] (by decide +kernel) (by decide +kernel)
set_option maxRecDepth 20000 in
theorem gX1_passHours_X1_letRainFall : GoodIn wsX1_passHours (wsV RX1 110 RX1 yX1_letRainFall wsX1_letRainFall) := goodIn_app (goodIn_of _ (by decide +kernel)) ggX1_passHours_X1_letRainFall
set_option maxRecDepth 20000 in
theorem ggX1_passHours_X1_letPianosDry : GoodIn wsX1_passHours wsX1_letPianosDry := goodIn_r _ [74, 66, 16, 67, 68, 49, 69, 33, 34, 35, 6, 36, 37, 10, 25, 26, 27, 89, 90, 91, 92, 93, 94, 95, 96, 97, 98, 99, 100, 101, 102, 103, 104, 105, 106] (by decide +kernel) (by decide +kernel)
set_option maxRecDepth 20000 in
theorem gX1_passHours_X1_letPianosDry : GoodIn wsX1_passHours (wsV RX1 113 RX1 yX1_letPianosDry wsX1_letPianosDry) := goodIn_app (goodIn_of _ (by decide +kernel)) ggX1_passHours_X1_letPianosDry
set_option maxRecDepth 20000 in
theorem ggX1_passHours_X1_letPianosBePlayed : GoodIn wsX1_passHours wsX1_letPianosBePlayed := goodIn_r _ [78, 2, 66, 16, 32, 79, 1, 67, 68, 49, 69, 33, 34, 35, 6, 36, 37, 10, 25, 26, 27, 89, 90, 91, 92, 93, 94, 95, 96, 97, 98, 99, 100, 101, 102, 103, 104, 105, 106] (by decide +kernel) (by decide +kernel)
set_option maxRecDepth 20000 in
theorem gX1_passHours_X1_letPianosBePlayed : GoodIn wsX1_passHours (wsV RX1 116 RX1 yX1_letPianosBePlayed wsX1_letPianosBePlayed) := goodIn_app (goodIn_of _ (by decide +kernel)) ggX1_passHours_X1_letPianosBePlayed
set_option maxRecDepth 20000 in
theorem ggX1_passHours_X1_letThievesCome : GoodIn wsX1_passHours wsX1_letThievesCome := goodIn_r _ [83, 2, 16, 9, 84, 25, 26, 27, 85, 86, 87, 6, 88, 8, 11, 89, 90, 91, 92, 93, 94, 95, 96, 97, 98, 99, 100, 101, 102, 103, 104, 105, 106] (by decide +kernel) (by decide +kernel)
set_option maxRecDepth 20000 in
theorem gX1_passHours_X1_letThievesCome : GoodIn wsX1_passHours (wsV RX1 119 RX1 yX1_letThievesCome wsX1_letThievesCome) := goodIn_app (goodIn_of _ (by decide +kernel)) ggX1_passHours_X1_letThievesCome
theorem dX1_passHours_0 : decode cX1_passHours 0 = .ok (.aload_n 0, 1) := by decide +kernel
theorem dX1_passHours_1 : decode cX1_passHours 1 = .ok (.getfield 61, 3) := by decide +kernel
theorem dX1_passHours_4 : decode cX1_passHours 4 = .ok (.istore_n 2, 1) := by decide +kernel
theorem dX1_passHours_5 : decode cX1_passHours 5 = .ok (.iconst 0, 1) := by decide +kernel
theorem dX1_passHours_6 : decode cX1_passHours 6 = .ok (.istore_n 3, 1) := by decide +kernel
theorem dX1_passHours_7 : decode cX1_passHours 7 = .ok (.iload_n 3, 1) := by decide +kernel
theorem dX1_passHours_8 : decode cX1_passHours 8 = .ok (.iload_n 1, 1) := by decide +kernel
theorem dX1_passHours_9 : decode cX1_passHours 9 = .ok (.if_icmp .ge 50, 3) := by decide +kernel
theorem dX1_passHours_12 : decode cX1_passHours 12 = .ok (.aload_n 0, 1) := by decide +kernel
theorem dX1_passHours_13 : decode cX1_passHours 13 = .ok (.invokevirtual 107, 3) := by decide +kernel
theorem dX1_passHours_16 : decode cX1_passHours 16 = .ok (.aload_n 0, 1) := by decide +kernel
theorem dX1_passHours_17 : decode cX1_passHours 17 = .ok (.iconst 0, 1) := by decide +kernel
theorem dX1_passHours_18 : decode cX1_passHours 18 = .ok (.invokevirtual 104, 3) := by decide +kernel
theorem dX1_passHours_21 : decode cX1_passHours 21 = .ok (.ifCond .eq 10, 3) := by decide +kernel
theorem dX1_passHours_24 : decode cX1_passHours 24 = .ok (.aload_n 0, 1) := by decide +kernel
theorem dX1_passHours_25 : decode cX1_passHours 25 = .ok (.invokevirtual 110, 3) := by decide +kernel
theorem dX1_passHours_28 : decode cX1_passHours 28 = .ok (.goto 11, 3) := by decide +kernel
theorem dX1_passHours_31 : decode cX1_passHours 31 = .ok (.aload_n 0, 1) := by decide +kernel
theorem dX1_passHours_32 : decode cX1_passHours 32 = .ok (.invokevirtual 113, 3) := by decide +kernel
theorem dX1_passHours_35 : decode cX1_passHours 35 = .ok (.aload_n 0, 1) := by decide +kernel
theorem dX1_passHours_36 : decode cX1_passHours 36 = .ok (.invokevirtual 116, 3) := by decide +kernel
theorem dX1_passHours_39 : decode cX1_passHours 39 = .ok (.aload_n 0, 1) := by decide +kernel
theorem dX1_passHours_40 : decode cX1_passHours 40 = .ok (.invokevirtual 119, 3) := by decide +kernel
theorem dX1_passHours_43 : decode cX1_passHours 43 = .ok (.aload_n 0, 1) := by decide +kernel
theorem dX1_passHours_44 : decode cX1_passHours 44 = .ok (.dup, 1) := by decide +kernel
theorem dX1_passHours_45 : decode cX1_passHours 45 = .ok (.getfield 58, 3) := by decide +kernel
theorem dX1_passHours_48 : decode cX1_passHours 48 = .ok (.iconst 1, 1) := by decide +kernel
theorem dX1_passHours_49 : decode cX1_passHours 49 = .ok (.iadd, 1) := by decide +kernel
theorem dX1_passHours_50 : decode cX1_passHours 50 = .ok (.putfield 58, 3) := by decide +kernel
theorem dX1_passHours_53 : decode cX1_passHours 53 = .ok (.iinc 3 1, 3) := by decide +kernel
theorem dX1_passHours_56 : decode cX1_passHours 56 = .ok (.goto (-49), 3) := by decide +kernel
theorem dX1_passHours_59 : decode cX1_passHours 59 = .ok (.aload_n 0, 1) := by decide +kernel
theorem dX1_passHours_60 : decode cX1_passHours 60 = .ok (.getfield 61, 3) := by decide +kernel
theorem dX1_passHours_63 : decode cX1_passHours 63 = .ok (.iload_n 2, 1) := by decide +kernel
theorem dX1_passHours_64 : decode cX1_passHours 64 = .ok (.isub, 1) := by decide +kernel
theorem dX1_passHours_65 : decode cX1_passHours 65 = .ok (.ireturn, 1) := by decide +kernel
set_option maxRecDepth 20000 in
theorem ggX1_letKeepersAct_X1_rainIsAhead : GoodIn wsX1_letKeepersAct wsX1_rainIsAhead := goodIn_r _ [9, 10, 11, 12, 13, 8, 14, 15, 16, 57, 58, 59, 60, 61, 62, 63, 64, 65, 66, 67, 68, 69, 70, 71, 72, 73, 74] (by decide +kernel) (by decide +kernel)
set_option maxRecDepth 20000 in
theorem gX1_letKeepersAct_X1_rainIsAhead : GoodIn wsX1_letKeepersAct (wsV RX1 122 RX1 yX1_rainIsAhead wsX1_rainIsAhead) := goodIn_app (goodIn_of _ (by decide +kernel)) ggX1_letKeepersAct_X1_rainIsAhead
set_option maxRecDepth 20000 in
theorem ggX1_letKeepersAct_X1_nearest : GoodIn wsX1_letKeepersAct wsX1_nearest := goodIn_r _ [19, 20, 21, 22] (by decide +kernel) (by decide +kernel)
set_option maxRecDepth 20000 in
theorem gX1_letKeepersAct_X1_nearest : GoodIn wsX1_letKeepersAct (va_wsS RX1 126 yX1_nearest wsX1_nearest) := goodIn_app (goodIn_of _ (by decide +kernel)) ggX1_letKeepersAct_X1_nearest
set_option maxRecDepth 20000 in
theorem ggX1_letKeepersAct_X1_outOfTune : GoodIn wsX1_letKeepersAct wsX1_outOfTune := goodIn_r _ [26, 27, 10, 28, 29, 30, 8, 31, 32, 3, 20, 21, 22, 57, 58, 59, 60, 61, 62, 63, 64, 65, 66, 67, 68, 69, 70, 71, 72, 73, 74] (by decide +kernel) (by decide +kernel)
set_option maxRecDepth 20000 in
theorem gX1_letKeepersAct_X1_outOfTune : GoodIn wsX1_letKeepersAct (wsV RX1 130 RX1 yX1_outOfTune wsX1_outOfTune) := goodIn_app (goodIn_of _ (by decide +kernel)) ggX1_letKeepersAct_X1_outOfTune
set_option maxRecDepth 20000 in
theorem ggX1_letKeepersAct_X1_goTowards : GoodIn wsX1_letKeepersAct wsX1_goTowards := goodIn_r _ [36, 4, 37, 57, 58, 59, 60, 61, 62, 63, 64, 65, 66, 67, 68, 69, 70, 71, 72, 73, 74] (by decide +kernel) (by decide +kernel)
set_option maxRecDepth 20000 in
theorem gX1_letKeepersAct_X1_goTowards : GoodIn wsX1_letKeepersAct (wsV RX1 134 RX1 yX1_goTowards wsX1_goTowards) := goodIn_app (goodIn_of _ (by decide +kernel)) ggX1_letKeepersAct_X1_goTowards
set_option maxRecDepth 20000 in
theorem ggX1_letKeepersAct_X1_tune : GoodIn wsX1_letKeepersAct wsX1_tune := goodIn_r _ [41, 27, 42, 43, 44, 45, 46, 57, 58, 59, 60, 61, 62, 63, 64, 65, 66, 67, 68, 69, 70, 71, 72, 73, 74] (by decide +kernel) (by decide +kernel)
set_option maxRecDepth 20000 in
theorem gX1_letKeepersAct_X1_tune : GoodIn wsX1_letKeepersAct (wsV RX1 138 RX1 yX1_tune wsX1_tune) := goodIn_app (goodIn_of _ (by decide +kernel)) ggX1_letKeepersAct_X1_tune
set_option maxRecDepth 20000 in
theorem ggX1_letKeepersAct_X1_putCoverOn : GoodIn wsX1_letKeepersAct wsX1_putCoverOn := goodIn_r _ [50, 2, 3, 51, 57, 58, 59, 60, 61, 62, 63, 64, 65, 66, 67, 68, 69, 70, 71, 72, 73, 74] (by decide +kernel) (by decide +kernel)
set_option maxRecDepth 20000 in
theorem gX1_letKeepersAct_X1_putCoverOn : GoodIn wsX1_letKeepersAct (wsV RX1 141 RX1 yX1_putCoverOn wsX1_putCoverOn) := goodIn_app (goodIn_of _ (by decide +kernel)) ggX1_letKeepersAct_X1_putCoverOn
set_option maxRecDepth 20000 in
theorem ggX1_letKeepersAct_X1_takeCoverOff : GoodIn wsX1_letKeepersAct wsX1_takeCoverOff := goodIn_r _ [55, 3, 2, 56, 57, 58, 59, 60, 61, 62, 63, 64, 65, 66, 67, 68, 69, 70, 71, 72, 73, 74] (by decide +kernel) (by decide +kernel)
set_option maxRecDepth 20000 in
theorem gX1_letKeepersAct_X1_takeCoverOff : GoodIn wsX1_letKeepersAct (wsV RX1 144 RX1 yX1_takeCoverOff wsX1_takeCoverOff) := goodIn_app (goodIn_of _ (by decide +kernel)) ggX1_letKeepersAct_X1_takeCoverOff
theorem dX1_letKeepersAct_0 : decode cX1_letKeepersAct 0 = .ok (.aload_n 0, 1) := by decide +kernel
theorem dX1_letKeepersAct_1 : decode cX1_letKeepersAct 1 = .ok (.invokevirtual 122, 3) := by decide +kernel
theorem dX1_letKeepersAct_4 : decode cX1_letKeepersAct 4 = .ok (.istore_n 1, 1) := by decide +kernel
theorem dX1_letKeepersAct_5 : decode cX1_letKeepersAct 5 = .ok (.iconst 0, 1) := by decide +kernel
theorem dX1_letKeepersAct_6 : decode cX1_letKeepersAct 6 = .ok (.istore_n 2, 1) := by decide +kernel
theorem dX1_letKeepersAct_7 : decode cX1_letKeepersAct 7 = .ok (.iconst 0, 1) := by decide +kernel
theorem dX1_letKeepersAct_8 : decode cX1_letKeepersAct 8 = .ok (.istore_n 3, 1) := by decide +kernel
theorem dX1_letKeepersAct_9 : decode cX1_letKeepersAct 9 = .ok (.iload_n 3, 1) := by decide +kernel
theorem dX1_letKeepersAct_10 : decode cX1_letKeepersAct 10 = .ok (.aload_n 0, 1) := by decide +kernel
theorem dX1_letKeepersAct_11 : decode cX1_letKeepersAct 11 = .ok (.getfield 37, 3) := by decide +kernel
theorem dX1_letKeepersAct_14 : decode cX1_letKeepersAct 14 = .ok (.if_icmp .ge 156, 3) := by decide +kernel
theorem dX1_letKeepersAct_17 : decode cX1_letKeepersAct 17 = .ok (.iload_n 3, 1) := by decide +kernel
theorem dX1_letKeepersAct_18 : decode cX1_letKeepersAct 18 = .ok (.iconst 4, 1) := by decide +kernel
theorem dX1_letKeepersAct_19 : decode cX1_letKeepersAct 19 = .ok (.if_icmp .gt 151, 3) := by decide +kernel
theorem dX1_letKeepersAct_22 : decode cX1_letKeepersAct 22 = .ok (.iload_n 1, 1) := by decide +kernel
theorem dX1_letKeepersAct_23 : decode cX1_letKeepersAct 23 = .ok (.ifCond .eq 10, 3) := by decide +kernel
theorem dX1_letKeepersAct_26 : decode cX1_letKeepersAct 26 = .ok (.aload_n 0, 1) := by decide +kernel
theorem dX1_letKeepersAct_27 : decode cX1_letKeepersAct 27 = .ok (.getfield 19, 3) := by decide +kernel
theorem dX1_letKeepersAct_30 : decode cX1_letKeepersAct 30 = .ok (.goto 7, 3) := by decide +kernel
theorem dX1_letKeepersAct_33 : decode cX1_letKeepersAct 33 = .ok (.aload_n 0, 1) := by decide +kernel
theorem dX1_letKeepersAct_34 : decode cX1_letKeepersAct 34 = .ok (.getfield 22, 3) := by decide +kernel
theorem dX1_letKeepersAct_37 : decode cX1_letKeepersAct 37 = .ok (.iload_n 2, 1) := by decide +kernel
theorem dX1_letKeepersAct_38 : decode cX1_letKeepersAct 38 = .ok (.iconst (-1), 1) := by decide +kernel
theorem dX1_letKeepersAct_39 : decode cX1_letKeepersAct 39 = .ok (.ixor, 1) := by decide +kernel
theorem dX1_letKeepersAct_40 : decode cX1_letKeepersAct 40 = .ok (.iand, 1) := by decide +kernel
theorem dX1_letKeepersAct_41 : decode cX1_letKeepersAct 41 = .ok (.aload_n 0, 1) := by decide +kernel
theorem dX1_letKeepersAct_42 : decode cX1_letKeepersAct 42 = .ok (.getfield 40, 3) := by decide +kernel
theorem dX1_letKeepersAct_45 : decode cX1_letKeepersAct 45 = .ok (.iload_n 3, 1) := by decide +kernel
theorem dX1_letKeepersAct_46 : decode cX1_letKeepersAct 46 = .ok (.iaload, 1) := by decide +kernel
theorem dX1_letKeepersAct_47 : decode cX1_letKeepersAct 47 = .ok (.invokestatic 126, 3) := by decide +kernel
theorem dX1_letKeepersAct_50 : decode cX1_letKeepersAct 50 = .ok (.istore 4, 2) := by decide +kernel
theorem dX1_letKeepersAct_52 : decode cX1_letKeepersAct 52 = .ok (.iload 4, 2) := by decide +kernel
theorem dX1_letKeepersAct_54 : decode cX1_letKeepersAct 54 = .ok (.bipush (-6), 2) := by decide +kernel
theorem dX1_letKeepersAct_56 : decode cX1_letKeepersAct 56 = .ok (.if_icmp .ne 7, 3) := by decide +kernel
theorem dX1_letKeepersAct_59 : decode cX1_letKeepersAct 59 = .ok (.iconst 1, 1) := by decide +kernel
theorem dX1_letKeepersAct_60 : decode cX1_letKeepersAct 60 = .ok (.goto 4, 3) := by decide +kernel
theorem dX1_letKeepersAct_63 : decode cX1_letKeepersAct 63 = .ok (.iconst 0, 1) := by decide +kernel
theorem dX1_letKeepersAct_64 : decode cX1_letKeepersAct 64 = .ok (.istore 5, 2) := by decide +kernel
theorem dX1_letKeepersAct_66 : decode cX1_letKeepersAct 66 = .ok (.iload 5, 2) := by decide +kernel
theorem dX1_letKeepersAct_68 : decode cX1_letKeepersAct 68 = .ok (.ifCond .eq 22, 3) := by decide +kernel
theorem dX1_letKeepersAct_71 : decode cX1_letKeepersAct 71 = .ok (.aload_n 0, 1) := by decide +kernel
theorem dX1_letKeepersAct_72 : decode cX1_letKeepersAct 72 = .ok (.invokevirtual 130, 3) := by decide +kernel
theorem dX1_letKeepersAct_75 : decode cX1_letKeepersAct 75 = .ok (.iload_n 2, 1) := by decide +kernel
theorem dX1_letKeepersAct_76 : decode cX1_letKeepersAct 76 = .ok (.iconst (-1), 1) := by decide +kernel
theorem dX1_letKeepersAct_77 : decode cX1_letKeepersAct 77 = .ok (.ixor, 1) := by decide +kernel
theorem dX1_letKeepersAct_78 : decode cX1_letKeepersAct 78 = .ok (.iand, 1) := by decide +kernel
theorem dX1_letKeepersAct_79 : decode cX1_letKeepersAct 79 = .ok (.aload_n 0, 1) := by decide +kernel
theorem dX1_letKeepersAct_80 : decode cX1_letKeepersAct 80 = .ok (.getfield 40, 3) := by decide +kernel
theorem dX1_letKeepersAct_83 : decode cX1_letKeepersAct 83 = .ok (.iload_n 3, 1) := by decide +kernel
theorem dX1_letKeepersAct_84 : decode cX1_letKeepersAct 84 = .ok (.iaload, 1) := by decide +kernel
theorem dX1_letKeepersAct_85 : decode cX1_letKeepersAct 85 = .ok (.invokestatic 126, 3) := by decide +kernel
theorem dX1_letKeepersAct_88 : decode cX1_letKeepersAct 88 = .ok (.istore 4, 2) := by decide +kernel
theorem dX1_letKeepersAct_90 : decode cX1_letKeepersAct 90 = .ok (.iload 4, 2) := by decide +kernel
theorem dX1_letKeepersAct_92 : decode cX1_letKeepersAct 92 = .ok (.bipush (-6), 2) := by decide +kernel
theorem dX1_letKeepersAct_94 : decode cX1_letKeepersAct 94 = .ok (.if_icmp .ne 6, 3) := by decide +kernel
theorem dX1_letKeepersAct_97 : decode cX1_letKeepersAct 97 = .ok (.goto 67, 3) := by decide +kernel
theorem dX1_letKeepersAct_100 : decode cX1_letKeepersAct 100 = .ok (.iload_n 2, 1) := by decide +kernel
theorem dX1_letKeepersAct_101 : decode cX1_letKeepersAct 101 = .ok (.iconst 1, 1) := by decide +kernel
theorem dX1_letKeepersAct_102 : decode cX1_letKeepersAct 102 = .ok (.iload 4, 2) := by decide +kernel
theorem dX1_letKeepersAct_104 : decode cX1_letKeepersAct 104 = .ok (.ishl, 1) := by decide +kernel
theorem dX1_letKeepersAct_105 : decode cX1_letKeepersAct 105 = .ok (.ior, 1) := by decide +kernel
theorem dX1_letKeepersAct_106 : decode cX1_letKeepersAct 106 = .ok (.istore_n 2, 1) := by decide +kernel
theorem dX1_letKeepersAct_107 : decode cX1_letKeepersAct 107 = .ok (.aload_n 0, 1) := by decide +kernel
theorem dX1_letKeepersAct_108 : decode cX1_letKeepersAct 108 = .ok (.getfield 40, 3) := by decide +kernel
theorem dX1_letKeepersAct_111 : decode cX1_letKeepersAct 111 = .ok (.iload_n 3, 1) := by decide +kernel
theorem dX1_letKeepersAct_112 : decode cX1_letKeepersAct 112 = .ok (.iaload, 1) := by decide +kernel
theorem dX1_letKeepersAct_113 : decode cX1_letKeepersAct 113 = .ok (.iload 4, 2) := by decide +kernel
theorem dX1_letKeepersAct_115 : decode cX1_letKeepersAct 115 = .ok (.if_icmp .eq 13, 3) := by decide +kernel
theorem dX1_letKeepersAct_118 : decode cX1_letKeepersAct 118 = .ok (.aload_n 0, 1) := by decide +kernel
theorem dX1_letKeepersAct_119 : decode cX1_letKeepersAct 119 = .ok (.iload_n 3, 1) := by decide +kernel
theorem dX1_letKeepersAct_120 : decode cX1_letKeepersAct 120 = .ok (.iload 4, 2) := by decide +kernel
theorem dX1_letKeepersAct_122 : decode cX1_letKeepersAct 122 = .ok (.invokevirtual 134, 3) := by decide +kernel
theorem dX1_letKeepersAct_125 : decode cX1_letKeepersAct 125 = .ok (.goto 39, 3) := by decide +kernel
theorem dX1_letKeepersAct_128 : decode cX1_letKeepersAct 128 = .ok (.iload 5, 2) := by decide +kernel
theorem dX1_letKeepersAct_130 : decode cX1_letKeepersAct 130 = .ok (.ifCond .eq 13, 3) := by decide +kernel
theorem dX1_letKeepersAct_133 : decode cX1_letKeepersAct 133 = .ok (.aload_n 0, 1) := by decide +kernel
theorem dX1_letKeepersAct_134 : decode cX1_letKeepersAct 134 = .ok (.iload_n 3, 1) := by decide +kernel
theorem dX1_letKeepersAct_135 : decode cX1_letKeepersAct 135 = .ok (.iload 4, 2) := by decide +kernel
theorem dX1_letKeepersAct_137 : decode cX1_letKeepersAct 137 = .ok (.invokevirtual 138, 3) := by decide +kernel
theorem dX1_letKeepersAct_140 : decode cX1_letKeepersAct 140 = .ok (.goto 24, 3) := by decide +kernel
theorem dX1_letKeepersAct_143 : decode cX1_letKeepersAct 143 = .ok (.iload_n 1, 1) := by decide +kernel
theorem dX1_letKeepersAct_144 : decode cX1_letKeepersAct 144 = .ok (.ifCond .eq 13, 3) := by decide +kernel
theorem dX1_letKeepersAct_147 : decode cX1_letKeepersAct 147 = .ok (.aload_n 0, 1) := by decide +kernel
theorem dX1_letKeepersAct_148 : decode cX1_letKeepersAct 148 = .ok (.iload_n 3, 1) := by decide +kernel
theorem dX1_letKeepersAct_149 : decode cX1_letKeepersAct 149 = .ok (.iload 4, 2) := by decide +kernel
theorem dX1_letKeepersAct_151 : decode cX1_letKeepersAct 151 = .ok (.invokevirtual 141, 3) := by decide +kernel
theorem dX1_letKeepersAct_154 : decode cX1_letKeepersAct 154 = .ok (.goto 10, 3) := by decide +kernel
theorem dX1_letKeepersAct_157 : decode cX1_letKeepersAct 157 = .ok (.aload_n 0, 1) := by decide +kernel
theorem dX1_letKeepersAct_158 : decode cX1_letKeepersAct 158 = .ok (.iload_n 3, 1) := by decide +kernel
theorem dX1_letKeepersAct_159 : decode cX1_letKeepersAct 159 = .ok (.iload 4, 2) := by decide +kernel
theorem dX1_letKeepersAct_161 : decode cX1_letKeepersAct 161 = .ok (.invokevirtual 144, 3) := by decide +kernel
theorem dX1_letKeepersAct_164 : decode cX1_letKeepersAct 164 = .ok (.iinc 3 1, 3) := by decide +kernel
theorem dX1_letKeepersAct_167 : decode cX1_letKeepersAct 167 = .ok (.goto (-158), 3) := by decide +kernel
theorem dX1_letKeepersAct_170 : decode cX1_letKeepersAct 170 = .ok (.return_, 1) := by decide +kernel
set_option maxRecDepth 20000 in
theorem ggX1_nearest_X2_has : GoodIn wsX1_nearest wsX2_has := goodIn_r _ [3] (by decide +kernel) (by decide +kernel)
set_option maxRecDepth 20000 in
theorem gX1_nearest_X2_has_n87 : GoodIn wsX1_nearest (wsX2_has) := ggX1_nearest_X2_has
theorem dX1_nearest_0 : decode cX1_nearest 0 = .ok (.iload_n 0, 1) := by decide +kernel
theorem dX1_nearest_1 : decode cX1_nearest 1 = .ok (.ifCond .ne 6, 3) := by decide +kernel
theorem dX1_nearest_4 : decode cX1_nearest 4 = .ok (.bipush (-6), 2) := by decide +kernel
theorem dX1_nearest_6 : decode cX1_nearest 6 = .ok (.ireturn, 1) := by decide +kernel
theorem dX1_nearest_7 : decode cX1_nearest 7 = .ok (.iconst 0, 1) := by decide +kernel
theorem dX1_nearest_8 : decode cX1_nearest 8 = .ok (.istore_n 2, 1) := by decide +kernel
theorem dX1_nearest_9 : decode cX1_nearest 9 = .ok (.iload_n 2, 1) := by decide +kernel
theorem dX1_nearest_10 : decode cX1_nearest 10 = .ok (.bipush 12, 2) := by decide +kernel
theorem dX1_nearest_12 : decode cX1_nearest 12 = .ok (.if_icmp .ge 37, 3) := by decide +kernel
theorem dX1_nearest_15 : decode cX1_nearest 15 = .ok (.iload_n 0, 1) := by decide +kernel
theorem dX1_nearest_16 : decode cX1_nearest 16 = .ok (.iload_n 1, 1) := by decide +kernel
theorem dX1_nearest_17 : decode cX1_nearest 17 = .ok (.iload_n 2, 1) := by decide +kernel
theorem dX1_nearest_18 : decode cX1_nearest 18 = .ok (.isub, 1) := by decide +kernel
theorem dX1_nearest_19 : decode cX1_nearest 19 = .ok (.invokestatic 87, 3) := by decide +kernel
theorem dX1_nearest_22 : decode cX1_nearest 22 = .ok (.ifCond .eq 7, 3) := by decide +kernel
theorem dX1_nearest_25 : decode cX1_nearest 25 = .ok (.iload_n 1, 1) := by decide +kernel
theorem dX1_nearest_26 : decode cX1_nearest 26 = .ok (.iload_n 2, 1) := by decide +kernel
theorem dX1_nearest_27 : decode cX1_nearest 27 = .ok (.isub, 1) := by decide +kernel
theorem dX1_nearest_28 : decode cX1_nearest 28 = .ok (.ireturn, 1) := by decide +kernel
theorem dX1_nearest_29 : decode cX1_nearest 29 = .ok (.iload_n 0, 1) := by decide +kernel
theorem dX1_nearest_30 : decode cX1_nearest 30 = .ok (.iload_n 1, 1) := by decide +kernel
theorem dX1_nearest_31 : decode cX1_nearest 31 = .ok (.iload_n 2, 1) := by decide +kernel
theorem dX1_nearest_32 : decode cX1_nearest 32 = .ok (.iadd, 1) := by decide +kernel
theorem dX1_nearest_33 : decode cX1_nearest 33 = .ok (.invokestatic 87, 3) := by decide +kernel
theorem dX1_nearest_36 : decode cX1_nearest 36 = .ok (.ifCond .eq 7, 3) := by decide +kernel
theorem dX1_nearest_39 : decode cX1_nearest 39 = .ok (.iload_n 1, 1) := by decide +kernel
theorem dX1_nearest_40 : decode cX1_nearest 40 = .ok (.iload_n 2, 1) := by decide +kernel
theorem dX1_nearest_41 : decode cX1_nearest 41 = .ok (.iadd, 1) := by decide +kernel
theorem dX1_nearest_42 : decode cX1_nearest 42 = .ok (.ireturn, 1) := by decide +kernel
theorem dX1_nearest_43 : decode cX1_nearest 43 = .ok (.iinc 2 1, 3) := by decide +kernel
theorem dX1_nearest_46 : decode cX1_nearest 46 = .ok (.goto (-37), 3) := by decide +kernel
theorem dX1_nearest_49 : decode cX1_nearest 49 = .ok (.bipush (-6), 2) := by decide +kernel
theorem dX1_nearest_51 : decode cX1_nearest 51 = .ok (.ireturn, 1) := by decide +kernel
set_option maxRecDepth 20000 in
theorem ggX1_outOfTune_X1_openOnes : GoodIn wsX1_outOfTune wsX1_openOnes := goodIn_r _ [7, 8, 9, 13, 14, 15, 16, 17, 18, 19, 20, 21, 22, 23, 24, 25, 26, 27, 28, 29, 30] (by decide +kernel) (by decide +kernel)
set_option maxRecDepth 20000 in
theorem gX1_outOfTune_X1_openOnes : GoodIn wsX1_outOfTune (wsV RX1 147 RX1 yX1_openOnes wsX1_openOnes) := goodIn_app (goodIn_of _ (by decide +kernel)) ggX1_outOfTune_X1_openOnes
set_option maxRecDepth 20000 in
theorem ggX1_outOfTune_X2_has : GoodIn wsX1_outOfTune wsX2_has := goodIn_r _ [12] (by decide +kernel) (by decide +kernel)
set_option maxRecDepth 20000 in
theorem gX1_outOfTune_X2_has_n87 : GoodIn wsX1_outOfTune (wsX2_has) := ggX1_outOfTune_X2_has
theorem dX1_outOfTune_0 : decode cX1_outOfTune 0 = .ok (.iconst 0, 1) := by decide +kernel
theorem dX1_outOfTune_1 : decode cX1_outOfTune 1 = .ok (.istore_n 1, 1) := by decide +kernel
theorem dX1_outOfTune_2 : decode cX1_outOfTune 2 = .ok (.iconst 0, 1) := by decide +kernel
theorem dX1_outOfTune_3 : decode cX1_outOfTune 3 = .ok (.istore_n 2, 1) := by decide +kernel
theorem dX1_outOfTune_4 : decode cX1_outOfTune 4 = .ok (.iload_n 2, 1) := by decide +kernel
theorem dX1_outOfTune_5 : decode cX1_outOfTune 5 = .ok (.bipush 12, 2) := by decide +kernel
theorem dX1_outOfTune_7 : decode cX1_outOfTune 7 = .ok (.if_icmp .ge 41, 3) := by decide +kernel
theorem dX1_outOfTune_10 : decode cX1_outOfTune 10 = .ok (.aload_n 0, 1) := by decide +kernel
theorem dX1_outOfTune_11 : decode cX1_outOfTune 11 = .ok (.invokevirtual 147, 3) := by decide +kernel
theorem dX1_outOfTune_14 : decode cX1_outOfTune 14 = .ok (.iload_n 2, 1) := by decide +kernel
theorem dX1_outOfTune_15 : decode cX1_outOfTune 15 = .ok (.invokestatic 87, 3) := by decide +kernel
theorem dX1_outOfTune_18 : decode cX1_outOfTune 18 = .ok (.ifCond .eq 24, 3) := by decide +kernel
theorem dX1_outOfTune_21 : decode cX1_outOfTune 21 = .ok (.aload_n 0, 1) := by decide +kernel
theorem dX1_outOfTune_22 : decode cX1_outOfTune 22 = .ok (.getfield 25, 3) := by decide +kernel
theorem dX1_outOfTune_25 : decode cX1_outOfTune 25 = .ok (.iload_n 2, 1) := by decide +kernel
theorem dX1_outOfTune_26 : decode cX1_outOfTune 26 = .ok (.iaload, 1) := by decide +kernel
theorem dX1_outOfTune_27 : decode cX1_outOfTune 27 = .ok (.aload_n 0, 1) := by decide +kernel
theorem dX1_outOfTune_28 : decode cX1_outOfTune 28 = .ok (.getfield 9, 3) := by decide +kernel
theorem dX1_outOfTune_31 : decode cX1_outOfTune 31 = .ok (.iconst 5, 1) := by decide +kernel
theorem dX1_outOfTune_32 : decode cX1_outOfTune 32 = .ok (.iaload, 1) := by decide +kernel
theorem dX1_outOfTune_33 : decode cX1_outOfTune 33 = .ok (.if_icmp .ge 9, 3) := by decide +kernel
theorem dX1_outOfTune_36 : decode cX1_outOfTune 36 = .ok (.iload_n 1, 1) := by decide +kernel
theorem dX1_outOfTune_37 : decode cX1_outOfTune 37 = .ok (.iconst 1, 1) := by decide +kernel
theorem dX1_outOfTune_38 : decode cX1_outOfTune 38 = .ok (.iload_n 2, 1) := by decide +kernel
theorem dX1_outOfTune_39 : decode cX1_outOfTune 39 = .ok (.ishl, 1) := by decide +kernel
theorem dX1_outOfTune_40 : decode cX1_outOfTune 40 = .ok (.ior, 1) := by decide +kernel
theorem dX1_outOfTune_41 : decode cX1_outOfTune 41 = .ok (.istore_n 1, 1) := by decide +kernel
theorem dX1_outOfTune_42 : decode cX1_outOfTune 42 = .ok (.iinc 2 1, 3) := by decide +kernel
theorem dX1_outOfTune_45 : decode cX1_outOfTune 45 = .ok (.goto (-41), 3) := by decide +kernel
theorem dX1_outOfTune_48 : decode cX1_outOfTune 48 = .ok (.iload_n 1, 1) := by decide +kernel
theorem dX1_outOfTune_49 : decode cX1_outOfTune 49 = .ok (.ireturn, 1) := by decide +kernel
theorem dX1_openOnes_0 : decode cX1_openOnes 0 = .ok (.aload_n 0, 1) := by decide +kernel
theorem dX1_openOnes_1 : decode cX1_openOnes 1 = .ok (.getfield 15, 3) := by decide +kernel
theorem dX1_openOnes_4 : decode cX1_openOnes 4 = .ok (.aload_n 0, 1) := by decide +kernel
theorem dX1_openOnes_5 : decode cX1_openOnes 5 = .ok (.getfield 22, 3) := by decide +kernel
theorem dX1_openOnes_8 : decode cX1_openOnes 8 = .ok (.iconst (-1), 1) := by decide +kernel
theorem dX1_openOnes_9 : decode cX1_openOnes 9 = .ok (.ixor, 1) := by decide +kernel
theorem dX1_openOnes_10 : decode cX1_openOnes 10 = .ok (.iand, 1) := by decide +kernel
theorem dX1_openOnes_11 : decode cX1_openOnes 11 = .ok (.ireturn, 1) := by decide +kernel
theorem dX1_goTowards_0 : decode cX1_goTowards 0 = .ok (.aload_n 0, 1) := by decide +kernel
theorem dX1_goTowards_1 : decode cX1_goTowards 1 = .ok (.getfield 40, 3) := by decide +kernel
theorem dX1_goTowards_4 : decode cX1_goTowards 4 = .ok (.iload_n 1, 1) := by decide +kernel
theorem dX1_goTowards_5 : decode cX1_goTowards 5 = .ok (.dup2, 1) := by decide +kernel
theorem dX1_goTowards_6 : decode cX1_goTowards 6 = .ok (.iaload, 1) := by decide +kernel
theorem dX1_goTowards_7 : decode cX1_goTowards 7 = .ok (.aload_n 0, 1) := by decide +kernel
theorem dX1_goTowards_8 : decode cX1_goTowards 8 = .ok (.getfield 40, 3) := by decide +kernel
theorem dX1_goTowards_11 : decode cX1_goTowards 11 = .ok (.iload_n 1, 1) := by decide +kernel
theorem dX1_goTowards_12 : decode cX1_goTowards 12 = .ok (.iaload, 1) := by decide +kernel
theorem dX1_goTowards_13 : decode cX1_goTowards 13 = .ok (.iload_n 2, 1) := by decide +kernel
theorem dX1_goTowards_14 : decode cX1_goTowards 14 = .ok (.if_icmp .ge 7, 3) := by decide +kernel
theorem dX1_goTowards_17 : decode cX1_goTowards 17 = .ok (.iconst 1, 1) := by decide +kernel
theorem dX1_goTowards_18 : decode cX1_goTowards 18 = .ok (.goto 4, 3) := by decide +kernel
theorem dX1_goTowards_21 : decode cX1_goTowards 21 = .ok (.iconst (-1), 1) := by decide +kernel
theorem dX1_goTowards_22 : decode cX1_goTowards 22 = .ok (.iadd, 1) := by decide +kernel
theorem dX1_goTowards_23 : decode cX1_goTowards 23 = .ok (.iastore, 1) := by decide +kernel
theorem dX1_goTowards_24 : decode cX1_goTowards 24 = .ok (.aload_n 0, 1) := by decide +kernel
theorem dX1_goTowards_25 : decode cX1_goTowards 25 = .ok (.getfield 52, 3) := by decide +kernel
theorem dX1_goTowards_28 : decode cX1_goTowards 28 = .ok (.iload_n 1, 1) := by decide +kernel
theorem dX1_goTowards_29 : decode cX1_goTowards 29 = .ok (.dup2, 1) := by decide +kernel
theorem dX1_goTowards_30 : decode cX1_goTowards 30 = .ok (.iaload, 1) := by decide +kernel
theorem dX1_goTowards_31 : decode cX1_goTowards 31 = .ok (.iconst 1, 1) := by decide +kernel
theorem dX1_goTowards_32 : decode cX1_goTowards 32 = .ok (.iadd, 1) := by decide +kernel
theorem dX1_goTowards_33 : decode cX1_goTowards 33 = .ok (.iastore, 1) := by decide +kernel
theorem dX1_goTowards_34 : decode cX1_goTowards 34 = .ok (.return_, 1) := by decide +kernel
theorem dX1_tune_0 : decode cX1_tune 0 = .ok (.aload_n 0, 1) := by decide +kernel
theorem dX1_tune_1 : decode cX1_tune 1 = .ok (.getfield 25, 3) := by decide +kernel
theorem dX1_tune_4 : decode cX1_tune 4 = .ok (.iload_n 2, 1) := by decide +kernel
theorem dX1_tune_5 : decode cX1_tune 5 = .ok (.bipush 100, 2) := by decide +kernel
theorem dX1_tune_7 : decode cX1_tune 7 = .ok (.aload_n 0, 1) := by decide +kernel
theorem dX1_tune_8 : decode cX1_tune 8 = .ok (.getfield 25, 3) := by decide +kernel
theorem dX1_tune_11 : decode cX1_tune 11 = .ok (.iload_n 2, 1) := by decide +kernel
theorem dX1_tune_12 : decode cX1_tune 12 = .ok (.iaload, 1) := by decide +kernel
theorem dX1_tune_13 : decode cX1_tune 13 = .ok (.bipush 10, 2) := by decide +kernel
theorem dX1_tune_15 : decode cX1_tune 15 = .ok (.iadd, 1) := by decide +kernel
theorem dX1_tune_16 : decode cX1_tune 16 = .ok (.invokestatic 150, 3) := by decide +kernel
theorem dX1_tune_19 : decode cX1_tune 19 = .ok (.iastore, 1) := by decide +kernel
theorem dX1_tune_20 : decode cX1_tune 20 = .ok (.aload_n 0, 1) := by decide +kernel
theorem dX1_tune_21 : decode cX1_tune 21 = .ok (.getfield 49, 3) := by decide +kernel
theorem dX1_tune_24 : decode cX1_tune 24 = .ok (.iload_n 1, 1) := by decide +kernel
theorem dX1_tune_25 : decode cX1_tune 25 = .ok (.dup2, 1) := by decide +kernel
theorem dX1_tune_26 : decode cX1_tune 26 = .ok (.iaload, 1) := by decide +kernel
theorem dX1_tune_27 : decode cX1_tune 27 = .ok (.iconst 1, 1) := by decide +kernel
theorem dX1_tune_28 : decode cX1_tune 28 = .ok (.iadd, 1) := by decide +kernel
theorem dX1_tune_29 : decode cX1_tune 29 = .ok (.iastore, 1) := by decide +kernel
theorem dX1_tune_30 : decode cX1_tune 30 = .ok (.return_, 1) := by decide +kernel
theorem dX1_putCoverOn_0 : decode cX1_putCoverOn 0 = .ok (.aload_n 0, 1) := by decide +kernel
theorem dX1_putCoverOn_1 : decode cX1_putCoverOn 1 = .ok (.dup, 1) := by decide +kernel
theorem dX1_putCoverOn_2 : decode cX1_putCoverOn 2 = .ok (.getfield 19, 3) := by decide +kernel
theorem dX1_putCoverOn_5 : decode cX1_putCoverOn 5 = .ok (.iconst 1, 1) := by decide +kernel
theorem dX1_putCoverOn_6 : decode cX1_putCoverOn 6 = .ok (.iload_n 2, 1) := by decide +kernel
theorem dX1_putCoverOn_7 : decode cX1_putCoverOn 7 = .ok (.ishl, 1) := by decide +kernel
theorem dX1_putCoverOn_8 : decode cX1_putCoverOn 8 = .ok (.iconst (-1), 1) := by decide +kernel
theorem dX1_putCoverOn_9 : decode cX1_putCoverOn 9 = .ok (.ixor, 1) := by decide +kernel
theorem dX1_putCoverOn_10 : decode cX1_putCoverOn 10 = .ok (.iand, 1) := by decide +kernel
theorem dX1_putCoverOn_11 : decode cX1_putCoverOn 11 = .ok (.putfield 19, 3) := by decide +kernel
theorem dX1_putCoverOn_14 : decode cX1_putCoverOn 14 = .ok (.aload_n 0, 1) := by decide +kernel
theorem dX1_putCoverOn_15 : decode cX1_putCoverOn 15 = .ok (.dup, 1) := by decide +kernel
theorem dX1_putCoverOn_16 : decode cX1_putCoverOn 16 = .ok (.getfield 22, 3) := by decide +kernel
theorem dX1_putCoverOn_19 : decode cX1_putCoverOn 19 = .ok (.iconst 1, 1) := by decide +kernel
theorem dX1_putCoverOn_20 : decode cX1_putCoverOn 20 = .ok (.iload_n 2, 1) := by decide +kernel
theorem dX1_putCoverOn_21 : decode cX1_putCoverOn 21 = .ok (.ishl, 1) := by decide +kernel
theorem dX1_putCoverOn_22 : decode cX1_putCoverOn 22 = .ok (.ior, 1) := by decide +kernel
theorem dX1_putCoverOn_23 : decode cX1_putCoverOn 23 = .ok (.putfield 22, 3) := by decide +kernel
theorem dX1_putCoverOn_26 : decode cX1_putCoverOn 26 = .ok (.aload_n 0, 1) := by decide +kernel
theorem dX1_putCoverOn_27 : decode cX1_putCoverOn 27 = .ok (.getfield 43, 3) := by decide +kernel
theorem dX1_putCoverOn_30 : decode cX1_putCoverOn 30 = .ok (.iload_n 1, 1) := by decide +kernel
theorem dX1_putCoverOn_31 : decode cX1_putCoverOn 31 = .ok (.dup2, 1) := by decide +kernel
theorem dX1_putCoverOn_32 : decode cX1_putCoverOn 32 = .ok (.iaload, 1) := by decide +kernel
theorem dX1_putCoverOn_33 : decode cX1_putCoverOn 33 = .ok (.iconst 1, 1) := by decide +kernel
theorem dX1_putCoverOn_34 : decode cX1_putCoverOn 34 = .ok (.iadd, 1) := by decide +kernel
theorem dX1_putCoverOn_35 : decode cX1_putCoverOn 35 = .ok (.iastore, 1) := by decide +kernel
theorem dX1_putCoverOn_36 : decode cX1_putCoverOn 36 = .ok (.return_, 1) := by decide +kernel
theorem dX1_takeCoverOff_0 : decode cX1_takeCoverOff 0 = .ok (.aload_n 0, 1) := by decide +kernel
theorem dX1_takeCoverOff_1 : decode cX1_takeCoverOff 1 = .ok (.dup, 1) := by decide +kernel
theorem dX1_takeCoverOff_2 : decode cX1_takeCoverOff 2 = .ok (.getfield 22, 3) := by decide +kernel
theorem dX1_takeCoverOff_5 : decode cX1_takeCoverOff 5 = .ok (.iconst 1, 1) := by decide +kernel
theorem dX1_takeCoverOff_6 : decode cX1_takeCoverOff 6 = .ok (.iload_n 2, 1) := by decide +kernel
theorem dX1_takeCoverOff_7 : decode cX1_takeCoverOff 7 = .ok (.ishl, 1) := by decide +kernel
theorem dX1_takeCoverOff_8 : decode cX1_takeCoverOff 8 = .ok (.iconst (-1), 1) := by decide +kernel
theorem dX1_takeCoverOff_9 : decode cX1_takeCoverOff 9 = .ok (.ixor, 1) := by decide +kernel
theorem dX1_takeCoverOff_10 : decode cX1_takeCoverOff 10 = .ok (.iand, 1) := by decide +kernel
theorem dX1_takeCoverOff_11 : decode cX1_takeCoverOff 11 = .ok (.putfield 22, 3) := by decide +kernel
theorem dX1_takeCoverOff_14 : decode cX1_takeCoverOff 14 = .ok (.aload_n 0, 1) := by decide +kernel
theorem dX1_takeCoverOff_15 : decode cX1_takeCoverOff 15 = .ok (.dup, 1) := by decide +kernel
theorem dX1_takeCoverOff_16 : decode cX1_takeCoverOff 16 = .ok (.getfield 19, 3) := by decide +kernel
theorem dX1_takeCoverOff_19 : decode cX1_takeCoverOff 19 = .ok (.iconst 1, 1) := by decide +kernel
theorem dX1_takeCoverOff_20 : decode cX1_takeCoverOff 20 = .ok (.iload_n 2, 1) := by decide +kernel
theorem dX1_takeCoverOff_21 : decode cX1_takeCoverOff 21 = .ok (.ishl, 1) := by decide +kernel
theorem dX1_takeCoverOff_22 : decode cX1_takeCoverOff 22 = .ok (.ior, 1) := by decide +kernel
theorem dX1_takeCoverOff_23 : decode cX1_takeCoverOff 23 = .ok (.putfield 19, 3) := by decide +kernel
theorem dX1_takeCoverOff_26 : decode cX1_takeCoverOff 26 = .ok (.aload_n 0, 1) := by decide +kernel
theorem dX1_takeCoverOff_27 : decode cX1_takeCoverOff 27 = .ok (.getfield 46, 3) := by decide +kernel
theorem dX1_takeCoverOff_30 : decode cX1_takeCoverOff 30 = .ok (.iload_n 1, 1) := by decide +kernel
theorem dX1_takeCoverOff_31 : decode cX1_takeCoverOff 31 = .ok (.dup2, 1) := by decide +kernel
theorem dX1_takeCoverOff_32 : decode cX1_takeCoverOff 32 = .ok (.iaload, 1) := by decide +kernel
theorem dX1_takeCoverOff_33 : decode cX1_takeCoverOff 33 = .ok (.iconst 1, 1) := by decide +kernel
theorem dX1_takeCoverOff_34 : decode cX1_takeCoverOff 34 = .ok (.iadd, 1) := by decide +kernel
theorem dX1_takeCoverOff_35 : decode cX1_takeCoverOff 35 = .ok (.iastore, 1) := by decide +kernel
theorem dX1_takeCoverOff_36 : decode cX1_takeCoverOff 36 = .ok (.return_, 1) := by decide +kernel
set_option maxRecDepth 20000 in
theorem ggX1_letRainFall_X1_openOnes : GoodIn wsX1_letRainFall wsX1_openOnes := goodIn_r _ [16, 17, 18, 22, 23, 24, 25, 26, 27, 28, 29, 30, 31, 32, 33, 34, 35, 36, 37, 38, 39] (by decide +kernel) (by decide +kernel)
set_option maxRecDepth 20000 in
theorem gX1_letRainFall_X1_openOnes : GoodIn wsX1_letRainFall (wsV RX1 147 RX1 yX1_openOnes wsX1_openOnes) := goodIn_app (goodIn_of _ (by decide +kernel)) ggX1_letRainFall_X1_openOnes
set_option maxRecDepth 20000 in
theorem ggX1_letRainFall_X2_has : GoodIn wsX1_letRainFall wsX2_has := goodIn_r _ [21] (by decide +kernel) (by decide +kernel)
set_option maxRecDepth 20000 in
theorem gX1_letRainFall_X2_has_n87 : GoodIn wsX1_letRainFall (wsX2_has) := ggX1_letRainFall_X2_has
theorem dX1_letRainFall_0 : decode cX1_letRainFall 0 = .ok (.iconst 0, 1) := by decide +kernel
theorem dX1_letRainFall_1 : decode cX1_letRainFall 1 = .ok (.istore_n 1, 1) := by decide +kernel
theorem dX1_letRainFall_2 : decode cX1_letRainFall 2 = .ok (.iload_n 1, 1) := by decide +kernel
theorem dX1_letRainFall_3 : decode cX1_letRainFall 3 = .ok (.bipush 12, 2) := by decide +kernel
theorem dX1_letRainFall_5 : decode cX1_letRainFall 5 = .ok (.if_icmp .ge 77, 3) := by decide +kernel
theorem dX1_letRainFall_8 : decode cX1_letRainFall 8 = .ok (.aload_n 0, 1) := by decide +kernel
theorem dX1_letRainFall_9 : decode cX1_letRainFall 9 = .ok (.invokevirtual 147, 3) := by decide +kernel
theorem dX1_letRainFall_12 : decode cX1_letRainFall 12 = .ok (.iload_n 1, 1) := by decide +kernel
theorem dX1_letRainFall_13 : decode cX1_letRainFall 13 = .ok (.invokestatic 87, 3) := by decide +kernel
theorem dX1_letRainFall_16 : decode cX1_letRainFall 16 = .ok (.ifCond .eq 60, 3) := by decide +kernel
theorem dX1_letRainFall_19 : decode cX1_letRainFall 19 = .ok (.aload_n 0, 1) := by decide +kernel
theorem dX1_letRainFall_20 : decode cX1_letRainFall 20 = .ok (.getfield 28, 3) := by decide +kernel
theorem dX1_letRainFall_23 : decode cX1_letRainFall 23 = .ok (.iload_n 1, 1) := by decide +kernel
theorem dX1_letRainFall_24 : decode cX1_letRainFall 24 = .ok (.bipush 100, 2) := by decide +kernel
theorem dX1_letRainFall_26 : decode cX1_letRainFall 26 = .ok (.aload_n 0, 1) := by decide +kernel
theorem dX1_letRainFall_27 : decode cX1_letRainFall 27 = .ok (.getfield 28, 3) := by decide +kernel
theorem dX1_letRainFall_30 : decode cX1_letRainFall 30 = .ok (.iload_n 1, 1) := by decide +kernel
theorem dX1_letRainFall_31 : decode cX1_letRainFall 31 = .ok (.iaload, 1) := by decide +kernel
theorem dX1_letRainFall_32 : decode cX1_letRainFall 32 = .ok (.aload_n 0, 1) := by decide +kernel
theorem dX1_letRainFall_33 : decode cX1_letRainFall 33 = .ok (.getfield 9, 3) := by decide +kernel
theorem dX1_letRainFall_36 : decode cX1_letRainFall 36 = .ok (.iconst 1, 1) := by decide +kernel
theorem dX1_letRainFall_37 : decode cX1_letRainFall 37 = .ok (.iaload, 1) := by decide +kernel
theorem dX1_letRainFall_38 : decode cX1_letRainFall 38 = .ok (.iadd, 1) := by decide +kernel
theorem dX1_letRainFall_39 : decode cX1_letRainFall 39 = .ok (.invokestatic 150, 3) := by decide +kernel
theorem dX1_letRainFall_42 : decode cX1_letRainFall 42 = .ok (.iastore, 1) := by decide +kernel
theorem dX1_letRainFall_43 : decode cX1_letRainFall 43 = .ok (.aload_n 0, 1) := by decide +kernel
theorem dX1_letRainFall_44 : decode cX1_letRainFall 44 = .ok (.getfield 25, 3) := by decide +kernel
theorem dX1_letRainFall_47 : decode cX1_letRainFall 47 = .ok (.iload_n 1, 1) := by decide +kernel
theorem dX1_letRainFall_48 : decode cX1_letRainFall 48 = .ok (.iconst 0, 1) := by decide +kernel
theorem dX1_letRainFall_49 : decode cX1_letRainFall 49 = .ok (.aload_n 0, 1) := by decide +kernel
theorem dX1_letRainFall_50 : decode cX1_letRainFall 50 = .ok (.getfield 25, 3) := by decide +kernel
theorem dX1_letRainFall_53 : decode cX1_letRainFall 53 = .ok (.iload_n 1, 1) := by decide +kernel
theorem dX1_letRainFall_54 : decode cX1_letRainFall 54 = .ok (.iaload, 1) := by decide +kernel
theorem dX1_letRainFall_55 : decode cX1_letRainFall 55 = .ok (.aload_n 0, 1) := by decide +kernel
theorem dX1_letRainFall_56 : decode cX1_letRainFall 56 = .ok (.getfield 9, 3) := by decide +kernel
theorem dX1_letRainFall_59 : decode cX1_letRainFall 59 = .ok (.iconst 3, 1) := by decide +kernel
theorem dX1_letRainFall_60 : decode cX1_letRainFall 60 = .ok (.iaload, 1) := by decide +kernel
theorem dX1_letRainFall_61 : decode cX1_letRainFall 61 = .ok (.isub, 1) := by decide +kernel
theorem dX1_letRainFall_62 : decode cX1_letRainFall 62 = .ok (.invokestatic 155, 3) := by decide +kernel
theorem dX1_letRainFall_65 : decode cX1_letRainFall 65 = .ok (.iastore, 1) := by decide +kernel
theorem dX1_letRainFall_66 : decode cX1_letRainFall 66 = .ok (.aload_n 0, 1) := by decide +kernel
theorem dX1_letRainFall_67 : decode cX1_letRainFall 67 = .ok (.getfield 34, 3) := by decide +kernel
theorem dX1_letRainFall_70 : decode cX1_letRainFall 70 = .ok (.iload_n 1, 1) := by decide +kernel
theorem dX1_letRainFall_71 : decode cX1_letRainFall 71 = .ok (.dup2, 1) := by decide +kernel
theorem dX1_letRainFall_72 : decode cX1_letRainFall 72 = .ok (.iaload, 1) := by decide +kernel
theorem dX1_letRainFall_73 : decode cX1_letRainFall 73 = .ok (.iconst 1, 1) := by decide +kernel
theorem dX1_letRainFall_74 : decode cX1_letRainFall 74 = .ok (.iadd, 1) := by decide +kernel
theorem dX1_letRainFall_75 : decode cX1_letRainFall 75 = .ok (.iastore, 1) := by decide +kernel
theorem dX1_letRainFall_76 : decode cX1_letRainFall 76 = .ok (.iinc 1 1, 3) := by decide +kernel
theorem dX1_letRainFall_79 : decode cX1_letRainFall 79 = .ok (.goto (-77), 3) := by decide +kernel
theorem dX1_letRainFall_82 : decode cX1_letRainFall 82 = .ok (.return_, 1) := by decide +kernel
set_option maxRecDepth 20000 in
theorem ggX1_letPianosDry_X1_openOnes : GoodIn wsX1_letPianosDry wsX1_openOnes := goodIn_r _ [11, 12, 13, 17, 18, 19, 20, 21, 22, 23, 24, 25, 26, 27, 28, 29, 30, 31, 32, 33, 34] (by decide +kernel) (by decide +kernel)
set_option maxRecDepth 20000 in
theorem gX1_letPianosDry_X1_openOnes : GoodIn wsX1_letPianosDry (wsV RX1 147 RX1 yX1_openOnes wsX1_openOnes) := goodIn_app (goodIn_of _ (by decide +kernel)) ggX1_letPianosDry_X1_openOnes
set_option maxRecDepth 20000 in
theorem ggX1_letPianosDry_X2_has : GoodIn wsX1_letPianosDry wsX2_has := goodIn_r _ [16] (by decide +kernel) (by decide +kernel)
set_option maxRecDepth 20000 in
theorem gX1_letPianosDry_X2_has_n87 : GoodIn wsX1_letPianosDry (wsX2_has) := ggX1_letPianosDry_X2_has
theorem dX1_letPianosDry_0 : decode cX1_letPianosDry 0 = .ok (.iconst 0, 1) := by decide +kernel
theorem dX1_letPianosDry_1 : decode cX1_letPianosDry 1 = .ok (.istore_n 1, 1) := by decide +kernel
theorem dX1_letPianosDry_2 : decode cX1_letPianosDry 2 = .ok (.iload_n 1, 1) := by decide +kernel
theorem dX1_letPianosDry_3 : decode cX1_letPianosDry 3 = .ok (.bipush 12, 2) := by decide +kernel
theorem dX1_letPianosDry_5 : decode cX1_letPianosDry 5 = .ok (.if_icmp .ge 43, 3) := by decide +kernel
theorem dX1_letPianosDry_8 : decode cX1_letPianosDry 8 = .ok (.aload_n 0, 1) := by decide +kernel
theorem dX1_letPianosDry_9 : decode cX1_letPianosDry 9 = .ok (.invokevirtual 147, 3) := by decide +kernel
theorem dX1_letPianosDry_12 : decode cX1_letPianosDry 12 = .ok (.iload_n 1, 1) := by decide +kernel
theorem dX1_letPianosDry_13 : decode cX1_letPianosDry 13 = .ok (.invokestatic 87, 3) := by decide +kernel
theorem dX1_letPianosDry_16 : decode cX1_letPianosDry 16 = .ok (.ifCond .eq 26, 3) := by decide +kernel
theorem dX1_letPianosDry_19 : decode cX1_letPianosDry 19 = .ok (.aload_n 0, 1) := by decide +kernel
theorem dX1_letPianosDry_20 : decode cX1_letPianosDry 20 = .ok (.getfield 28, 3) := by decide +kernel
theorem dX1_letPianosDry_23 : decode cX1_letPianosDry 23 = .ok (.iload_n 1, 1) := by decide +kernel
theorem dX1_letPianosDry_24 : decode cX1_letPianosDry 24 = .ok (.iconst 0, 1) := by decide +kernel
theorem dX1_letPianosDry_25 : decode cX1_letPianosDry 25 = .ok (.aload_n 0, 1) := by decide +kernel
theorem dX1_letPianosDry_26 : decode cX1_letPianosDry 26 = .ok (.getfield 28, 3) := by decide +kernel
theorem dX1_letPianosDry_29 : decode cX1_letPianosDry 29 = .ok (.iload_n 1, 1) := by decide +kernel
theorem dX1_letPianosDry_30 : decode cX1_letPianosDry 30 = .ok (.iaload, 1) := by decide +kernel
theorem dX1_letPianosDry_31 : decode cX1_letPianosDry 31 = .ok (.aload_n 0, 1) := by decide +kernel
theorem dX1_letPianosDry_32 : decode cX1_letPianosDry 32 = .ok (.getfield 9, 3) := by decide +kernel
theorem dX1_letPianosDry_35 : decode cX1_letPianosDry 35 = .ok (.iconst 2, 1) := by decide +kernel
theorem dX1_letPianosDry_36 : decode cX1_letPianosDry 36 = .ok (.iaload, 1) := by decide +kernel
theorem dX1_letPianosDry_37 : decode cX1_letPianosDry 37 = .ok (.isub, 1) := by decide +kernel
theorem dX1_letPianosDry_38 : decode cX1_letPianosDry 38 = .ok (.invokestatic 155, 3) := by decide +kernel
theorem dX1_letPianosDry_41 : decode cX1_letPianosDry 41 = .ok (.iastore, 1) := by decide +kernel
theorem dX1_letPianosDry_42 : decode cX1_letPianosDry 42 = .ok (.iinc 1 1, 3) := by decide +kernel
theorem dX1_letPianosDry_45 : decode cX1_letPianosDry 45 = .ok (.goto (-43), 3) := by decide +kernel
theorem dX1_letPianosDry_48 : decode cX1_letPianosDry 48 = .ok (.return_, 1) := by decide +kernel
set_option maxRecDepth 20000 in
theorem ggX1_letPianosBePlayed_X1_openOnes : GoodIn wsX1_letPianosBePlayed wsX1_openOnes := goodIn_r _ [15, 16, 17, 21, 22, 23, 24, 25, 26, 27, 28, 29, 30, 31, 32, 33, 34, 35, 36, 37, 38] (by decide +kernel) (by decide +kernel)
set_option maxRecDepth 20000 in
theorem gX1_letPianosBePlayed_X1_openOnes : GoodIn wsX1_letPianosBePlayed (wsV RX1 147 RX1 yX1_openOnes wsX1_openOnes) := goodIn_app (goodIn_of _ (by decide +kernel)) ggX1_letPianosBePlayed_X1_openOnes
set_option maxRecDepth 20000 in
theorem ggX1_letPianosBePlayed_X2_has : GoodIn wsX1_letPianosBePlayed wsX2_has := goodIn_r _ [20] (by decide +kernel) (by decide +kernel)
set_option maxRecDepth 20000 in
theorem gX1_letPianosBePlayed_X2_has_n87 : GoodIn wsX1_letPianosBePlayed (wsX2_has) := ggX1_letPianosBePlayed_X2_has
theorem dX1_letPianosBePlayed_0 : decode cX1_letPianosBePlayed 0 = .ok (.aload_n 0, 1) := by decide +kernel
theorem dX1_letPianosBePlayed_1 : decode cX1_letPianosBePlayed 1 = .ok (.getfield 58, 3) := by decide +kernel
theorem dX1_letPianosBePlayed_4 : decode cX1_letPianosBePlayed 4 = .ok (.bipush 24, 2) := by decide +kernel
theorem dX1_letPianosBePlayed_6 : decode cX1_letPianosBePlayed 6 = .ok (.irem, 1) := by decide +kernel
theorem dX1_letPianosBePlayed_7 : decode cX1_letPianosBePlayed 7 = .ok (.istore_n 1, 1) := by decide +kernel
theorem dX1_letPianosBePlayed_8 : decode cX1_letPianosBePlayed 8 = .ok (.iload_n 1, 1) := by decide +kernel
theorem dX1_letPianosBePlayed_9 : decode cX1_letPianosBePlayed 9 = .ok (.bipush 8, 2) := by decide +kernel
theorem dX1_letPianosBePlayed_11 : decode cX1_letPianosBePlayed 11 = .ok (.if_icmp .lt 9, 3) := by decide +kernel
theorem dX1_letPianosBePlayed_14 : decode cX1_letPianosBePlayed 14 = .ok (.iload_n 1, 1) := by decide +kernel
theorem dX1_letPianosBePlayed_15 : decode cX1_letPianosBePlayed 15 = .ok (.bipush 21, 2) := by decide +kernel
theorem dX1_letPianosBePlayed_17 : decode cX1_letPianosBePlayed 17 = .ok (.if_icmp .le 4, 3) := by decide +kernel
theorem dX1_letPianosBePlayed_20 : decode cX1_letPianosBePlayed 20 = .ok (.return_, 1) := by decide +kernel
theorem dX1_letPianosBePlayed_21 : decode cX1_letPianosBePlayed 21 = .ok (.iconst 0, 1) := by decide +kernel
theorem dX1_letPianosBePlayed_22 : decode cX1_letPianosBePlayed 22 = .ok (.istore_n 2, 1) := by decide +kernel
theorem dX1_letPianosBePlayed_23 : decode cX1_letPianosBePlayed 23 = .ok (.iload_n 2, 1) := by decide +kernel
theorem dX1_letPianosBePlayed_24 : decode cX1_letPianosBePlayed 24 = .ok (.bipush 12, 2) := by decide +kernel
theorem dX1_letPianosBePlayed_26 : decode cX1_letPianosBePlayed 26 = .ok (.if_icmp .ge 86, 3) := by decide +kernel
theorem dX1_letPianosBePlayed_29 : decode cX1_letPianosBePlayed 29 = .ok (.aload_n 0, 1) := by decide +kernel
theorem dX1_letPianosBePlayed_30 : decode cX1_letPianosBePlayed 30 = .ok (.invokevirtual 147, 3) := by decide +kernel
theorem dX1_letPianosBePlayed_33 : decode cX1_letPianosBePlayed 33 = .ok (.iload_n 2, 1) := by decide +kernel
theorem dX1_letPianosBePlayed_34 : decode cX1_letPianosBePlayed 34 = .ok (.invokestatic 87, 3) := by decide +kernel
theorem dX1_letPianosBePlayed_37 : decode cX1_letPianosBePlayed 37 = .ok (.ifCond .eq 69, 3) := by decide +kernel
theorem dX1_letPianosBePlayed_40 : decode cX1_letPianosBePlayed 40 = .ok (.aload_n 0, 1) := by decide +kernel
theorem dX1_letPianosBePlayed_41 : decode cX1_letPianosBePlayed 41 = .ok (.getfield 28, 3) := by decide +kernel
theorem dX1_letPianosBePlayed_44 : decode cX1_letPianosBePlayed 44 = .ok (.iload_n 2, 1) := by decide +kernel
theorem dX1_letPianosBePlayed_45 : decode cX1_letPianosBePlayed 45 = .ok (.iaload, 1) := by decide +kernel
theorem dX1_letPianosBePlayed_46 : decode cX1_letPianosBePlayed 46 = .ok (.bipush 50, 2) := by decide +kernel
theorem dX1_letPianosBePlayed_48 : decode cX1_letPianosBePlayed 48 = .ok (.if_icmp .ge 58, 3) := by decide +kernel
theorem dX1_letPianosBePlayed_51 : decode cX1_letPianosBePlayed 51 = .ok (.aload_n 0, 1) := by decide +kernel
theorem dX1_letPianosBePlayed_52 : decode cX1_letPianosBePlayed 52 = .ok (.getfield 9, 3) := by decide +kernel
theorem dX1_letPianosBePlayed_55 : decode cX1_letPianosBePlayed 55 = .ok (.iconst 4, 1) := by decide +kernel
theorem dX1_letPianosBePlayed_56 : decode cX1_letPianosBePlayed 56 = .ok (.iaload, 1) := by decide +kernel
theorem dX1_letPianosBePlayed_57 : decode cX1_letPianosBePlayed 57 = .ok (.aload_n 0, 1) := by decide +kernel
theorem dX1_letPianosBePlayed_58 : decode cX1_letPianosBePlayed 58 = .ok (.getfield 25, 3) := by decide +kernel
theorem dX1_letPianosBePlayed_61 : decode cX1_letPianosBePlayed 61 = .ok (.iload_n 2, 1) := by decide +kernel
theorem dX1_letPianosBePlayed_62 : decode cX1_letPianosBePlayed 62 = .ok (.iaload, 1) := by decide +kernel
theorem dX1_letPianosBePlayed_63 : decode cX1_letPianosBePlayed 63 = .ok (.imul, 1) := by decide +kernel
theorem dX1_letPianosBePlayed_64 : decode cX1_letPianosBePlayed 64 = .ok (.bipush 100, 2) := by decide +kernel
theorem dX1_letPianosBePlayed_66 : decode cX1_letPianosBePlayed 66 = .ok (.idiv, 1) := by decide +kernel
theorem dX1_letPianosBePlayed_67 : decode cX1_letPianosBePlayed 67 = .ok (.istore_n 3, 1) := by decide +kernel
theorem dX1_letPianosBePlayed_68 : decode cX1_letPianosBePlayed 68 = .ok (.aload_n 0, 1) := by decide +kernel
theorem dX1_letPianosBePlayed_69 : decode cX1_letPianosBePlayed 69 = .ok (.getfield 31, 3) := by decide +kernel
theorem dX1_letPianosBePlayed_72 : decode cX1_letPianosBePlayed 72 = .ok (.iload_n 2, 1) := by decide +kernel
theorem dX1_letPianosBePlayed_73 : decode cX1_letPianosBePlayed 73 = .ok (.dup2, 1) := by decide +kernel
theorem dX1_letPianosBePlayed_74 : decode cX1_letPianosBePlayed 74 = .ok (.iaload, 1) := by decide +kernel
theorem dX1_letPianosBePlayed_75 : decode cX1_letPianosBePlayed 75 = .ok (.iload_n 3, 1) := by decide +kernel
theorem dX1_letPianosBePlayed_76 : decode cX1_letPianosBePlayed 76 = .ok (.iadd, 1) := by decide +kernel
theorem dX1_letPianosBePlayed_77 : decode cX1_letPianosBePlayed 77 = .ok (.iastore, 1) := by decide +kernel
theorem dX1_letPianosBePlayed_78 : decode cX1_letPianosBePlayed 78 = .ok (.aload_n 0, 1) := by decide +kernel
theorem dX1_letPianosBePlayed_79 : decode cX1_letPianosBePlayed 79 = .ok (.dup, 1) := by decide +kernel
theorem dX1_letPianosBePlayed_80 : decode cX1_letPianosBePlayed 80 = .ok (.getfield 61, 3) := by decide +kernel
theorem dX1_letPianosBePlayed_83 : decode cX1_letPianosBePlayed 83 = .ok (.iload_n 3, 1) := by decide +kernel
theorem dX1_letPianosBePlayed_84 : decode cX1_letPianosBePlayed 84 = .ok (.iadd, 1) := by decide +kernel
theorem dX1_letPianosBePlayed_85 : decode cX1_letPianosBePlayed 85 = .ok (.putfield 61, 3) := by decide +kernel
theorem dX1_letPianosBePlayed_88 : decode cX1_letPianosBePlayed 88 = .ok (.aload_n 0, 1) := by decide +kernel
theorem dX1_letPianosBePlayed_89 : decode cX1_letPianosBePlayed 89 = .ok (.getfield 25, 3) := by decide +kernel
theorem dX1_letPianosBePlayed_92 : decode cX1_letPianosBePlayed 92 = .ok (.iload_n 2, 1) := by decide +kernel
theorem dX1_letPianosBePlayed_93 : decode cX1_letPianosBePlayed 93 = .ok (.iconst 0, 1) := by decide +kernel
theorem dX1_letPianosBePlayed_94 : decode cX1_letPianosBePlayed 94 = .ok (.aload_n 0, 1) := by decide +kernel
theorem dX1_letPianosBePlayed_95 : decode cX1_letPianosBePlayed 95 = .ok (.getfield 25, 3) := by decide +kernel
theorem dX1_letPianosBePlayed_98 : decode cX1_letPianosBePlayed 98 = .ok (.iload_n 2, 1) := by decide +kernel
theorem dX1_letPianosBePlayed_99 : decode cX1_letPianosBePlayed 99 = .ok (.iaload, 1) := by decide +kernel
theorem dX1_letPianosBePlayed_100 : decode cX1_letPianosBePlayed 100 = .ok (.iconst 1, 1) := by decide +kernel
theorem dX1_letPianosBePlayed_101 : decode cX1_letPianosBePlayed 101 = .ok (.isub, 1) := by decide +kernel
theorem dX1_letPianosBePlayed_102 : decode cX1_letPianosBePlayed 102 = .ok (.invokestatic 155, 3) := by decide +kernel
theorem dX1_letPianosBePlayed_105 : decode cX1_letPianosBePlayed 105 = .ok (.iastore, 1) := by decide +kernel
theorem dX1_letPianosBePlayed_106 : decode cX1_letPianosBePlayed 106 = .ok (.iinc 2 1, 3) := by decide +kernel
theorem dX1_letPianosBePlayed_109 : decode cX1_letPianosBePlayed 109 = .ok (.goto (-86), 3) := by decide +kernel
theorem dX1_letPianosBePlayed_112 : decode cX1_letPianosBePlayed 112 = .ok (.return_, 1) := by decide +kernel
set_option maxRecDepth 20000 in
theorem ggX1_letThievesCome_X2_has : GoodIn wsX1_letThievesCome wsX2_has := goodIn_r _ [7] (by decide +kernel) (by decide +kernel)
set_option maxRecDepth 20000 in
theorem gX1_letThievesCome_X2_has_n87 : GoodIn wsX1_letThievesCome (wsX2_has) := ggX1_letThievesCome_X2_has
set_option maxRecDepth 20000 in
theorem ggX1_letThievesCome_X1_keepersAt : GoodIn wsX1_letThievesCome wsX1_keepersAt := goodIn_r _ [12, 13, 14, 15, 16, 17, 18, 19, 20, 21, 22, 23, 24, 25, 26, 27, 28, 29, 30, 31, 32] (by decide +kernel) (by decide +kernel)
set_option maxRecDepth 20000 in
theorem gX1_letThievesCome_X1_keepersAt : GoodIn wsX1_letThievesCome (wsV RX1 158 RX1 yX1_keepersAt wsX1_keepersAt) := goodIn_app (goodIn_of _ (by decide +kernel)) ggX1_letThievesCome_X1_keepersAt
theorem dX1_letThievesCome_0 : decode cX1_letThievesCome 0 = .ok (.aload_n 0, 1) := by decide +kernel
theorem dX1_letThievesCome_1 : decode cX1_letThievesCome 1 = .ok (.getfield 58, 3) := by decide +kernel
theorem dX1_letThievesCome_4 : decode cX1_letThievesCome 4 = .ok (.bipush 24, 2) := by decide +kernel
theorem dX1_letThievesCome_6 : decode cX1_letThievesCome 6 = .ok (.irem, 1) := by decide +kernel
theorem dX1_letThievesCome_7 : decode cX1_letThievesCome 7 = .ok (.istore_n 1, 1) := by decide +kernel
theorem dX1_letThievesCome_8 : decode cX1_letThievesCome 8 = .ok (.aload_n 0, 1) := by decide +kernel
theorem dX1_letThievesCome_9 : decode cX1_letThievesCome 9 = .ok (.getfield 9, 3) := by decide +kernel
theorem dX1_letThievesCome_12 : decode cX1_letThievesCome 12 = .ok (.bipush 6, 2) := by decide +kernel
theorem dX1_letThievesCome_14 : decode cX1_letThievesCome 14 = .ok (.iaload, 1) := by decide +kernel
theorem dX1_letThievesCome_15 : decode cX1_letThievesCome 15 = .ok (.istore_n 2, 1) := by decide +kernel
theorem dX1_letThievesCome_16 : decode cX1_letThievesCome 16 = .ok (.iload_n 1, 1) := by decide +kernel
theorem dX1_letThievesCome_17 : decode cX1_letThievesCome 17 = .ok (.bipush 22, 2) := by decide +kernel
theorem dX1_letThievesCome_19 : decode cX1_letThievesCome 19 = .ok (.if_icmp .ge 8, 3) := by decide +kernel
theorem dX1_letThievesCome_22 : decode cX1_letThievesCome 22 = .ok (.iload_n 1, 1) := by decide +kernel
theorem dX1_letThievesCome_23 : decode cX1_letThievesCome 23 = .ok (.iconst 5, 1) := by decide +kernel
theorem dX1_letThievesCome_24 : decode cX1_letThievesCome 24 = .ok (.if_icmp .gt 7, 3) := by decide +kernel
theorem dX1_letThievesCome_27 : decode cX1_letThievesCome 27 = .ok (.iconst 1, 1) := by decide +kernel
theorem dX1_letThievesCome_28 : decode cX1_letThievesCome 28 = .ok (.goto 4, 3) := by decide +kernel
theorem dX1_letThievesCome_31 : decode cX1_letThievesCome 31 = .ok (.iconst 0, 1) := by decide +kernel
theorem dX1_letThievesCome_32 : decode cX1_letThievesCome 32 = .ok (.istore_n 3, 1) := by decide +kernel
theorem dX1_letThievesCome_33 : decode cX1_letThievesCome 33 = .ok (.iload_n 3, 1) := by decide +kernel
theorem dX1_letThievesCome_34 : decode cX1_letThievesCome 34 = .ok (.ifCond .eq 8, 3) := by decide +kernel
theorem dX1_letThievesCome_37 : decode cX1_letThievesCome 37 = .ok (.iload_n 2, 1) := by decide +kernel
theorem dX1_letThievesCome_38 : decode cX1_letThievesCome 38 = .ok (.iconst 1, 1) := by decide +kernel
theorem dX1_letThievesCome_39 : decode cX1_letThievesCome 39 = .ok (.if_icmp .ge 4, 3) := by decide +kernel
theorem dX1_letThievesCome_42 : decode cX1_letThievesCome 42 = .ok (.return_, 1) := by decide +kernel
theorem dX1_letThievesCome_43 : decode cX1_letThievesCome 43 = .ok (.iconst 0, 1) := by decide +kernel
theorem dX1_letThievesCome_44 : decode cX1_letThievesCome 44 = .ok (.istore 4, 2) := by decide +kernel
theorem dX1_letThievesCome_46 : decode cX1_letThievesCome 46 = .ok (.iload 4, 2) := by decide +kernel
theorem dX1_letThievesCome_48 : decode cX1_letThievesCome 48 = .ok (.bipush 12, 2) := by decide +kernel
theorem dX1_letThievesCome_50 : decode cX1_letThievesCome 50 = .ok (.if_icmp .ge 84, 3) := by decide +kernel
theorem dX1_letThievesCome_53 : decode cX1_letThievesCome 53 = .ok (.bipush 7, 2) := by decide +kernel
theorem dX1_letThievesCome_55 : decode cX1_letThievesCome 55 = .ok (.aload_n 0, 1) := by decide +kernel
theorem dX1_letThievesCome_56 : decode cX1_letThievesCome 56 = .ok (.getfield 58, 3) := by decide +kernel
theorem dX1_letThievesCome_59 : decode cX1_letThievesCome 59 = .ok (.imul, 1) := by decide +kernel
theorem dX1_letThievesCome_60 : decode cX1_letThievesCome 60 = .ok (.iconst 3, 1) := by decide +kernel
theorem dX1_letThievesCome_61 : decode cX1_letThievesCome 61 = .ok (.iload 4, 2) := by decide +kernel
theorem dX1_letThievesCome_63 : decode cX1_letThievesCome 63 = .ok (.imul, 1) := by decide +kernel
theorem dX1_letThievesCome_64 : decode cX1_letThievesCome 64 = .ok (.iadd, 1) := by decide +kernel
theorem dX1_letThievesCome_65 : decode cX1_letThievesCome 65 = .ok (.iload_n 2, 1) := by decide +kernel
theorem dX1_letThievesCome_66 : decode cX1_letThievesCome 66 = .ok (.irem, 1) := by decide +kernel
theorem dX1_letThievesCome_67 : decode cX1_letThievesCome 67 = .ok (.ifCond .ne 7, 3) := by decide +kernel
theorem dX1_letThievesCome_70 : decode cX1_letThievesCome 70 = .ok (.iconst 1, 1) := by decide +kernel
theorem dX1_letThievesCome_71 : decode cX1_letThievesCome 71 = .ok (.goto 4, 3) := by decide +kernel
theorem dX1_letThievesCome_74 : decode cX1_letThievesCome 74 = .ok (.iconst 0, 1) := by decide +kernel
theorem dX1_letThievesCome_75 : decode cX1_letThievesCome 75 = .ok (.istore 5, 2) := by decide +kernel
theorem dX1_letThievesCome_77 : decode cX1_letThievesCome 77 = .ok (.iload 5, 2) := by decide +kernel
theorem dX1_letThievesCome_79 : decode cX1_letThievesCome 79 = .ok (.ifCond .eq 49, 3) := by decide +kernel
theorem dX1_letThievesCome_82 : decode cX1_letThievesCome 82 = .ok (.aload_n 0, 1) := by decide +kernel
theorem dX1_letThievesCome_83 : decode cX1_letThievesCome 83 = .ok (.getfield 19, 3) := by decide +kernel
theorem dX1_letThievesCome_86 : decode cX1_letThievesCome 86 = .ok (.iload 4, 2) := by decide +kernel
theorem dX1_letThievesCome_88 : decode cX1_letThievesCome 88 = .ok (.invokestatic 87, 3) := by decide +kernel
theorem dX1_letThievesCome_91 : decode cX1_letThievesCome 91 = .ok (.ifCond .eq 37, 3) := by decide +kernel
theorem dX1_letThievesCome_94 : decode cX1_letThievesCome 94 = .ok (.aload_n 0, 1) := by decide +kernel
theorem dX1_letThievesCome_95 : decode cX1_letThievesCome 95 = .ok (.iload 4, 2) := by decide +kernel
theorem dX1_letThievesCome_97 : decode cX1_letThievesCome 97 = .ok (.invokevirtual 158, 3) := by decide +kernel
theorem dX1_letThievesCome_100 : decode cX1_letThievesCome 100 = .ok (.ifCond .ne 28, 3) := by decide +kernel
theorem dX1_letThievesCome_103 : decode cX1_letThievesCome 103 = .ok (.aload_n 0, 1) := by decide +kernel
theorem dX1_letThievesCome_104 : decode cX1_letThievesCome 104 = .ok (.dup, 1) := by decide +kernel
theorem dX1_letThievesCome_105 : decode cX1_letThievesCome 105 = .ok (.getfield 19, 3) := by decide +kernel
theorem dX1_letThievesCome_108 : decode cX1_letThievesCome 108 = .ok (.iconst 1, 1) := by decide +kernel
theorem dX1_letThievesCome_109 : decode cX1_letThievesCome 109 = .ok (.iload 4, 2) := by decide +kernel
theorem dX1_letThievesCome_111 : decode cX1_letThievesCome 111 = .ok (.ishl, 1) := by decide +kernel
theorem dX1_letThievesCome_112 : decode cX1_letThievesCome 112 = .ok (.iconst (-1), 1) := by decide +kernel
theorem dX1_letThievesCome_113 : decode cX1_letThievesCome 113 = .ok (.ixor, 1) := by decide +kernel
theorem dX1_letThievesCome_114 : decode cX1_letThievesCome 114 = .ok (.iand, 1) := by decide +kernel
theorem dX1_letThievesCome_115 : decode cX1_letThievesCome 115 = .ok (.putfield 19, 3) := by decide +kernel
theorem dX1_letThievesCome_118 : decode cX1_letThievesCome 118 = .ok (.aload_n 0, 1) := by decide +kernel
theorem dX1_letThievesCome_119 : decode cX1_letThievesCome 119 = .ok (.dup, 1) := by decide +kernel
theorem dX1_letThievesCome_120 : decode cX1_letThievesCome 120 = .ok (.getfield 64, 3) := by decide +kernel
theorem dX1_letThievesCome_123 : decode cX1_letThievesCome 123 = .ok (.iconst 1, 1) := by decide +kernel
theorem dX1_letThievesCome_124 : decode cX1_letThievesCome 124 = .ok (.iadd, 1) := by decide +kernel
theorem dX1_letThievesCome_125 : decode cX1_letThievesCome 125 = .ok (.putfield 64, 3) := by decide +kernel
theorem dX1_letThievesCome_128 : decode cX1_letThievesCome 128 = .ok (.iinc 4 1, 3) := by decide +kernel
theorem dX1_letThievesCome_131 : decode cX1_letThievesCome 131 = .ok (.goto (-85), 3) := by decide +kernel
theorem dX1_letThievesCome_134 : decode cX1_letThievesCome 134 = .ok (.return_, 1) := by decide +kernel
set_option maxRecDepth 20000 in
theorem ggX2_init_X1_init : GoodIn wsX2_init wsX1_init := goodIn_r _ [20, 21, 2, 3, 22, 23, 24, 25, 26, 27, 28, 29, 30, 31, 32, 33, 34, 35, 36, 37, 38, 39, 40, 41, 42, 43, 44, 57, 58, 59, 60, 61, 62, 63, 64, 65, 66, 67, 68, 69, 70, 71, 72, 73, 74] (by decide +kernel) (by decide +kernel)
set_option maxRecDepth 20000 in
theorem gX2_init_X1_init_n9 : GoodIn wsX2_init (wsX1_init) := ggX2_init_X1_init
set_option maxRecDepth 20000 in
theorem ggX2_init_X0_init : GoodIn wsX2_init wsX0_init := goodIn_r _ [46, 47, 2, 3, 48, 49, 50, 51, 52, 53, 54, 55, 56, 83, 84, 85, 86, 87, 88, 89, 90] (by decide +kernel) (by decide +kernel)
set_option maxRecDepth 20000 in
theorem gX2_init_X0_init_n39 : GoodIn wsX2_init (wsX0_init) := ggX2_init_X0_init
theorem dX2_init_0 : decode cX2_init 0 = .ok (.aload_n 0, 1) := by decide +kernel
theorem dX2_init_1 : decode cX2_init 1 = .ok (.invokespecial 1, 3) := by decide +kernel
theorem dX2_init_4 : decode cX2_init 4 = .ok (.aload_n 0, 1) := by decide +kernel
theorem dX2_init_5 : decode cX2_init 5 = .ok (.new 7, 3) := by decide +kernel
theorem dX2_init_8 : decode cX2_init 8 = .ok (.dup, 1) := by decide +kernel
theorem dX2_init_9 : decode cX2_init 9 = .ok (.invokespecial 9, 3) := by decide +kernel
theorem dX2_init_12 : decode cX2_init 12 = .ok (.putfield 10, 3) := by decide +kernel
theorem dX2_init_15 : decode cX2_init 15 = .ok (.aload_n 0, 1) := by decide +kernel
theorem dX2_init_16 : decode cX2_init 16 = .ok (.new 7, 3) := by decide +kernel
theorem dX2_init_19 : decode cX2_init 19 = .ok (.dup, 1) := by decide +kernel
theorem dX2_init_20 : decode cX2_init 20 = .ok (.invokespecial 9, 3) := by decide +kernel
theorem dX2_init_23 : decode cX2_init 23 = .ok (.putfield 16, 3) := by decide +kernel
theorem dX2_init_26 : decode cX2_init 26 = .ok (.aload_n 0, 1) := by decide +kernel
theorem dX2_init_27 : decode cX2_init 27 = .ok (.new 7, 3) := by decide +kernel
theorem dX2_init_30 : decode cX2_init 30 = .ok (.dup, 1) := by decide +kernel
theorem dX2_init_31 : decode cX2_init 31 = .ok (.invokespecial 9, 3) := by decide +kernel
theorem dX2_init_34 : decode cX2_init 34 = .ok (.putfield 19, 3) := by decide +kernel
theorem dX2_init_37 : decode cX2_init 37 = .ok (.aload_n 0, 1) := by decide +kernel
theorem dX2_init_38 : decode cX2_init 38 = .ok (.bipush 6, 2) := by decide +kernel
theorem dX2_init_40 : decode cX2_init 40 = .ok (.anewarray 7, 3) := by decide +kernel
theorem dX2_init_43 : decode cX2_init 43 = .ok (.putfield 22, 3) := by decide +kernel
theorem dX2_init_46 : decode cX2_init 46 = .ok (.aload_n 0, 1) := by decide +kernel
theorem dX2_init_47 : decode cX2_init 47 = .ok (.iconst 0, 1) := by decide +kernel
theorem dX2_init_48 : decode cX2_init 48 = .ok (.putfield 26, 3) := by decide +kernel
theorem dX2_init_51 : decode cX2_init 51 = .ok (.aload_n 0, 1) := by decide +kernel
theorem dX2_init_52 : decode cX2_init 52 = .ok (.iconst 2, 1) := by decide +kernel
theorem dX2_init_53 : decode cX2_init 53 = .ok (.anewarray 7, 3) := by decide +kernel
theorem dX2_init_56 : decode cX2_init 56 = .ok (.putfield 30, 3) := by decide +kernel
theorem dX2_init_59 : decode cX2_init 59 = .ok (.aload_n 0, 1) := by decide +kernel
theorem dX2_init_60 : decode cX2_init 60 = .ok (.iconst 2, 1) := by decide +kernel
theorem dX2_init_61 : decode cX2_init 61 = .ok (.newarray .boolean, 2) := by decide +kernel
theorem dX2_init_63 : decode cX2_init 63 = .ok (.putfield 33, 3) := by decide +kernel
theorem dX2_init_66 : decode cX2_init 66 = .ok (.aload_n 0, 1) := by decide +kernel
theorem dX2_init_67 : decode cX2_init 67 = .ok (.new 37, 3) := by decide +kernel
theorem dX2_init_70 : decode cX2_init 70 = .ok (.dup, 1) := by decide +kernel
theorem dX2_init_71 : decode cX2_init 71 = .ok (.invokespecial 39, 3) := by decide +kernel
theorem dX2_init_74 : decode cX2_init 74 = .ok (.putfield 40, 3) := by decide +kernel
theorem dX2_init_77 : decode cX2_init 77 = .ok (.iconst 0, 1) := by decide +kernel
theorem dX2_init_78 : decode cX2_init 78 = .ok (.istore_n 1, 1) := by decide +kernel
theorem dX2_init_79 : decode cX2_init 79 = .ok (.iload_n 1, 1) := by decide +kernel
theorem dX2_init_80 : decode cX2_init 80 = .ok (.bipush 6, 2) := by decide +kernel
theorem dX2_init_82 : decode cX2_init 82 = .ok (.if_icmp .ge 22, 3) := by decide +kernel
theorem dX2_init_85 : decode cX2_init 85 = .ok (.aload_n 0, 1) := by decide +kernel
theorem dX2_init_86 : decode cX2_init 86 = .ok (.getfield 22, 3) := by decide +kernel
theorem dX2_init_89 : decode cX2_init 89 = .ok (.iload_n 1, 1) := by decide +kernel
theorem dX2_init_90 : decode cX2_init 90 = .ok (.new 7, 3) := by decide +kernel
theorem dX2_init_93 : decode cX2_init 93 = .ok (.dup, 1) := by decide +kernel
theorem dX2_init_94 : decode cX2_init 94 = .ok (.invokespecial 9, 3) := by decide +kernel
theorem dX2_init_97 : decode cX2_init 97 = .ok (.aastore, 1) := by decide +kernel
theorem dX2_init_98 : decode cX2_init 98 = .ok (.iinc 1 1, 3) := by decide +kernel
theorem dX2_init_101 : decode cX2_init 101 = .ok (.goto (-22), 3) := by decide +kernel
theorem dX2_init_104 : decode cX2_init 104 = .ok (.iconst 0, 1) := by decide +kernel
theorem dX2_init_105 : decode cX2_init 105 = .ok (.istore_n 1, 1) := by decide +kernel
theorem dX2_init_106 : decode cX2_init 106 = .ok (.iload_n 1, 1) := by decide +kernel
theorem dX2_init_107 : decode cX2_init 107 = .ok (.iconst 2, 1) := by decide +kernel
theorem dX2_init_108 : decode cX2_init 108 = .ok (.if_icmp .ge 22, 3) := by decide +kernel
theorem dX2_init_111 : decode cX2_init 111 = .ok (.aload_n 0, 1) := by decide +kernel
theorem dX2_init_112 : decode cX2_init 112 = .ok (.getfield 30, 3) := by decide +kernel
theorem dX2_init_115 : decode cX2_init 115 = .ok (.iload_n 1, 1) := by decide +kernel
theorem dX2_init_116 : decode cX2_init 116 = .ok (.new 7, 3) := by decide +kernel
theorem dX2_init_119 : decode cX2_init 119 = .ok (.dup, 1) := by decide +kernel
theorem dX2_init_120 : decode cX2_init 120 = .ok (.invokespecial 9, 3) := by decide +kernel
theorem dX2_init_123 : decode cX2_init 123 = .ok (.aastore, 1) := by decide +kernel
theorem dX2_init_124 : decode cX2_init 124 = .ok (.iinc 1 1, 3) := by decide +kernel
theorem dX2_init_127 : decode cX2_init 127 = .ok (.goto (-21), 3) := by decide +kernel
theorem dX2_init_130 : decode cX2_init 130 = .ok (.return_, 1) := by decide +kernel
set_option maxRecDepth 20000 in
theorem ggX2_set_X2_copy : GoodIn wsX2_set wsX2_copy := goodIn_r _ [6, 7, 8, 9, 10, 34, 35, 36, 37, 38, 39, 40, 41, 42, 43, 44, 45, 46, 47, 48, 49, 50, 51] (by decide +kernel) (by decide +kernel)
set_option maxRecDepth 20000 in
theorem gX2_set_X2_copy : GoodIn wsX2_set (va_wsS RX2 44 yX2_copy wsX2_copy) := goodIn_app (goodIn_of _ (by decide +kernel)) ggX2_set_X2_copy
set_option maxRecDepth 20000 in
theorem ggX2_set_X1_changeSetting : GoodIn wsX2_set wsX1_changeSetting := goodIn_r _ [14, 15, 34, 35, 36, 37, 38, 39, 40, 41, 42, 43, 44, 45, 46, 47, 48, 49, 50, 51] (by decide +kernel) (by decide +kernel)
set_option maxRecDepth 20000 in
theorem gX2_set_X1_changeSetting_n48 : GoodIn wsX2_set (wsX1_changeSetting) := ggX2_set_X1_changeSetting
set_option maxRecDepth 20000 in
theorem ggX2_set_X2_recorded : GoodIn wsX2_set wsX2_recorded := goodIn_r _ [19, 20, 2, 21, 22, 23, 24, 5, 25, 3, 4, 6, 7, 8, 9, 10, 26, 27, 28, 29, 30, 31, 32, 33, 34, 35, 36, 37, 38, 39, 40, 41, 42, 43, 44, 45, 46, 47, 48, 49, 50, 51] (by decide +kernel) (by decide +kernel)
set_option maxRecDepth 20000 in
theorem gX2_set_X2_recorded : GoodIn wsX2_set (wsV RX2 52 RX2 yX2_recorded wsX2_recorded) := goodIn_app (goodIn_of _ (by decide +kernel)) ggX2_set_X2_recorded
theorem dX2_set_0 : decode cX2_set 0 = .ok (.aload_n 0, 1) := by decide +kernel
theorem dX2_set_1 : decode cX2_set 1 = .ok (.getfield 10, 3) := by decide +kernel
theorem dX2_set_4 : decode cX2_set 4 = .ok (.aload_n 0, 1) := by decide +kernel
theorem dX2_set_5 : decode cX2_set 5 = .ok (.getfield 16, 3) := by decide +kernel
theorem dX2_set_8 : decode cX2_set 8 = .ok (.invokestatic 44, 3) := by decide +kernel
theorem dX2_set_11 : decode cX2_set 11 = .ok (.aload_n 0, 1) := by decide +kernel
theorem dX2_set_12 : decode cX2_set 12 = .ok (.aload_n 0, 1) := by decide +kernel
theorem dX2_set_13 : decode cX2_set 13 = .ok (.getfield 10, 3) := by decide +kernel
theorem dX2_set_16 : decode cX2_set 16 = .ok (.iload_n 1, 1) := by decide +kernel
theorem dX2_set_17 : decode cX2_set 17 = .ok (.iload_n 2, 1) := by decide +kernel
theorem dX2_set_18 : decode cX2_set 18 = .ok (.invokevirtual 48, 3) := by decide +kernel
theorem dX2_set_21 : decode cX2_set 21 = .ok (.invokevirtual 52, 3) := by decide +kernel
theorem dX2_set_24 : decode cX2_set 24 = .ok (.ireturn, 1) := by decide +kernel
set_option maxRecDepth 20000 in
theorem ggX2_rain_X2_copy : GoodIn wsX2_rain wsX2_copy := goodIn_r _ [6, 7, 8, 9, 10, 35, 36, 37, 38, 39, 40, 41, 42, 43, 44, 45, 46, 47, 48, 49, 50, 51, 52] (by decide +kernel) (by decide +kernel)
set_option maxRecDepth 20000 in
theorem gX2_rain_X2_copy : GoodIn wsX2_rain (va_wsS RX2 44 yX2_copy wsX2_copy) := goodIn_app (goodIn_of _ (by decide +kernel)) ggX2_rain_X2_copy
set_option maxRecDepth 20000 in
theorem ggX2_rain_X1_changeRain : GoodIn wsX2_rain wsX1_changeRain := goodIn_r _ [14, 15, 16, 35, 36, 37, 38, 39, 40, 41, 42, 43, 44, 45, 46, 47, 48, 49, 50, 51, 52] (by decide +kernel) (by decide +kernel)
set_option maxRecDepth 20000 in
theorem gX2_rain_X1_changeRain_n56 : GoodIn wsX2_rain (wsX1_changeRain) := ggX2_rain_X1_changeRain
set_option maxRecDepth 20000 in
theorem ggX2_rain_X2_recorded : GoodIn wsX2_rain wsX2_recorded := goodIn_r _ [20, 21, 2, 22, 23, 24, 25, 5, 26, 3, 4, 6, 7, 8, 9, 10, 27, 28, 29, 30, 31, 32, 33, 34, 35, 36, 37, 38, 39, 40, 41, 42, 43, 44, 45, 46, 47, 48, 49, 50, 51, 52] (by decide +kernel) (by decide +kernel)
set_option maxRecDepth 20000 in
theorem gX2_rain_X2_recorded : GoodIn wsX2_rain (wsV RX2 52 RX2 yX2_recorded wsX2_recorded) := goodIn_app (goodIn_of _ (by decide +kernel)) ggX2_rain_X2_recorded
theorem dX2_rain_0 : decode cX2_rain 0 = .ok (.aload_n 0, 1) := by decide +kernel
theorem dX2_rain_1 : decode cX2_rain 1 = .ok (.getfield 10, 3) := by decide +kernel
theorem dX2_rain_4 : decode cX2_rain 4 = .ok (.aload_n 0, 1) := by decide +kernel
theorem dX2_rain_5 : decode cX2_rain 5 = .ok (.getfield 16, 3) := by decide +kernel
theorem dX2_rain_8 : decode cX2_rain 8 = .ok (.invokestatic 44, 3) := by decide +kernel
theorem dX2_rain_11 : decode cX2_rain 11 = .ok (.aload_n 0, 1) := by decide +kernel
theorem dX2_rain_12 : decode cX2_rain 12 = .ok (.aload_n 0, 1) := by decide +kernel
theorem dX2_rain_13 : decode cX2_rain 13 = .ok (.getfield 10, 3) := by decide +kernel
theorem dX2_rain_16 : decode cX2_rain 16 = .ok (.iload_n 1, 1) := by decide +kernel
theorem dX2_rain_17 : decode cX2_rain 17 = .ok (.invokevirtual 56, 3) := by decide +kernel
theorem dX2_rain_20 : decode cX2_rain 20 = .ok (.invokevirtual 52, 3) := by decide +kernel
theorem dX2_rain_23 : decode cX2_rain 23 = .ok (.ireturn, 1) := by decide +kernel
set_option maxRecDepth 20000 in
theorem ggX2_piano_X2_copy : GoodIn wsX2_piano wsX2_copy := goodIn_r _ [6, 7, 8, 9, 10, 50, 51, 52, 53, 54, 55, 56, 57, 58, 59, 60, 61, 62, 63, 64, 65, 66, 67] (by decide +kernel) (by decide +kernel)
set_option maxRecDepth 20000 in
theorem gX2_piano_X2_copy : GoodIn wsX2_piano (va_wsS RX2 44 yX2_copy wsX2_copy) := goodIn_app (goodIn_of _ (by decide +kernel)) ggX2_piano_X2_copy
set_option maxRecDepth 20000 in
theorem ggX2_piano_X1_addPiano : GoodIn wsX2_piano wsX1_addPiano := goodIn_r _ [14, 15, 16, 17, 18, 19, 20, 21, 5, 22, 23, 24, 25, 26, 27, 28, 29, 30, 31, 50, 51, 52, 53, 54, 55, 56, 57, 58, 59, 60, 61, 62, 63, 64, 65, 66, 67] (by decide +kernel) (by decide +kernel)
set_option maxRecDepth 20000 in
theorem gX2_piano_X1_addPiano_n59 : GoodIn wsX2_piano (wsX1_addPiano) := ggX2_piano_X1_addPiano
set_option maxRecDepth 20000 in
theorem ggX2_piano_X2_recorded : GoodIn wsX2_piano wsX2_recorded := goodIn_r _ [35, 36, 2, 37, 38, 39, 40, 5, 41, 3, 4, 6, 7, 8, 9, 10, 42, 43, 44, 45, 46, 47, 48, 49, 50, 51, 52, 53, 54, 55, 56, 57, 58, 59, 60, 61, 62, 63, 64, 65, 66, 67] (by decide +kernel) (by decide +kernel)
set_option maxRecDepth 20000 in
theorem gX2_piano_X2_recorded : GoodIn wsX2_piano (wsV RX2 52 RX2 yX2_recorded wsX2_recorded) := goodIn_app (goodIn_of _ (by decide +kernel)) ggX2_piano_X2_recorded
theorem dX2_piano_0 : decode cX2_piano 0 = .ok (.aload_n 0, 1) := by decide +kernel
theorem dX2_piano_1 : decode cX2_piano 1 = .ok (.getfield 10, 3) := by decide +kernel
theorem dX2_piano_4 : decode cX2_piano 4 = .ok (.aload_n 0, 1) := by decide +kernel
theorem dX2_piano_5 : decode cX2_piano 5 = .ok (.getfield 16, 3) := by decide +kernel
theorem dX2_piano_8 : decode cX2_piano 8 = .ok (.invokestatic 44, 3) := by decide +kernel
theorem dX2_piano_11 : decode cX2_piano 11 = .ok (.aload_n 0, 1) := by decide +kernel
theorem dX2_piano_12 : decode cX2_piano 12 = .ok (.aload_n 0, 1) := by decide +kernel
theorem dX2_piano_13 : decode cX2_piano 13 = .ok (.getfield 10, 3) := by decide +kernel
theorem dX2_piano_16 : decode cX2_piano 16 = .ok (.iload_n 1, 1) := by decide +kernel
theorem dX2_piano_17 : decode cX2_piano 17 = .ok (.iload_n 2, 1) := by decide +kernel
theorem dX2_piano_18 : decode cX2_piano 18 = .ok (.invokevirtual 59, 3) := by decide +kernel
theorem dX2_piano_21 : decode cX2_piano 21 = .ok (.invokevirtual 52, 3) := by decide +kernel
theorem dX2_piano_24 : decode cX2_piano 24 = .ok (.ireturn, 1) := by decide +kernel
set_option maxRecDepth 20000 in
theorem ggX2_take_X2_copy : GoodIn wsX2_take wsX2_copy := goodIn_r _ [6, 7, 8, 9, 10, 45, 46, 47, 48, 49, 50, 51, 52, 53, 54, 55, 56, 57, 58, 59, 60, 61, 62] (by decide +kernel) (by decide +kernel)
set_option maxRecDepth 20000 in
theorem gX2_take_X2_copy : GoodIn wsX2_take (va_wsS RX2 44 yX2_copy wsX2_copy) := goodIn_app (goodIn_of _ (by decide +kernel)) ggX2_take_X2_copy
set_option maxRecDepth 20000 in
theorem ggX2_take_X1_removePiano : GoodIn wsX2_take wsX1_removePiano := goodIn_r _ [14, 15, 16, 17, 18, 5, 19, 20, 21, 22, 23, 24, 25, 26, 45, 46, 47, 48, 49, 50, 51, 52, 53, 54, 55, 56, 57, 58, 59, 60, 61, 62] (by decide +kernel) (by decide +kernel)
set_option maxRecDepth 20000 in
theorem gX2_take_X1_removePiano_n62 : GoodIn wsX2_take (wsX1_removePiano) := ggX2_take_X1_removePiano
set_option maxRecDepth 20000 in
theorem ggX2_take_X2_recorded : GoodIn wsX2_take wsX2_recorded := goodIn_r _ [30, 31, 2, 32, 33, 34, 35, 5, 36, 3, 4, 6, 7, 8, 9, 10, 37, 38, 39, 40, 41, 42, 43, 44, 45, 46, 47, 48, 49, 50, 51, 52, 53, 54, 55, 56, 57, 58, 59, 60, 61, 62] (by decide +kernel) (by decide +kernel)
set_option maxRecDepth 20000 in
theorem gX2_take_X2_recorded : GoodIn wsX2_take (wsV RX2 52 RX2 yX2_recorded wsX2_recorded) := goodIn_app (goodIn_of _ (by decide +kernel)) ggX2_take_X2_recorded
theorem dX2_take_0 : decode cX2_take 0 = .ok (.aload_n 0, 1) := by decide +kernel
theorem dX2_take_1 : decode cX2_take 1 = .ok (.getfield 10, 3) := by decide +kernel
theorem dX2_take_4 : decode cX2_take 4 = .ok (.aload_n 0, 1) := by decide +kernel
theorem dX2_take_5 : decode cX2_take 5 = .ok (.getfield 16, 3) := by decide +kernel
theorem dX2_take_8 : decode cX2_take 8 = .ok (.invokestatic 44, 3) := by decide +kernel
theorem dX2_take_11 : decode cX2_take 11 = .ok (.aload_n 0, 1) := by decide +kernel
theorem dX2_take_12 : decode cX2_take 12 = .ok (.aload_n 0, 1) := by decide +kernel
theorem dX2_take_13 : decode cX2_take 13 = .ok (.getfield 10, 3) := by decide +kernel
theorem dX2_take_16 : decode cX2_take 16 = .ok (.iload_n 1, 1) := by decide +kernel
theorem dX2_take_17 : decode cX2_take 17 = .ok (.invokevirtual 62, 3) := by decide +kernel
theorem dX2_take_20 : decode cX2_take 20 = .ok (.invokevirtual 52, 3) := by decide +kernel
theorem dX2_take_23 : decode cX2_take 23 = .ok (.ireturn, 1) := by decide +kernel
set_option maxRecDepth 20000 in
theorem ggX2_keeper_X2_copy : GoodIn wsX2_keeper wsX2_copy := goodIn_r _ [6, 7, 8, 9, 10, 45, 46, 47, 48, 49, 50, 51, 52, 53, 54, 55, 56, 57, 58, 59, 60, 61, 62] (by decide +kernel) (by decide +kernel)
set_option maxRecDepth 20000 in
theorem gX2_keeper_X2_copy : GoodIn wsX2_keeper (va_wsS RX2 44 yX2_copy wsX2_copy) := goodIn_app (goodIn_of _ (by decide +kernel)) ggX2_keeper_X2_copy
set_option maxRecDepth 20000 in
theorem ggX2_keeper_X1_hireKeeper : GoodIn wsX2_keeper wsX1_hireKeeper := goodIn_r _ [14, 15, 16, 5, 17, 18, 19, 20, 12, 21, 22, 23, 24, 25, 26, 45, 46, 47, 48, 49, 50, 51, 52, 53, 54, 55, 56, 57, 58, 59, 60, 61, 62] (by decide +kernel) (by decide +kernel)
set_option maxRecDepth 20000 in
theorem gX2_keeper_X1_hireKeeper_n65 : GoodIn wsX2_keeper (wsX1_hireKeeper) := ggX2_keeper_X1_hireKeeper
set_option maxRecDepth 20000 in
theorem ggX2_keeper_X2_recorded : GoodIn wsX2_keeper wsX2_recorded := goodIn_r _ [30, 31, 2, 32, 33, 34, 35, 5, 36, 3, 4, 6, 7, 8, 9, 10, 37, 38, 39, 40, 41, 42, 43, 44, 45, 46, 47, 48, 49, 50, 51, 52, 53, 54, 55, 56, 57, 58, 59, 60, 61, 62] (by decide +kernel) (by decide +kernel)
set_option maxRecDepth 20000 in
theorem gX2_keeper_X2_recorded : GoodIn wsX2_keeper (wsV RX2 52 RX2 yX2_recorded wsX2_recorded) := goodIn_app (goodIn_of _ (by decide +kernel)) ggX2_keeper_X2_recorded
theorem dX2_keeper_0 : decode cX2_keeper 0 = .ok (.aload_n 0, 1) := by decide +kernel
theorem dX2_keeper_1 : decode cX2_keeper 1 = .ok (.getfield 10, 3) := by decide +kernel
theorem dX2_keeper_4 : decode cX2_keeper 4 = .ok (.aload_n 0, 1) := by decide +kernel
theorem dX2_keeper_5 : decode cX2_keeper 5 = .ok (.getfield 16, 3) := by decide +kernel
theorem dX2_keeper_8 : decode cX2_keeper 8 = .ok (.invokestatic 44, 3) := by decide +kernel
theorem dX2_keeper_11 : decode cX2_keeper 11 = .ok (.aload_n 0, 1) := by decide +kernel
theorem dX2_keeper_12 : decode cX2_keeper 12 = .ok (.aload_n 0, 1) := by decide +kernel
theorem dX2_keeper_13 : decode cX2_keeper 13 = .ok (.getfield 10, 3) := by decide +kernel
theorem dX2_keeper_16 : decode cX2_keeper 16 = .ok (.iload_n 1, 1) := by decide +kernel
theorem dX2_keeper_17 : decode cX2_keeper 17 = .ok (.invokevirtual 65, 3) := by decide +kernel
theorem dX2_keeper_20 : decode cX2_keeper 20 = .ok (.invokevirtual 52, 3) := by decide +kernel
theorem dX2_keeper_23 : decode cX2_keeper 23 = .ok (.ireturn, 1) := by decide +kernel
set_option maxRecDepth 20000 in
theorem ggX2_cover_X2_copy : GoodIn wsX2_cover wsX2_copy := goodIn_r _ [6, 7, 8, 9, 10, 45, 46, 47, 48, 49, 50, 51, 52, 53, 54, 55, 56, 57, 58, 59, 60, 61, 62] (by decide +kernel) (by decide +kernel)
set_option maxRecDepth 20000 in
theorem gX2_cover_X2_copy : GoodIn wsX2_cover (va_wsS RX2 44 yX2_copy wsX2_copy) := goodIn_app (goodIn_of _ (by decide +kernel)) ggX2_cover_X2_copy
set_option maxRecDepth 20000 in
theorem ggX2_cover_X1_layCover : GoodIn wsX2_cover wsX1_layCover := goodIn_r _ [14, 15, 16, 17, 18, 5, 19, 20, 21, 22, 23, 24, 25, 26, 45, 46, 47, 48, 49, 50, 51, 52, 53, 54, 55, 56, 57, 58, 59, 60, 61, 62] (by decide +kernel) (by decide +kernel)
set_option maxRecDepth 20000 in
theorem gX2_cover_X1_layCover_n68 : GoodIn wsX2_cover (wsX1_layCover) := ggX2_cover_X1_layCover
set_option maxRecDepth 20000 in
theorem ggX2_cover_X2_recorded : GoodIn wsX2_cover wsX2_recorded := goodIn_r _ [30, 31, 2, 32, 33, 34, 35, 5, 36, 3, 4, 6, 7, 8, 9, 10, 37, 38, 39, 40, 41, 42, 43, 44, 45, 46, 47, 48, 49, 50, 51, 52, 53, 54, 55, 56, 57, 58, 59, 60, 61, 62] (by decide +kernel) (by decide +kernel)
set_option maxRecDepth 20000 in
theorem gX2_cover_X2_recorded : GoodIn wsX2_cover (wsV RX2 52 RX2 yX2_recorded wsX2_recorded) := goodIn_app (goodIn_of _ (by decide +kernel)) ggX2_cover_X2_recorded
theorem dX2_cover_0 : decode cX2_cover 0 = .ok (.aload_n 0, 1) := by decide +kernel
theorem dX2_cover_1 : decode cX2_cover 1 = .ok (.getfield 10, 3) := by decide +kernel
theorem dX2_cover_4 : decode cX2_cover 4 = .ok (.aload_n 0, 1) := by decide +kernel
theorem dX2_cover_5 : decode cX2_cover 5 = .ok (.getfield 16, 3) := by decide +kernel
theorem dX2_cover_8 : decode cX2_cover 8 = .ok (.invokestatic 44, 3) := by decide +kernel
theorem dX2_cover_11 : decode cX2_cover 11 = .ok (.aload_n 0, 1) := by decide +kernel
theorem dX2_cover_12 : decode cX2_cover 12 = .ok (.aload_n 0, 1) := by decide +kernel
theorem dX2_cover_13 : decode cX2_cover 13 = .ok (.getfield 10, 3) := by decide +kernel
theorem dX2_cover_16 : decode cX2_cover 16 = .ok (.iload_n 1, 1) := by decide +kernel
theorem dX2_cover_17 : decode cX2_cover 17 = .ok (.invokevirtual 68, 3) := by decide +kernel
theorem dX2_cover_20 : decode cX2_cover 20 = .ok (.invokevirtual 52, 3) := by decide +kernel
theorem dX2_cover_23 : decode cX2_cover 23 = .ok (.ireturn, 1) := by decide +kernel
set_option maxRecDepth 20000 in
theorem ggX2_pass_X2_copy : GoodIn wsX2_pass wsX2_copy := goodIn_r _ [6, 7, 8, 9, 10, 123, 124, 125, 126, 127, 128, 129, 130, 131, 132, 133, 134, 135, 136, 137, 138, 139, 140] (by decide +kernel) (by decide +kernel)
set_option maxRecDepth 20000 in
theorem gX2_pass_X2_copy : GoodIn wsX2_pass (va_wsS RX2 44 yX2_copy wsX2_copy) := goodIn_app (goodIn_of _ (by decide +kernel)) ggX2_pass_X2_copy
set_option maxRecDepth 20000 in
theorem ggX2_pass_X1_passCounted : GoodIn wsX2_pass wsX1_passCounted := goodIn_r _ [14, 15, 16, 17, 18, 12, 19, 20, 21, 22, 23, 24, 25, 26, 27, 28, 29, 30, 31, 32, 33, 34, 35, 36, 37, 38, 39, 40, 41, 42, 5, 43, 44, 45, 46, 47, 48, 49, 50, 51, 52, 53, 54, 55, 56, 57, 58, 59, 60, 61, 62, 63, 64, 65, 66, 67, 68, 69, 70, 71, 72, 73, 74, 75, 76, 77, 78, 79, 80, 81, 82, 83, 84, 85, 86, 87, 88, 89, 90, 91, 92, 93, 94, 95, 96, 97, 98, 99, 100, 101, 102, 103, 104, 123, 124, 125, 126, 127, 128, 129, 130, 131, 132, 133, 134, 135, 136, 137, 138, 139, 140] (by decide +kernel) (by decide +kernel)
set_option maxRecDepth 20000 in
theorem gX2_pass_X1_passCounted_n71 : GoodIn wsX2_pass (wsX1_passCounted) := ggX2_pass_X1_passCounted
set_option maxRecDepth 20000 in
theorem ggX2_pass_X2_recorded : GoodIn wsX2_pass wsX2_recorded := goodIn_r _ [108, 109, 2, 110, 111, 112, 113, 5, 114, 3, 4, 6, 7, 8, 9, 10, 115, 116, 117, 118, 119, 120, 121, 122, 123, 124, 125, 126, 127, 128, 129, 130, 131, 132, 133, 134, 135, 136, 137, 138, 139, 140] (by decide +kernel) (by decide +kernel)
set_option maxRecDepth 20000 in
theorem gX2_pass_X2_recorded : GoodIn wsX2_pass (wsV RX2 52 RX2 yX2_recorded wsX2_recorded) := goodIn_app (goodIn_of _ (by decide +kernel)) ggX2_pass_X2_recorded
theorem dX2_pass_0 : decode cX2_pass 0 = .ok (.aload_n 0, 1) := by decide +kernel
theorem dX2_pass_1 : decode cX2_pass 1 = .ok (.getfield 10, 3) := by decide +kernel
theorem dX2_pass_4 : decode cX2_pass 4 = .ok (.aload_n 0, 1) := by decide +kernel
theorem dX2_pass_5 : decode cX2_pass 5 = .ok (.getfield 16, 3) := by decide +kernel
theorem dX2_pass_8 : decode cX2_pass 8 = .ok (.invokestatic 44, 3) := by decide +kernel
theorem dX2_pass_11 : decode cX2_pass 11 = .ok (.aload_n 0, 1) := by decide +kernel
theorem dX2_pass_12 : decode cX2_pass 12 = .ok (.aload_n 0, 1) := by decide +kernel
theorem dX2_pass_13 : decode cX2_pass 13 = .ok (.getfield 10, 3) := by decide +kernel
theorem dX2_pass_16 : decode cX2_pass 16 = .ok (.iload_n 1, 1) := by decide +kernel
theorem dX2_pass_17 : decode cX2_pass 17 = .ok (.invokevirtual 71, 3) := by decide +kernel
theorem dX2_pass_20 : decode cX2_pass 20 = .ok (.invokevirtual 52, 3) := by decide +kernel
theorem dX2_pass_23 : decode cX2_pass 23 = .ok (.ireturn, 1) := by decide +kernel
set_option maxRecDepth 20000 in
theorem ggX2_of_X2_has : GoodIn wsX2_of wsX2_has := goodIn_r _ [5] (by decide +kernel) (by decide +kernel)
set_option maxRecDepth 20000 in
theorem gX2_of_X2_has : GoodIn wsX2_of (va_wsS RX2 77 yX2_has wsX2_has) := goodIn_app (goodIn_of _ (by decide +kernel)) ggX2_of_X2_has
set_option maxRecDepth 20000 in
theorem ggX2_of_X1_coverAt : GoodIn wsX2_of wsX1_coverAt := goodIn_r _ [9, 10, 11, 3, 4, 5, 25, 26, 27, 28, 29, 30, 31, 32, 33, 34, 35, 36, 37, 38, 39, 40, 41, 42] (by decide +kernel) (by decide +kernel)
set_option maxRecDepth 20000 in
theorem gX2_of_X1_coverAt_n88 : GoodIn wsX2_of (wsX1_coverAt) := ggX2_of_X1_coverAt
set_option maxRecDepth 20000 in
theorem ggX2_of_X1_keepersAt : GoodIn wsX2_of wsX1_keepersAt := goodIn_r _ [14, 15, 16, 25, 26, 27, 28, 29, 30, 31, 32, 33, 34, 35, 36, 37, 38, 39, 40, 41, 42] (by decide +kernel) (by decide +kernel)
set_option maxRecDepth 20000 in
theorem gX2_of_X1_keepersAt_n97 : GoodIn wsX2_of (wsX1_keepersAt) := ggX2_of_X1_keepersAt
theorem dX2_of_0 : decode cX2_of 0 = .ok (.aload_n 0, 1) := by decide +kernel
theorem dX2_of_1 : decode cX2_of 1 = .ok (.getfield 10, 3) := by decide +kernel
theorem dX2_of_4 : decode cX2_of 4 = .ok (.getfield 74, 3) := by decide +kernel
theorem dX2_of_7 : decode cX2_of 7 = .ok (.iload_n 1, 1) := by decide +kernel
theorem dX2_of_8 : decode cX2_of 8 = .ok (.invokestatic 77, 3) := by decide +kernel
theorem dX2_of_11 : decode cX2_of 11 = .ok (.ifCond .ne 5, 3) := by decide +kernel
theorem dX2_of_14 : decode cX2_of 14 = .ok (.iconst (-1), 1) := by decide +kernel
theorem dX2_of_15 : decode cX2_of 15 = .ok (.ireturn, 1) := by decide +kernel
theorem dX2_of_16 : decode cX2_of 16 = .ok (.iload_n 2, 1) := by decide +kernel
theorem dX2_of_17 : decode cX2_of 17 = .ok (.tableswitch 97 0 5 #[39, 49, 59, 68, 78, 88], 39) := by decide +kernel
theorem dX2_of_56 : decode cX2_of 56 = .ok (.aload_n 0, 1) := by decide +kernel
theorem dX2_of_57 : decode cX2_of 57 = .ok (.getfield 10, 3) := by decide +kernel
theorem dX2_of_60 : decode cX2_of 60 = .ok (.getfield 81, 3) := by decide +kernel
theorem dX2_of_63 : decode cX2_of 63 = .ok (.iload_n 1, 1) := by decide +kernel
theorem dX2_of_64 : decode cX2_of 64 = .ok (.iaload, 1) := by decide +kernel
theorem dX2_of_65 : decode cX2_of 65 = .ok (.ireturn, 1) := by decide +kernel
theorem dX2_of_66 : decode cX2_of 66 = .ok (.aload_n 0, 1) := by decide +kernel
theorem dX2_of_67 : decode cX2_of 67 = .ok (.getfield 10, 3) := by decide +kernel
theorem dX2_of_70 : decode cX2_of 70 = .ok (.getfield 85, 3) := by decide +kernel
theorem dX2_of_73 : decode cX2_of 73 = .ok (.iload_n 1, 1) := by decide +kernel
theorem dX2_of_74 : decode cX2_of 74 = .ok (.iaload, 1) := by decide +kernel
theorem dX2_of_75 : decode cX2_of 75 = .ok (.ireturn, 1) := by decide +kernel
theorem dX2_of_76 : decode cX2_of 76 = .ok (.aload_n 0, 1) := by decide +kernel
theorem dX2_of_77 : decode cX2_of 77 = .ok (.getfield 10, 3) := by decide +kernel
theorem dX2_of_80 : decode cX2_of 80 = .ok (.iload_n 1, 1) := by decide +kernel
theorem dX2_of_81 : decode cX2_of 81 = .ok (.invokevirtual 88, 3) := by decide +kernel
theorem dX2_of_84 : decode cX2_of 84 = .ok (.ireturn, 1) := by decide +kernel
theorem dX2_of_85 : decode cX2_of 85 = .ok (.aload_n 0, 1) := by decide +kernel
theorem dX2_of_86 : decode cX2_of 86 = .ok (.getfield 10, 3) := by decide +kernel
theorem dX2_of_89 : decode cX2_of 89 = .ok (.getfield 91, 3) := by decide +kernel
theorem dX2_of_92 : decode cX2_of 92 = .ok (.iload_n 1, 1) := by decide +kernel
theorem dX2_of_93 : decode cX2_of 93 = .ok (.iaload, 1) := by decide +kernel
theorem dX2_of_94 : decode cX2_of 94 = .ok (.ireturn, 1) := by decide +kernel
theorem dX2_of_95 : decode cX2_of 95 = .ok (.aload_n 0, 1) := by decide +kernel
theorem dX2_of_96 : decode cX2_of 96 = .ok (.getfield 10, 3) := by decide +kernel
theorem dX2_of_99 : decode cX2_of 99 = .ok (.getfield 94, 3) := by decide +kernel
theorem dX2_of_102 : decode cX2_of 102 = .ok (.iload_n 1, 1) := by decide +kernel
theorem dX2_of_103 : decode cX2_of 103 = .ok (.iaload, 1) := by decide +kernel
theorem dX2_of_104 : decode cX2_of 104 = .ok (.ireturn, 1) := by decide +kernel
theorem dX2_of_105 : decode cX2_of 105 = .ok (.aload_n 0, 1) := by decide +kernel
theorem dX2_of_106 : decode cX2_of 106 = .ok (.getfield 10, 3) := by decide +kernel
theorem dX2_of_109 : decode cX2_of 109 = .ok (.iload_n 1, 1) := by decide +kernel
theorem dX2_of_110 : decode cX2_of 110 = .ok (.invokevirtual 97, 3) := by decide +kernel
theorem dX2_of_113 : decode cX2_of 113 = .ok (.ireturn, 1) := by decide +kernel
theorem dX2_of_114 : decode cX2_of 114 = .ok (.bipush (-2), 2) := by decide +kernel
theorem dX2_of_116 : decode cX2_of 116 = .ok (.ireturn, 1) := by decide +kernel
theorem dX2_ofKeeper_0 : decode cX2_ofKeeper 0 = .ok (.iload_n 1, 1) := by decide +kernel
theorem dX2_ofKeeper_1 : decode cX2_ofKeeper 1 = .ok (.ifCond .lt 19, 3) := by decide +kernel
theorem dX2_ofKeeper_4 : decode cX2_ofKeeper 4 = .ok (.iload_n 1, 1) := by decide +kernel
theorem dX2_ofKeeper_5 : decode cX2_ofKeeper 5 = .ok (.aload_n 0, 1) := by decide +kernel
theorem dX2_ofKeeper_6 : decode cX2_ofKeeper 6 = .ok (.getfield 10, 3) := by decide +kernel
theorem dX2_ofKeeper_9 : decode cX2_ofKeeper 9 = .ok (.getfield 100, 3) := by decide +kernel
theorem dX2_ofKeeper_12 : decode cX2_ofKeeper 12 = .ok (.if_icmp .ge 8, 3) := by decide +kernel
theorem dX2_ofKeeper_15 : decode cX2_ofKeeper 15 = .ok (.iload_n 1, 1) := by decide +kernel
theorem dX2_ofKeeper_16 : decode cX2_ofKeeper 16 = .ok (.iconst 4, 1) := by decide +kernel
theorem dX2_ofKeeper_17 : decode cX2_ofKeeper 17 = .ok (.if_icmp .lt 5, 3) := by decide +kernel
theorem dX2_ofKeeper_20 : decode cX2_ofKeeper 20 = .ok (.iconst (-1), 1) := by decide +kernel
theorem dX2_ofKeeper_21 : decode cX2_ofKeeper 21 = .ok (.ireturn, 1) := by decide +kernel
theorem dX2_ofKeeper_22 : decode cX2_ofKeeper 22 = .ok (.iload_n 2, 1) := by decide +kernel
theorem dX2_ofKeeper_23 : decode cX2_ofKeeper 23 = .ok (.tableswitch 83 0 4 #[33, 43, 53, 63, 73], 33) := by decide +kernel
theorem dX2_ofKeeper_56 : decode cX2_ofKeeper 56 = .ok (.aload_n 0, 1) := by decide +kernel
theorem dX2_ofKeeper_57 : decode cX2_ofKeeper 57 = .ok (.getfield 10, 3) := by decide +kernel
theorem dX2_ofKeeper_60 : decode cX2_ofKeeper 60 = .ok (.getfield 103, 3) := by decide +kernel
theorem dX2_ofKeeper_63 : decode cX2_ofKeeper 63 = .ok (.iload_n 1, 1) := by decide +kernel
theorem dX2_ofKeeper_64 : decode cX2_ofKeeper 64 = .ok (.iaload, 1) := by decide +kernel
theorem dX2_ofKeeper_65 : decode cX2_ofKeeper 65 = .ok (.ireturn, 1) := by decide +kernel
theorem dX2_ofKeeper_66 : decode cX2_ofKeeper 66 = .ok (.aload_n 0, 1) := by decide +kernel
theorem dX2_ofKeeper_67 : decode cX2_ofKeeper 67 = .ok (.getfield 10, 3) := by decide +kernel
theorem dX2_ofKeeper_70 : decode cX2_ofKeeper 70 = .ok (.getfield 106, 3) := by decide +kernel
theorem dX2_ofKeeper_73 : decode cX2_ofKeeper 73 = .ok (.iload_n 1, 1) := by decide +kernel
theorem dX2_ofKeeper_74 : decode cX2_ofKeeper 74 = .ok (.iaload, 1) := by decide +kernel
theorem dX2_ofKeeper_75 : decode cX2_ofKeeper 75 = .ok (.ireturn, 1) := by decide +kernel
theorem dX2_ofKeeper_76 : decode cX2_ofKeeper 76 = .ok (.aload_n 0, 1) := by decide +kernel
theorem dX2_ofKeeper_77 : decode cX2_ofKeeper 77 = .ok (.getfield 10, 3) := by decide +kernel
theorem dX2_ofKeeper_80 : decode cX2_ofKeeper 80 = .ok (.getfield 109, 3) := by decide +kernel
theorem dX2_ofKeeper_83 : decode cX2_ofKeeper 83 = .ok (.iload_n 1, 1) := by decide +kernel
theorem dX2_ofKeeper_84 : decode cX2_ofKeeper 84 = .ok (.iaload, 1) := by decide +kernel
theorem dX2_ofKeeper_85 : decode cX2_ofKeeper 85 = .ok (.ireturn, 1) := by decide +kernel
theorem dX2_ofKeeper_86 : decode cX2_ofKeeper 86 = .ok (.aload_n 0, 1) := by decide +kernel
theorem dX2_ofKeeper_87 : decode cX2_ofKeeper 87 = .ok (.getfield 10, 3) := by decide +kernel
theorem dX2_ofKeeper_90 : decode cX2_ofKeeper 90 = .ok (.getfield 112, 3) := by decide +kernel
theorem dX2_ofKeeper_93 : decode cX2_ofKeeper 93 = .ok (.iload_n 1, 1) := by decide +kernel
theorem dX2_ofKeeper_94 : decode cX2_ofKeeper 94 = .ok (.iaload, 1) := by decide +kernel
theorem dX2_ofKeeper_95 : decode cX2_ofKeeper 95 = .ok (.ireturn, 1) := by decide +kernel
theorem dX2_ofKeeper_96 : decode cX2_ofKeeper 96 = .ok (.aload_n 0, 1) := by decide +kernel
theorem dX2_ofKeeper_97 : decode cX2_ofKeeper 97 = .ok (.getfield 10, 3) := by decide +kernel
theorem dX2_ofKeeper_100 : decode cX2_ofKeeper 100 = .ok (.getfield 115, 3) := by decide +kernel
theorem dX2_ofKeeper_103 : decode cX2_ofKeeper 103 = .ok (.iload_n 1, 1) := by decide +kernel
theorem dX2_ofKeeper_104 : decode cX2_ofKeeper 104 = .ok (.iaload, 1) := by decide +kernel
theorem dX2_ofKeeper_105 : decode cX2_ofKeeper 105 = .ok (.ireturn, 1) := by decide +kernel
theorem dX2_ofKeeper_106 : decode cX2_ofKeeper 106 = .ok (.bipush (-2), 2) := by decide +kernel
theorem dX2_ofKeeper_108 : decode cX2_ofKeeper 108 = .ok (.ireturn, 1) := by decide +kernel
set_option maxRecDepth 20000 in
theorem ggX2_count_X1_rainIsAhead : GoodIn wsX2_count wsX1_rainIsAhead := goodIn_r _ [7, 8, 9, 10, 11, 5, 12, 13, 14, 23, 24, 25, 26, 27, 28, 29, 30, 31, 32, 33, 34, 35, 36, 37, 38, 39, 40] (by decide +kernel) (by decide +kernel)
set_option maxRecDepth 20000 in
theorem gX2_count_X1_rainIsAhead_n139 : GoodIn wsX2_count (wsX1_rainIsAhead) := ggX2_count_X1_rainIsAhead
set_option maxRecDepth 20000 in
theorem ggX2_count_X1_rainsAfter : GoodIn wsX2_count wsX1_rainsAfter := goodIn_r _ [12, 13, 14, 23, 24, 25, 26, 27, 28, 29, 30, 31, 32, 33, 34, 35, 36, 37, 38, 39, 40] (by decide +kernel) (by decide +kernel)
set_option maxRecDepth 20000 in
theorem gX2_count_X1_rainsAfter_n143 : GoodIn wsX2_count (wsX1_rainsAfter) := ggX2_count_X1_rainsAfter
theorem dX2_count_0 : decode cX2_count 0 = .ok (.iload_n 1, 1) := by decide +kernel
theorem dX2_count_1 : decode cX2_count 1 = .ok (.bipush 10, 2) := by decide +kernel
theorem dX2_count_3 : decode cX2_count 3 = .ok (.if_icmp .lt 22, 3) := by decide +kernel
theorem dX2_count_6 : decode cX2_count 6 = .ok (.iload_n 1, 1) := by decide +kernel
theorem dX2_count_7 : decode cX2_count 7 = .ok (.bipush 17, 2) := by decide +kernel
theorem dX2_count_9 : decode cX2_count 9 = .ok (.if_icmp .ge 16, 3) := by decide +kernel
theorem dX2_count_12 : decode cX2_count 12 = .ok (.aload_n 0, 1) := by decide +kernel
theorem dX2_count_13 : decode cX2_count 13 = .ok (.getfield 10, 3) := by decide +kernel
theorem dX2_count_16 : decode cX2_count 16 = .ok (.getfield 118, 3) := by decide +kernel
theorem dX2_count_19 : decode cX2_count 19 = .ok (.iload_n 1, 1) := by decide +kernel
theorem dX2_count_20 : decode cX2_count 20 = .ok (.bipush 10, 2) := by decide +kernel
theorem dX2_count_22 : decode cX2_count 22 = .ok (.isub, 1) := by decide +kernel
theorem dX2_count_23 : decode cX2_count 23 = .ok (.iaload, 1) := by decide +kernel
theorem dX2_count_24 : decode cX2_count 24 = .ok (.ireturn, 1) := by decide +kernel
theorem dX2_count_25 : decode cX2_count 25 = .ok (.iload_n 1, 1) := by decide +kernel
theorem dX2_count_26 : decode cX2_count 26 = .ok (.tableswitch 200 0 18 #[90, 98, 106, 114, 122, 130, 138, 146, 154, 170, 200, 200, 200, 200, 200, 200, 200, 187, 195], 90) := by decide +kernel
theorem dX2_count_116 : decode cX2_count 116 = .ok (.aload_n 0, 1) := by decide +kernel
theorem dX2_count_117 : decode cX2_count 117 = .ok (.getfield 10, 3) := by decide +kernel
theorem dX2_count_120 : decode cX2_count 120 = .ok (.getfield 121, 3) := by decide +kernel
theorem dX2_count_123 : decode cX2_count 123 = .ok (.ireturn, 1) := by decide +kernel
theorem dX2_count_124 : decode cX2_count 124 = .ok (.aload_n 0, 1) := by decide +kernel
theorem dX2_count_125 : decode cX2_count 125 = .ok (.getfield 10, 3) := by decide +kernel
theorem dX2_count_128 : decode cX2_count 128 = .ok (.getfield 74, 3) := by decide +kernel
theorem dX2_count_131 : decode cX2_count 131 = .ok (.ireturn, 1) := by decide +kernel
theorem dX2_count_132 : decode cX2_count 132 = .ok (.aload_n 0, 1) := by decide +kernel
theorem dX2_count_133 : decode cX2_count 133 = .ok (.getfield 10, 3) := by decide +kernel
theorem dX2_count_136 : decode cX2_count 136 = .ok (.getfield 124, 3) := by decide +kernel
theorem dX2_count_139 : decode cX2_count 139 = .ok (.ireturn, 1) := by decide +kernel
theorem dX2_count_140 : decode cX2_count 140 = .ok (.aload_n 0, 1) := by decide +kernel
theorem dX2_count_141 : decode cX2_count 141 = .ok (.getfield 10, 3) := by decide +kernel
theorem dX2_count_144 : decode cX2_count 144 = .ok (.getfield 127, 3) := by decide +kernel
theorem dX2_count_147 : decode cX2_count 147 = .ok (.ireturn, 1) := by decide +kernel
theorem dX2_count_148 : decode cX2_count 148 = .ok (.aload_n 0, 1) := by decide +kernel
theorem dX2_count_149 : decode cX2_count 149 = .ok (.getfield 10, 3) := by decide +kernel
theorem dX2_count_152 : decode cX2_count 152 = .ok (.getfield 100, 3) := by decide +kernel
theorem dX2_count_155 : decode cX2_count 155 = .ok (.ireturn, 1) := by decide +kernel
theorem dX2_count_156 : decode cX2_count 156 = .ok (.aload_n 0, 1) := by decide +kernel
theorem dX2_count_157 : decode cX2_count 157 = .ok (.getfield 10, 3) := by decide +kernel
theorem dX2_count_160 : decode cX2_count 160 = .ok (.getfield 130, 3) := by decide +kernel
theorem dX2_count_163 : decode cX2_count 163 = .ok (.ireturn, 1) := by decide +kernel
theorem dX2_count_164 : decode cX2_count 164 = .ok (.aload_n 0, 1) := by decide +kernel
theorem dX2_count_165 : decode cX2_count 165 = .ok (.getfield 10, 3) := by decide +kernel
theorem dX2_count_168 : decode cX2_count 168 = .ok (.getfield 133, 3) := by decide +kernel
theorem dX2_count_171 : decode cX2_count 171 = .ok (.ireturn, 1) := by decide +kernel
theorem dX2_count_172 : decode cX2_count 172 = .ok (.aload_n 0, 1) := by decide +kernel
theorem dX2_count_173 : decode cX2_count 173 = .ok (.getfield 10, 3) := by decide +kernel
theorem dX2_count_176 : decode cX2_count 176 = .ok (.getfield 136, 3) := by decide +kernel
theorem dX2_count_179 : decode cX2_count 179 = .ok (.ireturn, 1) := by decide +kernel
theorem dX2_count_180 : decode cX2_count 180 = .ok (.aload_n 0, 1) := by decide +kernel
theorem dX2_count_181 : decode cX2_count 181 = .ok (.getfield 10, 3) := by decide +kernel
theorem dX2_count_184 : decode cX2_count 184 = .ok (.invokevirtual 139, 3) := by decide +kernel
theorem dX2_count_187 : decode cX2_count 187 = .ok (.ifCond .eq 7, 3) := by decide +kernel
theorem dX2_count_190 : decode cX2_count 190 = .ok (.iconst 1, 1) := by decide +kernel
theorem dX2_count_191 : decode cX2_count 191 = .ok (.goto 4, 3) := by decide +kernel
theorem dX2_count_194 : decode cX2_count 194 = .ok (.iconst 0, 1) := by decide +kernel
theorem dX2_count_195 : decode cX2_count 195 = .ok (.ireturn, 1) := by decide +kernel
theorem dX2_count_196 : decode cX2_count 196 = .ok (.aload_n 0, 1) := by decide +kernel
theorem dX2_count_197 : decode cX2_count 197 = .ok (.getfield 10, 3) := by decide +kernel
theorem dX2_count_200 : decode cX2_count 200 = .ok (.iconst 0, 1) := by decide +kernel
theorem dX2_count_201 : decode cX2_count 201 = .ok (.invokevirtual 143, 3) := by decide +kernel
theorem dX2_count_204 : decode cX2_count 204 = .ok (.ifCond .eq 7, 3) := by decide +kernel
theorem dX2_count_207 : decode cX2_count 207 = .ok (.iconst 1, 1) := by decide +kernel
theorem dX2_count_208 : decode cX2_count 208 = .ok (.goto 4, 3) := by decide +kernel
theorem dX2_count_211 : decode cX2_count 211 = .ok (.iconst 0, 1) := by decide +kernel
theorem dX2_count_212 : decode cX2_count 212 = .ok (.ireturn, 1) := by decide +kernel
theorem dX2_count_213 : decode cX2_count 213 = .ok (.aload_n 0, 1) := by decide +kernel
theorem dX2_count_214 : decode cX2_count 214 = .ok (.getfield 40, 3) := by decide +kernel
theorem dX2_count_217 : decode cX2_count 217 = .ok (.getfield 147, 3) := by decide +kernel
theorem dX2_count_220 : decode cX2_count 220 = .ok (.ireturn, 1) := by decide +kernel
theorem dX2_count_221 : decode cX2_count 221 = .ok (.aload_n 0, 1) := by decide +kernel
theorem dX2_count_222 : decode cX2_count 222 = .ok (.getfield 26, 3) := by decide +kernel
theorem dX2_count_225 : decode cX2_count 225 = .ok (.ireturn, 1) := by decide +kernel
theorem dX2_count_226 : decode cX2_count 226 = .ok (.bipush (-2), 2) := by decide +kernel
theorem dX2_count_228 : decode cX2_count 228 = .ok (.ireturn, 1) := by decide +kernel
set_option maxRecDepth 20000 in
theorem ggX2_worst_X2_has : GoodIn wsX2_worst wsX2_has := goodIn_r _ [5] (by decide +kernel) (by decide +kernel)
set_option maxRecDepth 20000 in
theorem gX2_worst_X2_has : GoodIn wsX2_worst (va_wsS RX2 77 yX2_has wsX2_has) := goodIn_app (goodIn_of _ (by decide +kernel)) ggX2_worst_X2_has
theorem dX2_worst_0 : decode cX2_worst 0 = .ok (.bipush (-6), 2) := by decide +kernel
theorem dX2_worst_2 : decode cX2_worst 2 = .ok (.istore_n 1, 1) := by decide +kernel
theorem dX2_worst_3 : decode cX2_worst 3 = .ok (.iconst 0, 1) := by decide +kernel
theorem dX2_worst_4 : decode cX2_worst 4 = .ok (.istore_n 2, 1) := by decide +kernel
theorem dX2_worst_5 : decode cX2_worst 5 = .ok (.iconst 0, 1) := by decide +kernel
