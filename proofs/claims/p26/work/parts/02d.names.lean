theorem dX2_worst_6 : decode cX2_worst 6 = .ok (.istore_n 3, 1) := by decide +kernel
theorem dX2_worst_7 : decode cX2_worst 7 = .ok (.iload_n 3, 1) := by decide +kernel
theorem dX2_worst_8 : decode cX2_worst 8 = .ok (.bipush 12, 2) := by decide +kernel
theorem dX2_worst_10 : decode cX2_worst 10 = .ok (.if_icmp .ge 61, 3) := by decide +kernel
theorem dX2_worst_13 : decode cX2_worst 13 = .ok (.aload_n 0, 1) := by decide +kernel
theorem dX2_worst_14 : decode cX2_worst 14 = .ok (.getfield 10, 3) := by decide +kernel
theorem dX2_worst_17 : decode cX2_worst 17 = .ok (.getfield 81, 3) := by decide +kernel
theorem dX2_worst_20 : decode cX2_worst 20 = .ok (.iload_n 3, 1) := by decide +kernel
theorem dX2_worst_21 : decode cX2_worst 21 = .ok (.iaload, 1) := by decide +kernel
theorem dX2_worst_22 : decode cX2_worst 22 = .ok (.aload_n 0, 1) := by decide +kernel
theorem dX2_worst_23 : decode cX2_worst 23 = .ok (.getfield 10, 3) := by decide +kernel
theorem dX2_worst_26 : decode cX2_worst 26 = .ok (.getfield 85, 3) := by decide +kernel
theorem dX2_worst_29 : decode cX2_worst 29 = .ok (.iload_n 3, 1) := by decide +kernel
theorem dX2_worst_30 : decode cX2_worst 30 = .ok (.iaload, 1) := by decide +kernel
theorem dX2_worst_31 : decode cX2_worst 31 = .ok (.isub, 1) := by decide +kernel
theorem dX2_worst_32 : decode cX2_worst 32 = .ok (.istore 4, 2) := by decide +kernel
theorem dX2_worst_34 : decode cX2_worst 34 = .ok (.aload_n 0, 1) := by decide +kernel
theorem dX2_worst_35 : decode cX2_worst 35 = .ok (.getfield 10, 3) := by decide +kernel
theorem dX2_worst_38 : decode cX2_worst 38 = .ok (.getfield 74, 3) := by decide +kernel
theorem dX2_worst_41 : decode cX2_worst 41 = .ok (.iload_n 3, 1) := by decide +kernel
theorem dX2_worst_42 : decode cX2_worst 42 = .ok (.invokestatic 77, 3) := by decide +kernel
theorem dX2_worst_45 : decode cX2_worst 45 = .ok (.ifCond .eq 20, 3) := by decide +kernel
theorem dX2_worst_48 : decode cX2_worst 48 = .ok (.iload_n 1, 1) := by decide +kernel
theorem dX2_worst_49 : decode cX2_worst 49 = .ok (.bipush (-6), 2) := by decide +kernel
theorem dX2_worst_51 : decode cX2_worst 51 = .ok (.if_icmp .eq 9, 3) := by decide +kernel
theorem dX2_worst_54 : decode cX2_worst 54 = .ok (.iload 4, 2) := by decide +kernel
theorem dX2_worst_56 : decode cX2_worst 56 = .ok (.iload_n 2, 1) := by decide +kernel
theorem dX2_worst_57 : decode cX2_worst 57 = .ok (.if_icmp .ge 8, 3) := by decide +kernel
theorem dX2_worst_60 : decode cX2_worst 60 = .ok (.iload_n 3, 1) := by decide +kernel
theorem dX2_worst_61 : decode cX2_worst 61 = .ok (.istore_n 1, 1) := by decide +kernel
theorem dX2_worst_62 : decode cX2_worst 62 = .ok (.iload 4, 2) := by decide +kernel
theorem dX2_worst_64 : decode cX2_worst 64 = .ok (.istore_n 2, 1) := by decide +kernel
theorem dX2_worst_65 : decode cX2_worst 65 = .ok (.iinc 3 1, 3) := by decide +kernel
theorem dX2_worst_68 : decode cX2_worst 68 = .ok (.goto (-61), 3) := by decide +kernel
theorem dX2_worst_71 : decode cX2_worst 71 = .ok (.iload_n 1, 1) := by decide +kernel
theorem dX2_worst_72 : decode cX2_worst 72 = .ok (.ireturn, 1) := by decide +kernel
set_option maxRecDepth 20000 in
theorem ggX2_why_X2_has : GoodIn wsX2_why wsX2_has := goodIn_r _ [5] (by decide +kernel) (by decide +kernel)
set_option maxRecDepth 20000 in
theorem gX2_why_X2_has : GoodIn wsX2_why (va_wsS RX2 77 yX2_has wsX2_has) := goodIn_app (goodIn_of _ (by decide +kernel)) ggX2_why_X2_has
set_option maxRecDepth 20000 in
theorem ggX2_why_X1_rainIsAhead : GoodIn wsX2_why wsX1_rainIsAhead := goodIn_r _ [9, 10, 11, 12, 13, 7, 14, 15, 16, 30, 31, 32, 33, 34, 35, 36, 37, 38, 39, 40, 41, 42, 43, 44, 45, 46, 47] (by decide +kernel) (by decide +kernel)
set_option maxRecDepth 20000 in
theorem gX2_why_X1_rainIsAhead_n139 : GoodIn wsX2_why (wsX1_rainIsAhead) := ggX2_why_X1_rainIsAhead
set_option maxRecDepth 20000 in
theorem ggX2_why_X1_keepersAt : GoodIn wsX2_why wsX1_keepersAt := goodIn_r _ [19, 20, 21, 30, 31, 32, 33, 34, 35, 36, 37, 38, 39, 40, 41, 42, 43, 44, 45, 46, 47] (by decide +kernel) (by decide +kernel)
set_option maxRecDepth 20000 in
theorem gX2_why_X1_keepersAt_n97 : GoodIn wsX2_why (wsX1_keepersAt) := ggX2_why_X1_keepersAt
theorem dX2_why_0 : decode cX2_why 0 = .ok (.aload_n 0, 1) := by decide +kernel
theorem dX2_why_1 : decode cX2_why 1 = .ok (.getfield 10, 3) := by decide +kernel
theorem dX2_why_4 : decode cX2_why 4 = .ok (.getfield 74, 3) := by decide +kernel
theorem dX2_why_7 : decode cX2_why 7 = .ok (.iload_n 1, 1) := by decide +kernel
theorem dX2_why_8 : decode cX2_why 8 = .ok (.invokestatic 77, 3) := by decide +kernel
theorem dX2_why_11 : decode cX2_why 11 = .ok (.ifCond .ne 5, 3) := by decide +kernel
theorem dX2_why_14 : decode cX2_why 14 = .ok (.iconst (-1), 1) := by decide +kernel
theorem dX2_why_15 : decode cX2_why 15 = .ok (.ireturn, 1) := by decide +kernel
theorem dX2_why_16 : decode cX2_why 16 = .ok (.aload_n 0, 1) := by decide +kernel
theorem dX2_why_17 : decode cX2_why 17 = .ok (.getfield 10, 3) := by decide +kernel
theorem dX2_why_20 : decode cX2_why 20 = .ok (.getfield 124, 3) := by decide +kernel
theorem dX2_why_23 : decode cX2_why 23 = .ok (.iload_n 1, 1) := by decide +kernel
theorem dX2_why_24 : decode cX2_why 24 = .ok (.invokestatic 77, 3) := by decide +kernel
theorem dX2_why_27 : decode cX2_why 27 = .ok (.ifCond .eq 5, 3) := by decide +kernel
theorem dX2_why_30 : decode cX2_why 30 = .ok (.iconst 0, 1) := by decide +kernel
theorem dX2_why_31 : decode cX2_why 31 = .ok (.ireturn, 1) := by decide +kernel
theorem dX2_why_32 : decode cX2_why 32 = .ok (.aload_n 0, 1) := by decide +kernel
theorem dX2_why_33 : decode cX2_why 33 = .ok (.getfield 10, 3) := by decide +kernel
theorem dX2_why_36 : decode cX2_why 36 = .ok (.getfield 127, 3) := by decide +kernel
theorem dX2_why_39 : decode cX2_why 39 = .ok (.iload_n 1, 1) := by decide +kernel
theorem dX2_why_40 : decode cX2_why 40 = .ok (.invokestatic 77, 3) := by decide +kernel
theorem dX2_why_43 : decode cX2_why 43 = .ok (.ifCond .ne 5, 3) := by decide +kernel
theorem dX2_why_46 : decode cX2_why 46 = .ok (.iconst 1, 1) := by decide +kernel
theorem dX2_why_47 : decode cX2_why 47 = .ok (.ireturn, 1) := by decide +kernel
theorem dX2_why_48 : decode cX2_why 48 = .ok (.aload_n 0, 1) := by decide +kernel
theorem dX2_why_49 : decode cX2_why 49 = .ok (.getfield 10, 3) := by decide +kernel
theorem dX2_why_52 : decode cX2_why 52 = .ok (.invokevirtual 139, 3) := by decide +kernel
theorem dX2_why_55 : decode cX2_why 55 = .ok (.ifCond .ne 5, 3) := by decide +kernel
theorem dX2_why_58 : decode cX2_why 58 = .ok (.iconst 2, 1) := by decide +kernel
theorem dX2_why_59 : decode cX2_why 59 = .ok (.ireturn, 1) := by decide +kernel
theorem dX2_why_60 : decode cX2_why 60 = .ok (.aload_n 0, 1) := by decide +kernel
theorem dX2_why_61 : decode cX2_why 61 = .ok (.getfield 10, 3) := by decide +kernel
theorem dX2_why_64 : decode cX2_why 64 = .ok (.getfield 100, 3) := by decide +kernel
theorem dX2_why_67 : decode cX2_why 67 = .ok (.ifCond .ne 5, 3) := by decide +kernel
theorem dX2_why_70 : decode cX2_why 70 = .ok (.iconst 3, 1) := by decide +kernel
theorem dX2_why_71 : decode cX2_why 71 = .ok (.ireturn, 1) := by decide +kernel
theorem dX2_why_72 : decode cX2_why 72 = .ok (.aload_n 0, 1) := by decide +kernel
theorem dX2_why_73 : decode cX2_why 73 = .ok (.getfield 10, 3) := by decide +kernel
theorem dX2_why_76 : decode cX2_why 76 = .ok (.iload_n 1, 1) := by decide +kernel
theorem dX2_why_77 : decode cX2_why 77 = .ok (.invokevirtual 97, 3) := by decide +kernel
theorem dX2_why_80 : decode cX2_why 80 = .ok (.ifCond .ne 7, 3) := by decide +kernel
theorem dX2_why_83 : decode cX2_why 83 = .ok (.iconst 4, 1) := by decide +kernel
theorem dX2_why_84 : decode cX2_why 84 = .ok (.goto 4, 3) := by decide +kernel
theorem dX2_why_87 : decode cX2_why 87 = .ok (.iconst 5, 1) := by decide +kernel
theorem dX2_why_88 : decode cX2_why 88 = .ok (.ireturn, 1) := by decide +kernel
set_option maxRecDepth 20000 in
theorem ggX2_rainIn_X1_hoursUntilRain : GoodIn wsX2_rainIn wsX1_hoursUntilRain := goodIn_r _ [5, 6, 7, 8, 3, 9, 10, 11, 20, 21, 22, 23, 24, 25, 26, 27, 28, 29, 30, 31, 32, 33, 34, 35, 36, 37] (by decide +kernel) (by decide +kernel)
set_option maxRecDepth 20000 in
theorem gX2_rainIn_X1_hoursUntilRain_n150 : GoodIn wsX2_rainIn (wsX1_hoursUntilRain) := ggX2_rainIn_X1_hoursUntilRain
theorem dX2_rainIn_0 : decode cX2_rainIn 0 = .ok (.aload_n 0, 1) := by decide +kernel
theorem dX2_rainIn_1 : decode cX2_rainIn 1 = .ok (.getfield 10, 3) := by decide +kernel
theorem dX2_rainIn_4 : decode cX2_rainIn 4 = .ok (.invokevirtual 150, 3) := by decide +kernel
theorem dX2_rainIn_7 : decode cX2_rainIn 7 = .ok (.ireturn, 1) := by decide +kernel
set_option maxRecDepth 20000 in
theorem ggX2_coveredIn_X2_has : GoodIn wsX2_coveredIn wsX2_has := goodIn_r _ [6] (by decide +kernel) (by decide +kernel)
set_option maxRecDepth 20000 in
theorem gX2_coveredIn_X2_has : GoodIn wsX2_coveredIn (va_wsS RX2 77 yX2_has wsX2_has) := goodIn_app (goodIn_of _ (by decide +kernel)) ggX2_coveredIn_X2_has
set_option maxRecDepth 20000 in
theorem ggX2_coveredIn_X2_copy : GoodIn wsX2_coveredIn wsX2_copy := goodIn_r _ [9, 10, 11, 12, 13, 110, 111, 112, 113, 114, 115, 116, 117, 118, 119, 120, 121, 122, 123, 124, 125, 126, 127] (by decide +kernel) (by decide +kernel)
set_option maxRecDepth 20000 in
theorem gX2_coveredIn_X2_copy : GoodIn wsX2_coveredIn (va_wsS RX2 44 yX2_copy wsX2_copy) := goodIn_app (goodIn_of _ (by decide +kernel)) ggX2_coveredIn_X2_copy
set_option maxRecDepth 20000 in
theorem ggX2_coveredIn_X1_passHours : GoodIn wsX2_coveredIn wsX1_passHours := goodIn_r _ [17, 18, 19, 20, 21, 22, 15, 23, 24, 25, 26, 27, 28, 29, 30, 31, 32, 33, 34, 35, 36, 37, 38, 39, 40, 4, 5, 6, 41, 42, 43, 44, 45, 46, 47, 48, 49, 50, 51, 52, 53, 54, 55, 56, 57, 58, 59, 60, 61, 62, 63, 64, 65, 66, 67, 68, 69, 70, 71, 72, 73, 74, 75, 76, 77, 78, 79, 80, 81, 82, 83, 84, 85, 86, 87, 88, 89, 90, 91, 92, 93, 94, 95, 96, 97, 98, 99, 100, 101, 110, 111, 112, 113, 114, 115, 116, 117, 118, 119, 120, 121, 122, 123, 124, 125, 126, 127] (by decide +kernel) (by decide +kernel)
set_option maxRecDepth 20000 in
theorem gX2_coveredIn_X1_passHours_n154 : GoodIn wsX2_coveredIn (wsX1_passHours) := ggX2_coveredIn_X1_passHours
theorem dX2_coveredIn_0 : decode cX2_coveredIn 0 = .ok (.aload_n 0, 1) := by decide +kernel
theorem dX2_coveredIn_1 : decode cX2_coveredIn 1 = .ok (.getfield 10, 3) := by decide +kernel
theorem dX2_coveredIn_4 : decode cX2_coveredIn 4 = .ok (.getfield 74, 3) := by decide +kernel
theorem dX2_coveredIn_7 : decode cX2_coveredIn 7 = .ok (.iload_n 1, 1) := by decide +kernel
theorem dX2_coveredIn_8 : decode cX2_coveredIn 8 = .ok (.invokestatic 77, 3) := by decide +kernel
theorem dX2_coveredIn_11 : decode cX2_coveredIn 11 = .ok (.ifCond .ne 5, 3) := by decide +kernel
theorem dX2_coveredIn_14 : decode cX2_coveredIn 14 = .ok (.iconst (-1), 1) := by decide +kernel
theorem dX2_coveredIn_15 : decode cX2_coveredIn 15 = .ok (.ireturn, 1) := by decide +kernel
theorem dX2_coveredIn_16 : decode cX2_coveredIn 16 = .ok (.aload_n 0, 1) := by decide +kernel
theorem dX2_coveredIn_17 : decode cX2_coveredIn 17 = .ok (.getfield 10, 3) := by decide +kernel
theorem dX2_coveredIn_20 : decode cX2_coveredIn 20 = .ok (.aload_n 0, 1) := by decide +kernel
theorem dX2_coveredIn_21 : decode cX2_coveredIn 21 = .ok (.getfield 19, 3) := by decide +kernel
theorem dX2_coveredIn_24 : decode cX2_coveredIn 24 = .ok (.invokestatic 44, 3) := by decide +kernel
theorem dX2_coveredIn_27 : decode cX2_coveredIn 27 = .ok (.iconst 0, 1) := by decide +kernel
theorem dX2_coveredIn_28 : decode cX2_coveredIn 28 = .ok (.istore_n 2, 1) := by decide +kernel
theorem dX2_coveredIn_29 : decode cX2_coveredIn 29 = .ok (.iload_n 2, 1) := by decide +kernel
theorem dX2_coveredIn_30 : decode cX2_coveredIn 30 = .ok (.bipush 96, 2) := by decide +kernel
theorem dX2_coveredIn_32 : decode cX2_coveredIn 32 = .ok (.if_icmp .ge 34, 3) := by decide +kernel
theorem dX2_coveredIn_35 : decode cX2_coveredIn 35 = .ok (.aload_n 0, 1) := by decide +kernel
theorem dX2_coveredIn_36 : decode cX2_coveredIn 36 = .ok (.getfield 19, 3) := by decide +kernel
theorem dX2_coveredIn_39 : decode cX2_coveredIn 39 = .ok (.getfield 124, 3) := by decide +kernel
theorem dX2_coveredIn_42 : decode cX2_coveredIn 42 = .ok (.iload_n 1, 1) := by decide +kernel
theorem dX2_coveredIn_43 : decode cX2_coveredIn 43 = .ok (.invokestatic 77, 3) := by decide +kernel
theorem dX2_coveredIn_46 : decode cX2_coveredIn 46 = .ok (.ifCond .eq 5, 3) := by decide +kernel
theorem dX2_coveredIn_49 : decode cX2_coveredIn 49 = .ok (.iload_n 2, 1) := by decide +kernel
theorem dX2_coveredIn_50 : decode cX2_coveredIn 50 = .ok (.ireturn, 1) := by decide +kernel
theorem dX2_coveredIn_51 : decode cX2_coveredIn 51 = .ok (.aload_n 0, 1) := by decide +kernel
theorem dX2_coveredIn_52 : decode cX2_coveredIn 52 = .ok (.getfield 19, 3) := by decide +kernel
theorem dX2_coveredIn_55 : decode cX2_coveredIn 55 = .ok (.iconst 1, 1) := by decide +kernel
theorem dX2_coveredIn_56 : decode cX2_coveredIn 56 = .ok (.invokevirtual 154, 3) := by decide +kernel
theorem dX2_coveredIn_59 : decode cX2_coveredIn 59 = .ok (.pop, 1) := by decide +kernel
theorem dX2_coveredIn_60 : decode cX2_coveredIn 60 = .ok (.iinc 2 1, 3) := by decide +kernel
theorem dX2_coveredIn_63 : decode cX2_coveredIn 63 = .ok (.goto (-34), 3) := by decide +kernel
theorem dX2_coveredIn_66 : decode cX2_coveredIn 66 = .ok (.aload_n 0, 1) := by decide +kernel
theorem dX2_coveredIn_67 : decode cX2_coveredIn 67 = .ok (.getfield 19, 3) := by decide +kernel
theorem dX2_coveredIn_70 : decode cX2_coveredIn 70 = .ok (.getfield 124, 3) := by decide +kernel
theorem dX2_coveredIn_73 : decode cX2_coveredIn 73 = .ok (.iload_n 1, 1) := by decide +kernel
theorem dX2_coveredIn_74 : decode cX2_coveredIn 74 = .ok (.invokestatic 77, 3) := by decide +kernel
theorem dX2_coveredIn_77 : decode cX2_coveredIn 77 = .ok (.ifCond .eq 8, 3) := by decide +kernel
theorem dX2_coveredIn_80 : decode cX2_coveredIn 80 = .ok (.bipush 96, 2) := by decide +kernel
theorem dX2_coveredIn_82 : decode cX2_coveredIn 82 = .ok (.goto 5, 3) := by decide +kernel
theorem dX2_coveredIn_85 : decode cX2_coveredIn 85 = .ok (.bipush (-6), 2) := by decide +kernel
theorem dX2_coveredIn_87 : decode cX2_coveredIn 87 = .ok (.ireturn, 1) := by decide +kernel
set_option maxRecDepth 20000 in
theorem ggX2_willBeWet_X2_copy : GoodIn wsX2_willBeWet wsX2_copy := goodIn_r _ [6, 7, 8, 9, 10, 109, 110, 111, 112, 113, 114, 115, 116, 117, 118, 119, 120, 121, 122, 123, 124, 125, 126] (by decide +kernel) (by decide +kernel)
set_option maxRecDepth 20000 in
theorem gX2_willBeWet_X2_copy : GoodIn wsX2_willBeWet (va_wsS RX2 44 yX2_copy wsX2_copy) := goodIn_app (goodIn_of _ (by decide +kernel)) ggX2_willBeWet_X2_copy
set_option maxRecDepth 20000 in
theorem ggX2_willBeWet_X1_passHours : GoodIn wsX2_willBeWet wsX1_passHours := goodIn_r _ [14, 15, 16, 17, 18, 19, 12, 20, 21, 22, 23, 24, 25, 26, 27, 28, 29, 30, 31, 32, 33, 34, 35, 36, 37, 38, 5, 39, 40, 41, 42, 43, 44, 45, 46, 47, 48, 49, 50, 51, 52, 53, 54, 55, 56, 57, 58, 59, 60, 61, 62, 63, 64, 65, 66, 67, 68, 69, 70, 71, 72, 73, 74, 75, 76, 77, 78, 79, 80, 81, 82, 83, 84, 85, 86, 87, 88, 89, 90, 91, 92, 93, 94, 95, 96, 97, 98, 99, 100, 109, 110, 111, 112, 113, 114, 115, 116, 117, 118, 119, 120, 121, 122, 123, 124, 125, 126] (by decide +kernel) (by decide +kernel)
set_option maxRecDepth 20000 in
theorem gX2_willBeWet_X1_passHours_n154 : GoodIn wsX2_willBeWet (wsX1_passHours) := ggX2_willBeWet_X1_passHours
theorem dX2_willBeWet_0 : decode cX2_willBeWet 0 = .ok (.iload_n 1, 1) := by decide +kernel
theorem dX2_willBeWet_1 : decode cX2_willBeWet 1 = .ok (.iconst 1, 1) := by decide +kernel
theorem dX2_willBeWet_2 : decode cX2_willBeWet 2 = .ok (.if_icmp .lt 9, 3) := by decide +kernel
theorem dX2_willBeWet_5 : decode cX2_willBeWet 5 = .ok (.iload_n 1, 1) := by decide +kernel
theorem dX2_willBeWet_6 : decode cX2_willBeWet 6 = .ok (.bipush 99, 2) := by decide +kernel
theorem dX2_willBeWet_8 : decode cX2_willBeWet 8 = .ok (.if_icmp .le 6, 3) := by decide +kernel
theorem dX2_willBeWet_11 : decode cX2_willBeWet 11 = .ok (.bipush (-2), 2) := by decide +kernel
theorem dX2_willBeWet_13 : decode cX2_willBeWet 13 = .ok (.ireturn, 1) := by decide +kernel
theorem dX2_willBeWet_14 : decode cX2_willBeWet 14 = .ok (.aload_n 0, 1) := by decide +kernel
theorem dX2_willBeWet_15 : decode cX2_willBeWet 15 = .ok (.getfield 10, 3) := by decide +kernel
theorem dX2_willBeWet_18 : decode cX2_willBeWet 18 = .ok (.aload_n 0, 1) := by decide +kernel
theorem dX2_willBeWet_19 : decode cX2_willBeWet 19 = .ok (.getfield 19, 3) := by decide +kernel
theorem dX2_willBeWet_22 : decode cX2_willBeWet 22 = .ok (.invokestatic 44, 3) := by decide +kernel
theorem dX2_willBeWet_25 : decode cX2_willBeWet 25 = .ok (.aload_n 0, 1) := by decide +kernel
theorem dX2_willBeWet_26 : decode cX2_willBeWet 26 = .ok (.getfield 19, 3) := by decide +kernel
theorem dX2_willBeWet_29 : decode cX2_willBeWet 29 = .ok (.iload_n 1, 1) := by decide +kernel
theorem dX2_willBeWet_30 : decode cX2_willBeWet 30 = .ok (.invokevirtual 154, 3) := by decide +kernel
theorem dX2_willBeWet_33 : decode cX2_willBeWet 33 = .ok (.pop, 1) := by decide +kernel
theorem dX2_willBeWet_34 : decode cX2_willBeWet 34 = .ok (.iconst 0, 1) := by decide +kernel
theorem dX2_willBeWet_35 : decode cX2_willBeWet 35 = .ok (.istore_n 2, 1) := by decide +kernel
theorem dX2_willBeWet_36 : decode cX2_willBeWet 36 = .ok (.iconst 0, 1) := by decide +kernel
theorem dX2_willBeWet_37 : decode cX2_willBeWet 37 = .ok (.istore_n 3, 1) := by decide +kernel
theorem dX2_willBeWet_38 : decode cX2_willBeWet 38 = .ok (.iload_n 3, 1) := by decide +kernel
theorem dX2_willBeWet_39 : decode cX2_willBeWet 39 = .ok (.bipush 12, 2) := by decide +kernel
theorem dX2_willBeWet_41 : decode cX2_willBeWet 41 = .ok (.if_icmp .ge 36, 3) := by decide +kernel
theorem dX2_willBeWet_44 : decode cX2_willBeWet 44 = .ok (.aload_n 0, 1) := by decide +kernel
theorem dX2_willBeWet_45 : decode cX2_willBeWet 45 = .ok (.getfield 19, 3) := by decide +kernel
theorem dX2_willBeWet_48 : decode cX2_willBeWet 48 = .ok (.getfield 94, 3) := by decide +kernel
theorem dX2_willBeWet_51 : decode cX2_willBeWet 51 = .ok (.iload_n 3, 1) := by decide +kernel
theorem dX2_willBeWet_52 : decode cX2_willBeWet 52 = .ok (.iaload, 1) := by decide +kernel
theorem dX2_willBeWet_53 : decode cX2_willBeWet 53 = .ok (.aload_n 0, 1) := by decide +kernel
theorem dX2_willBeWet_54 : decode cX2_willBeWet 54 = .ok (.getfield 10, 3) := by decide +kernel
theorem dX2_willBeWet_57 : decode cX2_willBeWet 57 = .ok (.getfield 94, 3) := by decide +kernel
theorem dX2_willBeWet_60 : decode cX2_willBeWet 60 = .ok (.iload_n 3, 1) := by decide +kernel
theorem dX2_willBeWet_61 : decode cX2_willBeWet 61 = .ok (.iaload, 1) := by decide +kernel
theorem dX2_willBeWet_62 : decode cX2_willBeWet 62 = .ok (.if_icmp .le 9, 3) := by decide +kernel
theorem dX2_willBeWet_65 : decode cX2_willBeWet 65 = .ok (.iload_n 2, 1) := by decide +kernel
theorem dX2_willBeWet_66 : decode cX2_willBeWet 66 = .ok (.iconst 1, 1) := by decide +kernel
theorem dX2_willBeWet_67 : decode cX2_willBeWet 67 = .ok (.iload_n 3, 1) := by decide +kernel
theorem dX2_willBeWet_68 : decode cX2_willBeWet 68 = .ok (.ishl, 1) := by decide +kernel
theorem dX2_willBeWet_69 : decode cX2_willBeWet 69 = .ok (.ior, 1) := by decide +kernel
theorem dX2_willBeWet_70 : decode cX2_willBeWet 70 = .ok (.istore_n 2, 1) := by decide +kernel
theorem dX2_willBeWet_71 : decode cX2_willBeWet 71 = .ok (.iinc 3 1, 3) := by decide +kernel
theorem dX2_willBeWet_74 : decode cX2_willBeWet 74 = .ok (.goto (-36), 3) := by decide +kernel
theorem dX2_willBeWet_77 : decode cX2_willBeWet 77 = .ok (.iload_n 2, 1) := by decide +kernel
theorem dX2_willBeWet_78 : decode cX2_willBeWet 78 = .ok (.ireturn, 1) := by decide +kernel
set_option maxRecDepth 20000 in
theorem ggX2_bestPlace_X2_coinsWithOneMoreAt : GoodIn wsX2_bestPlace wsX2_coinsWithOneMoreAt := goodIn_r _ [5, 6, 7, 8, 9, 4, 10, 11, 12, 13, 14, 15, 16, 17, 18, 19, 20, 21, 22, 23, 24, 25, 26, 27, 28, 29, 30, 31, 32, 33, 34, 35, 36, 37, 38, 39, 40, 41, 42, 43, 44, 45, 46, 47, 48, 49, 50, 51, 52, 53, 54, 55, 56, 57, 58, 59, 60, 61, 62, 63, 64, 65, 66, 67, 68, 69, 70, 71, 72, 73, 74, 75, 76, 77, 78, 79, 80, 81, 82, 83, 84, 85, 86, 87, 88, 89, 90, 91, 92, 93, 94, 95, 96, 97, 98, 99, 100, 101, 102, 103, 104, 105, 106, 107, 108, 109, 110, 111, 112, 113, 114, 115, 116, 117, 118, 119, 120, 121, 122, 123, 124, 125, 126, 127, 128, 129, 130, 131, 132, 133] (by decide +kernel) (by decide +kernel)
set_option maxRecDepth 20000 in
theorem gX2_bestPlace_X2_coinsWithOneMoreAt : GoodIn wsX2_bestPlace (wsV RX2 157 RX2 yX2_coinsWithOneMoreAt wsX2_coinsWithOneMoreAt) := goodIn_app (goodIn_of _ (by decide +kernel)) ggX2_bestPlace_X2_coinsWithOneMoreAt
theorem dX2_bestPlace_0 : decode cX2_bestPlace 0 = .ok (.iload_n 1, 1) := by decide +kernel
theorem dX2_bestPlace_1 : decode cX2_bestPlace 1 = .ok (.iconst 1, 1) := by decide +kernel
theorem dX2_bestPlace_2 : decode cX2_bestPlace 2 = .ok (.if_icmp .lt 18, 3) := by decide +kernel
theorem dX2_bestPlace_5 : decode cX2_bestPlace 5 = .ok (.iload_n 1, 1) := by decide +kernel
theorem dX2_bestPlace_6 : decode cX2_bestPlace 6 = .ok (.bipush 48, 2) := by decide +kernel
theorem dX2_bestPlace_8 : decode cX2_bestPlace 8 = .ok (.if_icmp .gt 12, 3) := by decide +kernel
theorem dX2_bestPlace_11 : decode cX2_bestPlace 11 = .ok (.iload_n 2, 1) := by decide +kernel
theorem dX2_bestPlace_12 : decode cX2_bestPlace 12 = .ok (.ifCond .lt 8, 3) := by decide +kernel
theorem dX2_bestPlace_15 : decode cX2_bestPlace 15 = .ok (.iload_n 2, 1) := by decide +kernel
theorem dX2_bestPlace_16 : decode cX2_bestPlace 16 = .ok (.iconst 1, 1) := by decide +kernel
theorem dX2_bestPlace_17 : decode cX2_bestPlace 17 = .ok (.if_icmp .le 6, 3) := by decide +kernel
theorem dX2_bestPlace_20 : decode cX2_bestPlace 20 = .ok (.bipush (-2), 2) := by decide +kernel
theorem dX2_bestPlace_22 : decode cX2_bestPlace 22 = .ok (.ireturn, 1) := by decide +kernel
theorem dX2_bestPlace_23 : decode cX2_bestPlace 23 = .ok (.bipush (-6), 2) := by decide +kernel
theorem dX2_bestPlace_25 : decode cX2_bestPlace 25 = .ok (.istore_n 3, 1) := by decide +kernel
theorem dX2_bestPlace_26 : decode cX2_bestPlace 26 = .ok (.iconst 0, 1) := by decide +kernel
theorem dX2_bestPlace_27 : decode cX2_bestPlace 27 = .ok (.istore 4, 2) := by decide +kernel
theorem dX2_bestPlace_29 : decode cX2_bestPlace 29 = .ok (.iconst 0, 1) := by decide +kernel
theorem dX2_bestPlace_30 : decode cX2_bestPlace 30 = .ok (.istore 5, 2) := by decide +kernel
theorem dX2_bestPlace_32 : decode cX2_bestPlace 32 = .ok (.iload 5, 2) := by decide +kernel
theorem dX2_bestPlace_34 : decode cX2_bestPlace 34 = .ok (.bipush 12, 2) := by decide +kernel
theorem dX2_bestPlace_36 : decode cX2_bestPlace 36 = .ok (.if_icmp .ge 38, 3) := by decide +kernel
theorem dX2_bestPlace_39 : decode cX2_bestPlace 39 = .ok (.aload_n 0, 1) := by decide +kernel
theorem dX2_bestPlace_40 : decode cX2_bestPlace 40 = .ok (.iload 5, 2) := by decide +kernel
theorem dX2_bestPlace_42 : decode cX2_bestPlace 42 = .ok (.iload_n 1, 1) := by decide +kernel
theorem dX2_bestPlace_43 : decode cX2_bestPlace 43 = .ok (.invokevirtual 157, 3) := by decide +kernel
theorem dX2_bestPlace_46 : decode cX2_bestPlace 46 = .ok (.istore 6, 2) := by decide +kernel
theorem dX2_bestPlace_48 : decode cX2_bestPlace 48 = .ok (.iload_n 3, 1) := by decide +kernel
theorem dX2_bestPlace_49 : decode cX2_bestPlace 49 = .ok (.bipush (-6), 2) := by decide +kernel
theorem dX2_bestPlace_51 : decode cX2_bestPlace 51 = .ok (.if_icmp .eq 10, 3) := by decide +kernel
theorem dX2_bestPlace_54 : decode cX2_bestPlace 54 = .ok (.iload 6, 2) := by decide +kernel
theorem dX2_bestPlace_56 : decode cX2_bestPlace 56 = .ok (.iload 4, 2) := by decide +kernel
theorem dX2_bestPlace_58 : decode cX2_bestPlace 58 = .ok (.if_icmp .le 10, 3) := by decide +kernel
theorem dX2_bestPlace_61 : decode cX2_bestPlace 61 = .ok (.iload 5, 2) := by decide +kernel
theorem dX2_bestPlace_63 : decode cX2_bestPlace 63 = .ok (.istore_n 3, 1) := by decide +kernel
theorem dX2_bestPlace_64 : decode cX2_bestPlace 64 = .ok (.iload 6, 2) := by decide +kernel
theorem dX2_bestPlace_66 : decode cX2_bestPlace 66 = .ok (.istore 4, 2) := by decide +kernel
theorem dX2_bestPlace_68 : decode cX2_bestPlace 68 = .ok (.iinc 5 1, 3) := by decide +kernel
theorem dX2_bestPlace_71 : decode cX2_bestPlace 71 = .ok (.goto (-39), 3) := by decide +kernel
theorem dX2_bestPlace_74 : decode cX2_bestPlace 74 = .ok (.iload_n 2, 1) := by decide +kernel
theorem dX2_bestPlace_75 : decode cX2_bestPlace 75 = .ok (.ifCond .ne 7, 3) := by decide +kernel
theorem dX2_bestPlace_78 : decode cX2_bestPlace 78 = .ok (.iload_n 3, 1) := by decide +kernel
theorem dX2_bestPlace_79 : decode cX2_bestPlace 79 = .ok (.goto 5, 3) := by decide +kernel
theorem dX2_bestPlace_82 : decode cX2_bestPlace 82 = .ok (.iload 4, 2) := by decide +kernel
theorem dX2_bestPlace_84 : decode cX2_bestPlace 84 = .ok (.ireturn, 1) := by decide +kernel
set_option maxRecDepth 20000 in
theorem ggX2_coinsWithOneMoreAt_X2_copy : GoodIn wsX2_coinsWithOneMoreAt wsX2_copy := goodIn_r _ [6, 7, 8, 9, 10, 112, 113, 114, 115, 116, 117, 118, 119, 120, 121, 122, 123, 124, 125, 126, 127, 128, 129] (by decide +kernel) (by decide +kernel)
set_option maxRecDepth 20000 in
theorem gX2_coinsWithOneMoreAt_X2_copy : GoodIn wsX2_coinsWithOneMoreAt (va_wsS RX2 44 yX2_copy wsX2_copy) := goodIn_app (goodIn_of _ (by decide +kernel)) ggX2_coinsWithOneMoreAt_X2_copy
set_option maxRecDepth 20000 in
theorem ggX2_coinsWithOneMoreAt_X1_addKeeper : GoodIn wsX2_coinsWithOneMoreAt wsX1_addKeeper := goodIn_r _ [14, 15, 16, 17, 18, 19, 20, 112, 113, 114, 115, 116, 117, 118, 119, 120, 121, 122, 123, 124, 125, 126, 127, 128, 129] (by decide +kernel) (by decide +kernel)
set_option maxRecDepth 20000 in
theorem gX2_coinsWithOneMoreAt_X1_addKeeper_n160 : GoodIn wsX2_coinsWithOneMoreAt (wsX1_addKeeper) := ggX2_coinsWithOneMoreAt_X1_addKeeper
set_option maxRecDepth 20000 in
theorem ggX2_coinsWithOneMoreAt_X1_passHours : GoodIn wsX2_coinsWithOneMoreAt wsX1_passHours := goodIn_r _ [23, 24, 25, 26, 27, 28, 12, 29, 15, 30, 31, 16, 32, 33, 34, 35, 36, 37, 38, 39, 40, 41, 42, 43, 44, 45, 5, 46, 47, 48, 49, 50, 51, 52, 53, 54, 55, 56, 57, 58, 59, 60, 20, 61, 62, 63, 64, 65, 66, 67, 68, 19, 69, 70, 71, 72, 17, 73, 74, 75, 76, 18, 77, 78, 79, 80, 81, 82, 83, 84, 85, 86, 87, 88, 89, 90, 91, 92, 93, 94, 95, 96, 97, 98, 99, 100, 101, 102, 103, 112, 113, 114, 115, 116, 117, 118, 119, 120, 121, 122, 123, 124, 125, 126, 127, 128, 129] (by decide +kernel) (by decide +kernel)
set_option maxRecDepth 20000 in
theorem gX2_coinsWithOneMoreAt_X1_passHours_n154 : GoodIn wsX2_coinsWithOneMoreAt (wsX1_passHours) := ggX2_coinsWithOneMoreAt_X1_passHours
theorem dX2_coinsWithOneMoreAt_0 : decode cX2_coinsWithOneMoreAt 0 = .ok (.aload_n 0, 1) := by decide +kernel
theorem dX2_coinsWithOneMoreAt_1 : decode cX2_coinsWithOneMoreAt 1 = .ok (.getfield 10, 3) := by decide +kernel
theorem dX2_coinsWithOneMoreAt_4 : decode cX2_coinsWithOneMoreAt 4 = .ok (.aload_n 0, 1) := by decide +kernel
theorem dX2_coinsWithOneMoreAt_5 : decode cX2_coinsWithOneMoreAt 5 = .ok (.getfield 19, 3) := by decide +kernel
theorem dX2_coinsWithOneMoreAt_8 : decode cX2_coinsWithOneMoreAt 8 = .ok (.invokestatic 44, 3) := by decide +kernel
theorem dX2_coinsWithOneMoreAt_11 : decode cX2_coinsWithOneMoreAt 11 = .ok (.aload_n 0, 1) := by decide +kernel
theorem dX2_coinsWithOneMoreAt_12 : decode cX2_coinsWithOneMoreAt 12 = .ok (.getfield 19, 3) := by decide +kernel
theorem dX2_coinsWithOneMoreAt_15 : decode cX2_coinsWithOneMoreAt 15 = .ok (.iload_n 1, 1) := by decide +kernel
theorem dX2_coinsWithOneMoreAt_16 : decode cX2_coinsWithOneMoreAt 16 = .ok (.invokevirtual 160, 3) := by decide +kernel
theorem dX2_coinsWithOneMoreAt_19 : decode cX2_coinsWithOneMoreAt 19 = .ok (.aload_n 0, 1) := by decide +kernel
theorem dX2_coinsWithOneMoreAt_20 : decode cX2_coinsWithOneMoreAt 20 = .ok (.getfield 19, 3) := by decide +kernel
theorem dX2_coinsWithOneMoreAt_23 : decode cX2_coinsWithOneMoreAt 23 = .ok (.iload_n 2, 1) := by decide +kernel
theorem dX2_coinsWithOneMoreAt_24 : decode cX2_coinsWithOneMoreAt 24 = .ok (.invokevirtual 154, 3) := by decide +kernel
theorem dX2_coinsWithOneMoreAt_27 : decode cX2_coinsWithOneMoreAt 27 = .ok (.ireturn, 1) := by decide +kernel
set_option maxRecDepth 20000 in
theorem ggX2_recorded_X2_dropOldest : GoodIn wsX2_recorded wsX2_dropOldest := goodIn_r _ [8, 3, 1, 16, 17, 18, 19, 20, 21, 22, 23] (by decide +kernel) (by decide +kernel)
set_option maxRecDepth 20000 in
theorem gX2_recorded_X2_dropOldest : GoodIn wsX2_recorded (wsV RX2 213 RX2 yX2_dropOldest wsX2_dropOldest) := goodIn_app (goodIn_of _ (by decide +kernel)) ggX2_recorded_X2_dropOldest
set_option maxRecDepth 20000 in
theorem ggX2_recorded_X2_copy : GoodIn wsX2_recorded wsX2_copy := goodIn_r _ [11, 12, 13, 14, 15, 24, 25, 26, 27, 28, 29, 30, 31, 32, 33, 34, 35, 36, 37, 38, 39, 40, 41] (by decide +kernel) (by decide +kernel)
set_option maxRecDepth 20000 in
theorem gX2_recorded_X2_copy : GoodIn wsX2_recorded (va_wsS RX2 44 yX2_copy wsX2_copy) := goodIn_app (goodIn_of _ (by decide +kernel)) ggX2_recorded_X2_copy
theorem dX2_recorded_0 : decode cX2_recorded 0 = .ok (.iload_n 1, 1) := by decide +kernel
theorem dX2_recorded_1 : decode cX2_recorded 1 = .ok (.ifCond .ge 5, 3) := by decide +kernel
theorem dX2_recorded_4 : decode cX2_recorded 4 = .ok (.iload_n 1, 1) := by decide +kernel
theorem dX2_recorded_5 : decode cX2_recorded 5 = .ok (.ireturn, 1) := by decide +kernel
theorem dX2_recorded_6 : decode cX2_recorded 6 = .ok (.aload_n 0, 1) := by decide +kernel
theorem dX2_recorded_7 : decode cX2_recorded 7 = .ok (.getfield 26, 3) := by decide +kernel
theorem dX2_recorded_10 : decode cX2_recorded 10 = .ok (.bipush 6, 2) := by decide +kernel
theorem dX2_recorded_12 : decode cX2_recorded 12 = .ok (.if_icmp .lt 7, 3) := by decide +kernel
theorem dX2_recorded_15 : decode cX2_recorded 15 = .ok (.aload_n 0, 1) := by decide +kernel
theorem dX2_recorded_16 : decode cX2_recorded 16 = .ok (.invokevirtual 213, 3) := by decide +kernel
theorem dX2_recorded_19 : decode cX2_recorded 19 = .ok (.aload_n 0, 1) := by decide +kernel
theorem dX2_recorded_20 : decode cX2_recorded 20 = .ok (.getfield 26, 3) := by decide +kernel
theorem dX2_recorded_23 : decode cX2_recorded 23 = .ok (.ifCond .lt 38, 3) := by decide +kernel
theorem dX2_recorded_26 : decode cX2_recorded 26 = .ok (.aload_n 0, 1) := by decide +kernel
theorem dX2_recorded_27 : decode cX2_recorded 27 = .ok (.getfield 26, 3) := by decide +kernel
theorem dX2_recorded_30 : decode cX2_recorded 30 = .ok (.bipush 6, 2) := by decide +kernel
theorem dX2_recorded_32 : decode cX2_recorded 32 = .ok (.if_icmp .ge 29, 3) := by decide +kernel
theorem dX2_recorded_35 : decode cX2_recorded 35 = .ok (.aload_n 0, 1) := by decide +kernel
theorem dX2_recorded_36 : decode cX2_recorded 36 = .ok (.getfield 16, 3) := by decide +kernel
theorem dX2_recorded_39 : decode cX2_recorded 39 = .ok (.aload_n 0, 1) := by decide +kernel
theorem dX2_recorded_40 : decode cX2_recorded 40 = .ok (.getfield 22, 3) := by decide +kernel
theorem dX2_recorded_43 : decode cX2_recorded 43 = .ok (.aload_n 0, 1) := by decide +kernel
theorem dX2_recorded_44 : decode cX2_recorded 44 = .ok (.getfield 26, 3) := by decide +kernel
theorem dX2_recorded_47 : decode cX2_recorded 47 = .ok (.aaload, 1) := by decide +kernel
theorem dX2_recorded_48 : decode cX2_recorded 48 = .ok (.invokestatic 44, 3) := by decide +kernel
theorem dX2_recorded_51 : decode cX2_recorded 51 = .ok (.aload_n 0, 1) := by decide +kernel
theorem dX2_recorded_52 : decode cX2_recorded 52 = .ok (.dup, 1) := by decide +kernel
theorem dX2_recorded_53 : decode cX2_recorded 53 = .ok (.getfield 26, 3) := by decide +kernel
theorem dX2_recorded_56 : decode cX2_recorded 56 = .ok (.iconst 1, 1) := by decide +kernel
theorem dX2_recorded_57 : decode cX2_recorded 57 = .ok (.iadd, 1) := by decide +kernel
theorem dX2_recorded_58 : decode cX2_recorded 58 = .ok (.putfield 26, 3) := by decide +kernel
theorem dX2_recorded_61 : decode cX2_recorded 61 = .ok (.iload_n 1, 1) := by decide +kernel
theorem dX2_recorded_62 : decode cX2_recorded 62 = .ok (.ireturn, 1) := by decide +kernel
theorem dX2_dropOldest_0 : decode cX2_dropOldest 0 = .ok (.aload_n 0, 1) := by decide +kernel
theorem dX2_dropOldest_1 : decode cX2_dropOldest 1 = .ok (.getfield 22, 3) := by decide +kernel
theorem dX2_dropOldest_4 : decode cX2_dropOldest 4 = .ok (.iconst 0, 1) := by decide +kernel
theorem dX2_dropOldest_5 : decode cX2_dropOldest 5 = .ok (.aaload, 1) := by decide +kernel
theorem dX2_dropOldest_6 : decode cX2_dropOldest 6 = .ok (.astore_n 1, 1) := by decide +kernel
theorem dX2_dropOldest_7 : decode cX2_dropOldest 7 = .ok (.iconst 1, 1) := by decide +kernel
theorem dX2_dropOldest_8 : decode cX2_dropOldest 8 = .ok (.istore_n 2, 1) := by decide +kernel
theorem dX2_dropOldest_9 : decode cX2_dropOldest 9 = .ok (.iload_n 2, 1) := by decide +kernel
theorem dX2_dropOldest_10 : decode cX2_dropOldest 10 = .ok (.bipush 6, 2) := by decide +kernel
theorem dX2_dropOldest_12 : decode cX2_dropOldest 12 = .ok (.if_icmp .ge 23, 3) := by decide +kernel
theorem dX2_dropOldest_15 : decode cX2_dropOldest 15 = .ok (.aload_n 0, 1) := by decide +kernel
theorem dX2_dropOldest_16 : decode cX2_dropOldest 16 = .ok (.getfield 22, 3) := by decide +kernel
theorem dX2_dropOldest_19 : decode cX2_dropOldest 19 = .ok (.iload_n 2, 1) := by decide +kernel
theorem dX2_dropOldest_20 : decode cX2_dropOldest 20 = .ok (.iconst 1, 1) := by decide +kernel
theorem dX2_dropOldest_21 : decode cX2_dropOldest 21 = .ok (.isub, 1) := by decide +kernel
theorem dX2_dropOldest_22 : decode cX2_dropOldest 22 = .ok (.aload_n 0, 1) := by decide +kernel
theorem dX2_dropOldest_23 : decode cX2_dropOldest 23 = .ok (.getfield 22, 3) := by decide +kernel
theorem dX2_dropOldest_26 : decode cX2_dropOldest 26 = .ok (.iload_n 2, 1) := by decide +kernel
theorem dX2_dropOldest_27 : decode cX2_dropOldest 27 = .ok (.aaload, 1) := by decide +kernel
theorem dX2_dropOldest_28 : decode cX2_dropOldest 28 = .ok (.aastore, 1) := by decide +kernel
theorem dX2_dropOldest_29 : decode cX2_dropOldest 29 = .ok (.iinc 2 1, 3) := by decide +kernel
theorem dX2_dropOldest_32 : decode cX2_dropOldest 32 = .ok (.goto (-23), 3) := by decide +kernel
theorem dX2_dropOldest_35 : decode cX2_dropOldest 35 = .ok (.aload_n 0, 1) := by decide +kernel
theorem dX2_dropOldest_36 : decode cX2_dropOldest 36 = .ok (.getfield 22, 3) := by decide +kernel
theorem dX2_dropOldest_39 : decode cX2_dropOldest 39 = .ok (.iconst 5, 1) := by decide +kernel
theorem dX2_dropOldest_40 : decode cX2_dropOldest 40 = .ok (.aload_n 1, 1) := by decide +kernel
theorem dX2_dropOldest_41 : decode cX2_dropOldest 41 = .ok (.aastore, 1) := by decide +kernel
theorem dX2_dropOldest_42 : decode cX2_dropOldest 42 = .ok (.aload_n 0, 1) := by decide +kernel
theorem dX2_dropOldest_43 : decode cX2_dropOldest 43 = .ok (.iconst 5, 1) := by decide +kernel
theorem dX2_dropOldest_44 : decode cX2_dropOldest 44 = .ok (.putfield 26, 3) := by decide +kernel
theorem dX2_dropOldest_47 : decode cX2_dropOldest 47 = .ok (.return_, 1) := by decide +kernel
theorem dX2_isPlace_0 : decode cX2_isPlace 0 = .ok (.iload_n 0, 1) := by decide +kernel
theorem dX2_isPlace_1 : decode cX2_isPlace 1 = .ok (.ifCond .lt 13, 3) := by decide +kernel
theorem dX2_isPlace_4 : decode cX2_isPlace 4 = .ok (.iload_n 0, 1) := by decide +kernel
theorem dX2_isPlace_5 : decode cX2_isPlace 5 = .ok (.bipush 12, 2) := by decide +kernel
theorem dX2_isPlace_7 : decode cX2_isPlace 7 = .ok (.if_icmp .ge 7, 3) := by decide +kernel
theorem dX2_isPlace_10 : decode cX2_isPlace 10 = .ok (.iconst 1, 1) := by decide +kernel
theorem dX2_isPlace_11 : decode cX2_isPlace 11 = .ok (.goto 4, 3) := by decide +kernel
theorem dX2_isPlace_14 : decode cX2_isPlace 14 = .ok (.iconst 0, 1) := by decide +kernel
theorem dX2_isPlace_15 : decode cX2_isPlace 15 = .ok (.ireturn, 1) := by decide +kernel
theorem dX2_has_0 : decode cX2_has 0 = .ok (.iload_n 1, 1) := by decide +kernel
theorem dX2_has_1 : decode cX2_has 1 = .ok (.ifCond .lt 22, 3) := by decide +kernel
theorem dX2_has_4 : decode cX2_has 4 = .ok (.iload_n 1, 1) := by decide +kernel
theorem dX2_has_5 : decode cX2_has 5 = .ok (.bipush 12, 2) := by decide +kernel
theorem dX2_has_7 : decode cX2_has 7 = .ok (.if_icmp .ge 16, 3) := by decide +kernel
theorem dX2_has_10 : decode cX2_has 10 = .ok (.iload_n 0, 1) := by decide +kernel
theorem dX2_has_11 : decode cX2_has 11 = .ok (.iload_n 1, 1) := by decide +kernel
theorem dX2_has_12 : decode cX2_has 12 = .ok (.iushr, 1) := by decide +kernel
theorem dX2_has_13 : decode cX2_has 13 = .ok (.iconst 1, 1) := by decide +kernel
theorem dX2_has_14 : decode cX2_has 14 = .ok (.iand, 1) := by decide +kernel
theorem dX2_has_15 : decode cX2_has 15 = .ok (.iconst 1, 1) := by decide +kernel
theorem dX2_has_16 : decode cX2_has 16 = .ok (.if_icmp .ne 7, 3) := by decide +kernel
theorem dX2_has_19 : decode cX2_has 19 = .ok (.iconst 1, 1) := by decide +kernel
theorem dX2_has_20 : decode cX2_has 20 = .ok (.goto 4, 3) := by decide +kernel
theorem dX2_has_23 : decode cX2_has 23 = .ok (.iconst 0, 1) := by decide +kernel
theorem dX2_has_24 : decode cX2_has 24 = .ok (.ireturn, 1) := by decide +kernel
theorem dX2_copy_0 : decode cX2_copy 0 = .ok (.aload_n 0, 1) := by decide +kernel
theorem dX2_copy_1 : decode cX2_copy 1 = .ok (.ifnull 7, 3) := by decide +kernel
theorem dX2_copy_4 : decode cX2_copy 4 = .ok (.aload_n 1, 1) := by decide +kernel
theorem dX2_copy_5 : decode cX2_copy 5 = .ok (.ifnonnull 4, 3) := by decide +kernel
theorem dX2_copy_8 : decode cX2_copy 8 = .ok (.return_, 1) := by decide +kernel
theorem dX2_copy_9 : decode cX2_copy 9 = .ok (.aload_n 1, 1) := by decide +kernel
theorem dX2_copy_10 : decode cX2_copy 10 = .ok (.aload_n 0, 1) := by decide +kernel
theorem dX2_copy_11 : decode cX2_copy 11 = .ok (.getfield 74, 3) := by decide +kernel
theorem dX2_copy_14 : decode cX2_copy 14 = .ok (.putfield 74, 3) := by decide +kernel
theorem dX2_copy_17 : decode cX2_copy 17 = .ok (.aload_n 1, 1) := by decide +kernel
theorem dX2_copy_18 : decode cX2_copy 18 = .ok (.aload_n 0, 1) := by decide +kernel
theorem dX2_copy_19 : decode cX2_copy 19 = .ok (.getfield 127, 3) := by decide +kernel
theorem dX2_copy_22 : decode cX2_copy 22 = .ok (.putfield 127, 3) := by decide +kernel
theorem dX2_copy_25 : decode cX2_copy 25 = .ok (.aload_n 1, 1) := by decide +kernel
theorem dX2_copy_26 : decode cX2_copy 26 = .ok (.aload_n 0, 1) := by decide +kernel
theorem dX2_copy_27 : decode cX2_copy 27 = .ok (.getfield 124, 3) := by decide +kernel
theorem dX2_copy_30 : decode cX2_copy 30 = .ok (.putfield 124, 3) := by decide +kernel
theorem dX2_copy_33 : decode cX2_copy 33 = .ok (.aload_n 1, 1) := by decide +kernel
theorem dX2_copy_34 : decode cX2_copy 34 = .ok (.aload_n 0, 1) := by decide +kernel
theorem dX2_copy_35 : decode cX2_copy 35 = .ok (.getfield 100, 3) := by decide +kernel
theorem dX2_copy_38 : decode cX2_copy 38 = .ok (.putfield 100, 3) := by decide +kernel
theorem dX2_copy_41 : decode cX2_copy 41 = .ok (.aload_n 1, 1) := by decide +kernel
theorem dX2_copy_42 : decode cX2_copy 42 = .ok (.aload_n 0, 1) := by decide +kernel
theorem dX2_copy_43 : decode cX2_copy 43 = .ok (.getfield 136, 3) := by decide +kernel
theorem dX2_copy_46 : decode cX2_copy 46 = .ok (.putfield 136, 3) := by decide +kernel
theorem dX2_copy_49 : decode cX2_copy 49 = .ok (.aload_n 1, 1) := by decide +kernel
theorem dX2_copy_50 : decode cX2_copy 50 = .ok (.aload_n 0, 1) := by decide +kernel
theorem dX2_copy_51 : decode cX2_copy 51 = .ok (.getfield 121, 3) := by decide +kernel
theorem dX2_copy_54 : decode cX2_copy 54 = .ok (.putfield 121, 3) := by decide +kernel
theorem dX2_copy_57 : decode cX2_copy 57 = .ok (.aload_n 1, 1) := by decide +kernel
theorem dX2_copy_58 : decode cX2_copy 58 = .ok (.aload_n 0, 1) := by decide +kernel
theorem dX2_copy_59 : decode cX2_copy 59 = .ok (.getfield 130, 3) := by decide +kernel
theorem dX2_copy_62 : decode cX2_copy 62 = .ok (.putfield 130, 3) := by decide +kernel
theorem dX2_copy_65 : decode cX2_copy 65 = .ok (.aload_n 1, 1) := by decide +kernel
theorem dX2_copy_66 : decode cX2_copy 66 = .ok (.aload_n 0, 1) := by decide +kernel
theorem dX2_copy_67 : decode cX2_copy 67 = .ok (.getfield 133, 3) := by decide +kernel
theorem dX2_copy_70 : decode cX2_copy 70 = .ok (.putfield 133, 3) := by decide +kernel
theorem dX2_copy_73 : decode cX2_copy 73 = .ok (.aload_n 0, 1) := by decide +kernel
theorem dX2_copy_74 : decode cX2_copy 74 = .ok (.getfield 118, 3) := by decide +kernel
theorem dX2_copy_77 : decode cX2_copy 77 = .ok (.iconst 0, 1) := by decide +kernel
theorem dX2_copy_78 : decode cX2_copy 78 = .ok (.aload_n 1, 1) := by decide +kernel
theorem dX2_copy_79 : decode cX2_copy 79 = .ok (.getfield 118, 3) := by decide +kernel
theorem dX2_copy_82 : decode cX2_copy 82 = .ok (.iconst 0, 1) := by decide +kernel
theorem dX2_copy_83 : decode cX2_copy 83 = .ok (.bipush 7, 2) := by decide +kernel
theorem dX2_copy_85 : decode cX2_copy 85 = .ok (.invokestatic 216, 3) := by decide +kernel
theorem dX2_copy_88 : decode cX2_copy 88 = .ok (.aload_n 0, 1) := by decide +kernel
theorem dX2_copy_89 : decode cX2_copy 89 = .ok (.getfield 81, 3) := by decide +kernel
theorem dX2_copy_92 : decode cX2_copy 92 = .ok (.iconst 0, 1) := by decide +kernel
theorem dX2_copy_93 : decode cX2_copy 93 = .ok (.aload_n 1, 1) := by decide +kernel
theorem dX2_copy_94 : decode cX2_copy 94 = .ok (.getfield 81, 3) := by decide +kernel
theorem dX2_copy_97 : decode cX2_copy 97 = .ok (.iconst 0, 1) := by decide +kernel
theorem dX2_copy_98 : decode cX2_copy 98 = .ok (.bipush 12, 2) := by decide +kernel
theorem dX2_copy_100 : decode cX2_copy 100 = .ok (.invokestatic 216, 3) := by decide +kernel
theorem dX2_copy_103 : decode cX2_copy 103 = .ok (.aload_n 0, 1) := by decide +kernel
theorem dX2_copy_104 : decode cX2_copy 104 = .ok (.getfield 85, 3) := by decide +kernel
theorem dX2_copy_107 : decode cX2_copy 107 = .ok (.iconst 0, 1) := by decide +kernel
theorem dX2_copy_108 : decode cX2_copy 108 = .ok (.aload_n 1, 1) := by decide +kernel
theorem dX2_copy_109 : decode cX2_copy 109 = .ok (.getfield 85, 3) := by decide +kernel
theorem dX2_copy_112 : decode cX2_copy 112 = .ok (.iconst 0, 1) := by decide +kernel
theorem dX2_copy_113 : decode cX2_copy 113 = .ok (.bipush 12, 2) := by decide +kernel
theorem dX2_copy_115 : decode cX2_copy 115 = .ok (.invokestatic 216, 3) := by decide +kernel
theorem dX2_copy_118 : decode cX2_copy 118 = .ok (.aload_n 0, 1) := by decide +kernel
theorem dX2_copy_119 : decode cX2_copy 119 = .ok (.getfield 91, 3) := by decide +kernel
theorem dX2_copy_122 : decode cX2_copy 122 = .ok (.iconst 0, 1) := by decide +kernel
theorem dX2_copy_123 : decode cX2_copy 123 = .ok (.aload_n 1, 1) := by decide +kernel
theorem dX2_copy_124 : decode cX2_copy 124 = .ok (.getfield 91, 3) := by decide +kernel
theorem dX2_copy_127 : decode cX2_copy 127 = .ok (.iconst 0, 1) := by decide +kernel
theorem dX2_copy_128 : decode cX2_copy 128 = .ok (.bipush 12, 2) := by decide +kernel
theorem dX2_copy_130 : decode cX2_copy 130 = .ok (.invokestatic 216, 3) := by decide +kernel
theorem dX2_copy_133 : decode cX2_copy 133 = .ok (.aload_n 0, 1) := by decide +kernel
theorem dX2_copy_134 : decode cX2_copy 134 = .ok (.getfield 94, 3) := by decide +kernel
theorem dX2_copy_137 : decode cX2_copy 137 = .ok (.iconst 0, 1) := by decide +kernel
theorem dX2_copy_138 : decode cX2_copy 138 = .ok (.aload_n 1, 1) := by decide +kernel
theorem dX2_copy_139 : decode cX2_copy 139 = .ok (.getfield 94, 3) := by decide +kernel
theorem dX2_copy_142 : decode cX2_copy 142 = .ok (.iconst 0, 1) := by decide +kernel
theorem dX2_copy_143 : decode cX2_copy 143 = .ok (.bipush 12, 2) := by decide +kernel
theorem dX2_copy_145 : decode cX2_copy 145 = .ok (.invokestatic 216, 3) := by decide +kernel
theorem dX2_copy_148 : decode cX2_copy 148 = .ok (.aload_n 0, 1) := by decide +kernel
theorem dX2_copy_149 : decode cX2_copy 149 = .ok (.getfield 103, 3) := by decide +kernel
theorem dX2_copy_152 : decode cX2_copy 152 = .ok (.iconst 0, 1) := by decide +kernel
theorem dX2_copy_153 : decode cX2_copy 153 = .ok (.aload_n 1, 1) := by decide +kernel
theorem dX2_copy_154 : decode cX2_copy 154 = .ok (.getfield 103, 3) := by decide +kernel
theorem dX2_copy_157 : decode cX2_copy 157 = .ok (.iconst 0, 1) := by decide +kernel
theorem dX2_copy_158 : decode cX2_copy 158 = .ok (.iconst 5, 1) := by decide +kernel
theorem dX2_copy_159 : decode cX2_copy 159 = .ok (.invokestatic 216, 3) := by decide +kernel
theorem dX2_copy_162 : decode cX2_copy 162 = .ok (.aload_n 0, 1) := by decide +kernel
theorem dX2_copy_163 : decode cX2_copy 163 = .ok (.getfield 106, 3) := by decide +kernel
theorem dX2_copy_166 : decode cX2_copy 166 = .ok (.iconst 0, 1) := by decide +kernel
theorem dX2_copy_167 : decode cX2_copy 167 = .ok (.aload_n 1, 1) := by decide +kernel
theorem dX2_copy_168 : decode cX2_copy 168 = .ok (.getfield 106, 3) := by decide +kernel
theorem dX2_copy_171 : decode cX2_copy 171 = .ok (.iconst 0, 1) := by decide +kernel
theorem dX2_copy_172 : decode cX2_copy 172 = .ok (.iconst 5, 1) := by decide +kernel
theorem dX2_copy_173 : decode cX2_copy 173 = .ok (.invokestatic 216, 3) := by decide +kernel
theorem dX2_copy_176 : decode cX2_copy 176 = .ok (.aload_n 0, 1) := by decide +kernel
theorem dX2_copy_177 : decode cX2_copy 177 = .ok (.getfield 109, 3) := by decide +kernel
theorem dX2_copy_180 : decode cX2_copy 180 = .ok (.iconst 0, 1) := by decide +kernel
theorem dX2_copy_181 : decode cX2_copy 181 = .ok (.aload_n 1, 1) := by decide +kernel
theorem dX2_copy_182 : decode cX2_copy 182 = .ok (.getfield 109, 3) := by decide +kernel
theorem dX2_copy_185 : decode cX2_copy 185 = .ok (.iconst 0, 1) := by decide +kernel
theorem dX2_copy_186 : decode cX2_copy 186 = .ok (.iconst 5, 1) := by decide +kernel
theorem dX2_copy_187 : decode cX2_copy 187 = .ok (.invokestatic 216, 3) := by decide +kernel
theorem dX2_copy_190 : decode cX2_copy 190 = .ok (.aload_n 0, 1) := by decide +kernel
theorem dX2_copy_191 : decode cX2_copy 191 = .ok (.getfield 112, 3) := by decide +kernel
theorem dX2_copy_194 : decode cX2_copy 194 = .ok (.iconst 0, 1) := by decide +kernel
theorem dX2_copy_195 : decode cX2_copy 195 = .ok (.aload_n 1, 1) := by decide +kernel
theorem dX2_copy_196 : decode cX2_copy 196 = .ok (.getfield 112, 3) := by decide +kernel
theorem dX2_copy_199 : decode cX2_copy 199 = .ok (.iconst 0, 1) := by decide +kernel
theorem dX2_copy_200 : decode cX2_copy 200 = .ok (.iconst 5, 1) := by decide +kernel
theorem dX2_copy_201 : decode cX2_copy 201 = .ok (.invokestatic 216, 3) := by decide +kernel
theorem dX2_copy_204 : decode cX2_copy 204 = .ok (.aload_n 0, 1) := by decide +kernel
theorem dX2_copy_205 : decode cX2_copy 205 = .ok (.getfield 115, 3) := by decide +kernel
theorem dX2_copy_208 : decode cX2_copy 208 = .ok (.iconst 0, 1) := by decide +kernel
theorem dX2_copy_209 : decode cX2_copy 209 = .ok (.aload_n 1, 1) := by decide +kernel
theorem dX2_copy_210 : decode cX2_copy 210 = .ok (.getfield 115, 3) := by decide +kernel
theorem dX2_copy_213 : decode cX2_copy 213 = .ok (.iconst 0, 1) := by decide +kernel
theorem dX2_copy_214 : decode cX2_copy 214 = .ok (.iconst 5, 1) := by decide +kernel
theorem dX2_copy_215 : decode cX2_copy 215 = .ok (.invokestatic 216, 3) := by decide +kernel
theorem dX2_copy_218 : decode cX2_copy 218 = .ok (.return_, 1) := by decide +kernel
theorem dJ6_bitCount_0f7a4_0 : decode cJ6_bitCount_0f7a4 0 = .ok (.iload_n 0, 1) := by decide +kernel
theorem dJ6_bitCount_0f7a4_1 : decode cJ6_bitCount_0f7a4 1 = .ok (.iload_n 0, 1) := by decide +kernel
theorem dJ6_bitCount_0f7a4_2 : decode cJ6_bitCount_0f7a4 2 = .ok (.iconst 1, 1) := by decide +kernel
theorem dJ6_bitCount_0f7a4_3 : decode cJ6_bitCount_0f7a4 3 = .ok (.iushr, 1) := by decide +kernel
theorem dJ6_bitCount_0f7a4_4 : decode cJ6_bitCount_0f7a4 4 = .ok (.ldc_w 265, 3) := by decide +kernel
theorem dJ6_bitCount_0f7a4_7 : decode cJ6_bitCount_0f7a4 7 = .ok (.iand, 1) := by decide +kernel
theorem dJ6_bitCount_0f7a4_8 : decode cJ6_bitCount_0f7a4 8 = .ok (.isub, 1) := by decide +kernel
theorem dJ6_bitCount_0f7a4_9 : decode cJ6_bitCount_0f7a4 9 = .ok (.istore_n 0, 1) := by decide +kernel
theorem dJ6_bitCount_0f7a4_10 : decode cJ6_bitCount_0f7a4 10 = .ok (.iload_n 0, 1) := by decide +kernel
theorem dJ6_bitCount_0f7a4_11 : decode cJ6_bitCount_0f7a4 11 = .ok (.ldc_w 266, 3) := by decide +kernel
theorem dJ6_bitCount_0f7a4_14 : decode cJ6_bitCount_0f7a4 14 = .ok (.iand, 1) := by decide +kernel
theorem dJ6_bitCount_0f7a4_15 : decode cJ6_bitCount_0f7a4 15 = .ok (.iload_n 0, 1) := by decide +kernel
theorem dJ6_bitCount_0f7a4_16 : decode cJ6_bitCount_0f7a4 16 = .ok (.iconst 2, 1) := by decide +kernel
theorem dJ6_bitCount_0f7a4_17 : decode cJ6_bitCount_0f7a4 17 = .ok (.iushr, 1) := by decide +kernel
theorem dJ6_bitCount_0f7a4_18 : decode cJ6_bitCount_0f7a4 18 = .ok (.ldc_w 266, 3) := by decide +kernel
theorem dJ6_bitCount_0f7a4_21 : decode cJ6_bitCount_0f7a4 21 = .ok (.iand, 1) := by decide +kernel
theorem dJ6_bitCount_0f7a4_22 : decode cJ6_bitCount_0f7a4 22 = .ok (.iadd, 1) := by decide +kernel
theorem dJ6_bitCount_0f7a4_23 : decode cJ6_bitCount_0f7a4 23 = .ok (.istore_n 0, 1) := by decide +kernel
theorem dJ6_bitCount_0f7a4_24 : decode cJ6_bitCount_0f7a4 24 = .ok (.iload_n 0, 1) := by decide +kernel
theorem dJ6_bitCount_0f7a4_25 : decode cJ6_bitCount_0f7a4 25 = .ok (.iload_n 0, 1) := by decide +kernel
theorem dJ6_bitCount_0f7a4_26 : decode cJ6_bitCount_0f7a4 26 = .ok (.iconst 4, 1) := by decide +kernel
theorem dJ6_bitCount_0f7a4_27 : decode cJ6_bitCount_0f7a4 27 = .ok (.iushr, 1) := by decide +kernel
theorem dJ6_bitCount_0f7a4_28 : decode cJ6_bitCount_0f7a4 28 = .ok (.iadd, 1) := by decide +kernel
theorem dJ6_bitCount_0f7a4_29 : decode cJ6_bitCount_0f7a4 29 = .ok (.ldc_w 267, 3) := by decide +kernel
theorem dJ6_bitCount_0f7a4_32 : decode cJ6_bitCount_0f7a4 32 = .ok (.iand, 1) := by decide +kernel
theorem dJ6_bitCount_0f7a4_33 : decode cJ6_bitCount_0f7a4 33 = .ok (.istore_n 0, 1) := by decide +kernel
theorem dJ6_bitCount_0f7a4_34 : decode cJ6_bitCount_0f7a4 34 = .ok (.iload_n 0, 1) := by decide +kernel
theorem dJ6_bitCount_0f7a4_35 : decode cJ6_bitCount_0f7a4 35 = .ok (.iload_n 0, 1) := by decide +kernel
theorem dJ6_bitCount_0f7a4_36 : decode cJ6_bitCount_0f7a4 36 = .ok (.bipush 8, 2) := by decide +kernel
theorem dJ6_bitCount_0f7a4_38 : decode cJ6_bitCount_0f7a4 38 = .ok (.iushr, 1) := by decide +kernel
theorem dJ6_bitCount_0f7a4_39 : decode cJ6_bitCount_0f7a4 39 = .ok (.iadd, 1) := by decide +kernel
theorem dJ6_bitCount_0f7a4_40 : decode cJ6_bitCount_0f7a4 40 = .ok (.istore_n 0, 1) := by decide +kernel
theorem dJ6_bitCount_0f7a4_41 : decode cJ6_bitCount_0f7a4 41 = .ok (.iload_n 0, 1) := by decide +kernel
theorem dJ6_bitCount_0f7a4_42 : decode cJ6_bitCount_0f7a4 42 = .ok (.iload_n 0, 1) := by decide +kernel
theorem dJ6_bitCount_0f7a4_43 : decode cJ6_bitCount_0f7a4 43 = .ok (.bipush 16, 2) := by decide +kernel
theorem dJ6_bitCount_0f7a4_45 : decode cJ6_bitCount_0f7a4 45 = .ok (.iushr, 1) := by decide +kernel
theorem dJ6_bitCount_0f7a4_46 : decode cJ6_bitCount_0f7a4 46 = .ok (.iadd, 1) := by decide +kernel
theorem dJ6_bitCount_0f7a4_47 : decode cJ6_bitCount_0f7a4 47 = .ok (.istore_n 0, 1) := by decide +kernel
theorem dJ6_bitCount_0f7a4_48 : decode cJ6_bitCount_0f7a4 48 = .ok (.iload_n 0, 1) := by decide +kernel
theorem dJ6_bitCount_0f7a4_49 : decode cJ6_bitCount_0f7a4 49 = .ok (.bipush 63, 2) := by decide +kernel
theorem dJ6_bitCount_0f7a4_51 : decode cJ6_bitCount_0f7a4 51 = .ok (.iand, 1) := by decide +kernel
theorem dJ6_bitCount_0f7a4_52 : decode cJ6_bitCount_0f7a4 52 = .ok (.ireturn, 1) := by decide +kernel
theorem dJ9_max_7cf53_0 : decode cJ9_max_7cf53 0 = .ok (.iload_n 0, 1) := by decide +kernel
theorem dJ9_max_7cf53_1 : decode cJ9_max_7cf53 1 = .ok (.iload_n 1, 1) := by decide +kernel
theorem dJ9_max_7cf53_2 : decode cJ9_max_7cf53 2 = .ok (.if_icmp .lt 7, 3) := by decide +kernel
theorem dJ9_max_7cf53_5 : decode cJ9_max_7cf53 5 = .ok (.iload_n 0, 1) := by decide +kernel
theorem dJ9_max_7cf53_6 : decode cJ9_max_7cf53 6 = .ok (.goto 4, 3) := by decide +kernel
theorem dJ9_max_7cf53_9 : decode cJ9_max_7cf53 9 = .ok (.iload_n 1, 1) := by decide +kernel
theorem dJ9_max_7cf53_10 : decode cJ9_max_7cf53 10 = .ok (.ireturn, 1) := by decide +kernel
theorem dJ9_min_7cf53_0 : decode cJ9_min_7cf53 0 = .ok (.iload_n 0, 1) := by decide +kernel
theorem dJ9_min_7cf53_1 : decode cJ9_min_7cf53 1 = .ok (.iload_n 1, 1) := by decide +kernel
theorem dJ9_min_7cf53_2 : decode cJ9_min_7cf53 2 = .ok (.if_icmp .gt 7, 3) := by decide +kernel
theorem dJ9_min_7cf53_5 : decode cJ9_min_7cf53 5 = .ok (.iload_n 0, 1) := by decide +kernel
theorem dJ9_min_7cf53_6 : decode cJ9_min_7cf53 6 = .ok (.goto 4, 3) := by decide +kernel
theorem dJ9_min_7cf53_9 : decode cJ9_min_7cf53 9 = .ok (.iload_n 1, 1) := by decide +kernel
theorem dJ9_min_7cf53_10 : decode cJ9_min_7cf53 10 = .ok (.ireturn, 1) := by decide +kernel
theorem dL_cell_0 : decode cL_cell 0 = .ok (.iload_n 1, 1) := by decide +kernel
theorem dL_cell_1 : decode cL_cell 1 = .ok (.aload_n 0, 1) := by decide +kernel
theorem dL_cell_2 : decode cL_cell 2 = .ok (.arraylength, 1) := by decide +kernel
theorem dL_cell_3 : decode cL_cell 3 = .ok (.if_icmp .ge 9, 3) := by decide +kernel
theorem dL_cell_6 : decode cL_cell 6 = .ok (.aload_n 0, 1) := by decide +kernel
theorem dL_cell_7 : decode cL_cell 7 = .ok (.iload_n 1, 1) := by decide +kernel
theorem dL_cell_8 : decode cL_cell 8 = .ok (.iaload, 1) := by decide +kernel
theorem dL_cell_9 : decode cL_cell 9 = .ok (.goto 12, 3) := by decide +kernel
theorem dL_cell_12 : decode cL_cell 12 = .ok (.ldc 7, 2) := by decide +kernel
theorem dL_cell_14 : decode cL_cell 14 = .ok (.iload_n 1, 1) := by decide +kernel
theorem dL_cell_15 : decode cL_cell 15 = .ok (.iconst 1, 1) := by decide +kernel
theorem dL_cell_16 : decode cL_cell 16 = .ok (.iadd, 1) := by decide +kernel
theorem dL_cell_17 : decode cL_cell 17 = .ok (.imul, 1) := by decide +kernel
theorem dL_cell_18 : decode cL_cell 18 = .ok (.ldc 8, 2) := by decide +kernel
theorem dL_cell_20 : decode cL_cell 20 = .ok (.iadd, 1) := by decide +kernel
theorem dL_cell_21 : decode cL_cell 21 = .ok (.ireturn, 1) := by decide +kernel
theorem dL_low_0 : decode cL_low 0 = .ok (.iload_n 0, 1) := by decide +kernel
theorem dL_low_1 : decode cL_low 1 = .ok (.ldc 9, 2) := by decide +kernel
theorem dL_low_3 : decode cL_low 3 = .ok (.iand, 1) := by decide +kernel
theorem dL_low_4 : decode cL_low 4 = .ok (.iload_n 1, 1) := by decide +kernel
theorem dL_low_5 : decode cL_low 5 = .ok (.irem, 1) := by decide +kernel
theorem dL_low_6 : decode cL_low 6 = .ok (.ireturn, 1) := by decide +kernel
theorem dL_rains_0 : decode cL_rains 0 = .ok (.aload_n 1, 1) := by decide +kernel
theorem dL_rains_1 : decode cL_rains 1 = .ok (.bipush 8, 2) := by decide +kernel
theorem dL_rains_3 : decode cL_rains 3 = .ok (.iaload, 1) := by decide +kernel
theorem dL_rains_4 : decode cL_rains 4 = .ok (.iload_n 0, 1) := by decide +kernel
theorem dL_rains_5 : decode cL_rains 5 = .ok (.bipush 24, 2) := by decide +kernel
theorem dL_rains_7 : decode cL_rains 7 = .ok (.irem, 1) := by decide +kernel
theorem dL_rains_8 : decode cL_rains 8 = .ok (.ishr, 1) := by decide +kernel
theorem dL_rains_9 : decode cL_rains 9 = .ok (.iconst 1, 1) := by decide +kernel
theorem dL_rains_10 : decode cL_rains 10 = .ok (.iand, 1) := by decide +kernel
theorem dL_rains_11 : decode cL_rains 11 = .ok (.iconst 1, 1) := by decide +kernel
theorem dL_rains_12 : decode cL_rains 12 = .ok (.if_icmp .ne 7, 3) := by decide +kernel
theorem dL_rains_15 : decode cL_rains 15 = .ok (.iconst 1, 1) := by decide +kernel
theorem dL_rains_16 : decode cL_rains 16 = .ok (.goto 4, 3) := by decide +kernel
theorem dL_rains_19 : decode cL_rains 19 = .ok (.iconst 0, 1) := by decide +kernel
theorem dL_rains_20 : decode cL_rains 20 = .ok (.ireturn, 1) := by decide +kernel
set_option maxRecDepth 20000 in
theorem ggL_ahead_L_rains : GoodIn wsL_ahead wsL_rains := goodIn_r _ [4] (by decide +kernel) (by decide +kernel)
set_option maxRecDepth 20000 in
theorem gL_ahead_L_rains : GoodIn wsL_ahead (va_wsS RL 10 yL_rains wsL_rains) := goodIn_app (goodIn_of _ (by decide +kernel)) ggL_ahead_L_rains
theorem dL_ahead_0 : decode cL_ahead 0 = .ok (.aload_n 0, 1) := by decide +kernel
theorem dL_ahead_1 : decode cL_ahead 1 = .ok (.bipush 7, 2) := by decide +kernel
theorem dL_ahead_3 : decode cL_ahead 3 = .ok (.iaload, 1) := by decide +kernel
theorem dL_ahead_4 : decode cL_ahead 4 = .ok (.istore_n 1, 1) := by decide +kernel
theorem dL_ahead_5 : decode cL_ahead 5 = .ok (.iload_n 1, 1) := by decide +kernel
theorem dL_ahead_6 : decode cL_ahead 6 = .ok (.aload_n 0, 1) := by decide +kernel
theorem dL_ahead_7 : decode cL_ahead 7 = .ok (.bipush 7, 2) := by decide +kernel
theorem dL_ahead_9 : decode cL_ahead 9 = .ok (.iaload, 1) := by decide +kernel
theorem dL_ahead_10 : decode cL_ahead 10 = .ok (.aload_n 0, 1) := by decide +kernel
theorem dL_ahead_11 : decode cL_ahead 11 = .ok (.iconst 0, 1) := by decide +kernel
theorem dL_ahead_12 : decode cL_ahead 12 = .ok (.iaload, 1) := by decide +kernel
theorem dL_ahead_13 : decode cL_ahead 13 = .ok (.iadd, 1) := by decide +kernel
theorem dL_ahead_14 : decode cL_ahead 14 = .ok (.if_icmp .gt 19, 3) := by decide +kernel
theorem dL_ahead_17 : decode cL_ahead 17 = .ok (.iload_n 1, 1) := by decide +kernel
theorem dL_ahead_18 : decode cL_ahead 18 = .ok (.aload_n 0, 1) := by decide +kernel
theorem dL_ahead_19 : decode cL_ahead 19 = .ok (.invokestatic 10, 3) := by decide +kernel
theorem dL_ahead_22 : decode cL_ahead 22 = .ok (.ifCond .eq 5, 3) := by decide +kernel
theorem dL_ahead_25 : decode cL_ahead 25 = .ok (.iconst 1, 1) := by decide +kernel
theorem dL_ahead_26 : decode cL_ahead 26 = .ok (.ireturn, 1) := by decide +kernel
theorem dL_ahead_27 : decode cL_ahead 27 = .ok (.iinc 1 1, 3) := by decide +kernel
theorem dL_ahead_30 : decode cL_ahead 30 = .ok (.goto (-25), 3) := by decide +kernel
theorem dL_ahead_33 : decode cL_ahead 33 = .ok (.iconst 0, 1) := by decide +kernel
theorem dL_ahead_34 : decode cL_ahead 34 = .ok (.ireturn, 1) := by decide +kernel
theorem dL_near_0 : decode cL_near 0 = .ok (.iconst 0, 1) := by decide +kernel
theorem dL_near_1 : decode cL_near 1 = .ok (.istore_n 2, 1) := by decide +kernel
theorem dL_near_2 : decode cL_near 2 = .ok (.iload_n 2, 1) := by decide +kernel
theorem dL_near_3 : decode cL_near 3 = .ok (.bipush 12, 2) := by decide +kernel
theorem dL_near_5 : decode cL_near 5 = .ok (.if_icmp .ge 53, 3) := by decide +kernel
theorem dL_near_8 : decode cL_near 8 = .ok (.iload_n 1, 1) := by decide +kernel
theorem dL_near_9 : decode cL_near 9 = .ok (.iload_n 2, 1) := by decide +kernel
theorem dL_near_10 : decode cL_near 10 = .ok (.isub, 1) := by decide +kernel
theorem dL_near_11 : decode cL_near 11 = .ok (.ifCond .lt 18, 3) := by decide +kernel
theorem dL_near_14 : decode cL_near 14 = .ok (.iload_n 0, 1) := by decide +kernel
theorem dL_near_15 : decode cL_near 15 = .ok (.iload_n 1, 1) := by decide +kernel
theorem dL_near_16 : decode cL_near 16 = .ok (.iload_n 2, 1) := by decide +kernel
theorem dL_near_17 : decode cL_near 17 = .ok (.isub, 1) := by decide +kernel
theorem dL_near_18 : decode cL_near 18 = .ok (.ishr, 1) := by decide +kernel
theorem dL_near_19 : decode cL_near 19 = .ok (.iconst 1, 1) := by decide +kernel
theorem dL_near_20 : decode cL_near 20 = .ok (.iand, 1) := by decide +kernel
theorem dL_near_21 : decode cL_near 21 = .ok (.iconst 1, 1) := by decide +kernel
theorem dL_near_22 : decode cL_near 22 = .ok (.if_icmp .ne 7, 3) := by decide +kernel
theorem dL_near_25 : decode cL_near 25 = .ok (.iload_n 1, 1) := by decide +kernel
theorem dL_near_26 : decode cL_near 26 = .ok (.iload_n 2, 1) := by decide +kernel
theorem dL_near_27 : decode cL_near 27 = .ok (.isub, 1) := by decide +kernel
theorem dL_near_28 : decode cL_near 28 = .ok (.ireturn, 1) := by decide +kernel
theorem dL_near_29 : decode cL_near 29 = .ok (.iload_n 1, 1) := by decide +kernel
theorem dL_near_30 : decode cL_near 30 = .ok (.iload_n 2, 1) := by decide +kernel
theorem dL_near_31 : decode cL_near 31 = .ok (.iadd, 1) := by decide +kernel
theorem dL_near_32 : decode cL_near 32 = .ok (.bipush 12, 2) := by decide +kernel
theorem dL_near_34 : decode cL_near 34 = .ok (.if_icmp .ge 18, 3) := by decide +kernel
theorem dL_near_37 : decode cL_near 37 = .ok (.iload_n 0, 1) := by decide +kernel
theorem dL_near_38 : decode cL_near 38 = .ok (.iload_n 1, 1) := by decide +kernel
theorem dL_near_39 : decode cL_near 39 = .ok (.iload_n 2, 1) := by decide +kernel
theorem dL_near_40 : decode cL_near 40 = .ok (.iadd, 1) := by decide +kernel
theorem dL_near_41 : decode cL_near 41 = .ok (.ishr, 1) := by decide +kernel
theorem dL_near_42 : decode cL_near 42 = .ok (.iconst 1, 1) := by decide +kernel
theorem dL_near_43 : decode cL_near 43 = .ok (.iand, 1) := by decide +kernel
theorem dL_near_44 : decode cL_near 44 = .ok (.iconst 1, 1) := by decide +kernel
theorem dL_near_45 : decode cL_near 45 = .ok (.if_icmp .ne 7, 3) := by decide +kernel
theorem dL_near_48 : decode cL_near 48 = .ok (.iload_n 1, 1) := by decide +kernel
theorem dL_near_49 : decode cL_near 49 = .ok (.iload_n 2, 1) := by decide +kernel
theorem dL_near_50 : decode cL_near 50 = .ok (.iadd, 1) := by decide +kernel
theorem dL_near_51 : decode cL_near 51 = .ok (.ireturn, 1) := by decide +kernel
theorem dL_near_52 : decode cL_near 52 = .ok (.iinc 2 1, 3) := by decide +kernel
theorem dL_near_55 : decode cL_near 55 = .ok (.goto (-53), 3) := by decide +kernel
theorem dL_near_58 : decode cL_near 58 = .ok (.iconst (-1), 1) := by decide +kernel
theorem dL_near_59 : decode cL_near 59 = .ok (.ireturn, 1) := by decide +kernel
set_option maxRecDepth 20000 in
theorem ggL_hour_L_ahead : GoodIn wsL_hour wsL_ahead := goodIn_r _ [4, 5, 6, 3, 7] (by decide +kernel) (by decide +kernel)
set_option maxRecDepth 20000 in
theorem gL_hour_L_ahead : GoodIn wsL_hour (va_wsS RL 16 yL_ahead wsL_ahead) := goodIn_app (goodIn_of _ (by decide +kernel)) ggL_hour_L_ahead
set_option maxRecDepth 20000 in
theorem ggL_hour_L_rains : GoodIn wsL_hour wsL_rains := goodIn_r _ [7] (by decide +kernel) (by decide +kernel)
set_option maxRecDepth 20000 in
theorem gL_hour_L_rains : GoodIn wsL_hour (va_wsS RL 10 yL_rains wsL_rains) := goodIn_app (goodIn_of _ (by decide +kernel)) ggL_hour_L_rains
set_option maxRecDepth 20000 in
theorem ggL_hour_L_near : GoodIn wsL_hour wsL_near := goodIn_r _ [10] (by decide +kernel) (by decide +kernel)
set_option maxRecDepth 20000 in
theorem gL_hour_L_near : GoodIn wsL_hour (va_wsS RL 20 yL_near wsL_near) := goodIn_app (goodIn_of _ (by decide +kernel)) ggL_hour_L_near
theorem dL_hour_0 : decode cL_hour 0 = .ok (.aload_n 0, 1) := by decide +kernel
theorem dL_hour_1 : decode cL_hour 1 = .ok (.invokestatic 16, 3) := by decide +kernel
theorem dL_hour_4 : decode cL_hour 4 = .ok (.istore_n 3, 1) := by decide +kernel
theorem dL_hour_5 : decode cL_hour 5 = .ok (.aload_n 0, 1) := by decide +kernel
theorem dL_hour_6 : decode cL_hour 6 = .ok (.bipush 7, 2) := by decide +kernel
theorem dL_hour_8 : decode cL_hour 8 = .ok (.iaload, 1) := by decide +kernel
theorem dL_hour_9 : decode cL_hour 9 = .ok (.aload_n 0, 1) := by decide +kernel
theorem dL_hour_10 : decode cL_hour 10 = .ok (.invokestatic 10, 3) := by decide +kernel
theorem dL_hour_13 : decode cL_hour 13 = .ok (.istore 4, 2) := by decide +kernel
theorem dL_hour_15 : decode cL_hour 15 = .ok (.aload_n 0, 1) := by decide +kernel
theorem dL_hour_16 : decode cL_hour 16 = .ok (.bipush 7, 2) := by decide +kernel
theorem dL_hour_18 : decode cL_hour 18 = .ok (.iaload, 1) := by decide +kernel
theorem dL_hour_19 : decode cL_hour 19 = .ok (.bipush 24, 2) := by decide +kernel
theorem dL_hour_21 : decode cL_hour 21 = .ok (.irem, 1) := by decide +kernel
theorem dL_hour_22 : decode cL_hour 22 = .ok (.istore 5, 2) := by decide +kernel
theorem dL_hour_24 : decode cL_hour 24 = .ok (.sipush 4095, 3) := by decide +kernel
theorem dL_hour_27 : decode cL_hour 27 = .ok (.istore 6, 2) := by decide +kernel
theorem dL_hour_29 : decode cL_hour 29 = .ok (.iconst 0, 1) := by decide +kernel
theorem dL_hour_30 : decode cL_hour 30 = .ok (.istore 7, 2) := by decide +kernel
theorem dL_hour_32 : decode cL_hour 32 = .ok (.iconst 0, 1) := by decide +kernel
theorem dL_hour_33 : decode cL_hour 33 = .ok (.istore 8, 2) := by decide +kernel
theorem dL_hour_35 : decode cL_hour 35 = .ok (.iconst 0, 1) := by decide +kernel
theorem dL_hour_36 : decode cL_hour 36 = .ok (.istore 9, 2) := by decide +kernel
theorem dL_hour_38 : decode cL_hour 38 = .ok (.iload 9, 2) := by decide +kernel
theorem dL_hour_40 : decode cL_hour 40 = .ok (.aload_n 0, 1) := by decide +kernel
theorem dL_hour_41 : decode cL_hour 41 = .ok (.bipush 11, 2) := by decide +kernel
theorem dL_hour_43 : decode cL_hour 43 = .ok (.iaload, 1) := by decide +kernel
theorem dL_hour_44 : decode cL_hour 44 = .ok (.if_icmp .ge 293, 3) := by decide +kernel
theorem dL_hour_47 : decode cL_hour 47 = .ok (.iconst 5, 1) := by decide +kernel
theorem dL_hour_48 : decode cL_hour 48 = .ok (.iload 9, 2) := by decide +kernel
theorem dL_hour_50 : decode cL_hour 50 = .ok (.imul, 1) := by decide +kernel
theorem dL_hour_51 : decode cL_hour 51 = .ok (.istore 10, 2) := by decide +kernel
theorem dL_hour_53 : decode cL_hour 53 = .ok (.iconst 0, 1) := by decide +kernel
theorem dL_hour_54 : decode cL_hour 54 = .ok (.istore 11, 2) := by decide +kernel
theorem dL_hour_56 : decode cL_hour 56 = .ok (.iconst 0, 1) := by decide +kernel
theorem dL_hour_57 : decode cL_hour 57 = .ok (.istore 12, 2) := by decide +kernel
theorem dL_hour_59 : decode cL_hour 59 = .ok (.iconst 0, 1) := by decide +kernel
theorem dL_hour_60 : decode cL_hour 60 = .ok (.istore 13, 2) := by decide +kernel
theorem dL_hour_62 : decode cL_hour 62 = .ok (.iload 13, 2) := by decide +kernel
theorem dL_hour_64 : decode cL_hour 64 = .ok (.bipush 12, 2) := by decide +kernel
theorem dL_hour_66 : decode cL_hour 66 = .ok (.if_icmp .ge 101, 3) := by decide +kernel
theorem dL_hour_69 : decode cL_hour 69 = .ok (.aload_n 1, 1) := by decide +kernel
theorem dL_hour_70 : decode cL_hour 70 = .ok (.iconst 5, 1) := by decide +kernel
theorem dL_hour_71 : decode cL_hour 71 = .ok (.iload 13, 2) := by decide +kernel
theorem dL_hour_73 : decode cL_hour 73 = .ok (.imul, 1) := by decide +kernel
theorem dL_hour_74 : decode cL_hour 74 = .ok (.iaload, 1) := by decide +kernel
theorem dL_hour_75 : decode cL_hour 75 = .ok (.ifCond .lt 86, 3) := by decide +kernel
theorem dL_hour_78 : decode cL_hour 78 = .ok (.iload 6, 2) := by decide +kernel
theorem dL_hour_80 : decode cL_hour 80 = .ok (.iload 13, 2) := by decide +kernel
theorem dL_hour_82 : decode cL_hour 82 = .ok (.ishr, 1) := by decide +kernel
theorem dL_hour_83 : decode cL_hour 83 = .ok (.iconst 1, 1) := by decide +kernel
theorem dL_hour_84 : decode cL_hour 84 = .ok (.iand, 1) := by decide +kernel
theorem dL_hour_85 : decode cL_hour 85 = .ok (.ifCond .ne 6, 3) := by decide +kernel
theorem dL_hour_88 : decode cL_hour 88 = .ok (.goto 73, 3) := by decide +kernel
theorem dL_hour_91 : decode cL_hour 91 = .ok (.iload 11, 2) := by decide +kernel
theorem dL_hour_93 : decode cL_hour 93 = .ok (.aload_n 1, 1) := by decide +kernel
theorem dL_hour_94 : decode cL_hour 94 = .ok (.iconst 5, 1) := by decide +kernel
theorem dL_hour_95 : decode cL_hour 95 = .ok (.iload 13, 2) := by decide +kernel
theorem dL_hour_97 : decode cL_hour 97 = .ok (.imul, 1) := by decide +kernel
theorem dL_hour_98 : decode cL_hour 98 = .ok (.iconst 2, 1) := by decide +kernel
theorem dL_hour_99 : decode cL_hour 99 = .ok (.iadd, 1) := by decide +kernel
theorem dL_hour_100 : decode cL_hour 100 = .ok (.iaload, 1) := by decide +kernel
theorem dL_hour_101 : decode cL_hour 101 = .ok (.iload_n 3, 1) := by decide +kernel
theorem dL_hour_102 : decode cL_hour 102 = .ok (.ifCond .eq 7, 3) := by decide +kernel
theorem dL_hour_105 : decode cL_hour 105 = .ok (.iconst 1, 1) := by decide +kernel
theorem dL_hour_106 : decode cL_hour 106 = .ok (.goto 4, 3) := by decide +kernel
theorem dL_hour_109 : decode cL_hour 109 = .ok (.iconst 2, 1) := by decide +kernel
theorem dL_hour_110 : decode cL_hour 110 = .ok (.if_icmp .ne 10, 3) := by decide +kernel
theorem dL_hour_113 : decode cL_hour 113 = .ok (.iconst 1, 1) := by decide +kernel
theorem dL_hour_114 : decode cL_hour 114 = .ok (.iload 13, 2) := by decide +kernel
theorem dL_hour_116 : decode cL_hour 116 = .ok (.ishl, 1) := by decide +kernel
theorem dL_hour_117 : decode cL_hour 117 = .ok (.goto 4, 3) := by decide +kernel
theorem dL_hour_120 : decode cL_hour 120 = .ok (.iconst 0, 1) := by decide +kernel
theorem dL_hour_121 : decode cL_hour 121 = .ok (.ior, 1) := by decide +kernel
theorem dL_hour_122 : decode cL_hour 122 = .ok (.istore 11, 2) := by decide +kernel
theorem dL_hour_124 : decode cL_hour 124 = .ok (.iload 12, 2) := by decide +kernel
theorem dL_hour_126 : decode cL_hour 126 = .ok (.aload_n 1, 1) := by decide +kernel
theorem dL_hour_127 : decode cL_hour 127 = .ok (.iconst 5, 1) := by decide +kernel
theorem dL_hour_128 : decode cL_hour 128 = .ok (.iload 13, 2) := by decide +kernel
theorem dL_hour_130 : decode cL_hour 130 = .ok (.imul, 1) := by decide +kernel
theorem dL_hour_131 : decode cL_hour 131 = .ok (.iconst 2, 1) := by decide +kernel
theorem dL_hour_132 : decode cL_hour 132 = .ok (.iadd, 1) := by decide +kernel
theorem dL_hour_133 : decode cL_hour 133 = .ok (.iaload, 1) := by decide +kernel
theorem dL_hour_134 : decode cL_hour 134 = .ok (.iconst 2, 1) := by decide +kernel
theorem dL_hour_135 : decode cL_hour 135 = .ok (.if_icmp .ge 22, 3) := by decide +kernel
theorem dL_hour_138 : decode cL_hour 138 = .ok (.aload_n 1, 1) := by decide +kernel
theorem dL_hour_139 : decode cL_hour 139 = .ok (.iconst 5, 1) := by decide +kernel
theorem dL_hour_140 : decode cL_hour 140 = .ok (.iload 13, 2) := by decide +kernel
theorem dL_hour_142 : decode cL_hour 142 = .ok (.imul, 1) := by decide +kernel
theorem dL_hour_143 : decode cL_hour 143 = .ok (.iaload, 1) := by decide +kernel
theorem dL_hour_144 : decode cL_hour 144 = .ok (.aload_n 0, 1) := by decide +kernel
theorem dL_hour_145 : decode cL_hour 145 = .ok (.iconst 5, 1) := by decide +kernel
theorem dL_hour_146 : decode cL_hour 146 = .ok (.iaload, 1) := by decide +kernel
theorem dL_hour_147 : decode cL_hour 147 = .ok (.if_icmp .ge 10, 3) := by decide +kernel
theorem dL_hour_150 : decode cL_hour 150 = .ok (.iconst 1, 1) := by decide +kernel
theorem dL_hour_151 : decode cL_hour 151 = .ok (.iload 13, 2) := by decide +kernel
theorem dL_hour_153 : decode cL_hour 153 = .ok (.ishl, 1) := by decide +kernel
theorem dL_hour_154 : decode cL_hour 154 = .ok (.goto 4, 3) := by decide +kernel
theorem dL_hour_157 : decode cL_hour 157 = .ok (.iconst 0, 1) := by decide +kernel
theorem dL_hour_158 : decode cL_hour 158 = .ok (.ior, 1) := by decide +kernel
theorem dL_hour_159 : decode cL_hour 159 = .ok (.istore 12, 2) := by decide +kernel
theorem dL_hour_161 : decode cL_hour 161 = .ok (.iinc 13 1, 3) := by decide +kernel
theorem dL_hour_164 : decode cL_hour 164 = .ok (.goto (-102), 3) := by decide +kernel
theorem dL_hour_167 : decode cL_hour 167 = .ok (.iload 11, 2) := by decide +kernel
theorem dL_hour_169 : decode cL_hour 169 = .ok (.ifCond .eq 8, 3) := by decide +kernel
theorem dL_hour_172 : decode cL_hour 172 = .ok (.iload 11, 2) := by decide +kernel
theorem dL_hour_174 : decode cL_hour 174 = .ok (.goto 5, 3) := by decide +kernel
theorem dL_hour_177 : decode cL_hour 177 = .ok (.iload 12, 2) := by decide +kernel
theorem dL_hour_179 : decode cL_hour 179 = .ok (.aload_n 2, 1) := by decide +kernel
theorem dL_hour_180 : decode cL_hour 180 = .ok (.iload 10, 2) := by decide +kernel
theorem dL_hour_182 : decode cL_hour 182 = .ok (.iaload, 1) := by decide +kernel
theorem dL_hour_183 : decode cL_hour 183 = .ok (.invokestatic 20, 3) := by decide +kernel
theorem dL_hour_186 : decode cL_hour 186 = .ok (.istore 13, 2) := by decide +kernel
theorem dL_hour_188 : decode cL_hour 188 = .ok (.iload 13, 2) := by decide +kernel
theorem dL_hour_190 : decode cL_hour 190 = .ok (.ifCond .lt 141, 3) := by decide +kernel
theorem dL_hour_193 : decode cL_hour 193 = .ok (.iload 6, 2) := by decide +kernel
theorem dL_hour_195 : decode cL_hour 195 = .ok (.iconst 1, 1) := by decide +kernel
theorem dL_hour_196 : decode cL_hour 196 = .ok (.iload 13, 2) := by decide +kernel
theorem dL_hour_198 : decode cL_hour 198 = .ok (.ishl, 1) := by decide +kernel
theorem dL_hour_199 : decode cL_hour 199 = .ok (.iconst (-1), 1) := by decide +kernel
theorem dL_hour_200 : decode cL_hour 200 = .ok (.ixor, 1) := by decide +kernel
theorem dL_hour_201 : decode cL_hour 201 = .ok (.iand, 1) := by decide +kernel
theorem dL_hour_202 : decode cL_hour 202 = .ok (.istore 6, 2) := by decide +kernel
theorem dL_hour_204 : decode cL_hour 204 = .ok (.iload 13, 2) := by decide +kernel
theorem dL_hour_206 : decode cL_hour 206 = .ok (.aload_n 2, 1) := by decide +kernel
theorem dL_hour_207 : decode cL_hour 207 = .ok (.iload 10, 2) := by decide +kernel
theorem dL_hour_209 : decode cL_hour 209 = .ok (.iaload, 1) := by decide +kernel
theorem dL_hour_210 : decode cL_hour 210 = .ok (.if_icmp .eq 37, 3) := by decide +kernel
theorem dL_hour_213 : decode cL_hour 213 = .ok (.aload_n 2, 1) := by decide +kernel
theorem dL_hour_214 : decode cL_hour 214 = .ok (.iload 10, 2) := by decide +kernel
theorem dL_hour_216 : decode cL_hour 216 = .ok (.dup2, 1) := by decide +kernel
theorem dL_hour_217 : decode cL_hour 217 = .ok (.iaload, 1) := by decide +kernel
theorem dL_hour_218 : decode cL_hour 218 = .ok (.iload 13, 2) := by decide +kernel
theorem dL_hour_220 : decode cL_hour 220 = .ok (.aload_n 2, 1) := by decide +kernel
theorem dL_hour_221 : decode cL_hour 221 = .ok (.iload 10, 2) := by decide +kernel
theorem dL_hour_223 : decode cL_hour 223 = .ok (.iaload, 1) := by decide +kernel
theorem dL_hour_224 : decode cL_hour 224 = .ok (.if_icmp .le 7, 3) := by decide +kernel
theorem dL_hour_227 : decode cL_hour 227 = .ok (.iconst 1, 1) := by decide +kernel
theorem dL_hour_228 : decode cL_hour 228 = .ok (.goto 4, 3) := by decide +kernel
theorem dL_hour_231 : decode cL_hour 231 = .ok (.iconst (-1), 1) := by decide +kernel
theorem dL_hour_232 : decode cL_hour 232 = .ok (.iadd, 1) := by decide +kernel
theorem dL_hour_233 : decode cL_hour 233 = .ok (.iastore, 1) := by decide +kernel
theorem dL_hour_234 : decode cL_hour 234 = .ok (.aload_n 2, 1) := by decide +kernel
theorem dL_hour_235 : decode cL_hour 235 = .ok (.iload 10, 2) := by decide +kernel
theorem dL_hour_237 : decode cL_hour 237 = .ok (.iconst 4, 1) := by decide +kernel
theorem dL_hour_238 : decode cL_hour 238 = .ok (.iadd, 1) := by decide +kernel
theorem dL_hour_239 : decode cL_hour 239 = .ok (.dup2, 1) := by decide +kernel
theorem dL_hour_240 : decode cL_hour 240 = .ok (.iaload, 1) := by decide +kernel
theorem dL_hour_241 : decode cL_hour 241 = .ok (.iconst 1, 1) := by decide +kernel
theorem dL_hour_242 : decode cL_hour 242 = .ok (.iadd, 1) := by decide +kernel
theorem dL_hour_243 : decode cL_hour 243 = .ok (.iastore, 1) := by decide +kernel
theorem dL_hour_244 : decode cL_hour 244 = .ok (.goto 87, 3) := by decide +kernel
theorem dL_hour_247 : decode cL_hour 247 = .ok (.iload 11, 2) := by decide +kernel
theorem dL_hour_249 : decode cL_hour 249 = .ok (.ifCond .eq 41, 3) := by decide +kernel
theorem dL_hour_252 : decode cL_hour 252 = .ok (.aload_n 1, 1) := by decide +kernel
theorem dL_hour_253 : decode cL_hour 253 = .ok (.iconst 5, 1) := by decide +kernel
theorem dL_hour_254 : decode cL_hour 254 = .ok (.iload 13, 2) := by decide +kernel
theorem dL_hour_256 : decode cL_hour 256 = .ok (.imul, 1) := by decide +kernel
theorem dL_hour_257 : decode cL_hour 257 = .ok (.iconst 2, 1) := by decide +kernel
theorem dL_hour_258 : decode cL_hour 258 = .ok (.iadd, 1) := by decide +kernel
theorem dL_hour_259 : decode cL_hour 259 = .ok (.iload_n 3, 1) := by decide +kernel
theorem dL_hour_260 : decode cL_hour 260 = .ok (.ifCond .eq 7, 3) := by decide +kernel
theorem dL_hour_263 : decode cL_hour 263 = .ok (.iconst 2, 1) := by decide +kernel
theorem dL_hour_264 : decode cL_hour 264 = .ok (.goto 4, 3) := by decide +kernel
theorem dL_hour_267 : decode cL_hour 267 = .ok (.iconst 1, 1) := by decide +kernel
theorem dL_hour_268 : decode cL_hour 268 = .ok (.iastore, 1) := by decide +kernel
theorem dL_hour_269 : decode cL_hour 269 = .ok (.aload_n 2, 1) := by decide +kernel
theorem dL_hour_270 : decode cL_hour 270 = .ok (.iload 10, 2) := by decide +kernel
theorem dL_hour_272 : decode cL_hour 272 = .ok (.iload_n 3, 1) := by decide +kernel
theorem dL_hour_273 : decode cL_hour 273 = .ok (.ifCond .eq 7, 3) := by decide +kernel
theorem dL_hour_276 : decode cL_hour 276 = .ok (.iconst 1, 1) := by decide +kernel
theorem dL_hour_277 : decode cL_hour 277 = .ok (.goto 4, 3) := by decide +kernel
theorem dL_hour_280 : decode cL_hour 280 = .ok (.iconst 2, 1) := by decide +kernel
theorem dL_hour_281 : decode cL_hour 281 = .ok (.iadd, 1) := by decide +kernel
theorem dL_hour_282 : decode cL_hour 282 = .ok (.dup2, 1) := by decide +kernel
theorem dL_hour_283 : decode cL_hour 283 = .ok (.iaload, 1) := by decide +kernel
theorem dL_hour_284 : decode cL_hour 284 = .ok (.iconst 1, 1) := by decide +kernel
theorem dL_hour_285 : decode cL_hour 285 = .ok (.iadd, 1) := by decide +kernel
theorem dL_hour_286 : decode cL_hour 286 = .ok (.iastore, 1) := by decide +kernel
theorem dL_hour_287 : decode cL_hour 287 = .ok (.goto 44, 3) := by decide +kernel
theorem dL_hour_290 : decode cL_hour 290 = .ok (.aload_n 1, 1) := by decide +kernel
theorem dL_hour_291 : decode cL_hour 291 = .ok (.iconst 5, 1) := by decide +kernel
theorem dL_hour_292 : decode cL_hour 292 = .ok (.iload 13, 2) := by decide +kernel
theorem dL_hour_294 : decode cL_hour 294 = .ok (.imul, 1) := by decide +kernel
theorem dL_hour_295 : decode cL_hour 295 = .ok (.aload_n 1, 1) := by decide +kernel
theorem dL_hour_296 : decode cL_hour 296 = .ok (.iconst 5, 1) := by decide +kernel
theorem dL_hour_297 : decode cL_hour 297 = .ok (.iload 13, 2) := by decide +kernel
theorem dL_hour_299 : decode cL_hour 299 = .ok (.imul, 1) := by decide +kernel
theorem dL_hour_300 : decode cL_hour 300 = .ok (.iaload, 1) := by decide +kernel
theorem dL_hour_301 : decode cL_hour 301 = .ok (.bipush 90, 2) := by decide +kernel
theorem dL_hour_303 : decode cL_hour 303 = .ok (.if_icmp .le 8, 3) := by decide +kernel
theorem dL_hour_306 : decode cL_hour 306 = .ok (.bipush 100, 2) := by decide +kernel
theorem dL_hour_308 : decode cL_hour 308 = .ok (.goto 12, 3) := by decide +kernel
theorem dL_hour_311 : decode cL_hour 311 = .ok (.aload_n 1, 1) := by decide +kernel
theorem dL_hour_312 : decode cL_hour 312 = .ok (.iconst 5, 1) := by decide +kernel
theorem dL_hour_313 : decode cL_hour 313 = .ok (.iload 13, 2) := by decide +kernel
theorem dL_hour_315 : decode cL_hour 315 = .ok (.imul, 1) := by decide +kernel
theorem dL_hour_316 : decode cL_hour 316 = .ok (.iaload, 1) := by decide +kernel
theorem dL_hour_317 : decode cL_hour 317 = .ok (.bipush 10, 2) := by decide +kernel
theorem dL_hour_319 : decode cL_hour 319 = .ok (.iadd, 1) := by decide +kernel
theorem dL_hour_320 : decode cL_hour 320 = .ok (.iastore, 1) := by decide +kernel
theorem dL_hour_321 : decode cL_hour 321 = .ok (.aload_n 2, 1) := by decide +kernel
theorem dL_hour_322 : decode cL_hour 322 = .ok (.iload 10, 2) := by decide +kernel
theorem dL_hour_324 : decode cL_hour 324 = .ok (.iconst 3, 1) := by decide +kernel
theorem dL_hour_325 : decode cL_hour 325 = .ok (.iadd, 1) := by decide +kernel
theorem dL_hour_326 : decode cL_hour 326 = .ok (.dup2, 1) := by decide +kernel
theorem dL_hour_327 : decode cL_hour 327 = .ok (.iaload, 1) := by decide +kernel
theorem dL_hour_328 : decode cL_hour 328 = .ok (.iconst 1, 1) := by decide +kernel
theorem dL_hour_329 : decode cL_hour 329 = .ok (.iadd, 1) := by decide +kernel
theorem dL_hour_330 : decode cL_hour 330 = .ok (.iastore, 1) := by decide +kernel
theorem dL_hour_331 : decode cL_hour 331 = .ok (.iinc 9 1, 3) := by decide +kernel
theorem dL_hour_334 : decode cL_hour 334 = .ok (.goto (-296), 3) := by decide +kernel
theorem dL_hour_337 : decode cL_hour 337 = .ok (.iconst 0, 1) := by decide +kernel
theorem dL_hour_338 : decode cL_hour 338 = .ok (.istore 9, 2) := by decide +kernel
theorem dL_hour_340 : decode cL_hour 340 = .ok (.iload 9, 2) := by decide +kernel
theorem dL_hour_342 : decode cL_hour 342 = .ok (.aload_n 0, 1) := by decide +kernel
theorem dL_hour_343 : decode cL_hour 343 = .ok (.bipush 11, 2) := by decide +kernel
theorem dL_hour_345 : decode cL_hour 345 = .ok (.iaload, 1) := by decide +kernel
theorem dL_hour_346 : decode cL_hour 346 = .ok (.if_icmp .ge 22, 3) := by decide +kernel
theorem dL_hour_349 : decode cL_hour 349 = .ok (.iload 8, 2) := by decide +kernel
theorem dL_hour_351 : decode cL_hour 351 = .ok (.iconst 1, 1) := by decide +kernel
theorem dL_hour_352 : decode cL_hour 352 = .ok (.aload_n 2, 1) := by decide +kernel
theorem dL_hour_353 : decode cL_hour 353 = .ok (.iconst 5, 1) := by decide +kernel
theorem dL_hour_354 : decode cL_hour 354 = .ok (.iload 9, 2) := by decide +kernel
theorem dL_hour_356 : decode cL_hour 356 = .ok (.imul, 1) := by decide +kernel
theorem dL_hour_357 : decode cL_hour 357 = .ok (.iaload, 1) := by decide +kernel
theorem dL_hour_358 : decode cL_hour 358 = .ok (.ishl, 1) := by decide +kernel
theorem dL_hour_359 : decode cL_hour 359 = .ok (.ior, 1) := by decide +kernel
theorem dL_hour_360 : decode cL_hour 360 = .ok (.istore 8, 2) := by decide +kernel
theorem dL_hour_362 : decode cL_hour 362 = .ok (.iinc 9 1, 3) := by decide +kernel
theorem dL_hour_365 : decode cL_hour 365 = .ok (.goto (-25), 3) := by decide +kernel
theorem dL_hour_368 : decode cL_hour 368 = .ok (.iconst 0, 1) := by decide +kernel
theorem dL_hour_369 : decode cL_hour 369 = .ok (.istore 9, 2) := by decide +kernel
theorem dL_hour_371 : decode cL_hour 371 = .ok (.iload 9, 2) := by decide +kernel
theorem dL_hour_373 : decode cL_hour 373 = .ok (.bipush 12, 2) := by decide +kernel
theorem dL_hour_375 : decode cL_hour 375 = .ok (.if_icmp .ge 291, 3) := by decide +kernel
theorem dL_hour_378 : decode cL_hour 378 = .ok (.iconst 5, 1) := by decide +kernel
theorem dL_hour_379 : decode cL_hour 379 = .ok (.iload 9, 2) := by decide +kernel
theorem dL_hour_381 : decode cL_hour 381 = .ok (.imul, 1) := by decide +kernel
theorem dL_hour_382 : decode cL_hour 382 = .ok (.istore 10, 2) := by decide +kernel
theorem dL_hour_384 : decode cL_hour 384 = .ok (.aload_n 1, 1) := by decide +kernel
theorem dL_hour_385 : decode cL_hour 385 = .ok (.iload 10, 2) := by decide +kernel
theorem dL_hour_387 : decode cL_hour 387 = .ok (.iaload, 1) := by decide +kernel
theorem dL_hour_388 : decode cL_hour 388 = .ok (.ifCond .lt 272, 3) := by decide +kernel
theorem dL_hour_391 : decode cL_hour 391 = .ok (.aload_n 1, 1) := by decide +kernel
theorem dL_hour_392 : decode cL_hour 392 = .ok (.iload 10, 2) := by decide +kernel
theorem dL_hour_394 : decode cL_hour 394 = .ok (.iconst 2, 1) := by decide +kernel
theorem dL_hour_395 : decode cL_hour 395 = .ok (.iadd, 1) := by decide +kernel
theorem dL_hour_396 : decode cL_hour 396 = .ok (.iaload, 1) := by decide +kernel
theorem dL_hour_397 : decode cL_hour 397 = .ok (.iconst 2, 1) := by decide +kernel
theorem dL_hour_398 : decode cL_hour 398 = .ok (.if_icmp .ne 6, 3) := by decide +kernel
theorem dL_hour_401 : decode cL_hour 401 = .ok (.goto 259, 3) := by decide +kernel
theorem dL_hour_404 : decode cL_hour 404 = .ok (.iload 4, 2) := by decide +kernel
theorem dL_hour_406 : decode cL_hour 406 = .ok (.ifCond .eq 78, 3) := by decide +kernel
theorem dL_hour_409 : decode cL_hour 409 = .ok (.aload_n 1, 1) := by decide +kernel
theorem dL_hour_410 : decode cL_hour 410 = .ok (.iload 10, 2) := by decide +kernel
theorem dL_hour_412 : decode cL_hour 412 = .ok (.iconst 1, 1) := by decide +kernel
theorem dL_hour_413 : decode cL_hour 413 = .ok (.iadd, 1) := by decide +kernel
theorem dL_hour_414 : decode cL_hour 414 = .ok (.aload_n 1, 1) := by decide +kernel
theorem dL_hour_415 : decode cL_hour 415 = .ok (.iload 10, 2) := by decide +kernel
theorem dL_hour_417 : decode cL_hour 417 = .ok (.iconst 1, 1) := by decide +kernel
theorem dL_hour_418 : decode cL_hour 418 = .ok (.iadd, 1) := by decide +kernel
theorem dL_hour_419 : decode cL_hour 419 = .ok (.iaload, 1) := by decide +kernel
theorem dL_hour_420 : decode cL_hour 420 = .ok (.aload_n 0, 1) := by decide +kernel
theorem dL_hour_421 : decode cL_hour 421 = .ok (.iconst 1, 1) := by decide +kernel
theorem dL_hour_422 : decode cL_hour 422 = .ok (.iaload, 1) := by decide +kernel
theorem dL_hour_423 : decode cL_hour 423 = .ok (.iadd, 1) := by decide +kernel
theorem dL_hour_424 : decode cL_hour 424 = .ok (.bipush 100, 2) := by decide +kernel
theorem dL_hour_426 : decode cL_hour 426 = .ok (.if_icmp .le 8, 3) := by decide +kernel
theorem dL_hour_429 : decode cL_hour 429 = .ok (.bipush 100, 2) := by decide +kernel
theorem dL_hour_431 : decode cL_hour 431 = .ok (.goto 13, 3) := by decide +kernel
theorem dL_hour_434 : decode cL_hour 434 = .ok (.aload_n 1, 1) := by decide +kernel
theorem dL_hour_435 : decode cL_hour 435 = .ok (.iload 10, 2) := by decide +kernel
theorem dL_hour_437 : decode cL_hour 437 = .ok (.iconst 1, 1) := by decide +kernel
theorem dL_hour_438 : decode cL_hour 438 = .ok (.iadd, 1) := by decide +kernel
theorem dL_hour_439 : decode cL_hour 439 = .ok (.iaload, 1) := by decide +kernel
theorem dL_hour_440 : decode cL_hour 440 = .ok (.aload_n 0, 1) := by decide +kernel
theorem dL_hour_441 : decode cL_hour 441 = .ok (.iconst 1, 1) := by decide +kernel
theorem dL_hour_442 : decode cL_hour 442 = .ok (.iaload, 1) := by decide +kernel
theorem dL_hour_443 : decode cL_hour 443 = .ok (.iadd, 1) := by decide +kernel
theorem dL_hour_444 : decode cL_hour 444 = .ok (.iastore, 1) := by decide +kernel
theorem dL_hour_445 : decode cL_hour 445 = .ok (.aload_n 1, 1) := by decide +kernel
theorem dL_hour_446 : decode cL_hour 446 = .ok (.iload 10, 2) := by decide +kernel
theorem dL_hour_448 : decode cL_hour 448 = .ok (.aload_n 1, 1) := by decide +kernel
theorem dL_hour_449 : decode cL_hour 449 = .ok (.iload 10, 2) := by decide +kernel
theorem dL_hour_451 : decode cL_hour 451 = .ok (.iaload, 1) := by decide +kernel
theorem dL_hour_452 : decode cL_hour 452 = .ok (.aload_n 0, 1) := by decide +kernel
theorem dL_hour_453 : decode cL_hour 453 = .ok (.iconst 3, 1) := by decide +kernel
theorem dL_hour_454 : decode cL_hour 454 = .ok (.iaload, 1) := by decide +kernel
theorem dL_hour_455 : decode cL_hour 455 = .ok (.if_icmp .ge 7, 3) := by decide +kernel
theorem dL_hour_458 : decode cL_hour 458 = .ok (.iconst 0, 1) := by decide +kernel
theorem dL_hour_459 : decode cL_hour 459 = .ok (.goto 11, 3) := by decide +kernel
theorem dL_hour_462 : decode cL_hour 462 = .ok (.aload_n 1, 1) := by decide +kernel
theorem dL_hour_463 : decode cL_hour 463 = .ok (.iload 10, 2) := by decide +kernel
theorem dL_hour_465 : decode cL_hour 465 = .ok (.iaload, 1) := by decide +kernel
theorem dL_hour_466 : decode cL_hour 466 = .ok (.aload_n 0, 1) := by decide +kernel
theorem dL_hour_467 : decode cL_hour 467 = .ok (.iconst 3, 1) := by decide +kernel
theorem dL_hour_468 : decode cL_hour 468 = .ok (.iaload, 1) := by decide +kernel
theorem dL_hour_469 : decode cL_hour 469 = .ok (.isub, 1) := by decide +kernel
theorem dL_hour_470 : decode cL_hour 470 = .ok (.iastore, 1) := by decide +kernel
theorem dL_hour_471 : decode cL_hour 471 = .ok (.aload_n 1, 1) := by decide +kernel
theorem dL_hour_472 : decode cL_hour 472 = .ok (.iload 10, 2) := by decide +kernel
theorem dL_hour_474 : decode cL_hour 474 = .ok (.iconst 4, 1) := by decide +kernel
theorem dL_hour_475 : decode cL_hour 475 = .ok (.iadd, 1) := by decide +kernel
theorem dL_hour_476 : decode cL_hour 476 = .ok (.dup2, 1) := by decide +kernel
theorem dL_hour_477 : decode cL_hour 477 = .ok (.iaload, 1) := by decide +kernel
theorem dL_hour_478 : decode cL_hour 478 = .ok (.iconst 1, 1) := by decide +kernel
theorem dL_hour_479 : decode cL_hour 479 = .ok (.iadd, 1) := by decide +kernel
theorem dL_hour_480 : decode cL_hour 480 = .ok (.iastore, 1) := by decide +kernel
theorem dL_hour_481 : decode cL_hour 481 = .ok (.goto 110, 3) := by decide +kernel
theorem dL_hour_484 : decode cL_hour 484 = .ok (.aload_n 1, 1) := by decide +kernel
theorem dL_hour_485 : decode cL_hour 485 = .ok (.iload 10, 2) := by decide +kernel
theorem dL_hour_487 : decode cL_hour 487 = .ok (.iconst 1, 1) := by decide +kernel
theorem dL_hour_488 : decode cL_hour 488 = .ok (.iadd, 1) := by decide +kernel
theorem dL_hour_489 : decode cL_hour 489 = .ok (.aload_n 1, 1) := by decide +kernel
theorem dL_hour_490 : decode cL_hour 490 = .ok (.iload 10, 2) := by decide +kernel
theorem dL_hour_492 : decode cL_hour 492 = .ok (.iconst 1, 1) := by decide +kernel
theorem dL_hour_493 : decode cL_hour 493 = .ok (.iadd, 1) := by decide +kernel
theorem dL_hour_494 : decode cL_hour 494 = .ok (.iaload, 1) := by decide +kernel
theorem dL_hour_495 : decode cL_hour 495 = .ok (.aload_n 0, 1) := by decide +kernel
theorem dL_hour_496 : decode cL_hour 496 = .ok (.iconst 2, 1) := by decide +kernel
theorem dL_hour_497 : decode cL_hour 497 = .ok (.iaload, 1) := by decide +kernel
theorem dL_hour_498 : decode cL_hour 498 = .ok (.if_icmp .ge 7, 3) := by decide +kernel
theorem dL_hour_501 : decode cL_hour 501 = .ok (.iconst 0, 1) := by decide +kernel
theorem dL_hour_502 : decode cL_hour 502 = .ok (.goto 13, 3) := by decide +kernel
theorem dL_hour_505 : decode cL_hour 505 = .ok (.aload_n 1, 1) := by decide +kernel
theorem dL_hour_506 : decode cL_hour 506 = .ok (.iload 10, 2) := by decide +kernel
theorem dL_hour_508 : decode cL_hour 508 = .ok (.iconst 1, 1) := by decide +kernel
theorem dL_hour_509 : decode cL_hour 509 = .ok (.iadd, 1) := by decide +kernel
theorem dL_hour_510 : decode cL_hour 510 = .ok (.iaload, 1) := by decide +kernel
theorem dL_hour_511 : decode cL_hour 511 = .ok (.aload_n 0, 1) := by decide +kernel
theorem dL_hour_512 : decode cL_hour 512 = .ok (.iconst 2, 1) := by decide +kernel
theorem dL_hour_513 : decode cL_hour 513 = .ok (.iaload, 1) := by decide +kernel
theorem dL_hour_514 : decode cL_hour 514 = .ok (.isub, 1) := by decide +kernel
theorem dL_hour_515 : decode cL_hour 515 = .ok (.iastore, 1) := by decide +kernel
theorem dL_hour_516 : decode cL_hour 516 = .ok (.iload 5, 2) := by decide +kernel
theorem dL_hour_518 : decode cL_hour 518 = .ok (.bipush 8, 2) := by decide +kernel
theorem dL_hour_520 : decode cL_hour 520 = .ok (.if_icmp .lt 71, 3) := by decide +kernel
theorem dL_hour_523 : decode cL_hour 523 = .ok (.iload 5, 2) := by decide +kernel
theorem dL_hour_525 : decode cL_hour 525 = .ok (.bipush 22, 2) := by decide +kernel
theorem dL_hour_527 : decode cL_hour 527 = .ok (.if_icmp .ge 64, 3) := by decide +kernel
theorem dL_hour_530 : decode cL_hour 530 = .ok (.aload_n 1, 1) := by decide +kernel
theorem dL_hour_531 : decode cL_hour 531 = .ok (.iload 10, 2) := by decide +kernel
theorem dL_hour_533 : decode cL_hour 533 = .ok (.iconst 1, 1) := by decide +kernel
theorem dL_hour_534 : decode cL_hour 534 = .ok (.iadd, 1) := by decide +kernel
theorem dL_hour_535 : decode cL_hour 535 = .ok (.iaload, 1) := by decide +kernel
theorem dL_hour_536 : decode cL_hour 536 = .ok (.bipush 50, 2) := by decide +kernel
theorem dL_hour_538 : decode cL_hour 538 = .ok (.if_icmp .ge 53, 3) := by decide +kernel
theorem dL_hour_541 : decode cL_hour 541 = .ok (.aload_n 0, 1) := by decide +kernel
theorem dL_hour_542 : decode cL_hour 542 = .ok (.iconst 4, 1) := by decide +kernel
theorem dL_hour_543 : decode cL_hour 543 = .ok (.iaload, 1) := by decide +kernel
theorem dL_hour_544 : decode cL_hour 544 = .ok (.aload_n 1, 1) := by decide +kernel
theorem dL_hour_545 : decode cL_hour 545 = .ok (.iload 10, 2) := by decide +kernel
theorem dL_hour_547 : decode cL_hour 547 = .ok (.iaload, 1) := by decide +kernel
theorem dL_hour_548 : decode cL_hour 548 = .ok (.imul, 1) := by decide +kernel
theorem dL_hour_549 : decode cL_hour 549 = .ok (.bipush 100, 2) := by decide +kernel
theorem dL_hour_551 : decode cL_hour 551 = .ok (.idiv, 1) := by decide +kernel
theorem dL_hour_552 : decode cL_hour 552 = .ok (.istore 11, 2) := by decide +kernel
theorem dL_hour_554 : decode cL_hour 554 = .ok (.iload 7, 2) := by decide +kernel
theorem dL_hour_556 : decode cL_hour 556 = .ok (.iload 11, 2) := by decide +kernel
theorem dL_hour_558 : decode cL_hour 558 = .ok (.iadd, 1) := by decide +kernel
theorem dL_hour_559 : decode cL_hour 559 = .ok (.istore 7, 2) := by decide +kernel
theorem dL_hour_561 : decode cL_hour 561 = .ok (.aload_n 1, 1) := by decide +kernel
theorem dL_hour_562 : decode cL_hour 562 = .ok (.iload 10, 2) := by decide +kernel
theorem dL_hour_564 : decode cL_hour 564 = .ok (.iconst 3, 1) := by decide +kernel
theorem dL_hour_565 : decode cL_hour 565 = .ok (.iadd, 1) := by decide +kernel
theorem dL_hour_566 : decode cL_hour 566 = .ok (.dup2, 1) := by decide +kernel
theorem dL_hour_567 : decode cL_hour 567 = .ok (.iaload, 1) := by decide +kernel
theorem dL_hour_568 : decode cL_hour 568 = .ok (.iload 11, 2) := by decide +kernel
theorem dL_hour_570 : decode cL_hour 570 = .ok (.iadd, 1) := by decide +kernel
theorem dL_hour_571 : decode cL_hour 571 = .ok (.iastore, 1) := by decide +kernel
theorem dL_hour_572 : decode cL_hour 572 = .ok (.aload_n 1, 1) := by decide +kernel
theorem dL_hour_573 : decode cL_hour 573 = .ok (.iload 10, 2) := by decide +kernel
theorem dL_hour_575 : decode cL_hour 575 = .ok (.dup2, 1) := by decide +kernel
theorem dL_hour_576 : decode cL_hour 576 = .ok (.iaload, 1) := by decide +kernel
theorem dL_hour_577 : decode cL_hour 577 = .ok (.aload_n 1, 1) := by decide +kernel
theorem dL_hour_578 : decode cL_hour 578 = .ok (.iload 10, 2) := by decide +kernel
theorem dL_hour_580 : decode cL_hour 580 = .ok (.iaload, 1) := by decide +kernel
theorem dL_hour_581 : decode cL_hour 581 = .ok (.ifCond .le 7, 3) := by decide +kernel
theorem dL_hour_584 : decode cL_hour 584 = .ok (.iconst 1, 1) := by decide +kernel
theorem dL_hour_585 : decode cL_hour 585 = .ok (.goto 4, 3) := by decide +kernel
theorem dL_hour_588 : decode cL_hour 588 = .ok (.iconst 0, 1) := by decide +kernel
theorem dL_hour_589 : decode cL_hour 589 = .ok (.isub, 1) := by decide +kernel
theorem dL_hour_590 : decode cL_hour 590 = .ok (.iastore, 1) := by decide +kernel
theorem dL_hour_591 : decode cL_hour 591 = .ok (.iload 5, 2) := by decide +kernel
theorem dL_hour_593 : decode cL_hour 593 = .ok (.bipush 6, 2) := by decide +kernel
theorem dL_hour_595 : decode cL_hour 595 = .ok (.if_icmp .lt 10, 3) := by decide +kernel
theorem dL_hour_598 : decode cL_hour 598 = .ok (.iload 5, 2) := by decide +kernel
theorem dL_hour_600 : decode cL_hour 600 = .ok (.bipush 21, 2) := by decide +kernel
theorem dL_hour_602 : decode cL_hour 602 = .ok (.if_icmp .le 58, 3) := by decide +kernel
theorem dL_hour_605 : decode cL_hour 605 = .ok (.aload_n 1, 1) := by decide +kernel
theorem dL_hour_606 : decode cL_hour 606 = .ok (.iload 10, 2) := by decide +kernel
theorem dL_hour_608 : decode cL_hour 608 = .ok (.iconst 2, 1) := by decide +kernel
theorem dL_hour_609 : decode cL_hour 609 = .ok (.iadd, 1) := by decide +kernel
theorem dL_hour_610 : decode cL_hour 610 = .ok (.iaload, 1) := by decide +kernel
theorem dL_hour_611 : decode cL_hour 611 = .ok (.iconst 1, 1) := by decide +kernel
theorem dL_hour_612 : decode cL_hour 612 = .ok (.if_icmp .ne 48, 3) := by decide +kernel
theorem dL_hour_615 : decode cL_hour 615 = .ok (.iload 8, 2) := by decide +kernel
theorem dL_hour_617 : decode cL_hour 617 = .ok (.iload 9, 2) := by decide +kernel
theorem dL_hour_619 : decode cL_hour 619 = .ok (.ishr, 1) := by decide +kernel
theorem dL_hour_620 : decode cL_hour 620 = .ok (.iconst 1, 1) := by decide +kernel
theorem dL_hour_621 : decode cL_hour 621 = .ok (.iand, 1) := by decide +kernel
theorem dL_hour_622 : decode cL_hour 622 = .ok (.ifCond .ne 38, 3) := by decide +kernel
theorem dL_hour_625 : decode cL_hour 625 = .ok (.bipush 7, 2) := by decide +kernel
theorem dL_hour_627 : decode cL_hour 627 = .ok (.aload_n 0, 1) := by decide +kernel
theorem dL_hour_628 : decode cL_hour 628 = .ok (.bipush 7, 2) := by decide +kernel
theorem dL_hour_630 : decode cL_hour 630 = .ok (.iaload, 1) := by decide +kernel
theorem dL_hour_631 : decode cL_hour 631 = .ok (.imul, 1) := by decide +kernel
theorem dL_hour_632 : decode cL_hour 632 = .ok (.iconst 3, 1) := by decide +kernel
theorem dL_hour_633 : decode cL_hour 633 = .ok (.iload 9, 2) := by decide +kernel
theorem dL_hour_635 : decode cL_hour 635 = .ok (.imul, 1) := by decide +kernel
theorem dL_hour_636 : decode cL_hour 636 = .ok (.iadd, 1) := by decide +kernel
theorem dL_hour_637 : decode cL_hour 637 = .ok (.aload_n 0, 1) := by decide +kernel
theorem dL_hour_638 : decode cL_hour 638 = .ok (.bipush 6, 2) := by decide +kernel
theorem dL_hour_640 : decode cL_hour 640 = .ok (.iaload, 1) := by decide +kernel
theorem dL_hour_641 : decode cL_hour 641 = .ok (.irem, 1) := by decide +kernel
theorem dL_hour_642 : decode cL_hour 642 = .ok (.ifCond .ne 18, 3) := by decide +kernel
theorem dL_hour_645 : decode cL_hour 645 = .ok (.aload_n 1, 1) := by decide +kernel
theorem dL_hour_646 : decode cL_hour 646 = .ok (.iload 10, 2) := by decide +kernel
theorem dL_hour_648 : decode cL_hour 648 = .ok (.iconst 2, 1) := by decide +kernel
theorem dL_hour_649 : decode cL_hour 649 = .ok (.iadd, 1) := by decide +kernel
theorem dL_hour_650 : decode cL_hour 650 = .ok (.iconst 0, 1) := by decide +kernel
theorem dL_hour_651 : decode cL_hour 651 = .ok (.iastore, 1) := by decide +kernel
theorem dL_hour_652 : decode cL_hour 652 = .ok (.aload_n 0, 1) := by decide +kernel
theorem dL_hour_653 : decode cL_hour 653 = .ok (.bipush 10, 2) := by decide +kernel
theorem dL_hour_655 : decode cL_hour 655 = .ok (.dup2, 1) := by decide +kernel
theorem dL_hour_656 : decode cL_hour 656 = .ok (.iaload, 1) := by decide +kernel
theorem dL_hour_657 : decode cL_hour 657 = .ok (.iconst 1, 1) := by decide +kernel
theorem dL_hour_658 : decode cL_hour 658 = .ok (.iadd, 1) := by decide +kernel
theorem dL_hour_659 : decode cL_hour 659 = .ok (.iastore, 1) := by decide +kernel
theorem dL_hour_660 : decode cL_hour 660 = .ok (.iinc 9 1, 3) := by decide +kernel
theorem dL_hour_663 : decode cL_hour 663 = .ok (.goto (-292), 3) := by decide +kernel
theorem dL_hour_666 : decode cL_hour 666 = .ok (.aload_n 0, 1) := by decide +kernel
theorem dL_hour_667 : decode cL_hour 667 = .ok (.bipush 9, 2) := by decide +kernel
theorem dL_hour_669 : decode cL_hour 669 = .ok (.dup2, 1) := by decide +kernel
theorem dL_hour_670 : decode cL_hour 670 = .ok (.iaload, 1) := by decide +kernel
theorem dL_hour_671 : decode cL_hour 671 = .ok (.iload 7, 2) := by decide +kernel
theorem dL_hour_673 : decode cL_hour 673 = .ok (.iadd, 1) := by decide +kernel
theorem dL_hour_674 : decode cL_hour 674 = .ok (.iastore, 1) := by decide +kernel
theorem dL_hour_675 : decode cL_hour 675 = .ok (.aload_n 0, 1) := by decide +kernel
theorem dL_hour_676 : decode cL_hour 676 = .ok (.bipush 7, 2) := by decide +kernel
theorem dL_hour_678 : decode cL_hour 678 = .ok (.dup2, 1) := by decide +kernel
theorem dL_hour_679 : decode cL_hour 679 = .ok (.iaload, 1) := by decide +kernel
theorem dL_hour_680 : decode cL_hour 680 = .ok (.iconst 1, 1) := by decide +kernel
theorem dL_hour_681 : decode cL_hour 681 = .ok (.iadd, 1) := by decide +kernel
theorem dL_hour_682 : decode cL_hour 682 = .ok (.iastore, 1) := by decide +kernel
theorem dL_hour_683 : decode cL_hour 683 = .ok (.iload 7, 2) := by decide +kernel
theorem dL_hour_685 : decode cL_hour 685 = .ok (.ireturn, 1) := by decide +kernel
set_option maxRecDepth 20000 in
theorem ggL_same_X2_of : GoodIn wsL_same wsX2_of := goodIn_r _ [5, 6, 7, 8, 4, 9, 10, 11, 12, 13, 14, 15, 16, 17, 18, 19, 20, 63, 64, 65, 66, 67, 68, 69, 70, 71, 72, 73, 74, 75, 76, 77, 78, 79, 80, 81, 82, 83, 84, 85, 86, 87, 88] (by decide +kernel) (by decide +kernel)
set_option maxRecDepth 20000 in
theorem gL_same_X2_of : GoodIn wsL_same (wsV RL 24 RX2 yX2_of wsX2_of) := goodIn_app (goodIn_of _ (by decide +kernel)) ggL_same_X2_of
set_option maxRecDepth 20000 in
theorem ggL_same_X2_why : GoodIn wsL_same wsX2_why := goodIn_r _ [24, 6, 7, 8, 4, 9, 25, 11, 26, 27, 28, 29, 30, 31, 32, 33, 34, 16, 17, 18, 19, 20, 63, 64, 65, 66, 67, 68, 69, 70, 71, 72, 73, 74, 75, 76, 77, 78, 79, 80, 81, 82, 83, 84, 85, 86, 87, 88] (by decide +kernel) (by decide +kernel)
set_option maxRecDepth 20000 in
theorem gL_same_X2_why : GoodIn wsL_same (wsV RL 29 RX2 yX2_why wsX2_why) := goodIn_app (goodIn_of _ (by decide +kernel)) ggL_same_X2_why
set_option maxRecDepth 20000 in
theorem ggL_same_L_ahead : GoodIn wsL_same wsL_ahead := goodIn_r _ [38, 39, 40, 37, 41] (by decide +kernel) (by decide +kernel)
set_option maxRecDepth 20000 in
theorem gL_same_L_ahead : GoodIn wsL_same (va_wsS RL 16 yL_ahead wsL_ahead) := goodIn_app (goodIn_of _ (by decide +kernel)) ggL_same_L_ahead
set_option maxRecDepth 20000 in
theorem ggL_same_X2_ofKeeper : GoodIn wsL_same wsX2_ofKeeper := goodIn_r _ [45, 6, 63, 64, 65, 66, 67, 68, 69, 70, 71, 72, 73, 74, 75, 76, 77, 78, 79, 80, 81, 82, 83, 84, 85, 86, 87, 88] (by decide +kernel) (by decide +kernel)
set_option maxRecDepth 20000 in
theorem gL_same_X2_ofKeeper : GoodIn wsL_same (wsV RL 33 RX2 yX2_ofKeeper wsX2_ofKeeper) := goodIn_app (goodIn_of _ (by decide +kernel)) ggL_same_X2_ofKeeper
set_option maxRecDepth 20000 in
theorem ggL_same_X2_count : GoodIn wsL_same wsX2_count := goodIn_r _ [49, 6, 50, 51, 25, 11, 26, 27, 28, 29, 30, 31, 32, 33, 34, 63, 64, 65, 66, 67, 68, 69, 70, 71, 72, 73, 74, 75, 76, 77, 78, 79, 80, 81, 82, 83, 84, 85, 86, 87, 88, 89, 90, 91, 92, 93, 94, 95, 96] (by decide +kernel) (by decide +kernel)
set_option maxRecDepth 20000 in
theorem gL_same_X2_count : GoodIn wsL_same (wsV RL 36 RX2 yX2_count wsX2_count) := goodIn_app (goodIn_of _ (by decide +kernel)) ggL_same_X2_count
set_option maxRecDepth 20000 in
theorem ggL_same_L_rains : GoodIn wsL_same wsL_rains := goodIn_r _ [41] (by decide +kernel) (by decide +kernel)
set_option maxRecDepth 20000 in
theorem gL_same_L_rains : GoodIn wsL_same (va_wsS RL 10 yL_rains wsL_rains) := goodIn_app (goodIn_of _ (by decide +kernel)) ggL_same_L_rains
set_option maxRecDepth 20000 in
theorem ggL_same_X2_worst : GoodIn wsL_same wsX2_worst := goodIn_r _ [55, 6, 7, 8, 4, 9, 63, 64, 65, 66, 67, 68, 69, 70, 71, 72, 73, 74, 75, 76, 77, 78, 79, 80, 81, 82, 83, 84, 85, 86, 87, 88] (by decide +kernel) (by decide +kernel)
set_option maxRecDepth 20000 in
theorem gL_same_X2_worst : GoodIn wsL_same (wsV RL 39 RX2 yX2_worst wsX2_worst) := goodIn_app (goodIn_of _ (by decide +kernel)) ggL_same_X2_worst
set_option maxRecDepth 20000 in
theorem ggL_same_X2_rainIn : GoodIn wsL_same wsX2_rainIn := goodIn_r _ [59, 6, 60, 11, 61, 62, 29, 30, 31, 32, 33, 34, 63, 64, 65, 66, 67, 68, 69, 70, 71, 72, 73, 74, 75, 76, 77, 78, 79, 80, 81, 82, 83, 84, 85, 86, 87, 88] (by decide +kernel) (by decide +kernel)
set_option maxRecDepth 20000 in
theorem gL_same_X2_rainIn : GoodIn wsL_same (wsV RL 43 RX2 yX2_rainIn wsX2_rainIn) := goodIn_app (goodIn_of _ (by decide +kernel)) ggL_same_X2_rainIn
theorem dL_same_0 : decode cL_same 0 = .ok (.iconst 0, 1) := by decide +kernel
theorem dL_same_1 : decode cL_same 1 = .ok (.istore 4, 2) := by decide +kernel
theorem dL_same_3 : decode cL_same 3 = .ok (.iconst 0, 1) := by decide +kernel
theorem dL_same_4 : decode cL_same 4 = .ok (.istore 5, 2) := by decide +kernel
theorem dL_same_6 : decode cL_same 6 = .ok (.iconst 0, 1) := by decide +kernel
theorem dL_same_7 : decode cL_same 7 = .ok (.istore 6, 2) := by decide +kernel
theorem dL_same_9 : decode cL_same 9 = .ok (.bipush (-6), 2) := by decide +kernel
theorem dL_same_11 : decode cL_same 11 = .ok (.istore 7, 2) := by decide +kernel
theorem dL_same_13 : decode cL_same 13 = .ok (.iconst 0, 1) := by decide +kernel
theorem dL_same_14 : decode cL_same 14 = .ok (.istore 8, 2) := by decide +kernel
theorem dL_same_16 : decode cL_same 16 = .ok (.iload 8, 2) := by decide +kernel
theorem dL_same_18 : decode cL_same 18 = .ok (.bipush 12, 2) := by decide +kernel
theorem dL_same_20 : decode cL_same 20 = .ok (.if_icmp .ge 306, 3) := by decide +kernel
theorem dL_same_23 : decode cL_same 23 = .ok (.iconst 5, 1) := by decide +kernel
theorem dL_same_24 : decode cL_same 24 = .ok (.iload 8, 2) := by decide +kernel
theorem dL_same_26 : decode cL_same 26 = .ok (.imul, 1) := by decide +kernel
theorem dL_same_27 : decode cL_same 27 = .ok (.istore 9, 2) := by decide +kernel
theorem dL_same_29 : decode cL_same 29 = .ok (.aload_n 2, 1) := by decide +kernel
theorem dL_same_30 : decode cL_same 30 = .ok (.iload 9, 2) := by decide +kernel
theorem dL_same_32 : decode cL_same 32 = .ok (.iaload, 1) := by decide +kernel
theorem dL_same_33 : decode cL_same 33 = .ok (.ifCond .ge 26, 3) := by decide +kernel
theorem dL_same_36 : decode cL_same 36 = .ok (.aload_n 0, 1) := by decide +kernel
theorem dL_same_37 : decode cL_same 37 = .ok (.iload 8, 2) := by decide +kernel
theorem dL_same_39 : decode cL_same 39 = .ok (.iconst 0, 1) := by decide +kernel
theorem dL_same_40 : decode cL_same 40 = .ok (.invokevirtual 24, 3) := by decide +kernel
theorem dL_same_43 : decode cL_same 43 = .ok (.iconst (-1), 1) := by decide +kernel
theorem dL_same_44 : decode cL_same 44 = .ok (.if_icmp .ne 13, 3) := by decide +kernel
theorem dL_same_47 : decode cL_same 47 = .ok (.aload_n 0, 1) := by decide +kernel
theorem dL_same_48 : decode cL_same 48 = .ok (.iload 8, 2) := by decide +kernel
theorem dL_same_50 : decode cL_same 50 = .ok (.invokevirtual 29, 3) := by decide +kernel
theorem dL_same_53 : decode cL_same 53 = .ok (.iconst (-1), 1) := by decide +kernel
theorem dL_same_54 : decode cL_same 54 = .ok (.if_icmp .eq 266, 3) := by decide +kernel
theorem dL_same_57 : decode cL_same 57 = .ok (.iconst 0, 1) := by decide +kernel
theorem dL_same_58 : decode cL_same 58 = .ok (.ireturn, 1) := by decide +kernel
theorem dL_same_59 : decode cL_same 59 = .ok (.iconst 0, 1) := by decide +kernel
theorem dL_same_60 : decode cL_same 60 = .ok (.istore 10, 2) := by decide +kernel
theorem dL_same_62 : decode cL_same 62 = .ok (.iconst 0, 1) := by decide +kernel
theorem dL_same_63 : decode cL_same 63 = .ok (.istore 11, 2) := by decide +kernel
theorem dL_same_65 : decode cL_same 65 = .ok (.iload 11, 2) := by decide +kernel
theorem dL_same_67 : decode cL_same 67 = .ok (.aload_n 1, 1) := by decide +kernel
theorem dL_same_68 : decode cL_same 68 = .ok (.bipush 11, 2) := by decide +kernel
theorem dL_same_70 : decode cL_same 70 = .ok (.iaload, 1) := by decide +kernel
theorem dL_same_71 : decode cL_same 71 = .ok (.if_icmp .ge 30, 3) := by decide +kernel
theorem dL_same_74 : decode cL_same 74 = .ok (.iload 10, 2) := by decide +kernel
theorem dL_same_76 : decode cL_same 76 = .ok (.aload_n 3, 1) := by decide +kernel
theorem dL_same_77 : decode cL_same 77 = .ok (.iconst 5, 1) := by decide +kernel
theorem dL_same_78 : decode cL_same 78 = .ok (.iload 11, 2) := by decide +kernel
theorem dL_same_80 : decode cL_same 80 = .ok (.imul, 1) := by decide +kernel
theorem dL_same_81 : decode cL_same 81 = .ok (.iaload, 1) := by decide +kernel
theorem dL_same_82 : decode cL_same 82 = .ok (.iload 8, 2) := by decide +kernel
theorem dL_same_84 : decode cL_same 84 = .ok (.if_icmp .ne 7, 3) := by decide +kernel
theorem dL_same_87 : decode cL_same 87 = .ok (.iconst 1, 1) := by decide +kernel
theorem dL_same_88 : decode cL_same 88 = .ok (.goto 4, 3) := by decide +kernel
theorem dL_same_91 : decode cL_same 91 = .ok (.iconst 0, 1) := by decide +kernel
theorem dL_same_92 : decode cL_same 92 = .ok (.iadd, 1) := by decide +kernel
theorem dL_same_93 : decode cL_same 93 = .ok (.istore 10, 2) := by decide +kernel
theorem dL_same_95 : decode cL_same 95 = .ok (.iinc 11 1, 3) := by decide +kernel
theorem dL_same_98 : decode cL_same 98 = .ok (.goto (-33), 3) := by decide +kernel
theorem dL_same_101 : decode cL_same 101 = .ok (.aload_n 2, 1) := by decide +kernel
theorem dL_same_102 : decode cL_same 102 = .ok (.iload 9, 2) := by decide +kernel
theorem dL_same_104 : decode cL_same 104 = .ok (.iconst 2, 1) := by decide +kernel
theorem dL_same_105 : decode cL_same 105 = .ok (.iadd, 1) := by decide +kernel
theorem dL_same_106 : decode cL_same 106 = .ok (.iaload, 1) := by decide +kernel
theorem dL_same_107 : decode cL_same 107 = .ok (.iconst 2, 1) := by decide +kernel
theorem dL_same_108 : decode cL_same 108 = .ok (.if_icmp .ne 7, 3) := by decide +kernel
theorem dL_same_111 : decode cL_same 111 = .ok (.iconst 0, 1) := by decide +kernel
theorem dL_same_112 : decode cL_same 112 = .ok (.goto 48, 3) := by decide +kernel
theorem dL_same_115 : decode cL_same 115 = .ok (.aload_n 2, 1) := by decide +kernel
theorem dL_same_116 : decode cL_same 116 = .ok (.iload 9, 2) := by decide +kernel
theorem dL_same_118 : decode cL_same 118 = .ok (.iconst 2, 1) := by decide +kernel
theorem dL_same_119 : decode cL_same 119 = .ok (.iadd, 1) := by decide +kernel
theorem dL_same_120 : decode cL_same 120 = .ok (.iaload, 1) := by decide +kernel
theorem dL_same_121 : decode cL_same 121 = .ok (.ifCond .ne 7, 3) := by decide +kernel
theorem dL_same_124 : decode cL_same 124 = .ok (.iconst 1, 1) := by decide +kernel
theorem dL_same_125 : decode cL_same 125 = .ok (.goto 35, 3) := by decide +kernel
theorem dL_same_128 : decode cL_same 128 = .ok (.aload_n 1, 1) := by decide +kernel
theorem dL_same_129 : decode cL_same 129 = .ok (.invokestatic 16, 3) := by decide +kernel
theorem dL_same_132 : decode cL_same 132 = .ok (.ifCond .ne 7, 3) := by decide +kernel
theorem dL_same_135 : decode cL_same 135 = .ok (.iconst 2, 1) := by decide +kernel
theorem dL_same_136 : decode cL_same 136 = .ok (.goto 24, 3) := by decide +kernel
theorem dL_same_139 : decode cL_same 139 = .ok (.aload_n 1, 1) := by decide +kernel
theorem dL_same_140 : decode cL_same 140 = .ok (.bipush 11, 2) := by decide +kernel
theorem dL_same_142 : decode cL_same 142 = .ok (.iaload, 1) := by decide +kernel
theorem dL_same_143 : decode cL_same 143 = .ok (.ifCond .ne 7, 3) := by decide +kernel
theorem dL_same_146 : decode cL_same 146 = .ok (.iconst 3, 1) := by decide +kernel
theorem dL_same_147 : decode cL_same 147 = .ok (.goto 13, 3) := by decide +kernel
theorem dL_same_150 : decode cL_same 150 = .ok (.iload 10, 2) := by decide +kernel
theorem dL_same_152 : decode cL_same 152 = .ok (.ifCond .ne 7, 3) := by decide +kernel
theorem dL_same_155 : decode cL_same 155 = .ok (.iconst 4, 1) := by decide +kernel
theorem dL_same_156 : decode cL_same 156 = .ok (.goto 4, 3) := by decide +kernel
theorem dL_same_159 : decode cL_same 159 = .ok (.iconst 5, 1) := by decide +kernel
theorem dL_same_160 : decode cL_same 160 = .ok (.istore 11, 2) := by decide +kernel
theorem dL_same_162 : decode cL_same 162 = .ok (.iconst 0, 1) := by decide +kernel
theorem dL_same_163 : decode cL_same 163 = .ok (.istore 12, 2) := by decide +kernel
theorem dL_same_165 : decode cL_same 165 = .ok (.iload 12, 2) := by decide +kernel
theorem dL_same_167 : decode cL_same 167 = .ok (.iconst 5, 1) := by decide +kernel
theorem dL_same_168 : decode cL_same 168 = .ok (.if_icmp .ge 29, 3) := by decide +kernel
theorem dL_same_171 : decode cL_same 171 = .ok (.aload_n 0, 1) := by decide +kernel
theorem dL_same_172 : decode cL_same 172 = .ok (.iload 8, 2) := by decide +kernel
theorem dL_same_174 : decode cL_same 174 = .ok (.iload 12, 2) := by decide +kernel
theorem dL_same_176 : decode cL_same 176 = .ok (.invokevirtual 24, 3) := by decide +kernel
theorem dL_same_179 : decode cL_same 179 = .ok (.aload_n 2, 1) := by decide +kernel
theorem dL_same_180 : decode cL_same 180 = .ok (.iload 9, 2) := by decide +kernel
theorem dL_same_182 : decode cL_same 182 = .ok (.iload 12, 2) := by decide +kernel
theorem dL_same_184 : decode cL_same 184 = .ok (.iadd, 1) := by decide +kernel
theorem dL_same_185 : decode cL_same 185 = .ok (.iaload, 1) := by decide +kernel
theorem dL_same_186 : decode cL_same 186 = .ok (.if_icmp .eq 5, 3) := by decide +kernel
theorem dL_same_189 : decode cL_same 189 = .ok (.iconst 0, 1) := by decide +kernel
theorem dL_same_190 : decode cL_same 190 = .ok (.ireturn, 1) := by decide +kernel
theorem dL_same_191 : decode cL_same 191 = .ok (.iinc 12 1, 3) := by decide +kernel
theorem dL_same_194 : decode cL_same 194 = .ok (.goto (-29), 3) := by decide +kernel
theorem dL_same_197 : decode cL_same 197 = .ok (.aload_n 0, 1) := by decide +kernel
theorem dL_same_198 : decode cL_same 198 = .ok (.iload 8, 2) := by decide +kernel
theorem dL_same_200 : decode cL_same 200 = .ok (.iconst 5, 1) := by decide +kernel
theorem dL_same_201 : decode cL_same 201 = .ok (.invokevirtual 24, 3) := by decide +kernel
theorem dL_same_204 : decode cL_same 204 = .ok (.iload 10, 2) := by decide +kernel
theorem dL_same_206 : decode cL_same 206 = .ok (.if_icmp .ne 14, 3) := by decide +kernel
theorem dL_same_209 : decode cL_same 209 = .ok (.aload_n 0, 1) := by decide +kernel
theorem dL_same_210 : decode cL_same 210 = .ok (.iload 8, 2) := by decide +kernel
theorem dL_same_212 : decode cL_same 212 = .ok (.invokevirtual 29, 3) := by decide +kernel
theorem dL_same_215 : decode cL_same 215 = .ok (.iload 11, 2) := by decide +kernel
theorem dL_same_217 : decode cL_same 217 = .ok (.if_icmp .eq 5, 3) := by decide +kernel
theorem dL_same_220 : decode cL_same 220 = .ok (.iconst 0, 1) := by decide +kernel
theorem dL_same_221 : decode cL_same 221 = .ok (.ireturn, 1) := by decide +kernel
theorem dL_same_222 : decode cL_same 222 = .ok (.iload 4, 2) := by decide +kernel
theorem dL_same_224 : decode cL_same 224 = .ok (.iconst 1, 1) := by decide +kernel
theorem dL_same_225 : decode cL_same 225 = .ok (.iload 8, 2) := by decide +kernel
theorem dL_same_227 : decode cL_same 227 = .ok (.ishl, 1) := by decide +kernel
theorem dL_same_228 : decode cL_same 228 = .ok (.ior, 1) := by decide +kernel
theorem dL_same_229 : decode cL_same 229 = .ok (.istore 4, 2) := by decide +kernel
theorem dL_same_231 : decode cL_same 231 = .ok (.iload 5, 2) := by decide +kernel
theorem dL_same_233 : decode cL_same 233 = .ok (.aload_n 2, 1) := by decide +kernel
theorem dL_same_234 : decode cL_same 234 = .ok (.iload 9, 2) := by decide +kernel
theorem dL_same_236 : decode cL_same 236 = .ok (.iconst 2, 1) := by decide +kernel
theorem dL_same_237 : decode cL_same 237 = .ok (.iadd, 1) := by decide +kernel
theorem dL_same_238 : decode cL_same 238 = .ok (.iaload, 1) := by decide +kernel
theorem dL_same_239 : decode cL_same 239 = .ok (.iconst 2, 1) := by decide +kernel
theorem dL_same_240 : decode cL_same 240 = .ok (.if_icmp .ne 10, 3) := by decide +kernel
theorem dL_same_243 : decode cL_same 243 = .ok (.iconst 1, 1) := by decide +kernel
theorem dL_same_244 : decode cL_same 244 = .ok (.iload 8, 2) := by decide +kernel
theorem dL_same_246 : decode cL_same 246 = .ok (.ishl, 1) := by decide +kernel
theorem dL_same_247 : decode cL_same 247 = .ok (.goto 4, 3) := by decide +kernel
theorem dL_same_250 : decode cL_same 250 = .ok (.iconst 0, 1) := by decide +kernel
theorem dL_same_251 : decode cL_same 251 = .ok (.ior, 1) := by decide +kernel
theorem dL_same_252 : decode cL_same 252 = .ok (.istore 5, 2) := by decide +kernel
theorem dL_same_254 : decode cL_same 254 = .ok (.iload 6, 2) := by decide +kernel
theorem dL_same_256 : decode cL_same 256 = .ok (.aload_n 2, 1) := by decide +kernel
theorem dL_same_257 : decode cL_same 257 = .ok (.iload 9, 2) := by decide +kernel
theorem dL_same_259 : decode cL_same 259 = .ok (.iconst 2, 1) := by decide +kernel
theorem dL_same_260 : decode cL_same 260 = .ok (.iadd, 1) := by decide +kernel
theorem dL_same_261 : decode cL_same 261 = .ok (.iaload, 1) := by decide +kernel
theorem dL_same_262 : decode cL_same 262 = .ok (.iconst 1, 1) := by decide +kernel
theorem dL_same_263 : decode cL_same 263 = .ok (.if_icmp .ne 10, 3) := by decide +kernel
theorem dL_same_266 : decode cL_same 266 = .ok (.iconst 1, 1) := by decide +kernel
theorem dL_same_267 : decode cL_same 267 = .ok (.iload 8, 2) := by decide +kernel
theorem dL_same_269 : decode cL_same 269 = .ok (.ishl, 1) := by decide +kernel
theorem dL_same_270 : decode cL_same 270 = .ok (.goto 4, 3) := by decide +kernel
theorem dL_same_273 : decode cL_same 273 = .ok (.iconst 0, 1) := by decide +kernel
theorem dL_same_274 : decode cL_same 274 = .ok (.ior, 1) := by decide +kernel
theorem dL_same_275 : decode cL_same 275 = .ok (.istore 6, 2) := by decide +kernel
theorem dL_same_277 : decode cL_same 277 = .ok (.iload 7, 2) := by decide +kernel
theorem dL_same_279 : decode cL_same 279 = .ok (.ifCond .lt 32, 3) := by decide +kernel
theorem dL_same_282 : decode cL_same 282 = .ok (.aload_n 2, 1) := by decide +kernel
theorem dL_same_283 : decode cL_same 283 = .ok (.iload 9, 2) := by decide +kernel
theorem dL_same_285 : decode cL_same 285 = .ok (.iaload, 1) := by decide +kernel
theorem dL_same_286 : decode cL_same 286 = .ok (.aload_n 2, 1) := by decide +kernel
theorem dL_same_287 : decode cL_same 287 = .ok (.iload 9, 2) := by decide +kernel
theorem dL_same_289 : decode cL_same 289 = .ok (.iconst 1, 1) := by decide +kernel
theorem dL_same_290 : decode cL_same 290 = .ok (.iadd, 1) := by decide +kernel
theorem dL_same_291 : decode cL_same 291 = .ok (.iaload, 1) := by decide +kernel
theorem dL_same_292 : decode cL_same 292 = .ok (.isub, 1) := by decide +kernel
theorem dL_same_293 : decode cL_same 293 = .ok (.aload_n 2, 1) := by decide +kernel
theorem dL_same_294 : decode cL_same 294 = .ok (.iconst 5, 1) := by decide +kernel
theorem dL_same_295 : decode cL_same 295 = .ok (.iload 7, 2) := by decide +kernel
theorem dL_same_297 : decode cL_same 297 = .ok (.imul, 1) := by decide +kernel
theorem dL_same_298 : decode cL_same 298 = .ok (.iaload, 1) := by decide +kernel
theorem dL_same_299 : decode cL_same 299 = .ok (.aload_n 2, 1) := by decide +kernel
theorem dL_same_300 : decode cL_same 300 = .ok (.iconst 5, 1) := by decide +kernel
theorem dL_same_301 : decode cL_same 301 = .ok (.iload 7, 2) := by decide +kernel
theorem dL_same_303 : decode cL_same 303 = .ok (.imul, 1) := by decide +kernel
theorem dL_same_304 : decode cL_same 304 = .ok (.iconst 1, 1) := by decide +kernel
theorem dL_same_305 : decode cL_same 305 = .ok (.iadd, 1) := by decide +kernel
theorem dL_same_306 : decode cL_same 306 = .ok (.iaload, 1) := by decide +kernel
theorem dL_same_307 : decode cL_same 307 = .ok (.isub, 1) := by decide +kernel
theorem dL_same_308 : decode cL_same 308 = .ok (.if_icmp .ge 8, 3) := by decide +kernel
theorem dL_same_311 : decode cL_same 311 = .ok (.iload 8, 2) := by decide +kernel
theorem dL_same_313 : decode cL_same 313 = .ok (.goto 5, 3) := by decide +kernel
theorem dL_same_316 : decode cL_same 316 = .ok (.iload 7, 2) := by decide +kernel
theorem dL_same_318 : decode cL_same 318 = .ok (.istore 7, 2) := by decide +kernel
theorem dL_same_320 : decode cL_same 320 = .ok (.iinc 8 1, 3) := by decide +kernel
theorem dL_same_323 : decode cL_same 323 = .ok (.goto (-307), 3) := by decide +kernel
theorem dL_same_326 : decode cL_same 326 = .ok (.iconst 0, 1) := by decide +kernel
theorem dL_same_327 : decode cL_same 327 = .ok (.istore 8, 2) := by decide +kernel
theorem dL_same_329 : decode cL_same 329 = .ok (.iload 8, 2) := by decide +kernel
theorem dL_same_331 : decode cL_same 331 = .ok (.aload_n 1, 1) := by decide +kernel
theorem dL_same_332 : decode cL_same 332 = .ok (.bipush 11, 2) := by decide +kernel
theorem dL_same_334 : decode cL_same 334 = .ok (.iaload, 1) := by decide +kernel
theorem dL_same_335 : decode cL_same 335 = .ok (.if_icmp .ge 46, 3) := by decide +kernel
theorem dL_same_338 : decode cL_same 338 = .ok (.iconst 0, 1) := by decide +kernel
theorem dL_same_339 : decode cL_same 339 = .ok (.istore 9, 2) := by decide +kernel
theorem dL_same_341 : decode cL_same 341 = .ok (.iload 9, 2) := by decide +kernel
theorem dL_same_343 : decode cL_same 343 = .ok (.iconst 5, 1) := by decide +kernel
theorem dL_same_344 : decode cL_same 344 = .ok (.if_icmp .ge 31, 3) := by decide +kernel
theorem dL_same_347 : decode cL_same 347 = .ok (.aload_n 0, 1) := by decide +kernel
theorem dL_same_348 : decode cL_same 348 = .ok (.iload 8, 2) := by decide +kernel
theorem dL_same_350 : decode cL_same 350 = .ok (.iload 9, 2) := by decide +kernel
theorem dL_same_352 : decode cL_same 352 = .ok (.invokevirtual 33, 3) := by decide +kernel
theorem dL_same_355 : decode cL_same 355 = .ok (.aload_n 3, 1) := by decide +kernel
theorem dL_same_356 : decode cL_same 356 = .ok (.iconst 5, 1) := by decide +kernel
theorem dL_same_357 : decode cL_same 357 = .ok (.iload 8, 2) := by decide +kernel
theorem dL_same_359 : decode cL_same 359 = .ok (.imul, 1) := by decide +kernel
theorem dL_same_360 : decode cL_same 360 = .ok (.iload 9, 2) := by decide +kernel
theorem dL_same_362 : decode cL_same 362 = .ok (.iadd, 1) := by decide +kernel
theorem dL_same_363 : decode cL_same 363 = .ok (.iaload, 1) := by decide +kernel
theorem dL_same_364 : decode cL_same 364 = .ok (.if_icmp .eq 5, 3) := by decide +kernel
theorem dL_same_367 : decode cL_same 367 = .ok (.iconst 0, 1) := by decide +kernel
theorem dL_same_368 : decode cL_same 368 = .ok (.ireturn, 1) := by decide +kernel
theorem dL_same_369 : decode cL_same 369 = .ok (.iinc 9 1, 3) := by decide +kernel
theorem dL_same_372 : decode cL_same 372 = .ok (.goto (-31), 3) := by decide +kernel
theorem dL_same_375 : decode cL_same 375 = .ok (.iinc 8 1, 3) := by decide +kernel
theorem dL_same_378 : decode cL_same 378 = .ok (.goto (-49), 3) := by decide +kernel
theorem dL_same_381 : decode cL_same 381 = .ok (.iconst 0, 1) := by decide +kernel
theorem dL_same_382 : decode cL_same 382 = .ok (.istore 8, 2) := by decide +kernel
theorem dL_same_384 : decode cL_same 384 = .ok (.iload 8, 2) := by decide +kernel
theorem dL_same_386 : decode cL_same 386 = .ok (.bipush 7, 2) := by decide +kernel
theorem dL_same_388 : decode cL_same 388 = .ok (.if_icmp .ge 27, 3) := by decide +kernel
theorem dL_same_391 : decode cL_same 391 = .ok (.aload_n 0, 1) := by decide +kernel
theorem dL_same_392 : decode cL_same 392 = .ok (.bipush 10, 2) := by decide +kernel
theorem dL_same_394 : decode cL_same 394 = .ok (.iload 8, 2) := by decide +kernel
theorem dL_same_396 : decode cL_same 396 = .ok (.iadd, 1) := by decide +kernel
theorem dL_same_397 : decode cL_same 397 = .ok (.invokevirtual 36, 3) := by decide +kernel
theorem dL_same_400 : decode cL_same 400 = .ok (.aload_n 1, 1) := by decide +kernel
theorem dL_same_401 : decode cL_same 401 = .ok (.iload 8, 2) := by decide +kernel
theorem dL_same_403 : decode cL_same 403 = .ok (.iaload, 1) := by decide +kernel
theorem dL_same_404 : decode cL_same 404 = .ok (.if_icmp .eq 5, 3) := by decide +kernel
theorem dL_same_407 : decode cL_same 407 = .ok (.iconst 0, 1) := by decide +kernel
theorem dL_same_408 : decode cL_same 408 = .ok (.ireturn, 1) := by decide +kernel
theorem dL_same_409 : decode cL_same 409 = .ok (.iinc 8 1, 3) := by decide +kernel
theorem dL_same_412 : decode cL_same 412 = .ok (.goto (-28), 3) := by decide +kernel
theorem dL_same_415 : decode cL_same 415 = .ok (.bipush (-6), 2) := by decide +kernel
theorem dL_same_417 : decode cL_same 417 = .ok (.istore 8, 2) := by decide +kernel
theorem dL_same_419 : decode cL_same 419 = .ok (.bipush 23, 2) := by decide +kernel
theorem dL_same_421 : decode cL_same 421 = .ok (.istore 9, 2) := by decide +kernel
theorem dL_same_423 : decode cL_same 423 = .ok (.iload 9, 2) := by decide +kernel
theorem dL_same_425 : decode cL_same 425 = .ok (.ifCond .lt 32, 3) := by decide +kernel
theorem dL_same_428 : decode cL_same 428 = .ok (.aload_n 1, 1) := by decide +kernel
theorem dL_same_429 : decode cL_same 429 = .ok (.bipush 7, 2) := by decide +kernel
theorem dL_same_431 : decode cL_same 431 = .ok (.iaload, 1) := by decide +kernel
theorem dL_same_432 : decode cL_same 432 = .ok (.iload 9, 2) := by decide +kernel
theorem dL_same_434 : decode cL_same 434 = .ok (.iadd, 1) := by decide +kernel
theorem dL_same_435 : decode cL_same 435 = .ok (.aload_n 1, 1) := by decide +kernel
theorem dL_same_436 : decode cL_same 436 = .ok (.invokestatic 10, 3) := by decide +kernel
theorem dL_same_439 : decode cL_same 439 = .ok (.ifCond .eq 8, 3) := by decide +kernel
theorem dL_same_442 : decode cL_same 442 = .ok (.iload 9, 2) := by decide +kernel
theorem dL_same_444 : decode cL_same 444 = .ok (.goto 5, 3) := by decide +kernel
theorem dL_same_447 : decode cL_same 447 = .ok (.iload 8, 2) := by decide +kernel
theorem dL_same_449 : decode cL_same 449 = .ok (.istore 8, 2) := by decide +kernel
theorem dL_same_451 : decode cL_same 451 = .ok (.iinc 9 (-1), 3) := by decide +kernel
theorem dL_same_454 : decode cL_same 454 = .ok (.goto (-31), 3) := by decide +kernel
theorem dL_same_457 : decode cL_same 457 = .ok (.aload_n 0, 1) := by decide +kernel
theorem dL_same_458 : decode cL_same 458 = .ok (.iconst 0, 1) := by decide +kernel
theorem dL_same_459 : decode cL_same 459 = .ok (.invokevirtual 36, 3) := by decide +kernel
theorem dL_same_462 : decode cL_same 462 = .ok (.aload_n 1, 1) := by decide +kernel
theorem dL_same_463 : decode cL_same 463 = .ok (.bipush 7, 2) := by decide +kernel
theorem dL_same_465 : decode cL_same 465 = .ok (.iaload, 1) := by decide +kernel
theorem dL_same_466 : decode cL_same 466 = .ok (.if_icmp .ne 164, 3) := by decide +kernel
theorem dL_same_469 : decode cL_same 469 = .ok (.aload_n 0, 1) := by decide +kernel
theorem dL_same_470 : decode cL_same 470 = .ok (.iconst 1, 1) := by decide +kernel
theorem dL_same_471 : decode cL_same 471 = .ok (.invokevirtual 36, 3) := by decide +kernel
theorem dL_same_474 : decode cL_same 474 = .ok (.iload 4, 2) := by decide +kernel
theorem dL_same_476 : decode cL_same 476 = .ok (.if_icmp .ne 154, 3) := by decide +kernel
theorem dL_same_479 : decode cL_same 479 = .ok (.aload_n 0, 1) := by decide +kernel
theorem dL_same_480 : decode cL_same 480 = .ok (.iconst 2, 1) := by decide +kernel
theorem dL_same_481 : decode cL_same 481 = .ok (.invokevirtual 36, 3) := by decide +kernel
theorem dL_same_484 : decode cL_same 484 = .ok (.iload 5, 2) := by decide +kernel
theorem dL_same_486 : decode cL_same 486 = .ok (.if_icmp .ne 144, 3) := by decide +kernel
theorem dL_same_489 : decode cL_same 489 = .ok (.aload_n 0, 1) := by decide +kernel
theorem dL_same_490 : decode cL_same 490 = .ok (.iconst 3, 1) := by decide +kernel
theorem dL_same_491 : decode cL_same 491 = .ok (.invokevirtual 36, 3) := by decide +kernel
theorem dL_same_494 : decode cL_same 494 = .ok (.iload 6, 2) := by decide +kernel
theorem dL_same_496 : decode cL_same 496 = .ok (.if_icmp .ne 134, 3) := by decide +kernel
theorem dL_same_499 : decode cL_same 499 = .ok (.aload_n 0, 1) := by decide +kernel
theorem dL_same_500 : decode cL_same 500 = .ok (.iconst 4, 1) := by decide +kernel
theorem dL_same_501 : decode cL_same 501 = .ok (.invokevirtual 36, 3) := by decide +kernel
theorem dL_same_504 : decode cL_same 504 = .ok (.aload_n 1, 1) := by decide +kernel
theorem dL_same_505 : decode cL_same 505 = .ok (.bipush 11, 2) := by decide +kernel
theorem dL_same_507 : decode cL_same 507 = .ok (.iaload, 1) := by decide +kernel
theorem dL_same_508 : decode cL_same 508 = .ok (.if_icmp .ne 122, 3) := by decide +kernel
theorem dL_same_511 : decode cL_same 511 = .ok (.aload_n 0, 1) := by decide +kernel
theorem dL_same_512 : decode cL_same 512 = .ok (.iconst 5, 1) := by decide +kernel
theorem dL_same_513 : decode cL_same 513 = .ok (.invokevirtual 36, 3) := by decide +kernel
theorem dL_same_516 : decode cL_same 516 = .ok (.aload_n 1, 1) := by decide +kernel
theorem dL_same_517 : decode cL_same 517 = .ok (.bipush 9, 2) := by decide +kernel
theorem dL_same_519 : decode cL_same 519 = .ok (.iaload, 1) := by decide +kernel
theorem dL_same_520 : decode cL_same 520 = .ok (.if_icmp .ne 110, 3) := by decide +kernel
theorem dL_same_523 : decode cL_same 523 = .ok (.aload_n 0, 1) := by decide +kernel
theorem dL_same_524 : decode cL_same 524 = .ok (.bipush 6, 2) := by decide +kernel
theorem dL_same_526 : decode cL_same 526 = .ok (.invokevirtual 36, 3) := by decide +kernel
theorem dL_same_529 : decode cL_same 529 = .ok (.aload_n 1, 1) := by decide +kernel
theorem dL_same_530 : decode cL_same 530 = .ok (.bipush 10, 2) := by decide +kernel
theorem dL_same_532 : decode cL_same 532 = .ok (.iaload, 1) := by decide +kernel
theorem dL_same_533 : decode cL_same 533 = .ok (.if_icmp .ne 97, 3) := by decide +kernel
theorem dL_same_536 : decode cL_same 536 = .ok (.aload_n 0, 1) := by decide +kernel
theorem dL_same_537 : decode cL_same 537 = .ok (.bipush 7, 2) := by decide +kernel
theorem dL_same_539 : decode cL_same 539 = .ok (.invokevirtual 36, 3) := by decide +kernel
theorem dL_same_542 : decode cL_same 542 = .ok (.aload_n 1, 1) := by decide +kernel
theorem dL_same_543 : decode cL_same 543 = .ok (.bipush 8, 2) := by decide +kernel
theorem dL_same_545 : decode cL_same 545 = .ok (.iaload, 1) := by decide +kernel
theorem dL_same_546 : decode cL_same 546 = .ok (.if_icmp .ne 84, 3) := by decide +kernel
theorem dL_same_549 : decode cL_same 549 = .ok (.aload_n 0, 1) := by decide +kernel
theorem dL_same_550 : decode cL_same 550 = .ok (.bipush 8, 2) := by decide +kernel
theorem dL_same_552 : decode cL_same 552 = .ok (.invokevirtual 36, 3) := by decide +kernel
theorem dL_same_555 : decode cL_same 555 = .ok (.aload_n 1, 1) := by decide +kernel
theorem dL_same_556 : decode cL_same 556 = .ok (.invokestatic 16, 3) := by decide +kernel
theorem dL_same_559 : decode cL_same 559 = .ok (.ifCond .eq 7, 3) := by decide +kernel
theorem dL_same_562 : decode cL_same 562 = .ok (.iconst 1, 1) := by decide +kernel
theorem dL_same_563 : decode cL_same 563 = .ok (.goto 4, 3) := by decide +kernel
theorem dL_same_566 : decode cL_same 566 = .ok (.iconst 0, 1) := by decide +kernel
theorem dL_same_567 : decode cL_same 567 = .ok (.if_icmp .ne 63, 3) := by decide +kernel
theorem dL_same_570 : decode cL_same 570 = .ok (.aload_n 0, 1) := by decide +kernel
theorem dL_same_571 : decode cL_same 571 = .ok (.bipush 9, 2) := by decide +kernel
theorem dL_same_573 : decode cL_same 573 = .ok (.invokevirtual 36, 3) := by decide +kernel
theorem dL_same_576 : decode cL_same 576 = .ok (.aload_n 1, 1) := by decide +kernel
theorem dL_same_577 : decode cL_same 577 = .ok (.bipush 7, 2) := by decide +kernel
theorem dL_same_579 : decode cL_same 579 = .ok (.iaload, 1) := by decide +kernel
theorem dL_same_580 : decode cL_same 580 = .ok (.aload_n 1, 1) := by decide +kernel
theorem dL_same_581 : decode cL_same 581 = .ok (.invokestatic 10, 3) := by decide +kernel
theorem dL_same_584 : decode cL_same 584 = .ok (.ifCond .eq 7, 3) := by decide +kernel
theorem dL_same_587 : decode cL_same 587 = .ok (.iconst 1, 1) := by decide +kernel
theorem dL_same_588 : decode cL_same 588 = .ok (.goto 4, 3) := by decide +kernel
theorem dL_same_591 : decode cL_same 591 = .ok (.iconst 0, 1) := by decide +kernel
theorem dL_same_592 : decode cL_same 592 = .ok (.if_icmp .ne 38, 3) := by decide +kernel
theorem dL_same_595 : decode cL_same 595 = .ok (.aload_n 0, 1) := by decide +kernel
theorem dL_same_596 : decode cL_same 596 = .ok (.invokevirtual 39, 3) := by decide +kernel
theorem dL_same_599 : decode cL_same 599 = .ok (.iload 7, 2) := by decide +kernel
theorem dL_same_601 : decode cL_same 601 = .ok (.if_icmp .ne 29, 3) := by decide +kernel
theorem dL_same_604 : decode cL_same 604 = .ok (.aload_n 0, 1) := by decide +kernel
theorem dL_same_605 : decode cL_same 605 = .ok (.invokevirtual 43, 3) := by decide +kernel
theorem dL_same_608 : decode cL_same 608 = .ok (.iload 8, 2) := by decide +kernel
theorem dL_same_610 : decode cL_same 610 = .ok (.if_icmp .ne 20, 3) := by decide +kernel
theorem dL_same_613 : decode cL_same 613 = .ok (.aload_n 0, 1) := by decide +kernel
theorem dL_same_614 : decode cL_same 614 = .ok (.aload_n 1, 1) := by decide +kernel
theorem dL_same_615 : decode cL_same 615 = .ok (.bipush 11, 2) := by decide +kernel
theorem dL_same_617 : decode cL_same 617 = .ok (.iaload, 1) := by decide +kernel
theorem dL_same_618 : decode cL_same 618 = .ok (.iconst 0, 1) := by decide +kernel
theorem dL_same_619 : decode cL_same 619 = .ok (.invokevirtual 33, 3) := by decide +kernel
theorem dL_same_622 : decode cL_same 622 = .ok (.iconst (-1), 1) := by decide +kernel
theorem dL_same_623 : decode cL_same 623 = .ok (.if_icmp .ne 7, 3) := by decide +kernel
theorem dL_same_626 : decode cL_same 626 = .ok (.iconst 1, 1) := by decide +kernel
theorem dL_same_627 : decode cL_same 627 = .ok (.goto 4, 3) := by decide +kernel
theorem dL_same_630 : decode cL_same 630 = .ok (.iconst 0, 1) := by decide +kernel
theorem dL_same_631 : decode cL_same 631 = .ok (.ireturn, 1) := by decide +kernel
theorem dL_copy_0 : decode cL_copy 0 = .ok (.iconst 0, 1) := by decide +kernel
theorem dL_copy_1 : decode cL_copy 1 = .ok (.istore 6, 2) := by decide +kernel
theorem dL_copy_3 : decode cL_copy 3 = .ok (.iload 6, 2) := by decide +kernel
theorem dL_copy_5 : decode cL_copy 5 = .ok (.bipush 12, 2) := by decide +kernel
theorem dL_copy_7 : decode cL_copy 7 = .ok (.if_icmp .ge 17, 3) := by decide +kernel
theorem dL_copy_10 : decode cL_copy 10 = .ok (.aload_n 3, 1) := by decide +kernel
theorem dL_copy_11 : decode cL_copy 11 = .ok (.iload 6, 2) := by decide +kernel
theorem dL_copy_13 : decode cL_copy 13 = .ok (.aload_n 0, 1) := by decide +kernel
theorem dL_copy_14 : decode cL_copy 14 = .ok (.iload 6, 2) := by decide +kernel
theorem dL_copy_16 : decode cL_copy 16 = .ok (.iaload, 1) := by decide +kernel
theorem dL_copy_17 : decode cL_copy 17 = .ok (.iastore, 1) := by decide +kernel
theorem dL_copy_18 : decode cL_copy 18 = .ok (.iinc 6 1, 3) := by decide +kernel
theorem dL_copy_21 : decode cL_copy 21 = .ok (.goto (-18), 3) := by decide +kernel
theorem dL_copy_24 : decode cL_copy 24 = .ok (.iconst 0, 1) := by decide +kernel
theorem dL_copy_25 : decode cL_copy 25 = .ok (.istore 6, 2) := by decide +kernel
theorem dL_copy_27 : decode cL_copy 27 = .ok (.iload 6, 2) := by decide +kernel
theorem dL_copy_29 : decode cL_copy 29 = .ok (.bipush 60, 2) := by decide +kernel
theorem dL_copy_31 : decode cL_copy 31 = .ok (.if_icmp .ge 18, 3) := by decide +kernel
theorem dL_copy_34 : decode cL_copy 34 = .ok (.aload 4, 2) := by decide +kernel
theorem dL_copy_36 : decode cL_copy 36 = .ok (.iload 6, 2) := by decide +kernel
theorem dL_copy_38 : decode cL_copy 38 = .ok (.aload_n 1, 1) := by decide +kernel
theorem dL_copy_39 : decode cL_copy 39 = .ok (.iload 6, 2) := by decide +kernel
theorem dL_copy_41 : decode cL_copy 41 = .ok (.iaload, 1) := by decide +kernel
theorem dL_copy_42 : decode cL_copy 42 = .ok (.iastore, 1) := by decide +kernel
theorem dL_copy_43 : decode cL_copy 43 = .ok (.iinc 6 1, 3) := by decide +kernel
theorem dL_copy_46 : decode cL_copy 46 = .ok (.goto (-19), 3) := by decide +kernel
theorem dL_copy_49 : decode cL_copy 49 = .ok (.iconst 0, 1) := by decide +kernel
theorem dL_copy_50 : decode cL_copy 50 = .ok (.istore 6, 2) := by decide +kernel
theorem dL_copy_52 : decode cL_copy 52 = .ok (.iload 6, 2) := by decide +kernel
theorem dL_copy_54 : decode cL_copy 54 = .ok (.bipush 25, 2) := by decide +kernel
theorem dL_copy_56 : decode cL_copy 56 = .ok (.if_icmp .ge 18, 3) := by decide +kernel
theorem dL_copy_59 : decode cL_copy 59 = .ok (.aload 5, 2) := by decide +kernel
theorem dL_copy_61 : decode cL_copy 61 = .ok (.iload 6, 2) := by decide +kernel
theorem dL_copy_63 : decode cL_copy 63 = .ok (.aload_n 2, 1) := by decide +kernel
theorem dL_copy_64 : decode cL_copy 64 = .ok (.iload 6, 2) := by decide +kernel
theorem dL_copy_66 : decode cL_copy 66 = .ok (.iaload, 1) := by decide +kernel
theorem dL_copy_67 : decode cL_copy 67 = .ok (.iastore, 1) := by decide +kernel
theorem dL_copy_68 : decode cL_copy 68 = .ok (.iinc 6 1, 3) := by decide +kernel
theorem dL_copy_71 : decode cL_copy 71 = .ok (.goto (-19), 3) := by decide +kernel
theorem dL_copy_74 : decode cL_copy 74 = .ok (.return_, 1) := by decide +kernel
set_option maxRecDepth 20000 in
theorem ggL_would_L_low : GoodIn wsL_would wsL_low := goodIn_r _ [4, 5] (by decide +kernel) (by decide +kernel)
set_option maxRecDepth 20000 in
theorem gL_would_L_low : GoodIn wsL_would (va_wsS RL 46 yL_low wsL_low) := goodIn_app (goodIn_of _ (by decide +kernel)) ggL_would_L_low
set_option maxRecDepth 20000 in
theorem ggL_would_L_copy : GoodIn wsL_would wsL_copy := goodIn_r _ [8] (by decide +kernel) (by decide +kernel)
set_option maxRecDepth 20000 in
theorem gL_would_L_copy : GoodIn wsL_would (va_wsS RL 49 yL_copy wsL_copy) := goodIn_app (goodIn_of _ (by decide +kernel)) ggL_would_L_copy
set_option maxRecDepth 20000 in
theorem ggL_would_L_hour : GoodIn wsL_would wsL_hour := goodIn_r _ [11, 12, 13, 3, 14, 15, 16, 17, 18, 19, 20] rfl (by decide +kernel)
set_option maxRecDepth 20000 in
theorem gL_would_L_hour : GoodIn wsL_would (va_wsS RL 53 yL_hour wsL_hour) := goodIn_app (goodIn_of _ (by decide +kernel)) ggL_would_L_hour
set_option maxRecDepth 20000 in
theorem ggL_would_X2_willBeWet : GoodIn wsL_would wsX2_willBeWet := goodIn_r _ [25, 26, 27, 28, 29, 24, 30, 31, 32, 33, 34, 35, 36, 37, 38, 39, 40, 41, 42, 43, 44, 45, 46, 47, 48, 49, 50, 51, 52, 53, 54, 55, 56, 57, 58, 59, 60, 61, 62, 63, 64, 65, 66, 67, 68, 69, 70, 71, 72, 73, 74, 75, 76, 77, 78, 79, 80, 81, 82, 83, 84, 85, 86, 87, 88, 89, 90, 91, 92, 93, 94, 95, 96, 97, 98, 99, 100, 101, 102, 103, 104, 105, 106, 107, 108, 109, 110, 111, 112, 113, 114, 115, 116, 117, 118, 119, 120, 121, 122, 123, 124, 141, 142, 143, 144, 145, 146, 147, 148, 149, 150, 151, 152, 153, 154, 155, 156, 157, 158, 159, 160, 161, 162, 163, 164, 165, 166] (by decide +kernel) (by decide +kernel)
set_option maxRecDepth 20000 in
theorem gL_would_X2_willBeWet : GoodIn wsL_would (wsV RL 57 RX2 yX2_willBeWet wsX2_willBeWet) := goodIn_app (goodIn_of _ (by decide +kernel)) ggL_would_X2_willBeWet
set_option maxRecDepth 20000 in
theorem ggL_would_X2_coveredIn : GoodIn wsL_would wsX2_coveredIn := goodIn_r _ [128, 26, 27, 129, 62, 24, 63, 28, 29, 30, 31, 32, 33, 34, 35, 36, 37, 38, 39, 40, 41, 42, 43, 44, 45, 46, 47, 48, 49, 50, 51, 52, 53, 54, 55, 56, 57, 58, 59, 60, 61, 64, 65, 66, 67, 68, 69, 70, 71, 72, 73, 74, 75, 76, 77, 78, 79, 80, 81, 82, 83, 84, 85, 86, 87, 88, 89, 90, 91, 92, 93, 94, 95, 96, 97, 98, 99, 100, 101, 102, 103, 104, 105, 106, 107, 108, 109, 110, 111, 112, 113, 114, 115, 116, 117, 118, 119, 120, 121, 122, 123, 124, 141, 142, 143, 144, 145, 146, 147, 148, 149, 150, 151, 152, 153, 154, 155, 156, 157, 158, 159, 160, 161, 162, 163, 164, 165, 166] (by decide +kernel) (by decide +kernel)
set_option maxRecDepth 20000 in
theorem gL_would_X2_coveredIn : GoodIn wsL_would (wsV RL 60 RX2 yX2_coveredIn wsX2_coveredIn) := goodIn_app (goodIn_of _ (by decide +kernel)) ggL_would_X2_coveredIn
set_option maxRecDepth 20000 in
theorem ggL_would_X2_bestPlace : GoodIn wsL_would wsX2_bestPlace := goodIn_r _ [133, 134, 135, 136, 24, 137, 26, 27, 28, 29, 30, 31, 32, 33, 34, 138, 36, 139, 140, 45, 48, 92, 97, 87, 78, 35, 37, 38, 39, 40, 41, 42, 43, 44, 46, 47, 49, 50, 51, 52, 53, 54, 55, 56, 57, 58, 59, 60, 61, 62, 63, 64, 65, 66, 67, 68, 69, 70, 71, 72, 73, 74, 75, 76, 77, 79, 80, 81, 82, 83, 84, 85, 86, 88, 89, 90, 91, 93, 94, 95, 96, 98, 99, 100, 101, 102, 103, 104, 105, 106, 107, 108, 109, 110, 111, 112, 113, 114, 115, 116, 117, 118, 119, 120, 121, 122, 123, 124, 141, 142, 143, 144, 145, 146, 147, 148, 149, 150, 151, 152, 153, 154, 155, 156, 157, 158, 159, 160, 161, 162, 163, 164, 165, 166] (by decide +kernel) (by decide +kernel)
set_option maxRecDepth 20000 in
theorem gL_would_X2_bestPlace : GoodIn wsL_would (wsV RL 63 RX2 yX2_bestPlace wsX2_bestPlace) := goodIn_app (goodIn_of _ (by decide +kernel)) ggL_would_X2_bestPlace
theorem dL_would_0 : decode cL_would 0 = .ok (.iconst 1, 1) := by decide +kernel
theorem dL_would_1 : decode cL_would 1 = .ok (.iload_n 1, 1) := by decide +kernel
theorem dL_would_2 : decode cL_would 2 = .ok (.bipush 48, 2) := by decide +kernel
theorem dL_would_4 : decode cL_would 4 = .ok (.invokestatic 46, 3) := by decide +kernel
theorem dL_would_7 : decode cL_would 7 = .ok (.iadd, 1) := by decide +kernel
theorem dL_would_8 : decode cL_would 8 = .ok (.istore 8, 2) := by decide +kernel
theorem dL_would_10 : decode cL_would 10 = .ok (.iconst 0, 1) := by decide +kernel
theorem dL_would_11 : decode cL_would 11 = .ok (.istore 9, 2) := by decide +kernel
theorem dL_would_13 : decode cL_would 13 = .ok (.aload_n 2, 1) := by decide +kernel
theorem dL_would_14 : decode cL_would 14 = .ok (.aload_n 3, 1) := by decide +kernel
theorem dL_would_15 : decode cL_would 15 = .ok (.aload 4, 2) := by decide +kernel
theorem dL_would_17 : decode cL_would 17 = .ok (.aload 5, 2) := by decide +kernel
theorem dL_would_19 : decode cL_would 19 = .ok (.aload 6, 2) := by decide +kernel
theorem dL_would_21 : decode cL_would 21 = .ok (.aload 7, 2) := by decide +kernel
theorem dL_would_23 : decode cL_would 23 = .ok (.invokestatic 49, 3) := by decide +kernel
theorem dL_would_26 : decode cL_would 26 = .ok (.iconst 0, 1) := by decide +kernel
theorem dL_would_27 : decode cL_would 27 = .ok (.istore 10, 2) := by decide +kernel
theorem dL_would_29 : decode cL_would 29 = .ok (.iload 10, 2) := by decide +kernel
theorem dL_would_31 : decode cL_would 31 = .ok (.iload 8, 2) := by decide +kernel
theorem dL_would_33 : decode cL_would 33 = .ok (.if_icmp .ge 19, 3) := by decide +kernel
theorem dL_would_36 : decode cL_would 36 = .ok (.aload 5, 2) := by decide +kernel
theorem dL_would_38 : decode cL_would 38 = .ok (.aload 6, 2) := by decide +kernel
theorem dL_would_40 : decode cL_would 40 = .ok (.aload 7, 2) := by decide +kernel
theorem dL_would_42 : decode cL_would 42 = .ok (.invokestatic 53, 3) := by decide +kernel
theorem dL_would_45 : decode cL_would 45 = .ok (.pop, 1) := by decide +kernel
theorem dL_would_46 : decode cL_would 46 = .ok (.iinc 10 1, 3) := by decide +kernel
theorem dL_would_49 : decode cL_would 49 = .ok (.goto (-20), 3) := by decide +kernel
theorem dL_would_52 : decode cL_would 52 = .ok (.iconst 0, 1) := by decide +kernel
theorem dL_would_53 : decode cL_would 53 = .ok (.istore 10, 2) := by decide +kernel
theorem dL_would_55 : decode cL_would 55 = .ok (.iload 10, 2) := by decide +kernel
theorem dL_would_57 : decode cL_would 57 = .ok (.bipush 12, 2) := by decide +kernel
theorem dL_would_59 : decode cL_would 59 = .ok (.if_icmp .ge 42, 3) := by decide +kernel
theorem dL_would_62 : decode cL_would 62 = .ok (.iload 9, 2) := by decide +kernel
theorem dL_would_64 : decode cL_would 64 = .ok (.aload 6, 2) := by decide +kernel
theorem dL_would_66 : decode cL_would 66 = .ok (.iconst 5, 1) := by decide +kernel
theorem dL_would_67 : decode cL_would 67 = .ok (.iload 10, 2) := by decide +kernel
theorem dL_would_69 : decode cL_would 69 = .ok (.imul, 1) := by decide +kernel
theorem dL_would_70 : decode cL_would 70 = .ok (.iconst 4, 1) := by decide +kernel
theorem dL_would_71 : decode cL_would 71 = .ok (.iadd, 1) := by decide +kernel
theorem dL_would_72 : decode cL_would 72 = .ok (.iaload, 1) := by decide +kernel
theorem dL_would_73 : decode cL_would 73 = .ok (.aload_n 3, 1) := by decide +kernel
theorem dL_would_74 : decode cL_would 74 = .ok (.iconst 5, 1) := by decide +kernel
theorem dL_would_75 : decode cL_would 75 = .ok (.iload 10, 2) := by decide +kernel
theorem dL_would_77 : decode cL_would 77 = .ok (.imul, 1) := by decide +kernel
theorem dL_would_78 : decode cL_would 78 = .ok (.iconst 4, 1) := by decide +kernel
theorem dL_would_79 : decode cL_would 79 = .ok (.iadd, 1) := by decide +kernel
theorem dL_would_80 : decode cL_would 80 = .ok (.iaload, 1) := by decide +kernel
theorem dL_would_81 : decode cL_would 81 = .ok (.if_icmp .le 10, 3) := by decide +kernel
theorem dL_would_84 : decode cL_would 84 = .ok (.iconst 1, 1) := by decide +kernel
theorem dL_would_85 : decode cL_would 85 = .ok (.iload 10, 2) := by decide +kernel
theorem dL_would_87 : decode cL_would 87 = .ok (.ishl, 1) := by decide +kernel
theorem dL_would_88 : decode cL_would 88 = .ok (.goto 4, 3) := by decide +kernel
theorem dL_would_91 : decode cL_would 91 = .ok (.iconst 0, 1) := by decide +kernel
theorem dL_would_92 : decode cL_would 92 = .ok (.ior, 1) := by decide +kernel
theorem dL_would_93 : decode cL_would 93 = .ok (.istore 9, 2) := by decide +kernel
theorem dL_would_95 : decode cL_would 95 = .ok (.iinc 10 1, 3) := by decide +kernel
theorem dL_would_98 : decode cL_would 98 = .ok (.goto (-43), 3) := by decide +kernel
theorem dL_would_101 : decode cL_would 101 = .ok (.aload_n 0, 1) := by decide +kernel
theorem dL_would_102 : decode cL_would 102 = .ok (.iload 8, 2) := by decide +kernel
theorem dL_would_104 : decode cL_would 104 = .ok (.invokevirtual 57, 3) := by decide +kernel
theorem dL_would_107 : decode cL_would 107 = .ok (.iload 9, 2) := by decide +kernel
theorem dL_would_109 : decode cL_would 109 = .ok (.if_icmp .eq 5, 3) := by decide +kernel
theorem dL_would_112 : decode cL_would 112 = .ok (.iconst 0, 1) := by decide +kernel
theorem dL_would_113 : decode cL_would 113 = .ok (.ireturn, 1) := by decide +kernel
theorem dL_would_114 : decode cL_would 114 = .ok (.iload_n 1, 1) := by decide +kernel
theorem dL_would_115 : decode cL_would 115 = .ok (.iconst 5, 1) := by decide +kernel
theorem dL_would_116 : decode cL_would 116 = .ok (.ishr, 1) := by decide +kernel
theorem dL_would_117 : decode cL_would 117 = .ok (.bipush 12, 2) := by decide +kernel
theorem dL_would_119 : decode cL_would 119 = .ok (.invokestatic 46, 3) := by decide +kernel
theorem dL_would_122 : decode cL_would 122 = .ok (.istore 10, 2) := by decide +kernel
theorem dL_would_124 : decode cL_would 124 = .ok (.aload_n 2, 1) := by decide +kernel
theorem dL_would_125 : decode cL_would 125 = .ok (.aload_n 3, 1) := by decide +kernel
theorem dL_would_126 : decode cL_would 126 = .ok (.aload 4, 2) := by decide +kernel
theorem dL_would_128 : decode cL_would 128 = .ok (.aload 5, 2) := by decide +kernel
theorem dL_would_130 : decode cL_would 130 = .ok (.aload 6, 2) := by decide +kernel
theorem dL_would_132 : decode cL_would 132 = .ok (.aload 7, 2) := by decide +kernel
theorem dL_would_134 : decode cL_would 134 = .ok (.invokestatic 49, 3) := by decide +kernel
theorem dL_would_137 : decode cL_would 137 = .ok (.iconst 0, 1) := by decide +kernel
theorem dL_would_138 : decode cL_would 138 = .ok (.istore 11, 2) := by decide +kernel
theorem dL_would_140 : decode cL_would 140 = .ok (.aload_n 3, 1) := by decide +kernel
theorem dL_would_141 : decode cL_would 141 = .ok (.iconst 5, 1) := by decide +kernel
theorem dL_would_142 : decode cL_would 142 = .ok (.iload 10, 2) := by decide +kernel
theorem dL_would_144 : decode cL_would 144 = .ok (.imul, 1) := by decide +kernel
theorem dL_would_145 : decode cL_would 145 = .ok (.iaload, 1) := by decide +kernel
theorem dL_would_146 : decode cL_would 146 = .ok (.ifCond .lt 39, 3) := by decide +kernel
theorem dL_would_149 : decode cL_would 149 = .ok (.aload 6, 2) := by decide +kernel
theorem dL_would_151 : decode cL_would 151 = .ok (.iconst 5, 1) := by decide +kernel
theorem dL_would_152 : decode cL_would 152 = .ok (.iload 10, 2) := by decide +kernel
theorem dL_would_154 : decode cL_would 154 = .ok (.imul, 1) := by decide +kernel
theorem dL_would_155 : decode cL_would 155 = .ok (.iconst 2, 1) := by decide +kernel
theorem dL_would_156 : decode cL_would 156 = .ok (.iadd, 1) := by decide +kernel
theorem dL_would_157 : decode cL_would 157 = .ok (.iaload, 1) := by decide +kernel
theorem dL_would_158 : decode cL_would 158 = .ok (.iconst 2, 1) := by decide +kernel
theorem dL_would_159 : decode cL_would 159 = .ok (.if_icmp .eq 26, 3) := by decide +kernel
theorem dL_would_162 : decode cL_would 162 = .ok (.iload 11, 2) := by decide +kernel
theorem dL_would_164 : decode cL_would 164 = .ok (.bipush 97, 2) := by decide +kernel
theorem dL_would_166 : decode cL_would 166 = .ok (.if_icmp .ge 19, 3) := by decide +kernel
theorem dL_would_169 : decode cL_would 169 = .ok (.aload 5, 2) := by decide +kernel
theorem dL_would_171 : decode cL_would 171 = .ok (.aload 6, 2) := by decide +kernel
theorem dL_would_173 : decode cL_would 173 = .ok (.aload 7, 2) := by decide +kernel
theorem dL_would_175 : decode cL_would 175 = .ok (.invokestatic 53, 3) := by decide +kernel
theorem dL_would_178 : decode cL_would 178 = .ok (.pop, 1) := by decide +kernel
theorem dL_would_179 : decode cL_would 179 = .ok (.iinc 11 1, 3) := by decide +kernel
theorem dL_would_182 : decode cL_would 182 = .ok (.goto (-42), 3) := by decide +kernel
theorem dL_would_185 : decode cL_would 185 = .ok (.aload_n 0, 1) := by decide +kernel
theorem dL_would_186 : decode cL_would 186 = .ok (.iload 10, 2) := by decide +kernel
theorem dL_would_188 : decode cL_would 188 = .ok (.invokevirtual 60, 3) := by decide +kernel
theorem dL_would_191 : decode cL_would 191 = .ok (.aload_n 3, 1) := by decide +kernel
theorem dL_would_192 : decode cL_would 192 = .ok (.iconst 5, 1) := by decide +kernel
theorem dL_would_193 : decode cL_would 193 = .ok (.iload 10, 2) := by decide +kernel
theorem dL_would_195 : decode cL_would 195 = .ok (.imul, 1) := by decide +kernel
theorem dL_would_196 : decode cL_would 196 = .ok (.iaload, 1) := by decide +kernel
theorem dL_would_197 : decode cL_would 197 = .ok (.ifCond .ge 7, 3) := by decide +kernel
theorem dL_would_200 : decode cL_would 200 = .ok (.iconst (-1), 1) := by decide +kernel
theorem dL_would_201 : decode cL_would 201 = .ok (.goto 17, 3) := by decide +kernel
theorem dL_would_204 : decode cL_would 204 = .ok (.iload 11, 2) := by decide +kernel
theorem dL_would_206 : decode cL_would 206 = .ok (.bipush 96, 2) := by decide +kernel
theorem dL_would_208 : decode cL_would 208 = .ok (.if_icmp .le 8, 3) := by decide +kernel
theorem dL_would_211 : decode cL_would 211 = .ok (.bipush (-6), 2) := by decide +kernel
theorem dL_would_213 : decode cL_would 213 = .ok (.goto 5, 3) := by decide +kernel
theorem dL_would_216 : decode cL_would 216 = .ok (.iload 11, 2) := by decide +kernel
theorem dL_would_218 : decode cL_would 218 = .ok (.if_icmp .eq 5, 3) := by decide +kernel
theorem dL_would_221 : decode cL_would 221 = .ok (.iconst 0, 1) := by decide +kernel
theorem dL_would_222 : decode cL_would 222 = .ok (.ireturn, 1) := by decide +kernel
theorem dL_would_223 : decode cL_would 223 = .ok (.iconst 0, 1) := by decide +kernel
theorem dL_would_224 : decode cL_would 224 = .ok (.istore 12, 2) := by decide +kernel
theorem dL_would_226 : decode cL_would 226 = .ok (.iconst (-1), 1) := by decide +kernel
theorem dL_would_227 : decode cL_would 227 = .ok (.istore 13, 2) := by decide +kernel
theorem dL_would_229 : decode cL_would 229 = .ok (.bipush 11, 2) := by decide +kernel
theorem dL_would_231 : decode cL_would 231 = .ok (.istore 14, 2) := by decide +kernel
theorem dL_would_233 : decode cL_would 233 = .ok (.iload 14, 2) := by decide +kernel
theorem dL_would_235 : decode cL_would 235 = .ok (.ifCond .lt 93, 3) := by decide +kernel
theorem dL_would_238 : decode cL_would 238 = .ok (.aload_n 2, 1) := by decide +kernel
theorem dL_would_239 : decode cL_would 239 = .ok (.aload_n 3, 1) := by decide +kernel
theorem dL_would_240 : decode cL_would 240 = .ok (.aload 4, 2) := by decide +kernel
theorem dL_would_242 : decode cL_would 242 = .ok (.aload 5, 2) := by decide +kernel
theorem dL_would_244 : decode cL_would 244 = .ok (.aload 6, 2) := by decide +kernel
theorem dL_would_246 : decode cL_would 246 = .ok (.aload 7, 2) := by decide +kernel
theorem dL_would_248 : decode cL_would 248 = .ok (.invokestatic 49, 3) := by decide +kernel
theorem dL_would_251 : decode cL_would 251 = .ok (.aload 7, 2) := by decide +kernel
theorem dL_would_253 : decode cL_would 253 = .ok (.iconst 5, 1) := by decide +kernel
theorem dL_would_254 : decode cL_would 254 = .ok (.aload_n 2, 1) := by decide +kernel
theorem dL_would_255 : decode cL_would 255 = .ok (.bipush 11, 2) := by decide +kernel
theorem dL_would_257 : decode cL_would 257 = .ok (.iaload, 1) := by decide +kernel
