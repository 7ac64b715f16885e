theorem dX9_wipe_1 : decode cX9_wipe 1 = .ok (.getfield 33, 3) := by decide +kernel
theorem dX9_wipe_4 : decode cX9_wipe 4 = .ok (.getfield 120, 3) := by decide +kernel
theorem dX9_wipe_7 : decode cX9_wipe 7 = .ok (.istore_n 1, 1) := by decide +kernel
theorem dX9_wipe_8 : decode cX9_wipe 8 = .ok (.aload_n 0, 1) := by decide +kernel
theorem dX9_wipe_9 : decode cX9_wipe 9 = .ok (.getfield 33, 3) := by decide +kernel
theorem dX9_wipe_12 : decode cX9_wipe 12 = .ok (.invokevirtual 126, 3) := by decide +kernel
theorem dX9_wipe_15 : decode cX9_wipe 15 = .ok (.iload_n 1, 1) := by decide +kernel
theorem dX9_wipe_16 : decode cX9_wipe 16 = .ok (.ireturn, 1) := by decide +kernel
set_option maxRecDepth 20000 in
theorem ggX9_fault_X4_faultPlace : GoodIn wsX9_fault wsX4_faultPlace := goodIn_r _ [5, 6, 7, 8, 19, 20, 21, 22, 23, 24, 25, 26, 27, 28] (by decide +kernel) (by decide +kernel)
set_option maxRecDepth 20000 in
theorem gX9_fault_X4_faultPlace_n129 : GoodIn wsX9_fault (wsX4_faultPlace) := ggX9_fault_X4_faultPlace
theorem dX9_fault_0 : decode cX9_fault 0 = .ok (.aload_n 0, 1) := by decide +kernel
theorem dX9_fault_1 : decode cX9_fault 1 = .ok (.getfield 33, 3) := by decide +kernel
theorem dX9_fault_4 : decode cX9_fault 4 = .ok (.invokevirtual 129, 3) := by decide +kernel
theorem dX9_fault_7 : decode cX9_fault 7 = .ok (.ireturn, 1) := by decide +kernel
set_option maxRecDepth 20000 in
theorem ggX9_judge_X9_within : GoodIn wsX9_judge wsX9_within := goodIn_r _ [5] (by decide +kernel) (by decide +kernel)
set_option maxRecDepth 20000 in
theorem gX9_judge_X9_within : GoodIn wsX9_judge (va_wsS RX9 79 yX9_within wsX9_within) := goodIn_app (goodIn_of _ (by decide +kernel)) ggX9_judge_X9_within
set_option maxRecDepth 20000 in
theorem ggX9_judge_X9_tryText : GoodIn wsX9_judge wsX9_tryText := goodIn_r _ [9, 10, 1, 11, 12, 13, 14, 15, 16, 17, 18, 19, 20, 21, 22, 23, 24, 25, 26, 27, 28, 29, 30, 31, 32, 33, 34, 35, 36, 37, 38, 39, 40, 41, 42, 43, 44, 45, 46, 47, 48, 49, 50, 51, 52, 53, 54, 55, 56, 57, 58, 59, 60, 61, 62, 63, 64, 65, 66, 67, 68, 69, 70, 71, 72, 73, 74, 75, 76, 77, 78, 79, 80, 81, 82, 83, 84, 85, 86, 87, 88, 89, 90, 91, 92, 93, 94, 95, 96, 97, 98, 99, 100, 101, 102, 103, 104, 105, 106, 107, 108, 109, 110, 111, 112, 113, 114, 115, 116, 117, 118, 119, 120, 121, 122, 123, 124] (by decide +kernel) (by decide +kernel)
set_option maxRecDepth 20000 in
theorem gX9_judge_X9_tryText : GoodIn wsX9_judge (wsV RX9 132 RX9 yX9_tryText wsX9_tryText) := goodIn_app (goodIn_of _ (by decide +kernel)) ggX9_judge_X9_tryText
theorem dX9_judge_0 : decode cX9_judge 0 = .ok (.iload_n 1, 1) := by decide +kernel
theorem dX9_judge_1 : decode cX9_judge 1 = .ok (.iconst 0, 1) := by decide +kernel
theorem dX9_judge_2 : decode cX9_judge 2 = .ok (.iconst 2, 1) := by decide +kernel
theorem dX9_judge_3 : decode cX9_judge 3 = .ok (.invokestatic 79, 3) := by decide +kernel
theorem dX9_judge_6 : decode cX9_judge 6 = .ok (.ifCond .ne 6, 3) := by decide +kernel
theorem dX9_judge_9 : decode cX9_judge 9 = .ok (.bipush (-2), 2) := by decide +kernel
theorem dX9_judge_11 : decode cX9_judge 11 = .ok (.ireturn, 1) := by decide +kernel
theorem dX9_judge_12 : decode cX9_judge 12 = .ok (.aload_n 0, 1) := by decide +kernel
theorem dX9_judge_13 : decode cX9_judge 13 = .ok (.invokevirtual 132, 3) := by decide +kernel
theorem dX9_judge_16 : decode cX9_judge 16 = .ok (.istore_n 2, 1) := by decide +kernel
theorem dX9_judge_17 : decode cX9_judge 17 = .ok (.iload_n 2, 1) := by decide +kernel
theorem dX9_judge_18 : decode cX9_judge 18 = .ok (.bipush (-5), 2) := by decide +kernel
theorem dX9_judge_20 : decode cX9_judge 20 = .ok (.if_icmp .eq 14, 3) := by decide +kernel
theorem dX9_judge_23 : decode cX9_judge 23 = .ok (.iload_n 1, 1) := by decide +kernel
theorem dX9_judge_24 : decode cX9_judge 24 = .ok (.iconst 2, 1) := by decide +kernel
theorem dX9_judge_25 : decode cX9_judge 25 = .ok (.if_icmp .ne 11, 3) := by decide +kernel
theorem dX9_judge_28 : decode cX9_judge 28 = .ok (.iload_n 2, 1) := by decide +kernel
theorem dX9_judge_29 : decode cX9_judge 29 = .ok (.bipush (-3), 2) := by decide +kernel
theorem dX9_judge_31 : decode cX9_judge 31 = .ok (.if_icmp .ne 5, 3) := by decide +kernel
theorem dX9_judge_34 : decode cX9_judge 34 = .ok (.iload_n 2, 1) := by decide +kernel
theorem dX9_judge_35 : decode cX9_judge 35 = .ok (.ireturn, 1) := by decide +kernel
theorem dX9_judge_36 : decode cX9_judge 36 = .ok (.iload_n 1, 1) := by decide +kernel
theorem dX9_judge_37 : decode cX9_judge 37 = .ok (.lookupswitch 43 #[(0, 27), (1, 35)], 27) := by decide +kernel
theorem dX9_judge_64 : decode cX9_judge 64 = .ok (.aload_n 0, 1) := by decide +kernel
theorem dX9_judge_65 : decode cX9_judge 65 = .ok (.getfield 40, 3) := by decide +kernel
theorem dX9_judge_68 : decode cX9_judge 68 = .ok (.getfield 135, 3) := by decide +kernel
theorem dX9_judge_71 : decode cX9_judge 71 = .ok (.ireturn, 1) := by decide +kernel
theorem dX9_judge_72 : decode cX9_judge 72 = .ok (.aload_n 0, 1) := by decide +kernel
theorem dX9_judge_73 : decode cX9_judge 73 = .ok (.getfield 40, 3) := by decide +kernel
theorem dX9_judge_76 : decode cX9_judge 76 = .ok (.getfield 138, 3) := by decide +kernel
theorem dX9_judge_79 : decode cX9_judge 79 = .ok (.ireturn, 1) := by decide +kernel
theorem dX9_judge_80 : decode cX9_judge 80 = .ok (.aload_n 0, 1) := by decide +kernel
theorem dX9_judge_81 : decode cX9_judge 81 = .ok (.getfield 40, 3) := by decide +kernel
theorem dX9_judge_84 : decode cX9_judge 84 = .ok (.getfield 141, 3) := by decide +kernel
theorem dX9_judge_87 : decode cX9_judge 87 = .ok (.ireturn, 1) := by decide +kernel
set_option maxRecDepth 20000 in
theorem ggX9_behind_X9_isHouse : GoodIn wsX9_behind wsX9_isHouse := goodIn_r _ [5] (by decide +kernel) (by decide +kernel)
set_option maxRecDepth 20000 in
theorem gX9_behind_X9_isHouse : GoodIn wsX9_behind (va_wsS RX9 75 yX9_isHouse wsX9_isHouse) := goodIn_app (goodIn_of _ (by decide +kernel)) ggX9_behind_X9_isHouse
set_option maxRecDepth 20000 in
theorem ggX9_behind_X9_within : GoodIn wsX9_behind wsX9_within := goodIn_r _ [8] (by decide +kernel) (by decide +kernel)
set_option maxRecDepth 20000 in
theorem gX9_behind_X9_within : GoodIn wsX9_behind (va_wsS RX9 79 yX9_within wsX9_within) := goodIn_app (goodIn_of _ (by decide +kernel)) ggX9_behind_X9_within
set_option maxRecDepth 20000 in
theorem ggX9_behind_X9_tryText : GoodIn wsX9_behind wsX9_tryText := goodIn_r _ [12, 13, 1, 14, 15, 16, 17, 18, 19, 20, 21, 22, 23, 24, 25, 26, 27, 28, 29, 30, 31, 32, 33, 34, 35, 36, 37, 38, 39, 40, 41, 42, 43, 44, 45, 46, 47, 48, 49, 50, 51, 52, 53, 54, 55, 56, 57, 58, 59, 60, 61, 62, 63, 64, 65, 66, 67, 68, 69, 70, 71, 72, 73, 74, 75, 76, 77, 78, 79, 80, 81, 82, 83, 84, 85, 86, 87, 88, 89, 90, 91, 92, 93, 94, 95, 99, 100, 101, 102, 103, 104, 105, 106, 107, 108, 109, 110, 111, 112, 113, 114, 121, 122, 123, 124, 125, 126, 127, 128, 129, 130, 115, 116, 117, 118, 119, 120] (by decide +kernel) (by decide +kernel)
set_option maxRecDepth 20000 in
theorem gX9_behind_X9_tryText : GoodIn wsX9_behind (wsV RX9 132 RX9 yX9_tryText wsX9_tryText) := goodIn_app (goodIn_of _ (by decide +kernel)) ggX9_behind_X9_tryText
set_option maxRecDepth 20000 in
theorem ggX9_behind_X5_isIn : GoodIn wsX9_behind wsX5_isIn := goodIn_r _ [63, 47, 115, 116, 117, 118, 119, 120] (by decide +kernel) (by decide +kernel)
set_option maxRecDepth 20000 in
theorem gX9_behind_X5_isIn_n145 : GoodIn wsX9_behind (wsX5_isIn) := ggX9_behind_X5_isIn
set_option maxRecDepth 20000 in
theorem ggX9_behind_X5_placeOf : GoodIn wsX9_behind wsX5_placeOf := goodIn_r _ [98, 46, 115, 116, 117, 118, 119, 120] (by decide +kernel) (by decide +kernel)
set_option maxRecDepth 20000 in
theorem gX9_behind_X5_placeOf_n148 : GoodIn wsX9_behind (wsX5_placeOf) := ggX9_behind_X5_placeOf
theorem dX9_behind_0 : decode cX9_behind 0 = .ok (.iload_n 1, 1) := by decide +kernel
theorem dX9_behind_1 : decode cX9_behind 1 = .ok (.invokestatic 75, 3) := by decide +kernel
theorem dX9_behind_4 : decode cX9_behind 4 = .ok (.ifCond .ne 5, 3) := by decide +kernel
theorem dX9_behind_7 : decode cX9_behind 7 = .ok (.iconst (-1), 1) := by decide +kernel
theorem dX9_behind_8 : decode cX9_behind 8 = .ok (.ireturn, 1) := by decide +kernel
theorem dX9_behind_9 : decode cX9_behind 9 = .ok (.iload_n 2, 1) := by decide +kernel
theorem dX9_behind_10 : decode cX9_behind 10 = .ok (.iconst 0, 1) := by decide +kernel
theorem dX9_behind_11 : decode cX9_behind 11 = .ok (.iconst 2, 1) := by decide +kernel
theorem dX9_behind_12 : decode cX9_behind 12 = .ok (.invokestatic 79, 3) := by decide +kernel
theorem dX9_behind_15 : decode cX9_behind 15 = .ok (.ifCond .ne 6, 3) := by decide +kernel
theorem dX9_behind_18 : decode cX9_behind 18 = .ok (.bipush (-2), 2) := by decide +kernel
theorem dX9_behind_20 : decode cX9_behind 20 = .ok (.ireturn, 1) := by decide +kernel
theorem dX9_behind_21 : decode cX9_behind 21 = .ok (.aload_n 0, 1) := by decide +kernel
theorem dX9_behind_22 : decode cX9_behind 22 = .ok (.invokevirtual 132, 3) := by decide +kernel
theorem dX9_behind_25 : decode cX9_behind 25 = .ok (.istore_n 3, 1) := by decide +kernel
theorem dX9_behind_26 : decode cX9_behind 26 = .ok (.iload_n 3, 1) := by decide +kernel
theorem dX9_behind_27 : decode cX9_behind 27 = .ok (.ifCond .eq 5, 3) := by decide +kernel
theorem dX9_behind_30 : decode cX9_behind 30 = .ok (.iload_n 3, 1) := by decide +kernel
theorem dX9_behind_31 : decode cX9_behind 31 = .ok (.ireturn, 1) := by decide +kernel
theorem dX9_behind_32 : decode cX9_behind 32 = .ok (.iload_n 2, 1) := by decide +kernel
theorem dX9_behind_33 : decode cX9_behind 33 = .ok (.lookupswitch 60 #[(0, 27), (1, 40)], 27) := by decide +kernel
theorem dX9_behind_60 : decode cX9_behind 60 = .ok (.aload_n 0, 1) := by decide +kernel
theorem dX9_behind_61 : decode cX9_behind 61 = .ok (.getfield 40, 3) := by decide +kernel
theorem dX9_behind_64 : decode cX9_behind 64 = .ok (.getfield 144, 3) := by decide +kernel
theorem dX9_behind_67 : decode cX9_behind 67 = .ok (.getfield 83, 3) := by decide +kernel
theorem dX9_behind_70 : decode cX9_behind 70 = .ok (.iload_n 1, 1) := by decide +kernel
theorem dX9_behind_71 : decode cX9_behind 71 = .ok (.iaload, 1) := by decide +kernel
theorem dX9_behind_72 : decode cX9_behind 72 = .ok (.ireturn, 1) := by decide +kernel
theorem dX9_behind_73 : decode cX9_behind 73 = .ok (.aload_n 0, 1) := by decide +kernel
theorem dX9_behind_74 : decode cX9_behind 74 = .ok (.getfield 40, 3) := by decide +kernel
theorem dX9_behind_77 : decode cX9_behind 77 = .ok (.getfield 144, 3) := by decide +kernel
theorem dX9_behind_80 : decode cX9_behind 80 = .ok (.iload_n 1, 1) := by decide +kernel
theorem dX9_behind_81 : decode cX9_behind 81 = .ok (.invokevirtual 145, 3) := by decide +kernel
theorem dX9_behind_84 : decode cX9_behind 84 = .ok (.ifCond .eq 7, 3) := by decide +kernel
theorem dX9_behind_87 : decode cX9_behind 87 = .ok (.iconst 1, 1) := by decide +kernel
theorem dX9_behind_88 : decode cX9_behind 88 = .ok (.goto 4, 3) := by decide +kernel
theorem dX9_behind_91 : decode cX9_behind 91 = .ok (.iconst 0, 1) := by decide +kernel
theorem dX9_behind_92 : decode cX9_behind 92 = .ok (.ireturn, 1) := by decide +kernel
theorem dX9_behind_93 : decode cX9_behind 93 = .ok (.aload_n 0, 1) := by decide +kernel
theorem dX9_behind_94 : decode cX9_behind 94 = .ok (.getfield 40, 3) := by decide +kernel
theorem dX9_behind_97 : decode cX9_behind 97 = .ok (.getfield 144, 3) := by decide +kernel
theorem dX9_behind_100 : decode cX9_behind 100 = .ok (.iload_n 1, 1) := by decide +kernel
theorem dX9_behind_101 : decode cX9_behind 101 = .ok (.invokevirtual 148, 3) := by decide +kernel
theorem dX9_behind_104 : decode cX9_behind 104 = .ok (.ireturn, 1) := by decide +kernel
set_option maxRecDepth 20000 in
theorem ggX9_parish_X9_within : GoodIn wsX9_parish wsX9_within := goodIn_r _ [5] (by decide +kernel) (by decide +kernel)
set_option maxRecDepth 20000 in
theorem gX9_parish_X9_within : GoodIn wsX9_parish (va_wsS RX9 79 yX9_within wsX9_within) := goodIn_app (goodIn_of _ (by decide +kernel)) ggX9_parish_X9_within
set_option maxRecDepth 20000 in
theorem ggX9_parish_X9_tryText : GoodIn wsX9_parish wsX9_tryText := goodIn_r _ [9, 10, 1, 11, 12, 13, 14, 15, 16, 17, 18, 19, 20, 21, 22, 23, 24, 25, 26, 27, 28, 29, 30, 31, 32, 33, 34, 35, 36, 37, 38, 39, 40, 41, 42, 43, 44, 45, 46, 47, 48, 49, 50, 51, 52, 53, 54, 55, 56, 57, 58, 59, 60, 61, 62, 63, 64, 65, 66, 67, 68, 69, 70, 71, 72, 73, 74, 75, 76, 77, 78, 79, 80, 81, 82, 83, 84, 85, 86, 87, 88, 89, 90, 91, 92, 99, 100, 101, 102, 103, 104, 105, 106, 107, 108, 109, 110, 111, 112, 113, 114, 121, 122, 123, 124, 125, 126, 127, 128, 129, 130, 115, 116, 117, 118, 119, 120] (by decide +kernel) (by decide +kernel)
set_option maxRecDepth 20000 in
theorem gX9_parish_X9_tryText : GoodIn wsX9_parish (wsV RX9 132 RX9 yX9_tryText wsX9_tryText) := goodIn_app (goodIn_of _ (by decide +kernel)) ggX9_parish_X9_tryText
set_option maxRecDepth 20000 in
theorem ggX9_parish_X5_wealthInAll : GoodIn wsX9_parish wsX5_wealthInAll := goodIn_r _ [95, 37, 115, 116, 117, 118, 119, 120] (by decide +kernel) (by decide +kernel)
set_option maxRecDepth 20000 in
theorem gX9_parish_X5_wealthInAll_n155 : GoodIn wsX9_parish (wsX5_wealthInAll) := ggX9_parish_X5_wealthInAll
set_option maxRecDepth 20000 in
theorem ggX9_parish_X5_poorest : GoodIn wsX9_parish wsX5_poorest := goodIn_r _ [98, 43, 65, 66, 67, 34, 68, 37, 115, 116, 117, 118, 119, 120] (by decide +kernel) (by decide +kernel)
set_option maxRecDepth 20000 in
theorem gX9_parish_X5_poorest_n161 : GoodIn wsX9_parish (wsX5_poorest) := ggX9_parish_X5_poorest
theorem dX9_parish_0 : decode cX9_parish 0 = .ok (.iload_n 1, 1) := by decide +kernel
theorem dX9_parish_1 : decode cX9_parish 1 = .ok (.iconst 0, 1) := by decide +kernel
theorem dX9_parish_2 : decode cX9_parish 2 = .ok (.iconst 4, 1) := by decide +kernel
theorem dX9_parish_3 : decode cX9_parish 3 = .ok (.invokestatic 79, 3) := by decide +kernel
theorem dX9_parish_6 : decode cX9_parish 6 = .ok (.ifCond .ne 6, 3) := by decide +kernel
theorem dX9_parish_9 : decode cX9_parish 9 = .ok (.bipush (-2), 2) := by decide +kernel
theorem dX9_parish_11 : decode cX9_parish 11 = .ok (.ireturn, 1) := by decide +kernel
theorem dX9_parish_12 : decode cX9_parish 12 = .ok (.aload_n 0, 1) := by decide +kernel
theorem dX9_parish_13 : decode cX9_parish 13 = .ok (.invokevirtual 132, 3) := by decide +kernel
theorem dX9_parish_16 : decode cX9_parish 16 = .ok (.istore_n 2, 1) := by decide +kernel
theorem dX9_parish_17 : decode cX9_parish 17 = .ok (.iload_n 2, 1) := by decide +kernel
theorem dX9_parish_18 : decode cX9_parish 18 = .ok (.ifCond .eq 5, 3) := by decide +kernel
theorem dX9_parish_21 : decode cX9_parish 21 = .ok (.iload_n 2, 1) := by decide +kernel
theorem dX9_parish_22 : decode cX9_parish 22 = .ok (.ireturn, 1) := by decide +kernel
theorem dX9_parish_23 : decode cX9_parish 23 = .ok (.iload_n 1, 1) := by decide +kernel
theorem dX9_parish_24 : decode cX9_parish 24 = .ok (.tableswitch 76 0 3 #[32, 43, 54, 65], 32) := by decide +kernel
theorem dX9_parish_56 : decode cX9_parish 56 = .ok (.aload_n 0, 1) := by decide +kernel
theorem dX9_parish_57 : decode cX9_parish 57 = .ok (.getfield 40, 3) := by decide +kernel
theorem dX9_parish_60 : decode cX9_parish 60 = .ok (.getfield 144, 3) := by decide +kernel
theorem dX9_parish_63 : decode cX9_parish 63 = .ok (.getfield 152, 3) := by decide +kernel
theorem dX9_parish_66 : decode cX9_parish 66 = .ok (.ireturn, 1) := by decide +kernel
theorem dX9_parish_67 : decode cX9_parish 67 = .ok (.aload_n 0, 1) := by decide +kernel
theorem dX9_parish_68 : decode cX9_parish 68 = .ok (.getfield 40, 3) := by decide +kernel
theorem dX9_parish_71 : decode cX9_parish 71 = .ok (.getfield 144, 3) := by decide +kernel
theorem dX9_parish_74 : decode cX9_parish 74 = .ok (.invokevirtual 155, 3) := by decide +kernel
theorem dX9_parish_77 : decode cX9_parish 77 = .ok (.ireturn, 1) := by decide +kernel
theorem dX9_parish_78 : decode cX9_parish 78 = .ok (.aload_n 0, 1) := by decide +kernel
theorem dX9_parish_79 : decode cX9_parish 79 = .ok (.getfield 40, 3) := by decide +kernel
theorem dX9_parish_82 : decode cX9_parish 82 = .ok (.getfield 144, 3) := by decide +kernel
theorem dX9_parish_85 : decode cX9_parish 85 = .ok (.getfield 105, 3) := by decide +kernel
theorem dX9_parish_88 : decode cX9_parish 88 = .ok (.ireturn, 1) := by decide +kernel
theorem dX9_parish_89 : decode cX9_parish 89 = .ok (.aload_n 0, 1) := by decide +kernel
theorem dX9_parish_90 : decode cX9_parish 90 = .ok (.getfield 40, 3) := by decide +kernel
theorem dX9_parish_93 : decode cX9_parish 93 = .ok (.getfield 144, 3) := by decide +kernel
theorem dX9_parish_96 : decode cX9_parish 96 = .ok (.getfield 158, 3) := by decide +kernel
theorem dX9_parish_99 : decode cX9_parish 99 = .ok (.ireturn, 1) := by decide +kernel
theorem dX9_parish_100 : decode cX9_parish 100 = .ok (.aload_n 0, 1) := by decide +kernel
theorem dX9_parish_101 : decode cX9_parish 101 = .ok (.getfield 40, 3) := by decide +kernel
theorem dX9_parish_104 : decode cX9_parish 104 = .ok (.getfield 144, 3) := by decide +kernel
theorem dX9_parish_107 : decode cX9_parish 107 = .ok (.invokevirtual 161, 3) := by decide +kernel
theorem dX9_parish_110 : decode cX9_parish 110 = .ok (.ireturn, 1) := by decide +kernel
set_option maxRecDepth 20000 in
theorem ggX9_first_X9_within : GoodIn wsX9_first wsX9_within := goodIn_r _ [5] (by decide +kernel) (by decide +kernel)
set_option maxRecDepth 20000 in
theorem gX9_first_X9_within : GoodIn wsX9_first (va_wsS RX9 79 yX9_within wsX9_within) := goodIn_app (goodIn_of _ (by decide +kernel)) ggX9_first_X9_within
set_option maxRecDepth 20000 in
theorem ggX9_first_X9_tryText : GoodIn wsX9_first wsX9_tryText := goodIn_r _ [9, 10, 1, 11, 12, 13, 14, 15, 16, 17, 18, 19, 20, 21, 22, 23, 24, 25, 26, 27, 28, 29, 30, 31, 32, 33, 34, 35, 36, 37, 38, 39, 40, 41, 42, 43, 44, 45, 46, 47, 48, 49, 50, 51, 52, 53, 54, 55, 56, 57, 58, 59, 60, 61, 62, 63, 64, 65, 66, 67, 68, 69, 70, 71, 72, 73, 74, 75, 76, 77, 78, 79, 80, 81, 82, 83, 84, 85, 86, 87, 88, 89, 90, 91, 92, 93, 94, 95, 96, 97, 98, 99, 100, 101, 102, 103, 104, 105, 106, 107, 108, 109, 110, 111, 112, 113, 114, 115, 116, 117, 118, 119, 120, 121, 122, 123, 124] (by decide +kernel) (by decide +kernel)
set_option maxRecDepth 20000 in
theorem gX9_first_X9_tryText : GoodIn wsX9_first (wsV RX9 132 RX9 yX9_tryText wsX9_tryText) := goodIn_app (goodIn_of _ (by decide +kernel)) ggX9_first_X9_tryText
theorem dX9_first_0 : decode cX9_first 0 = .ok (.iload_n 1, 1) := by decide +kernel
theorem dX9_first_1 : decode cX9_first 1 = .ok (.iconst 0, 1) := by decide +kernel
theorem dX9_first_2 : decode cX9_first 2 = .ok (.iconst 1, 1) := by decide +kernel
theorem dX9_first_3 : decode cX9_first 3 = .ok (.invokestatic 79, 3) := by decide +kernel
theorem dX9_first_6 : decode cX9_first 6 = .ok (.ifCond .ne 6, 3) := by decide +kernel
theorem dX9_first_9 : decode cX9_first 9 = .ok (.bipush (-2), 2) := by decide +kernel
theorem dX9_first_11 : decode cX9_first 11 = .ok (.ireturn, 1) := by decide +kernel
theorem dX9_first_12 : decode cX9_first 12 = .ok (.aload_n 0, 1) := by decide +kernel
theorem dX9_first_13 : decode cX9_first 13 = .ok (.invokevirtual 132, 3) := by decide +kernel
theorem dX9_first_16 : decode cX9_first 16 = .ok (.istore_n 2, 1) := by decide +kernel
theorem dX9_first_17 : decode cX9_first 17 = .ok (.iload_n 2, 1) := by decide +kernel
theorem dX9_first_18 : decode cX9_first 18 = .ok (.ifCond .eq 5, 3) := by decide +kernel
theorem dX9_first_21 : decode cX9_first 21 = .ok (.iload_n 2, 1) := by decide +kernel
theorem dX9_first_22 : decode cX9_first 22 = .ok (.ireturn, 1) := by decide +kernel
theorem dX9_first_23 : decode cX9_first 23 = .ok (.iload_n 1, 1) := by decide +kernel
theorem dX9_first_24 : decode cX9_first 24 = .ok (.ifCond .ne 13, 3) := by decide +kernel
theorem dX9_first_27 : decode cX9_first 27 = .ok (.aload_n 0, 1) := by decide +kernel
theorem dX9_first_28 : decode cX9_first 28 = .ok (.getfield 40, 3) := by decide +kernel
theorem dX9_first_31 : decode cX9_first 31 = .ok (.getfield 164, 3) := by decide +kernel
theorem dX9_first_34 : decode cX9_first 34 = .ok (.goto 10, 3) := by decide +kernel
theorem dX9_first_37 : decode cX9_first 37 = .ok (.aload_n 0, 1) := by decide +kernel
theorem dX9_first_38 : decode cX9_first 38 = .ok (.getfield 40, 3) := by decide +kernel
theorem dX9_first_41 : decode cX9_first 41 = .ok (.getfield 167, 3) := by decide +kernel
theorem dX9_first_44 : decode cX9_first 44 = .ok (.ireturn, 1) := by decide +kernel
set_option maxRecDepth 20000 in
theorem ggX9_done_X9_tryText : GoodIn wsX9_done wsX9_tryText := goodIn_r _ [8, 1, 3, 2, 9, 10, 11, 12, 13, 14, 15, 16, 17, 18, 19, 20, 21, 22, 23, 24, 25, 26, 27, 28, 29, 30, 31, 32, 33, 34, 35, 36, 37, 38, 39, 40, 41, 42, 43, 44, 45, 46, 47, 48, 49, 50, 51, 52, 53, 54, 55, 56, 57, 58, 59, 60, 61, 62, 63, 64, 65, 66, 67, 68, 69, 70, 71, 72, 73, 74, 75, 76, 77, 78, 79, 80, 81, 82, 83, 84, 85, 86, 87, 88, 89, 94, 95, 96, 97, 98, 99, 100, 101, 102, 103, 114, 115, 116, 117, 118, 119, 104, 105, 106, 107, 108, 109, 110, 111, 112, 113, 120, 121, 122, 123, 124, 125] (by decide +kernel) (by decide +kernel)
set_option maxRecDepth 20000 in
theorem gX9_done_X9_tryText : GoodIn wsX9_done (wsV RX9 132 RX9 yX9_tryText wsX9_tryText) := goodIn_app (goodIn_of _ (by decide +kernel)) ggX9_done_X9_tryText
set_option maxRecDepth 20000 in
theorem ggX9_done_X5_copyFrom : GoodIn wsX9_done wsX5_copyFrom := goodIn_r _ [33, 34, 35, 36, 37, 38, 39, 40, 41, 42, 43, 120, 121, 122, 123, 124, 125] (by decide +kernel) (by decide +kernel)
set_option maxRecDepth 20000 in
theorem gX9_done_X5_copyFrom_n173 : GoodIn wsX9_done (wsX5_copyFrom) := ggX9_done_X5_copyFrom
set_option maxRecDepth 20000 in
theorem ggX9_done_X4_clear : GoodIn wsX9_done wsX4_clear := goodIn_r _ [92, 93, 15, 13, 14, 104, 105, 106, 107, 108, 109, 110, 111, 112, 113] (by decide +kernel) (by decide +kernel)
set_option maxRecDepth 20000 in
theorem gX9_done_X4_clear_n126 : GoodIn wsX9_done (wsX4_clear) := ggX9_done_X4_clear
theorem dX9_done_0 : decode cX9_done 0 = .ok (.aload_n 0, 1) := by decide +kernel
theorem dX9_done_1 : decode cX9_done 1 = .ok (.invokevirtual 132, 3) := by decide +kernel
theorem dX9_done_4 : decode cX9_done 4 = .ok (.istore_n 1, 1) := by decide +kernel
theorem dX9_done_5 : decode cX9_done 5 = .ok (.iload_n 1, 1) := by decide +kernel
theorem dX9_done_6 : decode cX9_done 6 = .ok (.ifCond .eq 5, 3) := by decide +kernel
theorem dX9_done_9 : decode cX9_done 9 = .ok (.iload_n 1, 1) := by decide +kernel
theorem dX9_done_10 : decode cX9_done 10 = .ok (.ireturn, 1) := by decide +kernel
theorem dX9_done_11 : decode cX9_done 11 = .ok (.aload_n 0, 1) := by decide +kernel
theorem dX9_done_12 : decode cX9_done 12 = .ok (.getfield 33, 3) := by decide +kernel
theorem dX9_done_15 : decode cX9_done 15 = .ok (.getfield 170, 3) := by decide +kernel
theorem dX9_done_18 : decode cX9_done 18 = .ok (.istore_n 2, 1) := by decide +kernel
theorem dX9_done_19 : decode cX9_done 19 = .ok (.aload_n 0, 1) := by decide +kernel
theorem dX9_done_20 : decode cX9_done 20 = .ok (.getfield 10, 3) := by decide +kernel
theorem dX9_done_23 : decode cX9_done 23 = .ok (.aload_n 0, 1) := by decide +kernel
theorem dX9_done_24 : decode cX9_done 24 = .ok (.getfield 40, 3) := by decide +kernel
theorem dX9_done_27 : decode cX9_done 27 = .ok (.getfield 144, 3) := by decide +kernel
theorem dX9_done_30 : decode cX9_done 30 = .ok (.invokevirtual 173, 3) := by decide +kernel
theorem dX9_done_33 : decode cX9_done 33 = .ok (.aload_n 0, 1) := by decide +kernel
theorem dX9_done_34 : decode cX9_done 34 = .ok (.getfield 33, 3) := by decide +kernel
theorem dX9_done_37 : decode cX9_done 37 = .ok (.invokevirtual 126, 3) := by decide +kernel
theorem dX9_done_40 : decode cX9_done 40 = .ok (.iload_n 2, 1) := by decide +kernel
theorem dX9_done_41 : decode cX9_done 41 = .ok (.ireturn, 1) := by decide +kernel
set_option maxRecDepth 20000 in
theorem ggX9_due_X9_isHouse : GoodIn wsX9_due wsX9_isHouse := goodIn_r _ [5] (by decide +kernel) (by decide +kernel)
set_option maxRecDepth 20000 in
theorem gX9_due_X9_isHouse : GoodIn wsX9_due (va_wsS RX9 75 yX9_isHouse wsX9_isHouse) := goodIn_app (goodIn_of _ (by decide +kernel)) ggX9_due_X9_isHouse
set_option maxRecDepth 20000 in
theorem ggX9_due_X5_dueOf : GoodIn wsX9_due wsX5_dueOf := goodIn_r _ [9, 10, 21, 22, 23, 24, 25, 26] (by decide +kernel) (by decide +kernel)
set_option maxRecDepth 20000 in
theorem gX9_due_X5_dueOf_n177 : GoodIn wsX9_due (wsX5_dueOf) := ggX9_due_X5_dueOf
theorem dX9_due_0 : decode cX9_due 0 = .ok (.iload_n 1, 1) := by decide +kernel
theorem dX9_due_1 : decode cX9_due 1 = .ok (.invokestatic 75, 3) := by decide +kernel
theorem dX9_due_4 : decode cX9_due 4 = .ok (.ifCond .ne 5, 3) := by decide +kernel
theorem dX9_due_7 : decode cX9_due 7 = .ok (.iconst (-1), 1) := by decide +kernel
theorem dX9_due_8 : decode cX9_due 8 = .ok (.ireturn, 1) := by decide +kernel
theorem dX9_due_9 : decode cX9_due 9 = .ok (.aload_n 0, 1) := by decide +kernel
theorem dX9_due_10 : decode cX9_due 10 = .ok (.getfield 10, 3) := by decide +kernel
theorem dX9_due_13 : decode cX9_due 13 = .ok (.iload_n 1, 1) := by decide +kernel
theorem dX9_due_14 : decode cX9_due 14 = .ok (.invokevirtual 177, 3) := by decide +kernel
theorem dX9_due_17 : decode cX9_due 17 = .ok (.sipush 10000, 3) := by decide +kernel
theorem dX9_due_20 : decode cX9_due 20 = .ok (.iadd, 1) := by decide +kernel
theorem dX9_due_21 : decode cX9_due 21 = .ok (.ireturn, 1) := by decide +kernel
set_option maxRecDepth 20000 in
theorem ggX9_even_X9_within : GoodIn wsX9_even wsX9_within := goodIn_r _ [6] (by decide +kernel) (by decide +kernel)
set_option maxRecDepth 20000 in
theorem gX9_even_X9_within : GoodIn wsX9_even (va_wsS RX9 79 yX9_within wsX9_within) := goodIn_app (goodIn_of _ (by decide +kernel)) ggX9_even_X9_within
set_option maxRecDepth 20000 in
theorem ggX9_even_X0_work : GoodIn wsX9_even wsX0_work := goodIn_r _ [10, 11, 12, 13, 14, 15, 16, 17, 18, 19, 20, 21, 8, 22, 23, 24, 25, 26, 51, 52, 53, 54, 55, 56, 57, 58, 59] (by decide +kernel) (by decide +kernel)
set_option maxRecDepth 20000 in
theorem gX9_even_X0_work_n180 : GoodIn wsX9_even (wsX0_work) := ggX9_even_X0_work
set_option maxRecDepth 20000 in
theorem ggX9_even_X0_payments : GoodIn wsX9_even wsX0_payments := goodIn_r _ [29, 11, 30, 31, 32, 33, 34, 35, 36, 37, 38, 39, 8, 40, 13, 51, 52, 53] (by decide +kernel) (by decide +kernel)
set_option maxRecDepth 20000 in
theorem gX9_even_X0_payments_n183 : GoodIn wsX9_even (wsX0_payments) := ggX9_even_X0_payments
set_option maxRecDepth 20000 in
theorem ggX9_even_X0_groups : GoodIn wsX9_even wsX0_groups := goodIn_r _ [40, 13, 11, 51, 52, 53] (by decide +kernel) (by decide +kernel)
set_option maxRecDepth 20000 in
theorem gX9_even_X0_groups_n186 : GoodIn wsX9_even (wsX0_groups) := ggX9_even_X0_groups
theorem dX9_even_0 : decode cX9_even 0 = .ok (.iload_n 1, 1) := by decide +kernel
theorem dX9_even_1 : decode cX9_even 1 = .ok (.iconst 0, 1) := by decide +kernel
theorem dX9_even_2 : decode cX9_even 2 = .ok (.iconst 1, 1) := by decide +kernel
theorem dX9_even_3 : decode cX9_even 3 = .ok (.invokestatic 79, 3) := by decide +kernel
theorem dX9_even_6 : decode cX9_even 6 = .ok (.ifCond .ne 6, 3) := by decide +kernel
theorem dX9_even_9 : decode cX9_even 9 = .ok (.bipush (-2), 2) := by decide +kernel
theorem dX9_even_11 : decode cX9_even 11 = .ok (.ireturn, 1) := by decide +kernel
theorem dX9_even_12 : decode cX9_even 12 = .ok (.aload_n 0, 1) := by decide +kernel
theorem dX9_even_13 : decode cX9_even 13 = .ok (.getfield 47, 3) := by decide +kernel
theorem dX9_even_16 : decode cX9_even 16 = .ok (.aload_n 0, 1) := by decide +kernel
theorem dX9_even_17 : decode cX9_even 17 = .ok (.getfield 10, 3) := by decide +kernel
theorem dX9_even_20 : decode cX9_even 20 = .ok (.invokevirtual 180, 3) := by decide +kernel
theorem dX9_even_23 : decode cX9_even 23 = .ok (.iload_n 1, 1) := by decide +kernel
theorem dX9_even_24 : decode cX9_even 24 = .ok (.ifCond .ne 13, 3) := by decide +kernel
theorem dX9_even_27 : decode cX9_even 27 = .ok (.aload_n 0, 1) := by decide +kernel
theorem dX9_even_28 : decode cX9_even 28 = .ok (.getfield 47, 3) := by decide +kernel
theorem dX9_even_31 : decode cX9_even 31 = .ok (.invokevirtual 183, 3) := by decide +kernel
theorem dX9_even_34 : decode cX9_even 34 = .ok (.goto 10, 3) := by decide +kernel
theorem dX9_even_37 : decode cX9_even 37 = .ok (.aload_n 0, 1) := by decide +kernel
theorem dX9_even_38 : decode cX9_even 38 = .ok (.getfield 47, 3) := by decide +kernel
theorem dX9_even_41 : decode cX9_even 41 = .ok (.invokevirtual 186, 3) := by decide +kernel
theorem dX9_even_44 : decode cX9_even 44 = .ok (.ireturn, 1) := by decide +kernel
set_option maxRecDepth 20000 in
theorem ggX9_orders_X9_within : GoodIn wsX9_orders wsX9_within := goodIn_r _ [6] (by decide +kernel) (by decide +kernel)
set_option maxRecDepth 20000 in
theorem gX9_orders_X9_within : GoodIn wsX9_orders (va_wsS RX9 79 yX9_within wsX9_within) := goodIn_app (goodIn_of _ (by decide +kernel)) ggX9_orders_X9_within
set_option maxRecDepth 20000 in
theorem ggX9_orders_X6_work : GoodIn wsX9_orders wsX6_work := goodIn_r _ [10, 11, 12, 13, 14, 8, 15, 36, 37] (by decide +kernel) (by decide +kernel)
set_option maxRecDepth 20000 in
theorem gX9_orders_X6_work_n189 : GoodIn wsX9_orders (wsX6_work) := ggX9_orders_X6_work
set_option maxRecDepth 20000 in
theorem ggX9_orders_X6_howMany : GoodIn wsX9_orders wsX6_howMany := goodIn_r _ [18, 12, 13, 14, 8, 15, 11, 36] (by decide +kernel) (by decide +kernel)
set_option maxRecDepth 20000 in
theorem gX9_orders_X6_howMany_n192 : GoodIn wsX9_orders (wsX6_howMany) := ggX9_orders_X6_howMany
set_option maxRecDepth 20000 in
theorem ggX9_orders_X6_least : GoodIn wsX9_orders wsX6_least := goodIn_r _ [21, 22, 23, 24, 8, 25, 11, 37, 36] (by decide +kernel) (by decide +kernel)
set_option maxRecDepth 20000 in
theorem gX9_orders_X6_least_n195 : GoodIn wsX9_orders (wsX6_least) := ggX9_orders_X6_least
theorem dX9_orders_0 : decode cX9_orders 0 = .ok (.iload_n 1, 1) := by decide +kernel
theorem dX9_orders_1 : decode cX9_orders 1 = .ok (.iconst 0, 1) := by decide +kernel
theorem dX9_orders_2 : decode cX9_orders 2 = .ok (.iconst 1, 1) := by decide +kernel
theorem dX9_orders_3 : decode cX9_orders 3 = .ok (.invokestatic 79, 3) := by decide +kernel
theorem dX9_orders_6 : decode cX9_orders 6 = .ok (.ifCond .ne 6, 3) := by decide +kernel
theorem dX9_orders_9 : decode cX9_orders 9 = .ok (.bipush (-2), 2) := by decide +kernel
theorem dX9_orders_11 : decode cX9_orders 11 = .ok (.ireturn, 1) := by decide +kernel
theorem dX9_orders_12 : decode cX9_orders 12 = .ok (.aload_n 0, 1) := by decide +kernel
theorem dX9_orders_13 : decode cX9_orders 13 = .ok (.getfield 54, 3) := by decide +kernel
theorem dX9_orders_16 : decode cX9_orders 16 = .ok (.aload_n 0, 1) := by decide +kernel
theorem dX9_orders_17 : decode cX9_orders 17 = .ok (.getfield 19, 3) := by decide +kernel
theorem dX9_orders_20 : decode cX9_orders 20 = .ok (.invokevirtual 189, 3) := by decide +kernel
theorem dX9_orders_23 : decode cX9_orders 23 = .ok (.iload_n 1, 1) := by decide +kernel
theorem dX9_orders_24 : decode cX9_orders 24 = .ok (.ifCond .ne 13, 3) := by decide +kernel
theorem dX9_orders_27 : decode cX9_orders 27 = .ok (.aload_n 0, 1) := by decide +kernel
theorem dX9_orders_28 : decode cX9_orders 28 = .ok (.getfield 54, 3) := by decide +kernel
theorem dX9_orders_31 : decode cX9_orders 31 = .ok (.invokevirtual 192, 3) := by decide +kernel
theorem dX9_orders_34 : decode cX9_orders 34 = .ok (.goto 14, 3) := by decide +kernel
theorem dX9_orders_37 : decode cX9_orders 37 = .ok (.aload_n 0, 1) := by decide +kernel
theorem dX9_orders_38 : decode cX9_orders 38 = .ok (.getfield 54, 3) := by decide +kernel
theorem dX9_orders_41 : decode cX9_orders 41 = .ok (.aload_n 0, 1) := by decide +kernel
theorem dX9_orders_42 : decode cX9_orders 42 = .ok (.getfield 19, 3) := by decide +kernel
theorem dX9_orders_45 : decode cX9_orders 45 = .ok (.invokevirtual 195, 3) := by decide +kernel
theorem dX9_orders_48 : decode cX9_orders 48 = .ok (.ireturn, 1) := by decide +kernel
set_option maxRecDepth 20000 in
theorem ggX9_ring_X9_within : GoodIn wsX9_ring wsX9_within := goodIn_r _ [4] (by decide +kernel) (by decide +kernel)
set_option maxRecDepth 20000 in
theorem gX9_ring_X9_within : GoodIn wsX9_ring (va_wsS RX9 79 yX9_within wsX9_within) := goodIn_app (goodIn_of _ (by decide +kernel)) ggX9_ring_X9_within
set_option maxRecDepth 20000 in
theorem ggX9_ring_X9_placeOfLeaver : GoodIn wsX9_ring wsX9_placeOfLeaver := goodIn_r _ [7] (by decide +kernel) (by decide +kernel)
set_option maxRecDepth 20000 in
theorem gX9_ring_X9_placeOfLeaver : GoodIn wsX9_ring (va_wsS RX9 199 yX9_placeOfLeaver wsX9_placeOfLeaver) := goodIn_app (goodIn_of _ (by decide +kernel)) ggX9_ring_X9_placeOfLeaver
theorem dX9_ring_0 : decode cX9_ring 0 = .ok (.iload_n 1, 1) := by decide +kernel
theorem dX9_ring_1 : decode cX9_ring 1 = .ok (.iconst 1, 1) := by decide +kernel
theorem dX9_ring_2 : decode cX9_ring 2 = .ok (.sipush 999, 3) := by decide +kernel
theorem dX9_ring_5 : decode cX9_ring 5 = .ok (.invokestatic 79, 3) := by decide +kernel
theorem dX9_ring_8 : decode cX9_ring 8 = .ok (.ifCond .eq 24, 3) := by decide +kernel
theorem dX9_ring_11 : decode cX9_ring 11 = .ok (.iload_n 2, 1) := by decide +kernel
theorem dX9_ring_12 : decode cX9_ring 12 = .ok (.iconst 1, 1) := by decide +kernel
theorem dX9_ring_13 : decode cX9_ring 13 = .ok (.bipush 99, 2) := by decide +kernel
theorem dX9_ring_15 : decode cX9_ring 15 = .ok (.invokestatic 79, 3) := by decide +kernel
theorem dX9_ring_18 : decode cX9_ring 18 = .ok (.ifCond .eq 14, 3) := by decide +kernel
theorem dX9_ring_21 : decode cX9_ring 21 = .ok (.iload_n 3, 1) := by decide +kernel
theorem dX9_ring_22 : decode cX9_ring 22 = .ok (.iconst 0, 1) := by decide +kernel
theorem dX9_ring_23 : decode cX9_ring 23 = .ok (.iload_n 1, 1) := by decide +kernel
theorem dX9_ring_24 : decode cX9_ring 24 = .ok (.iconst 1, 1) := by decide +kernel
theorem dX9_ring_25 : decode cX9_ring 25 = .ok (.isub, 1) := by decide +kernel
theorem dX9_ring_26 : decode cX9_ring 26 = .ok (.invokestatic 79, 3) := by decide +kernel
theorem dX9_ring_29 : decode cX9_ring 29 = .ok (.ifCond .ne 6, 3) := by decide +kernel
theorem dX9_ring_32 : decode cX9_ring 32 = .ok (.bipush (-2), 2) := by decide +kernel
theorem dX9_ring_34 : decode cX9_ring 34 = .ok (.ireturn, 1) := by decide +kernel
theorem dX9_ring_35 : decode cX9_ring 35 = .ok (.iload_n 1, 1) := by decide +kernel
theorem dX9_ring_36 : decode cX9_ring 36 = .ok (.iload_n 3, 1) := by decide +kernel
theorem dX9_ring_37 : decode cX9_ring 37 = .ok (.isub, 1) := by decide +kernel
theorem dX9_ring_38 : decode cX9_ring 38 = .ok (.iload_n 1, 1) := by decide +kernel
theorem dX9_ring_39 : decode cX9_ring 39 = .ok (.iload_n 2, 1) := by decide +kernel
theorem dX9_ring_40 : decode cX9_ring 40 = .ok (.invokestatic 199, 3) := by decide +kernel
theorem dX9_ring_43 : decode cX9_ring 43 = .ok (.ireturn, 1) := by decide +kernel
set_option maxRecDepth 20000 in
theorem ggX9_count_X9_within : GoodIn wsX9_count wsX9_within := goodIn_r _ [5] (by decide +kernel) (by decide +kernel)
set_option maxRecDepth 20000 in
theorem gX9_count_X9_within : GoodIn wsX9_count (va_wsS RX9 79 yX9_within wsX9_within) := goodIn_app (goodIn_of _ (by decide +kernel)) ggX9_count_X9_within
set_option maxRecDepth 20000 in
theorem ggX9_count_X7_add : GoodIn wsX9_count wsX7_add := goodIn_r _ [9, 10, 11, 12, 23, 24, 25] (by decide +kernel) (by decide +kernel)
set_option maxRecDepth 20000 in
theorem gX9_count_X7_add_n206 : GoodIn wsX9_count (wsX7_add) := ggX9_count_X7_add
theorem dX9_count_0 : decode cX9_count 0 = .ok (.iload_n 1, 1) := by decide +kernel
theorem dX9_count_1 : decode cX9_count 1 = .ok (.iconst 0, 1) := by decide +kernel
theorem dX9_count_2 : decode cX9_count 2 = .ok (.sipush 255, 3) := by decide +kernel
theorem dX9_count_5 : decode cX9_count 5 = .ok (.invokestatic 79, 3) := by decide +kernel
theorem dX9_count_8 : decode cX9_count 8 = .ok (.ifCond .eq 13, 3) := by decide +kernel
theorem dX9_count_11 : decode cX9_count 11 = .ok (.iload_n 2, 1) := by decide +kernel
theorem dX9_count_12 : decode cX9_count 12 = .ok (.iconst 0, 1) := by decide +kernel
theorem dX9_count_13 : decode cX9_count 13 = .ok (.bipush 8, 2) := by decide +kernel
theorem dX9_count_15 : decode cX9_count 15 = .ok (.invokestatic 79, 3) := by decide +kernel
theorem dX9_count_18 : decode cX9_count 18 = .ok (.ifCond .ne 6, 3) := by decide +kernel
theorem dX9_count_21 : decode cX9_count 21 = .ok (.bipush (-2), 2) := by decide +kernel
theorem dX9_count_23 : decode cX9_count 23 = .ok (.ireturn, 1) := by decide +kernel
theorem dX9_count_24 : decode cX9_count 24 = .ok (.aload_n 0, 1) := by decide +kernel
theorem dX9_count_25 : decode cX9_count 25 = .ok (.getfield 26, 3) := by decide +kernel
theorem dX9_count_28 : decode cX9_count 28 = .ok (.getfield 203, 3) := by decide +kernel
theorem dX9_count_31 : decode cX9_count 31 = .ok (.bipush 8, 2) := by decide +kernel
theorem dX9_count_33 : decode cX9_count 33 = .ok (.if_icmp .lt 6, 3) := by decide +kernel
theorem dX9_count_36 : decode cX9_count 36 = .ok (.bipush (-4), 2) := by decide +kernel
theorem dX9_count_38 : decode cX9_count 38 = .ok (.ireturn, 1) := by decide +kernel
theorem dX9_count_39 : decode cX9_count 39 = .ok (.aload_n 0, 1) := by decide +kernel
theorem dX9_count_40 : decode cX9_count 40 = .ok (.getfield 26, 3) := by decide +kernel
theorem dX9_count_43 : decode cX9_count 43 = .ok (.iload_n 1, 1) := by decide +kernel
theorem dX9_count_44 : decode cX9_count 44 = .ok (.iload_n 2, 1) := by decide +kernel
theorem dX9_count_45 : decode cX9_count 45 = .ok (.invokevirtual 206, 3) := by decide +kernel
theorem dX9_count_48 : decode cX9_count 48 = .ok (.aload_n 0, 1) := by decide +kernel
theorem dX9_count_49 : decode cX9_count 49 = .ok (.getfield 26, 3) := by decide +kernel
theorem dX9_count_52 : decode cX9_count 52 = .ok (.getfield 203, 3) := by decide +kernel
theorem dX9_count_55 : decode cX9_count 55 = .ok (.ireturn, 1) := by decide +kernel
theorem dX9_forget_0 : decode cX9_forget 0 = .ok (.aload_n 0, 1) := by decide +kernel
theorem dX9_forget_1 : decode cX9_forget 1 = .ok (.getfield 26, 3) := by decide +kernel
theorem dX9_forget_4 : decode cX9_forget 4 = .ok (.getfield 203, 3) := by decide +kernel
theorem dX9_forget_7 : decode cX9_forget 7 = .ok (.istore_n 1, 1) := by decide +kernel
theorem dX9_forget_8 : decode cX9_forget 8 = .ok (.aload_n 0, 1) := by decide +kernel
theorem dX9_forget_9 : decode cX9_forget 9 = .ok (.getfield 26, 3) := by decide +kernel
theorem dX9_forget_12 : decode cX9_forget 12 = .ok (.iconst 0, 1) := by decide +kernel
theorem dX9_forget_13 : decode cX9_forget 13 = .ok (.putfield 203, 3) := by decide +kernel
theorem dX9_forget_16 : decode cX9_forget 16 = .ok (.iload_n 1, 1) := by decide +kernel
theorem dX9_forget_17 : decode cX9_forget 17 = .ok (.ireturn, 1) := by decide +kernel
set_option maxRecDepth 20000 in
theorem ggX9_ever_X1_findFitting : GoodIn wsX9_ever wsX1_findFitting := goodIn_r _ [6, 7, 8, 9, 10, 11, 12, 13, 14, 15, 16, 17, 18, 19, 20, 21, 22, 37, 38, 39, 40, 41, 42, 43, 44] (by decide +kernel) (by decide +kernel)
set_option maxRecDepth 20000 in
theorem gX9_ever_X1_findFitting_n210 : GoodIn wsX9_ever (wsX1_findFitting) := ggX9_ever_X1_findFitting
set_option maxRecDepth 20000 in
theorem ggX9_ever_X9_within : GoodIn wsX9_ever wsX9_within := goodIn_r _ [26] (by decide +kernel) (by decide +kernel)
set_option maxRecDepth 20000 in
theorem gX9_ever_X9_within : GoodIn wsX9_ever (va_wsS RX9 79 yX9_within wsX9_within) := goodIn_app (goodIn_of _ (by decide +kernel)) ggX9_ever_X9_within
theorem dX9_ever_0 : decode cX9_ever 0 = .ok (.aload_n 0, 1) := by decide +kernel
theorem dX9_ever_1 : decode cX9_ever 1 = .ok (.getfield 61, 3) := by decide +kernel
theorem dX9_ever_4 : decode cX9_ever 4 = .ok (.aload_n 0, 1) := by decide +kernel
theorem dX9_ever_5 : decode cX9_ever 5 = .ok (.getfield 26, 3) := by decide +kernel
theorem dX9_ever_8 : decode cX9_ever 8 = .ok (.invokevirtual 210, 3) := by decide +kernel
theorem dX9_ever_11 : decode cX9_ever 11 = .ok (.iload_n 1, 1) := by decide +kernel
theorem dX9_ever_12 : decode cX9_ever 12 = .ok (.iconst (-1), 1) := by decide +kernel
theorem dX9_ever_13 : decode cX9_ever 13 = .ok (.if_icmp .ne 11, 3) := by decide +kernel
theorem dX9_ever_16 : decode cX9_ever 16 = .ok (.aload_n 0, 1) := by decide +kernel
theorem dX9_ever_17 : decode cX9_ever 17 = .ok (.getfield 61, 3) := by decide +kernel
theorem dX9_ever_20 : decode cX9_ever 20 = .ok (.getfield 214, 3) := by decide +kernel
theorem dX9_ever_23 : decode cX9_ever 23 = .ok (.ireturn, 1) := by decide +kernel
theorem dX9_ever_24 : decode cX9_ever 24 = .ok (.iload_n 1, 1) := by decide +kernel
theorem dX9_ever_25 : decode cX9_ever 25 = .ok (.iconst 0, 1) := by decide +kernel
theorem dX9_ever_26 : decode cX9_ever 26 = .ok (.aload_n 0, 1) := by decide +kernel
theorem dX9_ever_27 : decode cX9_ever 27 = .ok (.getfield 61, 3) := by decide +kernel
theorem dX9_ever_30 : decode cX9_ever 30 = .ok (.getfield 214, 3) := by decide +kernel
theorem dX9_ever_33 : decode cX9_ever 33 = .ok (.iconst 1, 1) := by decide +kernel
theorem dX9_ever_34 : decode cX9_ever 34 = .ok (.isub, 1) := by decide +kernel
theorem dX9_ever_35 : decode cX9_ever 35 = .ok (.invokestatic 79, 3) := by decide +kernel
theorem dX9_ever_38 : decode cX9_ever 38 = .ok (.ifCond .eq 15, 3) := by decide +kernel
theorem dX9_ever_41 : decode cX9_ever 41 = .ok (.aload_n 0, 1) := by decide +kernel
theorem dX9_ever_42 : decode cX9_ever 42 = .ok (.getfield 61, 3) := by decide +kernel
theorem dX9_ever_45 : decode cX9_ever 45 = .ok (.getfield 215, 3) := by decide +kernel
theorem dX9_ever_48 : decode cX9_ever 48 = .ok (.iload_n 1, 1) := by decide +kernel
theorem dX9_ever_49 : decode cX9_ever 49 = .ok (.iaload, 1) := by decide +kernel
theorem dX9_ever_50 : decode cX9_ever 50 = .ok (.goto 5, 3) := by decide +kernel
theorem dX9_ever_53 : decode cX9_ever 53 = .ok (.bipush (-6), 2) := by decide +kernel
theorem dX9_ever_55 : decode cX9_ever 55 = .ok (.ireturn, 1) := by decide +kernel
set_option maxRecDepth 20000 in
theorem ggX9_ask_X9_within : GoodIn wsX9_ask wsX9_within := goodIn_r _ [6] (by decide +kernel) (by decide +kernel)
set_option maxRecDepth 20000 in
theorem gX9_ask_X9_within : GoodIn wsX9_ask (va_wsS RX9 79 yX9_within wsX9_within) := goodIn_app (goodIn_of _ (by decide +kernel)) ggX9_ask_X9_within
set_option maxRecDepth 20000 in
theorem ggX9_ask_X1_findFitting : GoodIn wsX9_ask wsX1_findFitting := goodIn_r _ [10, 11, 12, 13, 14, 15, 16, 17, 18, 19, 20, 21, 22, 23, 24, 25, 26, 52, 53, 54, 55, 56, 57, 58, 59] (by decide +kernel) (by decide +kernel)
set_option maxRecDepth 20000 in
theorem gX9_ask_X1_findFitting_n210 : GoodIn wsX9_ask (wsX1_findFitting) := ggX9_ask_X1_findFitting
set_option maxRecDepth 20000 in
theorem ggX9_ask_X1_findQuestion : GoodIn wsX9_ask wsX1_findQuestion := goodIn_r _ [29, 30, 31, 11, 32, 33, 34, 8, 35, 36, 12, 37, 38, 39, 40, 41, 21, 22, 23, 24, 25, 26, 52, 53, 54, 55, 56] (by decide +kernel) (by decide +kernel)
set_option maxRecDepth 20000 in
theorem gX9_ask_X1_findQuestion_n218 : GoodIn wsX9_ask (wsX1_findQuestion) := ggX9_ask_X1_findQuestion
theorem dX9_ask_0 : decode cX9_ask 0 = .ok (.iload_n 1, 1) := by decide +kernel
theorem dX9_ask_1 : decode cX9_ask 1 = .ok (.iconst 0, 1) := by decide +kernel
theorem dX9_ask_2 : decode cX9_ask 2 = .ok (.iconst 1, 1) := by decide +kernel
theorem dX9_ask_3 : decode cX9_ask 3 = .ok (.invokestatic 79, 3) := by decide +kernel
theorem dX9_ask_6 : decode cX9_ask 6 = .ok (.ifCond .ne 6, 3) := by decide +kernel
theorem dX9_ask_9 : decode cX9_ask 9 = .ok (.bipush (-2), 2) := by decide +kernel
theorem dX9_ask_11 : decode cX9_ask 11 = .ok (.ireturn, 1) := by decide +kernel
theorem dX9_ask_12 : decode cX9_ask 12 = .ok (.aload_n 0, 1) := by decide +kernel
theorem dX9_ask_13 : decode cX9_ask 13 = .ok (.getfield 61, 3) := by decide +kernel
theorem dX9_ask_16 : decode cX9_ask 16 = .ok (.aload_n 0, 1) := by decide +kernel
theorem dX9_ask_17 : decode cX9_ask 17 = .ok (.getfield 26, 3) := by decide +kernel
theorem dX9_ask_20 : decode cX9_ask 20 = .ok (.invokevirtual 210, 3) := by decide +kernel
theorem dX9_ask_23 : decode cX9_ask 23 = .ok (.aload_n 0, 1) := by decide +kernel
theorem dX9_ask_24 : decode cX9_ask 24 = .ok (.getfield 61, 3) := by decide +kernel
theorem dX9_ask_27 : decode cX9_ask 27 = .ok (.invokevirtual 218, 3) := by decide +kernel
theorem dX9_ask_30 : decode cX9_ask 30 = .ok (.iload_n 1, 1) := by decide +kernel
theorem dX9_ask_31 : decode cX9_ask 31 = .ok (.ifCond .ne 13, 3) := by decide +kernel
theorem dX9_ask_34 : decode cX9_ask 34 = .ok (.aload_n 0, 1) := by decide +kernel
theorem dX9_ask_35 : decode cX9_ask 35 = .ok (.getfield 61, 3) := by decide +kernel
theorem dX9_ask_38 : decode cX9_ask 38 = .ok (.getfield 221, 3) := by decide +kernel
theorem dX9_ask_41 : decode cX9_ask 41 = .ok (.goto 10, 3) := by decide +kernel
theorem dX9_ask_44 : decode cX9_ask 44 = .ok (.aload_n 0, 1) := by decide +kernel
theorem dX9_ask_45 : decode cX9_ask 45 = .ok (.getfield 61, 3) := by decide +kernel
theorem dX9_ask_48 : decode cX9_ask 48 = .ok (.getfield 224, 3) := by decide +kernel
theorem dX9_ask_51 : decode cX9_ask 51 = .ok (.ireturn, 1) := by decide +kernel
set_option maxRecDepth 20000 in
theorem ggX9_crumbs_X9_within : GoodIn wsX9_crumbs wsX9_within := goodIn_r _ [11] (by decide +kernel) (by decide +kernel)
set_option maxRecDepth 20000 in
theorem gX9_crumbs_X9_within : GoodIn wsX9_crumbs (va_wsS RX9 79 yX9_within wsX9_within) := goodIn_app (goodIn_of _ (by decide +kernel)) ggX9_crumbs_X9_within
set_option maxRecDepth 20000 in
theorem ggX9_crumbs_X9_canWin : GoodIn wsX9_crumbs wsX9_canWin := goodIn_r _ [14, 1, 2, 3, 4, 5, 6, 7] (by decide +kernel) (by decide +kernel)
set_option maxRecDepth 20000 in
theorem gX9_crumbs_X9_canWin : GoodIn wsX9_crumbs (va_wsS RX9 227 yX9_canWin wsX9_canWin) := goodIn_app (goodIn_of _ (by decide +kernel)) ggX9_crumbs_X9_canWin
set_option maxRecDepth 20000 in
theorem ggX9_crumbs_X9_winningTimes : GoodIn wsX9_crumbs wsX9_winningTimes := goodIn_r _ [17, 12, 13, 10, 14, 1, 2, 3, 4, 5, 6, 7] (by decide +kernel) (by decide +kernel)
set_option maxRecDepth 20000 in
theorem gX9_crumbs_X9_winningTimes : GoodIn wsX9_crumbs (va_wsS RX9 239 yX9_winningTimes wsX9_winningTimes) := goodIn_app (goodIn_of _ (by decide +kernel)) ggX9_crumbs_X9_winningTimes
theorem dX9_crumbs_0 : decode cX9_crumbs 0 = .ok (.iload_n 1, 1) := by decide +kernel
theorem dX9_crumbs_1 : decode cX9_crumbs 1 = .ok (.iconst 0, 1) := by decide +kernel
theorem dX9_crumbs_2 : decode cX9_crumbs 2 = .ok (.sipush 999, 3) := by decide +kernel
theorem dX9_crumbs_5 : decode cX9_crumbs 5 = .ok (.invokestatic 79, 3) := by decide +kernel
theorem dX9_crumbs_8 : decode cX9_crumbs 8 = .ok (.ifCond .eq 23, 3) := by decide +kernel
theorem dX9_crumbs_11 : decode cX9_crumbs 11 = .ok (.iload_n 2, 1) := by decide +kernel
theorem dX9_crumbs_12 : decode cX9_crumbs 12 = .ok (.iconst 0, 1) := by decide +kernel
theorem dX9_crumbs_13 : decode cX9_crumbs 13 = .ok (.sipush 999, 3) := by decide +kernel
theorem dX9_crumbs_16 : decode cX9_crumbs 16 = .ok (.invokestatic 79, 3) := by decide +kernel
theorem dX9_crumbs_19 : decode cX9_crumbs 19 = .ok (.ifCond .eq 12, 3) := by decide +kernel
theorem dX9_crumbs_22 : decode cX9_crumbs 22 = .ok (.iload_n 3, 1) := by decide +kernel
theorem dX9_crumbs_23 : decode cX9_crumbs 23 = .ok (.iconst 0, 1) := by decide +kernel
theorem dX9_crumbs_24 : decode cX9_crumbs 24 = .ok (.iconst 1, 1) := by decide +kernel
theorem dX9_crumbs_25 : decode cX9_crumbs 25 = .ok (.invokestatic 79, 3) := by decide +kernel
theorem dX9_crumbs_28 : decode cX9_crumbs 28 = .ok (.ifCond .ne 6, 3) := by decide +kernel
theorem dX9_crumbs_31 : decode cX9_crumbs 31 = .ok (.bipush (-2), 2) := by decide +kernel
theorem dX9_crumbs_33 : decode cX9_crumbs 33 = .ok (.ireturn, 1) := by decide +kernel
theorem dX9_crumbs_34 : decode cX9_crumbs 34 = .ok (.iload_n 3, 1) := by decide +kernel
theorem dX9_crumbs_35 : decode cX9_crumbs 35 = .ok (.ifCond .ne 17, 3) := by decide +kernel
theorem dX9_crumbs_38 : decode cX9_crumbs 38 = .ok (.iload_n 1, 1) := by decide +kernel
theorem dX9_crumbs_39 : decode cX9_crumbs 39 = .ok (.iload_n 2, 1) := by decide +kernel
theorem dX9_crumbs_40 : decode cX9_crumbs 40 = .ok (.invokestatic 227, 3) := by decide +kernel
theorem dX9_crumbs_43 : decode cX9_crumbs 43 = .ok (.ifCond .eq 7, 3) := by decide +kernel
theorem dX9_crumbs_46 : decode cX9_crumbs 46 = .ok (.iconst 1, 1) := by decide +kernel
theorem dX9_crumbs_47 : decode cX9_crumbs 47 = .ok (.goto 4, 3) := by decide +kernel
theorem dX9_crumbs_50 : decode cX9_crumbs 50 = .ok (.iconst 0, 1) := by decide +kernel
theorem dX9_crumbs_51 : decode cX9_crumbs 51 = .ok (.ireturn, 1) := by decide +kernel
theorem dX9_crumbs_52 : decode cX9_crumbs 52 = .ok (.iload_n 1, 1) := by decide +kernel
theorem dX9_crumbs_53 : decode cX9_crumbs 53 = .ok (.iload_n 2, 1) := by decide +kernel
theorem dX9_crumbs_54 : decode cX9_crumbs 54 = .ok (.invokestatic 230, 3) := by decide +kernel
theorem dX9_crumbs_57 : decode cX9_crumbs 57 = .ok (.iload_n 1, 1) := by decide +kernel
theorem dX9_crumbs_58 : decode cX9_crumbs 58 = .ok (.iload_n 2, 1) := by decide +kernel
theorem dX9_crumbs_59 : decode cX9_crumbs 59 = .ok (.invokestatic 236, 3) := by decide +kernel
theorem dX9_crumbs_62 : decode cX9_crumbs 62 = .ok (.invokestatic 239, 3) := by decide +kernel
theorem dX9_crumbs_65 : decode cX9_crumbs 65 = .ok (.ireturn, 1) := by decide +kernel
set_option maxRecDepth 20000 in
theorem ggX9_lots_X9_within : GoodIn wsX9_lots wsX9_within := goodIn_r _ [6] (by decide +kernel) (by decide +kernel)
set_option maxRecDepth 20000 in
theorem gX9_lots_X9_within : GoodIn wsX9_lots (va_wsS RX9 79 yX9_within wsX9_within) := goodIn_app (goodIn_of _ (by decide +kernel)) ggX9_lots_X9_within
set_option maxRecDepth 20000 in
theorem ggX9_lots_X9_waysToDraw : GoodIn wsX9_lots wsX9_waysToDraw := goodIn_r _ [9, 2, 10, 3, 4, 5, 6] (by decide +kernel) (by decide +kernel)
set_option maxRecDepth 20000 in
theorem gX9_lots_X9_waysToDraw : GoodIn wsX9_lots (va_wsS RX9 244 yX9_waysToDraw wsX9_waysToDraw) := goodIn_app (goodIn_of _ (by decide +kernel)) ggX9_lots_X9_waysToDraw
set_option maxRecDepth 20000 in
theorem ggX9_lots_X9_commonDivisor : GoodIn wsX9_lots wsX9_commonDivisor := goodIn_r _ [13] (by decide +kernel) (by decide +kernel)
set_option maxRecDepth 20000 in
theorem gX9_lots_X9_commonDivisor : GoodIn wsX9_lots (va_wsS RX9 252 yX9_commonDivisor wsX9_commonDivisor) := goodIn_app (goodIn_of _ (by decide +kernel)) ggX9_lots_X9_commonDivisor
theorem dX9_lots_0 : decode cX9_lots 0 = .ok (.iload_n 1, 1) := by decide +kernel
theorem dX9_lots_1 : decode cX9_lots 1 = .ok (.iconst 0, 1) := by decide +kernel
theorem dX9_lots_2 : decode cX9_lots 2 = .ok (.bipush 12, 2) := by decide +kernel
theorem dX9_lots_4 : decode cX9_lots 4 = .ok (.invokestatic 79, 3) := by decide +kernel
theorem dX9_lots_7 : decode cX9_lots 7 = .ok (.ifCond .eq 31, 3) := by decide +kernel
theorem dX9_lots_10 : decode cX9_lots 10 = .ok (.iload_n 2, 1) := by decide +kernel
theorem dX9_lots_11 : decode cX9_lots 11 = .ok (.iconst 0, 1) := by decide +kernel
theorem dX9_lots_12 : decode cX9_lots 12 = .ok (.iload_n 1, 1) := by decide +kernel
theorem dX9_lots_13 : decode cX9_lots 13 = .ok (.invokestatic 79, 3) := by decide +kernel
theorem dX9_lots_16 : decode cX9_lots 16 = .ok (.ifCond .eq 22, 3) := by decide +kernel
theorem dX9_lots_19 : decode cX9_lots 19 = .ok (.iload_n 3, 1) := by decide +kernel
theorem dX9_lots_20 : decode cX9_lots 20 = .ok (.iconst 0, 1) := by decide +kernel
theorem dX9_lots_21 : decode cX9_lots 21 = .ok (.iconst 1, 1) := by decide +kernel
theorem dX9_lots_22 : decode cX9_lots 22 = .ok (.invokestatic 79, 3) := by decide +kernel
theorem dX9_lots_25 : decode cX9_lots 25 = .ok (.ifCond .eq 13, 3) := by decide +kernel
theorem dX9_lots_28 : decode cX9_lots 28 = .ok (.iload 4, 2) := by decide +kernel
theorem dX9_lots_30 : decode cX9_lots 30 = .ok (.iconst 0, 1) := by decide +kernel
theorem dX9_lots_31 : decode cX9_lots 31 = .ok (.iconst 1, 1) := by decide +kernel
theorem dX9_lots_32 : decode cX9_lots 32 = .ok (.invokestatic 79, 3) := by decide +kernel
theorem dX9_lots_35 : decode cX9_lots 35 = .ok (.ifCond .ne 7, 3) := by decide +kernel
theorem dX9_lots_38 : decode cX9_lots 38 = .ok (.ldc2_w 242, 3) := by decide +kernel
theorem dX9_lots_41 : decode cX9_lots 41 = .ok (.lreturn, 1) := by decide +kernel
theorem dX9_lots_42 : decode cX9_lots 42 = .ok (.lconst 0, 1) := by decide +kernel
theorem dX9_lots_43 : decode cX9_lots 43 = .ok (.lstore 5, 2) := by decide +kernel
theorem dX9_lots_45 : decode cX9_lots 45 = .ok (.iload_n 3, 1) := by decide +kernel
theorem dX9_lots_46 : decode cX9_lots 46 = .ok (.ifCond .ne 7, 3) := by decide +kernel
theorem dX9_lots_49 : decode cX9_lots 49 = .ok (.iload_n 2, 1) := by decide +kernel
theorem dX9_lots_50 : decode cX9_lots 50 = .ok (.goto 4, 3) := by decide +kernel
theorem dX9_lots_53 : decode cX9_lots 53 = .ok (.iload_n 1, 1) := by decide +kernel
theorem dX9_lots_54 : decode cX9_lots 54 = .ok (.istore 7, 2) := by decide +kernel
theorem dX9_lots_56 : decode cX9_lots 56 = .ok (.iload_n 2, 1) := by decide +kernel
theorem dX9_lots_57 : decode cX9_lots 57 = .ok (.istore 8, 2) := by decide +kernel
theorem dX9_lots_59 : decode cX9_lots 59 = .ok (.iload 8, 2) := by decide +kernel
theorem dX9_lots_61 : decode cX9_lots 61 = .ok (.iload 7, 2) := by decide +kernel
theorem dX9_lots_63 : decode cX9_lots 63 = .ok (.if_icmp .gt 20, 3) := by decide +kernel
theorem dX9_lots_66 : decode cX9_lots 66 = .ok (.lload 5, 2) := by decide +kernel
theorem dX9_lots_68 : decode cX9_lots 68 = .ok (.iload_n 1, 1) := by decide +kernel
theorem dX9_lots_69 : decode cX9_lots 69 = .ok (.iload 8, 2) := by decide +kernel
theorem dX9_lots_71 : decode cX9_lots 71 = .ok (.invokestatic 244, 3) := by decide +kernel
theorem dX9_lots_74 : decode cX9_lots 74 = .ok (.ladd, 1) := by decide +kernel
theorem dX9_lots_75 : decode cX9_lots 75 = .ok (.lstore 5, 2) := by decide +kernel
theorem dX9_lots_77 : decode cX9_lots 77 = .ok (.iinc 8 1, 3) := by decide +kernel
theorem dX9_lots_80 : decode cX9_lots 80 = .ok (.goto (-21), 3) := by decide +kernel
theorem dX9_lots_83 : decode cX9_lots 83 = .ok (.getstatic 248, 3) := by decide +kernel
theorem dX9_lots_86 : decode cX9_lots 86 = .ok (.iload_n 1, 1) := by decide +kernel
theorem dX9_lots_87 : decode cX9_lots 87 = .ok (.laload, 1) := by decide +kernel
theorem dX9_lots_88 : decode cX9_lots 88 = .ok (.lstore 8, 2) := by decide +kernel
theorem dX9_lots_90 : decode cX9_lots 90 = .ok (.lload 8, 2) := by decide +kernel
theorem dX9_lots_92 : decode cX9_lots 92 = .ok (.lload 5, 2) := by decide +kernel
theorem dX9_lots_94 : decode cX9_lots 94 = .ok (.invokestatic 252, 3) := by decide +kernel
theorem dX9_lots_97 : decode cX9_lots 97 = .ok (.lstore 10, 2) := by decide +kernel
theorem dX9_lots_99 : decode cX9_lots 99 = .ok (.lload 10, 2) := by decide +kernel
theorem dX9_lots_101 : decode cX9_lots 101 = .ok (.lconst 0, 1) := by decide +kernel
theorem dX9_lots_102 : decode cX9_lots 102 = .ok (.lcmp, 1) := by decide +kernel
theorem dX9_lots_103 : decode cX9_lots 103 = .ok (.ifCond .gt 6, 3) := by decide +kernel
theorem dX9_lots_106 : decode cX9_lots 106 = .ok (.lconst 1, 1) := by decide +kernel
theorem dX9_lots_107 : decode cX9_lots 107 = .ok (.lstore 10, 2) := by decide +kernel
theorem dX9_lots_109 : decode cX9_lots 109 = .ok (.iload 4, 2) := by decide +kernel
theorem dX9_lots_111 : decode cX9_lots 111 = .ok (.ifCond .ne 11, 3) := by decide +kernel
theorem dX9_lots_114 : decode cX9_lots 114 = .ok (.lload 5, 2) := by decide +kernel
theorem dX9_lots_116 : decode cX9_lots 116 = .ok (.lload 10, 2) := by decide +kernel
theorem dX9_lots_118 : decode cX9_lots 118 = .ok (.ldiv, 1) := by decide +kernel
theorem dX9_lots_119 : decode cX9_lots 119 = .ok (.goto 8, 3) := by decide +kernel
theorem dX9_lots_122 : decode cX9_lots 122 = .ok (.lload 8, 2) := by decide +kernel
theorem dX9_lots_124 : decode cX9_lots 124 = .ok (.lload 10, 2) := by decide +kernel
theorem dX9_lots_126 : decode cX9_lots 126 = .ok (.ldiv, 1) := by decide +kernel
theorem dX9_lots_127 : decode cX9_lots 127 = .ok (.lreturn, 1) := by decide +kernel
set_option maxRecDepth 20000 in
theorem ggX9_century_X9_within : GoodIn wsX9_century wsX9_within := goodIn_r _ [7] (by decide +kernel) (by decide +kernel)
set_option maxRecDepth 20000 in
theorem gX9_century_X9_within : GoodIn wsX9_century (va_wsS RX9 79 yX9_within wsX9_within) := goodIn_app (goodIn_of _ (by decide +kernel)) ggX9_century_X9_within
set_option maxRecDepth 20000 in
theorem ggX9_century_X8_begin : GoodIn wsX9_century wsX8_begin := goodIn_r _ [11, 12, 13, 14, 15, 16, 17, 18, 19, 20, 21, 22, 23, 24, 25, 26, 27, 28, 29, 30, 31, 91, 92, 93, 94, 95, 96, 97, 98, 99, 100, 101, 102] (by decide +kernel) (by decide +kernel)
set_option maxRecDepth 20000 in
theorem gX9_century_X8_begin_n256 : GoodIn wsX9_century (wsX8_begin) := ggX9_century_X8_begin
set_option maxRecDepth 20000 in
theorem ggX9_century_X9_drawAct : GoodIn wsX9_century wsX9_drawAct := goodIn_r _ [35, 1, 36, 9, 37, 38, 12, 15, 39, 19, 40, 41, 31, 42, 43, 44, 45, 29, 46, 47, 48, 49, 50, 51, 52, 53, 22, 54, 55, 56, 57, 58, 59, 60, 61, 62, 63, 64, 65, 66, 67, 68, 27, 69, 70, 71, 72, 28, 73, 74, 75, 76, 30, 77, 78, 79, 80, 81, 82, 83, 84, 85, 86, 87, 88, 89, 90, 91, 92, 93, 94, 95, 96, 97, 98, 99, 100, 101, 102] (by decide +kernel) (by decide +kernel)
set_option maxRecDepth 20000 in
theorem gX9_century_X9_drawAct : GoodIn wsX9_century (wsV RX9 260 RX9 yX9_drawAct wsX9_drawAct) := goodIn_app (goodIn_of _ (by decide +kernel)) ggX9_century_X9_drawAct
theorem dX9_century_0 : decode cX9_century 0 = .ok (.iload_n 1, 1) := by decide +kernel
theorem dX9_century_1 : decode cX9_century 1 = .ok (.iconst 0, 1) := by decide +kernel
theorem dX9_century_2 : decode cX9_century 2 = .ok (.sipush 9999, 3) := by decide +kernel
theorem dX9_century_5 : decode cX9_century 5 = .ok (.invokestatic 79, 3) := by decide +kernel
theorem dX9_century_8 : decode cX9_century 8 = .ok (.ifCond .eq 22, 3) := by decide +kernel
theorem dX9_century_11 : decode cX9_century 11 = .ok (.iload_n 2, 1) := by decide +kernel
theorem dX9_century_12 : decode cX9_century 12 = .ok (.iconst 1, 1) := by decide +kernel
theorem dX9_century_13 : decode cX9_century 13 = .ok (.bipush 99, 2) := by decide +kernel
theorem dX9_century_15 : decode cX9_century 15 = .ok (.invokestatic 79, 3) := by decide +kernel
theorem dX9_century_18 : decode cX9_century 18 = .ok (.ifCond .eq 12, 3) := by decide +kernel
theorem dX9_century_21 : decode cX9_century 21 = .ok (.iload_n 3, 1) := by decide +kernel
theorem dX9_century_22 : decode cX9_century 22 = .ok (.iconst 0, 1) := by decide +kernel
theorem dX9_century_23 : decode cX9_century 23 = .ok (.iconst 2, 1) := by decide +kernel
theorem dX9_century_24 : decode cX9_century 24 = .ok (.invokestatic 79, 3) := by decide +kernel
theorem dX9_century_27 : decode cX9_century 27 = .ok (.ifCond .ne 6, 3) := by decide +kernel
theorem dX9_century_30 : decode cX9_century 30 = .ok (.bipush (-2), 2) := by decide +kernel
theorem dX9_century_32 : decode cX9_century 32 = .ok (.ireturn, 1) := by decide +kernel
theorem dX9_century_33 : decode cX9_century 33 = .ok (.aload_n 0, 1) := by decide +kernel
theorem dX9_century_34 : decode cX9_century 34 = .ok (.getfield 40, 3) := by decide +kernel
theorem dX9_century_37 : decode cX9_century 37 = .ok (.aload_n 0, 1) := by decide +kernel
theorem dX9_century_38 : decode cX9_century 38 = .ok (.getfield 10, 3) := by decide +kernel
theorem dX9_century_41 : decode cX9_century 41 = .ok (.invokevirtual 256, 3) := by decide +kernel
theorem dX9_century_44 : decode cX9_century 44 = .ok (.iload_n 1, 1) := by decide +kernel
theorem dX9_century_45 : decode cX9_century 45 = .ok (.istore 4, 2) := by decide +kernel
theorem dX9_century_47 : decode cX9_century 47 = .ok (.iconst 0, 1) := by decide +kernel
theorem dX9_century_48 : decode cX9_century 48 = .ok (.istore 5, 2) := by decide +kernel
theorem dX9_century_50 : decode cX9_century 50 = .ok (.iload 5, 2) := by decide +kernel
theorem dX9_century_52 : decode cX9_century 52 = .ok (.iload_n 2, 1) := by decide +kernel
theorem dX9_century_53 : decode cX9_century 53 = .ok (.if_icmp .ge 29, 3) := by decide +kernel
theorem dX9_century_56 : decode cX9_century 56 = .ok (.bipush 75, 2) := by decide +kernel
theorem dX9_century_58 : decode cX9_century 58 = .ok (.iload 4, 2) := by decide +kernel
theorem dX9_century_60 : decode cX9_century 60 = .ok (.imul, 1) := by decide +kernel
theorem dX9_century_61 : decode cX9_century 61 = .ok (.bipush 74, 2) := by decide +kernel
theorem dX9_century_63 : decode cX9_century 63 = .ok (.iadd, 1) := by decide +kernel
theorem dX9_century_64 : decode cX9_century 64 = .ok (.ldc_w 259, 3) := by decide +kernel
theorem dX9_century_67 : decode cX9_century 67 = .ok (.irem, 1) := by decide +kernel
theorem dX9_century_68 : decode cX9_century 68 = .ok (.istore 4, 2) := by decide +kernel
theorem dX9_century_70 : decode cX9_century 70 = .ok (.aload_n 0, 1) := by decide +kernel
theorem dX9_century_71 : decode cX9_century 71 = .ok (.iload 4, 2) := by decide +kernel
theorem dX9_century_73 : decode cX9_century 73 = .ok (.invokevirtual 260, 3) := by decide +kernel
theorem dX9_century_76 : decode cX9_century 76 = .ok (.iinc 5 1, 3) := by decide +kernel
theorem dX9_century_79 : decode cX9_century 79 = .ok (.goto (-29), 3) := by decide +kernel
theorem dX9_century_82 : decode cX9_century 82 = .ok (.iload_n 3, 1) := by decide +kernel
theorem dX9_century_83 : decode cX9_century 83 = .ok (.lookupswitch 49 #[(0, 25), (1, 38)], 25) := by decide +kernel
theorem dX9_century_108 : decode cX9_century 108 = .ok (.aload_n 0, 1) := by decide +kernel
theorem dX9_century_109 : decode cX9_century 109 = .ok (.getfield 40, 3) := by decide +kernel
theorem dX9_century_112 : decode cX9_century 112 = .ok (.getfield 144, 3) := by decide +kernel
theorem dX9_century_115 : decode cX9_century 115 = .ok (.getfield 83, 3) := by decide +kernel
theorem dX9_century_118 : decode cX9_century 118 = .ok (.iconst 0, 1) := by decide +kernel
theorem dX9_century_119 : decode cX9_century 119 = .ok (.iaload, 1) := by decide +kernel
theorem dX9_century_120 : decode cX9_century 120 = .ok (.ireturn, 1) := by decide +kernel
theorem dX9_century_121 : decode cX9_century 121 = .ok (.aload_n 0, 1) := by decide +kernel
theorem dX9_century_122 : decode cX9_century 122 = .ok (.getfield 40, 3) := by decide +kernel
theorem dX9_century_125 : decode cX9_century 125 = .ok (.getfield 144, 3) := by decide +kernel
theorem dX9_century_128 : decode cX9_century 128 = .ok (.getfield 152, 3) := by decide +kernel
theorem dX9_century_131 : decode cX9_century 131 = .ok (.ireturn, 1) := by decide +kernel
theorem dX9_century_132 : decode cX9_century 132 = .ok (.aload_n 0, 1) := by decide +kernel
theorem dX9_century_133 : decode cX9_century 133 = .ok (.getfield 40, 3) := by decide +kernel
theorem dX9_century_136 : decode cX9_century 136 = .ok (.getfield 141, 3) := by decide +kernel
theorem dX9_century_139 : decode cX9_century 139 = .ok (.ireturn, 1) := by decide +kernel
set_option maxRecDepth 20000 in
theorem ggX9_image_X9_within : GoodIn wsX9_image wsX9_within := goodIn_r _ [9] (by decide +kernel) (by decide +kernel)
set_option maxRecDepth 20000 in
theorem gX9_image_X9_within : GoodIn wsX9_image (va_wsS RX9 79 yX9_within wsX9_within) := goodIn_app (goodIn_of _ (by decide +kernel)) ggX9_image_X9_within
set_option maxRecDepth 20000 in
theorem ggX9_image_X5_copyFrom : GoodIn wsX9_image wsX5_copyFrom := goodIn_r _ [13, 14, 15, 16, 17, 18, 19, 20, 21, 22, 23, 52, 53, 54, 55, 56, 57] (by decide +kernel) (by decide +kernel)
set_option maxRecDepth 20000 in
theorem gX9_image_X5_copyFrom_n173 : GoodIn wsX9_image (wsX5_copyFrom) := ggX9_image_X5_copyFrom
set_option maxRecDepth 20000 in
theorem ggX9_image_X3_copyFrom : GoodIn wsX9_image wsX3_copyFrom := goodIn_r _ [27, 28, 29, 16, 17, 18, 58] (by decide +kernel) (by decide +kernel)
set_option maxRecDepth 20000 in
theorem gX9_image_X3_copyFrom_n265 : GoodIn wsX9_image (wsX3_copyFrom) := ggX9_image_X3_copyFrom
set_option maxRecDepth 20000 in
theorem ggX9_image_X7_copyFrom : GoodIn wsX9_image wsX7_copyFrom := goodIn_r _ [33, 34, 35, 16, 17, 18, 36, 37, 59, 60, 61] (by decide +kernel) (by decide +kernel)
set_option maxRecDepth 20000 in
theorem gX9_image_X7_copyFrom_n268 : GoodIn wsX9_image (wsX7_copyFrom) := ggX9_image_X7_copyFrom
theorem dX9_image_0 : decode cX9_image 0 = .ok (.iload_n 1, 1) := by decide +kernel
theorem dX9_image_1 : decode cX9_image 1 = .ok (.iconst 0, 1) := by decide +kernel
theorem dX9_image_2 : decode cX9_image 2 = .ok (.iconst 1, 1) := by decide +kernel
theorem dX9_image_3 : decode cX9_image 3 = .ok (.invokestatic 79, 3) := by decide +kernel
theorem dX9_image_6 : decode cX9_image 6 = .ok (.ifCond .ne 6, 3) := by decide +kernel
theorem dX9_image_9 : decode cX9_image 9 = .ok (.bipush (-2), 2) := by decide +kernel
theorem dX9_image_11 : decode cX9_image 11 = .ok (.ireturn, 1) := by decide +kernel
theorem dX9_image_12 : decode cX9_image 12 = .ok (.iload_n 1, 1) := by decide +kernel
theorem dX9_image_13 : decode cX9_image 13 = .ok (.ifCond .ne 10, 3) := by decide +kernel
theorem dX9_image_16 : decode cX9_image 16 = .ok (.aload_n 0, 1) := by decide +kernel
theorem dX9_image_17 : decode cX9_image 17 = .ok (.getfield 68, 3) := by decide +kernel
theorem dX9_image_20 : decode cX9_image 20 = .ok (.goto 7, 3) := by decide +kernel
theorem dX9_image_23 : decode cX9_image 23 = .ok (.aload_n 0, 1) := by decide +kernel
theorem dX9_image_24 : decode cX9_image 24 = .ok (.getfield 72, 3) := by decide +kernel
theorem dX9_image_27 : decode cX9_image 27 = .ok (.astore_n 2, 1) := by decide +kernel
theorem dX9_image_28 : decode cX9_image 28 = .ok (.aload_n 2, 1) := by decide +kernel
theorem dX9_image_29 : decode cX9_image 29 = .ok (.getfield 263, 3) := by decide +kernel
theorem dX9_image_32 : decode cX9_image 32 = .ok (.aload_n 0, 1) := by decide +kernel
theorem dX9_image_33 : decode cX9_image 33 = .ok (.getfield 10, 3) := by decide +kernel
theorem dX9_image_36 : decode cX9_image 36 = .ok (.invokevirtual 173, 3) := by decide +kernel
theorem dX9_image_39 : decode cX9_image 39 = .ok (.aload_n 2, 1) := by decide +kernel
theorem dX9_image_40 : decode cX9_image 40 = .ok (.getfield 264, 3) := by decide +kernel
theorem dX9_image_43 : decode cX9_image 43 = .ok (.aload_n 0, 1) := by decide +kernel
theorem dX9_image_44 : decode cX9_image 44 = .ok (.getfield 19, 3) := by decide +kernel
theorem dX9_image_47 : decode cX9_image 47 = .ok (.invokevirtual 265, 3) := by decide +kernel
theorem dX9_image_50 : decode cX9_image 50 = .ok (.aload_n 2, 1) := by decide +kernel
theorem dX9_image_51 : decode cX9_image 51 = .ok (.getfield 267, 3) := by decide +kernel
theorem dX9_image_54 : decode cX9_image 54 = .ok (.aload_n 0, 1) := by decide +kernel
theorem dX9_image_55 : decode cX9_image 55 = .ok (.getfield 26, 3) := by decide +kernel
theorem dX9_image_58 : decode cX9_image 58 = .ok (.invokevirtual 268, 3) := by decide +kernel
theorem dX9_image_61 : decode cX9_image 61 = .ok (.aload_n 2, 1) := by decide +kernel
theorem dX9_image_62 : decode cX9_image 62 = .ok (.iconst 1, 1) := by decide +kernel
theorem dX9_image_63 : decode cX9_image 63 = .ok (.putfield 270, 3) := by decide +kernel
theorem dX9_image_66 : decode cX9_image 66 = .ok (.iconst 1, 1) := by decide +kernel
theorem dX9_image_67 : decode cX9_image 67 = .ok (.ireturn, 1) := by decide +kernel
set_option maxRecDepth 20000 in
theorem ggX9_restore_X9_within : GoodIn wsX9_restore wsX9_within := goodIn_r _ [9] (by decide +kernel) (by decide +kernel)
set_option maxRecDepth 20000 in
theorem gX9_restore_X9_within : GoodIn wsX9_restore (va_wsS RX9 79 yX9_within wsX9_within) := goodIn_app (goodIn_of _ (by decide +kernel)) ggX9_restore_X9_within
set_option maxRecDepth 20000 in
theorem ggX9_restore_X5_copyFrom : GoodIn wsX9_restore wsX5_copyFrom := goodIn_r _ [13, 14, 15, 16, 17, 18, 19, 20, 21, 22, 23, 52, 53, 54, 55, 56, 57] (by decide +kernel) (by decide +kernel)
set_option maxRecDepth 20000 in
theorem gX9_restore_X5_copyFrom_n173 : GoodIn wsX9_restore (wsX5_copyFrom) := ggX9_restore_X5_copyFrom
set_option maxRecDepth 20000 in
theorem ggX9_restore_X3_copyFrom : GoodIn wsX9_restore wsX3_copyFrom := goodIn_r _ [27, 28, 29, 16, 17, 18, 58] (by decide +kernel) (by decide +kernel)
set_option maxRecDepth 20000 in
theorem gX9_restore_X3_copyFrom_n265 : GoodIn wsX9_restore (wsX3_copyFrom) := ggX9_restore_X3_copyFrom
set_option maxRecDepth 20000 in
theorem ggX9_restore_X7_copyFrom : GoodIn wsX9_restore wsX7_copyFrom := goodIn_r _ [33, 34, 35, 16, 17, 18, 36, 37, 59, 60, 61] (by decide +kernel) (by decide +kernel)
set_option maxRecDepth 20000 in
theorem gX9_restore_X7_copyFrom_n268 : GoodIn wsX9_restore (wsX7_copyFrom) := ggX9_restore_X7_copyFrom
theorem dX9_restore_0 : decode cX9_restore 0 = .ok (.iload_n 1, 1) := by decide +kernel
theorem dX9_restore_1 : decode cX9_restore 1 = .ok (.iconst 0, 1) := by decide +kernel
theorem dX9_restore_2 : decode cX9_restore 2 = .ok (.iconst 1, 1) := by decide +kernel
theorem dX9_restore_3 : decode cX9_restore 3 = .ok (.invokestatic 79, 3) := by decide +kernel
theorem dX9_restore_6 : decode cX9_restore 6 = .ok (.ifCond .ne 6, 3) := by decide +kernel
theorem dX9_restore_9 : decode cX9_restore 9 = .ok (.bipush (-2), 2) := by decide +kernel
theorem dX9_restore_11 : decode cX9_restore 11 = .ok (.ireturn, 1) := by decide +kernel
theorem dX9_restore_12 : decode cX9_restore 12 = .ok (.iload_n 1, 1) := by decide +kernel
theorem dX9_restore_13 : decode cX9_restore 13 = .ok (.ifCond .ne 10, 3) := by decide +kernel
theorem dX9_restore_16 : decode cX9_restore 16 = .ok (.aload_n 0, 1) := by decide +kernel
theorem dX9_restore_17 : decode cX9_restore 17 = .ok (.getfield 68, 3) := by decide +kernel
theorem dX9_restore_20 : decode cX9_restore 20 = .ok (.goto 7, 3) := by decide +kernel
theorem dX9_restore_23 : decode cX9_restore 23 = .ok (.aload_n 0, 1) := by decide +kernel
theorem dX9_restore_24 : decode cX9_restore 24 = .ok (.getfield 72, 3) := by decide +kernel
theorem dX9_restore_27 : decode cX9_restore 27 = .ok (.astore_n 2, 1) := by decide +kernel
theorem dX9_restore_28 : decode cX9_restore 28 = .ok (.aload_n 2, 1) := by decide +kernel
theorem dX9_restore_29 : decode cX9_restore 29 = .ok (.getfield 270, 3) := by decide +kernel
theorem dX9_restore_32 : decode cX9_restore 32 = .ok (.ifCond .ne 6, 3) := by decide +kernel
theorem dX9_restore_35 : decode cX9_restore 35 = .ok (.bipush (-3), 2) := by decide +kernel
theorem dX9_restore_37 : decode cX9_restore 37 = .ok (.ireturn, 1) := by decide +kernel
theorem dX9_restore_38 : decode cX9_restore 38 = .ok (.aload_n 0, 1) := by decide +kernel
theorem dX9_restore_39 : decode cX9_restore 39 = .ok (.getfield 10, 3) := by decide +kernel
theorem dX9_restore_42 : decode cX9_restore 42 = .ok (.aload_n 2, 1) := by decide +kernel
theorem dX9_restore_43 : decode cX9_restore 43 = .ok (.getfield 263, 3) := by decide +kernel
theorem dX9_restore_46 : decode cX9_restore 46 = .ok (.invokevirtual 173, 3) := by decide +kernel
theorem dX9_restore_49 : decode cX9_restore 49 = .ok (.aload_n 0, 1) := by decide +kernel
theorem dX9_restore_50 : decode cX9_restore 50 = .ok (.getfield 19, 3) := by decide +kernel
theorem dX9_restore_53 : decode cX9_restore 53 = .ok (.aload_n 2, 1) := by decide +kernel
theorem dX9_restore_54 : decode cX9_restore 54 = .ok (.getfield 264, 3) := by decide +kernel
theorem dX9_restore_57 : decode cX9_restore 57 = .ok (.invokevirtual 265, 3) := by decide +kernel
theorem dX9_restore_60 : decode cX9_restore 60 = .ok (.aload_n 0, 1) := by decide +kernel
theorem dX9_restore_61 : decode cX9_restore 61 = .ok (.getfield 26, 3) := by decide +kernel
theorem dX9_restore_64 : decode cX9_restore 64 = .ok (.aload_n 2, 1) := by decide +kernel
theorem dX9_restore_65 : decode cX9_restore 65 = .ok (.getfield 267, 3) := by decide +kernel
theorem dX9_restore_68 : decode cX9_restore 68 = .ok (.invokevirtual 268, 3) := by decide +kernel
theorem dX9_restore_71 : decode cX9_restore 71 = .ok (.iconst 1, 1) := by decide +kernel
theorem dX9_restore_72 : decode cX9_restore 72 = .ok (.ireturn, 1) := by decide +kernel
set_option maxRecDepth 20000 in
theorem ggX9_told_X9_within : GoodIn wsX9_told wsX9_within := goodIn_r _ [6] (by decide +kernel) (by decide +kernel)
set_option maxRecDepth 20000 in
theorem gX9_told_X9_within : GoodIn wsX9_told (va_wsS RX9 79 yX9_within wsX9_within) := goodIn_app (goodIn_of _ (by decide +kernel)) ggX9_told_X9_within
set_option maxRecDepth 20000 in
theorem ggX9_told_X9_toldInAll : GoodIn wsX9_told wsX9_toldInAll := goodIn_r _ [10, 11, 1, 12, 13, 14, 15, 16, 17, 18, 19, 20, 21, 22, 23, 24, 25, 26, 27, 35, 36, 37, 38, 39, 40, 41, 42, 43, 44, 28, 29, 30, 31, 32, 33, 45, 46, 47] (by decide +kernel) (by decide +kernel)
set_option maxRecDepth 20000 in
theorem gX9_told_X9_toldInAll : GoodIn wsX9_told (wsV RX9 274 RX9 yX9_toldInAll wsX9_toldInAll) := goodIn_app (goodIn_of _ (by decide +kernel)) ggX9_told_X9_toldInAll
theorem dX9_told_0 : decode cX9_told 0 = .ok (.iload_n 1, 1) := by decide +kernel
theorem dX9_told_1 : decode cX9_told 1 = .ok (.iconst 0, 1) := by decide +kernel
theorem dX9_told_2 : decode cX9_told 2 = .ok (.iconst 5, 1) := by decide +kernel
theorem dX9_told_3 : decode cX9_told 3 = .ok (.invokestatic 79, 3) := by decide +kernel
theorem dX9_told_6 : decode cX9_told 6 = .ok (.ifCond .eq 9, 3) := by decide +kernel
theorem dX9_told_9 : decode cX9_told 9 = .ok (.aload_n 0, 1) := by decide +kernel
theorem dX9_told_10 : decode cX9_told 10 = .ok (.iload_n 1, 1) := by decide +kernel
theorem dX9_told_11 : decode cX9_told 11 = .ok (.invokevirtual 274, 3) := by decide +kernel
theorem dX9_told_14 : decode cX9_told 14 = .ok (.ireturn, 1) := by decide +kernel
theorem dX9_told_15 : decode cX9_told 15 = .ok (.iload_n 1, 1) := by decide +kernel
theorem dX9_told_16 : decode cX9_told 16 = .ok (.bipush 10, 2) := by decide +kernel
theorem dX9_told_18 : decode cX9_told 18 = .ok (.bipush 17, 2) := by decide +kernel
theorem dX9_told_20 : decode cX9_told 20 = .ok (.invokestatic 79, 3) := by decide +kernel
theorem dX9_told_23 : decode cX9_told 23 = .ok (.ifCond .eq 16, 3) := by decide +kernel
theorem dX9_told_26 : decode cX9_told 26 = .ok (.aload_n 0, 1) := by decide +kernel
theorem dX9_told_27 : decode cX9_told 27 = .ok (.getfield 10, 3) := by decide +kernel
theorem dX9_told_30 : decode cX9_told 30 = .ok (.getfield 83, 3) := by decide +kernel
theorem dX9_told_33 : decode cX9_told 33 = .ok (.iload_n 1, 1) := by decide +kernel
theorem dX9_told_34 : decode cX9_told 34 = .ok (.bipush 10, 2) := by decide +kernel
theorem dX9_told_36 : decode cX9_told 36 = .ok (.isub, 1) := by decide +kernel
theorem dX9_told_37 : decode cX9_told 37 = .ok (.iaload, 1) := by decide +kernel
theorem dX9_told_38 : decode cX9_told 38 = .ok (.ireturn, 1) := by decide +kernel
theorem dX9_told_39 : decode cX9_told 39 = .ok (.iload_n 1, 1) := by decide +kernel
theorem dX9_told_40 : decode cX9_told 40 = .ok (.bipush 20, 2) := by decide +kernel
theorem dX9_told_42 : decode cX9_told 42 = .ok (.bipush 27, 2) := by decide +kernel
theorem dX9_told_44 : decode cX9_told 44 = .ok (.invokestatic 79, 3) := by decide +kernel
theorem dX9_told_47 : decode cX9_told 47 = .ok (.ifCond .eq 16, 3) := by decide +kernel
theorem dX9_told_50 : decode cX9_told 50 = .ok (.aload_n 0, 1) := by decide +kernel
theorem dX9_told_51 : decode cX9_told 51 = .ok (.getfield 19, 3) := by decide +kernel
theorem dX9_told_54 : decode cX9_told 54 = .ok (.getfield 277, 3) := by decide +kernel
theorem dX9_told_57 : decode cX9_told 57 = .ok (.iload_n 1, 1) := by decide +kernel
theorem dX9_told_58 : decode cX9_told 58 = .ok (.bipush 20, 2) := by decide +kernel
theorem dX9_told_60 : decode cX9_told 60 = .ok (.isub, 1) := by decide +kernel
theorem dX9_told_61 : decode cX9_told 61 = .ok (.iaload, 1) := by decide +kernel
theorem dX9_told_62 : decode cX9_told 62 = .ok (.ireturn, 1) := by decide +kernel
theorem dX9_told_63 : decode cX9_told 63 = .ok (.iload_n 1, 1) := by decide +kernel
theorem dX9_told_64 : decode cX9_told 64 = .ok (.bipush 100, 2) := by decide +kernel
theorem dX9_told_66 : decode cX9_told 66 = .ok (.sipush 177, 3) := by decide +kernel
theorem dX9_told_69 : decode cX9_told 69 = .ok (.invokestatic 79, 3) := by decide +kernel
theorem dX9_told_72 : decode cX9_told 72 = .ok (.ifCond .eq 36, 3) := by decide +kernel
theorem dX9_told_75 : decode cX9_told 75 = .ok (.iload_n 1, 1) := by decide +kernel
theorem dX9_told_76 : decode cX9_told 76 = .ok (.bipush 10, 2) := by decide +kernel
theorem dX9_told_78 : decode cX9_told 78 = .ok (.irem, 1) := by decide +kernel
theorem dX9_told_79 : decode cX9_told 79 = .ok (.bipush 8, 2) := by decide +kernel
theorem dX9_told_81 : decode cX9_told 81 = .ok (.if_icmp .ge 27, 3) := by decide +kernel
theorem dX9_told_84 : decode cX9_told 84 = .ok (.aload_n 0, 1) := by decide +kernel
theorem dX9_told_85 : decode cX9_told 85 = .ok (.getfield 10, 3) := by decide +kernel
theorem dX9_told_88 : decode cX9_told 88 = .ok (.getfield 95, 3) := by decide +kernel
theorem dX9_told_91 : decode cX9_told 91 = .ok (.iload_n 1, 1) := by decide +kernel
theorem dX9_told_92 : decode cX9_told 92 = .ok (.bipush 100, 2) := by decide +kernel
theorem dX9_told_94 : decode cX9_told 94 = .ok (.isub, 1) := by decide +kernel
theorem dX9_told_95 : decode cX9_told 95 = .ok (.bipush 10, 2) := by decide +kernel
theorem dX9_told_97 : decode cX9_told 97 = .ok (.idiv, 1) := by decide +kernel
theorem dX9_told_98 : decode cX9_told 98 = .ok (.bipush 8, 2) := by decide +kernel
theorem dX9_told_100 : decode cX9_told 100 = .ok (.imul, 1) := by decide +kernel
theorem dX9_told_101 : decode cX9_told 101 = .ok (.iload_n 1, 1) := by decide +kernel
theorem dX9_told_102 : decode cX9_told 102 = .ok (.bipush 10, 2) := by decide +kernel
theorem dX9_told_104 : decode cX9_told 104 = .ok (.irem, 1) := by decide +kernel
theorem dX9_told_105 : decode cX9_told 105 = .ok (.iadd, 1) := by decide +kernel
theorem dX9_told_106 : decode cX9_told 106 = .ok (.iaload, 1) := by decide +kernel
theorem dX9_told_107 : decode cX9_told 107 = .ok (.ireturn, 1) := by decide +kernel
theorem dX9_told_108 : decode cX9_told 108 = .ok (.bipush (-2), 2) := by decide +kernel
theorem dX9_told_110 : decode cX9_told 110 = .ok (.ireturn, 1) := by decide +kernel
set_option maxRecDepth 20000 in
theorem ggX9_toldInAll_X5_rowNumber : GoodIn wsX9_toldInAll wsX5_rowNumber := goodIn_r _ [7, 8, 29, 30, 31, 32, 33, 34] (by decide +kernel) (by decide +kernel)
set_option maxRecDepth 20000 in
theorem gX9_toldInAll_X5_rowNumber_n101 : GoodIn wsX9_toldInAll (wsX5_rowNumber) := ggX9_toldInAll_X5_rowNumber
theorem dX9_toldInAll_0 : decode cX9_toldInAll 0 = .ok (.iload_n 1, 1) := by decide +kernel
theorem dX9_toldInAll_1 : decode cX9_toldInAll 1 = .ok (.tableswitch 75 0 4 #[35, 43, 51, 59, 67], 35) := by decide +kernel
theorem dX9_toldInAll_36 : decode cX9_toldInAll 36 = .ok (.aload_n 0, 1) := by decide +kernel
theorem dX9_toldInAll_37 : decode cX9_toldInAll 37 = .ok (.getfield 33, 3) := by decide +kernel
theorem dX9_toldInAll_40 : decode cX9_toldInAll 40 = .ok (.getfield 120, 3) := by decide +kernel
theorem dX9_toldInAll_43 : decode cX9_toldInAll 43 = .ok (.ireturn, 1) := by decide +kernel
theorem dX9_toldInAll_44 : decode cX9_toldInAll 44 = .ok (.aload_n 0, 1) := by decide +kernel
theorem dX9_toldInAll_45 : decode cX9_toldInAll 45 = .ok (.getfield 10, 3) := by decide +kernel
theorem dX9_toldInAll_48 : decode cX9_toldInAll 48 = .ok (.getfield 152, 3) := by decide +kernel
theorem dX9_toldInAll_51 : decode cX9_toldInAll 51 = .ok (.ireturn, 1) := by decide +kernel
theorem dX9_toldInAll_52 : decode cX9_toldInAll 52 = .ok (.aload_n 0, 1) := by decide +kernel
theorem dX9_toldInAll_53 : decode cX9_toldInAll 53 = .ok (.getfield 10, 3) := by decide +kernel
theorem dX9_toldInAll_56 : decode cX9_toldInAll 56 = .ok (.invokevirtual 101, 3) := by decide +kernel
theorem dX9_toldInAll_59 : decode cX9_toldInAll 59 = .ok (.ireturn, 1) := by decide +kernel
theorem dX9_toldInAll_60 : decode cX9_toldInAll 60 = .ok (.aload_n 0, 1) := by decide +kernel
theorem dX9_toldInAll_61 : decode cX9_toldInAll 61 = .ok (.getfield 10, 3) := by decide +kernel
theorem dX9_toldInAll_64 : decode cX9_toldInAll 64 = .ok (.getfield 105, 3) := by decide +kernel
theorem dX9_toldInAll_67 : decode cX9_toldInAll 67 = .ok (.ireturn, 1) := by decide +kernel
theorem dX9_toldInAll_68 : decode cX9_toldInAll 68 = .ok (.aload_n 0, 1) := by decide +kernel
theorem dX9_toldInAll_69 : decode cX9_toldInAll 69 = .ok (.getfield 10, 3) := by decide +kernel
theorem dX9_toldInAll_72 : decode cX9_toldInAll 72 = .ok (.getfield 158, 3) := by decide +kernel
theorem dX9_toldInAll_75 : decode cX9_toldInAll 75 = .ok (.ireturn, 1) := by decide +kernel
theorem dX9_toldInAll_76 : decode cX9_toldInAll 76 = .ok (.aload_n 0, 1) := by decide +kernel
theorem dX9_toldInAll_77 : decode cX9_toldInAll 77 = .ok (.getfield 26, 3) := by decide +kernel
theorem dX9_toldInAll_80 : decode cX9_toldInAll 80 = .ok (.getfield 203, 3) := by decide +kernel
theorem dX9_toldInAll_83 : decode cX9_toldInAll 83 = .ok (.ireturn, 1) := by decide +kernel
set_option maxRecDepth 20000 in
theorem ggX9_tryText_X4_faultPlace : GoodIn wsX9_tryText wsX4_faultPlace := goodIn_r _ [7, 8, 9, 10, 101, 102, 103, 104, 105, 106, 107, 108, 109, 110] (by decide +kernel) (by decide +kernel)
set_option maxRecDepth 20000 in
theorem gX9_tryText_X4_faultPlace_n129 : GoodIn wsX9_tryText (wsX4_faultPlace) := ggX9_tryText_X4_faultPlace
set_option maxRecDepth 20000 in
theorem ggX9_tryText_X8_play : GoodIn wsX9_tryText wsX8_play := goodIn_r _ [14, 15, 16, 17, 18, 19, 20, 21, 22, 12, 23, 24, 25, 26, 27, 28, 29, 30, 31, 32, 33, 34, 35, 36, 37, 38, 39, 40, 41, 42, 43, 44, 45, 46, 47, 48, 49, 50, 51, 52, 53, 54, 55, 56, 57, 58, 59, 60, 61, 62, 63, 64, 65, 66, 67, 68, 69, 70, 71, 72, 73, 74, 75, 76, 77, 78, 79, 80, 81, 82, 83, 84, 101, 102, 103, 104, 105, 106, 107, 108, 109, 110, 95, 96, 97, 98, 99, 100, 111, 112, 113, 114, 115, 116] (by decide +kernel) (by decide +kernel)
set_option maxRecDepth 20000 in
theorem gX9_tryText_X8_play_n280 : GoodIn wsX9_tryText (wsX8_play) := ggX9_tryText_X8_play
theorem dX9_tryText_0 : decode cX9_tryText 0 = .ok (.aload_n 0, 1) := by decide +kernel
theorem dX9_tryText_1 : decode cX9_tryText 1 = .ok (.getfield 33, 3) := by decide +kernel
theorem dX9_tryText_4 : decode cX9_tryText 4 = .ok (.invokevirtual 129, 3) := by decide +kernel
theorem dX9_tryText_7 : decode cX9_tryText 7 = .ok (.bipush (-6), 2) := by decide +kernel
theorem dX9_tryText_9 : decode cX9_tryText 9 = .ok (.if_icmp .eq 6, 3) := by decide +kernel
theorem dX9_tryText_12 : decode cX9_tryText 12 = .ok (.bipush (-5), 2) := by decide +kernel
theorem dX9_tryText_14 : decode cX9_tryText 14 = .ok (.ireturn, 1) := by decide +kernel
theorem dX9_tryText_15 : decode cX9_tryText 15 = .ok (.aload_n 0, 1) := by decide +kernel
theorem dX9_tryText_16 : decode cX9_tryText 16 = .ok (.getfield 40, 3) := by decide +kernel
theorem dX9_tryText_19 : decode cX9_tryText 19 = .ok (.aload_n 0, 1) := by decide +kernel
theorem dX9_tryText_20 : decode cX9_tryText 20 = .ok (.getfield 33, 3) := by decide +kernel
theorem dX9_tryText_23 : decode cX9_tryText 23 = .ok (.aload_n 0, 1) := by decide +kernel
theorem dX9_tryText_24 : decode cX9_tryText 24 = .ok (.getfield 10, 3) := by decide +kernel
theorem dX9_tryText_27 : decode cX9_tryText 27 = .ok (.invokevirtual 280, 3) := by decide +kernel
theorem dX9_tryText_30 : decode cX9_tryText 30 = .ok (.aload_n 0, 1) := by decide +kernel
theorem dX9_tryText_31 : decode cX9_tryText 31 = .ok (.getfield 40, 3) := by decide +kernel
theorem dX9_tryText_34 : decode cX9_tryText 34 = .ok (.getfield 135, 3) := by decide +kernel
theorem dX9_tryText_37 : decode cX9_tryText 37 = .ok (.bipush (-6), 2) := by decide +kernel
theorem dX9_tryText_39 : decode cX9_tryText 39 = .ok (.if_icmp .ne 7, 3) := by decide +kernel
theorem dX9_tryText_42 : decode cX9_tryText 42 = .ok (.iconst 0, 1) := by decide +kernel
theorem dX9_tryText_43 : decode cX9_tryText 43 = .ok (.goto 5, 3) := by decide +kernel
theorem dX9_tryText_46 : decode cX9_tryText 46 = .ok (.bipush (-3), 2) := by decide +kernel
theorem dX9_tryText_48 : decode cX9_tryText 48 = .ok (.ireturn, 1) := by decide +kernel
set_option maxRecDepth 20000 in
theorem ggX9_drawAct_X8_attempt : GoodIn wsX9_drawAct wsX8_attempt := goodIn_r _ [5, 6, 7, 8, 9, 10, 11, 12, 13, 14, 15, 16, 17, 18, 19, 20, 21, 22, 23, 24, 25, 26, 27, 28, 29, 30, 31, 32, 33, 34, 35, 36, 37, 38, 39, 40, 41, 42, 43, 44, 45, 46, 47, 48, 49, 50, 51, 52, 53, 54, 55, 56, 67, 68, 69, 70, 71, 72, 73, 74, 75, 76, 77, 78] (by decide +kernel) (by decide +kernel)
set_option maxRecDepth 20000 in
theorem gX9_drawAct_X8_attempt_n284 : GoodIn wsX9_drawAct (wsX8_attempt) := ggX9_drawAct_X8_attempt
theorem dX9_drawAct_0 : decode cX9_drawAct 0 = .ok (.iload_n 1, 1) := by decide +kernel
theorem dX9_drawAct_1 : decode cX9_drawAct 1 = .ok (.bipush 8, 2) := by decide +kernel
theorem dX9_drawAct_3 : decode cX9_drawAct 3 = .ok (.irem, 1) := by decide +kernel
theorem dX9_drawAct_4 : decode cX9_drawAct 4 = .ok (.istore_n 2, 1) := by decide +kernel
theorem dX9_drawAct_5 : decode cX9_drawAct 5 = .ok (.iload_n 1, 1) := by decide +kernel
theorem dX9_drawAct_6 : decode cX9_drawAct 6 = .ok (.bipush 8, 2) := by decide +kernel
theorem dX9_drawAct_8 : decode cX9_drawAct 8 = .ok (.idiv, 1) := by decide +kernel
theorem dX9_drawAct_9 : decode cX9_drawAct 9 = .ok (.bipush 8, 2) := by decide +kernel
theorem dX9_drawAct_11 : decode cX9_drawAct 11 = .ok (.irem, 1) := by decide +kernel
theorem dX9_drawAct_12 : decode cX9_drawAct 12 = .ok (.istore_n 3, 1) := by decide +kernel
theorem dX9_drawAct_13 : decode cX9_drawAct 13 = .ok (.iload_n 1, 1) := by decide +kernel
theorem dX9_drawAct_14 : decode cX9_drawAct 14 = .ok (.bipush 64, 2) := by decide +kernel
theorem dX9_drawAct_16 : decode cX9_drawAct 16 = .ok (.idiv, 1) := by decide +kernel
theorem dX9_drawAct_17 : decode cX9_drawAct 17 = .ok (.istore 4, 2) := by decide +kernel
theorem dX9_drawAct_19 : decode cX9_drawAct 19 = .ok (.iload_n 3, 1) := by decide +kernel
theorem dX9_drawAct_20 : decode cX9_drawAct 20 = .ok (.ifCond .ne 18, 3) := by decide +kernel
theorem dX9_drawAct_23 : decode cX9_drawAct 23 = .ok (.aload_n 0, 1) := by decide +kernel
theorem dX9_drawAct_24 : decode cX9_drawAct 24 = .ok (.getfield 40, 3) := by decide +kernel
theorem dX9_drawAct_27 : decode cX9_drawAct 27 = .ok (.iconst 0, 1) := by decide +kernel
theorem dX9_drawAct_28 : decode cX9_drawAct 28 = .ok (.iload_n 2, 1) := by decide +kernel
theorem dX9_drawAct_29 : decode cX9_drawAct 29 = .ok (.iload_n 2, 1) := by decide +kernel
theorem dX9_drawAct_30 : decode cX9_drawAct 30 = .ok (.iconst 0, 1) := by decide +kernel
theorem dX9_drawAct_31 : decode cX9_drawAct 31 = .ok (.invokevirtual 284, 3) := by decide +kernel
theorem dX9_drawAct_34 : decode cX9_drawAct 34 = .ok (.pop, 1) := by decide +kernel
theorem dX9_drawAct_35 : decode cX9_drawAct 35 = .ok (.goto 92, 3) := by decide +kernel
theorem dX9_drawAct_38 : decode cX9_drawAct 38 = .ok (.iload_n 3, 1) := by decide +kernel
theorem dX9_drawAct_39 : decode cX9_drawAct 39 = .ok (.iconst 1, 1) := by decide +kernel
theorem dX9_drawAct_40 : decode cX9_drawAct 40 = .ok (.if_icmp .ne 18, 3) := by decide +kernel
theorem dX9_drawAct_43 : decode cX9_drawAct 43 = .ok (.aload_n 0, 1) := by decide +kernel
theorem dX9_drawAct_44 : decode cX9_drawAct 44 = .ok (.getfield 40, 3) := by decide +kernel
theorem dX9_drawAct_47 : decode cX9_drawAct 47 = .ok (.iconst 1, 1) := by decide +kernel
theorem dX9_drawAct_48 : decode cX9_drawAct 48 = .ok (.iload_n 2, 1) := by decide +kernel
theorem dX9_drawAct_49 : decode cX9_drawAct 49 = .ok (.iload_n 2, 1) := by decide +kernel
theorem dX9_drawAct_50 : decode cX9_drawAct 50 = .ok (.iconst 0, 1) := by decide +kernel
theorem dX9_drawAct_51 : decode cX9_drawAct 51 = .ok (.invokevirtual 284, 3) := by decide +kernel
theorem dX9_drawAct_54 : decode cX9_drawAct 54 = .ok (.pop, 1) := by decide +kernel
theorem dX9_drawAct_55 : decode cX9_drawAct 55 = .ok (.goto 72, 3) := by decide +kernel
theorem dX9_drawAct_58 : decode cX9_drawAct 58 = .ok (.iload_n 3, 1) := by decide +kernel
theorem dX9_drawAct_59 : decode cX9_drawAct 59 = .ok (.iconst 4, 1) := by decide +kernel
theorem dX9_drawAct_60 : decode cX9_drawAct 60 = .ok (.if_icmp .gt 31, 3) := by decide +kernel
theorem dX9_drawAct_63 : decode cX9_drawAct 63 = .ok (.aload_n 0, 1) := by decide +kernel
theorem dX9_drawAct_64 : decode cX9_drawAct 64 = .ok (.getfield 40, 3) := by decide +kernel
theorem dX9_drawAct_67 : decode cX9_drawAct 67 = .ok (.iconst 2, 1) := by decide +kernel
theorem dX9_drawAct_68 : decode cX9_drawAct 68 = .ok (.iload_n 2, 1) := by decide +kernel
theorem dX9_drawAct_69 : decode cX9_drawAct 69 = .ok (.iload 4, 2) := by decide +kernel
theorem dX9_drawAct_71 : decode cX9_drawAct 71 = .ok (.bipush 8, 2) := by decide +kernel
theorem dX9_drawAct_73 : decode cX9_drawAct 73 = .ok (.irem, 1) := by decide +kernel
theorem dX9_drawAct_74 : decode cX9_drawAct 74 = .ok (.iload 4, 2) := by decide +kernel
theorem dX9_drawAct_76 : decode cX9_drawAct 76 = .ok (.bipush 8, 2) := by decide +kernel
theorem dX9_drawAct_78 : decode cX9_drawAct 78 = .ok (.idiv, 1) := by decide +kernel
theorem dX9_drawAct_79 : decode cX9_drawAct 79 = .ok (.bipush 9, 2) := by decide +kernel
theorem dX9_drawAct_81 : decode cX9_drawAct 81 = .ok (.irem, 1) := by decide +kernel
theorem dX9_drawAct_82 : decode cX9_drawAct 82 = .ok (.iconst 1, 1) := by decide +kernel
theorem dX9_drawAct_83 : decode cX9_drawAct 83 = .ok (.iadd, 1) := by decide +kernel
theorem dX9_drawAct_84 : decode cX9_drawAct 84 = .ok (.invokevirtual 284, 3) := by decide +kernel
theorem dX9_drawAct_87 : decode cX9_drawAct 87 = .ok (.pop, 1) := by decide +kernel
theorem dX9_drawAct_88 : decode cX9_drawAct 88 = .ok (.goto 39, 3) := by decide +kernel
theorem dX9_drawAct_91 : decode cX9_drawAct 91 = .ok (.iload_n 3, 1) := by decide +kernel
theorem dX9_drawAct_92 : decode cX9_drawAct 92 = .ok (.iconst 5, 1) := by decide +kernel
theorem dX9_drawAct_93 : decode cX9_drawAct 93 = .ok (.if_icmp .ne 22, 3) := by decide +kernel
theorem dX9_drawAct_96 : decode cX9_drawAct 96 = .ok (.aload_n 0, 1) := by decide +kernel
theorem dX9_drawAct_97 : decode cX9_drawAct 97 = .ok (.getfield 40, 3) := by decide +kernel
theorem dX9_drawAct_100 : decode cX9_drawAct 100 = .ok (.iconst 3, 1) := by decide +kernel
theorem dX9_drawAct_101 : decode cX9_drawAct 101 = .ok (.iload_n 2, 1) := by decide +kernel
theorem dX9_drawAct_102 : decode cX9_drawAct 102 = .ok (.iload 4, 2) := by decide +kernel
theorem dX9_drawAct_104 : decode cX9_drawAct 104 = .ok (.bipush 8, 2) := by decide +kernel
theorem dX9_drawAct_106 : decode cX9_drawAct 106 = .ok (.irem, 1) := by decide +kernel
theorem dX9_drawAct_107 : decode cX9_drawAct 107 = .ok (.iconst 0, 1) := by decide +kernel
theorem dX9_drawAct_108 : decode cX9_drawAct 108 = .ok (.invokevirtual 284, 3) := by decide +kernel
theorem dX9_drawAct_111 : decode cX9_drawAct 111 = .ok (.pop, 1) := by decide +kernel
theorem dX9_drawAct_112 : decode cX9_drawAct 112 = .ok (.goto 15, 3) := by decide +kernel
theorem dX9_drawAct_115 : decode cX9_drawAct 115 = .ok (.aload_n 0, 1) := by decide +kernel
theorem dX9_drawAct_116 : decode cX9_drawAct 116 = .ok (.getfield 40, 3) := by decide +kernel
theorem dX9_drawAct_119 : decode cX9_drawAct 119 = .ok (.iconst 4, 1) := by decide +kernel
theorem dX9_drawAct_120 : decode cX9_drawAct 120 = .ok (.iload_n 2, 1) := by decide +kernel
theorem dX9_drawAct_121 : decode cX9_drawAct 121 = .ok (.iload_n 2, 1) := by decide +kernel
theorem dX9_drawAct_122 : decode cX9_drawAct 122 = .ok (.iconst 0, 1) := by decide +kernel
theorem dX9_drawAct_123 : decode cX9_drawAct 123 = .ok (.invokevirtual 284, 3) := by decide +kernel
theorem dX9_drawAct_126 : decode cX9_drawAct 126 = .ok (.pop, 1) := by decide +kernel
theorem dX9_drawAct_127 : decode cX9_drawAct 127 = .ok (.return_, 1) := by decide +kernel
theorem dX9_within_0 : decode cX9_within 0 = .ok (.iload_n 0, 1) := by decide +kernel
theorem dX9_within_1 : decode cX9_within 1 = .ok (.iload_n 1, 1) := by decide +kernel
