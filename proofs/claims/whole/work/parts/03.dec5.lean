theorem dX10_findGroups_81 : decode cX10_findGroups 81 = .ok (.iload_n 2, 1) := by decide +kernel
theorem dX10_findGroups_82 : decode cX10_findGroups 82 = .ok (.iconst 1, 1) := by decide +kernel
theorem dX10_findGroups_83 : decode cX10_findGroups 83 = .ok (.iadd, 1) := by decide +kernel
theorem dX10_findGroups_84 : decode cX10_findGroups 84 = .ok (.goto 4, 3) := by decide +kernel
theorem dX10_findGroups_87 : decode cX10_findGroups 87 = .ok (.iload_n 2, 1) := by decide +kernel
theorem dX10_findGroups_88 : decode cX10_findGroups 88 = .ok (.iastore, 1) := by decide +kernel
theorem dX10_findGroups_89 : decode cX10_findGroups 89 = .ok (.iinc 1 1, 3) := by decide +kernel
theorem dX10_findGroups_92 : decode cX10_findGroups 92 = .ok (.goto (-90), 3) := by decide +kernel
theorem dX10_findGroups_95 : decode cX10_findGroups 95 = .ok (.return_, 1) := by decide +kernel
set_option maxRecDepth 20000 in
theorem ggX10_even_X10_in : GoodIn wsX10_even wsX10_in := goodIn_r _ [6] (by decide +kernel) (by decide +kernel)
set_option maxRecDepth 20000 in
theorem gX10_even_X10_in : GoodIn wsX10_even (va_wsS RX10 73 yX10_in wsX10_in) := goodIn_app (goodIn_of _ (by decide +kernel)) ggX10_even_X10_in
set_option maxRecDepth 20000 in
theorem ggX10_even_X10_dueOf : GoodIn wsX10_even wsX10_dueOf := goodIn_r _ [10, 11, 26, 27, 28, 29, 30, 31, 32, 33, 34, 35, 36, 37, 38, 39, 40, 41, 42, 43, 44, 45, 46, 47, 48, 49, 50, 51, 52, 53, 54, 55, 56, 57, 58, 59, 60] (by decide +kernel) (by decide +kernel)
set_option maxRecDepth 20000 in
theorem gX10_even_X10_dueOf : GoodIn wsX10_even (wsV RX10 236 RX10 yX10_dueOf wsX10_dueOf) := goodIn_app (goodIn_of _ (by decide +kernel)) ggX10_even_X10_dueOf
set_option maxRecDepth 20000 in
theorem ggX10_even_X10_findGroups : GoodIn wsX10_even wsX10_findGroups := goodIn_r _ [15, 2, 16, 17, 5, 18, 19, 20, 21, 22, 1, 26, 27, 28, 29, 30, 31, 32, 33, 34, 35, 36, 37, 38, 39, 40, 41, 42, 43, 44, 45, 46, 47, 48, 49, 50, 51, 52, 53, 54, 55, 56, 57, 58, 59, 60] (by decide +kernel) (by decide +kernel)
set_option maxRecDepth 20000 in
theorem gX10_even_X10_findGroups : GoodIn wsX10_even (wsV RX10 242 RX10 yX10_findGroups wsX10_findGroups) := goodIn_app (goodIn_of _ (by decide +kernel)) ggX10_even_X10_findGroups
set_option maxRecDepth 20000 in
theorem ggX10_even_X10_ones : GoodIn wsX10_even wsX10_ones := goodIn_r _ [25] (by decide +kernel) (by decide +kernel)
set_option maxRecDepth 20000 in
theorem gX10_even_X10_ones : GoodIn wsX10_even (va_wsS RX10 103 yX10_ones wsX10_ones) := goodIn_app (goodIn_of _ (by decide +kernel)) ggX10_even_X10_ones
theorem dX10_even_0 : decode cX10_even 0 = .ok (.iload_n 1, 1) := by decide +kernel
theorem dX10_even_1 : decode cX10_even 1 = .ok (.i2l, 1) := by decide +kernel
theorem dX10_even_2 : decode cX10_even 2 = .ok (.lconst 0, 1) := by decide +kernel
theorem dX10_even_3 : decode cX10_even 3 = .ok (.lconst 1, 1) := by decide +kernel
theorem dX10_even_4 : decode cX10_even 4 = .ok (.invokestatic 73, 3) := by decide +kernel
theorem dX10_even_7 : decode cX10_even 7 = .ok (.ifCond .ne 6, 3) := by decide +kernel
theorem dX10_even_10 : decode cX10_even 10 = .ok (.bipush (-2), 2) := by decide +kernel
theorem dX10_even_12 : decode cX10_even 12 = .ok (.ireturn, 1) := by decide +kernel
theorem dX10_even_13 : decode cX10_even 13 = .ok (.iconst 0, 1) := by decide +kernel
theorem dX10_even_14 : decode cX10_even 14 = .ok (.istore_n 2, 1) := by decide +kernel
theorem dX10_even_15 : decode cX10_even 15 = .ok (.iconst 0, 1) := by decide +kernel
theorem dX10_even_16 : decode cX10_even 16 = .ok (.istore_n 3, 1) := by decide +kernel
theorem dX10_even_17 : decode cX10_even 17 = .ok (.iload_n 3, 1) := by decide +kernel
theorem dX10_even_18 : decode cX10_even 18 = .ok (.bipush 8, 2) := by decide +kernel
theorem dX10_even_20 : decode cX10_even 20 = .ok (.if_icmp .ge 39, 3) := by decide +kernel
theorem dX10_even_23 : decode cX10_even 23 = .ok (.aload_n 0, 1) := by decide +kernel
theorem dX10_even_24 : decode cX10_even 24 = .ok (.getfield 49, 3) := by decide +kernel
theorem dX10_even_27 : decode cX10_even 27 = .ok (.iload_n 3, 1) := by decide +kernel
theorem dX10_even_28 : decode cX10_even 28 = .ok (.aload_n 0, 1) := by decide +kernel
theorem dX10_even_29 : decode cX10_even 29 = .ok (.iload_n 3, 1) := by decide +kernel
theorem dX10_even_30 : decode cX10_even 30 = .ok (.invokevirtual 236, 3) := by decide +kernel
theorem dX10_even_33 : decode cX10_even 33 = .ok (.iastore, 1) := by decide +kernel
theorem dX10_even_34 : decode cX10_even 34 = .ok (.iload_n 2, 1) := by decide +kernel
theorem dX10_even_35 : decode cX10_even 35 = .ok (.aload_n 0, 1) := by decide +kernel
theorem dX10_even_36 : decode cX10_even 36 = .ok (.getfield 49, 3) := by decide +kernel
theorem dX10_even_39 : decode cX10_even 39 = .ok (.iload_n 3, 1) := by decide +kernel
theorem dX10_even_40 : decode cX10_even 40 = .ok (.iaload, 1) := by decide +kernel
theorem dX10_even_41 : decode cX10_even 41 = .ok (.ifCond .ne 7, 3) := by decide +kernel
theorem dX10_even_44 : decode cX10_even 44 = .ok (.iconst 0, 1) := by decide +kernel
theorem dX10_even_45 : decode cX10_even 45 = .ok (.goto 6, 3) := by decide +kernel
theorem dX10_even_48 : decode cX10_even 48 = .ok (.iconst 1, 1) := by decide +kernel
theorem dX10_even_49 : decode cX10_even 49 = .ok (.iload_n 3, 1) := by decide +kernel
theorem dX10_even_50 : decode cX10_even 50 = .ok (.ishl, 1) := by decide +kernel
theorem dX10_even_51 : decode cX10_even 51 = .ok (.ior, 1) := by decide +kernel
theorem dX10_even_52 : decode cX10_even 52 = .ok (.istore_n 2, 1) := by decide +kernel
theorem dX10_even_53 : decode cX10_even 53 = .ok (.iinc 3 1, 3) := by decide +kernel
theorem dX10_even_56 : decode cX10_even 56 = .ok (.goto (-39), 3) := by decide +kernel
theorem dX10_even_59 : decode cX10_even 59 = .ok (.aload_n 0, 1) := by decide +kernel
theorem dX10_even_60 : decode cX10_even 60 = .ok (.invokevirtual 242, 3) := by decide +kernel
theorem dX10_even_63 : decode cX10_even 63 = .ok (.iload_n 1, 1) := by decide +kernel
theorem dX10_even_64 : decode cX10_even 64 = .ok (.iconst 1, 1) := by decide +kernel
theorem dX10_even_65 : decode cX10_even 65 = .ok (.if_icmp .ne 12, 3) := by decide +kernel
theorem dX10_even_68 : decode cX10_even 68 = .ok (.aload_n 0, 1) := by decide +kernel
theorem dX10_even_69 : decode cX10_even 69 = .ok (.getfield 52, 3) := by decide +kernel
theorem dX10_even_72 : decode cX10_even 72 = .ok (.iload_n 2, 1) := by decide +kernel
theorem dX10_even_73 : decode cX10_even 73 = .ok (.iaload, 1) := by decide +kernel
theorem dX10_even_74 : decode cX10_even 74 = .ok (.goto 14, 3) := by decide +kernel
theorem dX10_even_77 : decode cX10_even 77 = .ok (.iload_n 2, 1) := by decide +kernel
theorem dX10_even_78 : decode cX10_even 78 = .ok (.invokestatic 103, 3) := by decide +kernel
theorem dX10_even_81 : decode cX10_even 81 = .ok (.aload_n 0, 1) := by decide +kernel
theorem dX10_even_82 : decode cX10_even 82 = .ok (.getfield 52, 3) := by decide +kernel
theorem dX10_even_85 : decode cX10_even 85 = .ok (.iload_n 2, 1) := by decide +kernel
theorem dX10_even_86 : decode cX10_even 86 = .ok (.iaload, 1) := by decide +kernel
theorem dX10_even_87 : decode cX10_even 87 = .ok (.isub, 1) := by decide +kernel
theorem dX10_even_88 : decode cX10_even 88 = .ok (.ireturn, 1) := by decide +kernel
set_option maxRecDepth 20000 in
theorem ggX10_waysOn_X10_has : GoodIn wsX10_waysOn wsX10_has := goodIn_r _ [6] (by decide +kernel) (by decide +kernel)
set_option maxRecDepth 20000 in
theorem gX10_waysOn_X10_has : GoodIn wsX10_waysOn (va_wsS RX10 147 yX10_has wsX10_has) := goodIn_app (goodIn_of _ (by decide +kernel)) ggX10_waysOn_X10_has
theorem dX10_waysOn_0 : decode cX10_waysOn 0 = .ok (.iconst 0, 1) := by decide +kernel
theorem dX10_waysOn_1 : decode cX10_waysOn 1 = .ok (.istore_n 3, 1) := by decide +kernel
theorem dX10_waysOn_2 : decode cX10_waysOn 2 = .ok (.iconst 0, 1) := by decide +kernel
theorem dX10_waysOn_3 : decode cX10_waysOn 3 = .ok (.istore 4, 2) := by decide +kernel
theorem dX10_waysOn_5 : decode cX10_waysOn 5 = .ok (.iload 4, 2) := by decide +kernel
theorem dX10_waysOn_7 : decode cX10_waysOn 7 = .ok (.bipush 8, 2) := by decide +kernel
theorem dX10_waysOn_9 : decode cX10_waysOn 9 = .ok (.if_icmp .ge 68, 3) := by decide +kernel
theorem dX10_waysOn_12 : decode cX10_waysOn 12 = .ok (.iload_n 1, 1) := by decide +kernel
theorem dX10_waysOn_13 : decode cX10_waysOn 13 = .ok (.iload 4, 2) := by decide +kernel
theorem dX10_waysOn_15 : decode cX10_waysOn 15 = .ok (.invokestatic 147, 3) := by decide +kernel
theorem dX10_waysOn_18 : decode cX10_waysOn 18 = .ok (.ifCond .ne 21, 3) := by decide +kernel
theorem dX10_waysOn_21 : decode cX10_waysOn 21 = .ok (.aload_n 0, 1) := by decide +kernel
theorem dX10_waysOn_22 : decode cX10_waysOn 22 = .ok (.getfield 19, 3) := by decide +kernel
theorem dX10_waysOn_25 : decode cX10_waysOn 25 = .ok (.iload_n 2, 1) := by decide +kernel
theorem dX10_waysOn_26 : decode cX10_waysOn 26 = .ok (.iaload, 1) := by decide +kernel
theorem dX10_waysOn_27 : decode cX10_waysOn 27 = .ok (.iload 4, 2) := by decide +kernel
theorem dX10_waysOn_29 : decode cX10_waysOn 29 = .ok (.invokestatic 147, 3) := by decide +kernel
theorem dX10_waysOn_32 : decode cX10_waysOn 32 = .ok (.ifCond .ne 7, 3) := by decide +kernel
theorem dX10_waysOn_35 : decode cX10_waysOn 35 = .ok (.iconst 1, 1) := by decide +kernel
theorem dX10_waysOn_36 : decode cX10_waysOn 36 = .ok (.goto 4, 3) := by decide +kernel
theorem dX10_waysOn_39 : decode cX10_waysOn 39 = .ok (.iconst 0, 1) := by decide +kernel
theorem dX10_waysOn_40 : decode cX10_waysOn 40 = .ok (.istore 5, 2) := by decide +kernel
theorem dX10_waysOn_42 : decode cX10_waysOn 42 = .ok (.iload_n 3, 1) := by decide +kernel
theorem dX10_waysOn_43 : decode cX10_waysOn 43 = .ok (.iload 5, 2) := by decide +kernel
theorem dX10_waysOn_45 : decode cX10_waysOn 45 = .ok (.ifCond .eq 23, 3) := by decide +kernel
theorem dX10_waysOn_48 : decode cX10_waysOn 48 = .ok (.aload_n 0, 1) := by decide +kernel
theorem dX10_waysOn_49 : decode cX10_waysOn 49 = .ok (.getfield 55, 3) := by decide +kernel
theorem dX10_waysOn_52 : decode cX10_waysOn 52 = .ok (.bipush 8, 2) := by decide +kernel
theorem dX10_waysOn_54 : decode cX10_waysOn 54 = .ok (.iload_n 1, 1) := by decide +kernel
theorem dX10_waysOn_55 : decode cX10_waysOn 55 = .ok (.iconst 1, 1) := by decide +kernel
theorem dX10_waysOn_56 : decode cX10_waysOn 56 = .ok (.iload 4, 2) := by decide +kernel
theorem dX10_waysOn_58 : decode cX10_waysOn 58 = .ok (.ishl, 1) := by decide +kernel
theorem dX10_waysOn_59 : decode cX10_waysOn 59 = .ok (.ior, 1) := by decide +kernel
theorem dX10_waysOn_60 : decode cX10_waysOn 60 = .ok (.imul, 1) := by decide +kernel
theorem dX10_waysOn_61 : decode cX10_waysOn 61 = .ok (.iload 4, 2) := by decide +kernel
theorem dX10_waysOn_63 : decode cX10_waysOn 63 = .ok (.iadd, 1) := by decide +kernel
theorem dX10_waysOn_64 : decode cX10_waysOn 64 = .ok (.iaload, 1) := by decide +kernel
theorem dX10_waysOn_65 : decode cX10_waysOn 65 = .ok (.goto 4, 3) := by decide +kernel
theorem dX10_waysOn_68 : decode cX10_waysOn 68 = .ok (.iconst 0, 1) := by decide +kernel
theorem dX10_waysOn_69 : decode cX10_waysOn 69 = .ok (.iadd, 1) := by decide +kernel
theorem dX10_waysOn_70 : decode cX10_waysOn 70 = .ok (.istore_n 3, 1) := by decide +kernel
theorem dX10_waysOn_71 : decode cX10_waysOn 71 = .ok (.iinc 4 1, 3) := by decide +kernel
theorem dX10_waysOn_74 : decode cX10_waysOn 74 = .ok (.goto (-69), 3) := by decide +kernel
theorem dX10_waysOn_77 : decode cX10_waysOn 77 = .ok (.iload_n 1, 1) := by decide +kernel
theorem dX10_waysOn_78 : decode cX10_waysOn 78 = .ok (.sipush 255, 3) := by decide +kernel
theorem dX10_waysOn_81 : decode cX10_waysOn 81 = .ok (.if_icmp .ne 7, 3) := by decide +kernel
theorem dX10_waysOn_84 : decode cX10_waysOn 84 = .ok (.iconst 1, 1) := by decide +kernel
theorem dX10_waysOn_85 : decode cX10_waysOn 85 = .ok (.goto 4, 3) := by decide +kernel
theorem dX10_waysOn_88 : decode cX10_waysOn 88 = .ok (.iload_n 3, 1) := by decide +kernel
theorem dX10_waysOn_89 : decode cX10_waysOn 89 = .ok (.ireturn, 1) := by decide +kernel
set_option maxRecDepth 20000 in
theorem ggX10_leastOrder_X10_has : GoodIn wsX10_leastOrder wsX10_has := goodIn_r _ [6] (by decide +kernel) (by decide +kernel)
set_option maxRecDepth 20000 in
theorem gX10_leastOrder_X10_has : GoodIn wsX10_leastOrder (va_wsS RX10 147 yX10_has wsX10_has) := goodIn_app (goodIn_of _ (by decide +kernel)) ggX10_leastOrder_X10_has
theorem dX10_leastOrder_0 : decode cX10_leastOrder 0 = .ok (.iconst 0, 1) := by decide +kernel
theorem dX10_leastOrder_1 : decode cX10_leastOrder 1 = .ok (.istore_n 1, 1) := by decide +kernel
theorem dX10_leastOrder_2 : decode cX10_leastOrder 2 = .ok (.iconst 0, 1) := by decide +kernel
theorem dX10_leastOrder_3 : decode cX10_leastOrder 3 = .ok (.istore_n 2, 1) := by decide +kernel
theorem dX10_leastOrder_4 : decode cX10_leastOrder 4 = .ok (.bipush (-6), 2) := by decide +kernel
theorem dX10_leastOrder_6 : decode cX10_leastOrder 6 = .ok (.istore_n 3, 1) := by decide +kernel
theorem dX10_leastOrder_7 : decode cX10_leastOrder 7 = .ok (.iconst 0, 1) := by decide +kernel
theorem dX10_leastOrder_8 : decode cX10_leastOrder 8 = .ok (.istore 4, 2) := by decide +kernel
theorem dX10_leastOrder_10 : decode cX10_leastOrder 10 = .ok (.iload 4, 2) := by decide +kernel
theorem dX10_leastOrder_12 : decode cX10_leastOrder 12 = .ok (.bipush 8, 2) := by decide +kernel
theorem dX10_leastOrder_14 : decode cX10_leastOrder 14 = .ok (.if_icmp .ge 114, 3) := by decide +kernel
theorem dX10_leastOrder_17 : decode cX10_leastOrder 17 = .ok (.bipush (-6), 2) := by decide +kernel
theorem dX10_leastOrder_19 : decode cX10_leastOrder 19 = .ok (.istore 5, 2) := by decide +kernel
theorem dX10_leastOrder_21 : decode cX10_leastOrder 21 = .ok (.bipush 7, 2) := by decide +kernel
theorem dX10_leastOrder_23 : decode cX10_leastOrder 23 = .ok (.istore 6, 2) := by decide +kernel
theorem dX10_leastOrder_25 : decode cX10_leastOrder 25 = .ok (.iload 6, 2) := by decide +kernel
theorem dX10_leastOrder_27 : decode cX10_leastOrder 27 = .ok (.ifCond .lt 77, 3) := by decide +kernel
theorem dX10_leastOrder_30 : decode cX10_leastOrder 30 = .ok (.iload_n 2, 1) := by decide +kernel
theorem dX10_leastOrder_31 : decode cX10_leastOrder 31 = .ok (.iload 6, 2) := by decide +kernel
theorem dX10_leastOrder_33 : decode cX10_leastOrder 33 = .ok (.invokestatic 147, 3) := by decide +kernel
theorem dX10_leastOrder_36 : decode cX10_leastOrder 36 = .ok (.ifCond .ne 45, 3) := by decide +kernel
theorem dX10_leastOrder_39 : decode cX10_leastOrder 39 = .ok (.iload_n 3, 1) := by decide +kernel
theorem dX10_leastOrder_40 : decode cX10_leastOrder 40 = .ok (.ifCond .lt 17, 3) := by decide +kernel
theorem dX10_leastOrder_43 : decode cX10_leastOrder 43 = .ok (.aload_n 0, 1) := by decide +kernel
theorem dX10_leastOrder_44 : decode cX10_leastOrder 44 = .ok (.getfield 19, 3) := by decide +kernel
theorem dX10_leastOrder_47 : decode cX10_leastOrder 47 = .ok (.iload_n 3, 1) := by decide +kernel
theorem dX10_leastOrder_48 : decode cX10_leastOrder 48 = .ok (.iaload, 1) := by decide +kernel
theorem dX10_leastOrder_49 : decode cX10_leastOrder 49 = .ok (.iload 6, 2) := by decide +kernel
theorem dX10_leastOrder_51 : decode cX10_leastOrder 51 = .ok (.invokestatic 147, 3) := by decide +kernel
theorem dX10_leastOrder_54 : decode cX10_leastOrder 54 = .ok (.ifCond .ne 27, 3) := by decide +kernel
theorem dX10_leastOrder_57 : decode cX10_leastOrder 57 = .ok (.aload_n 0, 1) := by decide +kernel
theorem dX10_leastOrder_58 : decode cX10_leastOrder 58 = .ok (.getfield 55, 3) := by decide +kernel
theorem dX10_leastOrder_61 : decode cX10_leastOrder 61 = .ok (.bipush 8, 2) := by decide +kernel
theorem dX10_leastOrder_63 : decode cX10_leastOrder 63 = .ok (.iload_n 2, 1) := by decide +kernel
theorem dX10_leastOrder_64 : decode cX10_leastOrder 64 = .ok (.iconst 1, 1) := by decide +kernel
theorem dX10_leastOrder_65 : decode cX10_leastOrder 65 = .ok (.iload 6, 2) := by decide +kernel
theorem dX10_leastOrder_67 : decode cX10_leastOrder 67 = .ok (.ishl, 1) := by decide +kernel
theorem dX10_leastOrder_68 : decode cX10_leastOrder 68 = .ok (.ior, 1) := by decide +kernel
theorem dX10_leastOrder_69 : decode cX10_leastOrder 69 = .ok (.imul, 1) := by decide +kernel
theorem dX10_leastOrder_70 : decode cX10_leastOrder 70 = .ok (.iload 6, 2) := by decide +kernel
theorem dX10_leastOrder_72 : decode cX10_leastOrder 72 = .ok (.iadd, 1) := by decide +kernel
theorem dX10_leastOrder_73 : decode cX10_leastOrder 73 = .ok (.iaload, 1) := by decide +kernel
theorem dX10_leastOrder_74 : decode cX10_leastOrder 74 = .ok (.ifCond .le 7, 3) := by decide +kernel
theorem dX10_leastOrder_77 : decode cX10_leastOrder 77 = .ok (.iconst 1, 1) := by decide +kernel
theorem dX10_leastOrder_78 : decode cX10_leastOrder 78 = .ok (.goto 4, 3) := by decide +kernel
theorem dX10_leastOrder_81 : decode cX10_leastOrder 81 = .ok (.iconst 0, 1) := by decide +kernel
theorem dX10_leastOrder_82 : decode cX10_leastOrder 82 = .ok (.istore 7, 2) := by decide +kernel
theorem dX10_leastOrder_84 : decode cX10_leastOrder 84 = .ok (.iload 7, 2) := by decide +kernel
theorem dX10_leastOrder_86 : decode cX10_leastOrder 86 = .ok (.ifCond .eq 8, 3) := by decide +kernel
theorem dX10_leastOrder_89 : decode cX10_leastOrder 89 = .ok (.iload 6, 2) := by decide +kernel
theorem dX10_leastOrder_91 : decode cX10_leastOrder 91 = .ok (.goto 5, 3) := by decide +kernel
theorem dX10_leastOrder_94 : decode cX10_leastOrder 94 = .ok (.iload 5, 2) := by decide +kernel
theorem dX10_leastOrder_96 : decode cX10_leastOrder 96 = .ok (.istore 5, 2) := by decide +kernel
theorem dX10_leastOrder_98 : decode cX10_leastOrder 98 = .ok (.iinc 6 (-1), 3) := by decide +kernel
theorem dX10_leastOrder_101 : decode cX10_leastOrder 101 = .ok (.goto (-76), 3) := by decide +kernel
theorem dX10_leastOrder_104 : decode cX10_leastOrder 104 = .ok (.bipush 10, 2) := by decide +kernel
theorem dX10_leastOrder_106 : decode cX10_leastOrder 106 = .ok (.iload_n 1, 1) := by decide +kernel
theorem dX10_leastOrder_107 : decode cX10_leastOrder 107 = .ok (.imul, 1) := by decide +kernel
theorem dX10_leastOrder_108 : decode cX10_leastOrder 108 = .ok (.iload 5, 2) := by decide +kernel
theorem dX10_leastOrder_110 : decode cX10_leastOrder 110 = .ok (.iadd, 1) := by decide +kernel
theorem dX10_leastOrder_111 : decode cX10_leastOrder 111 = .ok (.istore_n 1, 1) := by decide +kernel
theorem dX10_leastOrder_112 : decode cX10_leastOrder 112 = .ok (.iload_n 2, 1) := by decide +kernel
theorem dX10_leastOrder_113 : decode cX10_leastOrder 113 = .ok (.iconst 1, 1) := by decide +kernel
theorem dX10_leastOrder_114 : decode cX10_leastOrder 114 = .ok (.iload 5, 2) := by decide +kernel
theorem dX10_leastOrder_116 : decode cX10_leastOrder 116 = .ok (.ishl, 1) := by decide +kernel
theorem dX10_leastOrder_117 : decode cX10_leastOrder 117 = .ok (.ior, 1) := by decide +kernel
theorem dX10_leastOrder_118 : decode cX10_leastOrder 118 = .ok (.istore_n 2, 1) := by decide +kernel
theorem dX10_leastOrder_119 : decode cX10_leastOrder 119 = .ok (.iload 5, 2) := by decide +kernel
theorem dX10_leastOrder_121 : decode cX10_leastOrder 121 = .ok (.istore_n 3, 1) := by decide +kernel
theorem dX10_leastOrder_122 : decode cX10_leastOrder 122 = .ok (.iinc 4 1, 3) := by decide +kernel
theorem dX10_leastOrder_125 : decode cX10_leastOrder 125 = .ok (.goto (-115), 3) := by decide +kernel
theorem dX10_leastOrder_128 : decode cX10_leastOrder 128 = .ok (.iload_n 1, 1) := by decide +kernel
theorem dX10_leastOrder_129 : decode cX10_leastOrder 129 = .ok (.ireturn, 1) := by decide +kernel
set_option maxRecDepth 20000 in
theorem ggX10_orders_X10_in : GoodIn wsX10_orders wsX10_in := goodIn_r _ [5] (by decide +kernel) (by decide +kernel)
set_option maxRecDepth 20000 in
theorem gX10_orders_X10_in : GoodIn wsX10_orders (va_wsS RX10 73 yX10_in wsX10_in) := goodIn_app (goodIn_of _ (by decide +kernel)) ggX10_orders_X10_in
set_option maxRecDepth 20000 in
theorem ggX10_orders_X10_has : GoodIn wsX10_orders wsX10_has := goodIn_r _ [8] (by decide +kernel) (by decide +kernel)
set_option maxRecDepth 20000 in
theorem gX10_orders_X10_has : GoodIn wsX10_orders (va_wsS RX10 147 yX10_has wsX10_has) := goodIn_app (goodIn_of _ (by decide +kernel)) ggX10_orders_X10_has
set_option maxRecDepth 20000 in
theorem ggX10_orders_X10_waysOn : GoodIn wsX10_orders wsX10_waysOn := goodIn_r _ [12, 13, 1, 6, 7, 4, 8, 18, 19, 20, 21, 22, 23, 24, 25, 26, 27, 28, 29, 30, 31, 32, 33, 34, 35, 36, 37, 38, 39, 40, 41, 42, 43, 44, 45, 46, 47, 48, 49, 50, 51, 52] (by decide +kernel) (by decide +kernel)
set_option maxRecDepth 20000 in
theorem gX10_orders_X10_waysOn : GoodIn wsX10_orders (wsV RX10 245 RX10 yX10_waysOn wsX10_waysOn) := goodIn_app (goodIn_of _ (by decide +kernel)) ggX10_orders_X10_waysOn
set_option maxRecDepth 20000 in
theorem ggX10_orders_X10_leastOrder : GoodIn wsX10_orders wsX10_leastOrder := goodIn_r _ [17, 13, 1, 6, 7, 4, 8, 18, 19, 20, 21, 22, 23, 24, 25, 26, 27, 28, 29, 30, 31, 32, 33, 34, 35, 36, 37, 38, 39, 40, 41, 42, 43, 44, 45, 46, 47, 48, 49, 50, 51, 52] (by decide +kernel) (by decide +kernel)
set_option maxRecDepth 20000 in
theorem gX10_orders_X10_leastOrder : GoodIn wsX10_orders (wsV RX10 248 RX10 yX10_leastOrder wsX10_leastOrder) := goodIn_app (goodIn_of _ (by decide +kernel)) ggX10_orders_X10_leastOrder
theorem dX10_orders_0 : decode cX10_orders 0 = .ok (.iload_n 1, 1) := by decide +kernel
theorem dX10_orders_1 : decode cX10_orders 1 = .ok (.i2l, 1) := by decide +kernel
theorem dX10_orders_2 : decode cX10_orders 2 = .ok (.lconst 0, 1) := by decide +kernel
theorem dX10_orders_3 : decode cX10_orders 3 = .ok (.lconst 1, 1) := by decide +kernel
theorem dX10_orders_4 : decode cX10_orders 4 = .ok (.invokestatic 73, 3) := by decide +kernel
theorem dX10_orders_7 : decode cX10_orders 7 = .ok (.ifCond .ne 6, 3) := by decide +kernel
theorem dX10_orders_10 : decode cX10_orders 10 = .ok (.bipush (-2), 2) := by decide +kernel
theorem dX10_orders_12 : decode cX10_orders 12 = .ok (.ireturn, 1) := by decide +kernel
theorem dX10_orders_13 : decode cX10_orders 13 = .ok (.sipush 255, 3) := by decide +kernel
theorem dX10_orders_16 : decode cX10_orders 16 = .ok (.istore_n 2, 1) := by decide +kernel
theorem dX10_orders_17 : decode cX10_orders 17 = .ok (.iload_n 2, 1) := by decide +kernel
theorem dX10_orders_18 : decode cX10_orders 18 = .ok (.ifCond .le 52, 3) := by decide +kernel
theorem dX10_orders_21 : decode cX10_orders 21 = .ok (.iconst 0, 1) := by decide +kernel
theorem dX10_orders_22 : decode cX10_orders 22 = .ok (.istore_n 3, 1) := by decide +kernel
theorem dX10_orders_23 : decode cX10_orders 23 = .ok (.iload_n 3, 1) := by decide +kernel
theorem dX10_orders_24 : decode cX10_orders 24 = .ok (.bipush 8, 2) := by decide +kernel
theorem dX10_orders_26 : decode cX10_orders 26 = .ok (.if_icmp .ge 38, 3) := by decide +kernel
theorem dX10_orders_29 : decode cX10_orders 29 = .ok (.aload_n 0, 1) := by decide +kernel
theorem dX10_orders_30 : decode cX10_orders 30 = .ok (.getfield 55, 3) := by decide +kernel
theorem dX10_orders_33 : decode cX10_orders 33 = .ok (.bipush 8, 2) := by decide +kernel
theorem dX10_orders_35 : decode cX10_orders 35 = .ok (.iload_n 2, 1) := by decide +kernel
theorem dX10_orders_36 : decode cX10_orders 36 = .ok (.imul, 1) := by decide +kernel
theorem dX10_orders_37 : decode cX10_orders 37 = .ok (.iload_n 3, 1) := by decide +kernel
theorem dX10_orders_38 : decode cX10_orders 38 = .ok (.iadd, 1) := by decide +kernel
theorem dX10_orders_39 : decode cX10_orders 39 = .ok (.iload_n 2, 1) := by decide +kernel
theorem dX10_orders_40 : decode cX10_orders 40 = .ok (.iload_n 3, 1) := by decide +kernel
theorem dX10_orders_41 : decode cX10_orders 41 = .ok (.invokestatic 147, 3) := by decide +kernel
theorem dX10_orders_44 : decode cX10_orders 44 = .ok (.ifCond .eq 12, 3) := by decide +kernel
theorem dX10_orders_47 : decode cX10_orders 47 = .ok (.aload_n 0, 1) := by decide +kernel
theorem dX10_orders_48 : decode cX10_orders 48 = .ok (.iload_n 2, 1) := by decide +kernel
theorem dX10_orders_49 : decode cX10_orders 49 = .ok (.iload_n 3, 1) := by decide +kernel
theorem dX10_orders_50 : decode cX10_orders 50 = .ok (.invokevirtual 245, 3) := by decide +kernel
theorem dX10_orders_53 : decode cX10_orders 53 = .ok (.goto 4, 3) := by decide +kernel
theorem dX10_orders_56 : decode cX10_orders 56 = .ok (.iconst 0, 1) := by decide +kernel
theorem dX10_orders_57 : decode cX10_orders 57 = .ok (.iastore, 1) := by decide +kernel
theorem dX10_orders_58 : decode cX10_orders 58 = .ok (.iinc 3 1, 3) := by decide +kernel
theorem dX10_orders_61 : decode cX10_orders 61 = .ok (.goto (-38), 3) := by decide +kernel
theorem dX10_orders_64 : decode cX10_orders 64 = .ok (.iinc 2 (-1), 3) := by decide +kernel
theorem dX10_orders_67 : decode cX10_orders 67 = .ok (.goto (-50), 3) := by decide +kernel
theorem dX10_orders_70 : decode cX10_orders 70 = .ok (.iconst 0, 1) := by decide +kernel
theorem dX10_orders_71 : decode cX10_orders 71 = .ok (.istore_n 2, 1) := by decide +kernel
theorem dX10_orders_72 : decode cX10_orders 72 = .ok (.iconst 0, 1) := by decide +kernel
theorem dX10_orders_73 : decode cX10_orders 73 = .ok (.istore_n 3, 1) := by decide +kernel
theorem dX10_orders_74 : decode cX10_orders 74 = .ok (.iload_n 3, 1) := by decide +kernel
theorem dX10_orders_75 : decode cX10_orders 75 = .ok (.bipush 8, 2) := by decide +kernel
theorem dX10_orders_77 : decode cX10_orders 77 = .ok (.if_icmp .ge 25, 3) := by decide +kernel
theorem dX10_orders_80 : decode cX10_orders 80 = .ok (.iload_n 2, 1) := by decide +kernel
theorem dX10_orders_81 : decode cX10_orders 81 = .ok (.aload_n 0, 1) := by decide +kernel
theorem dX10_orders_82 : decode cX10_orders 82 = .ok (.getfield 55, 3) := by decide +kernel
theorem dX10_orders_85 : decode cX10_orders 85 = .ok (.bipush 8, 2) := by decide +kernel
theorem dX10_orders_87 : decode cX10_orders 87 = .ok (.iconst 1, 1) := by decide +kernel
theorem dX10_orders_88 : decode cX10_orders 88 = .ok (.iload_n 3, 1) := by decide +kernel
theorem dX10_orders_89 : decode cX10_orders 89 = .ok (.ishl, 1) := by decide +kernel
theorem dX10_orders_90 : decode cX10_orders 90 = .ok (.imul, 1) := by decide +kernel
theorem dX10_orders_91 : decode cX10_orders 91 = .ok (.iload_n 3, 1) := by decide +kernel
theorem dX10_orders_92 : decode cX10_orders 92 = .ok (.iadd, 1) := by decide +kernel
theorem dX10_orders_93 : decode cX10_orders 93 = .ok (.iaload, 1) := by decide +kernel
theorem dX10_orders_94 : decode cX10_orders 94 = .ok (.iadd, 1) := by decide +kernel
theorem dX10_orders_95 : decode cX10_orders 95 = .ok (.istore_n 2, 1) := by decide +kernel
theorem dX10_orders_96 : decode cX10_orders 96 = .ok (.iinc 3 1, 3) := by decide +kernel
theorem dX10_orders_99 : decode cX10_orders 99 = .ok (.goto (-25), 3) := by decide +kernel
theorem dX10_orders_102 : decode cX10_orders 102 = .ok (.iload_n 1, 1) := by decide +kernel
theorem dX10_orders_103 : decode cX10_orders 103 = .ok (.ifCond .ne 7, 3) := by decide +kernel
theorem dX10_orders_106 : decode cX10_orders 106 = .ok (.iload_n 2, 1) := by decide +kernel
theorem dX10_orders_107 : decode cX10_orders 107 = .ok (.goto 16, 3) := by decide +kernel
theorem dX10_orders_110 : decode cX10_orders 110 = .ok (.iload_n 2, 1) := by decide +kernel
theorem dX10_orders_111 : decode cX10_orders 111 = .ok (.ifCond .ne 8, 3) := by decide +kernel
theorem dX10_orders_114 : decode cX10_orders 114 = .ok (.bipush (-6), 2) := by decide +kernel
theorem dX10_orders_116 : decode cX10_orders 116 = .ok (.goto 7, 3) := by decide +kernel
theorem dX10_orders_119 : decode cX10_orders 119 = .ok (.aload_n 0, 1) := by decide +kernel
theorem dX10_orders_120 : decode cX10_orders 120 = .ok (.invokevirtual 248, 3) := by decide +kernel
theorem dX10_orders_123 : decode cX10_orders 123 = .ok (.ireturn, 1) := by decide +kernel
set_option maxRecDepth 20000 in
theorem ggX10_ring_X10_in : GoodIn wsX10_ring wsX10_in := goodIn_r _ [6] (by decide +kernel) (by decide +kernel)
set_option maxRecDepth 20000 in
theorem gX10_ring_X10_in : GoodIn wsX10_ring (va_wsS RX10 73 yX10_in wsX10_in) := goodIn_app (goodIn_of _ (by decide +kernel)) ggX10_ring_X10_in
theorem dX10_ring_0 : decode cX10_ring 0 = .ok (.iload_n 1, 1) := by decide +kernel
theorem dX10_ring_1 : decode cX10_ring 1 = .ok (.i2l, 1) := by decide +kernel
theorem dX10_ring_2 : decode cX10_ring 2 = .ok (.lconst 1, 1) := by decide +kernel
theorem dX10_ring_3 : decode cX10_ring 3 = .ok (.ldc2_w 81, 3) := by decide +kernel
theorem dX10_ring_6 : decode cX10_ring 6 = .ok (.invokestatic 73, 3) := by decide +kernel
theorem dX10_ring_9 : decode cX10_ring 9 = .ok (.ifCond .eq 28, 3) := by decide +kernel
theorem dX10_ring_12 : decode cX10_ring 12 = .ok (.iload_n 2, 1) := by decide +kernel
theorem dX10_ring_13 : decode cX10_ring 13 = .ok (.i2l, 1) := by decide +kernel
theorem dX10_ring_14 : decode cX10_ring 14 = .ok (.lconst 1, 1) := by decide +kernel
theorem dX10_ring_15 : decode cX10_ring 15 = .ok (.ldc2_w 251, 3) := by decide +kernel
theorem dX10_ring_18 : decode cX10_ring 18 = .ok (.invokestatic 73, 3) := by decide +kernel
theorem dX10_ring_21 : decode cX10_ring 21 = .ok (.ifCond .eq 16, 3) := by decide +kernel
theorem dX10_ring_24 : decode cX10_ring 24 = .ok (.iload_n 3, 1) := by decide +kernel
theorem dX10_ring_25 : decode cX10_ring 25 = .ok (.i2l, 1) := by decide +kernel
theorem dX10_ring_26 : decode cX10_ring 26 = .ok (.lconst 0, 1) := by decide +kernel
theorem dX10_ring_27 : decode cX10_ring 27 = .ok (.iload_n 1, 1) := by decide +kernel
theorem dX10_ring_28 : decode cX10_ring 28 = .ok (.iconst 1, 1) := by decide +kernel
theorem dX10_ring_29 : decode cX10_ring 29 = .ok (.isub, 1) := by decide +kernel
theorem dX10_ring_30 : decode cX10_ring 30 = .ok (.i2l, 1) := by decide +kernel
theorem dX10_ring_31 : decode cX10_ring 31 = .ok (.invokestatic 73, 3) := by decide +kernel
theorem dX10_ring_34 : decode cX10_ring 34 = .ok (.ifCond .ne 6, 3) := by decide +kernel
theorem dX10_ring_37 : decode cX10_ring 37 = .ok (.bipush (-2), 2) := by decide +kernel
theorem dX10_ring_39 : decode cX10_ring 39 = .ok (.ireturn, 1) := by decide +kernel
theorem dX10_ring_40 : decode cX10_ring 40 = .ok (.iload_n 2, 1) := by decide +kernel
theorem dX10_ring_41 : decode cX10_ring 41 = .ok (.iconst 1, 1) := by decide +kernel
theorem dX10_ring_42 : decode cX10_ring 42 = .ok (.isub, 1) := by decide +kernel
theorem dX10_ring_43 : decode cX10_ring 43 = .ok (.iload_n 1, 1) := by decide +kernel
theorem dX10_ring_44 : decode cX10_ring 44 = .ok (.iload_n 3, 1) := by decide +kernel
theorem dX10_ring_45 : decode cX10_ring 45 = .ok (.isub, 1) := by decide +kernel
theorem dX10_ring_46 : decode cX10_ring 46 = .ok (.irem, 1) := by decide +kernel
theorem dX10_ring_47 : decode cX10_ring 47 = .ok (.istore 4, 2) := by decide +kernel
theorem dX10_ring_49 : decode cX10_ring 49 = .ok (.iload_n 1, 1) := by decide +kernel
theorem dX10_ring_50 : decode cX10_ring 50 = .ok (.iload_n 3, 1) := by decide +kernel
theorem dX10_ring_51 : decode cX10_ring 51 = .ok (.isub, 1) := by decide +kernel
theorem dX10_ring_52 : decode cX10_ring 52 = .ok (.iconst 1, 1) := by decide +kernel
theorem dX10_ring_53 : decode cX10_ring 53 = .ok (.iadd, 1) := by decide +kernel
theorem dX10_ring_54 : decode cX10_ring 54 = .ok (.istore 5, 2) := by decide +kernel
theorem dX10_ring_56 : decode cX10_ring 56 = .ok (.iload 5, 2) := by decide +kernel
theorem dX10_ring_58 : decode cX10_ring 58 = .ok (.iload_n 1, 1) := by decide +kernel
theorem dX10_ring_59 : decode cX10_ring 59 = .ok (.if_icmp .gt 18, 3) := by decide +kernel
theorem dX10_ring_62 : decode cX10_ring 62 = .ok (.iload 4, 2) := by decide +kernel
theorem dX10_ring_64 : decode cX10_ring 64 = .ok (.iload_n 2, 1) := by decide +kernel
theorem dX10_ring_65 : decode cX10_ring 65 = .ok (.iadd, 1) := by decide +kernel
theorem dX10_ring_66 : decode cX10_ring 66 = .ok (.iload 5, 2) := by decide +kernel
theorem dX10_ring_68 : decode cX10_ring 68 = .ok (.irem, 1) := by decide +kernel
theorem dX10_ring_69 : decode cX10_ring 69 = .ok (.istore 4, 2) := by decide +kernel
theorem dX10_ring_71 : decode cX10_ring 71 = .ok (.iinc 5 1, 3) := by decide +kernel
theorem dX10_ring_74 : decode cX10_ring 74 = .ok (.goto (-18), 3) := by decide +kernel
theorem dX10_ring_77 : decode cX10_ring 77 = .ok (.iload 4, 2) := by decide +kernel
theorem dX10_ring_79 : decode cX10_ring 79 = .ok (.ireturn, 1) := by decide +kernel
set_option maxRecDepth 20000 in
theorem ggX10_count_X10_in : GoodIn wsX10_count wsX10_in := goodIn_r _ [9] (by decide +kernel) (by decide +kernel)
set_option maxRecDepth 20000 in
theorem gX10_count_X10_in : GoodIn wsX10_count (va_wsS RX10 73 yX10_in wsX10_in) := goodIn_app (goodIn_of _ (by decide +kernel)) ggX10_count_X10_in
theorem dX10_count_0 : decode cX10_count 0 = .ok (.iload_n 1, 1) := by decide +kernel
theorem dX10_count_1 : decode cX10_count 1 = .ok (.i2l, 1) := by decide +kernel
theorem dX10_count_2 : decode cX10_count 2 = .ok (.lconst 0, 1) := by decide +kernel
theorem dX10_count_3 : decode cX10_count 3 = .ok (.ldc2_w 253, 3) := by decide +kernel
theorem dX10_count_6 : decode cX10_count 6 = .ok (.invokestatic 73, 3) := by decide +kernel
theorem dX10_count_9 : decode cX10_count 9 = .ok (.ifCond .eq 15, 3) := by decide +kernel
theorem dX10_count_12 : decode cX10_count 12 = .ok (.iload_n 2, 1) := by decide +kernel
theorem dX10_count_13 : decode cX10_count 13 = .ok (.i2l, 1) := by decide +kernel
theorem dX10_count_14 : decode cX10_count 14 = .ok (.lconst 0, 1) := by decide +kernel
theorem dX10_count_15 : decode cX10_count 15 = .ok (.ldc2_w 255, 3) := by decide +kernel
theorem dX10_count_18 : decode cX10_count 18 = .ok (.invokestatic 73, 3) := by decide +kernel
theorem dX10_count_21 : decode cX10_count 21 = .ok (.ifCond .ne 6, 3) := by decide +kernel
theorem dX10_count_24 : decode cX10_count 24 = .ok (.bipush (-2), 2) := by decide +kernel
theorem dX10_count_26 : decode cX10_count 26 = .ok (.ireturn, 1) := by decide +kernel
theorem dX10_count_27 : decode cX10_count 27 = .ok (.aload_n 0, 1) := by decide +kernel
theorem dX10_count_28 : decode cX10_count 28 = .ok (.getfield 257, 3) := by decide +kernel
theorem dX10_count_31 : decode cX10_count 31 = .ok (.bipush 8, 2) := by decide +kernel
theorem dX10_count_33 : decode cX10_count 33 = .ok (.if_icmp .ne 6, 3) := by decide +kernel
theorem dX10_count_36 : decode cX10_count 36 = .ok (.bipush (-4), 2) := by decide +kernel
theorem dX10_count_38 : decode cX10_count 38 = .ok (.ireturn, 1) := by decide +kernel
theorem dX10_count_39 : decode cX10_count 39 = .ok (.aload_n 0, 1) := by decide +kernel
theorem dX10_count_40 : decode cX10_count 40 = .ok (.getfield 22, 3) := by decide +kernel
theorem dX10_count_43 : decode cX10_count 43 = .ok (.aload_n 0, 1) := by decide +kernel
theorem dX10_count_44 : decode cX10_count 44 = .ok (.getfield 257, 3) := by decide +kernel
theorem dX10_count_47 : decode cX10_count 47 = .ok (.iload_n 1, 1) := by decide +kernel
theorem dX10_count_48 : decode cX10_count 48 = .ok (.iastore, 1) := by decide +kernel
theorem dX10_count_49 : decode cX10_count 49 = .ok (.aload_n 0, 1) := by decide +kernel
theorem dX10_count_50 : decode cX10_count 50 = .ok (.getfield 25, 3) := by decide +kernel
theorem dX10_count_53 : decode cX10_count 53 = .ok (.aload_n 0, 1) := by decide +kernel
theorem dX10_count_54 : decode cX10_count 54 = .ok (.getfield 257, 3) := by decide +kernel
theorem dX10_count_57 : decode cX10_count 57 = .ok (.iload_n 2, 1) := by decide +kernel
theorem dX10_count_58 : decode cX10_count 58 = .ok (.iastore, 1) := by decide +kernel
theorem dX10_count_59 : decode cX10_count 59 = .ok (.aload_n 0, 1) := by decide +kernel
theorem dX10_count_60 : decode cX10_count 60 = .ok (.dup, 1) := by decide +kernel
theorem dX10_count_61 : decode cX10_count 61 = .ok (.getfield 257, 3) := by decide +kernel
theorem dX10_count_64 : decode cX10_count 64 = .ok (.iconst 1, 1) := by decide +kernel
theorem dX10_count_65 : decode cX10_count 65 = .ok (.iadd, 1) := by decide +kernel
theorem dX10_count_66 : decode cX10_count 66 = .ok (.putfield 257, 3) := by decide +kernel
theorem dX10_count_69 : decode cX10_count 69 = .ok (.aload_n 0, 1) := by decide +kernel
theorem dX10_count_70 : decode cX10_count 70 = .ok (.getfield 257, 3) := by decide +kernel
theorem dX10_count_73 : decode cX10_count 73 = .ok (.ireturn, 1) := by decide +kernel
theorem dX10_forget_0 : decode cX10_forget 0 = .ok (.aload_n 0, 1) := by decide +kernel
theorem dX10_forget_1 : decode cX10_forget 1 = .ok (.getfield 257, 3) := by decide +kernel
theorem dX10_forget_4 : decode cX10_forget 4 = .ok (.istore_n 1, 1) := by decide +kernel
theorem dX10_forget_5 : decode cX10_forget 5 = .ok (.aload_n 0, 1) := by decide +kernel
theorem dX10_forget_6 : decode cX10_forget 6 = .ok (.iconst 0, 1) := by decide +kernel
theorem dX10_forget_7 : decode cX10_forget 7 = .ok (.putfield 257, 3) := by decide +kernel
theorem dX10_forget_10 : decode cX10_forget 10 = .ok (.iload_n 1, 1) := by decide +kernel
theorem dX10_forget_11 : decode cX10_forget 11 = .ok (.ireturn, 1) := by decide +kernel
set_option maxRecDepth 20000 in
theorem ggX10_isFit_X10_ones : GoodIn wsX10_isFit wsX10_ones := goodIn_r _ [7] (by decide +kernel) (by decide +kernel)
set_option maxRecDepth 20000 in
theorem gX10_isFit_X10_ones : GoodIn wsX10_isFit (va_wsS RX10 103 yX10_ones wsX10_ones) := goodIn_app (goodIn_of _ (by decide +kernel)) ggX10_isFit_X10_ones
theorem dX10_isFit_0 : decode cX10_isFit 0 = .ok (.iconst 1, 1) := by decide +kernel
theorem dX10_isFit_1 : decode cX10_isFit 1 = .ok (.istore_n 2, 1) := by decide +kernel
theorem dX10_isFit_2 : decode cX10_isFit 2 = .ok (.iconst 0, 1) := by decide +kernel
theorem dX10_isFit_3 : decode cX10_isFit 3 = .ok (.istore_n 3, 1) := by decide +kernel
theorem dX10_isFit_4 : decode cX10_isFit 4 = .ok (.iload_n 3, 1) := by decide +kernel
theorem dX10_isFit_5 : decode cX10_isFit 5 = .ok (.aload_n 0, 1) := by decide +kernel
theorem dX10_isFit_6 : decode cX10_isFit 6 = .ok (.getfield 257, 3) := by decide +kernel
theorem dX10_isFit_9 : decode cX10_isFit 9 = .ok (.if_icmp .ge 39, 3) := by decide +kernel
theorem dX10_isFit_12 : decode cX10_isFit 12 = .ok (.iload_n 2, 1) := by decide +kernel
theorem dX10_isFit_13 : decode cX10_isFit 13 = .ok (.ifCond .eq 27, 3) := by decide +kernel
theorem dX10_isFit_16 : decode cX10_isFit 16 = .ok (.iload_n 1, 1) := by decide +kernel
theorem dX10_isFit_17 : decode cX10_isFit 17 = .ok (.aload_n 0, 1) := by decide +kernel
theorem dX10_isFit_18 : decode cX10_isFit 18 = .ok (.getfield 22, 3) := by decide +kernel
theorem dX10_isFit_21 : decode cX10_isFit 21 = .ok (.iload_n 3, 1) := by decide +kernel
theorem dX10_isFit_22 : decode cX10_isFit 22 = .ok (.iaload, 1) := by decide +kernel
theorem dX10_isFit_23 : decode cX10_isFit 23 = .ok (.iand, 1) := by decide +kernel
theorem dX10_isFit_24 : decode cX10_isFit 24 = .ok (.invokestatic 103, 3) := by decide +kernel
theorem dX10_isFit_27 : decode cX10_isFit 27 = .ok (.aload_n 0, 1) := by decide +kernel
theorem dX10_isFit_28 : decode cX10_isFit 28 = .ok (.getfield 25, 3) := by decide +kernel
theorem dX10_isFit_31 : decode cX10_isFit 31 = .ok (.iload_n 3, 1) := by decide +kernel
theorem dX10_isFit_32 : decode cX10_isFit 32 = .ok (.iaload, 1) := by decide +kernel
theorem dX10_isFit_33 : decode cX10_isFit 33 = .ok (.if_icmp .ne 7, 3) := by decide +kernel
theorem dX10_isFit_36 : decode cX10_isFit 36 = .ok (.iconst 1, 1) := by decide +kernel
theorem dX10_isFit_37 : decode cX10_isFit 37 = .ok (.goto 4, 3) := by decide +kernel
theorem dX10_isFit_40 : decode cX10_isFit 40 = .ok (.iconst 0, 1) := by decide +kernel
theorem dX10_isFit_41 : decode cX10_isFit 41 = .ok (.istore_n 2, 1) := by decide +kernel
theorem dX10_isFit_42 : decode cX10_isFit 42 = .ok (.iinc 3 1, 3) := by decide +kernel
theorem dX10_isFit_45 : decode cX10_isFit 45 = .ok (.goto (-41), 3) := by decide +kernel
theorem dX10_isFit_48 : decode cX10_isFit 48 = .ok (.iload_n 2, 1) := by decide +kernel
theorem dX10_isFit_49 : decode cX10_isFit 49 = .ok (.ireturn, 1) := by decide +kernel
set_option maxRecDepth 20000 in
theorem ggX10_findFits_X10_isFit : GoodIn wsX10_findFits wsX10_isFit := goodIn_r _ [7, 8, 9, 10, 11, 12, 6, 13, 14, 15, 16, 17, 18, 19, 20, 21, 22, 23, 24, 25, 26, 27, 28, 29, 30, 31, 32, 33, 34, 35, 36, 37, 38, 39, 40, 41, 42, 43, 44, 45, 46, 47, 48] (by decide +kernel) (by decide +kernel)
set_option maxRecDepth 20000 in
theorem gX10_findFits_X10_isFit : GoodIn wsX10_findFits (wsV RX10 263 RX10 yX10_isFit wsX10_isFit) := goodIn_app (goodIn_of _ (by decide +kernel)) ggX10_findFits_X10_isFit
theorem dX10_findFits_0 : decode cX10_findFits 0 = .ok (.aload_n 0, 1) := by decide +kernel
theorem dX10_findFits_1 : decode cX10_findFits 1 = .ok (.iconst 0, 1) := by decide +kernel
theorem dX10_findFits_2 : decode cX10_findFits 2 = .ok (.putfield 260, 3) := by decide +kernel
theorem dX10_findFits_5 : decode cX10_findFits 5 = .ok (.iconst 0, 1) := by decide +kernel
theorem dX10_findFits_6 : decode cX10_findFits 6 = .ok (.istore_n 1, 1) := by decide +kernel
theorem dX10_findFits_7 : decode cX10_findFits 7 = .ok (.iload_n 1, 1) := by decide +kernel
theorem dX10_findFits_8 : decode cX10_findFits 8 = .ok (.sipush 256, 3) := by decide +kernel
theorem dX10_findFits_11 : decode cX10_findFits 11 = .ok (.if_icmp .ge 37, 3) := by decide +kernel
theorem dX10_findFits_14 : decode cX10_findFits 14 = .ok (.aload_n 0, 1) := by decide +kernel
theorem dX10_findFits_15 : decode cX10_findFits 15 = .ok (.iload_n 1, 1) := by decide +kernel
theorem dX10_findFits_16 : decode cX10_findFits 16 = .ok (.invokevirtual 263, 3) := by decide +kernel
theorem dX10_findFits_19 : decode cX10_findFits 19 = .ok (.ifCond .eq 23, 3) := by decide +kernel
theorem dX10_findFits_22 : decode cX10_findFits 22 = .ok (.aload_n 0, 1) := by decide +kernel
theorem dX10_findFits_23 : decode cX10_findFits 23 = .ok (.getfield 58, 3) := by decide +kernel
theorem dX10_findFits_26 : decode cX10_findFits 26 = .ok (.aload_n 0, 1) := by decide +kernel
theorem dX10_findFits_27 : decode cX10_findFits 27 = .ok (.getfield 260, 3) := by decide +kernel
theorem dX10_findFits_30 : decode cX10_findFits 30 = .ok (.iload_n 1, 1) := by decide +kernel
theorem dX10_findFits_31 : decode cX10_findFits 31 = .ok (.iastore, 1) := by decide +kernel
theorem dX10_findFits_32 : decode cX10_findFits 32 = .ok (.aload_n 0, 1) := by decide +kernel
theorem dX10_findFits_33 : decode cX10_findFits 33 = .ok (.dup, 1) := by decide +kernel
theorem dX10_findFits_34 : decode cX10_findFits 34 = .ok (.getfield 260, 3) := by decide +kernel
theorem dX10_findFits_37 : decode cX10_findFits 37 = .ok (.iconst 1, 1) := by decide +kernel
theorem dX10_findFits_38 : decode cX10_findFits 38 = .ok (.iadd, 1) := by decide +kernel
theorem dX10_findFits_39 : decode cX10_findFits 39 = .ok (.putfield 260, 3) := by decide +kernel
theorem dX10_findFits_42 : decode cX10_findFits 42 = .ok (.iinc 1 1, 3) := by decide +kernel
theorem dX10_findFits_45 : decode cX10_findFits 45 = .ok (.goto (-38), 3) := by decide +kernel
theorem dX10_findFits_48 : decode cX10_findFits 48 = .ok (.return_, 1) := by decide +kernel
set_option maxRecDepth 20000 in
theorem ggX10_ever_X10_findFits : GoodIn wsX10_ever wsX10_findFits := goodIn_r _ [7, 1, 2, 8, 9, 10, 6, 11, 12, 13, 14, 15, 16, 17, 21, 22, 23, 24, 25, 26, 27, 28, 29, 30, 31, 32, 33, 34, 35, 36, 37, 38, 39, 40, 41, 42, 43, 44, 45, 46, 47, 48, 49, 50, 51, 52, 53, 54, 55] (by decide +kernel) (by decide +kernel)
set_option maxRecDepth 20000 in
theorem gX10_ever_X10_findFits : GoodIn wsX10_ever (wsV RX10 266 RX10 yX10_findFits wsX10_findFits) := goodIn_app (goodIn_of _ (by decide +kernel)) ggX10_ever_X10_findFits
set_option maxRecDepth 20000 in
theorem ggX10_ever_X10_in : GoodIn wsX10_ever wsX10_in := goodIn_r _ [20] (by decide +kernel) (by decide +kernel)
set_option maxRecDepth 20000 in
theorem gX10_ever_X10_in : GoodIn wsX10_ever (va_wsS RX10 73 yX10_in wsX10_in) := goodIn_app (goodIn_of _ (by decide +kernel)) ggX10_ever_X10_in
theorem dX10_ever_0 : decode cX10_ever 0 = .ok (.aload_n 0, 1) := by decide +kernel
theorem dX10_ever_1 : decode cX10_ever 1 = .ok (.invokevirtual 266, 3) := by decide +kernel
theorem dX10_ever_4 : decode cX10_ever 4 = .ok (.iload_n 1, 1) := by decide +kernel
theorem dX10_ever_5 : decode cX10_ever 5 = .ok (.iconst (-1), 1) := by decide +kernel
theorem dX10_ever_6 : decode cX10_ever 6 = .ok (.if_icmp .ne 10, 3) := by decide +kernel
theorem dX10_ever_9 : decode cX10_ever 9 = .ok (.aload_n 0, 1) := by decide +kernel
theorem dX10_ever_10 : decode cX10_ever 10 = .ok (.getfield 260, 3) := by decide +kernel
theorem dX10_ever_13 : decode cX10_ever 13 = .ok (.goto 30, 3) := by decide +kernel
theorem dX10_ever_16 : decode cX10_ever 16 = .ok (.iload_n 1, 1) := by decide +kernel
theorem dX10_ever_17 : decode cX10_ever 17 = .ok (.i2l, 1) := by decide +kernel
theorem dX10_ever_18 : decode cX10_ever 18 = .ok (.lconst 0, 1) := by decide +kernel
theorem dX10_ever_19 : decode cX10_ever 19 = .ok (.aload_n 0, 1) := by decide +kernel
theorem dX10_ever_20 : decode cX10_ever 20 = .ok (.getfield 260, 3) := by decide +kernel
theorem dX10_ever_23 : decode cX10_ever 23 = .ok (.iconst 1, 1) := by decide +kernel
theorem dX10_ever_24 : decode cX10_ever 24 = .ok (.isub, 1) := by decide +kernel
theorem dX10_ever_25 : decode cX10_ever 25 = .ok (.i2l, 1) := by decide +kernel
theorem dX10_ever_26 : decode cX10_ever 26 = .ok (.invokestatic 73, 3) := by decide +kernel
theorem dX10_ever_29 : decode cX10_ever 29 = .ok (.ifCond .eq 12, 3) := by decide +kernel
theorem dX10_ever_32 : decode cX10_ever 32 = .ok (.aload_n 0, 1) := by decide +kernel
theorem dX10_ever_33 : decode cX10_ever 33 = .ok (.getfield 58, 3) := by decide +kernel
theorem dX10_ever_36 : decode cX10_ever 36 = .ok (.iload_n 1, 1) := by decide +kernel
theorem dX10_ever_37 : decode cX10_ever 37 = .ok (.iaload, 1) := by decide +kernel
theorem dX10_ever_38 : decode cX10_ever 38 = .ok (.goto 5, 3) := by decide +kernel
theorem dX10_ever_41 : decode cX10_ever 41 = .ok (.bipush (-6), 2) := by decide +kernel
theorem dX10_ever_43 : decode cX10_ever 43 = .ok (.ireturn, 1) := by decide +kernel
set_option maxRecDepth 20000 in
theorem ggX10_mostLeft_X10_ones : GoodIn wsX10_mostLeft wsX10_ones := goodIn_r _ [7] (by decide +kernel) (by decide +kernel)
set_option maxRecDepth 20000 in
theorem gX10_mostLeft_X10_ones : GoodIn wsX10_mostLeft (va_wsS RX10 103 yX10_ones wsX10_ones) := goodIn_app (goodIn_of _ (by decide +kernel)) ggX10_mostLeft_X10_ones
theorem dX10_mostLeft_0 : decode cX10_mostLeft 0 = .ok (.iconst 0, 1) := by decide +kernel
theorem dX10_mostLeft_1 : decode cX10_mostLeft 1 = .ok (.istore_n 2, 1) := by decide +kernel
theorem dX10_mostLeft_2 : decode cX10_mostLeft 2 = .ok (.iconst 0, 1) := by decide +kernel
theorem dX10_mostLeft_3 : decode cX10_mostLeft 3 = .ok (.istore_n 3, 1) := by decide +kernel
theorem dX10_mostLeft_4 : decode cX10_mostLeft 4 = .ok (.iload_n 3, 1) := by decide +kernel
theorem dX10_mostLeft_5 : decode cX10_mostLeft 5 = .ok (.bipush 9, 2) := by decide +kernel
theorem dX10_mostLeft_7 : decode cX10_mostLeft 7 = .ok (.if_icmp .ge 16, 3) := by decide +kernel
theorem dX10_mostLeft_10 : decode cX10_mostLeft 10 = .ok (.aload_n 0, 1) := by decide +kernel
theorem dX10_mostLeft_11 : decode cX10_mostLeft 11 = .ok (.getfield 61, 3) := by decide +kernel
theorem dX10_mostLeft_14 : decode cX10_mostLeft 14 = .ok (.iload_n 3, 1) := by decide +kernel
theorem dX10_mostLeft_15 : decode cX10_mostLeft 15 = .ok (.iconst 0, 1) := by decide +kernel
theorem dX10_mostLeft_16 : decode cX10_mostLeft 16 = .ok (.iastore, 1) := by decide +kernel
theorem dX10_mostLeft_17 : decode cX10_mostLeft 17 = .ok (.iinc 3 1, 3) := by decide +kernel
theorem dX10_mostLeft_20 : decode cX10_mostLeft 20 = .ok (.goto (-16), 3) := by decide +kernel
theorem dX10_mostLeft_23 : decode cX10_mostLeft 23 = .ok (.iconst 0, 1) := by decide +kernel
theorem dX10_mostLeft_24 : decode cX10_mostLeft 24 = .ok (.istore_n 3, 1) := by decide +kernel
theorem dX10_mostLeft_25 : decode cX10_mostLeft 25 = .ok (.iload_n 3, 1) := by decide +kernel
theorem dX10_mostLeft_26 : decode cX10_mostLeft 26 = .ok (.aload_n 0, 1) := by decide +kernel
theorem dX10_mostLeft_27 : decode cX10_mostLeft 27 = .ok (.getfield 260, 3) := by decide +kernel
theorem dX10_mostLeft_30 : decode cX10_mostLeft 30 = .ok (.if_icmp .ge 56, 3) := by decide +kernel
theorem dX10_mostLeft_33 : decode cX10_mostLeft 33 = .ok (.aload_n 0, 1) := by decide +kernel
theorem dX10_mostLeft_34 : decode cX10_mostLeft 34 = .ok (.getfield 58, 3) := by decide +kernel
theorem dX10_mostLeft_37 : decode cX10_mostLeft 37 = .ok (.iload_n 3, 1) := by decide +kernel
theorem dX10_mostLeft_38 : decode cX10_mostLeft 38 = .ok (.iaload, 1) := by decide +kernel
theorem dX10_mostLeft_39 : decode cX10_mostLeft 39 = .ok (.iload_n 1, 1) := by decide +kernel
theorem dX10_mostLeft_40 : decode cX10_mostLeft 40 = .ok (.iand, 1) := by decide +kernel
theorem dX10_mostLeft_41 : decode cX10_mostLeft 41 = .ok (.invokestatic 103, 3) := by decide +kernel
theorem dX10_mostLeft_44 : decode cX10_mostLeft 44 = .ok (.istore 4, 2) := by decide +kernel
theorem dX10_mostLeft_46 : decode cX10_mostLeft 46 = .ok (.aload_n 0, 1) := by decide +kernel
theorem dX10_mostLeft_47 : decode cX10_mostLeft 47 = .ok (.getfield 61, 3) := by decide +kernel
theorem dX10_mostLeft_50 : decode cX10_mostLeft 50 = .ok (.iload 4, 2) := by decide +kernel
theorem dX10_mostLeft_52 : decode cX10_mostLeft 52 = .ok (.dup2, 1) := by decide +kernel
theorem dX10_mostLeft_53 : decode cX10_mostLeft 53 = .ok (.iaload, 1) := by decide +kernel
theorem dX10_mostLeft_54 : decode cX10_mostLeft 54 = .ok (.iconst 1, 1) := by decide +kernel
theorem dX10_mostLeft_55 : decode cX10_mostLeft 55 = .ok (.iadd, 1) := by decide +kernel
theorem dX10_mostLeft_56 : decode cX10_mostLeft 56 = .ok (.iastore, 1) := by decide +kernel
theorem dX10_mostLeft_57 : decode cX10_mostLeft 57 = .ok (.aload_n 0, 1) := by decide +kernel
theorem dX10_mostLeft_58 : decode cX10_mostLeft 58 = .ok (.getfield 61, 3) := by decide +kernel
theorem dX10_mostLeft_61 : decode cX10_mostLeft 61 = .ok (.iload 4, 2) := by decide +kernel
theorem dX10_mostLeft_63 : decode cX10_mostLeft 63 = .ok (.iaload, 1) := by decide +kernel
theorem dX10_mostLeft_64 : decode cX10_mostLeft 64 = .ok (.iload_n 2, 1) := by decide +kernel
theorem dX10_mostLeft_65 : decode cX10_mostLeft 65 = .ok (.if_icmp .le 13, 3) := by decide +kernel
theorem dX10_mostLeft_68 : decode cX10_mostLeft 68 = .ok (.aload_n 0, 1) := by decide +kernel
theorem dX10_mostLeft_69 : decode cX10_mostLeft 69 = .ok (.getfield 61, 3) := by decide +kernel
theorem dX10_mostLeft_72 : decode cX10_mostLeft 72 = .ok (.iload 4, 2) := by decide +kernel
theorem dX10_mostLeft_74 : decode cX10_mostLeft 74 = .ok (.iaload, 1) := by decide +kernel
theorem dX10_mostLeft_75 : decode cX10_mostLeft 75 = .ok (.goto 4, 3) := by decide +kernel
theorem dX10_mostLeft_78 : decode cX10_mostLeft 78 = .ok (.iload_n 2, 1) := by decide +kernel
theorem dX10_mostLeft_79 : decode cX10_mostLeft 79 = .ok (.istore_n 2, 1) := by decide +kernel
theorem dX10_mostLeft_80 : decode cX10_mostLeft 80 = .ok (.iinc 3 1, 3) := by decide +kernel
theorem dX10_mostLeft_83 : decode cX10_mostLeft 83 = .ok (.goto (-58), 3) := by decide +kernel
theorem dX10_mostLeft_86 : decode cX10_mostLeft 86 = .ok (.iload_n 2, 1) := by decide +kernel
theorem dX10_mostLeft_87 : decode cX10_mostLeft 87 = .ok (.ireturn, 1) := by decide +kernel
set_option maxRecDepth 20000 in
theorem ggX10_ask_X10_in : GoodIn wsX10_ask wsX10_in := goodIn_r _ [5] (by decide +kernel) (by decide +kernel)
set_option maxRecDepth 20000 in
theorem gX10_ask_X10_in : GoodIn wsX10_ask (va_wsS RX10 73 yX10_in wsX10_in) := goodIn_app (goodIn_of _ (by decide +kernel)) ggX10_ask_X10_in
set_option maxRecDepth 20000 in
theorem ggX10_ask_X10_findFits : GoodIn wsX10_ask wsX10_findFits := goodIn_r _ [9, 1, 10, 11, 12, 13, 4, 14, 15, 16, 17, 18, 19, 20, 29, 30, 31, 32, 33, 34, 35, 36, 37, 38, 39, 40, 41, 42, 43, 44, 45, 46, 47, 48, 49, 50, 51, 52, 53, 54, 55, 56, 57, 58, 59, 60, 61, 62, 63] (by decide +kernel) (by decide +kernel)
set_option maxRecDepth 20000 in
theorem gX10_ask_X10_findFits : GoodIn wsX10_ask (wsV RX10 266 RX10 yX10_findFits wsX10_findFits) := goodIn_app (goodIn_of _ (by decide +kernel)) ggX10_ask_X10_findFits
set_option maxRecDepth 20000 in
theorem ggX10_ask_X10_mostLeft : GoodIn wsX10_ask wsX10_mostLeft := goodIn_r _ [24, 25, 1, 10, 18, 19, 4, 20, 29, 30, 31, 32, 33, 34, 35, 36, 37, 38, 39, 40, 41, 42, 43, 44, 45, 46, 47, 48, 49, 50, 51, 52, 53, 54, 55, 56, 57, 58, 59, 60, 61, 62, 63] (by decide +kernel) (by decide +kernel)
set_option maxRecDepth 20000 in
theorem gX10_ask_X10_mostLeft : GoodIn wsX10_ask (wsV RX10 269 RX10 yX10_mostLeft wsX10_mostLeft) := goodIn_app (goodIn_of _ (by decide +kernel)) ggX10_ask_X10_mostLeft
set_option maxRecDepth 20000 in
theorem ggX10_ask_X10_less : GoodIn wsX10_ask wsX10_less := goodIn_r _ [28] (by decide +kernel) (by decide +kernel)
set_option maxRecDepth 20000 in
theorem gX10_ask_X10_less : GoodIn wsX10_ask (va_wsS RX10 161 yX10_less wsX10_less) := goodIn_app (goodIn_of _ (by decide +kernel)) ggX10_ask_X10_less
theorem dX10_ask_0 : decode cX10_ask 0 = .ok (.iload_n 1, 1) := by decide +kernel
theorem dX10_ask_1 : decode cX10_ask 1 = .ok (.i2l, 1) := by decide +kernel
theorem dX10_ask_2 : decode cX10_ask 2 = .ok (.lconst 0, 1) := by decide +kernel
theorem dX10_ask_3 : decode cX10_ask 3 = .ok (.lconst 1, 1) := by decide +kernel
theorem dX10_ask_4 : decode cX10_ask 4 = .ok (.invokestatic 73, 3) := by decide +kernel
theorem dX10_ask_7 : decode cX10_ask 7 = .ok (.ifCond .ne 6, 3) := by decide +kernel
theorem dX10_ask_10 : decode cX10_ask 10 = .ok (.bipush (-2), 2) := by decide +kernel
theorem dX10_ask_12 : decode cX10_ask 12 = .ok (.ireturn, 1) := by decide +kernel
theorem dX10_ask_13 : decode cX10_ask 13 = .ok (.aload_n 0, 1) := by decide +kernel
theorem dX10_ask_14 : decode cX10_ask 14 = .ok (.invokevirtual 266, 3) := by decide +kernel
theorem dX10_ask_17 : decode cX10_ask 17 = .ok (.iconst 0, 1) := by decide +kernel
theorem dX10_ask_18 : decode cX10_ask 18 = .ok (.istore_n 2, 1) := by decide +kernel
theorem dX10_ask_19 : decode cX10_ask 19 = .ok (.aload_n 0, 1) := by decide +kernel
theorem dX10_ask_20 : decode cX10_ask 20 = .ok (.getfield 260, 3) := by decide +kernel
theorem dX10_ask_23 : decode cX10_ask 23 = .ok (.istore_n 3, 1) := by decide +kernel
theorem dX10_ask_24 : decode cX10_ask 24 = .ok (.iconst 1, 1) := by decide +kernel
theorem dX10_ask_25 : decode cX10_ask 25 = .ok (.istore 4, 2) := by decide +kernel
theorem dX10_ask_27 : decode cX10_ask 27 = .ok (.iload 4, 2) := by decide +kernel
theorem dX10_ask_29 : decode cX10_ask 29 = .ok (.sipush 256, 3) := by decide +kernel
theorem dX10_ask_32 : decode cX10_ask 32 = .ok (.if_icmp .ge 44, 3) := by decide +kernel
theorem dX10_ask_35 : decode cX10_ask 35 = .ok (.aload_n 0, 1) := by decide +kernel
theorem dX10_ask_36 : decode cX10_ask 36 = .ok (.getfield 260, 3) := by decide +kernel
theorem dX10_ask_39 : decode cX10_ask 39 = .ok (.ifCond .le 37, 3) := by decide +kernel
theorem dX10_ask_42 : decode cX10_ask 42 = .ok (.aload_n 0, 1) := by decide +kernel
theorem dX10_ask_43 : decode cX10_ask 43 = .ok (.iload 4, 2) := by decide +kernel
theorem dX10_ask_45 : decode cX10_ask 45 = .ok (.invokevirtual 269, 3) := by decide +kernel
theorem dX10_ask_48 : decode cX10_ask 48 = .ok (.istore 5, 2) := by decide +kernel
theorem dX10_ask_50 : decode cX10_ask 50 = .ok (.iload 5, 2) := by decide +kernel
theorem dX10_ask_52 : decode cX10_ask 52 = .ok (.iload_n 3, 1) := by decide +kernel
theorem dX10_ask_53 : decode cX10_ask 53 = .ok (.if_icmp .ge 8, 3) := by decide +kernel
theorem dX10_ask_56 : decode cX10_ask 56 = .ok (.iload 4, 2) := by decide +kernel
theorem dX10_ask_58 : decode cX10_ask 58 = .ok (.goto 4, 3) := by decide +kernel
theorem dX10_ask_61 : decode cX10_ask 61 = .ok (.iload_n 2, 1) := by decide +kernel
theorem dX10_ask_62 : decode cX10_ask 62 = .ok (.istore_n 2, 1) := by decide +kernel
theorem dX10_ask_63 : decode cX10_ask 63 = .ok (.iload_n 3, 1) := by decide +kernel
theorem dX10_ask_64 : decode cX10_ask 64 = .ok (.iload 5, 2) := by decide +kernel
theorem dX10_ask_66 : decode cX10_ask 66 = .ok (.invokestatic 161, 3) := by decide +kernel
theorem dX10_ask_69 : decode cX10_ask 69 = .ok (.istore_n 3, 1) := by decide +kernel
theorem dX10_ask_70 : decode cX10_ask 70 = .ok (.iinc 4 1, 3) := by decide +kernel
theorem dX10_ask_73 : decode cX10_ask 73 = .ok (.goto (-46), 3) := by decide +kernel
theorem dX10_ask_76 : decode cX10_ask 76 = .ok (.aload_n 0, 1) := by decide +kernel
theorem dX10_ask_77 : decode cX10_ask 77 = .ok (.getfield 260, 3) := by decide +kernel
theorem dX10_ask_80 : decode cX10_ask 80 = .ok (.ifCond .ne 8, 3) := by decide +kernel
theorem dX10_ask_83 : decode cX10_ask 83 = .ok (.bipush (-6), 2) := by decide +kernel
theorem dX10_ask_85 : decode cX10_ask 85 = .ok (.goto 12, 3) := by decide +kernel
theorem dX10_ask_88 : decode cX10_ask 88 = .ok (.iload_n 1, 1) := by decide +kernel
theorem dX10_ask_89 : decode cX10_ask 89 = .ok (.ifCond .ne 7, 3) := by decide +kernel
theorem dX10_ask_92 : decode cX10_ask 92 = .ok (.iload_n 2, 1) := by decide +kernel
theorem dX10_ask_93 : decode cX10_ask 93 = .ok (.goto 4, 3) := by decide +kernel
theorem dX10_ask_96 : decode cX10_ask 96 = .ok (.iload_n 3, 1) := by decide +kernel
theorem dX10_ask_97 : decode cX10_ask 97 = .ok (.ireturn, 1) := by decide +kernel
theorem dX10_wins_0 : decode cX10_wins 0 = .ok (.iload_n 0, 1) := by decide +kernel
theorem dX10_wins_1 : decode cX10_wins 1 = .ok (.iload_n 1, 1) := by decide +kernel
theorem dX10_wins_2 : decode cX10_wins 2 = .ok (.if_icmp .ge 7, 3) := by decide +kernel
theorem dX10_wins_5 : decode cX10_wins 5 = .ok (.iload_n 1, 1) := by decide +kernel
theorem dX10_wins_6 : decode cX10_wins 6 = .ok (.goto 4, 3) := by decide +kernel
theorem dX10_wins_9 : decode cX10_wins 9 = .ok (.iload_n 0, 1) := by decide +kernel
theorem dX10_wins_10 : decode cX10_wins 10 = .ok (.istore_n 2, 1) := by decide +kernel
theorem dX10_wins_11 : decode cX10_wins 11 = .ok (.iload_n 0, 1) := by decide +kernel
theorem dX10_wins_12 : decode cX10_wins 12 = .ok (.iload_n 1, 1) := by decide +kernel
theorem dX10_wins_13 : decode cX10_wins 13 = .ok (.if_icmp .ge 7, 3) := by decide +kernel
theorem dX10_wins_16 : decode cX10_wins 16 = .ok (.iload_n 0, 1) := by decide +kernel
theorem dX10_wins_17 : decode cX10_wins 17 = .ok (.goto 4, 3) := by decide +kernel
theorem dX10_wins_20 : decode cX10_wins 20 = .ok (.iload_n 1, 1) := by decide +kernel
theorem dX10_wins_21 : decode cX10_wins 21 = .ok (.istore_n 3, 1) := by decide +kernel
theorem dX10_wins_22 : decode cX10_wins 22 = .ok (.iconst 1, 1) := by decide +kernel
theorem dX10_wins_23 : decode cX10_wins 23 = .ok (.istore 4, 2) := by decide +kernel
theorem dX10_wins_25 : decode cX10_wins 25 = .ok (.iload_n 3, 1) := by decide +kernel
theorem dX10_wins_26 : decode cX10_wins 26 = .ok (.ifCond .le 40, 3) := by decide +kernel
theorem dX10_wins_29 : decode cX10_wins 29 = .ok (.iload_n 2, 1) := by decide +kernel
theorem dX10_wins_30 : decode cX10_wins 30 = .ok (.iload_n 3, 1) := by decide +kernel
theorem dX10_wins_31 : decode cX10_wins 31 = .ok (.idiv, 1) := by decide +kernel
theorem dX10_wins_32 : decode cX10_wins 32 = .ok (.iconst 1, 1) := by decide +kernel
theorem dX10_wins_33 : decode cX10_wins 33 = .ok (.if_icmp .ne 33, 3) := by decide +kernel
theorem dX10_wins_36 : decode cX10_wins 36 = .ok (.iload_n 2, 1) := by decide +kernel
theorem dX10_wins_37 : decode cX10_wins 37 = .ok (.iload_n 3, 1) := by decide +kernel
theorem dX10_wins_38 : decode cX10_wins 38 = .ok (.if_icmp .le 28, 3) := by decide +kernel
theorem dX10_wins_41 : decode cX10_wins 41 = .ok (.iload_n 2, 1) := by decide +kernel
theorem dX10_wins_42 : decode cX10_wins 42 = .ok (.iload_n 3, 1) := by decide +kernel
theorem dX10_wins_43 : decode cX10_wins 43 = .ok (.isub, 1) := by decide +kernel
theorem dX10_wins_44 : decode cX10_wins 44 = .ok (.istore 5, 2) := by decide +kernel
theorem dX10_wins_46 : decode cX10_wins 46 = .ok (.iload_n 3, 1) := by decide +kernel
theorem dX10_wins_47 : decode cX10_wins 47 = .ok (.istore_n 2, 1) := by decide +kernel
theorem dX10_wins_48 : decode cX10_wins 48 = .ok (.iload 5, 2) := by decide +kernel
theorem dX10_wins_50 : decode cX10_wins 50 = .ok (.istore_n 3, 1) := by decide +kernel
theorem dX10_wins_51 : decode cX10_wins 51 = .ok (.iload 4, 2) := by decide +kernel
theorem dX10_wins_53 : decode cX10_wins 53 = .ok (.ifCond .ne 7, 3) := by decide +kernel
theorem dX10_wins_56 : decode cX10_wins 56 = .ok (.iconst 1, 1) := by decide +kernel
theorem dX10_wins_57 : decode cX10_wins 57 = .ok (.goto 4, 3) := by decide +kernel
theorem dX10_wins_60 : decode cX10_wins 60 = .ok (.iconst 0, 1) := by decide +kernel
theorem dX10_wins_61 : decode cX10_wins 61 = .ok (.istore 4, 2) := by decide +kernel
theorem dX10_wins_63 : decode cX10_wins 63 = .ok (.goto (-38), 3) := by decide +kernel
theorem dX10_wins_66 : decode cX10_wins 66 = .ok (.iload_n 3, 1) := by decide +kernel
theorem dX10_wins_67 : decode cX10_wins 67 = .ok (.ifCond .le 7, 3) := by decide +kernel
theorem dX10_wins_70 : decode cX10_wins 70 = .ok (.iconst 1, 1) := by decide +kernel
theorem dX10_wins_71 : decode cX10_wins 71 = .ok (.goto 4, 3) := by decide +kernel
theorem dX10_wins_74 : decode cX10_wins 74 = .ok (.iconst 0, 1) := by decide +kernel
theorem dX10_wins_75 : decode cX10_wins 75 = .ok (.iload 4, 2) := by decide +kernel
theorem dX10_wins_77 : decode cX10_wins 77 = .ok (.if_icmp .ne 7, 3) := by decide +kernel
theorem dX10_wins_80 : decode cX10_wins 80 = .ok (.iconst 1, 1) := by decide +kernel
theorem dX10_wins_81 : decode cX10_wins 81 = .ok (.goto 4, 3) := by decide +kernel
theorem dX10_wins_84 : decode cX10_wins 84 = .ok (.iconst 0, 1) := by decide +kernel
theorem dX10_wins_85 : decode cX10_wins 85 = .ok (.ireturn, 1) := by decide +kernel
set_option maxRecDepth 20000 in
theorem ggX10_leastShare_X10_wins : GoodIn wsX10_leastShare wsX10_wins := goodIn_r _ [4] (by decide +kernel) (by decide +kernel)
set_option maxRecDepth 20000 in
theorem gX10_leastShare_X10_wins : GoodIn wsX10_leastShare (va_wsS RX10 272 yX10_wins wsX10_wins) := goodIn_app (goodIn_of _ (by decide +kernel)) ggX10_leastShare_X10_wins
theorem dX10_leastShare_0 : decode cX10_leastShare 0 = .ok (.iload_n 0, 1) := by decide +kernel
theorem dX10_leastShare_1 : decode cX10_leastShare 1 = .ok (.iload_n 1, 1) := by decide +kernel
theorem dX10_leastShare_2 : decode cX10_leastShare 2 = .ok (.if_icmp .ge 7, 3) := by decide +kernel
theorem dX10_leastShare_5 : decode cX10_leastShare 5 = .ok (.iload_n 1, 1) := by decide +kernel
theorem dX10_leastShare_6 : decode cX10_leastShare 6 = .ok (.goto 4, 3) := by decide +kernel
theorem dX10_leastShare_9 : decode cX10_leastShare 9 = .ok (.iload_n 0, 1) := by decide +kernel
theorem dX10_leastShare_10 : decode cX10_leastShare 10 = .ok (.istore_n 2, 1) := by decide +kernel
theorem dX10_leastShare_11 : decode cX10_leastShare 11 = .ok (.iload_n 0, 1) := by decide +kernel
theorem dX10_leastShare_12 : decode cX10_leastShare 12 = .ok (.iload_n 1, 1) := by decide +kernel
theorem dX10_leastShare_13 : decode cX10_leastShare 13 = .ok (.if_icmp .ge 7, 3) := by decide +kernel
theorem dX10_leastShare_16 : decode cX10_leastShare 16 = .ok (.iload_n 0, 1) := by decide +kernel
theorem dX10_leastShare_17 : decode cX10_leastShare 17 = .ok (.goto 4, 3) := by decide +kernel
theorem dX10_leastShare_20 : decode cX10_leastShare 20 = .ok (.iload_n 1, 1) := by decide +kernel
theorem dX10_leastShare_21 : decode cX10_leastShare 21 = .ok (.istore_n 3, 1) := by decide +kernel
theorem dX10_leastShare_22 : decode cX10_leastShare 22 = .ok (.bipush (-6), 2) := by decide +kernel
theorem dX10_leastShare_24 : decode cX10_leastShare 24 = .ok (.istore 4, 2) := by decide +kernel
theorem dX10_leastShare_26 : decode cX10_leastShare 26 = .ok (.iload_n 3, 1) := by decide +kernel
theorem dX10_leastShare_27 : decode cX10_leastShare 27 = .ok (.ifCond .ne 7, 3) := by decide +kernel
theorem dX10_leastShare_30 : decode cX10_leastShare 30 = .ok (.iconst 0, 1) := by decide +kernel
theorem dX10_leastShare_31 : decode cX10_leastShare 31 = .ok (.goto 6, 3) := by decide +kernel
theorem dX10_leastShare_34 : decode cX10_leastShare 34 = .ok (.iload_n 2, 1) := by decide +kernel
theorem dX10_leastShare_35 : decode cX10_leastShare 35 = .ok (.iload_n 3, 1) := by decide +kernel
theorem dX10_leastShare_36 : decode cX10_leastShare 36 = .ok (.idiv, 1) := by decide +kernel
theorem dX10_leastShare_37 : decode cX10_leastShare 37 = .ok (.istore 5, 2) := by decide +kernel
theorem dX10_leastShare_39 : decode cX10_leastShare 39 = .ok (.iload 5, 2) := by decide +kernel
theorem dX10_leastShare_41 : decode cX10_leastShare 41 = .ok (.ifCond .le 31, 3) := by decide +kernel
theorem dX10_leastShare_44 : decode cX10_leastShare 44 = .ok (.iload_n 2, 1) := by decide +kernel
theorem dX10_leastShare_45 : decode cX10_leastShare 45 = .ok (.iload 5, 2) := by decide +kernel
theorem dX10_leastShare_47 : decode cX10_leastShare 47 = .ok (.iload_n 3, 1) := by decide +kernel
theorem dX10_leastShare_48 : decode cX10_leastShare 48 = .ok (.imul, 1) := by decide +kernel
theorem dX10_leastShare_49 : decode cX10_leastShare 49 = .ok (.isub, 1) := by decide +kernel
theorem dX10_leastShare_50 : decode cX10_leastShare 50 = .ok (.iload_n 3, 1) := by decide +kernel
theorem dX10_leastShare_51 : decode cX10_leastShare 51 = .ok (.invokestatic 272, 3) := by decide +kernel
theorem dX10_leastShare_54 : decode cX10_leastShare 54 = .ok (.ifCond .eq 8, 3) := by decide +kernel
theorem dX10_leastShare_57 : decode cX10_leastShare 57 = .ok (.iload 4, 2) := by decide +kernel
theorem dX10_leastShare_59 : decode cX10_leastShare 59 = .ok (.goto 5, 3) := by decide +kernel
theorem dX10_leastShare_62 : decode cX10_leastShare 62 = .ok (.iload 5, 2) := by decide +kernel
theorem dX10_leastShare_64 : decode cX10_leastShare 64 = .ok (.istore 4, 2) := by decide +kernel
theorem dX10_leastShare_66 : decode cX10_leastShare 66 = .ok (.iinc 5 (-1), 3) := by decide +kernel
theorem dX10_leastShare_69 : decode cX10_leastShare 69 = .ok (.goto (-30), 3) := by decide +kernel
theorem dX10_leastShare_72 : decode cX10_leastShare 72 = .ok (.iload 4, 2) := by decide +kernel
theorem dX10_leastShare_74 : decode cX10_leastShare 74 = .ok (.ireturn, 1) := by decide +kernel
set_option maxRecDepth 20000 in
theorem ggX10_crumbs_X10_in : GoodIn wsX10_crumbs wsX10_in := goodIn_r _ [5] (by decide +kernel) (by decide +kernel)
set_option maxRecDepth 20000 in
theorem gX10_crumbs_X10_in : GoodIn wsX10_crumbs (va_wsS RX10 73 yX10_in wsX10_in) := goodIn_app (goodIn_of _ (by decide +kernel)) ggX10_crumbs_X10_in
set_option maxRecDepth 20000 in
theorem ggX10_crumbs_X10_leastShare : GoodIn wsX10_crumbs wsX10_leastShare := goodIn_r _ [8, 9, 10, 4, 11] (by decide +kernel) (by decide +kernel)
set_option maxRecDepth 20000 in
theorem gX10_crumbs_X10_leastShare : GoodIn wsX10_crumbs (va_wsS RX10 275 yX10_leastShare wsX10_leastShare) := goodIn_app (goodIn_of _ (by decide +kernel)) ggX10_crumbs_X10_leastShare
theorem dX10_crumbs_0 : decode cX10_crumbs 0 = .ok (.iload_n 1, 1) := by decide +kernel
theorem dX10_crumbs_1 : decode cX10_crumbs 1 = .ok (.i2l, 1) := by decide +kernel
theorem dX10_crumbs_2 : decode cX10_crumbs 2 = .ok (.lconst 0, 1) := by decide +kernel
theorem dX10_crumbs_3 : decode cX10_crumbs 3 = .ok (.ldc2_w 81, 3) := by decide +kernel
theorem dX10_crumbs_6 : decode cX10_crumbs 6 = .ok (.invokestatic 73, 3) := by decide +kernel
theorem dX10_crumbs_9 : decode cX10_crumbs 9 = .ok (.ifCond .eq 25, 3) := by decide +kernel
theorem dX10_crumbs_12 : decode cX10_crumbs 12 = .ok (.iload_n 2, 1) := by decide +kernel
theorem dX10_crumbs_13 : decode cX10_crumbs 13 = .ok (.i2l, 1) := by decide +kernel
theorem dX10_crumbs_14 : decode cX10_crumbs 14 = .ok (.lconst 0, 1) := by decide +kernel
theorem dX10_crumbs_15 : decode cX10_crumbs 15 = .ok (.ldc2_w 81, 3) := by decide +kernel
theorem dX10_crumbs_18 : decode cX10_crumbs 18 = .ok (.invokestatic 73, 3) := by decide +kernel
theorem dX10_crumbs_21 : decode cX10_crumbs 21 = .ok (.ifCond .eq 13, 3) := by decide +kernel
theorem dX10_crumbs_24 : decode cX10_crumbs 24 = .ok (.iload_n 3, 1) := by decide +kernel
theorem dX10_crumbs_25 : decode cX10_crumbs 25 = .ok (.i2l, 1) := by decide +kernel
theorem dX10_crumbs_26 : decode cX10_crumbs 26 = .ok (.lconst 0, 1) := by decide +kernel
theorem dX10_crumbs_27 : decode cX10_crumbs 27 = .ok (.lconst 1, 1) := by decide +kernel
theorem dX10_crumbs_28 : decode cX10_crumbs 28 = .ok (.invokestatic 73, 3) := by decide +kernel
theorem dX10_crumbs_31 : decode cX10_crumbs 31 = .ok (.ifCond .ne 6, 3) := by decide +kernel
theorem dX10_crumbs_34 : decode cX10_crumbs 34 = .ok (.bipush (-2), 2) := by decide +kernel
theorem dX10_crumbs_36 : decode cX10_crumbs 36 = .ok (.ireturn, 1) := by decide +kernel
theorem dX10_crumbs_37 : decode cX10_crumbs 37 = .ok (.iload_n 1, 1) := by decide +kernel
theorem dX10_crumbs_38 : decode cX10_crumbs 38 = .ok (.iload_n 2, 1) := by decide +kernel
theorem dX10_crumbs_39 : decode cX10_crumbs 39 = .ok (.invokestatic 275, 3) := by decide +kernel
theorem dX10_crumbs_42 : decode cX10_crumbs 42 = .ok (.istore 4, 2) := by decide +kernel
theorem dX10_crumbs_44 : decode cX10_crumbs 44 = .ok (.iload_n 3, 1) := by decide +kernel
theorem dX10_crumbs_45 : decode cX10_crumbs 45 = .ok (.iconst 1, 1) := by decide +kernel
theorem dX10_crumbs_46 : decode cX10_crumbs 46 = .ok (.if_icmp .ne 8, 3) := by decide +kernel
theorem dX10_crumbs_49 : decode cX10_crumbs 49 = .ok (.iload 4, 2) := by decide +kernel
theorem dX10_crumbs_51 : decode cX10_crumbs 51 = .ok (.goto 13, 3) := by decide +kernel
theorem dX10_crumbs_54 : decode cX10_crumbs 54 = .ok (.iload 4, 2) := by decide +kernel
theorem dX10_crumbs_56 : decode cX10_crumbs 56 = .ok (.ifCond .ge 7, 3) := by decide +kernel
theorem dX10_crumbs_59 : decode cX10_crumbs 59 = .ok (.iconst 0, 1) := by decide +kernel
theorem dX10_crumbs_60 : decode cX10_crumbs 60 = .ok (.goto 4, 3) := by decide +kernel
theorem dX10_crumbs_63 : decode cX10_crumbs 63 = .ok (.iconst 1, 1) := by decide +kernel
theorem dX10_crumbs_64 : decode cX10_crumbs 64 = .ok (.ireturn, 1) := by decide +kernel
theorem dX10_lowest_0 : decode cX10_lowest 0 = .ok (.lload_n 2, 1) := by decide +kernel
theorem dX10_lowest_1 : decode cX10_lowest 1 = .ok (.lstore 5, 2) := by decide +kernel
theorem dX10_lowest_3 : decode cX10_lowest 3 = .ok (.lload_n 0, 1) := by decide +kernel
theorem dX10_lowest_4 : decode cX10_lowest 4 = .ok (.lstore 7, 2) := by decide +kernel
theorem dX10_lowest_6 : decode cX10_lowest 6 = .ok (.lload 7, 2) := by decide +kernel
theorem dX10_lowest_8 : decode cX10_lowest 8 = .ok (.lconst 0, 1) := by decide +kernel
theorem dX10_lowest_9 : decode cX10_lowest 9 = .ok (.lcmp, 1) := by decide +kernel
theorem dX10_lowest_10 : decode cX10_lowest 10 = .ok (.ifCond .eq 21, 3) := by decide +kernel
theorem dX10_lowest_13 : decode cX10_lowest 13 = .ok (.lload 5, 2) := by decide +kernel
theorem dX10_lowest_15 : decode cX10_lowest 15 = .ok (.lload 7, 2) := by decide +kernel
theorem dX10_lowest_17 : decode cX10_lowest 17 = .ok (.lrem, 1) := by decide +kernel
theorem dX10_lowest_18 : decode cX10_lowest 18 = .ok (.lstore 9, 2) := by decide +kernel
theorem dX10_lowest_20 : decode cX10_lowest 20 = .ok (.lload 7, 2) := by decide +kernel
theorem dX10_lowest_22 : decode cX10_lowest 22 = .ok (.lstore 5, 2) := by decide +kernel
theorem dX10_lowest_24 : decode cX10_lowest 24 = .ok (.lload 9, 2) := by decide +kernel
theorem dX10_lowest_26 : decode cX10_lowest 26 = .ok (.lstore 7, 2) := by decide +kernel
theorem dX10_lowest_28 : decode cX10_lowest 28 = .ok (.goto (-22), 3) := by decide +kernel
theorem dX10_lowest_31 : decode cX10_lowest 31 = .ok (.iload 4, 2) := by decide +kernel
theorem dX10_lowest_33 : decode cX10_lowest 33 = .ok (.ifCond .ne 10, 3) := by decide +kernel
theorem dX10_lowest_36 : decode cX10_lowest 36 = .ok (.lload_n 0, 1) := by decide +kernel
theorem dX10_lowest_37 : decode cX10_lowest 37 = .ok (.lload 5, 2) := by decide +kernel
theorem dX10_lowest_39 : decode cX10_lowest 39 = .ok (.ldiv, 1) := by decide +kernel
theorem dX10_lowest_40 : decode cX10_lowest 40 = .ok (.goto 7, 3) := by decide +kernel
theorem dX10_lowest_43 : decode cX10_lowest 43 = .ok (.lload_n 2, 1) := by decide +kernel
theorem dX10_lowest_44 : decode cX10_lowest 44 = .ok (.lload 5, 2) := by decide +kernel
theorem dX10_lowest_46 : decode cX10_lowest 46 = .ok (.ldiv, 1) := by decide +kernel
theorem dX10_lowest_47 : decode cX10_lowest 47 = .ok (.lreturn, 1) := by decide +kernel
theorem dX10_choose_0 : decode cX10_choose 0 = .ok (.lconst 1, 1) := by decide +kernel
theorem dX10_choose_1 : decode cX10_choose 1 = .ok (.lstore_n 2, 1) := by decide +kernel
theorem dX10_choose_2 : decode cX10_choose 2 = .ok (.iconst 0, 1) := by decide +kernel
theorem dX10_choose_3 : decode cX10_choose 3 = .ok (.istore 4, 2) := by decide +kernel
theorem dX10_choose_5 : decode cX10_choose 5 = .ok (.iload 4, 2) := by decide +kernel
theorem dX10_choose_7 : decode cX10_choose 7 = .ok (.iload_n 1, 1) := by decide +kernel
theorem dX10_choose_8 : decode cX10_choose 8 = .ok (.if_icmp .ge 23, 3) := by decide +kernel
theorem dX10_choose_11 : decode cX10_choose 11 = .ok (.lload_n 2, 1) := by decide +kernel
theorem dX10_choose_12 : decode cX10_choose 12 = .ok (.iload_n 0, 1) := by decide +kernel
theorem dX10_choose_13 : decode cX10_choose 13 = .ok (.iload 4, 2) := by decide +kernel
theorem dX10_choose_15 : decode cX10_choose 15 = .ok (.isub, 1) := by decide +kernel
theorem dX10_choose_16 : decode cX10_choose 16 = .ok (.i2l, 1) := by decide +kernel
theorem dX10_choose_17 : decode cX10_choose 17 = .ok (.lmul, 1) := by decide +kernel
theorem dX10_choose_18 : decode cX10_choose 18 = .ok (.iload 4, 2) := by decide +kernel
theorem dX10_choose_20 : decode cX10_choose 20 = .ok (.iconst 1, 1) := by decide +kernel
theorem dX10_choose_21 : decode cX10_choose 21 = .ok (.iadd, 1) := by decide +kernel
theorem dX10_choose_22 : decode cX10_choose 22 = .ok (.i2l, 1) := by decide +kernel
theorem dX10_choose_23 : decode cX10_choose 23 = .ok (.ldiv, 1) := by decide +kernel
theorem dX10_choose_24 : decode cX10_choose 24 = .ok (.lstore_n 2, 1) := by decide +kernel
theorem dX10_choose_25 : decode cX10_choose 25 = .ok (.iinc 4 1, 3) := by decide +kernel
theorem dX10_choose_28 : decode cX10_choose 28 = .ok (.goto (-23), 3) := by decide +kernel
theorem dX10_choose_31 : decode cX10_choose 31 = .ok (.lload_n 2, 1) := by decide +kernel
theorem dX10_choose_32 : decode cX10_choose 32 = .ok (.lreturn, 1) := by decide +kernel
theorem dX10_strangers_0 : decode cX10_strangers 0 = .ok (.lconst 1, 1) := by decide +kernel
theorem dX10_strangers_1 : decode cX10_strangers 1 = .ok (.lstore_n 1, 1) := by decide +kernel
theorem dX10_strangers_2 : decode cX10_strangers 2 = .ok (.iload_n 0, 1) := by decide +kernel
theorem dX10_strangers_3 : decode cX10_strangers 3 = .ok (.ifCond .ne 7, 3) := by decide +kernel
theorem dX10_strangers_6 : decode cX10_strangers 6 = .ok (.lconst 1, 1) := by decide +kernel
theorem dX10_strangers_7 : decode cX10_strangers 7 = .ok (.goto 4, 3) := by decide +kernel
theorem dX10_strangers_10 : decode cX10_strangers 10 = .ok (.lconst 0, 1) := by decide +kernel
theorem dX10_strangers_11 : decode cX10_strangers 11 = .ok (.lstore_n 3, 1) := by decide +kernel
theorem dX10_strangers_12 : decode cX10_strangers 12 = .ok (.iconst 2, 1) := by decide +kernel
theorem dX10_strangers_13 : decode cX10_strangers 13 = .ok (.istore 5, 2) := by decide +kernel
theorem dX10_strangers_15 : decode cX10_strangers 15 = .ok (.iload 5, 2) := by decide +kernel
theorem dX10_strangers_17 : decode cX10_strangers 17 = .ok (.iload_n 0, 1) := by decide +kernel
theorem dX10_strangers_18 : decode cX10_strangers 18 = .ok (.if_icmp .gt 25, 3) := by decide +kernel
theorem dX10_strangers_21 : decode cX10_strangers 21 = .ok (.iload 5, 2) := by decide +kernel
theorem dX10_strangers_23 : decode cX10_strangers 23 = .ok (.iconst 1, 1) := by decide +kernel
theorem dX10_strangers_24 : decode cX10_strangers 24 = .ok (.isub, 1) := by decide +kernel
theorem dX10_strangers_25 : decode cX10_strangers 25 = .ok (.i2l, 1) := by decide +kernel
theorem dX10_strangers_26 : decode cX10_strangers 26 = .ok (.lload_n 3, 1) := by decide +kernel
theorem dX10_strangers_27 : decode cX10_strangers 27 = .ok (.lload_n 1, 1) := by decide +kernel
theorem dX10_strangers_28 : decode cX10_strangers 28 = .ok (.ladd, 1) := by decide +kernel
theorem dX10_strangers_29 : decode cX10_strangers 29 = .ok (.lmul, 1) := by decide +kernel
theorem dX10_strangers_30 : decode cX10_strangers 30 = .ok (.lstore 6, 2) := by decide +kernel
theorem dX10_strangers_32 : decode cX10_strangers 32 = .ok (.lload_n 3, 1) := by decide +kernel
theorem dX10_strangers_33 : decode cX10_strangers 33 = .ok (.lstore_n 1, 1) := by decide +kernel
theorem dX10_strangers_34 : decode cX10_strangers 34 = .ok (.lload 6, 2) := by decide +kernel
theorem dX10_strangers_36 : decode cX10_strangers 36 = .ok (.lstore_n 3, 1) := by decide +kernel
theorem dX10_strangers_37 : decode cX10_strangers 37 = .ok (.iinc 5 1, 3) := by decide +kernel
theorem dX10_strangers_40 : decode cX10_strangers 40 = .ok (.goto (-25), 3) := by decide +kernel
theorem dX10_strangers_43 : decode cX10_strangers 43 = .ok (.lload_n 3, 1) := by decide +kernel
theorem dX10_strangers_44 : decode cX10_strangers 44 = .ok (.lreturn, 1) := by decide +kernel
set_option maxRecDepth 20000 in
theorem ggX10_lots_X10_in : GoodIn wsX10_lots wsX10_in := goodIn_r _ [6] (by decide +kernel) (by decide +kernel)
set_option maxRecDepth 20000 in
theorem gX10_lots_X10_in : GoodIn wsX10_lots (va_wsS RX10 73 yX10_in wsX10_in) := goodIn_app (goodIn_of _ (by decide +kernel)) ggX10_lots_X10_in
set_option maxRecDepth 20000 in
theorem ggX10_lots_X10_choose : GoodIn wsX10_lots wsX10_choose := goodIn_r _ [9] (by decide +kernel) (by decide +kernel)
set_option maxRecDepth 20000 in
theorem gX10_lots_X10_choose : GoodIn wsX10_lots (va_wsS RX10 282 yX10_choose wsX10_choose) := goodIn_app (goodIn_of _ (by decide +kernel)) ggX10_lots_X10_choose
set_option maxRecDepth 20000 in
theorem ggX10_lots_X10_strangers : GoodIn wsX10_lots wsX10_strangers := goodIn_r _ [12] (by decide +kernel) (by decide +kernel)
set_option maxRecDepth 20000 in
theorem gX10_lots_X10_strangers : GoodIn wsX10_lots (va_wsS RX10 286 yX10_strangers wsX10_strangers) := goodIn_app (goodIn_of _ (by decide +kernel)) ggX10_lots_X10_strangers
set_option maxRecDepth 20000 in
theorem ggX10_lots_X10_lowest : GoodIn wsX10_lots wsX10_lowest := goodIn_r _ [15] (by decide +kernel) (by decide +kernel)
set_option maxRecDepth 20000 in
theorem gX10_lots_X10_lowest : GoodIn wsX10_lots (va_wsS RX10 290 yX10_lowest wsX10_lowest) := goodIn_app (goodIn_of _ (by decide +kernel)) ggX10_lots_X10_lowest
theorem dX10_lots_0 : decode cX10_lots 0 = .ok (.iload_n 1, 1) := by decide +kernel
theorem dX10_lots_1 : decode cX10_lots 1 = .ok (.i2l, 1) := by decide +kernel
theorem dX10_lots_2 : decode cX10_lots 2 = .ok (.lconst 0, 1) := by decide +kernel
theorem dX10_lots_3 : decode cX10_lots 3 = .ok (.ldc2_w 278, 3) := by decide +kernel
theorem dX10_lots_6 : decode cX10_lots 6 = .ok (.invokestatic 73, 3) := by decide +kernel
theorem dX10_lots_9 : decode cX10_lots 9 = .ok (.ifCond .eq 35, 3) := by decide +kernel
theorem dX10_lots_12 : decode cX10_lots 12 = .ok (.iload_n 2, 1) := by decide +kernel
theorem dX10_lots_13 : decode cX10_lots 13 = .ok (.i2l, 1) := by decide +kernel
theorem dX10_lots_14 : decode cX10_lots 14 = .ok (.lconst 0, 1) := by decide +kernel
theorem dX10_lots_15 : decode cX10_lots 15 = .ok (.iload_n 1, 1) := by decide +kernel
theorem dX10_lots_16 : decode cX10_lots 16 = .ok (.i2l, 1) := by decide +kernel
theorem dX10_lots_17 : decode cX10_lots 17 = .ok (.invokestatic 73, 3) := by decide +kernel
theorem dX10_lots_20 : decode cX10_lots 20 = .ok (.ifCond .eq 24, 3) := by decide +kernel
theorem dX10_lots_23 : decode cX10_lots 23 = .ok (.iload_n 3, 1) := by decide +kernel
theorem dX10_lots_24 : decode cX10_lots 24 = .ok (.i2l, 1) := by decide +kernel
theorem dX10_lots_25 : decode cX10_lots 25 = .ok (.lconst 0, 1) := by decide +kernel
theorem dX10_lots_26 : decode cX10_lots 26 = .ok (.lconst 1, 1) := by decide +kernel
theorem dX10_lots_27 : decode cX10_lots 27 = .ok (.invokestatic 73, 3) := by decide +kernel
theorem dX10_lots_30 : decode cX10_lots 30 = .ok (.ifCond .eq 14, 3) := by decide +kernel
theorem dX10_lots_33 : decode cX10_lots 33 = .ok (.iload 4, 2) := by decide +kernel
theorem dX10_lots_35 : decode cX10_lots 35 = .ok (.i2l, 1) := by decide +kernel
theorem dX10_lots_36 : decode cX10_lots 36 = .ok (.lconst 0, 1) := by decide +kernel
theorem dX10_lots_37 : decode cX10_lots 37 = .ok (.lconst 1, 1) := by decide +kernel
theorem dX10_lots_38 : decode cX10_lots 38 = .ok (.invokestatic 73, 3) := by decide +kernel
theorem dX10_lots_41 : decode cX10_lots 41 = .ok (.ifCond .ne 7, 3) := by decide +kernel
theorem dX10_lots_44 : decode cX10_lots 44 = .ok (.ldc2_w 280, 3) := by decide +kernel
theorem dX10_lots_47 : decode cX10_lots 47 = .ok (.lreturn, 1) := by decide +kernel
theorem dX10_lots_48 : decode cX10_lots 48 = .ok (.lconst 0, 1) := by decide +kernel
theorem dX10_lots_49 : decode cX10_lots 49 = .ok (.lstore 5, 2) := by decide +kernel
theorem dX10_lots_51 : decode cX10_lots 51 = .ok (.lconst 0, 1) := by decide +kernel
theorem dX10_lots_52 : decode cX10_lots 52 = .ok (.lstore 7, 2) := by decide +kernel
theorem dX10_lots_54 : decode cX10_lots 54 = .ok (.iconst 0, 1) := by decide +kernel
theorem dX10_lots_55 : decode cX10_lots 55 = .ok (.istore 9, 2) := by decide +kernel
theorem dX10_lots_57 : decode cX10_lots 57 = .ok (.iload 9, 2) := by decide +kernel
theorem dX10_lots_59 : decode cX10_lots 59 = .ok (.iload_n 1, 1) := by decide +kernel
theorem dX10_lots_60 : decode cX10_lots 60 = .ok (.if_icmp .gt 60, 3) := by decide +kernel
theorem dX10_lots_63 : decode cX10_lots 63 = .ok (.iload_n 1, 1) := by decide +kernel
theorem dX10_lots_64 : decode cX10_lots 64 = .ok (.iload 9, 2) := by decide +kernel
theorem dX10_lots_66 : decode cX10_lots 66 = .ok (.invokestatic 282, 3) := by decide +kernel
theorem dX10_lots_69 : decode cX10_lots 69 = .ok (.iload_n 1, 1) := by decide +kernel
theorem dX10_lots_70 : decode cX10_lots 70 = .ok (.iload 9, 2) := by decide +kernel
theorem dX10_lots_72 : decode cX10_lots 72 = .ok (.isub, 1) := by decide +kernel
theorem dX10_lots_73 : decode cX10_lots 73 = .ok (.invokestatic 286, 3) := by decide +kernel
theorem dX10_lots_76 : decode cX10_lots 76 = .ok (.lmul, 1) := by decide +kernel
theorem dX10_lots_77 : decode cX10_lots 77 = .ok (.lstore 10, 2) := by decide +kernel
theorem dX10_lots_79 : decode cX10_lots 79 = .ok (.lload 7, 2) := by decide +kernel
theorem dX10_lots_81 : decode cX10_lots 81 = .ok (.lload 10, 2) := by decide +kernel
theorem dX10_lots_83 : decode cX10_lots 83 = .ok (.ladd, 1) := by decide +kernel
theorem dX10_lots_84 : decode cX10_lots 84 = .ok (.lstore 7, 2) := by decide +kernel
theorem dX10_lots_86 : decode cX10_lots 86 = .ok (.lload 5, 2) := by decide +kernel
theorem dX10_lots_88 : decode cX10_lots 88 = .ok (.iload 9, 2) := by decide +kernel
theorem dX10_lots_90 : decode cX10_lots 90 = .ok (.iload_n 2, 1) := by decide +kernel
theorem dX10_lots_91 : decode cX10_lots 91 = .ok (.if_icmp .eq 14, 3) := by decide +kernel
theorem dX10_lots_94 : decode cX10_lots 94 = .ok (.iload 9, 2) := by decide +kernel
theorem dX10_lots_96 : decode cX10_lots 96 = .ok (.iload_n 2, 1) := by decide +kernel
theorem dX10_lots_97 : decode cX10_lots 97 = .ok (.if_icmp .le 13, 3) := by decide +kernel
theorem dX10_lots_100 : decode cX10_lots 100 = .ok (.iload_n 3, 1) := by decide +kernel
theorem dX10_lots_101 : decode cX10_lots 101 = .ok (.iconst 1, 1) := by decide +kernel
theorem dX10_lots_102 : decode cX10_lots 102 = .ok (.if_icmp .ne 8, 3) := by decide +kernel
theorem dX10_lots_105 : decode cX10_lots 105 = .ok (.lload 10, 2) := by decide +kernel
theorem dX10_lots_107 : decode cX10_lots 107 = .ok (.goto 4, 3) := by decide +kernel
theorem dX10_lots_110 : decode cX10_lots 110 = .ok (.lconst 0, 1) := by decide +kernel
theorem dX10_lots_111 : decode cX10_lots 111 = .ok (.ladd, 1) := by decide +kernel
theorem dX10_lots_112 : decode cX10_lots 112 = .ok (.lstore 5, 2) := by decide +kernel
theorem dX10_lots_114 : decode cX10_lots 114 = .ok (.iinc 9 1, 3) := by decide +kernel
theorem dX10_lots_117 : decode cX10_lots 117 = .ok (.goto (-60), 3) := by decide +kernel
theorem dX10_lots_120 : decode cX10_lots 120 = .ok (.lload 5, 2) := by decide +kernel
theorem dX10_lots_122 : decode cX10_lots 122 = .ok (.lload 7, 2) := by decide +kernel
theorem dX10_lots_124 : decode cX10_lots 124 = .ok (.iload 4, 2) := by decide +kernel
theorem dX10_lots_126 : decode cX10_lots 126 = .ok (.invokestatic 290, 3) := by decide +kernel
theorem dX10_lots_129 : decode cX10_lots 129 = .ok (.lreturn, 1) := by decide +kernel
theorem dX10_actBy_0 : decode cX10_actBy 0 = .ok (.iload_n 0, 1) := by decide +kernel
theorem dX10_actBy_1 : decode cX10_actBy 1 = .ok (.tableswitch 55 0 7 #[47, 49, 55, 55, 55, 51, 53, 53], 47) := by decide +kernel
theorem dX10_actBy_48 : decode cX10_actBy 48 = .ok (.iconst 0, 1) := by decide +kernel
theorem dX10_actBy_49 : decode cX10_actBy 49 = .ok (.ireturn, 1) := by decide +kernel
theorem dX10_actBy_50 : decode cX10_actBy 50 = .ok (.iconst 1, 1) := by decide +kernel
theorem dX10_actBy_51 : decode cX10_actBy 51 = .ok (.ireturn, 1) := by decide +kernel
theorem dX10_actBy_52 : decode cX10_actBy 52 = .ok (.iconst 3, 1) := by decide +kernel
theorem dX10_actBy_53 : decode cX10_actBy 53 = .ok (.ireturn, 1) := by decide +kernel
theorem dX10_actBy_54 : decode cX10_actBy 54 = .ok (.iconst 4, 1) := by decide +kernel
theorem dX10_actBy_55 : decode cX10_actBy 55 = .ok (.ireturn, 1) := by decide +kernel
theorem dX10_actBy_56 : decode cX10_actBy 56 = .ok (.iconst 2, 1) := by decide +kernel
theorem dX10_actBy_57 : decode cX10_actBy 57 = .ok (.ireturn, 1) := by decide +kernel
set_option maxRecDepth 20000 in
theorem ggX10_century_X10_in : GoodIn wsX10_century wsX10_in := goodIn_r _ [13] (by decide +kernel) (by decide +kernel)
set_option maxRecDepth 20000 in
theorem gX10_century_X10_in : GoodIn wsX10_century (va_wsS RX10 73 yX10_in wsX10_in) := goodIn_app (goodIn_of _ (by decide +kernel)) ggX10_century_X10_in
set_option maxRecDepth 20000 in
theorem ggX10_century_X10_keepNow : GoodIn wsX10_century wsX10_keepNow := goodIn_r _ [17, 18, 8, 19, 20, 9, 21, 22, 69, 70, 71, 72, 73, 74, 75, 76, 77, 78, 79, 80, 81, 82, 83, 84, 85, 86, 87, 88, 89, 90, 91, 92, 93, 94, 95, 96, 97, 98, 99, 100, 101, 102, 103] (by decide +kernel) (by decide +kernel)
set_option maxRecDepth 20000 in
theorem gX10_century_X10_keepNow : GoodIn wsX10_century (wsV RX10 208 RX10 yX10_keepNow wsX10_keepNow) := goodIn_app (goodIn_of _ (by decide +kernel)) ggX10_century_X10_keepNow
set_option maxRecDepth 20000 in
theorem ggX10_century_X10_actBy : GoodIn wsX10_century wsX10_actBy := goodIn_r _ [25] (by decide +kernel) (by decide +kernel)
set_option maxRecDepth 20000 in
theorem gX10_century_X10_actBy : GoodIn wsX10_century (va_wsS RX10 302 yX10_actBy wsX10_actBy) := goodIn_app (goodIn_of _ (by decide +kernel)) ggX10_century_X10_actBy
set_option maxRecDepth 20000 in
theorem ggX10_century_X10_whyNot : GoodIn wsX10_century wsX10_whyNot := goodIn_r _ [29, 9, 22, 30, 31, 12, 32, 33, 34, 35, 36, 8, 69, 70, 71, 72, 73, 74, 75, 76, 77, 78, 79, 80, 81, 82, 83, 84, 85, 86, 87, 88, 89, 90, 91, 92, 93, 94, 95, 96, 97, 98, 99, 100, 101, 102, 103] (by decide +kernel) (by decide +kernel)
set_option maxRecDepth 20000 in
theorem gX10_century_X10_whyNot : GoodIn wsX10_century (wsV RX10 201 RX10 yX10_whyNot wsX10_whyNot) := goodIn_app (goodIn_of _ (by decide +kernel)) ggX10_century_X10_whyNot
