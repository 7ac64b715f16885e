theorem dX0_init_0 : decode cX0_init 0 = .ok (.aload_n 0, 1) := by decide +kernel
theorem dX0_init_1 : decode cX0_init 1 = .ok (.invokespecial 3, 3) := by decide +kernel
theorem dX0_init_4 : decode cX0_init 4 = .ok (.aload_n 0, 1) := by decide +kernel
theorem dX0_init_5 : decode cX0_init 5 = .ok (.bipush 8, 2) := by decide +kernel
theorem dX0_init_7 : decode cX0_init 7 = .ok (.newarray .int, 2) := by decide +kernel
theorem dX0_init_9 : decode cX0_init 9 = .ok (.putfield 9, 3) := by decide +kernel
theorem dX0_init_12 : decode cX0_init 12 = .ok (.aload_n 0, 1) := by decide +kernel
theorem dX0_init_13 : decode cX0_init 13 = .ok (.sipush 256, 3) := by decide +kernel
theorem dX0_init_16 : decode cX0_init 16 = .ok (.newarray .int, 2) := by decide +kernel
theorem dX0_init_18 : decode cX0_init 18 = .ok (.putfield 15, 3) := by decide +kernel
theorem dX0_init_21 : decode cX0_init 21 = .ok (.return_, 1) := by decide +kernel
set_option maxRecDepth 20000 in
theorem ggX0_work_X5_dueOf : GoodIn wsX0_work wsX5_dueOf := goodIn_r _ [7, 8, 21, 22, 23, 24, 25, 26] (by decide +kernel) (by decide +kernel)
set_option maxRecDepth 20000 in
theorem gX0_work_X5_dueOf_n22 : GoodIn wsX0_work (wsX5_dueOf) := ggX0_work_X5_dueOf
set_option maxRecDepth 20000 in
theorem ggX0_work_X0_workSet : GoodIn wsX0_work wsX0_workSet := goodIn_r _ [13, 2, 3, 14, 15, 16, 17, 18, 19, 20] (by decide +kernel) (by decide +kernel)
set_option maxRecDepth 20000 in
theorem gX0_work_X0_workSet : GoodIn wsX0_work (wsV RX0 28 RX0 yX0_workSet wsX0_workSet) := goodIn_app (goodIn_of _ (by decide +kernel)) ggX0_work_X0_workSet
theorem dX0_work_0 : decode cX0_work 0 = .ok (.aload_n 0, 1) := by decide +kernel
theorem dX0_work_1 : decode cX0_work 1 = .ok (.iconst 0, 1) := by decide +kernel
theorem dX0_work_2 : decode cX0_work 2 = .ok (.putfield 18, 3) := by decide +kernel
theorem dX0_work_5 : decode cX0_work 5 = .ok (.iconst 0, 1) := by decide +kernel
theorem dX0_work_6 : decode cX0_work 6 = .ok (.istore_n 2, 1) := by decide +kernel
theorem dX0_work_7 : decode cX0_work 7 = .ok (.iload_n 2, 1) := by decide +kernel
theorem dX0_work_8 : decode cX0_work 8 = .ok (.bipush 8, 2) := by decide +kernel
theorem dX0_work_10 : decode cX0_work 10 = .ok (.if_icmp .ge 41, 3) := by decide +kernel
theorem dX0_work_13 : decode cX0_work 13 = .ok (.aload_n 0, 1) := by decide +kernel
theorem dX0_work_14 : decode cX0_work 14 = .ok (.getfield 9, 3) := by decide +kernel
theorem dX0_work_17 : decode cX0_work 17 = .ok (.iload_n 2, 1) := by decide +kernel
theorem dX0_work_18 : decode cX0_work 18 = .ok (.aload_n 1, 1) := by decide +kernel
theorem dX0_work_19 : decode cX0_work 19 = .ok (.iload_n 2, 1) := by decide +kernel
theorem dX0_work_20 : decode cX0_work 20 = .ok (.invokevirtual 22, 3) := by decide +kernel
theorem dX0_work_23 : decode cX0_work 23 = .ok (.iastore, 1) := by decide +kernel
theorem dX0_work_24 : decode cX0_work 24 = .ok (.aload_n 0, 1) := by decide +kernel
theorem dX0_work_25 : decode cX0_work 25 = .ok (.getfield 9, 3) := by decide +kernel
theorem dX0_work_28 : decode cX0_work 28 = .ok (.iload_n 2, 1) := by decide +kernel
theorem dX0_work_29 : decode cX0_work 29 = .ok (.iaload, 1) := by decide +kernel
theorem dX0_work_30 : decode cX0_work 30 = .ok (.ifCond .eq 15, 3) := by decide +kernel
theorem dX0_work_33 : decode cX0_work 33 = .ok (.aload_n 0, 1) := by decide +kernel
theorem dX0_work_34 : decode cX0_work 34 = .ok (.dup, 1) := by decide +kernel
theorem dX0_work_35 : decode cX0_work 35 = .ok (.getfield 18, 3) := by decide +kernel
theorem dX0_work_38 : decode cX0_work 38 = .ok (.iconst 1, 1) := by decide +kernel
theorem dX0_work_39 : decode cX0_work 39 = .ok (.iload_n 2, 1) := by decide +kernel
theorem dX0_work_40 : decode cX0_work 40 = .ok (.ishl, 1) := by decide +kernel
theorem dX0_work_41 : decode cX0_work 41 = .ok (.ior, 1) := by decide +kernel
theorem dX0_work_42 : decode cX0_work 42 = .ok (.putfield 18, 3) := by decide +kernel
theorem dX0_work_45 : decode cX0_work 45 = .ok (.iinc 2 1, 3) := by decide +kernel
theorem dX0_work_48 : decode cX0_work 48 = .ok (.goto (-41), 3) := by decide +kernel
theorem dX0_work_51 : decode cX0_work 51 = .ok (.aload_n 0, 1) := by decide +kernel
theorem dX0_work_52 : decode cX0_work 52 = .ok (.getfield 15, 3) := by decide +kernel
theorem dX0_work_55 : decode cX0_work 55 = .ok (.iconst 0, 1) := by decide +kernel
theorem dX0_work_56 : decode cX0_work 56 = .ok (.iconst 0, 1) := by decide +kernel
theorem dX0_work_57 : decode cX0_work 57 = .ok (.iastore, 1) := by decide +kernel
theorem dX0_work_58 : decode cX0_work 58 = .ok (.iconst 1, 1) := by decide +kernel
theorem dX0_work_59 : decode cX0_work 59 = .ok (.istore_n 2, 1) := by decide +kernel
theorem dX0_work_60 : decode cX0_work 60 = .ok (.iload_n 2, 1) := by decide +kernel
theorem dX0_work_61 : decode cX0_work 61 = .ok (.sipush 256, 3) := by decide +kernel
theorem dX0_work_64 : decode cX0_work 64 = .ok (.if_icmp .ge 14, 3) := by decide +kernel
theorem dX0_work_67 : decode cX0_work 67 = .ok (.aload_n 0, 1) := by decide +kernel
theorem dX0_work_68 : decode cX0_work 68 = .ok (.iload_n 2, 1) := by decide +kernel
theorem dX0_work_69 : decode cX0_work 69 = .ok (.invokevirtual 28, 3) := by decide +kernel
theorem dX0_work_72 : decode cX0_work 72 = .ok (.iinc 2 1, 3) := by decide +kernel
theorem dX0_work_75 : decode cX0_work 75 = .ok (.goto (-15), 3) := by decide +kernel
theorem dX0_work_78 : decode cX0_work 78 = .ok (.return_, 1) := by decide +kernel
theorem dX0_workSet_0 : decode cX0_workSet 0 = .ok (.iconst 0, 1) := by decide +kernel
theorem dX0_workSet_1 : decode cX0_workSet 1 = .ok (.istore_n 2, 1) := by decide +kernel
theorem dX0_workSet_2 : decode cX0_workSet 2 = .ok (.iconst 0, 1) := by decide +kernel
theorem dX0_workSet_3 : decode cX0_workSet 3 = .ok (.istore_n 3, 1) := by decide +kernel
theorem dX0_workSet_4 : decode cX0_workSet 4 = .ok (.iconst 0, 1) := by decide +kernel
theorem dX0_workSet_5 : decode cX0_workSet 5 = .ok (.istore 4, 2) := by decide +kernel
theorem dX0_workSet_7 : decode cX0_workSet 7 = .ok (.iload 4, 2) := by decide +kernel
theorem dX0_workSet_9 : decode cX0_workSet 9 = .ok (.bipush 8, 2) := by decide +kernel
theorem dX0_workSet_11 : decode cX0_workSet 11 = .ok (.if_icmp .ge 47, 3) := by decide +kernel
theorem dX0_workSet_14 : decode cX0_workSet 14 = .ok (.iload_n 1, 1) := by decide +kernel
theorem dX0_workSet_15 : decode cX0_workSet 15 = .ok (.iload 4, 2) := by decide +kernel
theorem dX0_workSet_17 : decode cX0_workSet 17 = .ok (.ishr, 1) := by decide +kernel
theorem dX0_workSet_18 : decode cX0_workSet 18 = .ok (.iconst 1, 1) := by decide +kernel
theorem dX0_workSet_19 : decode cX0_workSet 19 = .ok (.iand, 1) := by decide +kernel
theorem dX0_workSet_20 : decode cX0_workSet 20 = .ok (.iconst 1, 1) := by decide +kernel
theorem dX0_workSet_21 : decode cX0_workSet 21 = .ok (.if_icmp .ne 31, 3) := by decide +kernel
theorem dX0_workSet_24 : decode cX0_workSet 24 = .ok (.iload_n 2, 1) := by decide +kernel
theorem dX0_workSet_25 : decode cX0_workSet 25 = .ok (.aload_n 0, 1) := by decide +kernel
theorem dX0_workSet_26 : decode cX0_workSet 26 = .ok (.getfield 9, 3) := by decide +kernel
theorem dX0_workSet_29 : decode cX0_workSet 29 = .ok (.iload 4, 2) := by decide +kernel
theorem dX0_workSet_31 : decode cX0_workSet 31 = .ok (.iaload, 1) := by decide +kernel
theorem dX0_workSet_32 : decode cX0_workSet 32 = .ok (.iadd, 1) := by decide +kernel
theorem dX0_workSet_33 : decode cX0_workSet 33 = .ok (.istore_n 2, 1) := by decide +kernel
theorem dX0_workSet_34 : decode cX0_workSet 34 = .ok (.iload_n 3, 1) := by decide +kernel
theorem dX0_workSet_35 : decode cX0_workSet 35 = .ok (.aload_n 0, 1) := by decide +kernel
theorem dX0_workSet_36 : decode cX0_workSet 36 = .ok (.getfield 15, 3) := by decide +kernel
theorem dX0_workSet_39 : decode cX0_workSet 39 = .ok (.iload_n 1, 1) := by decide +kernel
theorem dX0_workSet_40 : decode cX0_workSet 40 = .ok (.iconst 1, 1) := by decide +kernel
theorem dX0_workSet_41 : decode cX0_workSet 41 = .ok (.iload 4, 2) := by decide +kernel
theorem dX0_workSet_43 : decode cX0_workSet 43 = .ok (.ishl, 1) := by decide +kernel
theorem dX0_workSet_44 : decode cX0_workSet 44 = .ok (.iconst (-1), 1) := by decide +kernel
theorem dX0_workSet_45 : decode cX0_workSet 45 = .ok (.ixor, 1) := by decide +kernel
theorem dX0_workSet_46 : decode cX0_workSet 46 = .ok (.iand, 1) := by decide +kernel
theorem dX0_workSet_47 : decode cX0_workSet 47 = .ok (.iaload, 1) := by decide +kernel
theorem dX0_workSet_48 : decode cX0_workSet 48 = .ok (.invokestatic 32, 3) := by decide +kernel
theorem dX0_workSet_51 : decode cX0_workSet 51 = .ok (.istore_n 3, 1) := by decide +kernel
theorem dX0_workSet_52 : decode cX0_workSet 52 = .ok (.iinc 4 1, 3) := by decide +kernel
theorem dX0_workSet_55 : decode cX0_workSet 55 = .ok (.goto (-48), 3) := by decide +kernel
theorem dX0_workSet_58 : decode cX0_workSet 58 = .ok (.aload_n 0, 1) := by decide +kernel
theorem dX0_workSet_59 : decode cX0_workSet 59 = .ok (.getfield 15, 3) := by decide +kernel
theorem dX0_workSet_62 : decode cX0_workSet 62 = .ok (.iload_n 1, 1) := by decide +kernel
theorem dX0_workSet_63 : decode cX0_workSet 63 = .ok (.iload_n 2, 1) := by decide +kernel
theorem dX0_workSet_64 : decode cX0_workSet 64 = .ok (.ifCond .ne 9, 3) := by decide +kernel
theorem dX0_workSet_67 : decode cX0_workSet 67 = .ok (.iload_n 3, 1) := by decide +kernel
theorem dX0_workSet_68 : decode cX0_workSet 68 = .ok (.iconst 1, 1) := by decide +kernel
theorem dX0_workSet_69 : decode cX0_workSet 69 = .ok (.iadd, 1) := by decide +kernel
theorem dX0_workSet_70 : decode cX0_workSet 70 = .ok (.goto 4, 3) := by decide +kernel
theorem dX0_workSet_73 : decode cX0_workSet 73 = .ok (.iload_n 3, 1) := by decide +kernel
theorem dX0_workSet_74 : decode cX0_workSet 74 = .ok (.iastore, 1) := by decide +kernel
theorem dX0_workSet_75 : decode cX0_workSet 75 = .ok (.return_, 1) := by decide +kernel
theorem dX0_groups_0 : decode cX0_groups 0 = .ok (.aload_n 0, 1) := by decide +kernel
theorem dX0_groups_1 : decode cX0_groups 1 = .ok (.getfield 15, 3) := by decide +kernel
theorem dX0_groups_4 : decode cX0_groups 4 = .ok (.aload_n 0, 1) := by decide +kernel
theorem dX0_groups_5 : decode cX0_groups 5 = .ok (.getfield 18, 3) := by decide +kernel
theorem dX0_groups_8 : decode cX0_groups 8 = .ok (.sipush 255, 3) := by decide +kernel
theorem dX0_groups_11 : decode cX0_groups 11 = .ok (.iand, 1) := by decide +kernel
theorem dX0_groups_12 : decode cX0_groups 12 = .ok (.iaload, 1) := by decide +kernel
theorem dX0_groups_13 : decode cX0_groups 13 = .ok (.ireturn, 1) := by decide +kernel
set_option maxRecDepth 20000 in
theorem ggX0_payments_J6_bitCount_0f7a4 : GoodIn wsX0_payments wsJ6_bitCount_0f7a4 := goodIn_r _ [5, 6, 7, 8] (by decide +kernel) (by decide +kernel)
set_option maxRecDepth 20000 in
theorem gX0_payments_J6_bitCount_0f7a4 : GoodIn wsX0_payments (va_wsS RX0 38 yJ6_bitCount_0f7a4 wsJ6_bitCount_0f7a4) := goodIn_app (goodIn_of _ (by decide +kernel)) ggX0_payments_J6_bitCount_0f7a4
set_option maxRecDepth 20000 in
theorem ggX0_payments_X0_groups : GoodIn wsX0_payments wsX0_groups := goodIn_r _ [13, 14, 1, 15, 16, 17] (by decide +kernel) (by decide +kernel)
set_option maxRecDepth 20000 in
theorem gX0_payments_X0_groups : GoodIn wsX0_payments (wsV RX0 43 RX0 yX0_groups wsX0_groups) := goodIn_app (goodIn_of _ (by decide +kernel)) ggX0_payments_X0_groups
theorem dX0_payments_0 : decode cX0_payments 0 = .ok (.aload_n 0, 1) := by decide +kernel
theorem dX0_payments_1 : decode cX0_payments 1 = .ok (.getfield 18, 3) := by decide +kernel
theorem dX0_payments_4 : decode cX0_payments 4 = .ok (.invokestatic 38, 3) := by decide +kernel
theorem dX0_payments_7 : decode cX0_payments 7 = .ok (.aload_n 0, 1) := by decide +kernel
theorem dX0_payments_8 : decode cX0_payments 8 = .ok (.invokevirtual 43, 3) := by decide +kernel
theorem dX0_payments_11 : decode cX0_payments 11 = .ok (.isub, 1) := by decide +kernel
theorem dX0_payments_12 : decode cX0_payments 12 = .ok (.ireturn, 1) := by decide +kernel
theorem dX1_init_0 : decode cX1_init 0 = .ok (.aload_n 0, 1) := by decide +kernel
theorem dX1_init_1 : decode cX1_init 1 = .ok (.invokespecial 3, 3) := by decide +kernel
theorem dX1_init_4 : decode cX1_init 4 = .ok (.aload_n 0, 1) := by decide +kernel
theorem dX1_init_5 : decode cX1_init 5 = .ok (.sipush 256, 3) := by decide +kernel
theorem dX1_init_8 : decode cX1_init 8 = .ok (.newarray .int, 2) := by decide +kernel
theorem dX1_init_10 : decode cX1_init 10 = .ok (.putfield 9, 3) := by decide +kernel
theorem dX1_init_13 : decode cX1_init 13 = .ok (.aload_n 0, 1) := by decide +kernel
theorem dX1_init_14 : decode cX1_init 14 = .ok (.bipush 9, 2) := by decide +kernel
theorem dX1_init_16 : decode cX1_init 16 = .ok (.newarray .int, 2) := by decide +kernel
theorem dX1_init_18 : decode cX1_init 18 = .ok (.putfield 15, 3) := by decide +kernel
theorem dX1_init_21 : decode cX1_init 21 = .ok (.return_, 1) := by decide +kernel
set_option maxRecDepth 20000 in
theorem ggX1_findFitting_X7_allow : GoodIn wsX1_findFitting wsX7_allow := goodIn_r _ [6, 7, 8, 9, 10, 11, 12, 13, 14, 15, 16, 22, 23, 24] (by decide +kernel) (by decide +kernel)
set_option maxRecDepth 20000 in
theorem gX1_findFitting_X7_allow_n22 : GoodIn wsX1_findFitting (wsX7_allow) := ggX1_findFitting_X7_allow
theorem dX1_findFitting_0 : decode cX1_findFitting 0 = .ok (.aload_n 0, 1) := by decide +kernel
theorem dX1_findFitting_1 : decode cX1_findFitting 1 = .ok (.iconst 0, 1) := by decide +kernel
theorem dX1_findFitting_2 : decode cX1_findFitting 2 = .ok (.putfield 18, 3) := by decide +kernel
theorem dX1_findFitting_5 : decode cX1_findFitting 5 = .ok (.iconst 0, 1) := by decide +kernel
theorem dX1_findFitting_6 : decode cX1_findFitting 6 = .ok (.istore_n 2, 1) := by decide +kernel
theorem dX1_findFitting_7 : decode cX1_findFitting 7 = .ok (.iload_n 2, 1) := by decide +kernel
theorem dX1_findFitting_8 : decode cX1_findFitting 8 = .ok (.sipush 256, 3) := by decide +kernel
theorem dX1_findFitting_11 : decode cX1_findFitting 11 = .ok (.if_icmp .ge 47, 3) := by decide +kernel
theorem dX1_findFitting_14 : decode cX1_findFitting 14 = .ok (.aload_n 0, 1) := by decide +kernel
theorem dX1_findFitting_15 : decode cX1_findFitting 15 = .ok (.getfield 18, 3) := by decide +kernel
theorem dX1_findFitting_18 : decode cX1_findFitting 18 = .ok (.sipush 256, 3) := by decide +kernel
theorem dX1_findFitting_21 : decode cX1_findFitting 21 = .ok (.if_icmp .ge 31, 3) := by decide +kernel
theorem dX1_findFitting_24 : decode cX1_findFitting 24 = .ok (.aload_n 1, 1) := by decide +kernel
theorem dX1_findFitting_25 : decode cX1_findFitting 25 = .ok (.iload_n 2, 1) := by decide +kernel
theorem dX1_findFitting_26 : decode cX1_findFitting 26 = .ok (.invokevirtual 22, 3) := by decide +kernel
theorem dX1_findFitting_29 : decode cX1_findFitting 29 = .ok (.ifCond .eq 23, 3) := by decide +kernel
theorem dX1_findFitting_32 : decode cX1_findFitting 32 = .ok (.aload_n 0, 1) := by decide +kernel
theorem dX1_findFitting_33 : decode cX1_findFitting 33 = .ok (.getfield 9, 3) := by decide +kernel
theorem dX1_findFitting_36 : decode cX1_findFitting 36 = .ok (.aload_n 0, 1) := by decide +kernel
theorem dX1_findFitting_37 : decode cX1_findFitting 37 = .ok (.getfield 18, 3) := by decide +kernel
theorem dX1_findFitting_40 : decode cX1_findFitting 40 = .ok (.iload_n 2, 1) := by decide +kernel
theorem dX1_findFitting_41 : decode cX1_findFitting 41 = .ok (.iastore, 1) := by decide +kernel
theorem dX1_findFitting_42 : decode cX1_findFitting 42 = .ok (.aload_n 0, 1) := by decide +kernel
theorem dX1_findFitting_43 : decode cX1_findFitting 43 = .ok (.dup, 1) := by decide +kernel
theorem dX1_findFitting_44 : decode cX1_findFitting 44 = .ok (.getfield 18, 3) := by decide +kernel
theorem dX1_findFitting_47 : decode cX1_findFitting 47 = .ok (.iconst 1, 1) := by decide +kernel
theorem dX1_findFitting_48 : decode cX1_findFitting 48 = .ok (.iadd, 1) := by decide +kernel
theorem dX1_findFitting_49 : decode cX1_findFitting 49 = .ok (.putfield 18, 3) := by decide +kernel
theorem dX1_findFitting_52 : decode cX1_findFitting 52 = .ok (.iinc 2 1, 3) := by decide +kernel
theorem dX1_findFitting_55 : decode cX1_findFitting 55 = .ok (.goto (-48), 3) := by decide +kernel
theorem dX1_findFitting_58 : decode cX1_findFitting 58 = .ok (.return_, 1) := by decide +kernel
set_option maxRecDepth 20000 in
theorem ggX1_findQuestion_X1_mostLeft : GoodIn wsX1_findQuestion wsX1_mostLeft := goodIn_r _ [8, 9, 3, 10, 11, 12, 13, 14, 15, 16, 17, 18, 19, 20, 21, 22, 23, 24, 25, 26] (by decide +kernel) (by decide +kernel)
set_option maxRecDepth 20000 in
theorem gX1_findQuestion_X1_mostLeft : GoodIn wsX1_findQuestion (wsV RX1 34 RX1 yX1_mostLeft wsX1_mostLeft) := goodIn_app (goodIn_of _ (by decide +kernel)) ggX1_findQuestion_X1_mostLeft
theorem dX1_findQuestion_0 : decode cX1_findQuestion 0 = .ok (.aload_n 0, 1) := by decide +kernel
theorem dX1_findQuestion_1 : decode cX1_findQuestion 1 = .ok (.bipush (-6), 2) := by decide +kernel
theorem dX1_findQuestion_3 : decode cX1_findQuestion 3 = .ok (.putfield 28, 3) := by decide +kernel
theorem dX1_findQuestion_6 : decode cX1_findQuestion 6 = .ok (.aload_n 0, 1) := by decide +kernel
theorem dX1_findQuestion_7 : decode cX1_findQuestion 7 = .ok (.bipush (-6), 2) := by decide +kernel
theorem dX1_findQuestion_9 : decode cX1_findQuestion 9 = .ok (.putfield 31, 3) := by decide +kernel
theorem dX1_findQuestion_12 : decode cX1_findQuestion 12 = .ok (.aload_n 0, 1) := by decide +kernel
theorem dX1_findQuestion_13 : decode cX1_findQuestion 13 = .ok (.getfield 18, 3) := by decide +kernel
theorem dX1_findQuestion_16 : decode cX1_findQuestion 16 = .ok (.ifCond .ne 4, 3) := by decide +kernel
theorem dX1_findQuestion_19 : decode cX1_findQuestion 19 = .ok (.return_, 1) := by decide +kernel
theorem dX1_findQuestion_20 : decode cX1_findQuestion 20 = .ok (.aload_n 0, 1) := by decide +kernel
theorem dX1_findQuestion_21 : decode cX1_findQuestion 21 = .ok (.getfield 18, 3) := by decide +kernel
theorem dX1_findQuestion_24 : decode cX1_findQuestion 24 = .ok (.iconst 1, 1) := by decide +kernel
theorem dX1_findQuestion_25 : decode cX1_findQuestion 25 = .ok (.iadd, 1) := by decide +kernel
theorem dX1_findQuestion_26 : decode cX1_findQuestion 26 = .ok (.istore_n 1, 1) := by decide +kernel
theorem dX1_findQuestion_27 : decode cX1_findQuestion 27 = .ok (.iconst 0, 1) := by decide +kernel
theorem dX1_findQuestion_28 : decode cX1_findQuestion 28 = .ok (.istore_n 2, 1) := by decide +kernel
theorem dX1_findQuestion_29 : decode cX1_findQuestion 29 = .ok (.iload_n 2, 1) := by decide +kernel
theorem dX1_findQuestion_30 : decode cX1_findQuestion 30 = .ok (.sipush 256, 3) := by decide +kernel
theorem dX1_findQuestion_33 : decode cX1_findQuestion 33 = .ok (.if_icmp .ge 28, 3) := by decide +kernel
theorem dX1_findQuestion_36 : decode cX1_findQuestion 36 = .ok (.aload_n 0, 1) := by decide +kernel
theorem dX1_findQuestion_37 : decode cX1_findQuestion 37 = .ok (.iload_n 2, 1) := by decide +kernel
theorem dX1_findQuestion_38 : decode cX1_findQuestion 38 = .ok (.iload_n 1, 1) := by decide +kernel
theorem dX1_findQuestion_39 : decode cX1_findQuestion 39 = .ok (.invokevirtual 34, 3) := by decide +kernel
theorem dX1_findQuestion_42 : decode cX1_findQuestion 42 = .ok (.istore_n 3, 1) := by decide +kernel
theorem dX1_findQuestion_43 : decode cX1_findQuestion 43 = .ok (.iload_n 3, 1) := by decide +kernel
theorem dX1_findQuestion_44 : decode cX1_findQuestion 44 = .ok (.iload_n 1, 1) := by decide +kernel
theorem dX1_findQuestion_45 : decode cX1_findQuestion 45 = .ok (.if_icmp .ge 10, 3) := by decide +kernel
theorem dX1_findQuestion_48 : decode cX1_findQuestion 48 = .ok (.iload_n 3, 1) := by decide +kernel
theorem dX1_findQuestion_49 : decode cX1_findQuestion 49 = .ok (.istore_n 1, 1) := by decide +kernel
theorem dX1_findQuestion_50 : decode cX1_findQuestion 50 = .ok (.aload_n 0, 1) := by decide +kernel
theorem dX1_findQuestion_51 : decode cX1_findQuestion 51 = .ok (.iload_n 2, 1) := by decide +kernel
theorem dX1_findQuestion_52 : decode cX1_findQuestion 52 = .ok (.putfield 28, 3) := by decide +kernel
theorem dX1_findQuestion_55 : decode cX1_findQuestion 55 = .ok (.iinc 2 1, 3) := by decide +kernel
theorem dX1_findQuestion_58 : decode cX1_findQuestion 58 = .ok (.goto (-29), 3) := by decide +kernel
theorem dX1_findQuestion_61 : decode cX1_findQuestion 61 = .ok (.aload_n 0, 1) := by decide +kernel
theorem dX1_findQuestion_62 : decode cX1_findQuestion 62 = .ok (.iload_n 1, 1) := by decide +kernel
theorem dX1_findQuestion_63 : decode cX1_findQuestion 63 = .ok (.putfield 31, 3) := by decide +kernel
theorem dX1_findQuestion_66 : decode cX1_findQuestion 66 = .ok (.return_, 1) := by decide +kernel
set_option maxRecDepth 20000 in
theorem ggX1_mostLeft_J6_bitCount_0f7a4 : GoodIn wsX1_mostLeft wsJ6_bitCount_0f7a4 := goodIn_r _ [11, 12, 13, 14] (by decide +kernel) (by decide +kernel)
set_option maxRecDepth 20000 in
theorem gX1_mostLeft_J6_bitCount_0f7a4 : GoodIn wsX1_mostLeft (va_wsS RX1 38 yJ6_bitCount_0f7a4 wsJ6_bitCount_0f7a4) := goodIn_app (goodIn_of _ (by decide +kernel)) ggX1_mostLeft_J6_bitCount_0f7a4
theorem dX1_mostLeft_0 : decode cX1_mostLeft 0 = .ok (.iconst 0, 1) := by decide +kernel
theorem dX1_mostLeft_1 : decode cX1_mostLeft 1 = .ok (.istore_n 3, 1) := by decide +kernel
theorem dX1_mostLeft_2 : decode cX1_mostLeft 2 = .ok (.iload_n 3, 1) := by decide +kernel
theorem dX1_mostLeft_3 : decode cX1_mostLeft 3 = .ok (.bipush 8, 2) := by decide +kernel
theorem dX1_mostLeft_5 : decode cX1_mostLeft 5 = .ok (.if_icmp .gt 16, 3) := by decide +kernel
theorem dX1_mostLeft_8 : decode cX1_mostLeft 8 = .ok (.aload_n 0, 1) := by decide +kernel
theorem dX1_mostLeft_9 : decode cX1_mostLeft 9 = .ok (.getfield 15, 3) := by decide +kernel
theorem dX1_mostLeft_12 : decode cX1_mostLeft 12 = .ok (.iload_n 3, 1) := by decide +kernel
theorem dX1_mostLeft_13 : decode cX1_mostLeft 13 = .ok (.iconst 0, 1) := by decide +kernel
theorem dX1_mostLeft_14 : decode cX1_mostLeft 14 = .ok (.iastore, 1) := by decide +kernel
theorem dX1_mostLeft_15 : decode cX1_mostLeft 15 = .ok (.iinc 3 1, 3) := by decide +kernel
theorem dX1_mostLeft_18 : decode cX1_mostLeft 18 = .ok (.goto (-16), 3) := by decide +kernel
theorem dX1_mostLeft_21 : decode cX1_mostLeft 21 = .ok (.iconst 0, 1) := by decide +kernel
theorem dX1_mostLeft_22 : decode cX1_mostLeft 22 = .ok (.istore_n 3, 1) := by decide +kernel
theorem dX1_mostLeft_23 : decode cX1_mostLeft 23 = .ok (.iconst 0, 1) := by decide +kernel
theorem dX1_mostLeft_24 : decode cX1_mostLeft 24 = .ok (.istore 4, 2) := by decide +kernel
theorem dX1_mostLeft_26 : decode cX1_mostLeft 26 = .ok (.iload 4, 2) := by decide +kernel
theorem dX1_mostLeft_28 : decode cX1_mostLeft 28 = .ok (.aload_n 0, 1) := by decide +kernel
theorem dX1_mostLeft_29 : decode cX1_mostLeft 29 = .ok (.getfield 18, 3) := by decide +kernel
theorem dX1_mostLeft_32 : decode cX1_mostLeft 32 = .ok (.if_icmp .ge 66, 3) := by decide +kernel
theorem dX1_mostLeft_35 : decode cX1_mostLeft 35 = .ok (.iload 4, 2) := by decide +kernel
theorem dX1_mostLeft_37 : decode cX1_mostLeft 37 = .ok (.sipush 256, 3) := by decide +kernel
theorem dX1_mostLeft_40 : decode cX1_mostLeft 40 = .ok (.if_icmp .ge 58, 3) := by decide +kernel
theorem dX1_mostLeft_43 : decode cX1_mostLeft 43 = .ok (.iload_n 3, 1) := by decide +kernel
theorem dX1_mostLeft_44 : decode cX1_mostLeft 44 = .ok (.iload_n 2, 1) := by decide +kernel
theorem dX1_mostLeft_45 : decode cX1_mostLeft 45 = .ok (.if_icmp .ge 53, 3) := by decide +kernel
theorem dX1_mostLeft_48 : decode cX1_mostLeft 48 = .ok (.aload_n 0, 1) := by decide +kernel
theorem dX1_mostLeft_49 : decode cX1_mostLeft 49 = .ok (.getfield 9, 3) := by decide +kernel
theorem dX1_mostLeft_52 : decode cX1_mostLeft 52 = .ok (.iload 4, 2) := by decide +kernel
theorem dX1_mostLeft_54 : decode cX1_mostLeft 54 = .ok (.iaload, 1) := by decide +kernel
theorem dX1_mostLeft_55 : decode cX1_mostLeft 55 = .ok (.iload_n 1, 1) := by decide +kernel
theorem dX1_mostLeft_56 : decode cX1_mostLeft 56 = .ok (.iand, 1) := by decide +kernel
theorem dX1_mostLeft_57 : decode cX1_mostLeft 57 = .ok (.invokestatic 38, 3) := by decide +kernel
theorem dX1_mostLeft_60 : decode cX1_mostLeft 60 = .ok (.istore 5, 2) := by decide +kernel
theorem dX1_mostLeft_62 : decode cX1_mostLeft 62 = .ok (.iload 5, 2) := by decide +kernel
theorem dX1_mostLeft_64 : decode cX1_mostLeft 64 = .ok (.bipush 8, 2) := by decide +kernel
theorem dX1_mostLeft_66 : decode cX1_mostLeft 66 = .ok (.if_icmp .gt 26, 3) := by decide +kernel
theorem dX1_mostLeft_69 : decode cX1_mostLeft 69 = .ok (.aload_n 0, 1) := by decide +kernel
theorem dX1_mostLeft_70 : decode cX1_mostLeft 70 = .ok (.getfield 15, 3) := by decide +kernel
theorem dX1_mostLeft_73 : decode cX1_mostLeft 73 = .ok (.iload 5, 2) := by decide +kernel
theorem dX1_mostLeft_75 : decode cX1_mostLeft 75 = .ok (.dup2, 1) := by decide +kernel
theorem dX1_mostLeft_76 : decode cX1_mostLeft 76 = .ok (.iaload, 1) := by decide +kernel
theorem dX1_mostLeft_77 : decode cX1_mostLeft 77 = .ok (.iconst 1, 1) := by decide +kernel
theorem dX1_mostLeft_78 : decode cX1_mostLeft 78 = .ok (.iadd, 1) := by decide +kernel
theorem dX1_mostLeft_79 : decode cX1_mostLeft 79 = .ok (.iastore, 1) := by decide +kernel
theorem dX1_mostLeft_80 : decode cX1_mostLeft 80 = .ok (.iload_n 3, 1) := by decide +kernel
theorem dX1_mostLeft_81 : decode cX1_mostLeft 81 = .ok (.aload_n 0, 1) := by decide +kernel
theorem dX1_mostLeft_82 : decode cX1_mostLeft 82 = .ok (.getfield 15, 3) := by decide +kernel
theorem dX1_mostLeft_85 : decode cX1_mostLeft 85 = .ok (.iload 5, 2) := by decide +kernel
theorem dX1_mostLeft_87 : decode cX1_mostLeft 87 = .ok (.iaload, 1) := by decide +kernel
theorem dX1_mostLeft_88 : decode cX1_mostLeft 88 = .ok (.invokestatic 44, 3) := by decide +kernel
theorem dX1_mostLeft_91 : decode cX1_mostLeft 91 = .ok (.istore_n 3, 1) := by decide +kernel
theorem dX1_mostLeft_92 : decode cX1_mostLeft 92 = .ok (.iinc 4 1, 3) := by decide +kernel
theorem dX1_mostLeft_95 : decode cX1_mostLeft 95 = .ok (.goto (-69), 3) := by decide +kernel
theorem dX1_mostLeft_98 : decode cX1_mostLeft 98 = .ok (.iload_n 3, 1) := by decide +kernel
theorem dX1_mostLeft_99 : decode cX1_mostLeft 99 = .ok (.ireturn, 1) := by decide +kernel
set_option maxRecDepth 20000 in
theorem ggX2_init_X5_init : GoodIn wsX2_init wsX5_init := goodIn_r _ [17, 18, 2, 3, 19, 20, 21, 22, 32, 33, 34, 35, 36, 37] (by decide +kernel) (by decide +kernel)
set_option maxRecDepth 20000 in
theorem gX2_init_X5_init_n9 : GoodIn wsX2_init (wsX5_init) := ggX2_init_X5_init
set_option maxRecDepth 20000 in
theorem ggX2_init_X3_init : GoodIn wsX2_init wsX3_init := goodIn_r _ [24, 25, 2, 3, 19, 26, 42] (by decide +kernel) (by decide +kernel)
set_option maxRecDepth 20000 in
theorem gX2_init_X3_init_n18 : GoodIn wsX2_init (wsX3_init) := ggX2_init_X3_init
set_option maxRecDepth 20000 in
theorem ggX2_init_X7_init : GoodIn wsX2_init wsX7_init := goodIn_r _ [28, 29, 2, 3, 19, 30, 31, 43, 44, 45] (by decide +kernel) (by decide +kernel)
set_option maxRecDepth 20000 in
theorem gX2_init_X7_init_n25 : GoodIn wsX2_init (wsX7_init) := ggX2_init_X7_init
theorem dX2_init_0 : decode cX2_init 0 = .ok (.aload_n 0, 1) := by decide +kernel
theorem dX2_init_1 : decode cX2_init 1 = .ok (.invokespecial 1, 3) := by decide +kernel
theorem dX2_init_4 : decode cX2_init 4 = .ok (.aload_n 0, 1) := by decide +kernel
theorem dX2_init_5 : decode cX2_init 5 = .ok (.new 7, 3) := by decide +kernel
theorem dX2_init_8 : decode cX2_init 8 = .ok (.dup, 1) := by decide +kernel
theorem dX2_init_9 : decode cX2_init 9 = .ok (.invokespecial 9, 3) := by decide +kernel
theorem dX2_init_12 : decode cX2_init 12 = .ok (.putfield 10, 3) := by decide +kernel
theorem dX2_init_15 : decode cX2_init 15 = .ok (.aload_n 0, 1) := by decide +kernel
theorem dX2_init_16 : decode cX2_init 16 = .ok (.new 16, 3) := by decide +kernel
theorem dX2_init_19 : decode cX2_init 19 = .ok (.dup, 1) := by decide +kernel
theorem dX2_init_20 : decode cX2_init 20 = .ok (.invokespecial 18, 3) := by decide +kernel
theorem dX2_init_23 : decode cX2_init 23 = .ok (.putfield 19, 3) := by decide +kernel
theorem dX2_init_26 : decode cX2_init 26 = .ok (.aload_n 0, 1) := by decide +kernel
theorem dX2_init_27 : decode cX2_init 27 = .ok (.new 23, 3) := by decide +kernel
theorem dX2_init_30 : decode cX2_init 30 = .ok (.dup, 1) := by decide +kernel
theorem dX2_init_31 : decode cX2_init 31 = .ok (.invokespecial 25, 3) := by decide +kernel
theorem dX2_init_34 : decode cX2_init 34 = .ok (.putfield 26, 3) := by decide +kernel
theorem dX2_init_37 : decode cX2_init 37 = .ok (.return_, 1) := by decide +kernel
theorem dX3_init_0 : decode cX3_init 0 = .ok (.aload_n 0, 1) := by decide +kernel
theorem dX3_init_1 : decode cX3_init 1 = .ok (.invokespecial 3, 3) := by decide +kernel
theorem dX3_init_4 : decode cX3_init 4 = .ok (.aload_n 0, 1) := by decide +kernel
theorem dX3_init_5 : decode cX3_init 5 = .ok (.bipush 8, 2) := by decide +kernel
theorem dX3_init_7 : decode cX3_init 7 = .ok (.newarray .int, 2) := by decide +kernel
theorem dX3_init_9 : decode cX3_init 9 = .ok (.putfield 9, 3) := by decide +kernel
theorem dX3_init_12 : decode cX3_init 12 = .ok (.return_, 1) := by decide +kernel
theorem dX3_copyFrom_0 : decode cX3_copyFrom 0 = .ok (.aload_n 1, 1) := by decide +kernel
theorem dX3_copyFrom_1 : decode cX3_copyFrom 1 = .ok (.getfield 9, 3) := by decide +kernel
theorem dX3_copyFrom_4 : decode cX3_copyFrom 4 = .ok (.iconst 0, 1) := by decide +kernel
theorem dX3_copyFrom_5 : decode cX3_copyFrom 5 = .ok (.aload_n 0, 1) := by decide +kernel
theorem dX3_copyFrom_6 : decode cX3_copyFrom 6 = .ok (.getfield 9, 3) := by decide +kernel
theorem dX3_copyFrom_9 : decode cX3_copyFrom 9 = .ok (.iconst 0, 1) := by decide +kernel
theorem dX3_copyFrom_10 : decode cX3_copyFrom 10 = .ok (.bipush 8, 2) := by decide +kernel
theorem dX3_copyFrom_12 : decode cX3_copyFrom 12 = .ok (.invokestatic 15, 3) := by decide +kernel
theorem dX3_copyFrom_15 : decode cX3_copyFrom 15 = .ok (.return_, 1) := by decide +kernel
theorem dX3_set_0 : decode cX3_set 0 = .ok (.iload_n 3, 1) := by decide +kernel
theorem dX3_set_1 : decode cX3_set 1 = .ok (.ifCond .eq 30, 3) := by decide +kernel
theorem dX3_set_4 : decode cX3_set 4 = .ok (.aload_n 0, 1) := by decide +kernel
theorem dX3_set_5 : decode cX3_set 5 = .ok (.getfield 9, 3) := by decide +kernel
theorem dX3_set_8 : decode cX3_set 8 = .ok (.iload_n 1, 1) := by decide +kernel
theorem dX3_set_9 : decode cX3_set 9 = .ok (.dup2, 1) := by decide +kernel
theorem dX3_set_10 : decode cX3_set 10 = .ok (.iaload, 1) := by decide +kernel
theorem dX3_set_11 : decode cX3_set 11 = .ok (.iconst 1, 1) := by decide +kernel
theorem dX3_set_12 : decode cX3_set 12 = .ok (.iload_n 2, 1) := by decide +kernel
theorem dX3_set_13 : decode cX3_set 13 = .ok (.ishl, 1) := by decide +kernel
theorem dX3_set_14 : decode cX3_set 14 = .ok (.ior, 1) := by decide +kernel
theorem dX3_set_15 : decode cX3_set 15 = .ok (.iastore, 1) := by decide +kernel
theorem dX3_set_16 : decode cX3_set 16 = .ok (.aload_n 0, 1) := by decide +kernel
theorem dX3_set_17 : decode cX3_set 17 = .ok (.getfield 9, 3) := by decide +kernel
theorem dX3_set_20 : decode cX3_set 20 = .ok (.iload_n 2, 1) := by decide +kernel
theorem dX3_set_21 : decode cX3_set 21 = .ok (.dup2, 1) := by decide +kernel
theorem dX3_set_22 : decode cX3_set 22 = .ok (.iaload, 1) := by decide +kernel
theorem dX3_set_23 : decode cX3_set 23 = .ok (.iconst 1, 1) := by decide +kernel
theorem dX3_set_24 : decode cX3_set 24 = .ok (.iload_n 1, 1) := by decide +kernel
theorem dX3_set_25 : decode cX3_set 25 = .ok (.ishl, 1) := by decide +kernel
theorem dX3_set_26 : decode cX3_set 26 = .ok (.ior, 1) := by decide +kernel
theorem dX3_set_27 : decode cX3_set 27 = .ok (.iastore, 1) := by decide +kernel
theorem dX3_set_28 : decode cX3_set 28 = .ok (.goto 31, 3) := by decide +kernel
theorem dX3_set_31 : decode cX3_set 31 = .ok (.aload_n 0, 1) := by decide +kernel
theorem dX3_set_32 : decode cX3_set 32 = .ok (.getfield 9, 3) := by decide +kernel
theorem dX3_set_35 : decode cX3_set 35 = .ok (.iload_n 1, 1) := by decide +kernel
theorem dX3_set_36 : decode cX3_set 36 = .ok (.dup2, 1) := by decide +kernel
theorem dX3_set_37 : decode cX3_set 37 = .ok (.iaload, 1) := by decide +kernel
theorem dX3_set_38 : decode cX3_set 38 = .ok (.iconst 1, 1) := by decide +kernel
theorem dX3_set_39 : decode cX3_set 39 = .ok (.iload_n 2, 1) := by decide +kernel
theorem dX3_set_40 : decode cX3_set 40 = .ok (.ishl, 1) := by decide +kernel
theorem dX3_set_41 : decode cX3_set 41 = .ok (.iconst (-1), 1) := by decide +kernel
theorem dX3_set_42 : decode cX3_set 42 = .ok (.ixor, 1) := by decide +kernel
theorem dX3_set_43 : decode cX3_set 43 = .ok (.iand, 1) := by decide +kernel
theorem dX3_set_44 : decode cX3_set 44 = .ok (.iastore, 1) := by decide +kernel
theorem dX3_set_45 : decode cX3_set 45 = .ok (.aload_n 0, 1) := by decide +kernel
theorem dX3_set_46 : decode cX3_set 46 = .ok (.getfield 9, 3) := by decide +kernel
theorem dX3_set_49 : decode cX3_set 49 = .ok (.iload_n 2, 1) := by decide +kernel
theorem dX3_set_50 : decode cX3_set 50 = .ok (.dup2, 1) := by decide +kernel
theorem dX3_set_51 : decode cX3_set 51 = .ok (.iaload, 1) := by decide +kernel
theorem dX3_set_52 : decode cX3_set 52 = .ok (.iconst 1, 1) := by decide +kernel
theorem dX3_set_53 : decode cX3_set 53 = .ok (.iload_n 1, 1) := by decide +kernel
theorem dX3_set_54 : decode cX3_set 54 = .ok (.ishl, 1) := by decide +kernel
theorem dX3_set_55 : decode cX3_set 55 = .ok (.iconst (-1), 1) := by decide +kernel
theorem dX3_set_56 : decode cX3_set 56 = .ok (.ixor, 1) := by decide +kernel
theorem dX3_set_57 : decode cX3_set 57 = .ok (.iand, 1) := by decide +kernel
theorem dX3_set_58 : decode cX3_set 58 = .ok (.iastore, 1) := by decide +kernel
theorem dX3_set_59 : decode cX3_set 59 = .ok (.return_, 1) := by decide +kernel
set_option maxRecDepth 20000 in
theorem ggX3_pairs_J6_bitCount_0f7a4 : GoodIn wsX3_pairs wsJ6_bitCount_0f7a4 := goodIn_r _ [5, 6, 7, 8] (by decide +kernel) (by decide +kernel)
set_option maxRecDepth 20000 in
theorem gX3_pairs_J6_bitCount_0f7a4 : GoodIn wsX3_pairs (va_wsS RX3 21 yJ6_bitCount_0f7a4 wsJ6_bitCount_0f7a4) := goodIn_app (goodIn_of _ (by decide +kernel)) ggX3_pairs_J6_bitCount_0f7a4
theorem dX3_pairs_0 : decode cX3_pairs 0 = .ok (.iconst 0, 1) := by decide +kernel
theorem dX3_pairs_1 : decode cX3_pairs 1 = .ok (.istore_n 1, 1) := by decide +kernel
theorem dX3_pairs_2 : decode cX3_pairs 2 = .ok (.iconst 0, 1) := by decide +kernel
theorem dX3_pairs_3 : decode cX3_pairs 3 = .ok (.istore_n 2, 1) := by decide +kernel
theorem dX3_pairs_4 : decode cX3_pairs 4 = .ok (.iload_n 2, 1) := by decide +kernel
theorem dX3_pairs_5 : decode cX3_pairs 5 = .ok (.bipush 8, 2) := by decide +kernel
theorem dX3_pairs_7 : decode cX3_pairs 7 = .ok (.if_icmp .ge 21, 3) := by decide +kernel
theorem dX3_pairs_10 : decode cX3_pairs 10 = .ok (.iload_n 1, 1) := by decide +kernel
theorem dX3_pairs_11 : decode cX3_pairs 11 = .ok (.aload_n 0, 1) := by decide +kernel
theorem dX3_pairs_12 : decode cX3_pairs 12 = .ok (.getfield 9, 3) := by decide +kernel
theorem dX3_pairs_15 : decode cX3_pairs 15 = .ok (.iload_n 2, 1) := by decide +kernel
theorem dX3_pairs_16 : decode cX3_pairs 16 = .ok (.iaload, 1) := by decide +kernel
theorem dX3_pairs_17 : decode cX3_pairs 17 = .ok (.invokestatic 21, 3) := by decide +kernel
theorem dX3_pairs_20 : decode cX3_pairs 20 = .ok (.iadd, 1) := by decide +kernel
theorem dX3_pairs_21 : decode cX3_pairs 21 = .ok (.istore_n 1, 1) := by decide +kernel
theorem dX3_pairs_22 : decode cX3_pairs 22 = .ok (.iinc 2 1, 3) := by decide +kernel
theorem dX3_pairs_25 : decode cX3_pairs 25 = .ok (.goto (-21), 3) := by decide +kernel
theorem dX3_pairs_28 : decode cX3_pairs 28 = .ok (.iload_n 1, 1) := by decide +kernel
theorem dX3_pairs_29 : decode cX3_pairs 29 = .ok (.iconst 2, 1) := by decide +kernel
theorem dX3_pairs_30 : decode cX3_pairs 30 = .ok (.idiv, 1) := by decide +kernel
theorem dX3_pairs_31 : decode cX3_pairs 31 = .ok (.ireturn, 1) := by decide +kernel
theorem dX4_init_0 : decode cX4_init 0 = .ok (.aload_n 0, 1) := by decide +kernel
theorem dX4_init_1 : decode cX4_init 1 = .ok (.invokespecial 3, 3) := by decide +kernel
theorem dX4_init_4 : decode cX4_init 4 = .ok (.aload_n 0, 1) := by decide +kernel
theorem dX4_init_5 : decode cX4_init 5 = .ok (.bipush 60, 2) := by decide +kernel
theorem dX4_init_7 : decode cX4_init 7 = .ok (.newarray .int, 2) := by decide +kernel
theorem dX4_init_9 : decode cX4_init 9 = .ok (.putfield 9, 3) := by decide +kernel
theorem dX4_init_12 : decode cX4_init 12 = .ok (.aload_n 0, 1) := by decide +kernel
theorem dX4_init_13 : decode cX4_init 13 = .ok (.bipush 60, 2) := by decide +kernel
theorem dX4_init_15 : decode cX4_init 15 = .ok (.newarray .int, 2) := by decide +kernel
theorem dX4_init_17 : decode cX4_init 17 = .ok (.putfield 15, 3) := by decide +kernel
theorem dX4_init_20 : decode cX4_init 20 = .ok (.aload_n 0, 1) := by decide +kernel
theorem dX4_init_21 : decode cX4_init 21 = .ok (.bipush 60, 2) := by decide +kernel
theorem dX4_init_23 : decode cX4_init 23 = .ok (.newarray .int, 2) := by decide +kernel
theorem dX4_init_25 : decode cX4_init 25 = .ok (.putfield 18, 3) := by decide +kernel
theorem dX4_init_28 : decode cX4_init 28 = .ok (.aload_n 0, 1) := by decide +kernel
theorem dX4_init_29 : decode cX4_init 29 = .ok (.bipush 60, 2) := by decide +kernel
theorem dX4_init_31 : decode cX4_init 31 = .ok (.newarray .int, 2) := by decide +kernel
theorem dX4_init_33 : decode cX4_init 33 = .ok (.putfield 21, 3) := by decide +kernel
theorem dX4_init_36 : decode cX4_init 36 = .ok (.aload_n 0, 1) := by decide +kernel
theorem dX4_init_37 : decode cX4_init 37 = .ok (.bipush (-6), 2) := by decide +kernel
theorem dX4_init_39 : decode cX4_init 39 = .ok (.putfield 24, 3) := by decide +kernel
theorem dX4_init_42 : decode cX4_init 42 = .ok (.aload_n 0, 1) := by decide +kernel
theorem dX4_init_43 : decode cX4_init 43 = .ok (.iconst 0, 1) := by decide +kernel
theorem dX4_init_44 : decode cX4_init 44 = .ok (.putfield 28, 3) := by decide +kernel
theorem dX4_init_47 : decode cX4_init 47 = .ok (.return_, 1) := by decide +kernel
theorem dX4_clear_0 : decode cX4_clear 0 = .ok (.aload_n 0, 1) := by decide +kernel
theorem dX4_clear_1 : decode cX4_clear 1 = .ok (.iconst 0, 1) := by decide +kernel
theorem dX4_clear_2 : decode cX4_clear 2 = .ok (.putfield 31, 3) := by decide +kernel
theorem dX4_clear_5 : decode cX4_clear 5 = .ok (.aload_n 0, 1) := by decide +kernel
theorem dX4_clear_6 : decode cX4_clear 6 = .ok (.iconst 0, 1) := by decide +kernel
theorem dX4_clear_7 : decode cX4_clear 7 = .ok (.putfield 34, 3) := by decide +kernel
theorem dX4_clear_10 : decode cX4_clear 10 = .ok (.aload_n 0, 1) := by decide +kernel
theorem dX4_clear_11 : decode cX4_clear 11 = .ok (.bipush (-6), 2) := by decide +kernel
theorem dX4_clear_13 : decode cX4_clear 13 = .ok (.putfield 24, 3) := by decide +kernel
theorem dX4_clear_16 : decode cX4_clear 16 = .ok (.aload_n 0, 1) := by decide +kernel
theorem dX4_clear_17 : decode cX4_clear 17 = .ok (.iconst 0, 1) := by decide +kernel
theorem dX4_clear_18 : decode cX4_clear 18 = .ok (.putfield 28, 3) := by decide +kernel
theorem dX4_clear_21 : decode cX4_clear 21 = .ok (.return_, 1) := by decide +kernel
theorem dX4_faultPlace_0 : decode cX4_faultPlace 0 = .ok (.aload_n 0, 1) := by decide +kernel
theorem dX4_faultPlace_1 : decode cX4_faultPlace 1 = .ok (.getfield 24, 3) := by decide +kernel
theorem dX4_faultPlace_4 : decode cX4_faultPlace 4 = .ok (.bipush (-6), 2) := by decide +kernel
theorem dX4_faultPlace_6 : decode cX4_faultPlace 6 = .ok (.if_icmp .eq 8, 3) := by decide +kernel
theorem dX4_faultPlace_9 : decode cX4_faultPlace 9 = .ok (.aload_n 0, 1) := by decide +kernel
theorem dX4_faultPlace_10 : decode cX4_faultPlace 10 = .ok (.getfield 24, 3) := by decide +kernel
theorem dX4_faultPlace_13 : decode cX4_faultPlace 13 = .ok (.ireturn, 1) := by decide +kernel
theorem dX4_faultPlace_14 : decode cX4_faultPlace 14 = .ok (.aload_n 0, 1) := by decide +kernel
theorem dX4_faultPlace_15 : decode cX4_faultPlace 15 = .ok (.getfield 28, 3) := by decide +kernel
theorem dX4_faultPlace_18 : decode cX4_faultPlace 18 = .ok (.ifCond .ne 8, 3) := by decide +kernel
theorem dX4_faultPlace_21 : decode cX4_faultPlace 21 = .ok (.bipush (-6), 2) := by decide +kernel
theorem dX4_faultPlace_23 : decode cX4_faultPlace 23 = .ok (.goto 7, 3) := by decide +kernel
theorem dX4_faultPlace_26 : decode cX4_faultPlace 26 = .ok (.aload_n 0, 1) := by decide +kernel
theorem dX4_faultPlace_27 : decode cX4_faultPlace 27 = .ok (.getfield 34, 3) := by decide +kernel
theorem dX4_faultPlace_30 : decode cX4_faultPlace 30 = .ok (.ireturn, 1) := by decide +kernel
set_option maxRecDepth 20000 in
theorem ggX4_hear_X4_read : GoodIn wsX4_hear wsX4_read := goodIn_r _ [7, 8, 9, 10, 11, 6, 12, 13, 14, 15, 16, 17, 18, 19, 20, 21, 22, 23, 24, 25, 26, 27, 28, 29, 30, 31, 32, 33, 34, 35, 36, 37, 38, 39, 40, 41, 42, 43, 44, 45, 46, 47, 48] (by decide +kernel) (by decide +kernel)
set_option maxRecDepth 20000 in
theorem gX4_hear_X4_read : GoodIn wsX4_hear (wsV RX4 37 RX4 yX4_read wsX4_read) := goodIn_app (goodIn_of _ (by decide +kernel)) ggX4_hear_X4_read
theorem dX4_hear_0 : decode cX4_hear 0 = .ok (.aload_n 0, 1) := by decide +kernel
theorem dX4_hear_1 : decode cX4_hear 1 = .ok (.getfield 24, 3) := by decide +kernel
theorem dX4_hear_4 : decode cX4_hear 4 = .ok (.bipush (-6), 2) := by decide +kernel
theorem dX4_hear_6 : decode cX4_hear 6 = .ok (.if_icmp .ne 19, 3) := by decide +kernel
theorem dX4_hear_9 : decode cX4_hear 9 = .ok (.aload_n 0, 1) := by decide +kernel
theorem dX4_hear_10 : decode cX4_hear 10 = .ok (.iload_n 1, 1) := by decide +kernel
theorem dX4_hear_11 : decode cX4_hear 11 = .ok (.invokevirtual 37, 3) := by decide +kernel
theorem dX4_hear_14 : decode cX4_hear 14 = .ok (.ifCond .ne 11, 3) := by decide +kernel
theorem dX4_hear_17 : decode cX4_hear 17 = .ok (.aload_n 0, 1) := by decide +kernel
theorem dX4_hear_18 : decode cX4_hear 18 = .ok (.aload_n 0, 1) := by decide +kernel
theorem dX4_hear_19 : decode cX4_hear 19 = .ok (.getfield 34, 3) := by decide +kernel
theorem dX4_hear_22 : decode cX4_hear 22 = .ok (.putfield 24, 3) := by decide +kernel
theorem dX4_hear_25 : decode cX4_hear 25 = .ok (.aload_n 0, 1) := by decide +kernel
theorem dX4_hear_26 : decode cX4_hear 26 = .ok (.dup, 1) := by decide +kernel
theorem dX4_hear_27 : decode cX4_hear 27 = .ok (.getfield 34, 3) := by decide +kernel
theorem dX4_hear_30 : decode cX4_hear 30 = .ok (.iconst 1, 1) := by decide +kernel
theorem dX4_hear_31 : decode cX4_hear 31 = .ok (.iadd, 1) := by decide +kernel
theorem dX4_hear_32 : decode cX4_hear 32 = .ok (.putfield 34, 3) := by decide +kernel
theorem dX4_hear_35 : decode cX4_hear 35 = .ok (.return_, 1) := by decide +kernel
set_option maxRecDepth 20000 in
theorem ggX4_read_X4_readStart : GoodIn wsX4_read wsX4_readStart := goodIn_r _ [6, 7, 1, 8, 9, 5, 10, 11, 12, 13, 14, 15, 16, 17, 18, 19, 20, 33, 34, 35, 36, 37, 38, 39, 40, 41, 42] (by decide +kernel) (by decide +kernel)
set_option maxRecDepth 20000 in
theorem gX4_read_X4_readStart : GoodIn wsX4_read (wsV RX4 41 RX4 yX4_readStart wsX4_readStart) := goodIn_app (goodIn_of _ (by decide +kernel)) ggX4_read_X4_readStart
set_option maxRecDepth 20000 in
theorem ggX4_read_X4_readDeed : GoodIn wsX4_read wsX4_readDeed := goodIn_r _ [24, 1, 11, 12, 13, 5, 14, 15, 16, 17, 7, 18, 19, 20, 33, 34, 35, 36, 37, 38, 39, 40, 41, 42] (by decide +kernel) (by decide +kernel)
set_option maxRecDepth 20000 in
theorem gX4_read_X4_readDeed : GoodIn wsX4_read (wsV RX4 44 RX4 yX4_readDeed wsX4_readDeed) := goodIn_app (goodIn_of _ (by decide +kernel)) ggX4_read_X4_readDeed
set_option maxRecDepth 20000 in
theorem ggX4_read_X4_readAmount : GoodIn wsX4_read wsX4_readAmount := goodIn_r _ [28, 11, 12, 13, 5, 14, 15, 16, 17, 7, 18, 19, 20, 1, 33, 34, 35, 36, 37, 38, 39, 40, 41, 42] (by decide +kernel) (by decide +kernel)
set_option maxRecDepth 20000 in
theorem gX4_read_X4_readAmount : GoodIn wsX4_read (wsV RX4 47 RX4 yX4_readAmount wsX4_readAmount) := goodIn_app (goodIn_of _ (by decide +kernel)) ggX4_read_X4_readAmount
set_option maxRecDepth 20000 in
theorem ggX4_read_X4_readAnotherHouse : GoodIn wsX4_read wsX4_readAnotherHouse := goodIn_r _ [32, 1, 7, 19, 8, 9, 5, 10, 11, 12, 13, 14, 15, 16, 17, 18, 20, 33, 34, 35, 36, 37, 38, 39, 40, 41, 42] (by decide +kernel) (by decide +kernel)
set_option maxRecDepth 20000 in
theorem gX4_read_X4_readAnotherHouse : GoodIn wsX4_read (wsV RX4 50 RX4 yX4_readAnotherHouse wsX4_readAnotherHouse) := goodIn_app (goodIn_of _ (by decide +kernel)) ggX4_read_X4_readAnotherHouse
theorem dX4_read_0 : decode cX4_read 0 = .ok (.aload_n 0, 1) := by decide +kernel
theorem dX4_read_1 : decode cX4_read 1 = .ok (.getfield 28, 3) := by decide +kernel
theorem dX4_read_4 : decode cX4_read 4 = .ok (.tableswitch 50 0 3 #[32, 38, 50, 44], 32) := by decide +kernel
theorem dX4_read_36 : decode cX4_read 36 = .ok (.aload_n 0, 1) := by decide +kernel
theorem dX4_read_37 : decode cX4_read 37 = .ok (.iload_n 1, 1) := by decide +kernel
theorem dX4_read_38 : decode cX4_read 38 = .ok (.invokevirtual 41, 3) := by decide +kernel
theorem dX4_read_41 : decode cX4_read 41 = .ok (.ireturn, 1) := by decide +kernel
theorem dX4_read_42 : decode cX4_read 42 = .ok (.aload_n 0, 1) := by decide +kernel
theorem dX4_read_43 : decode cX4_read 43 = .ok (.iload_n 1, 1) := by decide +kernel
theorem dX4_read_44 : decode cX4_read 44 = .ok (.invokevirtual 44, 3) := by decide +kernel
theorem dX4_read_47 : decode cX4_read 47 = .ok (.ireturn, 1) := by decide +kernel
theorem dX4_read_48 : decode cX4_read 48 = .ok (.aload_n 0, 1) := by decide +kernel
theorem dX4_read_49 : decode cX4_read 49 = .ok (.iload_n 1, 1) := by decide +kernel
theorem dX4_read_50 : decode cX4_read 50 = .ok (.invokevirtual 47, 3) := by decide +kernel
theorem dX4_read_53 : decode cX4_read 53 = .ok (.ireturn, 1) := by decide +kernel
theorem dX4_read_54 : decode cX4_read 54 = .ok (.aload_n 0, 1) := by decide +kernel
theorem dX4_read_55 : decode cX4_read 55 = .ok (.iload_n 1, 1) := by decide +kernel
theorem dX4_read_56 : decode cX4_read 56 = .ok (.invokevirtual 50, 3) := by decide +kernel
theorem dX4_read_59 : decode cX4_read 59 = .ok (.ireturn, 1) := by decide +kernel
set_option maxRecDepth 20000 in
theorem ggX4_readStart_X4_isLetter : GoodIn wsX4_readStart wsX4_isLetter := goodIn_r _ [6] (by decide +kernel) (by decide +kernel)
set_option maxRecDepth 20000 in
theorem gX4_readStart_X4_isLetter : GoodIn wsX4_readStart (va_wsS RX4 53 yX4_isLetter wsX4_isLetter) := goodIn_app (goodIn_of _ (by decide +kernel)) ggX4_readStart_X4_isLetter
set_option maxRecDepth 20000 in
theorem ggX4_readStart_X4_addAct : GoodIn wsX4_readStart wsX4_addAct := goodIn_r _ [10, 11, 12, 13, 1, 14, 15, 16, 2, 17, 18, 19, 20, 21, 22, 23, 24, 25, 26] (by decide +kernel) (by decide +kernel)
set_option maxRecDepth 20000 in
theorem gX4_readStart_X4_addAct : GoodIn wsX4_readStart (wsV RX4 59 RX4 yX4_addAct wsX4_addAct) := goodIn_app (goodIn_of _ (by decide +kernel)) ggX4_readStart_X4_addAct
theorem dX4_readStart_0 : decode cX4_readStart 0 = .ok (.iload_n 1, 1) := by decide +kernel
theorem dX4_readStart_1 : decode cX4_readStart 1 = .ok (.invokestatic 53, 3) := by decide +kernel
theorem dX4_readStart_4 : decode cX4_readStart 4 = .ok (.ifCond .eq 18, 3) := by decide +kernel
theorem dX4_readStart_7 : decode cX4_readStart 7 = .ok (.aload_n 0, 1) := by decide +kernel
theorem dX4_readStart_8 : decode cX4_readStart 8 = .ok (.iload_n 1, 1) := by decide +kernel
theorem dX4_readStart_9 : decode cX4_readStart 9 = .ok (.bipush 65, 2) := by decide +kernel
theorem dX4_readStart_11 : decode cX4_readStart 11 = .ok (.isub, 1) := by decide +kernel
theorem dX4_readStart_12 : decode cX4_readStart 12 = .ok (.putfield 56, 3) := by decide +kernel
theorem dX4_readStart_15 : decode cX4_readStart 15 = .ok (.aload_n 0, 1) := by decide +kernel
theorem dX4_readStart_16 : decode cX4_readStart 16 = .ok (.iconst 1, 1) := by decide +kernel
theorem dX4_readStart_17 : decode cX4_readStart 17 = .ok (.putfield 28, 3) := by decide +kernel
theorem dX4_readStart_20 : decode cX4_readStart 20 = .ok (.iconst 1, 1) := by decide +kernel
theorem dX4_readStart_21 : decode cX4_readStart 21 = .ok (.ireturn, 1) := by decide +kernel
theorem dX4_readStart_22 : decode cX4_readStart 22 = .ok (.iload_n 1, 1) := by decide +kernel
theorem dX4_readStart_23 : decode cX4_readStart 23 = .ok (.bipush 120, 2) := by decide +kernel
theorem dX4_readStart_25 : decode cX4_readStart 25 = .ok (.if_icmp .ne 10, 3) := by decide +kernel
theorem dX4_readStart_28 : decode cX4_readStart 28 = .ok (.aload_n 0, 1) := by decide +kernel
theorem dX4_readStart_29 : decode cX4_readStart 29 = .ok (.iconst 4, 1) := by decide +kernel
theorem dX4_readStart_30 : decode cX4_readStart 30 = .ok (.putfield 28, 3) := by decide +kernel
theorem dX4_readStart_33 : decode cX4_readStart 33 = .ok (.iconst 1, 1) := by decide +kernel
theorem dX4_readStart_34 : decode cX4_readStart 34 = .ok (.ireturn, 1) := by decide +kernel
theorem dX4_readStart_35 : decode cX4_readStart 35 = .ok (.iload_n 1, 1) := by decide +kernel
theorem dX4_readStart_36 : decode cX4_readStart 36 = .ok (.bipush 46, 2) := by decide +kernel
theorem dX4_readStart_38 : decode cX4_readStart 38 = .ok (.if_icmp .ne 11, 3) := by decide +kernel
theorem dX4_readStart_41 : decode cX4_readStart 41 = .ok (.aload_n 0, 1) := by decide +kernel
theorem dX4_readStart_42 : decode cX4_readStart 42 = .ok (.iconst 4, 1) := by decide +kernel
theorem dX4_readStart_43 : decode cX4_readStart 43 = .ok (.iconst 0, 1) := by decide +kernel
theorem dX4_readStart_44 : decode cX4_readStart 44 = .ok (.invokevirtual 59, 3) := by decide +kernel
theorem dX4_readStart_47 : decode cX4_readStart 47 = .ok (.iconst 1, 1) := by decide +kernel
theorem dX4_readStart_48 : decode cX4_readStart 48 = .ok (.ireturn, 1) := by decide +kernel
theorem dX4_readStart_49 : decode cX4_readStart 49 = .ok (.iconst 0, 1) := by decide +kernel
theorem dX4_readStart_50 : decode cX4_readStart 50 = .ok (.ireturn, 1) := by decide +kernel
set_option maxRecDepth 20000 in
theorem ggX4_readDeed_X4_addAct : GoodIn wsX4_readDeed wsX4_addAct := goodIn_r _ [6, 7, 8, 9, 10, 11, 12, 13, 1, 14, 15, 16, 17, 18, 19, 20, 21, 22, 23] (by decide +kernel) (by decide +kernel)
set_option maxRecDepth 20000 in
theorem gX4_readDeed_X4_addAct : GoodIn wsX4_readDeed (wsV RX4 59 RX4 yX4_addAct wsX4_addAct) := goodIn_app (goodIn_of _ (by decide +kernel)) ggX4_readDeed_X4_addAct
theorem dX4_readDeed_0 : decode cX4_readDeed 0 = .ok (.iload_n 1, 1) := by decide +kernel
theorem dX4_readDeed_1 : decode cX4_readDeed 1 = .ok (.bipush 94, 2) := by decide +kernel
theorem dX4_readDeed_3 : decode cX4_readDeed 3 = .ok (.if_icmp .ne 11, 3) := by decide +kernel
theorem dX4_readDeed_6 : decode cX4_readDeed 6 = .ok (.aload_n 0, 1) := by decide +kernel
theorem dX4_readDeed_7 : decode cX4_readDeed 7 = .ok (.iconst 0, 1) := by decide +kernel
theorem dX4_readDeed_8 : decode cX4_readDeed 8 = .ok (.iconst 0, 1) := by decide +kernel
theorem dX4_readDeed_9 : decode cX4_readDeed 9 = .ok (.invokevirtual 59, 3) := by decide +kernel
theorem dX4_readDeed_12 : decode cX4_readDeed 12 = .ok (.iconst 1, 1) := by decide +kernel
theorem dX4_readDeed_13 : decode cX4_readDeed 13 = .ok (.ireturn, 1) := by decide +kernel
theorem dX4_readDeed_14 : decode cX4_readDeed 14 = .ok (.iload_n 1, 1) := by decide +kernel
theorem dX4_readDeed_15 : decode cX4_readDeed 15 = .ok (.bipush 95, 2) := by decide +kernel
theorem dX4_readDeed_17 : decode cX4_readDeed 17 = .ok (.if_icmp .ne 11, 3) := by decide +kernel
theorem dX4_readDeed_20 : decode cX4_readDeed 20 = .ok (.aload_n 0, 1) := by decide +kernel
theorem dX4_readDeed_21 : decode cX4_readDeed 21 = .ok (.iconst 1, 1) := by decide +kernel
theorem dX4_readDeed_22 : decode cX4_readDeed 22 = .ok (.iconst 0, 1) := by decide +kernel
theorem dX4_readDeed_23 : decode cX4_readDeed 23 = .ok (.invokevirtual 59, 3) := by decide +kernel
theorem dX4_readDeed_26 : decode cX4_readDeed 26 = .ok (.iconst 1, 1) := by decide +kernel
theorem dX4_readDeed_27 : decode cX4_readDeed 27 = .ok (.ireturn, 1) := by decide +kernel
theorem dX4_readDeed_28 : decode cX4_readDeed 28 = .ok (.iload_n 1, 1) := by decide +kernel
theorem dX4_readDeed_29 : decode cX4_readDeed 29 = .ok (.bipush 62, 2) := by decide +kernel
theorem dX4_readDeed_31 : decode cX4_readDeed 31 = .ok (.if_icmp .ne 10, 3) := by decide +kernel
theorem dX4_readDeed_34 : decode cX4_readDeed 34 = .ok (.aload_n 0, 1) := by decide +kernel
theorem dX4_readDeed_35 : decode cX4_readDeed 35 = .ok (.iconst 2, 1) := by decide +kernel
theorem dX4_readDeed_36 : decode cX4_readDeed 36 = .ok (.putfield 28, 3) := by decide +kernel
theorem dX4_readDeed_39 : decode cX4_readDeed 39 = .ok (.iconst 1, 1) := by decide +kernel
theorem dX4_readDeed_40 : decode cX4_readDeed 40 = .ok (.ireturn, 1) := by decide +kernel
theorem dX4_readDeed_41 : decode cX4_readDeed 41 = .ok (.iconst 0, 1) := by decide +kernel
theorem dX4_readDeed_42 : decode cX4_readDeed 42 = .ok (.ireturn, 1) := by decide +kernel
set_option maxRecDepth 20000 in
theorem ggX4_readAmount_X4_addAct : GoodIn wsX4_readAmount wsX4_addAct := goodIn_r _ [5, 6, 7, 8, 9, 10, 11, 12, 13, 14, 15, 16, 17, 18, 19, 20, 21, 22, 23] (by decide +kernel) (by decide +kernel)
set_option maxRecDepth 20000 in
theorem gX4_readAmount_X4_addAct : GoodIn wsX4_readAmount (wsV RX4 59 RX4 yX4_addAct wsX4_addAct) := goodIn_app (goodIn_of _ (by decide +kernel)) ggX4_readAmount_X4_addAct
theorem dX4_readAmount_0 : decode cX4_readAmount 0 = .ok (.iload_n 1, 1) := by decide +kernel
theorem dX4_readAmount_1 : decode cX4_readAmount 1 = .ok (.bipush 49, 2) := by decide +kernel
theorem dX4_readAmount_3 : decode cX4_readAmount 3 = .ok (.if_icmp .lt 9, 3) := by decide +kernel
theorem dX4_readAmount_6 : decode cX4_readAmount 6 = .ok (.iload_n 1, 1) := by decide +kernel
theorem dX4_readAmount_7 : decode cX4_readAmount 7 = .ok (.bipush 57, 2) := by decide +kernel
theorem dX4_readAmount_9 : decode cX4_readAmount 9 = .ok (.if_icmp .le 5, 3) := by decide +kernel
theorem dX4_readAmount_12 : decode cX4_readAmount 12 = .ok (.iconst 0, 1) := by decide +kernel
theorem dX4_readAmount_13 : decode cX4_readAmount 13 = .ok (.ireturn, 1) := by decide +kernel
theorem dX4_readAmount_14 : decode cX4_readAmount 14 = .ok (.aload_n 0, 1) := by decide +kernel
theorem dX4_readAmount_15 : decode cX4_readAmount 15 = .ok (.iconst 2, 1) := by decide +kernel
theorem dX4_readAmount_16 : decode cX4_readAmount 16 = .ok (.iload_n 1, 1) := by decide +kernel
theorem dX4_readAmount_17 : decode cX4_readAmount 17 = .ok (.bipush 48, 2) := by decide +kernel
theorem dX4_readAmount_19 : decode cX4_readAmount 19 = .ok (.isub, 1) := by decide +kernel
theorem dX4_readAmount_20 : decode cX4_readAmount 20 = .ok (.invokevirtual 59, 3) := by decide +kernel
theorem dX4_readAmount_23 : decode cX4_readAmount 23 = .ok (.iconst 1, 1) := by decide +kernel
theorem dX4_readAmount_24 : decode cX4_readAmount 24 = .ok (.ireturn, 1) := by decide +kernel
set_option maxRecDepth 20000 in
theorem ggX4_readAnotherHouse_X4_isLetter : GoodIn wsX4_readAnotherHouse wsX4_isLetter := goodIn_r _ [7] (by decide +kernel) (by decide +kernel)
set_option maxRecDepth 20000 in
theorem gX4_readAnotherHouse_X4_isLetter : GoodIn wsX4_readAnotherHouse (va_wsS RX4 53 yX4_isLetter wsX4_isLetter) := goodIn_app (goodIn_of _ (by decide +kernel)) ggX4_readAnotherHouse_X4_isLetter
set_option maxRecDepth 20000 in
theorem ggX4_readAnotherHouse_X4_addAct : GoodIn wsX4_readAnotherHouse wsX4_addAct := goodIn_r _ [11, 12, 13, 14, 2, 15, 3, 16, 1, 17, 18, 19, 20, 21, 22, 23, 24, 25, 26] (by decide +kernel) (by decide +kernel)
set_option maxRecDepth 20000 in
theorem gX4_readAnotherHouse_X4_addAct : GoodIn wsX4_readAnotherHouse (wsV RX4 59 RX4 yX4_addAct wsX4_addAct) := goodIn_app (goodIn_of _ (by decide +kernel)) ggX4_readAnotherHouse_X4_addAct
theorem dX4_readAnotherHouse_0 : decode cX4_readAnotherHouse 0 = .ok (.iload_n 1, 1) := by decide +kernel
theorem dX4_readAnotherHouse_1 : decode cX4_readAnotherHouse 1 = .ok (.invokestatic 53, 3) := by decide +kernel
theorem dX4_readAnotherHouse_4 : decode cX4_readAnotherHouse 4 = .ok (.ifCond .ne 5, 3) := by decide +kernel
theorem dX4_readAnotherHouse_7 : decode cX4_readAnotherHouse 7 = .ok (.iconst 0, 1) := by decide +kernel
theorem dX4_readAnotherHouse_8 : decode cX4_readAnotherHouse 8 = .ok (.ireturn, 1) := by decide +kernel
theorem dX4_readAnotherHouse_9 : decode cX4_readAnotherHouse 9 = .ok (.aload_n 0, 1) := by decide +kernel
theorem dX4_readAnotherHouse_10 : decode cX4_readAnotherHouse 10 = .ok (.getfield 28, 3) := by decide +kernel
theorem dX4_readAnotherHouse_13 : decode cX4_readAnotherHouse 13 = .ok (.iconst 4, 1) := by decide +kernel
theorem dX4_readAnotherHouse_14 : decode cX4_readAnotherHouse 14 = .ok (.if_icmp .ne 18, 3) := by decide +kernel
theorem dX4_readAnotherHouse_17 : decode cX4_readAnotherHouse 17 = .ok (.aload_n 0, 1) := by decide +kernel
theorem dX4_readAnotherHouse_18 : decode cX4_readAnotherHouse 18 = .ok (.iload_n 1, 1) := by decide +kernel
theorem dX4_readAnotherHouse_19 : decode cX4_readAnotherHouse 19 = .ok (.bipush 65, 2) := by decide +kernel
theorem dX4_readAnotherHouse_21 : decode cX4_readAnotherHouse 21 = .ok (.isub, 1) := by decide +kernel
theorem dX4_readAnotherHouse_22 : decode cX4_readAnotherHouse 22 = .ok (.putfield 56, 3) := by decide +kernel
theorem dX4_readAnotherHouse_25 : decode cX4_readAnotherHouse 25 = .ok (.aload_n 0, 1) := by decide +kernel
theorem dX4_readAnotherHouse_26 : decode cX4_readAnotherHouse 26 = .ok (.iconst 5, 1) := by decide +kernel
theorem dX4_readAnotherHouse_27 : decode cX4_readAnotherHouse 27 = .ok (.putfield 28, 3) := by decide +kernel
theorem dX4_readAnotherHouse_30 : decode cX4_readAnotherHouse 30 = .ok (.iconst 1, 1) := by decide +kernel
theorem dX4_readAnotherHouse_31 : decode cX4_readAnotherHouse 31 = .ok (.ireturn, 1) := by decide +kernel
theorem dX4_readAnotherHouse_32 : decode cX4_readAnotherHouse 32 = .ok (.aload_n 0, 1) := by decide +kernel
theorem dX4_readAnotherHouse_33 : decode cX4_readAnotherHouse 33 = .ok (.iload_n 1, 1) := by decide +kernel
theorem dX4_readAnotherHouse_34 : decode cX4_readAnotherHouse 34 = .ok (.bipush 65, 2) := by decide +kernel
theorem dX4_readAnotherHouse_36 : decode cX4_readAnotherHouse 36 = .ok (.isub, 1) := by decide +kernel
theorem dX4_readAnotherHouse_37 : decode cX4_readAnotherHouse 37 = .ok (.putfield 63, 3) := by decide +kernel
theorem dX4_readAnotherHouse_40 : decode cX4_readAnotherHouse 40 = .ok (.aload_n 0, 1) := by decide +kernel
theorem dX4_readAnotherHouse_41 : decode cX4_readAnotherHouse 41 = .ok (.getfield 28, 3) := by decide +kernel
theorem dX4_readAnotherHouse_44 : decode cX4_readAnotherHouse 44 = .ok (.iconst 2, 1) := by decide +kernel
theorem dX4_readAnotherHouse_45 : decode cX4_readAnotherHouse 45 = .ok (.if_icmp .ne 11, 3) := by decide +kernel
theorem dX4_readAnotherHouse_48 : decode cX4_readAnotherHouse 48 = .ok (.aload_n 0, 1) := by decide +kernel
theorem dX4_readAnotherHouse_49 : decode cX4_readAnotherHouse 49 = .ok (.iconst 3, 1) := by decide +kernel
theorem dX4_readAnotherHouse_50 : decode cX4_readAnotherHouse 50 = .ok (.putfield 28, 3) := by decide +kernel
theorem dX4_readAnotherHouse_53 : decode cX4_readAnotherHouse 53 = .ok (.goto 9, 3) := by decide +kernel
theorem dX4_readAnotherHouse_56 : decode cX4_readAnotherHouse 56 = .ok (.aload_n 0, 1) := by decide +kernel
theorem dX4_readAnotherHouse_57 : decode cX4_readAnotherHouse 57 = .ok (.iconst 3, 1) := by decide +kernel
theorem dX4_readAnotherHouse_58 : decode cX4_readAnotherHouse 58 = .ok (.iconst 0, 1) := by decide +kernel
theorem dX4_readAnotherHouse_59 : decode cX4_readAnotherHouse 59 = .ok (.invokevirtual 59, 3) := by decide +kernel
theorem dX4_readAnotherHouse_62 : decode cX4_readAnotherHouse 62 = .ok (.iconst 1, 1) := by decide +kernel
theorem dX4_readAnotherHouse_63 : decode cX4_readAnotherHouse 63 = .ok (.ireturn, 1) := by decide +kernel
theorem dX4_addAct_0 : decode cX4_addAct 0 = .ok (.aload_n 0, 1) := by decide +kernel
theorem dX4_addAct_1 : decode cX4_addAct 1 = .ok (.getfield 31, 3) := by decide +kernel
theorem dX4_addAct_4 : decode cX4_addAct 4 = .ok (.bipush 60, 2) := by decide +kernel
theorem dX4_addAct_6 : decode cX4_addAct 6 = .ok (.if_icmp .ge 59, 3) := by decide +kernel
theorem dX4_addAct_9 : decode cX4_addAct 9 = .ok (.aload_n 0, 1) := by decide +kernel
theorem dX4_addAct_10 : decode cX4_addAct 10 = .ok (.getfield 9, 3) := by decide +kernel
theorem dX4_addAct_13 : decode cX4_addAct 13 = .ok (.aload_n 0, 1) := by decide +kernel
theorem dX4_addAct_14 : decode cX4_addAct 14 = .ok (.getfield 31, 3) := by decide +kernel
theorem dX4_addAct_17 : decode cX4_addAct 17 = .ok (.iload_n 1, 1) := by decide +kernel
theorem dX4_addAct_18 : decode cX4_addAct 18 = .ok (.iastore, 1) := by decide +kernel
theorem dX4_addAct_19 : decode cX4_addAct 19 = .ok (.aload_n 0, 1) := by decide +kernel
theorem dX4_addAct_20 : decode cX4_addAct 20 = .ok (.getfield 15, 3) := by decide +kernel
theorem dX4_addAct_23 : decode cX4_addAct 23 = .ok (.aload_n 0, 1) := by decide +kernel
theorem dX4_addAct_24 : decode cX4_addAct 24 = .ok (.getfield 31, 3) := by decide +kernel
theorem dX4_addAct_27 : decode cX4_addAct 27 = .ok (.aload_n 0, 1) := by decide +kernel
theorem dX4_addAct_28 : decode cX4_addAct 28 = .ok (.getfield 56, 3) := by decide +kernel
theorem dX4_addAct_31 : decode cX4_addAct 31 = .ok (.iastore, 1) := by decide +kernel
theorem dX4_addAct_32 : decode cX4_addAct 32 = .ok (.aload_n 0, 1) := by decide +kernel
theorem dX4_addAct_33 : decode cX4_addAct 33 = .ok (.getfield 18, 3) := by decide +kernel
theorem dX4_addAct_36 : decode cX4_addAct 36 = .ok (.aload_n 0, 1) := by decide +kernel
theorem dX4_addAct_37 : decode cX4_addAct 37 = .ok (.getfield 31, 3) := by decide +kernel
theorem dX4_addAct_40 : decode cX4_addAct 40 = .ok (.aload_n 0, 1) := by decide +kernel
theorem dX4_addAct_41 : decode cX4_addAct 41 = .ok (.getfield 63, 3) := by decide +kernel
theorem dX4_addAct_44 : decode cX4_addAct 44 = .ok (.iastore, 1) := by decide +kernel
theorem dX4_addAct_45 : decode cX4_addAct 45 = .ok (.aload_n 0, 1) := by decide +kernel
theorem dX4_addAct_46 : decode cX4_addAct 46 = .ok (.getfield 21, 3) := by decide +kernel
theorem dX4_addAct_49 : decode cX4_addAct 49 = .ok (.aload_n 0, 1) := by decide +kernel
theorem dX4_addAct_50 : decode cX4_addAct 50 = .ok (.getfield 31, 3) := by decide +kernel
theorem dX4_addAct_53 : decode cX4_addAct 53 = .ok (.iload_n 2, 1) := by decide +kernel
theorem dX4_addAct_54 : decode cX4_addAct 54 = .ok (.iastore, 1) := by decide +kernel
theorem dX4_addAct_55 : decode cX4_addAct 55 = .ok (.aload_n 0, 1) := by decide +kernel
theorem dX4_addAct_56 : decode cX4_addAct 56 = .ok (.dup, 1) := by decide +kernel
theorem dX4_addAct_57 : decode cX4_addAct 57 = .ok (.getfield 31, 3) := by decide +kernel
theorem dX4_addAct_60 : decode cX4_addAct 60 = .ok (.iconst 1, 1) := by decide +kernel
theorem dX4_addAct_61 : decode cX4_addAct 61 = .ok (.iadd, 1) := by decide +kernel
theorem dX4_addAct_62 : decode cX4_addAct 62 = .ok (.putfield 31, 3) := by decide +kernel
theorem dX4_addAct_65 : decode cX4_addAct 65 = .ok (.aload_n 0, 1) := by decide +kernel
theorem dX4_addAct_66 : decode cX4_addAct 66 = .ok (.iconst 0, 1) := by decide +kernel
theorem dX4_addAct_67 : decode cX4_addAct 67 = .ok (.putfield 28, 3) := by decide +kernel
theorem dX4_addAct_70 : decode cX4_addAct 70 = .ok (.return_, 1) := by decide +kernel
theorem dX4_isLetter_0 : decode cX4_isLetter 0 = .ok (.iload_n 0, 1) := by decide +kernel
theorem dX4_isLetter_1 : decode cX4_isLetter 1 = .ok (.bipush 65, 2) := by decide +kernel
theorem dX4_isLetter_3 : decode cX4_isLetter 3 = .ok (.if_icmp .lt 13, 3) := by decide +kernel
theorem dX4_isLetter_6 : decode cX4_isLetter 6 = .ok (.iload_n 0, 1) := by decide +kernel
theorem dX4_isLetter_7 : decode cX4_isLetter 7 = .ok (.bipush 73, 2) := by decide +kernel
theorem dX4_isLetter_9 : decode cX4_isLetter 9 = .ok (.if_icmp .ge 7, 3) := by decide +kernel
theorem dX4_isLetter_12 : decode cX4_isLetter 12 = .ok (.iconst 1, 1) := by decide +kernel
theorem dX4_isLetter_13 : decode cX4_isLetter 13 = .ok (.goto 4, 3) := by decide +kernel
theorem dX4_isLetter_16 : decode cX4_isLetter 16 = .ok (.iconst 0, 1) := by decide +kernel
theorem dX4_isLetter_17 : decode cX4_isLetter 17 = .ok (.ireturn, 1) := by decide +kernel
theorem dX5_init_0 : decode cX5_init 0 = .ok (.aload_n 0, 1) := by decide +kernel
theorem dX5_init_1 : decode cX5_init 1 = .ok (.invokespecial 3, 3) := by decide +kernel
theorem dX5_init_4 : decode cX5_init 4 = .ok (.aload_n 0, 1) := by decide +kernel
theorem dX5_init_5 : decode cX5_init 5 = .ok (.bipush 8, 2) := by decide +kernel
theorem dX5_init_7 : decode cX5_init 7 = .ok (.newarray .int, 2) := by decide +kernel
theorem dX5_init_9 : decode cX5_init 9 = .ok (.putfield 9, 3) := by decide +kernel
theorem dX5_init_12 : decode cX5_init 12 = .ok (.aload_n 0, 1) := by decide +kernel
theorem dX5_init_13 : decode cX5_init 13 = .ok (.bipush 64, 2) := by decide +kernel
theorem dX5_init_15 : decode cX5_init 15 = .ok (.newarray .int, 2) := by decide +kernel
theorem dX5_init_17 : decode cX5_init 17 = .ok (.putfield 15, 3) := by decide +kernel
theorem dX5_init_20 : decode cX5_init 20 = .ok (.aload_n 0, 1) := by decide +kernel
theorem dX5_init_21 : decode cX5_init 21 = .ok (.bipush 8, 2) := by decide +kernel
theorem dX5_init_23 : decode cX5_init 23 = .ok (.newarray .int, 2) := by decide +kernel
theorem dX5_init_25 : decode cX5_init 25 = .ok (.putfield 18, 3) := by decide +kernel
theorem dX5_init_28 : decode cX5_init 28 = .ok (.iconst 0, 1) := by decide +kernel
theorem dX5_init_29 : decode cX5_init 29 = .ok (.istore_n 1, 1) := by decide +kernel
theorem dX5_init_30 : decode cX5_init 30 = .ok (.iload_n 1, 1) := by decide +kernel
theorem dX5_init_31 : decode cX5_init 31 = .ok (.bipush 8, 2) := by decide +kernel
theorem dX5_init_33 : decode cX5_init 33 = .ok (.if_icmp .ge 24, 3) := by decide +kernel
theorem dX5_init_36 : decode cX5_init 36 = .ok (.aload_n 0, 1) := by decide +kernel
theorem dX5_init_37 : decode cX5_init 37 = .ok (.getfield 9, 3) := by decide +kernel
theorem dX5_init_40 : decode cX5_init 40 = .ok (.iload_n 1, 1) := by decide +kernel
theorem dX5_init_41 : decode cX5_init 41 = .ok (.bipush 50, 2) := by decide +kernel
theorem dX5_init_43 : decode cX5_init 43 = .ok (.iastore, 1) := by decide +kernel
theorem dX5_init_44 : decode cX5_init 44 = .ok (.aload_n 0, 1) := by decide +kernel
theorem dX5_init_45 : decode cX5_init 45 = .ok (.getfield 18, 3) := by decide +kernel
theorem dX5_init_48 : decode cX5_init 48 = .ok (.iload_n 1, 1) := by decide +kernel
theorem dX5_init_49 : decode cX5_init 49 = .ok (.iload_n 1, 1) := by decide +kernel
theorem dX5_init_50 : decode cX5_init 50 = .ok (.iastore, 1) := by decide +kernel
theorem dX5_init_51 : decode cX5_init 51 = .ok (.iinc 1 1, 3) := by decide +kernel
theorem dX5_init_54 : decode cX5_init 54 = .ok (.goto (-24), 3) := by decide +kernel
theorem dX5_init_57 : decode cX5_init 57 = .ok (.return_, 1) := by decide +kernel
theorem dX5_copyFrom_0 : decode cX5_copyFrom 0 = .ok (.aload_n 1, 1) := by decide +kernel
theorem dX5_copyFrom_1 : decode cX5_copyFrom 1 = .ok (.getfield 9, 3) := by decide +kernel
theorem dX5_copyFrom_4 : decode cX5_copyFrom 4 = .ok (.iconst 0, 1) := by decide +kernel
theorem dX5_copyFrom_5 : decode cX5_copyFrom 5 = .ok (.aload_n 0, 1) := by decide +kernel
theorem dX5_copyFrom_6 : decode cX5_copyFrom 6 = .ok (.getfield 9, 3) := by decide +kernel
theorem dX5_copyFrom_9 : decode cX5_copyFrom 9 = .ok (.iconst 0, 1) := by decide +kernel
theorem dX5_copyFrom_10 : decode cX5_copyFrom 10 = .ok (.bipush 8, 2) := by decide +kernel
theorem dX5_copyFrom_12 : decode cX5_copyFrom 12 = .ok (.invokestatic 21, 3) := by decide +kernel
theorem dX5_copyFrom_15 : decode cX5_copyFrom 15 = .ok (.aload_n 1, 1) := by decide +kernel
theorem dX5_copyFrom_16 : decode cX5_copyFrom 16 = .ok (.getfield 15, 3) := by decide +kernel
theorem dX5_copyFrom_19 : decode cX5_copyFrom 19 = .ok (.iconst 0, 1) := by decide +kernel
theorem dX5_copyFrom_20 : decode cX5_copyFrom 20 = .ok (.aload_n 0, 1) := by decide +kernel
theorem dX5_copyFrom_21 : decode cX5_copyFrom 21 = .ok (.getfield 15, 3) := by decide +kernel
theorem dX5_copyFrom_24 : decode cX5_copyFrom 24 = .ok (.iconst 0, 1) := by decide +kernel
theorem dX5_copyFrom_25 : decode cX5_copyFrom 25 = .ok (.bipush 64, 2) := by decide +kernel
theorem dX5_copyFrom_27 : decode cX5_copyFrom 27 = .ok (.invokestatic 21, 3) := by decide +kernel
theorem dX5_copyFrom_30 : decode cX5_copyFrom 30 = .ok (.aload_n 1, 1) := by decide +kernel
theorem dX5_copyFrom_31 : decode cX5_copyFrom 31 = .ok (.getfield 18, 3) := by decide +kernel
theorem dX5_copyFrom_34 : decode cX5_copyFrom 34 = .ok (.iconst 0, 1) := by decide +kernel
theorem dX5_copyFrom_35 : decode cX5_copyFrom 35 = .ok (.aload_n 0, 1) := by decide +kernel
theorem dX5_copyFrom_36 : decode cX5_copyFrom 36 = .ok (.getfield 18, 3) := by decide +kernel
theorem dX5_copyFrom_39 : decode cX5_copyFrom 39 = .ok (.iconst 0, 1) := by decide +kernel
theorem dX5_copyFrom_40 : decode cX5_copyFrom 40 = .ok (.bipush 8, 2) := by decide +kernel
theorem dX5_copyFrom_42 : decode cX5_copyFrom 42 = .ok (.invokestatic 21, 3) := by decide +kernel
theorem dX5_copyFrom_45 : decode cX5_copyFrom 45 = .ok (.aload_n 0, 1) := by decide +kernel
theorem dX5_copyFrom_46 : decode cX5_copyFrom 46 = .ok (.aload_n 1, 1) := by decide +kernel
theorem dX5_copyFrom_47 : decode cX5_copyFrom 47 = .ok (.getfield 27, 3) := by decide +kernel
theorem dX5_copyFrom_50 : decode cX5_copyFrom 50 = .ok (.putfield 27, 3) := by decide +kernel
theorem dX5_copyFrom_53 : decode cX5_copyFrom 53 = .ok (.aload_n 0, 1) := by decide +kernel
theorem dX5_copyFrom_54 : decode cX5_copyFrom 54 = .ok (.aload_n 1, 1) := by decide +kernel
theorem dX5_copyFrom_55 : decode cX5_copyFrom 55 = .ok (.getfield 31, 3) := by decide +kernel
theorem dX5_copyFrom_58 : decode cX5_copyFrom 58 = .ok (.putfield 31, 3) := by decide +kernel
theorem dX5_copyFrom_61 : decode cX5_copyFrom 61 = .ok (.aload_n 0, 1) := by decide +kernel
theorem dX5_copyFrom_62 : decode cX5_copyFrom 62 = .ok (.aload_n 1, 1) := by decide +kernel
theorem dX5_copyFrom_63 : decode cX5_copyFrom 63 = .ok (.getfield 34, 3) := by decide +kernel
theorem dX5_copyFrom_66 : decode cX5_copyFrom 66 = .ok (.putfield 34, 3) := by decide +kernel
theorem dX5_copyFrom_69 : decode cX5_copyFrom 69 = .ok (.return_, 1) := by decide +kernel
theorem dX5_isIn_0 : decode cX5_isIn 0 = .ok (.aload_n 0, 1) := by decide +kernel
theorem dX5_isIn_1 : decode cX5_isIn 1 = .ok (.getfield 27, 3) := by decide +kernel
theorem dX5_isIn_4 : decode cX5_isIn 4 = .ok (.iload_n 1, 1) := by decide +kernel
theorem dX5_isIn_5 : decode cX5_isIn 5 = .ok (.ishr, 1) := by decide +kernel
theorem dX5_isIn_6 : decode cX5_isIn 6 = .ok (.iconst 1, 1) := by decide +kernel
theorem dX5_isIn_7 : decode cX5_isIn 7 = .ok (.iand, 1) := by decide +kernel
theorem dX5_isIn_8 : decode cX5_isIn 8 = .ok (.iconst 1, 1) := by decide +kernel
theorem dX5_isIn_9 : decode cX5_isIn 9 = .ok (.if_icmp .ne 7, 3) := by decide +kernel
theorem dX5_isIn_12 : decode cX5_isIn 12 = .ok (.iconst 1, 1) := by decide +kernel
theorem dX5_isIn_13 : decode cX5_isIn 13 = .ok (.goto 4, 3) := by decide +kernel
theorem dX5_isIn_16 : decode cX5_isIn 16 = .ok (.iconst 0, 1) := by decide +kernel
theorem dX5_isIn_17 : decode cX5_isIn 17 = .ok (.ireturn, 1) := by decide +kernel
theorem dX5_setIn_0 : decode cX5_setIn 0 = .ok (.aload_n 0, 1) := by decide +kernel
theorem dX5_setIn_1 : decode cX5_setIn 1 = .ok (.iload_n 2, 1) := by decide +kernel
theorem dX5_setIn_2 : decode cX5_setIn 2 = .ok (.ifCond .eq 14, 3) := by decide +kernel
theorem dX5_setIn_5 : decode cX5_setIn 5 = .ok (.aload_n 0, 1) := by decide +kernel
theorem dX5_setIn_6 : decode cX5_setIn 6 = .ok (.getfield 27, 3) := by decide +kernel
theorem dX5_setIn_9 : decode cX5_setIn 9 = .ok (.iconst 1, 1) := by decide +kernel
theorem dX5_setIn_10 : decode cX5_setIn 10 = .ok (.iload_n 1, 1) := by decide +kernel
theorem dX5_setIn_11 : decode cX5_setIn 11 = .ok (.ishl, 1) := by decide +kernel
theorem dX5_setIn_12 : decode cX5_setIn 12 = .ok (.ior, 1) := by decide +kernel
theorem dX5_setIn_13 : decode cX5_setIn 13 = .ok (.goto 13, 3) := by decide +kernel
theorem dX5_setIn_16 : decode cX5_setIn 16 = .ok (.aload_n 0, 1) := by decide +kernel
theorem dX5_setIn_17 : decode cX5_setIn 17 = .ok (.getfield 27, 3) := by decide +kernel
theorem dX5_setIn_20 : decode cX5_setIn 20 = .ok (.iconst 1, 1) := by decide +kernel
theorem dX5_setIn_21 : decode cX5_setIn 21 = .ok (.iload_n 1, 1) := by decide +kernel
theorem dX5_setIn_22 : decode cX5_setIn 22 = .ok (.ishl, 1) := by decide +kernel
theorem dX5_setIn_23 : decode cX5_setIn 23 = .ok (.iconst (-1), 1) := by decide +kernel
theorem dX5_setIn_24 : decode cX5_setIn 24 = .ok (.ixor, 1) := by decide +kernel
theorem dX5_setIn_25 : decode cX5_setIn 25 = .ok (.iand, 1) := by decide +kernel
theorem dX5_setIn_26 : decode cX5_setIn 26 = .ok (.putfield 27, 3) := by decide +kernel
theorem dX5_setIn_29 : decode cX5_setIn 29 = .ok (.return_, 1) := by decide +kernel
theorem dX5_wealthOf_0 : decode cX5_wealthOf 0 = .ok (.iload_n 1, 1) := by decide +kernel
theorem dX5_wealthOf_1 : decode cX5_wealthOf 1 = .ok (.ifCond .lt 18, 3) := by decide +kernel
theorem dX5_wealthOf_4 : decode cX5_wealthOf 4 = .ok (.iload_n 1, 1) := by decide +kernel
theorem dX5_wealthOf_5 : decode cX5_wealthOf 5 = .ok (.bipush 8, 2) := by decide +kernel
theorem dX5_wealthOf_7 : decode cX5_wealthOf 7 = .ok (.if_icmp .ge 12, 3) := by decide +kernel
theorem dX5_wealthOf_10 : decode cX5_wealthOf 10 = .ok (.aload_n 0, 1) := by decide +kernel
theorem dX5_wealthOf_11 : decode cX5_wealthOf 11 = .ok (.getfield 9, 3) := by decide +kernel
theorem dX5_wealthOf_14 : decode cX5_wealthOf 14 = .ok (.iload_n 1, 1) := by decide +kernel
theorem dX5_wealthOf_15 : decode cX5_wealthOf 15 = .ok (.iaload, 1) := by decide +kernel
theorem dX5_wealthOf_16 : decode cX5_wealthOf 16 = .ok (.goto 4, 3) := by decide +kernel
theorem dX5_wealthOf_19 : decode cX5_wealthOf 19 = .ok (.iconst 0, 1) := by decide +kernel
theorem dX5_wealthOf_20 : decode cX5_wealthOf 20 = .ok (.ireturn, 1) := by decide +kernel
theorem dX5_houseAtNext_0 : decode cX5_houseAtNext 0 = .ok (.aload_n 0, 1) := by decide +kernel
theorem dX5_houseAtNext_1 : decode cX5_houseAtNext 1 = .ok (.getfield 31, 3) := by decide +kernel
theorem dX5_houseAtNext_4 : decode cX5_houseAtNext 4 = .ok (.ifCond .lt 24, 3) := by decide +kernel
theorem dX5_houseAtNext_7 : decode cX5_houseAtNext 7 = .ok (.aload_n 0, 1) := by decide +kernel
theorem dX5_houseAtNext_8 : decode cX5_houseAtNext 8 = .ok (.getfield 31, 3) := by decide +kernel
theorem dX5_houseAtNext_11 : decode cX5_houseAtNext 11 = .ok (.bipush 8, 2) := by decide +kernel
theorem dX5_houseAtNext_13 : decode cX5_houseAtNext 13 = .ok (.if_icmp .ge 15, 3) := by decide +kernel
theorem dX5_houseAtNext_16 : decode cX5_houseAtNext 16 = .ok (.aload_n 0, 1) := by decide +kernel
theorem dX5_houseAtNext_17 : decode cX5_houseAtNext 17 = .ok (.getfield 18, 3) := by decide +kernel
theorem dX5_houseAtNext_20 : decode cX5_houseAtNext 20 = .ok (.aload_n 0, 1) := by decide +kernel
theorem dX5_houseAtNext_21 : decode cX5_houseAtNext 21 = .ok (.getfield 31, 3) := by decide +kernel
theorem dX5_houseAtNext_24 : decode cX5_houseAtNext 24 = .ok (.iaload, 1) := by decide +kernel
theorem dX5_houseAtNext_25 : decode cX5_houseAtNext 25 = .ok (.goto 9, 3) := by decide +kernel
theorem dX5_houseAtNext_28 : decode cX5_houseAtNext 28 = .ok (.aload_n 0, 1) := by decide +kernel
theorem dX5_houseAtNext_29 : decode cX5_houseAtNext 29 = .ok (.getfield 18, 3) := by decide +kernel
theorem dX5_houseAtNext_32 : decode cX5_houseAtNext 32 = .ok (.iconst 0, 1) := by decide +kernel
theorem dX5_houseAtNext_33 : decode cX5_houseAtNext 33 = .ok (.iaload, 1) := by decide +kernel
theorem dX5_houseAtNext_34 : decode cX5_houseAtNext 34 = .ok (.ireturn, 1) := by decide +kernel
theorem dX5_rowNumber_0 : decode cX5_rowNumber 0 = .ok (.iconst 0, 1) := by decide +kernel
theorem dX5_rowNumber_1 : decode cX5_rowNumber 1 = .ok (.istore_n 1, 1) := by decide +kernel
theorem dX5_rowNumber_2 : decode cX5_rowNumber 2 = .ok (.iconst 0, 1) := by decide +kernel
theorem dX5_rowNumber_3 : decode cX5_rowNumber 3 = .ok (.istore_n 2, 1) := by decide +kernel
theorem dX5_rowNumber_4 : decode cX5_rowNumber 4 = .ok (.iload_n 2, 1) := by decide +kernel
theorem dX5_rowNumber_5 : decode cX5_rowNumber 5 = .ok (.bipush 8, 2) := by decide +kernel
theorem dX5_rowNumber_7 : decode cX5_rowNumber 7 = .ok (.if_icmp .ge 21, 3) := by decide +kernel
theorem dX5_rowNumber_10 : decode cX5_rowNumber 10 = .ok (.iload_n 1, 1) := by decide +kernel
theorem dX5_rowNumber_11 : decode cX5_rowNumber 11 = .ok (.bipush 10, 2) := by decide +kernel
theorem dX5_rowNumber_13 : decode cX5_rowNumber 13 = .ok (.imul, 1) := by decide +kernel
theorem dX5_rowNumber_14 : decode cX5_rowNumber 14 = .ok (.aload_n 0, 1) := by decide +kernel
theorem dX5_rowNumber_15 : decode cX5_rowNumber 15 = .ok (.getfield 18, 3) := by decide +kernel
theorem dX5_rowNumber_18 : decode cX5_rowNumber 18 = .ok (.iload_n 2, 1) := by decide +kernel
theorem dX5_rowNumber_19 : decode cX5_rowNumber 19 = .ok (.iaload, 1) := by decide +kernel
theorem dX5_rowNumber_20 : decode cX5_rowNumber 20 = .ok (.iadd, 1) := by decide +kernel
theorem dX5_rowNumber_21 : decode cX5_rowNumber 21 = .ok (.istore_n 1, 1) := by decide +kernel
theorem dX5_rowNumber_22 : decode cX5_rowNumber 22 = .ok (.iinc 2 1, 3) := by decide +kernel
theorem dX5_rowNumber_25 : decode cX5_rowNumber 25 = .ok (.goto (-21), 3) := by decide +kernel
theorem dX5_rowNumber_28 : decode cX5_rowNumber 28 = .ok (.iload_n 1, 1) := by decide +kernel
theorem dX5_rowNumber_29 : decode cX5_rowNumber 29 = .ok (.ireturn, 1) := by decide +kernel
theorem dX5_setRow_0 : decode cX5_setRow 0 = .ok (.iload_n 1, 1) := by decide +kernel
theorem dX5_setRow_1 : decode cX5_setRow 1 = .ok (.istore_n 2, 1) := by decide +kernel
theorem dX5_setRow_2 : decode cX5_setRow 2 = .ok (.bipush 7, 2) := by decide +kernel
theorem dX5_setRow_4 : decode cX5_setRow 4 = .ok (.istore_n 3, 1) := by decide +kernel
theorem dX5_setRow_5 : decode cX5_setRow 5 = .ok (.iload_n 3, 1) := by decide +kernel
theorem dX5_setRow_6 : decode cX5_setRow 6 = .ok (.ifCond .lt 24, 3) := by decide +kernel
theorem dX5_setRow_9 : decode cX5_setRow 9 = .ok (.aload_n 0, 1) := by decide +kernel
theorem dX5_setRow_10 : decode cX5_setRow 10 = .ok (.getfield 18, 3) := by decide +kernel
theorem dX5_setRow_13 : decode cX5_setRow 13 = .ok (.iload_n 3, 1) := by decide +kernel
theorem dX5_setRow_14 : decode cX5_setRow 14 = .ok (.iload_n 2, 1) := by decide +kernel
theorem dX5_setRow_15 : decode cX5_setRow 15 = .ok (.bipush 10, 2) := by decide +kernel
theorem dX5_setRow_17 : decode cX5_setRow 17 = .ok (.irem, 1) := by decide +kernel
theorem dX5_setRow_18 : decode cX5_setRow 18 = .ok (.iastore, 1) := by decide +kernel
theorem dX5_setRow_19 : decode cX5_setRow 19 = .ok (.iload_n 2, 1) := by decide +kernel
theorem dX5_setRow_20 : decode cX5_setRow 20 = .ok (.bipush 10, 2) := by decide +kernel
theorem dX5_setRow_22 : decode cX5_setRow 22 = .ok (.idiv, 1) := by decide +kernel
theorem dX5_setRow_23 : decode cX5_setRow 23 = .ok (.istore_n 2, 1) := by decide +kernel
theorem dX5_setRow_24 : decode cX5_setRow 24 = .ok (.iinc 3 (-1), 3) := by decide +kernel
theorem dX5_setRow_27 : decode cX5_setRow 27 = .ok (.goto (-22), 3) := by decide +kernel
theorem dX5_setRow_30 : decode cX5_setRow 30 = .ok (.return_, 1) := by decide +kernel
theorem dX5_placeOf_0 : decode cX5_placeOf 0 = .ok (.iconst 0, 1) := by decide +kernel
theorem dX5_placeOf_1 : decode cX5_placeOf 1 = .ok (.istore_n 2, 1) := by decide +kernel
theorem dX5_placeOf_2 : decode cX5_placeOf 2 = .ok (.iload_n 2, 1) := by decide +kernel
theorem dX5_placeOf_3 : decode cX5_placeOf 3 = .ok (.bipush 8, 2) := by decide +kernel
theorem dX5_placeOf_5 : decode cX5_placeOf 5 = .ok (.if_icmp .ge 21, 3) := by decide +kernel
theorem dX5_placeOf_8 : decode cX5_placeOf 8 = .ok (.aload_n 0, 1) := by decide +kernel
theorem dX5_placeOf_9 : decode cX5_placeOf 9 = .ok (.getfield 18, 3) := by decide +kernel
theorem dX5_placeOf_12 : decode cX5_placeOf 12 = .ok (.iload_n 2, 1) := by decide +kernel
theorem dX5_placeOf_13 : decode cX5_placeOf 13 = .ok (.iaload, 1) := by decide +kernel
theorem dX5_placeOf_14 : decode cX5_placeOf 14 = .ok (.iload_n 1, 1) := by decide +kernel
theorem dX5_placeOf_15 : decode cX5_placeOf 15 = .ok (.if_icmp .ne 5, 3) := by decide +kernel
theorem dX5_placeOf_18 : decode cX5_placeOf 18 = .ok (.iload_n 2, 1) := by decide +kernel
theorem dX5_placeOf_19 : decode cX5_placeOf 19 = .ok (.ireturn, 1) := by decide +kernel
theorem dX5_placeOf_20 : decode cX5_placeOf 20 = .ok (.iinc 2 1, 3) := by decide +kernel
theorem dX5_placeOf_23 : decode cX5_placeOf 23 = .ok (.goto (-21), 3) := by decide +kernel
theorem dX5_placeOf_26 : decode cX5_placeOf 26 = .ok (.bipush (-6), 2) := by decide +kernel
theorem dX5_placeOf_28 : decode cX5_placeOf 28 = .ok (.ireturn, 1) := by decide +kernel
theorem dX5_wealthInAll_0 : decode cX5_wealthInAll 0 = .ok (.iconst 0, 1) := by decide +kernel
theorem dX5_wealthInAll_1 : decode cX5_wealthInAll 1 = .ok (.istore_n 1, 1) := by decide +kernel
theorem dX5_wealthInAll_2 : decode cX5_wealthInAll 2 = .ok (.iconst 0, 1) := by decide +kernel
theorem dX5_wealthInAll_3 : decode cX5_wealthInAll 3 = .ok (.istore_n 2, 1) := by decide +kernel
theorem dX5_wealthInAll_4 : decode cX5_wealthInAll 4 = .ok (.iload_n 2, 1) := by decide +kernel
theorem dX5_wealthInAll_5 : decode cX5_wealthInAll 5 = .ok (.bipush 8, 2) := by decide +kernel
theorem dX5_wealthInAll_7 : decode cX5_wealthInAll 7 = .ok (.if_icmp .ge 18, 3) := by decide +kernel
theorem dX5_wealthInAll_10 : decode cX5_wealthInAll 10 = .ok (.iload_n 1, 1) := by decide +kernel
theorem dX5_wealthInAll_11 : decode cX5_wealthInAll 11 = .ok (.aload_n 0, 1) := by decide +kernel
theorem dX5_wealthInAll_12 : decode cX5_wealthInAll 12 = .ok (.getfield 9, 3) := by decide +kernel
theorem dX5_wealthInAll_15 : decode cX5_wealthInAll 15 = .ok (.iload_n 2, 1) := by decide +kernel
theorem dX5_wealthInAll_16 : decode cX5_wealthInAll 16 = .ok (.iaload, 1) := by decide +kernel
theorem dX5_wealthInAll_17 : decode cX5_wealthInAll 17 = .ok (.iadd, 1) := by decide +kernel
theorem dX5_wealthInAll_18 : decode cX5_wealthInAll 18 = .ok (.istore_n 1, 1) := by decide +kernel
theorem dX5_wealthInAll_19 : decode cX5_wealthInAll 19 = .ok (.iinc 2 1, 3) := by decide +kernel
theorem dX5_wealthInAll_22 : decode cX5_wealthInAll 22 = .ok (.goto (-18), 3) := by decide +kernel
theorem dX5_wealthInAll_25 : decode cX5_wealthInAll 25 = .ok (.iload_n 1, 1) := by decide +kernel
theorem dX5_wealthInAll_26 : decode cX5_wealthInAll 26 = .ok (.ireturn, 1) := by decide +kernel
set_option maxRecDepth 20000 in
theorem ggX5_poorest_X5_wealthOf : GoodIn wsX5_poorest wsX5_wealthOf := goodIn_r _ [6, 7, 8, 9, 10, 11, 12, 13] (by decide +kernel) (by decide +kernel)
set_option maxRecDepth 20000 in
theorem gX5_poorest_X5_wealthOf : GoodIn wsX5_poorest (wsV RX5 37 RX5 yX5_wealthOf wsX5_wealthOf) := goodIn_app (goodIn_of _ (by decide +kernel)) ggX5_poorest_X5_wealthOf
theorem dX5_poorest_0 : decode cX5_poorest 0 = .ok (.aload_n 0, 1) := by decide +kernel
theorem dX5_poorest_1 : decode cX5_poorest 1 = .ok (.getfield 18, 3) := by decide +kernel
theorem dX5_poorest_4 : decode cX5_poorest 4 = .ok (.iconst 0, 1) := by decide +kernel
theorem dX5_poorest_5 : decode cX5_poorest 5 = .ok (.iaload, 1) := by decide +kernel
theorem dX5_poorest_6 : decode cX5_poorest 6 = .ok (.istore_n 1, 1) := by decide +kernel
theorem dX5_poorest_7 : decode cX5_poorest 7 = .ok (.iconst 1, 1) := by decide +kernel
theorem dX5_poorest_8 : decode cX5_poorest 8 = .ok (.istore_n 2, 1) := by decide +kernel
theorem dX5_poorest_9 : decode cX5_poorest 9 = .ok (.iload_n 2, 1) := by decide +kernel
theorem dX5_poorest_10 : decode cX5_poorest 10 = .ok (.bipush 8, 2) := by decide +kernel
theorem dX5_poorest_12 : decode cX5_poorest 12 = .ok (.if_icmp .ge 34, 3) := by decide +kernel
theorem dX5_poorest_15 : decode cX5_poorest 15 = .ok (.aload_n 0, 1) := by decide +kernel
theorem dX5_poorest_16 : decode cX5_poorest 16 = .ok (.aload_n 0, 1) := by decide +kernel
theorem dX5_poorest_17 : decode cX5_poorest 17 = .ok (.getfield 18, 3) := by decide +kernel
theorem dX5_poorest_20 : decode cX5_poorest 20 = .ok (.iload_n 2, 1) := by decide +kernel
theorem dX5_poorest_21 : decode cX5_poorest 21 = .ok (.iaload, 1) := by decide +kernel
theorem dX5_poorest_22 : decode cX5_poorest 22 = .ok (.invokevirtual 37, 3) := by decide +kernel
theorem dX5_poorest_25 : decode cX5_poorest 25 = .ok (.aload_n 0, 1) := by decide +kernel
theorem dX5_poorest_26 : decode cX5_poorest 26 = .ok (.iload_n 1, 1) := by decide +kernel
theorem dX5_poorest_27 : decode cX5_poorest 27 = .ok (.invokevirtual 37, 3) := by decide +kernel
theorem dX5_poorest_30 : decode cX5_poorest 30 = .ok (.if_icmp .ge 10, 3) := by decide +kernel
theorem dX5_poorest_33 : decode cX5_poorest 33 = .ok (.aload_n 0, 1) := by decide +kernel
theorem dX5_poorest_34 : decode cX5_poorest 34 = .ok (.getfield 18, 3) := by decide +kernel
theorem dX5_poorest_37 : decode cX5_poorest 37 = .ok (.iload_n 2, 1) := by decide +kernel
theorem dX5_poorest_38 : decode cX5_poorest 38 = .ok (.iaload, 1) := by decide +kernel
theorem dX5_poorest_39 : decode cX5_poorest 39 = .ok (.istore_n 1, 1) := by decide +kernel
theorem dX5_poorest_40 : decode cX5_poorest 40 = .ok (.iinc 2 1, 3) := by decide +kernel
theorem dX5_poorest_43 : decode cX5_poorest 43 = .ok (.goto (-34), 3) := by decide +kernel
theorem dX5_poorest_46 : decode cX5_poorest 46 = .ok (.iload_n 1, 1) := by decide +kernel
theorem dX5_poorest_47 : decode cX5_poorest 47 = .ok (.ireturn, 1) := by decide +kernel
theorem dX5_dueOf_0 : decode cX5_dueOf 0 = .ok (.iconst 0, 1) := by decide +kernel
theorem dX5_dueOf_1 : decode cX5_dueOf 1 = .ok (.istore_n 2, 1) := by decide +kernel
