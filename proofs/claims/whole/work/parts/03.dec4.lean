theorem dX10_fault_1 : decode cX10_fault 1 = .ok (.iconst 0, 1) := by decide +kernel
theorem dX10_fault_2 : decode cX10_fault 2 = .ok (.putfield 114, 3) := by decide +kernel
theorem dX10_fault_5 : decode cX10_fault 5 = .ok (.iconst 0, 1) := by decide +kernel
theorem dX10_fault_6 : decode cX10_fault 6 = .ok (.istore_n 1, 1) := by decide +kernel
theorem dX10_fault_7 : decode cX10_fault 7 = .ok (.iconst 0, 1) := by decide +kernel
theorem dX10_fault_8 : decode cX10_fault 8 = .ok (.istore_n 2, 1) := by decide +kernel
theorem dX10_fault_9 : decode cX10_fault 9 = .ok (.iload_n 2, 1) := by decide +kernel
theorem dX10_fault_10 : decode cX10_fault 10 = .ok (.aload_n 0, 1) := by decide +kernel
theorem dX10_fault_11 : decode cX10_fault 11 = .ok (.getfield 111, 3) := by decide +kernel
theorem dX10_fault_14 : decode cX10_fault 14 = .ok (.if_icmp .ge 27, 3) := by decide +kernel
theorem dX10_fault_17 : decode cX10_fault 17 = .ok (.aload_n 0, 1) := by decide +kernel
theorem dX10_fault_18 : decode cX10_fault 18 = .ok (.iload_n 1, 1) := by decide +kernel
theorem dX10_fault_19 : decode cX10_fault 19 = .ok (.aload_n 0, 1) := by decide +kernel
theorem dX10_fault_20 : decode cX10_fault 20 = .ok (.getfield 31, 3) := by decide +kernel
theorem dX10_fault_23 : decode cX10_fault 23 = .ok (.iload_n 2, 1) := by decide +kernel
theorem dX10_fault_24 : decode cX10_fault 24 = .ok (.iaload, 1) := by decide +kernel
theorem dX10_fault_25 : decode cX10_fault 25 = .ok (.invokevirtual 144, 3) := by decide +kernel
theorem dX10_fault_28 : decode cX10_fault 28 = .ok (.istore_n 1, 1) := by decide +kernel
theorem dX10_fault_29 : decode cX10_fault 29 = .ok (.iload_n 1, 1) := by decide +kernel
theorem dX10_fault_30 : decode cX10_fault 30 = .ok (.ifCond .ge 5, 3) := by decide +kernel
theorem dX10_fault_33 : decode cX10_fault 33 = .ok (.iload_n 2, 1) := by decide +kernel
theorem dX10_fault_34 : decode cX10_fault 34 = .ok (.ireturn, 1) := by decide +kernel
theorem dX10_fault_35 : decode cX10_fault 35 = .ok (.iinc 2 1, 3) := by decide +kernel
theorem dX10_fault_38 : decode cX10_fault 38 = .ok (.goto (-29), 3) := by decide +kernel
theorem dX10_fault_41 : decode cX10_fault 41 = .ok (.iload_n 1, 1) := by decide +kernel
theorem dX10_fault_42 : decode cX10_fault 42 = .ok (.ifCond .ne 8, 3) := by decide +kernel
theorem dX10_fault_45 : decode cX10_fault 45 = .ok (.bipush (-6), 2) := by decide +kernel
theorem dX10_fault_47 : decode cX10_fault 47 = .ok (.goto 7, 3) := by decide +kernel
theorem dX10_fault_50 : decode cX10_fault 50 = .ok (.aload_n 0, 1) := by decide +kernel
theorem dX10_fault_51 : decode cX10_fault 51 = .ok (.getfield 111, 3) := by decide +kernel
theorem dX10_fault_54 : decode cX10_fault 54 = .ok (.ireturn, 1) := by decide +kernel
set_option maxRecDepth 20000 in
theorem ggX10_whyNoGift_X10_has : GoodIn wsX10_whyNoGift wsX10_has := goodIn_r _ [6] (by decide +kernel) (by decide +kernel)
set_option maxRecDepth 20000 in
theorem gX10_whyNoGift_X10_has : GoodIn wsX10_whyNoGift (va_wsS RX10 147 yX10_has wsX10_has) := goodIn_app (goodIn_of _ (by decide +kernel)) ggX10_whyNoGift_X10_has
theorem dX10_whyNoGift_0 : decode cX10_whyNoGift 0 = .ok (.iload_n 1, 1) := by decide +kernel
theorem dX10_whyNoGift_1 : decode cX10_whyNoGift 1 = .ok (.iload_n 2, 1) := by decide +kernel
theorem dX10_whyNoGift_2 : decode cX10_whyNoGift 2 = .ok (.if_icmp .ne 5, 3) := by decide +kernel
theorem dX10_whyNoGift_5 : decode cX10_whyNoGift 5 = .ok (.iconst 2, 1) := by decide +kernel
theorem dX10_whyNoGift_6 : decode cX10_whyNoGift 6 = .ok (.ireturn, 1) := by decide +kernel
theorem dX10_whyNoGift_7 : decode cX10_whyNoGift 7 = .ok (.aload_n 0, 1) := by decide +kernel
theorem dX10_whyNoGift_8 : decode cX10_whyNoGift 8 = .ok (.getfield 83, 3) := by decide +kernel
theorem dX10_whyNoGift_11 : decode cX10_whyNoGift 11 = .ok (.iload_n 1, 1) := by decide +kernel
theorem dX10_whyNoGift_12 : decode cX10_whyNoGift 12 = .ok (.invokestatic 147, 3) := by decide +kernel
theorem dX10_whyNoGift_15 : decode cX10_whyNoGift 15 = .ok (.ifCond .ne 14, 3) := by decide +kernel
theorem dX10_whyNoGift_18 : decode cX10_whyNoGift 18 = .ok (.aload_n 0, 1) := by decide +kernel
theorem dX10_whyNoGift_19 : decode cX10_whyNoGift 19 = .ok (.getfield 83, 3) := by decide +kernel
theorem dX10_whyNoGift_22 : decode cX10_whyNoGift 22 = .ok (.iload_n 2, 1) := by decide +kernel
theorem dX10_whyNoGift_23 : decode cX10_whyNoGift 23 = .ok (.invokestatic 147, 3) := by decide +kernel
theorem dX10_whyNoGift_26 : decode cX10_whyNoGift 26 = .ok (.ifCond .ne 7, 3) := by decide +kernel
theorem dX10_whyNoGift_29 : decode cX10_whyNoGift 29 = .ok (.iconst 3, 1) := by decide +kernel
theorem dX10_whyNoGift_30 : decode cX10_whyNoGift 30 = .ok (.goto 18, 3) := by decide +kernel
theorem dX10_whyNoGift_33 : decode cX10_whyNoGift 33 = .ok (.aload_n 0, 1) := by decide +kernel
theorem dX10_whyNoGift_34 : decode cX10_whyNoGift 34 = .ok (.getfield 7, 3) := by decide +kernel
theorem dX10_whyNoGift_37 : decode cX10_whyNoGift 37 = .ok (.iload_n 1, 1) := by decide +kernel
theorem dX10_whyNoGift_38 : decode cX10_whyNoGift 38 = .ok (.iaload, 1) := by decide +kernel
theorem dX10_whyNoGift_39 : decode cX10_whyNoGift 39 = .ok (.iload_n 3, 1) := by decide +kernel
theorem dX10_whyNoGift_40 : decode cX10_whyNoGift 40 = .ok (.if_icmp .ge 7, 3) := by decide +kernel
theorem dX10_whyNoGift_43 : decode cX10_whyNoGift 43 = .ok (.iconst 4, 1) := by decide +kernel
theorem dX10_whyNoGift_44 : decode cX10_whyNoGift 44 = .ok (.goto 4, 3) := by decide +kernel
theorem dX10_whyNoGift_47 : decode cX10_whyNoGift 47 = .ok (.iconst 0, 1) := by decide +kernel
theorem dX10_whyNoGift_48 : decode cX10_whyNoGift 48 = .ok (.ireturn, 1) := by decide +kernel
set_option maxRecDepth 20000 in
theorem ggX10_whyNot_X10_has : GoodIn wsX10_whyNot wsX10_has := goodIn_r _ [6] (by decide +kernel) (by decide +kernel)
set_option maxRecDepth 20000 in
theorem gX10_whyNot_X10_has : GoodIn wsX10_whyNot (va_wsS RX10 147 yX10_has wsX10_has) := goodIn_app (goodIn_of _ (by decide +kernel)) ggX10_whyNot_X10_has
set_option maxRecDepth 20000 in
theorem ggX10_whyNot_X10_whyNoGift : GoodIn wsX10_whyNot wsX10_whyNoGift := goodIn_r _ [10, 1, 11, 3, 4, 5, 6, 12, 13, 14, 15, 16, 17, 18, 19, 20, 21, 22, 23, 24, 25, 26, 27, 28, 29, 30, 31, 32, 33, 34, 35, 36, 37, 38, 39, 40, 41, 42, 43, 44, 45, 46] (by decide +kernel) (by decide +kernel)
set_option maxRecDepth 20000 in
theorem gX10_whyNot_X10_whyNoGift : GoodIn wsX10_whyNot (wsV RX10 151 RX10 yX10_whyNoGift wsX10_whyNoGift) := goodIn_app (goodIn_of _ (by decide +kernel)) ggX10_whyNot_X10_whyNoGift
theorem dX10_whyNot_0 : decode cX10_whyNot 0 = .ok (.iload_n 1, 1) := by decide +kernel
theorem dX10_whyNot_1 : decode cX10_whyNot 1 = .ok (.tableswitch 85 0 3 #[31, 48, 65, 74], 31) := by decide +kernel
theorem dX10_whyNot_32 : decode cX10_whyNot 32 = .ok (.aload_n 0, 1) := by decide +kernel
theorem dX10_whyNot_33 : decode cX10_whyNot 33 = .ok (.getfield 83, 3) := by decide +kernel
theorem dX10_whyNot_36 : decode cX10_whyNot 36 = .ok (.iload_n 2, 1) := by decide +kernel
theorem dX10_whyNot_37 : decode cX10_whyNot 37 = .ok (.invokestatic 147, 3) := by decide +kernel
theorem dX10_whyNot_40 : decode cX10_whyNot 40 = .ok (.ifCond .eq 7, 3) := by decide +kernel
theorem dX10_whyNot_43 : decode cX10_whyNot 43 = .ok (.iconst 1, 1) := by decide +kernel
theorem dX10_whyNot_44 : decode cX10_whyNot 44 = .ok (.goto 4, 3) := by decide +kernel
theorem dX10_whyNot_47 : decode cX10_whyNot 47 = .ok (.iconst 0, 1) := by decide +kernel
theorem dX10_whyNot_48 : decode cX10_whyNot 48 = .ok (.ireturn, 1) := by decide +kernel
theorem dX10_whyNot_49 : decode cX10_whyNot 49 = .ok (.aload_n 0, 1) := by decide +kernel
theorem dX10_whyNot_50 : decode cX10_whyNot 50 = .ok (.getfield 83, 3) := by decide +kernel
theorem dX10_whyNot_53 : decode cX10_whyNot 53 = .ok (.iload_n 2, 1) := by decide +kernel
theorem dX10_whyNot_54 : decode cX10_whyNot 54 = .ok (.invokestatic 147, 3) := by decide +kernel
theorem dX10_whyNot_57 : decode cX10_whyNot 57 = .ok (.ifCond .eq 7, 3) := by decide +kernel
theorem dX10_whyNot_60 : decode cX10_whyNot 60 = .ok (.iconst 0, 1) := by decide +kernel
theorem dX10_whyNot_61 : decode cX10_whyNot 61 = .ok (.goto 4, 3) := by decide +kernel
theorem dX10_whyNot_64 : decode cX10_whyNot 64 = .ok (.iconst 1, 1) := by decide +kernel
theorem dX10_whyNot_65 : decode cX10_whyNot 65 = .ok (.ireturn, 1) := by decide +kernel
theorem dX10_whyNot_66 : decode cX10_whyNot 66 = .ok (.aload_n 0, 1) := by decide +kernel
theorem dX10_whyNot_67 : decode cX10_whyNot 67 = .ok (.iload_n 2, 1) := by decide +kernel
theorem dX10_whyNot_68 : decode cX10_whyNot 68 = .ok (.iload_n 3, 1) := by decide +kernel
theorem dX10_whyNot_69 : decode cX10_whyNot 69 = .ok (.iload 4, 2) := by decide +kernel
theorem dX10_whyNot_71 : decode cX10_whyNot 71 = .ok (.invokevirtual 151, 3) := by decide +kernel
theorem dX10_whyNot_74 : decode cX10_whyNot 74 = .ok (.ireturn, 1) := by decide +kernel
theorem dX10_whyNot_75 : decode cX10_whyNot 75 = .ok (.iload_n 2, 1) := by decide +kernel
theorem dX10_whyNot_76 : decode cX10_whyNot 76 = .ok (.iload_n 3, 1) := by decide +kernel
theorem dX10_whyNot_77 : decode cX10_whyNot 77 = .ok (.if_icmp .ne 7, 3) := by decide +kernel
theorem dX10_whyNot_80 : decode cX10_whyNot 80 = .ok (.iconst 2, 1) := by decide +kernel
theorem dX10_whyNot_81 : decode cX10_whyNot 81 = .ok (.goto 4, 3) := by decide +kernel
theorem dX10_whyNot_84 : decode cX10_whyNot 84 = .ok (.iconst 0, 1) := by decide +kernel
theorem dX10_whyNot_85 : decode cX10_whyNot 85 = .ok (.ireturn, 1) := by decide +kernel
theorem dX10_whyNot_86 : decode cX10_whyNot 86 = .ok (.aload_n 0, 1) := by decide +kernel
theorem dX10_whyNot_87 : decode cX10_whyNot 87 = .ok (.getfield 155, 3) := by decide +kernel
theorem dX10_whyNot_90 : decode cX10_whyNot 90 = .ok (.bipush 99, 2) := by decide +kernel
theorem dX10_whyNot_92 : decode cX10_whyNot 92 = .ok (.if_icmp .ne 7, 3) := by decide +kernel
theorem dX10_whyNot_95 : decode cX10_whyNot 95 = .ok (.iconst 5, 1) := by decide +kernel
theorem dX10_whyNot_96 : decode cX10_whyNot 96 = .ok (.goto 4, 3) := by decide +kernel
theorem dX10_whyNot_99 : decode cX10_whyNot 99 = .ok (.iconst 0, 1) := by decide +kernel
theorem dX10_whyNot_100 : decode cX10_whyNot 100 = .ok (.ireturn, 1) := by decide +kernel
theorem dX10_enter_0 : decode cX10_enter 0 = .ok (.aload_n 0, 1) := by decide +kernel
theorem dX10_enter_1 : decode cX10_enter 1 = .ok (.dup, 1) := by decide +kernel
theorem dX10_enter_2 : decode cX10_enter 2 = .ok (.getfield 83, 3) := by decide +kernel
theorem dX10_enter_5 : decode cX10_enter 5 = .ok (.iconst 1, 1) := by decide +kernel
theorem dX10_enter_6 : decode cX10_enter 6 = .ok (.iload_n 1, 1) := by decide +kernel
theorem dX10_enter_7 : decode cX10_enter 7 = .ok (.ishl, 1) := by decide +kernel
theorem dX10_enter_8 : decode cX10_enter 8 = .ok (.ior, 1) := by decide +kernel
theorem dX10_enter_9 : decode cX10_enter 9 = .ok (.putfield 83, 3) := by decide +kernel
theorem dX10_enter_12 : decode cX10_enter 12 = .ok (.aload_n 0, 1) := by decide +kernel
theorem dX10_enter_13 : decode cX10_enter 13 = .ok (.iload_n 1, 1) := by decide +kernel
theorem dX10_enter_14 : decode cX10_enter 14 = .ok (.putfield 158, 3) := by decide +kernel
theorem dX10_enter_17 : decode cX10_enter 17 = .ok (.return_, 1) := by decide +kernel
set_option maxRecDepth 20000 in
theorem ggX10_give_X10_less : GoodIn wsX10_give wsX10_less := goodIn_r _ [7] (by decide +kernel) (by decide +kernel)
set_option maxRecDepth 20000 in
theorem gX10_give_X10_less : GoodIn wsX10_give (va_wsS RX10 161 yX10_less wsX10_less) := goodIn_app (goodIn_of _ (by decide +kernel)) ggX10_give_X10_less
theorem dX10_give_0 : decode cX10_give 0 = .ok (.aload_n 0, 1) := by decide +kernel
theorem dX10_give_1 : decode cX10_give 1 = .ok (.getfield 7, 3) := by decide +kernel
theorem dX10_give_4 : decode cX10_give 4 = .ok (.iload_n 1, 1) := by decide +kernel
theorem dX10_give_5 : decode cX10_give 5 = .ok (.dup2, 1) := by decide +kernel
theorem dX10_give_6 : decode cX10_give 6 = .ok (.iaload, 1) := by decide +kernel
theorem dX10_give_7 : decode cX10_give 7 = .ok (.iload_n 3, 1) := by decide +kernel
theorem dX10_give_8 : decode cX10_give 8 = .ok (.isub, 1) := by decide +kernel
theorem dX10_give_9 : decode cX10_give 9 = .ok (.iastore, 1) := by decide +kernel
theorem dX10_give_10 : decode cX10_give 10 = .ok (.aload_n 0, 1) := by decide +kernel
theorem dX10_give_11 : decode cX10_give 11 = .ok (.getfield 7, 3) := by decide +kernel
theorem dX10_give_14 : decode cX10_give 14 = .ok (.iload_n 2, 1) := by decide +kernel
theorem dX10_give_15 : decode cX10_give 15 = .ok (.sipush 999, 3) := by decide +kernel
theorem dX10_give_18 : decode cX10_give 18 = .ok (.aload_n 0, 1) := by decide +kernel
theorem dX10_give_19 : decode cX10_give 19 = .ok (.getfield 7, 3) := by decide +kernel
theorem dX10_give_22 : decode cX10_give 22 = .ok (.iload_n 2, 1) := by decide +kernel
theorem dX10_give_23 : decode cX10_give 23 = .ok (.iaload, 1) := by decide +kernel
theorem dX10_give_24 : decode cX10_give 24 = .ok (.iload_n 3, 1) := by decide +kernel
theorem dX10_give_25 : decode cX10_give 25 = .ok (.iadd, 1) := by decide +kernel
theorem dX10_give_26 : decode cX10_give 26 = .ok (.invokestatic 161, 3) := by decide +kernel
theorem dX10_give_29 : decode cX10_give 29 = .ok (.iastore, 1) := by decide +kernel
theorem dX10_give_30 : decode cX10_give 30 = .ok (.aload_n 0, 1) := by decide +kernel
theorem dX10_give_31 : decode cX10_give 31 = .ok (.getfield 13, 3) := by decide +kernel
theorem dX10_give_34 : decode cX10_give 34 = .ok (.bipush 8, 2) := by decide +kernel
theorem dX10_give_36 : decode cX10_give 36 = .ok (.iload_n 1, 1) := by decide +kernel
theorem dX10_give_37 : decode cX10_give 37 = .ok (.imul, 1) := by decide +kernel
theorem dX10_give_38 : decode cX10_give 38 = .ok (.iload_n 2, 1) := by decide +kernel
theorem dX10_give_39 : decode cX10_give 39 = .ok (.iadd, 1) := by decide +kernel
theorem dX10_give_40 : decode cX10_give 40 = .ok (.sipush 999, 3) := by decide +kernel
theorem dX10_give_43 : decode cX10_give 43 = .ok (.aload_n 0, 1) := by decide +kernel
theorem dX10_give_44 : decode cX10_give 44 = .ok (.getfield 13, 3) := by decide +kernel
theorem dX10_give_47 : decode cX10_give 47 = .ok (.bipush 8, 2) := by decide +kernel
theorem dX10_give_49 : decode cX10_give 49 = .ok (.iload_n 1, 1) := by decide +kernel
theorem dX10_give_50 : decode cX10_give 50 = .ok (.imul, 1) := by decide +kernel
theorem dX10_give_51 : decode cX10_give 51 = .ok (.iload_n 2, 1) := by decide +kernel
theorem dX10_give_52 : decode cX10_give 52 = .ok (.iadd, 1) := by decide +kernel
theorem dX10_give_53 : decode cX10_give 53 = .ok (.iaload, 1) := by decide +kernel
theorem dX10_give_54 : decode cX10_give 54 = .ok (.iload_n 3, 1) := by decide +kernel
theorem dX10_give_55 : decode cX10_give 55 = .ok (.iadd, 1) := by decide +kernel
theorem dX10_give_56 : decode cX10_give 56 = .ok (.invokestatic 161, 3) := by decide +kernel
theorem dX10_give_59 : decode cX10_give 59 = .ok (.iastore, 1) := by decide +kernel
theorem dX10_give_60 : decode cX10_give 60 = .ok (.aload_n 0, 1) := by decide +kernel
theorem dX10_give_61 : decode cX10_give 61 = .ok (.dup, 1) := by decide +kernel
theorem dX10_give_62 : decode cX10_give 62 = .ok (.getfield 164, 3) := by decide +kernel
theorem dX10_give_65 : decode cX10_give 65 = .ok (.iload_n 3, 1) := by decide +kernel
theorem dX10_give_66 : decode cX10_give 66 = .ok (.iadd, 1) := by decide +kernel
theorem dX10_give_67 : decode cX10_give 67 = .ok (.putfield 164, 3) := by decide +kernel
theorem dX10_give_70 : decode cX10_give 70 = .ok (.return_, 1) := by decide +kernel
theorem dX10_placeOf_0 : decode cX10_placeOf 0 = .ok (.iconst 0, 1) := by decide +kernel
theorem dX10_placeOf_1 : decode cX10_placeOf 1 = .ok (.istore_n 2, 1) := by decide +kernel
theorem dX10_placeOf_2 : decode cX10_placeOf 2 = .ok (.iconst 0, 1) := by decide +kernel
theorem dX10_placeOf_3 : decode cX10_placeOf 3 = .ok (.istore_n 3, 1) := by decide +kernel
theorem dX10_placeOf_4 : decode cX10_placeOf 4 = .ok (.iload_n 3, 1) := by decide +kernel
theorem dX10_placeOf_5 : decode cX10_placeOf 5 = .ok (.bipush 8, 2) := by decide +kernel
theorem dX10_placeOf_7 : decode cX10_placeOf 7 = .ok (.if_icmp .ge 25, 3) := by decide +kernel
theorem dX10_placeOf_10 : decode cX10_placeOf 10 = .ok (.aload_n 0, 1) := by decide +kernel
theorem dX10_placeOf_11 : decode cX10_placeOf 11 = .ok (.getfield 16, 3) := by decide +kernel
theorem dX10_placeOf_14 : decode cX10_placeOf 14 = .ok (.iload_n 3, 1) := by decide +kernel
theorem dX10_placeOf_15 : decode cX10_placeOf 15 = .ok (.iaload, 1) := by decide +kernel
theorem dX10_placeOf_16 : decode cX10_placeOf 16 = .ok (.iload_n 1, 1) := by decide +kernel
theorem dX10_placeOf_17 : decode cX10_placeOf 17 = .ok (.if_icmp .ne 7, 3) := by decide +kernel
theorem dX10_placeOf_20 : decode cX10_placeOf 20 = .ok (.iload_n 3, 1) := by decide +kernel
theorem dX10_placeOf_21 : decode cX10_placeOf 21 = .ok (.goto 4, 3) := by decide +kernel
theorem dX10_placeOf_24 : decode cX10_placeOf 24 = .ok (.iload_n 2, 1) := by decide +kernel
theorem dX10_placeOf_25 : decode cX10_placeOf 25 = .ok (.istore_n 2, 1) := by decide +kernel
theorem dX10_placeOf_26 : decode cX10_placeOf 26 = .ok (.iinc 3 1, 3) := by decide +kernel
theorem dX10_placeOf_29 : decode cX10_placeOf 29 = .ok (.goto (-25), 3) := by decide +kernel
theorem dX10_placeOf_32 : decode cX10_placeOf 32 = .ok (.iload_n 2, 1) := by decide +kernel
theorem dX10_placeOf_33 : decode cX10_placeOf 33 = .ok (.ireturn, 1) := by decide +kernel
set_option maxRecDepth 20000 in
theorem ggX10_change_X10_placeOf : GoodIn wsX10_change wsX10_placeOf := goodIn_r _ [6, 1, 7, 8, 9, 10, 11, 12, 13, 14, 15, 16, 17, 18, 19, 20, 21, 22, 23, 24, 25, 26, 27, 28, 29, 30, 31, 32, 33, 34, 35, 36, 37, 38, 39, 40, 41] (by decide +kernel) (by decide +kernel)
set_option maxRecDepth 20000 in
theorem gX10_change_X10_placeOf : GoodIn wsX10_change (wsV RX10 167 RX10 yX10_placeOf wsX10_placeOf) := goodIn_app (goodIn_of _ (by decide +kernel)) ggX10_change_X10_placeOf
theorem dX10_change_0 : decode cX10_change 0 = .ok (.aload_n 0, 1) := by decide +kernel
theorem dX10_change_1 : decode cX10_change 1 = .ok (.iload_n 1, 1) := by decide +kernel
theorem dX10_change_2 : decode cX10_change 2 = .ok (.invokevirtual 167, 3) := by decide +kernel
theorem dX10_change_5 : decode cX10_change 5 = .ok (.istore_n 3, 1) := by decide +kernel
theorem dX10_change_6 : decode cX10_change 6 = .ok (.aload_n 0, 1) := by decide +kernel
theorem dX10_change_7 : decode cX10_change 7 = .ok (.iload_n 2, 1) := by decide +kernel
theorem dX10_change_8 : decode cX10_change 8 = .ok (.invokevirtual 167, 3) := by decide +kernel
theorem dX10_change_11 : decode cX10_change 11 = .ok (.istore 4, 2) := by decide +kernel
theorem dX10_change_13 : decode cX10_change 13 = .ok (.aload_n 0, 1) := by decide +kernel
theorem dX10_change_14 : decode cX10_change 14 = .ok (.getfield 16, 3) := by decide +kernel
theorem dX10_change_17 : decode cX10_change 17 = .ok (.iload_n 3, 1) := by decide +kernel
theorem dX10_change_18 : decode cX10_change 18 = .ok (.iload_n 2, 1) := by decide +kernel
theorem dX10_change_19 : decode cX10_change 19 = .ok (.iastore, 1) := by decide +kernel
theorem dX10_change_20 : decode cX10_change 20 = .ok (.aload_n 0, 1) := by decide +kernel
theorem dX10_change_21 : decode cX10_change 21 = .ok (.getfield 16, 3) := by decide +kernel
theorem dX10_change_24 : decode cX10_change 24 = .ok (.iload 4, 2) := by decide +kernel
theorem dX10_change_26 : decode cX10_change 26 = .ok (.iload_n 1, 1) := by decide +kernel
theorem dX10_change_27 : decode cX10_change 27 = .ok (.iastore, 1) := by decide +kernel
theorem dX10_change_28 : decode cX10_change 28 = .ok (.return_, 1) := by decide +kernel
set_option maxRecDepth 20000 in
theorem ggX10_passYear_X10_enter : GoodIn wsX10_passYear wsX10_enter := goodIn_r _ [9, 1, 10, 11, 12, 13, 14, 15, 16, 17, 18, 19, 20, 21, 22, 23, 24, 25, 26, 27, 28, 29, 30, 31, 32, 33, 34, 35, 36, 37, 38, 39, 40, 41, 42, 43, 44, 45] (by decide +kernel) (by decide +kernel)
set_option maxRecDepth 20000 in
theorem gX10_passYear_X10_enter : GoodIn wsX10_passYear (wsV RX10 170 RX10 yX10_enter wsX10_enter) := goodIn_app (goodIn_of _ (by decide +kernel)) ggX10_passYear_X10_enter
theorem dX10_passYear_0 : decode cX10_passYear 0 = .ok (.aload_n 0, 1) := by decide +kernel
theorem dX10_passYear_1 : decode cX10_passYear 1 = .ok (.iconst 0, 1) := by decide +kernel
theorem dX10_passYear_2 : decode cX10_passYear 2 = .ok (.putfield 83, 3) := by decide +kernel
theorem dX10_passYear_5 : decode cX10_passYear 5 = .ok (.aload_n 0, 1) := by decide +kernel
theorem dX10_passYear_6 : decode cX10_passYear 6 = .ok (.aload_n 0, 1) := by decide +kernel
theorem dX10_passYear_7 : decode cX10_passYear 7 = .ok (.getfield 16, 3) := by decide +kernel
theorem dX10_passYear_10 : decode cX10_passYear 10 = .ok (.aload_n 0, 1) := by decide +kernel
theorem dX10_passYear_11 : decode cX10_passYear 11 = .ok (.getfield 100, 3) := by decide +kernel
theorem dX10_passYear_14 : decode cX10_passYear 14 = .ok (.iaload, 1) := by decide +kernel
theorem dX10_passYear_15 : decode cX10_passYear 15 = .ok (.invokevirtual 170, 3) := by decide +kernel
theorem dX10_passYear_18 : decode cX10_passYear 18 = .ok (.aload_n 0, 1) := by decide +kernel
theorem dX10_passYear_19 : decode cX10_passYear 19 = .ok (.aload_n 0, 1) := by decide +kernel
theorem dX10_passYear_20 : decode cX10_passYear 20 = .ok (.getfield 100, 3) := by decide +kernel
theorem dX10_passYear_23 : decode cX10_passYear 23 = .ok (.iconst 1, 1) := by decide +kernel
theorem dX10_passYear_24 : decode cX10_passYear 24 = .ok (.iadd, 1) := by decide +kernel
theorem dX10_passYear_25 : decode cX10_passYear 25 = .ok (.bipush 8, 2) := by decide +kernel
theorem dX10_passYear_27 : decode cX10_passYear 27 = .ok (.irem, 1) := by decide +kernel
theorem dX10_passYear_28 : decode cX10_passYear 28 = .ok (.putfield 100, 3) := by decide +kernel
theorem dX10_passYear_31 : decode cX10_passYear 31 = .ok (.aload_n 0, 1) := by decide +kernel
theorem dX10_passYear_32 : decode cX10_passYear 32 = .ok (.dup, 1) := by decide +kernel
theorem dX10_passYear_33 : decode cX10_passYear 33 = .ok (.getfield 155, 3) := by decide +kernel
theorem dX10_passYear_36 : decode cX10_passYear 36 = .ok (.iconst 1, 1) := by decide +kernel
theorem dX10_passYear_37 : decode cX10_passYear 37 = .ok (.iadd, 1) := by decide +kernel
theorem dX10_passYear_38 : decode cX10_passYear 38 = .ok (.putfield 155, 3) := by decide +kernel
theorem dX10_passYear_41 : decode cX10_passYear 41 = .ok (.return_, 1) := by decide +kernel
set_option maxRecDepth 20000 in
theorem ggX10_happen_X10_enter : GoodIn wsX10_happen wsX10_enter := goodIn_r _ [7, 2, 1, 33, 34, 35, 36, 37, 38, 39, 40, 41, 42, 43, 44, 45, 46, 47, 48, 49, 50, 51, 52, 53, 54, 55, 56, 57, 58, 59, 60, 61, 62, 63, 64, 65, 66, 67] (by decide +kernel) (by decide +kernel)
set_option maxRecDepth 20000 in
theorem gX10_happen_X10_enter : GoodIn wsX10_happen (wsV RX10 170 RX10 yX10_enter wsX10_enter) := goodIn_app (goodIn_of _ (by decide +kernel)) ggX10_happen_X10_enter
set_option maxRecDepth 20000 in
theorem ggX10_happen_X10_give : GoodIn wsX10_happen wsX10_give := goodIn_r _ [11, 12, 13, 14, 15, 16, 6, 17, 33, 34, 35, 36, 37, 38, 39, 40, 41, 42, 43, 44, 45, 46, 47, 48, 49, 50, 51, 52, 53, 54, 55, 56, 57, 58, 59, 60, 61, 62, 63, 64, 65, 66, 67] (by decide +kernel) (by decide +kernel)
set_option maxRecDepth 20000 in
theorem gX10_happen_X10_give : GoodIn wsX10_happen (wsV RX10 174 RX10 yX10_give wsX10_give) := goodIn_app (goodIn_of _ (by decide +kernel)) ggX10_happen_X10_give
set_option maxRecDepth 20000 in
theorem ggX10_happen_X10_change : GoodIn wsX10_happen wsX10_change := goodIn_r _ [21, 22, 23, 24, 25, 6, 26, 33, 34, 35, 36, 37, 38, 39, 40, 41, 42, 43, 44, 45, 46, 47, 48, 49, 50, 51, 52, 53, 54, 55, 56, 57, 58, 59, 60, 61, 62, 63, 64, 65, 66, 67] (by decide +kernel) (by decide +kernel)
set_option maxRecDepth 20000 in
theorem gX10_happen_X10_change : GoodIn wsX10_happen (wsV RX10 178 RX10 yX10_change wsX10_change) := goodIn_app (goodIn_of _ (by decide +kernel)) ggX10_happen_X10_change
set_option maxRecDepth 20000 in
theorem ggX10_happen_X10_passYear : GoodIn wsX10_happen wsX10_passYear := goodIn_r _ [30, 2, 22, 31, 32, 3, 4, 5, 6, 7, 1, 33, 34, 35, 36, 37, 38, 39, 40, 41, 42, 43, 44, 45, 46, 47, 48, 49, 50, 51, 52, 53, 54, 55, 56, 57, 58, 59, 60, 61, 62, 63, 64, 65, 66, 67] (by decide +kernel) (by decide +kernel)
set_option maxRecDepth 20000 in
theorem gX10_happen_X10_passYear : GoodIn wsX10_happen (wsV RX10 182 RX10 yX10_passYear wsX10_passYear) := goodIn_app (goodIn_of _ (by decide +kernel)) ggX10_happen_X10_passYear
theorem dX10_happen_0 : decode cX10_happen 0 = .ok (.aload_n 0, 1) := by decide +kernel
theorem dX10_happen_1 : decode cX10_happen 1 = .ok (.bipush (-6), 2) := by decide +kernel
theorem dX10_happen_3 : decode cX10_happen 3 = .ok (.putfield 158, 3) := by decide +kernel
theorem dX10_happen_6 : decode cX10_happen 6 = .ok (.iload_n 1, 1) := by decide +kernel
theorem dX10_happen_7 : decode cX10_happen 7 = .ok (.tableswitch 74 0 3 #[29, 37, 54, 65], 29) := by decide +kernel
theorem dX10_happen_36 : decode cX10_happen 36 = .ok (.aload_n 0, 1) := by decide +kernel
theorem dX10_happen_37 : decode cX10_happen 37 = .ok (.iload_n 2, 1) := by decide +kernel
theorem dX10_happen_38 : decode cX10_happen 38 = .ok (.invokevirtual 170, 3) := by decide +kernel
theorem dX10_happen_41 : decode cX10_happen 41 = .ok (.goto 44, 3) := by decide +kernel
theorem dX10_happen_44 : decode cX10_happen 44 = .ok (.aload_n 0, 1) := by decide +kernel
theorem dX10_happen_45 : decode cX10_happen 45 = .ok (.dup, 1) := by decide +kernel
theorem dX10_happen_46 : decode cX10_happen 46 = .ok (.getfield 83, 3) := by decide +kernel
theorem dX10_happen_49 : decode cX10_happen 49 = .ok (.iconst 1, 1) := by decide +kernel
theorem dX10_happen_50 : decode cX10_happen 50 = .ok (.iload_n 2, 1) := by decide +kernel
theorem dX10_happen_51 : decode cX10_happen 51 = .ok (.ishl, 1) := by decide +kernel
theorem dX10_happen_52 : decode cX10_happen 52 = .ok (.iconst (-1), 1) := by decide +kernel
theorem dX10_happen_53 : decode cX10_happen 53 = .ok (.ixor, 1) := by decide +kernel
theorem dX10_happen_54 : decode cX10_happen 54 = .ok (.iand, 1) := by decide +kernel
theorem dX10_happen_55 : decode cX10_happen 55 = .ok (.putfield 83, 3) := by decide +kernel
theorem dX10_happen_58 : decode cX10_happen 58 = .ok (.goto 27, 3) := by decide +kernel
theorem dX10_happen_61 : decode cX10_happen 61 = .ok (.aload_n 0, 1) := by decide +kernel
theorem dX10_happen_62 : decode cX10_happen 62 = .ok (.iload_n 2, 1) := by decide +kernel
theorem dX10_happen_63 : decode cX10_happen 63 = .ok (.iload_n 3, 1) := by decide +kernel
theorem dX10_happen_64 : decode cX10_happen 64 = .ok (.iload 4, 2) := by decide +kernel
theorem dX10_happen_66 : decode cX10_happen 66 = .ok (.invokevirtual 174, 3) := by decide +kernel
theorem dX10_happen_69 : decode cX10_happen 69 = .ok (.goto 16, 3) := by decide +kernel
theorem dX10_happen_72 : decode cX10_happen 72 = .ok (.aload_n 0, 1) := by decide +kernel
theorem dX10_happen_73 : decode cX10_happen 73 = .ok (.iload_n 2, 1) := by decide +kernel
theorem dX10_happen_74 : decode cX10_happen 74 = .ok (.iload_n 3, 1) := by decide +kernel
theorem dX10_happen_75 : decode cX10_happen 75 = .ok (.invokevirtual 178, 3) := by decide +kernel
theorem dX10_happen_78 : decode cX10_happen 78 = .ok (.goto 7, 3) := by decide +kernel
theorem dX10_happen_81 : decode cX10_happen 81 = .ok (.aload_n 0, 1) := by decide +kernel
theorem dX10_happen_82 : decode cX10_happen 82 = .ok (.invokevirtual 182, 3) := by decide +kernel
theorem dX10_happen_85 : decode cX10_happen 85 = .ok (.return_, 1) := by decide +kernel
theorem dX10_keepNow_0 : decode cX10_keepNow 0 = .ok (.iconst 0, 1) := by decide +kernel
theorem dX10_keepNow_1 : decode cX10_keepNow 1 = .ok (.istore_n 1, 1) := by decide +kernel
theorem dX10_keepNow_2 : decode cX10_keepNow 2 = .ok (.iload_n 1, 1) := by decide +kernel
theorem dX10_keepNow_3 : decode cX10_keepNow 3 = .ok (.bipush 8, 2) := by decide +kernel
theorem dX10_keepNow_5 : decode cX10_keepNow 5 = .ok (.if_icmp .ge 36, 3) := by decide +kernel
theorem dX10_keepNow_8 : decode cX10_keepNow 8 = .ok (.aload_n 0, 1) := by decide +kernel
theorem dX10_keepNow_9 : decode cX10_keepNow 9 = .ok (.getfield 46, 3) := by decide +kernel
theorem dX10_keepNow_12 : decode cX10_keepNow 12 = .ok (.iload_n 1, 1) := by decide +kernel
theorem dX10_keepNow_13 : decode cX10_keepNow 13 = .ok (.aload_n 0, 1) := by decide +kernel
theorem dX10_keepNow_14 : decode cX10_keepNow 14 = .ok (.getfield 7, 3) := by decide +kernel
theorem dX10_keepNow_17 : decode cX10_keepNow 17 = .ok (.iload_n 1, 1) := by decide +kernel
theorem dX10_keepNow_18 : decode cX10_keepNow 18 = .ok (.iaload, 1) := by decide +kernel
theorem dX10_keepNow_19 : decode cX10_keepNow 19 = .ok (.iastore, 1) := by decide +kernel
theorem dX10_keepNow_20 : decode cX10_keepNow 20 = .ok (.aload_n 0, 1) := by decide +kernel
theorem dX10_keepNow_21 : decode cX10_keepNow 21 = .ok (.getfield 46, 3) := by decide +kernel
theorem dX10_keepNow_24 : decode cX10_keepNow 24 = .ok (.bipush 8, 2) := by decide +kernel
theorem dX10_keepNow_26 : decode cX10_keepNow 26 = .ok (.iload_n 1, 1) := by decide +kernel
theorem dX10_keepNow_27 : decode cX10_keepNow 27 = .ok (.iadd, 1) := by decide +kernel
theorem dX10_keepNow_28 : decode cX10_keepNow 28 = .ok (.aload_n 0, 1) := by decide +kernel
theorem dX10_keepNow_29 : decode cX10_keepNow 29 = .ok (.getfield 16, 3) := by decide +kernel
theorem dX10_keepNow_32 : decode cX10_keepNow 32 = .ok (.iload_n 1, 1) := by decide +kernel
theorem dX10_keepNow_33 : decode cX10_keepNow 33 = .ok (.iaload, 1) := by decide +kernel
theorem dX10_keepNow_34 : decode cX10_keepNow 34 = .ok (.iastore, 1) := by decide +kernel
theorem dX10_keepNow_35 : decode cX10_keepNow 35 = .ok (.iinc 1 1, 3) := by decide +kernel
theorem dX10_keepNow_38 : decode cX10_keepNow 38 = .ok (.goto (-36), 3) := by decide +kernel
theorem dX10_keepNow_41 : decode cX10_keepNow 41 = .ok (.iconst 0, 1) := by decide +kernel
theorem dX10_keepNow_42 : decode cX10_keepNow 42 = .ok (.istore_n 1, 1) := by decide +kernel
theorem dX10_keepNow_43 : decode cX10_keepNow 43 = .ok (.iload_n 1, 1) := by decide +kernel
theorem dX10_keepNow_44 : decode cX10_keepNow 44 = .ok (.bipush 64, 2) := by decide +kernel
theorem dX10_keepNow_46 : decode cX10_keepNow 46 = .ok (.if_icmp .ge 24, 3) := by decide +kernel
theorem dX10_keepNow_49 : decode cX10_keepNow 49 = .ok (.aload_n 0, 1) := by decide +kernel
theorem dX10_keepNow_50 : decode cX10_keepNow 50 = .ok (.getfield 46, 3) := by decide +kernel
theorem dX10_keepNow_53 : decode cX10_keepNow 53 = .ok (.bipush 16, 2) := by decide +kernel
theorem dX10_keepNow_55 : decode cX10_keepNow 55 = .ok (.iload_n 1, 1) := by decide +kernel
theorem dX10_keepNow_56 : decode cX10_keepNow 56 = .ok (.iadd, 1) := by decide +kernel
theorem dX10_keepNow_57 : decode cX10_keepNow 57 = .ok (.aload_n 0, 1) := by decide +kernel
theorem dX10_keepNow_58 : decode cX10_keepNow 58 = .ok (.getfield 13, 3) := by decide +kernel
theorem dX10_keepNow_61 : decode cX10_keepNow 61 = .ok (.iload_n 1, 1) := by decide +kernel
theorem dX10_keepNow_62 : decode cX10_keepNow 62 = .ok (.iaload, 1) := by decide +kernel
theorem dX10_keepNow_63 : decode cX10_keepNow 63 = .ok (.iastore, 1) := by decide +kernel
theorem dX10_keepNow_64 : decode cX10_keepNow 64 = .ok (.iinc 1 1, 3) := by decide +kernel
theorem dX10_keepNow_67 : decode cX10_keepNow 67 = .ok (.goto (-24), 3) := by decide +kernel
theorem dX10_keepNow_70 : decode cX10_keepNow 70 = .ok (.aload_n 0, 1) := by decide +kernel
theorem dX10_keepNow_71 : decode cX10_keepNow 71 = .ok (.getfield 46, 3) := by decide +kernel
theorem dX10_keepNow_74 : decode cX10_keepNow 74 = .ok (.bipush 80, 2) := by decide +kernel
theorem dX10_keepNow_76 : decode cX10_keepNow 76 = .ok (.aload_n 0, 1) := by decide +kernel
theorem dX10_keepNow_77 : decode cX10_keepNow 77 = .ok (.getfield 83, 3) := by decide +kernel
theorem dX10_keepNow_80 : decode cX10_keepNow 80 = .ok (.iastore, 1) := by decide +kernel
theorem dX10_keepNow_81 : decode cX10_keepNow 81 = .ok (.aload_n 0, 1) := by decide +kernel
theorem dX10_keepNow_82 : decode cX10_keepNow 82 = .ok (.getfield 46, 3) := by decide +kernel
theorem dX10_keepNow_85 : decode cX10_keepNow 85 = .ok (.bipush 81, 2) := by decide +kernel
theorem dX10_keepNow_87 : decode cX10_keepNow 87 = .ok (.aload_n 0, 1) := by decide +kernel
theorem dX10_keepNow_88 : decode cX10_keepNow 88 = .ok (.getfield 100, 3) := by decide +kernel
theorem dX10_keepNow_91 : decode cX10_keepNow 91 = .ok (.iastore, 1) := by decide +kernel
theorem dX10_keepNow_92 : decode cX10_keepNow 92 = .ok (.aload_n 0, 1) := by decide +kernel
theorem dX10_keepNow_93 : decode cX10_keepNow 93 = .ok (.getfield 46, 3) := by decide +kernel
theorem dX10_keepNow_96 : decode cX10_keepNow 96 = .ok (.bipush 82, 2) := by decide +kernel
theorem dX10_keepNow_98 : decode cX10_keepNow 98 = .ok (.aload_n 0, 1) := by decide +kernel
theorem dX10_keepNow_99 : decode cX10_keepNow 99 = .ok (.getfield 155, 3) := by decide +kernel
theorem dX10_keepNow_102 : decode cX10_keepNow 102 = .ok (.iastore, 1) := by decide +kernel
theorem dX10_keepNow_103 : decode cX10_keepNow 103 = .ok (.return_, 1) := by decide +kernel
theorem dX10_back_0 : decode cX10_back 0 = .ok (.iconst 0, 1) := by decide +kernel
theorem dX10_back_1 : decode cX10_back 1 = .ok (.istore_n 2, 1) := by decide +kernel
theorem dX10_back_2 : decode cX10_back 2 = .ok (.iload_n 2, 1) := by decide +kernel
theorem dX10_back_3 : decode cX10_back 3 = .ok (.bipush 8, 2) := by decide +kernel
theorem dX10_back_5 : decode cX10_back 5 = .ok (.if_icmp .ge 36, 3) := by decide +kernel
theorem dX10_back_8 : decode cX10_back 8 = .ok (.aload_n 0, 1) := by decide +kernel
theorem dX10_back_9 : decode cX10_back 9 = .ok (.getfield 7, 3) := by decide +kernel
theorem dX10_back_12 : decode cX10_back 12 = .ok (.iload_n 2, 1) := by decide +kernel
theorem dX10_back_13 : decode cX10_back 13 = .ok (.aload_n 0, 1) := by decide +kernel
theorem dX10_back_14 : decode cX10_back 14 = .ok (.getfield 46, 3) := by decide +kernel
theorem dX10_back_17 : decode cX10_back 17 = .ok (.iload_n 2, 1) := by decide +kernel
theorem dX10_back_18 : decode cX10_back 18 = .ok (.iaload, 1) := by decide +kernel
theorem dX10_back_19 : decode cX10_back 19 = .ok (.iastore, 1) := by decide +kernel
theorem dX10_back_20 : decode cX10_back 20 = .ok (.aload_n 0, 1) := by decide +kernel
theorem dX10_back_21 : decode cX10_back 21 = .ok (.getfield 16, 3) := by decide +kernel
theorem dX10_back_24 : decode cX10_back 24 = .ok (.iload_n 2, 1) := by decide +kernel
theorem dX10_back_25 : decode cX10_back 25 = .ok (.aload_n 0, 1) := by decide +kernel
theorem dX10_back_26 : decode cX10_back 26 = .ok (.getfield 46, 3) := by decide +kernel
theorem dX10_back_29 : decode cX10_back 29 = .ok (.bipush 8, 2) := by decide +kernel
theorem dX10_back_31 : decode cX10_back 31 = .ok (.iload_n 2, 1) := by decide +kernel
theorem dX10_back_32 : decode cX10_back 32 = .ok (.iadd, 1) := by decide +kernel
theorem dX10_back_33 : decode cX10_back 33 = .ok (.iaload, 1) := by decide +kernel
theorem dX10_back_34 : decode cX10_back 34 = .ok (.iastore, 1) := by decide +kernel
theorem dX10_back_35 : decode cX10_back 35 = .ok (.iinc 2 1, 3) := by decide +kernel
theorem dX10_back_38 : decode cX10_back 38 = .ok (.goto (-36), 3) := by decide +kernel
theorem dX10_back_41 : decode cX10_back 41 = .ok (.iconst 0, 1) := by decide +kernel
theorem dX10_back_42 : decode cX10_back 42 = .ok (.istore_n 2, 1) := by decide +kernel
theorem dX10_back_43 : decode cX10_back 43 = .ok (.iload_n 2, 1) := by decide +kernel
theorem dX10_back_44 : decode cX10_back 44 = .ok (.bipush 64, 2) := by decide +kernel
theorem dX10_back_46 : decode cX10_back 46 = .ok (.if_icmp .ge 24, 3) := by decide +kernel
theorem dX10_back_49 : decode cX10_back 49 = .ok (.aload_n 0, 1) := by decide +kernel
theorem dX10_back_50 : decode cX10_back 50 = .ok (.getfield 13, 3) := by decide +kernel
theorem dX10_back_53 : decode cX10_back 53 = .ok (.iload_n 2, 1) := by decide +kernel
theorem dX10_back_54 : decode cX10_back 54 = .ok (.aload_n 0, 1) := by decide +kernel
theorem dX10_back_55 : decode cX10_back 55 = .ok (.getfield 46, 3) := by decide +kernel
theorem dX10_back_58 : decode cX10_back 58 = .ok (.bipush 16, 2) := by decide +kernel
theorem dX10_back_60 : decode cX10_back 60 = .ok (.iload_n 2, 1) := by decide +kernel
theorem dX10_back_61 : decode cX10_back 61 = .ok (.iadd, 1) := by decide +kernel
theorem dX10_back_62 : decode cX10_back 62 = .ok (.iaload, 1) := by decide +kernel
theorem dX10_back_63 : decode cX10_back 63 = .ok (.iastore, 1) := by decide +kernel
theorem dX10_back_64 : decode cX10_back 64 = .ok (.iinc 2 1, 3) := by decide +kernel
theorem dX10_back_67 : decode cX10_back 67 = .ok (.goto (-24), 3) := by decide +kernel
theorem dX10_back_70 : decode cX10_back 70 = .ok (.aload_n 0, 1) := by decide +kernel
theorem dX10_back_71 : decode cX10_back 71 = .ok (.aload_n 0, 1) := by decide +kernel
theorem dX10_back_72 : decode cX10_back 72 = .ok (.getfield 46, 3) := by decide +kernel
theorem dX10_back_75 : decode cX10_back 75 = .ok (.bipush 80, 2) := by decide +kernel
theorem dX10_back_77 : decode cX10_back 77 = .ok (.iaload, 1) := by decide +kernel
theorem dX10_back_78 : decode cX10_back 78 = .ok (.putfield 83, 3) := by decide +kernel
theorem dX10_back_81 : decode cX10_back 81 = .ok (.aload_n 0, 1) := by decide +kernel
theorem dX10_back_82 : decode cX10_back 82 = .ok (.aload_n 0, 1) := by decide +kernel
theorem dX10_back_83 : decode cX10_back 83 = .ok (.getfield 46, 3) := by decide +kernel
theorem dX10_back_86 : decode cX10_back 86 = .ok (.bipush 81, 2) := by decide +kernel
theorem dX10_back_88 : decode cX10_back 88 = .ok (.iaload, 1) := by decide +kernel
theorem dX10_back_89 : decode cX10_back 89 = .ok (.putfield 100, 3) := by decide +kernel
theorem dX10_back_92 : decode cX10_back 92 = .ok (.aload_n 0, 1) := by decide +kernel
theorem dX10_back_93 : decode cX10_back 93 = .ok (.aload_n 0, 1) := by decide +kernel
theorem dX10_back_94 : decode cX10_back 94 = .ok (.getfield 46, 3) := by decide +kernel
theorem dX10_back_97 : decode cX10_back 97 = .ok (.bipush 82, 2) := by decide +kernel
theorem dX10_back_99 : decode cX10_back 99 = .ok (.iaload, 1) := by decide +kernel
theorem dX10_back_100 : decode cX10_back 100 = .ok (.putfield 155, 3) := by decide +kernel
theorem dX10_back_103 : decode cX10_back 103 = .ok (.iload_n 1, 1) := by decide +kernel
theorem dX10_back_104 : decode cX10_back 104 = .ok (.ireturn, 1) := by decide +kernel
set_option maxRecDepth 20000 in
theorem ggX10_goOne_X10_happen : GoodIn wsX10_goOne wsX10_happen := goodIn_r _ [12, 5, 13, 14, 15, 16, 11, 17, 18, 19, 20, 21, 22, 23, 24, 25, 26, 27, 28, 29, 30, 31, 32, 33, 34, 35, 36, 37, 38, 39, 40, 41, 42, 43, 44, 45, 46, 47, 48, 49, 50, 51, 52, 53, 54, 55, 56, 57, 58, 59, 60, 61, 62, 63, 64, 65, 66, 67, 68, 69, 70, 71, 72, 73, 74, 75, 76, 77] (by decide +kernel) (by decide +kernel)
set_option maxRecDepth 20000 in
theorem gX10_goOne_X10_happen : GoodIn wsX10_goOne (wsV RX10 185 RX10 yX10_happen wsX10_happen) := goodIn_app (goodIn_of _ (by decide +kernel)) ggX10_goOne_X10_happen
theorem dX10_goOne_0 : decode cX10_goOne 0 = .ok (.aload_n 0, 1) := by decide +kernel
theorem dX10_goOne_1 : decode cX10_goOne 1 = .ok (.aload_n 0, 1) := by decide +kernel
theorem dX10_goOne_2 : decode cX10_goOne 2 = .ok (.getfield 34, 3) := by decide +kernel
theorem dX10_goOne_5 : decode cX10_goOne 5 = .ok (.iload_n 1, 1) := by decide +kernel
theorem dX10_goOne_6 : decode cX10_goOne 6 = .ok (.iaload, 1) := by decide +kernel
theorem dX10_goOne_7 : decode cX10_goOne 7 = .ok (.aload_n 0, 1) := by decide +kernel
theorem dX10_goOne_8 : decode cX10_goOne 8 = .ok (.getfield 37, 3) := by decide +kernel
theorem dX10_goOne_11 : decode cX10_goOne 11 = .ok (.iload_n 1, 1) := by decide +kernel
theorem dX10_goOne_12 : decode cX10_goOne 12 = .ok (.iaload, 1) := by decide +kernel
theorem dX10_goOne_13 : decode cX10_goOne 13 = .ok (.aload_n 0, 1) := by decide +kernel
theorem dX10_goOne_14 : decode cX10_goOne 14 = .ok (.getfield 40, 3) := by decide +kernel
theorem dX10_goOne_17 : decode cX10_goOne 17 = .ok (.iload_n 1, 1) := by decide +kernel
theorem dX10_goOne_18 : decode cX10_goOne 18 = .ok (.iaload, 1) := by decide +kernel
theorem dX10_goOne_19 : decode cX10_goOne 19 = .ok (.aload_n 0, 1) := by decide +kernel
theorem dX10_goOne_20 : decode cX10_goOne 20 = .ok (.getfield 43, 3) := by decide +kernel
theorem dX10_goOne_23 : decode cX10_goOne 23 = .ok (.iload_n 1, 1) := by decide +kernel
theorem dX10_goOne_24 : decode cX10_goOne 24 = .ok (.iaload, 1) := by decide +kernel
theorem dX10_goOne_25 : decode cX10_goOne 25 = .ok (.invokevirtual 185, 3) := by decide +kernel
theorem dX10_goOne_28 : decode cX10_goOne 28 = .ok (.aload_n 0, 1) := by decide +kernel
theorem dX10_goOne_29 : decode cX10_goOne 29 = .ok (.getfield 158, 3) := by decide +kernel
theorem dX10_goOne_32 : decode cX10_goOne 32 = .ok (.ifCond .lt 23, 3) := by decide +kernel
theorem dX10_goOne_35 : decode cX10_goOne 35 = .ok (.aload_n 0, 1) := by decide +kernel
theorem dX10_goOne_36 : decode cX10_goOne 36 = .ok (.getfield 189, 3) := by decide +kernel
theorem dX10_goOne_39 : decode cX10_goOne 39 = .ok (.ifCond .ge 16, 3) := by decide +kernel
theorem dX10_goOne_42 : decode cX10_goOne 42 = .ok (.aload_n 0, 1) := by decide +kernel
theorem dX10_goOne_43 : decode cX10_goOne 43 = .ok (.iload_n 1, 1) := by decide +kernel
theorem dX10_goOne_44 : decode cX10_goOne 44 = .ok (.putfield 189, 3) := by decide +kernel
theorem dX10_goOne_47 : decode cX10_goOne 47 = .ok (.aload_n 0, 1) := by decide +kernel
theorem dX10_goOne_48 : decode cX10_goOne 48 = .ok (.aload_n 0, 1) := by decide +kernel
theorem dX10_goOne_49 : decode cX10_goOne 49 = .ok (.getfield 158, 3) := by decide +kernel
theorem dX10_goOne_52 : decode cX10_goOne 52 = .ok (.putfield 192, 3) := by decide +kernel
theorem dX10_goOne_55 : decode cX10_goOne 55 = .ok (.return_, 1) := by decide +kernel
set_option maxRecDepth 20000 in
theorem ggX10_goYears_X10_whyNot : GoodIn wsX10_goYears wsX10_whyNot := goodIn_r _ [15, 16, 17, 18, 19, 14, 20, 21, 22, 23, 24, 25, 61, 62, 63, 64, 65, 66, 67, 68, 69, 70, 71, 72, 73, 74, 75, 76, 77, 78, 79, 80, 81, 82, 83, 84, 85, 86, 87, 88, 89, 90, 91, 92, 93, 94, 95] (by decide +kernel) (by decide +kernel)
set_option maxRecDepth 20000 in
theorem gX10_goYears_X10_whyNot : GoodIn wsX10_goYears (wsV RX10 201 RX10 yX10_whyNot wsX10_whyNot) := goodIn_app (goodIn_of _ (by decide +kernel)) ggX10_goYears_X10_whyNot
set_option maxRecDepth 20000 in
theorem ggX10_goYears_X10_goOne : GoodIn wsX10_goYears wsX10_goOne := goodIn_r _ [29, 7, 8, 9, 10, 30, 3, 4, 31, 32, 33, 14, 34, 16, 35, 36, 37, 38, 39, 40, 41, 42, 25, 43, 5, 44, 45, 46, 47, 48, 49, 50, 51, 52, 53, 54, 55, 56, 57, 58, 59, 60, 17, 61, 62, 63, 64, 65, 66, 67, 68, 69, 70, 71, 72, 73, 74, 75, 76, 77, 78, 79, 80, 81, 82, 83, 84, 85, 86, 87, 88, 89, 90, 91, 92, 93, 94, 95] (by decide +kernel) (by decide +kernel)
set_option maxRecDepth 20000 in
theorem gX10_goYears_X10_goOne : GoodIn wsX10_goYears (wsV RX10 205 RX10 yX10_goOne wsX10_goOne) := goodIn_app (goodIn_of _ (by decide +kernel)) ggX10_goYears_X10_goOne
theorem dX10_goYears_0 : decode cX10_goYears 0 = .ok (.aload_n 0, 1) := by decide +kernel
theorem dX10_goYears_1 : decode cX10_goYears 1 = .ok (.bipush (-6), 2) := by decide +kernel
theorem dX10_goYears_3 : decode cX10_goYears 3 = .ok (.putfield 195, 3) := by decide +kernel
theorem dX10_goYears_6 : decode cX10_goYears 6 = .ok (.aload_n 0, 1) := by decide +kernel
theorem dX10_goYears_7 : decode cX10_goYears 7 = .ok (.bipush (-6), 2) := by decide +kernel
theorem dX10_goYears_9 : decode cX10_goYears 9 = .ok (.putfield 198, 3) := by decide +kernel
theorem dX10_goYears_12 : decode cX10_goYears 12 = .ok (.aload_n 0, 1) := by decide +kernel
theorem dX10_goYears_13 : decode cX10_goYears 13 = .ok (.bipush (-6), 2) := by decide +kernel
theorem dX10_goYears_15 : decode cX10_goYears 15 = .ok (.putfield 189, 3) := by decide +kernel
theorem dX10_goYears_18 : decode cX10_goYears 18 = .ok (.aload_n 0, 1) := by decide +kernel
theorem dX10_goYears_19 : decode cX10_goYears 19 = .ok (.bipush (-6), 2) := by decide +kernel
theorem dX10_goYears_21 : decode cX10_goYears 21 = .ok (.putfield 192, 3) := by decide +kernel
theorem dX10_goYears_24 : decode cX10_goYears 24 = .ok (.aload_n 0, 1) := by decide +kernel
theorem dX10_goYears_25 : decode cX10_goYears 25 = .ok (.iconst 0, 1) := by decide +kernel
theorem dX10_goYears_26 : decode cX10_goYears 26 = .ok (.putfield 164, 3) := by decide +kernel
theorem dX10_goYears_29 : decode cX10_goYears 29 = .ok (.iconst 0, 1) := by decide +kernel
theorem dX10_goYears_30 : decode cX10_goYears 30 = .ok (.istore_n 1, 1) := by decide +kernel
theorem dX10_goYears_31 : decode cX10_goYears 31 = .ok (.iload_n 1, 1) := by decide +kernel
theorem dX10_goYears_32 : decode cX10_goYears 32 = .ok (.aload_n 0, 1) := by decide +kernel
theorem dX10_goYears_33 : decode cX10_goYears 33 = .ok (.getfield 114, 3) := by decide +kernel
theorem dX10_goYears_36 : decode cX10_goYears 36 = .ok (.if_icmp .ge 82, 3) := by decide +kernel
theorem dX10_goYears_39 : decode cX10_goYears 39 = .ok (.aload_n 0, 1) := by decide +kernel
theorem dX10_goYears_40 : decode cX10_goYears 40 = .ok (.getfield 195, 3) := by decide +kernel
theorem dX10_goYears_43 : decode cX10_goYears 43 = .ok (.ifCond .ge 75, 3) := by decide +kernel
theorem dX10_goYears_46 : decode cX10_goYears 46 = .ok (.aload_n 0, 1) := by decide +kernel
theorem dX10_goYears_47 : decode cX10_goYears 47 = .ok (.aload_n 0, 1) := by decide +kernel
theorem dX10_goYears_48 : decode cX10_goYears 48 = .ok (.getfield 34, 3) := by decide +kernel
theorem dX10_goYears_51 : decode cX10_goYears 51 = .ok (.iload_n 1, 1) := by decide +kernel
theorem dX10_goYears_52 : decode cX10_goYears 52 = .ok (.iaload, 1) := by decide +kernel
theorem dX10_goYears_53 : decode cX10_goYears 53 = .ok (.aload_n 0, 1) := by decide +kernel
theorem dX10_goYears_54 : decode cX10_goYears 54 = .ok (.getfield 37, 3) := by decide +kernel
theorem dX10_goYears_57 : decode cX10_goYears 57 = .ok (.iload_n 1, 1) := by decide +kernel
theorem dX10_goYears_58 : decode cX10_goYears 58 = .ok (.iaload, 1) := by decide +kernel
theorem dX10_goYears_59 : decode cX10_goYears 59 = .ok (.aload_n 0, 1) := by decide +kernel
theorem dX10_goYears_60 : decode cX10_goYears 60 = .ok (.getfield 40, 3) := by decide +kernel
theorem dX10_goYears_63 : decode cX10_goYears 63 = .ok (.iload_n 1, 1) := by decide +kernel
theorem dX10_goYears_64 : decode cX10_goYears 64 = .ok (.iaload, 1) := by decide +kernel
theorem dX10_goYears_65 : decode cX10_goYears 65 = .ok (.aload_n 0, 1) := by decide +kernel
theorem dX10_goYears_66 : decode cX10_goYears 66 = .ok (.getfield 43, 3) := by decide +kernel
theorem dX10_goYears_69 : decode cX10_goYears 69 = .ok (.iload_n 1, 1) := by decide +kernel
theorem dX10_goYears_70 : decode cX10_goYears 70 = .ok (.iaload, 1) := by decide +kernel
theorem dX10_goYears_71 : decode cX10_goYears 71 = .ok (.invokevirtual 201, 3) := by decide +kernel
theorem dX10_goYears_74 : decode cX10_goYears 74 = .ok (.istore_n 2, 1) := by decide +kernel
theorem dX10_goYears_75 : decode cX10_goYears 75 = .ok (.aload_n 0, 1) := by decide +kernel
theorem dX10_goYears_76 : decode cX10_goYears 76 = .ok (.iload_n 2, 1) := by decide +kernel
theorem dX10_goYears_77 : decode cX10_goYears 77 = .ok (.ifCond .le 7, 3) := by decide +kernel
theorem dX10_goYears_80 : decode cX10_goYears 80 = .ok (.iload_n 1, 1) := by decide +kernel
theorem dX10_goYears_81 : decode cX10_goYears 81 = .ok (.goto 5, 3) := by decide +kernel
theorem dX10_goYears_84 : decode cX10_goYears 84 = .ok (.bipush (-6), 2) := by decide +kernel
theorem dX10_goYears_86 : decode cX10_goYears 86 = .ok (.putfield 195, 3) := by decide +kernel
theorem dX10_goYears_89 : decode cX10_goYears 89 = .ok (.aload_n 0, 1) := by decide +kernel
theorem dX10_goYears_90 : decode cX10_goYears 90 = .ok (.iload_n 2, 1) := by decide +kernel
theorem dX10_goYears_91 : decode cX10_goYears 91 = .ok (.ifCond .le 7, 3) := by decide +kernel
theorem dX10_goYears_94 : decode cX10_goYears 94 = .ok (.iload_n 2, 1) := by decide +kernel
theorem dX10_goYears_95 : decode cX10_goYears 95 = .ok (.goto 5, 3) := by decide +kernel
theorem dX10_goYears_98 : decode cX10_goYears 98 = .ok (.bipush (-6), 2) := by decide +kernel
theorem dX10_goYears_100 : decode cX10_goYears 100 = .ok (.putfield 198, 3) := by decide +kernel
theorem dX10_goYears_103 : decode cX10_goYears 103 = .ok (.iload_n 2, 1) := by decide +kernel
theorem dX10_goYears_104 : decode cX10_goYears 104 = .ok (.ifCond .ne 8, 3) := by decide +kernel
theorem dX10_goYears_107 : decode cX10_goYears 107 = .ok (.aload_n 0, 1) := by decide +kernel
theorem dX10_goYears_108 : decode cX10_goYears 108 = .ok (.iload_n 1, 1) := by decide +kernel
theorem dX10_goYears_109 : decode cX10_goYears 109 = .ok (.invokevirtual 205, 3) := by decide +kernel
theorem dX10_goYears_112 : decode cX10_goYears 112 = .ok (.iinc 1 1, 3) := by decide +kernel
theorem dX10_goYears_115 : decode cX10_goYears 115 = .ok (.goto (-84), 3) := by decide +kernel
theorem dX10_goYears_118 : decode cX10_goYears 118 = .ok (.return_, 1) := by decide +kernel
set_option maxRecDepth 20000 in
theorem ggX10_refusal_X10_keepNow : GoodIn wsX10_refusal wsX10_keepNow := goodIn_r _ [6, 7, 8, 9, 10, 11, 12, 13, 110, 111, 112, 113, 114, 115, 116, 117, 118, 119, 120, 121, 122, 123, 124, 125, 126, 127, 128, 129, 130, 131, 132, 133, 134, 135, 136, 137, 138, 139, 140, 141, 142, 143, 144] (by decide +kernel) (by decide +kernel)
set_option maxRecDepth 20000 in
theorem gX10_refusal_X10_keepNow : GoodIn wsX10_refusal (wsV RX10 208 RX10 yX10_keepNow wsX10_keepNow) := goodIn_app (goodIn_of _ (by decide +kernel)) ggX10_refusal_X10_keepNow
set_option maxRecDepth 20000 in
theorem ggX10_refusal_X10_fault : GoodIn wsX10_refusal wsX10_fault := goodIn_r _ [17, 18, 19, 20, 21, 22, 23, 5, 24, 25, 26, 27, 28, 29, 30, 31, 32, 33, 34, 35, 36, 37, 38, 39, 40, 41, 42, 43, 44, 45, 46, 47, 48, 49, 50, 51, 52, 53, 54, 55, 56, 57, 58, 110, 111, 112, 113, 114, 115, 116, 117, 118, 119, 120, 121, 122, 123, 124, 125, 126, 127, 128, 129, 130, 131, 132, 133, 134, 135, 136, 137, 138, 139, 140, 141, 142, 143, 144] (by decide +kernel) (by decide +kernel)
set_option maxRecDepth 20000 in
theorem gX10_refusal_X10_fault : GoodIn wsX10_refusal (wsV RX10 211 RX10 yX10_fault wsX10_fault) := goodIn_app (goodIn_of _ (by decide +kernel)) ggX10_refusal_X10_fault
set_option maxRecDepth 20000 in
theorem ggX10_refusal_X10_goYears : GoodIn wsX10_refusal wsX10_goYears := goodIn_r _ [62, 1, 63, 64, 65, 66, 18, 44, 29, 30, 31, 67, 68, 69, 5, 70, 11, 13, 71, 72, 73, 74, 75, 76, 77, 8, 78, 79, 80, 81, 82, 83, 84, 85, 86, 87, 88, 89, 90, 91, 92, 93, 94, 10, 95, 96, 97, 98, 99, 100, 101, 9, 102, 103, 104, 105, 106, 107, 108, 109, 12, 110, 111, 112, 113, 114, 115, 116, 117, 118, 119, 120, 121, 122, 123, 124, 125, 126, 127, 128, 129, 130, 131, 132, 133, 134, 135, 136, 137, 138, 139, 140, 141, 142, 143, 144] (by decide +kernel) (by decide +kernel)
set_option maxRecDepth 20000 in
theorem gX10_refusal_X10_goYears : GoodIn wsX10_refusal (wsV RX10 214 RX10 yX10_goYears wsX10_goYears) := goodIn_app (goodIn_of _ (by decide +kernel)) ggX10_refusal_X10_goYears
theorem dX10_refusal_0 : decode cX10_refusal 0 = .ok (.aload_n 0, 1) := by decide +kernel
theorem dX10_refusal_1 : decode cX10_refusal 1 = .ok (.invokevirtual 208, 3) := by decide +kernel
theorem dX10_refusal_4 : decode cX10_refusal 4 = .ok (.aload_n 0, 1) := by decide +kernel
theorem dX10_refusal_5 : decode cX10_refusal 5 = .ok (.invokevirtual 211, 3) := by decide +kernel
theorem dX10_refusal_8 : decode cX10_refusal 8 = .ok (.ifCond .lt 6, 3) := by decide +kernel
theorem dX10_refusal_11 : decode cX10_refusal 11 = .ok (.bipush (-5), 2) := by decide +kernel
theorem dX10_refusal_13 : decode cX10_refusal 13 = .ok (.ireturn, 1) := by decide +kernel
theorem dX10_refusal_14 : decode cX10_refusal 14 = .ok (.aload_n 0, 1) := by decide +kernel
theorem dX10_refusal_15 : decode cX10_refusal 15 = .ok (.invokevirtual 214, 3) := by decide +kernel
theorem dX10_refusal_18 : decode cX10_refusal 18 = .ok (.aload_n 0, 1) := by decide +kernel
theorem dX10_refusal_19 : decode cX10_refusal 19 = .ok (.getfield 195, 3) := by decide +kernel
theorem dX10_refusal_22 : decode cX10_refusal 22 = .ok (.ifCond .lt 8, 3) := by decide +kernel
theorem dX10_refusal_25 : decode cX10_refusal 25 = .ok (.bipush (-3), 2) := by decide +kernel
theorem dX10_refusal_27 : decode cX10_refusal 27 = .ok (.goto 5, 3) := by decide +kernel
theorem dX10_refusal_30 : decode cX10_refusal 30 = .ok (.bipush (-6), 2) := by decide +kernel
theorem dX10_refusal_32 : decode cX10_refusal 32 = .ok (.ireturn, 1) := by decide +kernel
set_option maxRecDepth 20000 in
theorem ggX10_judge_X10_in : GoodIn wsX10_judge wsX10_in := goodIn_r _ [8] (by decide +kernel) (by decide +kernel)
set_option maxRecDepth 20000 in
theorem gX10_judge_X10_in : GoodIn wsX10_judge (va_wsS RX10 73 yX10_in wsX10_in) := goodIn_app (goodIn_of _ (by decide +kernel)) ggX10_judge_X10_in
set_option maxRecDepth 20000 in
theorem ggX10_judge_X10_refusal : GoodIn wsX10_judge wsX10_refusal := goodIn_r _ [12, 2, 13, 14, 15, 7, 16, 17, 18, 19, 20, 21, 22, 23, 24, 25, 26, 27, 28, 29, 30, 31, 32, 33, 34, 35, 36, 37, 38, 39, 40, 41, 42, 43, 44, 45, 46, 5, 6, 8, 47, 48, 49, 50, 51, 52, 53, 54, 55, 56, 57, 58, 59, 60, 61, 62, 63, 64, 65, 66, 67, 68, 69, 3, 70, 71, 4, 72, 73, 74, 75, 76, 77, 78, 79, 80, 81, 82, 83, 84, 85, 86, 87, 88, 89, 90, 91, 92, 93, 94, 95, 96, 97, 98, 99, 100, 101, 102, 103, 104, 105, 106, 107, 108, 109, 110, 111, 112, 113, 114, 119, 120, 121, 122, 123, 124, 125, 126, 127, 128, 129, 130, 131, 132, 133, 134, 135, 136, 137, 138, 139, 140, 141, 142, 143, 144, 145, 146, 147, 148, 149, 150, 151, 152, 153] (by decide +kernel) (by decide +kernel)
set_option maxRecDepth 20000 in
theorem gX10_judge_X10_refusal : GoodIn wsX10_judge (wsV RX10 219 RX10 yX10_refusal wsX10_refusal) := goodIn_app (goodIn_of _ (by decide +kernel)) ggX10_judge_X10_refusal
set_option maxRecDepth 20000 in
theorem ggX10_judge_X10_back : GoodIn wsX10_judge wsX10_back := goodIn_r _ [118, 18, 17, 19, 20, 21, 22, 23, 119, 120, 121, 122, 123, 124, 125, 126, 127, 128, 129, 130, 131, 132, 133, 134, 135, 136, 137, 138, 139, 140, 141, 142, 143, 144, 145, 146, 147, 148, 149, 150, 151, 152, 153] (by decide +kernel) (by decide +kernel)
set_option maxRecDepth 20000 in
theorem gX10_judge_X10_back : GoodIn wsX10_judge (wsV RX10 222 RX10 yX10_back wsX10_back) := goodIn_app (goodIn_of _ (by decide +kernel)) ggX10_judge_X10_back
theorem dX10_judge_0 : decode cX10_judge 0 = .ok (.iload_n 1, 1) := by decide +kernel
theorem dX10_judge_1 : decode cX10_judge 1 = .ok (.i2l, 1) := by decide +kernel
theorem dX10_judge_2 : decode cX10_judge 2 = .ok (.lconst 0, 1) := by decide +kernel
theorem dX10_judge_3 : decode cX10_judge 3 = .ok (.ldc2_w 217, 3) := by decide +kernel
theorem dX10_judge_6 : decode cX10_judge 6 = .ok (.invokestatic 73, 3) := by decide +kernel
theorem dX10_judge_9 : decode cX10_judge 9 = .ok (.ifCond .ne 6, 3) := by decide +kernel
theorem dX10_judge_12 : decode cX10_judge 12 = .ok (.bipush (-2), 2) := by decide +kernel
theorem dX10_judge_14 : decode cX10_judge 14 = .ok (.ireturn, 1) := by decide +kernel
theorem dX10_judge_15 : decode cX10_judge 15 = .ok (.aload_n 0, 1) := by decide +kernel
theorem dX10_judge_16 : decode cX10_judge 16 = .ok (.aload_n 0, 1) := by decide +kernel
theorem dX10_judge_17 : decode cX10_judge 17 = .ok (.invokevirtual 219, 3) := by decide +kernel
theorem dX10_judge_20 : decode cX10_judge 20 = .ok (.invokevirtual 222, 3) := by decide +kernel
theorem dX10_judge_23 : decode cX10_judge 23 = .ok (.istore_n 2, 1) := by decide +kernel
theorem dX10_judge_24 : decode cX10_judge 24 = .ok (.iload_n 2, 1) := by decide +kernel
theorem dX10_judge_25 : decode cX10_judge 25 = .ok (.bipush (-5), 2) := by decide +kernel
theorem dX10_judge_27 : decode cX10_judge 27 = .ok (.if_icmp .eq 14, 3) := by decide +kernel
theorem dX10_judge_30 : decode cX10_judge 30 = .ok (.iload_n 1, 1) := by decide +kernel
theorem dX10_judge_31 : decode cX10_judge 31 = .ok (.iconst 1, 1) := by decide +kernel
theorem dX10_judge_32 : decode cX10_judge 32 = .ok (.if_icmp .le 11, 3) := by decide +kernel
theorem dX10_judge_35 : decode cX10_judge 35 = .ok (.iload_n 2, 1) := by decide +kernel
theorem dX10_judge_36 : decode cX10_judge 36 = .ok (.bipush (-3), 2) := by decide +kernel
theorem dX10_judge_38 : decode cX10_judge 38 = .ok (.if_icmp .ne 5, 3) := by decide +kernel
theorem dX10_judge_41 : decode cX10_judge 41 = .ok (.iload_n 2, 1) := by decide +kernel
theorem dX10_judge_42 : decode cX10_judge 42 = .ok (.ireturn, 1) := by decide +kernel
theorem dX10_judge_43 : decode cX10_judge 43 = .ok (.iload_n 1, 1) := by decide +kernel
theorem dX10_judge_44 : decode cX10_judge 44 = .ok (.ifCond .ne 10, 3) := by decide +kernel
theorem dX10_judge_47 : decode cX10_judge 47 = .ok (.aload_n 0, 1) := by decide +kernel
theorem dX10_judge_48 : decode cX10_judge 48 = .ok (.getfield 195, 3) := by decide +kernel
theorem dX10_judge_51 : decode cX10_judge 51 = .ok (.goto 19, 3) := by decide +kernel
theorem dX10_judge_54 : decode cX10_judge 54 = .ok (.iload_n 1, 1) := by decide +kernel
theorem dX10_judge_55 : decode cX10_judge 55 = .ok (.iconst 1, 1) := by decide +kernel
theorem dX10_judge_56 : decode cX10_judge 56 = .ok (.if_icmp .ne 10, 3) := by decide +kernel
theorem dX10_judge_59 : decode cX10_judge 59 = .ok (.aload_n 0, 1) := by decide +kernel
theorem dX10_judge_60 : decode cX10_judge 60 = .ok (.getfield 198, 3) := by decide +kernel
theorem dX10_judge_63 : decode cX10_judge 63 = .ok (.goto 7, 3) := by decide +kernel
theorem dX10_judge_66 : decode cX10_judge 66 = .ok (.aload_n 0, 1) := by decide +kernel
theorem dX10_judge_67 : decode cX10_judge 67 = .ok (.getfield 164, 3) := by decide +kernel
theorem dX10_judge_70 : decode cX10_judge 70 = .ok (.ireturn, 1) := by decide +kernel
set_option maxRecDepth 20000 in
theorem ggX10_behind_X10_isHouse : GoodIn wsX10_behind wsX10_isHouse := goodIn_r _ [7, 8, 9, 10, 6, 11] (by decide +kernel) (by decide +kernel)
set_option maxRecDepth 20000 in
theorem gX10_behind_X10_isHouse : GoodIn wsX10_behind (va_wsS RX10 77 yX10_isHouse wsX10_isHouse) := goodIn_app (goodIn_of _ (by decide +kernel)) ggX10_behind_X10_isHouse
set_option maxRecDepth 20000 in
theorem ggX10_behind_X10_in : GoodIn wsX10_behind wsX10_in := goodIn_r _ [11] (by decide +kernel) (by decide +kernel)
set_option maxRecDepth 20000 in
theorem gX10_behind_X10_in : GoodIn wsX10_behind (va_wsS RX10 73 yX10_in wsX10_in) := goodIn_app (goodIn_of _ (by decide +kernel)) ggX10_behind_X10_in
set_option maxRecDepth 20000 in
theorem ggX10_behind_X10_refusal : GoodIn wsX10_behind wsX10_refusal := goodIn_r _ [15, 16, 17, 18, 19, 6, 20, 21, 2, 22, 23, 3, 24, 25, 26, 27, 28, 29, 30, 31, 32, 33, 34, 35, 36, 37, 38, 39, 40, 41, 42, 43, 44, 45, 46, 47, 48, 9, 10, 11, 49, 50, 51, 52, 53, 54, 55, 56, 57, 58, 59, 60, 61, 62, 63, 64, 65, 66, 67, 68, 69, 70, 71, 72, 73, 74, 75, 76, 77, 78, 79, 80, 81, 82, 83, 84, 85, 86, 87, 88, 89, 90, 91, 92, 93, 94, 95, 96, 97, 98, 99, 100, 101, 102, 103, 104, 105, 106, 107, 108, 109, 110, 111, 112, 113, 114, 115, 116, 117, 118, 123, 124, 125, 126, 127, 128, 129, 130, 131, 132, 133, 134, 135, 136, 137, 138, 139, 140, 141, 142, 143, 144, 145, 146, 147, 148, 149, 150, 151, 152, 153, 154, 155, 156, 157] (by decide +kernel) (by decide +kernel)
set_option maxRecDepth 20000 in
theorem gX10_behind_X10_refusal : GoodIn wsX10_behind (wsV RX10 219 RX10 yX10_refusal wsX10_refusal) := goodIn_app (goodIn_of _ (by decide +kernel)) ggX10_behind_X10_refusal
set_option maxRecDepth 20000 in
theorem ggX10_behind_X10_placeOf : GoodIn wsX10_behind wsX10_placeOf := goodIn_r _ [114, 22, 123, 124, 125, 126, 127, 128, 129, 130, 131, 132, 133, 134, 135, 136, 137, 138, 139, 140, 141, 142, 143, 144, 145, 146, 147, 148, 149, 150, 151, 152, 153, 154, 155, 156, 157] (by decide +kernel) (by decide +kernel)
set_option maxRecDepth 20000 in
theorem gX10_behind_X10_placeOf : GoodIn wsX10_behind (wsV RX10 167 RX10 yX10_placeOf wsX10_placeOf) := goodIn_app (goodIn_of _ (by decide +kernel)) ggX10_behind_X10_placeOf
set_option maxRecDepth 20000 in
theorem ggX10_behind_X10_back : GoodIn wsX10_behind wsX10_back := goodIn_r _ [122, 2, 21, 22, 23, 3, 24, 25, 123, 124, 125, 126, 127, 128, 129, 130, 131, 132, 133, 134, 135, 136, 137, 138, 139, 140, 141, 142, 143, 144, 145, 146, 147, 148, 149, 150, 151, 152, 153, 154, 155, 156, 157] (by decide +kernel) (by decide +kernel)
set_option maxRecDepth 20000 in
theorem gX10_behind_X10_back : GoodIn wsX10_behind (wsV RX10 222 RX10 yX10_back wsX10_back) := goodIn_app (goodIn_of _ (by decide +kernel)) ggX10_behind_X10_back
theorem dX10_behind_0 : decode cX10_behind 0 = .ok (.iload_n 1, 1) := by decide +kernel
theorem dX10_behind_1 : decode cX10_behind 1 = .ok (.invokestatic 77, 3) := by decide +kernel
theorem dX10_behind_4 : decode cX10_behind 4 = .ok (.ifCond .ne 5, 3) := by decide +kernel
theorem dX10_behind_7 : decode cX10_behind 7 = .ok (.iconst (-1), 1) := by decide +kernel
theorem dX10_behind_8 : decode cX10_behind 8 = .ok (.ireturn, 1) := by decide +kernel
theorem dX10_behind_9 : decode cX10_behind 9 = .ok (.iload_n 2, 1) := by decide +kernel
theorem dX10_behind_10 : decode cX10_behind 10 = .ok (.i2l, 1) := by decide +kernel
theorem dX10_behind_11 : decode cX10_behind 11 = .ok (.lconst 0, 1) := by decide +kernel
theorem dX10_behind_12 : decode cX10_behind 12 = .ok (.ldc2_w 217, 3) := by decide +kernel
theorem dX10_behind_15 : decode cX10_behind 15 = .ok (.invokestatic 73, 3) := by decide +kernel
theorem dX10_behind_18 : decode cX10_behind 18 = .ok (.ifCond .ne 6, 3) := by decide +kernel
theorem dX10_behind_21 : decode cX10_behind 21 = .ok (.bipush (-2), 2) := by decide +kernel
theorem dX10_behind_23 : decode cX10_behind 23 = .ok (.ireturn, 1) := by decide +kernel
theorem dX10_behind_24 : decode cX10_behind 24 = .ok (.aload_n 0, 1) := by decide +kernel
theorem dX10_behind_25 : decode cX10_behind 25 = .ok (.invokevirtual 219, 3) := by decide +kernel
theorem dX10_behind_28 : decode cX10_behind 28 = .ok (.istore_n 3, 1) := by decide +kernel
theorem dX10_behind_29 : decode cX10_behind 29 = .ok (.aload_n 0, 1) := by decide +kernel
theorem dX10_behind_30 : decode cX10_behind 30 = .ok (.iload_n 3, 1) := by decide +kernel
theorem dX10_behind_31 : decode cX10_behind 31 = .ok (.bipush (-6), 2) := by decide +kernel
theorem dX10_behind_33 : decode cX10_behind 33 = .ok (.if_icmp .eq 7, 3) := by decide +kernel
theorem dX10_behind_36 : decode cX10_behind 36 = .ok (.iload_n 3, 1) := by decide +kernel
theorem dX10_behind_37 : decode cX10_behind 37 = .ok (.goto 37, 3) := by decide +kernel
theorem dX10_behind_40 : decode cX10_behind 40 = .ok (.iload_n 2, 1) := by decide +kernel
theorem dX10_behind_41 : decode cX10_behind 41 = .ok (.ifCond .ne 12, 3) := by decide +kernel
theorem dX10_behind_44 : decode cX10_behind 44 = .ok (.aload_n 0, 1) := by decide +kernel
theorem dX10_behind_45 : decode cX10_behind 45 = .ok (.getfield 7, 3) := by decide +kernel
theorem dX10_behind_48 : decode cX10_behind 48 = .ok (.iload_n 1, 1) := by decide +kernel
theorem dX10_behind_49 : decode cX10_behind 49 = .ok (.iaload, 1) := by decide +kernel
theorem dX10_behind_50 : decode cX10_behind 50 = .ok (.goto 24, 3) := by decide +kernel
theorem dX10_behind_53 : decode cX10_behind 53 = .ok (.iload_n 2, 1) := by decide +kernel
theorem dX10_behind_54 : decode cX10_behind 54 = .ok (.iconst 1, 1) := by decide +kernel
theorem dX10_behind_55 : decode cX10_behind 55 = .ok (.if_icmp .ne 14, 3) := by decide +kernel
theorem dX10_behind_58 : decode cX10_behind 58 = .ok (.aload_n 0, 1) := by decide +kernel
theorem dX10_behind_59 : decode cX10_behind 59 = .ok (.getfield 83, 3) := by decide +kernel
theorem dX10_behind_62 : decode cX10_behind 62 = .ok (.iload_n 1, 1) := by decide +kernel
theorem dX10_behind_63 : decode cX10_behind 63 = .ok (.ishr, 1) := by decide +kernel
theorem dX10_behind_64 : decode cX10_behind 64 = .ok (.iconst 1, 1) := by decide +kernel
theorem dX10_behind_65 : decode cX10_behind 65 = .ok (.iand, 1) := by decide +kernel
theorem dX10_behind_66 : decode cX10_behind 66 = .ok (.goto 8, 3) := by decide +kernel
theorem dX10_behind_69 : decode cX10_behind 69 = .ok (.aload_n 0, 1) := by decide +kernel
theorem dX10_behind_70 : decode cX10_behind 70 = .ok (.iload_n 1, 1) := by decide +kernel
theorem dX10_behind_71 : decode cX10_behind 71 = .ok (.invokevirtual 167, 3) := by decide +kernel
theorem dX10_behind_74 : decode cX10_behind 74 = .ok (.invokevirtual 222, 3) := by decide +kernel
theorem dX10_behind_77 : decode cX10_behind 77 = .ok (.ireturn, 1) := by decide +kernel
theorem dX10_allWealth_0 : decode cX10_allWealth 0 = .ok (.iconst 0, 1) := by decide +kernel
theorem dX10_allWealth_1 : decode cX10_allWealth 1 = .ok (.istore_n 1, 1) := by decide +kernel
theorem dX10_allWealth_2 : decode cX10_allWealth 2 = .ok (.iconst 0, 1) := by decide +kernel
theorem dX10_allWealth_3 : decode cX10_allWealth 3 = .ok (.istore_n 2, 1) := by decide +kernel
theorem dX10_allWealth_4 : decode cX10_allWealth 4 = .ok (.iload_n 2, 1) := by decide +kernel
theorem dX10_allWealth_5 : decode cX10_allWealth 5 = .ok (.bipush 8, 2) := by decide +kernel
theorem dX10_allWealth_7 : decode cX10_allWealth 7 = .ok (.if_icmp .ge 18, 3) := by decide +kernel
theorem dX10_allWealth_10 : decode cX10_allWealth 10 = .ok (.iload_n 1, 1) := by decide +kernel
theorem dX10_allWealth_11 : decode cX10_allWealth 11 = .ok (.aload_n 0, 1) := by decide +kernel
theorem dX10_allWealth_12 : decode cX10_allWealth 12 = .ok (.getfield 7, 3) := by decide +kernel
theorem dX10_allWealth_15 : decode cX10_allWealth 15 = .ok (.iload_n 2, 1) := by decide +kernel
theorem dX10_allWealth_16 : decode cX10_allWealth 16 = .ok (.iaload, 1) := by decide +kernel
theorem dX10_allWealth_17 : decode cX10_allWealth 17 = .ok (.iadd, 1) := by decide +kernel
theorem dX10_allWealth_18 : decode cX10_allWealth 18 = .ok (.istore_n 1, 1) := by decide +kernel
theorem dX10_allWealth_19 : decode cX10_allWealth 19 = .ok (.iinc 2 1, 3) := by decide +kernel
theorem dX10_allWealth_22 : decode cX10_allWealth 22 = .ok (.goto (-18), 3) := by decide +kernel
theorem dX10_allWealth_25 : decode cX10_allWealth 25 = .ok (.iload_n 1, 1) := by decide +kernel
theorem dX10_allWealth_26 : decode cX10_allWealth 26 = .ok (.ireturn, 1) := by decide +kernel
theorem dX10_poorest_0 : decode cX10_poorest 0 = .ok (.aload_n 0, 1) := by decide +kernel
theorem dX10_poorest_1 : decode cX10_poorest 1 = .ok (.getfield 16, 3) := by decide +kernel
theorem dX10_poorest_4 : decode cX10_poorest 4 = .ok (.iconst 0, 1) := by decide +kernel
theorem dX10_poorest_5 : decode cX10_poorest 5 = .ok (.iaload, 1) := by decide +kernel
theorem dX10_poorest_6 : decode cX10_poorest 6 = .ok (.istore_n 1, 1) := by decide +kernel
theorem dX10_poorest_7 : decode cX10_poorest 7 = .ok (.iconst 1, 1) := by decide +kernel
theorem dX10_poorest_8 : decode cX10_poorest 8 = .ok (.istore_n 2, 1) := by decide +kernel
theorem dX10_poorest_9 : decode cX10_poorest 9 = .ok (.iload_n 2, 1) := by decide +kernel
theorem dX10_poorest_10 : decode cX10_poorest 10 = .ok (.bipush 8, 2) := by decide +kernel
theorem dX10_poorest_12 : decode cX10_poorest 12 = .ok (.if_icmp .ge 40, 3) := by decide +kernel
theorem dX10_poorest_15 : decode cX10_poorest 15 = .ok (.aload_n 0, 1) := by decide +kernel
theorem dX10_poorest_16 : decode cX10_poorest 16 = .ok (.getfield 7, 3) := by decide +kernel
theorem dX10_poorest_19 : decode cX10_poorest 19 = .ok (.aload_n 0, 1) := by decide +kernel
theorem dX10_poorest_20 : decode cX10_poorest 20 = .ok (.getfield 16, 3) := by decide +kernel
theorem dX10_poorest_23 : decode cX10_poorest 23 = .ok (.iload_n 2, 1) := by decide +kernel
theorem dX10_poorest_24 : decode cX10_poorest 24 = .ok (.iaload, 1) := by decide +kernel
theorem dX10_poorest_25 : decode cX10_poorest 25 = .ok (.iaload, 1) := by decide +kernel
theorem dX10_poorest_26 : decode cX10_poorest 26 = .ok (.aload_n 0, 1) := by decide +kernel
theorem dX10_poorest_27 : decode cX10_poorest 27 = .ok (.getfield 7, 3) := by decide +kernel
theorem dX10_poorest_30 : decode cX10_poorest 30 = .ok (.iload_n 1, 1) := by decide +kernel
theorem dX10_poorest_31 : decode cX10_poorest 31 = .ok (.iaload, 1) := by decide +kernel
theorem dX10_poorest_32 : decode cX10_poorest 32 = .ok (.if_icmp .ge 12, 3) := by decide +kernel
theorem dX10_poorest_35 : decode cX10_poorest 35 = .ok (.aload_n 0, 1) := by decide +kernel
theorem dX10_poorest_36 : decode cX10_poorest 36 = .ok (.getfield 16, 3) := by decide +kernel
theorem dX10_poorest_39 : decode cX10_poorest 39 = .ok (.iload_n 2, 1) := by decide +kernel
theorem dX10_poorest_40 : decode cX10_poorest 40 = .ok (.iaload, 1) := by decide +kernel
theorem dX10_poorest_41 : decode cX10_poorest 41 = .ok (.goto 4, 3) := by decide +kernel
theorem dX10_poorest_44 : decode cX10_poorest 44 = .ok (.iload_n 1, 1) := by decide +kernel
theorem dX10_poorest_45 : decode cX10_poorest 45 = .ok (.istore_n 1, 1) := by decide +kernel
theorem dX10_poorest_46 : decode cX10_poorest 46 = .ok (.iinc 2 1, 3) := by decide +kernel
theorem dX10_poorest_49 : decode cX10_poorest 49 = .ok (.goto (-40), 3) := by decide +kernel
theorem dX10_poorest_52 : decode cX10_poorest 52 = .ok (.iload_n 1, 1) := by decide +kernel
theorem dX10_poorest_53 : decode cX10_poorest 53 = .ok (.ireturn, 1) := by decide +kernel
set_option maxRecDepth 20000 in
theorem ggX10_ofParish_X10_allWealth : GoodIn wsX10_ofParish wsX10_allWealth := goodIn_r _ [8, 9, 15, 16, 17, 18, 19, 20, 21, 22, 23, 24, 25, 26, 27, 28, 29, 30, 31, 32, 33, 34, 35, 36, 37, 38, 39, 40, 41, 42, 43, 44, 45, 46, 47, 48, 49] (by decide +kernel) (by decide +kernel)
set_option maxRecDepth 20000 in
theorem gX10_ofParish_X10_allWealth : GoodIn wsX10_ofParish (wsV RX10 225 RX10 yX10_allWealth wsX10_allWealth) := goodIn_app (goodIn_of _ (by decide +kernel)) ggX10_ofParish_X10_allWealth
set_option maxRecDepth 20000 in
theorem ggX10_ofParish_X10_poorest : GoodIn wsX10_ofParish wsX10_poorest := goodIn_r _ [13, 14, 9, 15, 16, 17, 18, 19, 20, 21, 22, 23, 24, 25, 26, 27, 28, 29, 30, 31, 32, 33, 34, 35, 36, 37, 38, 39, 40, 41, 42, 43, 44, 45, 46, 47, 48, 49] (by decide +kernel) (by decide +kernel)
set_option maxRecDepth 20000 in
theorem gX10_ofParish_X10_poorest : GoodIn wsX10_ofParish (wsV RX10 228 RX10 yX10_poorest wsX10_poorest) := goodIn_app (goodIn_of _ (by decide +kernel)) ggX10_ofParish_X10_poorest
theorem dX10_ofParish_0 : decode cX10_ofParish 0 = .ok (.iload_n 1, 1) := by decide +kernel
theorem dX10_ofParish_1 : decode cX10_ofParish 1 = .ok (.tableswitch 51 0 3 #[31, 36, 41, 46], 31) := by decide +kernel
theorem dX10_ofParish_32 : decode cX10_ofParish 32 = .ok (.aload_n 0, 1) := by decide +kernel
theorem dX10_ofParish_33 : decode cX10_ofParish 33 = .ok (.getfield 83, 3) := by decide +kernel
theorem dX10_ofParish_36 : decode cX10_ofParish 36 = .ok (.ireturn, 1) := by decide +kernel
theorem dX10_ofParish_37 : decode cX10_ofParish 37 = .ok (.aload_n 0, 1) := by decide +kernel
theorem dX10_ofParish_38 : decode cX10_ofParish 38 = .ok (.invokevirtual 225, 3) := by decide +kernel
theorem dX10_ofParish_41 : decode cX10_ofParish 41 = .ok (.ireturn, 1) := by decide +kernel
theorem dX10_ofParish_42 : decode cX10_ofParish 42 = .ok (.aload_n 0, 1) := by decide +kernel
theorem dX10_ofParish_43 : decode cX10_ofParish 43 = .ok (.getfield 100, 3) := by decide +kernel
theorem dX10_ofParish_46 : decode cX10_ofParish 46 = .ok (.ireturn, 1) := by decide +kernel
theorem dX10_ofParish_47 : decode cX10_ofParish 47 = .ok (.aload_n 0, 1) := by decide +kernel
theorem dX10_ofParish_48 : decode cX10_ofParish 48 = .ok (.getfield 155, 3) := by decide +kernel
theorem dX10_ofParish_51 : decode cX10_ofParish 51 = .ok (.ireturn, 1) := by decide +kernel
theorem dX10_ofParish_52 : decode cX10_ofParish 52 = .ok (.aload_n 0, 1) := by decide +kernel
theorem dX10_ofParish_53 : decode cX10_ofParish 53 = .ok (.invokevirtual 228, 3) := by decide +kernel
theorem dX10_ofParish_56 : decode cX10_ofParish 56 = .ok (.ireturn, 1) := by decide +kernel
set_option maxRecDepth 20000 in
theorem ggX10_parish_X10_in : GoodIn wsX10_parish wsX10_in := goodIn_r _ [5] (by decide +kernel) (by decide +kernel)
set_option maxRecDepth 20000 in
theorem gX10_parish_X10_in : GoodIn wsX10_parish (va_wsS RX10 73 yX10_in wsX10_in) := goodIn_app (goodIn_of _ (by decide +kernel)) ggX10_parish_X10_in
set_option maxRecDepth 20000 in
theorem ggX10_parish_X10_refusal : GoodIn wsX10_parish wsX10_refusal := goodIn_r _ [9, 10, 11, 12, 13, 4, 14, 15, 16, 17, 18, 19, 20, 21, 22, 23, 24, 25, 26, 27, 28, 29, 30, 31, 32, 33, 34, 35, 36, 37, 38, 39, 40, 41, 42, 43, 44, 2, 3, 5, 45, 46, 47, 48, 49, 50, 51, 52, 53, 54, 55, 56, 57, 58, 59, 60, 61, 62, 63, 64, 65, 66, 67, 68, 69, 70, 71, 72, 73, 74, 75, 76, 77, 78, 79, 80, 81, 82, 83, 84, 85, 86, 87, 88, 89, 90, 91, 92, 93, 94, 95, 96, 97, 98, 99, 100, 101, 102, 103, 104, 105, 106, 107, 108, 109, 110, 111, 112, 113, 114, 131, 132, 133, 134, 135, 136, 137, 138, 139, 140, 141, 142, 143, 144, 145, 146, 147, 148, 149, 150, 151, 152, 153, 154, 155, 156, 157, 158, 159, 160, 161, 162, 163, 164, 165] (by decide +kernel) (by decide +kernel)
set_option maxRecDepth 20000 in
theorem gX10_parish_X10_refusal : GoodIn wsX10_parish (wsV RX10 219 RX10 yX10_refusal wsX10_refusal) := goodIn_app (goodIn_of _ (by decide +kernel)) ggX10_parish_X10_refusal
set_option maxRecDepth 20000 in
theorem ggX10_parish_X10_ofParish : GoodIn wsX10_parish wsX10_ofParish := goodIn_r _ [118, 19, 20, 21, 119, 120, 121, 4, 122, 16, 123, 124, 125, 126, 17, 131, 132, 133, 134, 135, 136, 137, 138, 139, 140, 141, 142, 143, 144, 145, 146, 147, 148, 149, 150, 151, 152, 153, 154, 155, 156, 157, 158, 159, 160, 161, 162, 163, 164, 165] (by decide +kernel) (by decide +kernel)
set_option maxRecDepth 20000 in
theorem gX10_parish_X10_ofParish : GoodIn wsX10_parish (wsV RX10 233 RX10 yX10_ofParish wsX10_ofParish) := goodIn_app (goodIn_of _ (by decide +kernel)) ggX10_parish_X10_ofParish
set_option maxRecDepth 20000 in
theorem ggX10_parish_X10_back : GoodIn wsX10_parish wsX10_back := goodIn_r _ [130, 16, 15, 17, 18, 19, 20, 21, 131, 132, 133, 134, 135, 136, 137, 138, 139, 140, 141, 142, 143, 144, 145, 146, 147, 148, 149, 150, 151, 152, 153, 154, 155, 156, 157, 158, 159, 160, 161, 162, 163, 164, 165] (by decide +kernel) (by decide +kernel)
set_option maxRecDepth 20000 in
theorem gX10_parish_X10_back : GoodIn wsX10_parish (wsV RX10 222 RX10 yX10_back wsX10_back) := goodIn_app (goodIn_of _ (by decide +kernel)) ggX10_parish_X10_back
theorem dX10_parish_0 : decode cX10_parish 0 = .ok (.iload_n 1, 1) := by decide +kernel
theorem dX10_parish_1 : decode cX10_parish 1 = .ok (.i2l, 1) := by decide +kernel
theorem dX10_parish_2 : decode cX10_parish 2 = .ok (.lconst 0, 1) := by decide +kernel
theorem dX10_parish_3 : decode cX10_parish 3 = .ok (.ldc2_w 231, 3) := by decide +kernel
theorem dX10_parish_6 : decode cX10_parish 6 = .ok (.invokestatic 73, 3) := by decide +kernel
theorem dX10_parish_9 : decode cX10_parish 9 = .ok (.ifCond .ne 6, 3) := by decide +kernel
theorem dX10_parish_12 : decode cX10_parish 12 = .ok (.bipush (-2), 2) := by decide +kernel
theorem dX10_parish_14 : decode cX10_parish 14 = .ok (.ireturn, 1) := by decide +kernel
theorem dX10_parish_15 : decode cX10_parish 15 = .ok (.aload_n 0, 1) := by decide +kernel
theorem dX10_parish_16 : decode cX10_parish 16 = .ok (.invokevirtual 219, 3) := by decide +kernel
theorem dX10_parish_19 : decode cX10_parish 19 = .ok (.istore_n 2, 1) := by decide +kernel
theorem dX10_parish_20 : decode cX10_parish 20 = .ok (.aload_n 0, 1) := by decide +kernel
theorem dX10_parish_21 : decode cX10_parish 21 = .ok (.iload_n 2, 1) := by decide +kernel
theorem dX10_parish_22 : decode cX10_parish 22 = .ok (.bipush (-6), 2) := by decide +kernel
theorem dX10_parish_24 : decode cX10_parish 24 = .ok (.if_icmp .eq 7, 3) := by decide +kernel
theorem dX10_parish_27 : decode cX10_parish 27 = .ok (.iload_n 2, 1) := by decide +kernel
theorem dX10_parish_28 : decode cX10_parish 28 = .ok (.goto 8, 3) := by decide +kernel
theorem dX10_parish_31 : decode cX10_parish 31 = .ok (.aload_n 0, 1) := by decide +kernel
theorem dX10_parish_32 : decode cX10_parish 32 = .ok (.iload_n 1, 1) := by decide +kernel
theorem dX10_parish_33 : decode cX10_parish 33 = .ok (.invokevirtual 233, 3) := by decide +kernel
theorem dX10_parish_36 : decode cX10_parish 36 = .ok (.invokevirtual 222, 3) := by decide +kernel
theorem dX10_parish_39 : decode cX10_parish 39 = .ok (.ireturn, 1) := by decide +kernel
set_option maxRecDepth 20000 in
theorem ggX10_first_X10_in : GoodIn wsX10_first wsX10_in := goodIn_r _ [6] (by decide +kernel) (by decide +kernel)
set_option maxRecDepth 20000 in
theorem gX10_first_X10_in : GoodIn wsX10_first (va_wsS RX10 73 yX10_in wsX10_in) := goodIn_app (goodIn_of _ (by decide +kernel)) ggX10_first_X10_in
set_option maxRecDepth 20000 in
theorem ggX10_first_X10_refusal : GoodIn wsX10_first wsX10_refusal := goodIn_r _ [10, 11, 12, 13, 14, 5, 15, 16, 17, 18, 19, 20, 21, 22, 23, 24, 25, 26, 27, 28, 29, 30, 31, 32, 33, 34, 35, 36, 37, 38, 39, 40, 41, 42, 43, 44, 45, 3, 4, 6, 46, 47, 48, 49, 50, 51, 52, 53, 54, 55, 56, 57, 58, 59, 60, 61, 62, 63, 64, 65, 66, 67, 68, 69, 1, 2, 70, 71, 72, 73, 74, 75, 76, 77, 78, 79, 80, 81, 82, 83, 84, 85, 86, 87, 88, 89, 90, 91, 92, 93, 94, 95, 96, 97, 98, 99, 100, 101, 102, 103, 104, 105, 106, 107, 108, 109, 110, 111, 112, 113, 118, 119, 120, 121, 122, 123, 124, 125, 126, 127, 128, 129, 130, 131, 132, 133, 134, 135, 136, 137, 138, 139, 140, 141, 142, 143, 144, 145, 146, 147, 148, 149, 150, 151, 152] (by decide +kernel) (by decide +kernel)
set_option maxRecDepth 20000 in
theorem gX10_first_X10_refusal : GoodIn wsX10_first (wsV RX10 219 RX10 yX10_refusal wsX10_refusal) := goodIn_app (goodIn_of _ (by decide +kernel)) ggX10_first_X10_refusal
set_option maxRecDepth 20000 in
theorem ggX10_first_X10_back : GoodIn wsX10_first wsX10_back := goodIn_r _ [117, 17, 16, 18, 19, 20, 21, 22, 118, 119, 120, 121, 122, 123, 124, 125, 126, 127, 128, 129, 130, 131, 132, 133, 134, 135, 136, 137, 138, 139, 140, 141, 142, 143, 144, 145, 146, 147, 148, 149, 150, 151, 152] (by decide +kernel) (by decide +kernel)
set_option maxRecDepth 20000 in
theorem gX10_first_X10_back : GoodIn wsX10_first (wsV RX10 222 RX10 yX10_back wsX10_back) := goodIn_app (goodIn_of _ (by decide +kernel)) ggX10_first_X10_back
theorem dX10_first_0 : decode cX10_first 0 = .ok (.iload_n 1, 1) := by decide +kernel
theorem dX10_first_1 : decode cX10_first 1 = .ok (.i2l, 1) := by decide +kernel
theorem dX10_first_2 : decode cX10_first 2 = .ok (.lconst 0, 1) := by decide +kernel
theorem dX10_first_3 : decode cX10_first 3 = .ok (.lconst 1, 1) := by decide +kernel
theorem dX10_first_4 : decode cX10_first 4 = .ok (.invokestatic 73, 3) := by decide +kernel
theorem dX10_first_7 : decode cX10_first 7 = .ok (.ifCond .ne 6, 3) := by decide +kernel
theorem dX10_first_10 : decode cX10_first 10 = .ok (.bipush (-2), 2) := by decide +kernel
theorem dX10_first_12 : decode cX10_first 12 = .ok (.ireturn, 1) := by decide +kernel
theorem dX10_first_13 : decode cX10_first 13 = .ok (.aload_n 0, 1) := by decide +kernel
theorem dX10_first_14 : decode cX10_first 14 = .ok (.aload_n 0, 1) := by decide +kernel
theorem dX10_first_15 : decode cX10_first 15 = .ok (.invokevirtual 219, 3) := by decide +kernel
theorem dX10_first_18 : decode cX10_first 18 = .ok (.invokevirtual 222, 3) := by decide +kernel
theorem dX10_first_21 : decode cX10_first 21 = .ok (.istore_n 2, 1) := by decide +kernel
theorem dX10_first_22 : decode cX10_first 22 = .ok (.iload_n 2, 1) := by decide +kernel
theorem dX10_first_23 : decode cX10_first 23 = .ok (.bipush (-6), 2) := by decide +kernel
theorem dX10_first_25 : decode cX10_first 25 = .ok (.if_icmp .eq 7, 3) := by decide +kernel
theorem dX10_first_28 : decode cX10_first 28 = .ok (.iload_n 2, 1) := by decide +kernel
theorem dX10_first_29 : decode cX10_first 29 = .ok (.goto 18, 3) := by decide +kernel
theorem dX10_first_32 : decode cX10_first 32 = .ok (.iload_n 1, 1) := by decide +kernel
theorem dX10_first_33 : decode cX10_first 33 = .ok (.ifCond .ne 10, 3) := by decide +kernel
theorem dX10_first_36 : decode cX10_first 36 = .ok (.aload_n 0, 1) := by decide +kernel
theorem dX10_first_37 : decode cX10_first 37 = .ok (.getfield 189, 3) := by decide +kernel
theorem dX10_first_40 : decode cX10_first 40 = .ok (.goto 7, 3) := by decide +kernel
theorem dX10_first_43 : decode cX10_first 43 = .ok (.aload_n 0, 1) := by decide +kernel
theorem dX10_first_44 : decode cX10_first 44 = .ok (.getfield 192, 3) := by decide +kernel
theorem dX10_first_47 : decode cX10_first 47 = .ok (.ireturn, 1) := by decide +kernel
set_option maxRecDepth 20000 in
theorem ggX10_done_X10_refusal : GoodIn wsX10_done wsX10_refusal := goodIn_r _ [7, 8, 9, 10, 11, 6, 12, 13, 14, 15, 16, 17, 18, 19, 20, 21, 22, 23, 2, 1, 24, 25, 26, 27, 28, 29, 30, 31, 32, 33, 34, 35, 36, 37, 38, 39, 40, 41, 42, 43, 44, 45, 46, 47, 48, 49, 50, 51, 52, 53, 54, 55, 56, 57, 58, 59, 60, 61, 62, 63, 64, 65, 66, 67, 68, 69, 70, 71, 72, 73, 74, 75, 76, 77, 78, 79, 80, 81, 82, 83, 84, 85, 86, 87, 88, 89, 90, 91, 92, 93, 94, 95, 96, 97, 98, 99, 100, 101, 102, 103, 104, 105, 106, 107, 108, 109, 110, 111, 112, 113, 118, 119, 120, 121, 122, 123, 124, 125, 126, 127, 128, 129, 130, 131, 132, 133, 134, 135, 136, 137, 138, 139, 140, 141, 142, 143, 144, 145, 146, 147, 148, 149, 150, 151, 152] (by decide +kernel) (by decide +kernel)
set_option maxRecDepth 20000 in
theorem gX10_done_X10_refusal : GoodIn wsX10_done (wsV RX10 219 RX10 yX10_refusal wsX10_refusal) := goodIn_app (goodIn_of _ (by decide +kernel)) ggX10_done_X10_refusal
set_option maxRecDepth 20000 in
theorem ggX10_done_X10_back : GoodIn wsX10_done wsX10_back := goodIn_r _ [117, 14, 13, 15, 16, 17, 18, 19, 118, 119, 120, 121, 122, 123, 124, 125, 126, 127, 128, 129, 130, 131, 132, 133, 134, 135, 136, 137, 138, 139, 140, 141, 142, 143, 144, 145, 146, 147, 148, 149, 150, 151, 152] (by decide +kernel) (by decide +kernel)
set_option maxRecDepth 20000 in
theorem gX10_done_X10_back : GoodIn wsX10_done (wsV RX10 222 RX10 yX10_back wsX10_back) := goodIn_app (goodIn_of _ (by decide +kernel)) ggX10_done_X10_back
theorem dX10_done_0 : decode cX10_done 0 = .ok (.aload_n 0, 1) := by decide +kernel
theorem dX10_done_1 : decode cX10_done 1 = .ok (.invokevirtual 219, 3) := by decide +kernel
theorem dX10_done_4 : decode cX10_done 4 = .ok (.istore_n 1, 1) := by decide +kernel
theorem dX10_done_5 : decode cX10_done 5 = .ok (.iload_n 1, 1) := by decide +kernel
theorem dX10_done_6 : decode cX10_done 6 = .ok (.bipush (-6), 2) := by decide +kernel
theorem dX10_done_8 : decode cX10_done 8 = .ok (.if_icmp .eq 9, 3) := by decide +kernel
theorem dX10_done_11 : decode cX10_done 11 = .ok (.aload_n 0, 1) := by decide +kernel
theorem dX10_done_12 : decode cX10_done 12 = .ok (.iload_n 1, 1) := by decide +kernel
theorem dX10_done_13 : decode cX10_done 13 = .ok (.invokevirtual 222, 3) := by decide +kernel
theorem dX10_done_16 : decode cX10_done 16 = .ok (.ireturn, 1) := by decide +kernel
theorem dX10_done_17 : decode cX10_done 17 = .ok (.aload_n 0, 1) := by decide +kernel
theorem dX10_done_18 : decode cX10_done 18 = .ok (.iconst 0, 1) := by decide +kernel
theorem dX10_done_19 : decode cX10_done 19 = .ok (.putfield 111, 3) := by decide +kernel
theorem dX10_done_22 : decode cX10_done 22 = .ok (.aload_n 0, 1) := by decide +kernel
theorem dX10_done_23 : decode cX10_done 23 = .ok (.getfield 114, 3) := by decide +kernel
theorem dX10_done_26 : decode cX10_done 26 = .ok (.ireturn, 1) := by decide +kernel
theorem dX10_dueOf_0 : decode cX10_dueOf 0 = .ok (.iconst 0, 1) := by decide +kernel
theorem dX10_dueOf_1 : decode cX10_dueOf 1 = .ok (.istore_n 2, 1) := by decide +kernel
theorem dX10_dueOf_2 : decode cX10_dueOf 2 = .ok (.iconst 0, 1) := by decide +kernel
theorem dX10_dueOf_3 : decode cX10_dueOf 3 = .ok (.istore_n 3, 1) := by decide +kernel
theorem dX10_dueOf_4 : decode cX10_dueOf 4 = .ok (.iload_n 3, 1) := by decide +kernel
theorem dX10_dueOf_5 : decode cX10_dueOf 5 = .ok (.bipush 8, 2) := by decide +kernel
theorem dX10_dueOf_7 : decode cX10_dueOf 7 = .ok (.if_icmp .ge 35, 3) := by decide +kernel
theorem dX10_dueOf_10 : decode cX10_dueOf 10 = .ok (.iload_n 2, 1) := by decide +kernel
theorem dX10_dueOf_11 : decode cX10_dueOf 11 = .ok (.aload_n 0, 1) := by decide +kernel
theorem dX10_dueOf_12 : decode cX10_dueOf 12 = .ok (.getfield 13, 3) := by decide +kernel
theorem dX10_dueOf_15 : decode cX10_dueOf 15 = .ok (.bipush 8, 2) := by decide +kernel
theorem dX10_dueOf_17 : decode cX10_dueOf 17 = .ok (.iload_n 1, 1) := by decide +kernel
theorem dX10_dueOf_18 : decode cX10_dueOf 18 = .ok (.imul, 1) := by decide +kernel
theorem dX10_dueOf_19 : decode cX10_dueOf 19 = .ok (.iload_n 3, 1) := by decide +kernel
theorem dX10_dueOf_20 : decode cX10_dueOf 20 = .ok (.iadd, 1) := by decide +kernel
theorem dX10_dueOf_21 : decode cX10_dueOf 21 = .ok (.iaload, 1) := by decide +kernel
theorem dX10_dueOf_22 : decode cX10_dueOf 22 = .ok (.aload_n 0, 1) := by decide +kernel
theorem dX10_dueOf_23 : decode cX10_dueOf 23 = .ok (.getfield 13, 3) := by decide +kernel
theorem dX10_dueOf_26 : decode cX10_dueOf 26 = .ok (.bipush 8, 2) := by decide +kernel
theorem dX10_dueOf_28 : decode cX10_dueOf 28 = .ok (.iload_n 3, 1) := by decide +kernel
theorem dX10_dueOf_29 : decode cX10_dueOf 29 = .ok (.imul, 1) := by decide +kernel
theorem dX10_dueOf_30 : decode cX10_dueOf 30 = .ok (.iload_n 1, 1) := by decide +kernel
theorem dX10_dueOf_31 : decode cX10_dueOf 31 = .ok (.iadd, 1) := by decide +kernel
theorem dX10_dueOf_32 : decode cX10_dueOf 32 = .ok (.iaload, 1) := by decide +kernel
theorem dX10_dueOf_33 : decode cX10_dueOf 33 = .ok (.isub, 1) := by decide +kernel
theorem dX10_dueOf_34 : decode cX10_dueOf 34 = .ok (.iadd, 1) := by decide +kernel
theorem dX10_dueOf_35 : decode cX10_dueOf 35 = .ok (.istore_n 2, 1) := by decide +kernel
theorem dX10_dueOf_36 : decode cX10_dueOf 36 = .ok (.iinc 3 1, 3) := by decide +kernel
theorem dX10_dueOf_39 : decode cX10_dueOf 39 = .ok (.goto (-35), 3) := by decide +kernel
theorem dX10_dueOf_42 : decode cX10_dueOf 42 = .ok (.iload_n 2, 1) := by decide +kernel
theorem dX10_dueOf_43 : decode cX10_dueOf 43 = .ok (.ireturn, 1) := by decide +kernel
set_option maxRecDepth 20000 in
theorem ggX10_due_X10_isHouse : GoodIn wsX10_due wsX10_isHouse := goodIn_r _ [4, 5, 6, 7, 3, 8] (by decide +kernel) (by decide +kernel)
set_option maxRecDepth 20000 in
theorem gX10_due_X10_isHouse : GoodIn wsX10_due (va_wsS RX10 77 yX10_isHouse wsX10_isHouse) := goodIn_app (goodIn_of _ (by decide +kernel)) ggX10_due_X10_isHouse
set_option maxRecDepth 20000 in
theorem ggX10_due_X10_dueOf : GoodIn wsX10_due wsX10_dueOf := goodIn_r _ [12, 13, 14, 15, 16, 17, 18, 19, 20, 21, 22, 23, 24, 25, 26, 27, 28, 29, 30, 31, 32, 33, 34, 35, 36, 37, 38, 39, 40, 41, 42, 43, 44, 45, 46, 47, 48] (by decide +kernel) (by decide +kernel)
set_option maxRecDepth 20000 in
theorem gX10_due_X10_dueOf : GoodIn wsX10_due (wsV RX10 236 RX10 yX10_dueOf wsX10_dueOf) := goodIn_app (goodIn_of _ (by decide +kernel)) ggX10_due_X10_dueOf
theorem dX10_due_0 : decode cX10_due 0 = .ok (.iload_n 1, 1) := by decide +kernel
theorem dX10_due_1 : decode cX10_due 1 = .ok (.invokestatic 77, 3) := by decide +kernel
theorem dX10_due_4 : decode cX10_due 4 = .ok (.ifCond .eq 15, 3) := by decide +kernel
theorem dX10_due_7 : decode cX10_due 7 = .ok (.sipush 10000, 3) := by decide +kernel
theorem dX10_due_10 : decode cX10_due 10 = .ok (.aload_n 0, 1) := by decide +kernel
theorem dX10_due_11 : decode cX10_due 11 = .ok (.iload_n 1, 1) := by decide +kernel
theorem dX10_due_12 : decode cX10_due 12 = .ok (.invokevirtual 236, 3) := by decide +kernel
theorem dX10_due_15 : decode cX10_due 15 = .ok (.iadd, 1) := by decide +kernel
theorem dX10_due_16 : decode cX10_due 16 = .ok (.goto 4, 3) := by decide +kernel
theorem dX10_due_19 : decode cX10_due 19 = .ok (.iconst (-1), 1) := by decide +kernel
theorem dX10_due_20 : decode cX10_due 20 = .ok (.ireturn, 1) := by decide +kernel
set_option maxRecDepth 20000 in
theorem ggX10_sumOf_X10_has : GoodIn wsX10_sumOf wsX10_has := goodIn_r _ [5] (by decide +kernel) (by decide +kernel)
set_option maxRecDepth 20000 in
theorem gX10_sumOf_X10_has : GoodIn wsX10_sumOf (va_wsS RX10 147 yX10_has wsX10_has) := goodIn_app (goodIn_of _ (by decide +kernel)) ggX10_sumOf_X10_has
theorem dX10_sumOf_0 : decode cX10_sumOf 0 = .ok (.iconst 0, 1) := by decide +kernel
theorem dX10_sumOf_1 : decode cX10_sumOf 1 = .ok (.istore_n 2, 1) := by decide +kernel
theorem dX10_sumOf_2 : decode cX10_sumOf 2 = .ok (.iconst 0, 1) := by decide +kernel
theorem dX10_sumOf_3 : decode cX10_sumOf 3 = .ok (.istore_n 3, 1) := by decide +kernel
theorem dX10_sumOf_4 : decode cX10_sumOf 4 = .ok (.iload_n 3, 1) := by decide +kernel
theorem dX10_sumOf_5 : decode cX10_sumOf 5 = .ok (.bipush 8, 2) := by decide +kernel
theorem dX10_sumOf_7 : decode cX10_sumOf 7 = .ok (.if_icmp .ge 30, 3) := by decide +kernel
theorem dX10_sumOf_10 : decode cX10_sumOf 10 = .ok (.iload_n 2, 1) := by decide +kernel
theorem dX10_sumOf_11 : decode cX10_sumOf 11 = .ok (.iload_n 1, 1) := by decide +kernel
theorem dX10_sumOf_12 : decode cX10_sumOf 12 = .ok (.iload_n 3, 1) := by decide +kernel
theorem dX10_sumOf_13 : decode cX10_sumOf 13 = .ok (.invokestatic 147, 3) := by decide +kernel
theorem dX10_sumOf_16 : decode cX10_sumOf 16 = .ok (.ifCond .eq 12, 3) := by decide +kernel
theorem dX10_sumOf_19 : decode cX10_sumOf 19 = .ok (.aload_n 0, 1) := by decide +kernel
theorem dX10_sumOf_20 : decode cX10_sumOf 20 = .ok (.getfield 49, 3) := by decide +kernel
theorem dX10_sumOf_23 : decode cX10_sumOf 23 = .ok (.iload_n 3, 1) := by decide +kernel
theorem dX10_sumOf_24 : decode cX10_sumOf 24 = .ok (.iaload, 1) := by decide +kernel
theorem dX10_sumOf_25 : decode cX10_sumOf 25 = .ok (.goto 4, 3) := by decide +kernel
theorem dX10_sumOf_28 : decode cX10_sumOf 28 = .ok (.iconst 0, 1) := by decide +kernel
theorem dX10_sumOf_29 : decode cX10_sumOf 29 = .ok (.iadd, 1) := by decide +kernel
theorem dX10_sumOf_30 : decode cX10_sumOf 30 = .ok (.istore_n 2, 1) := by decide +kernel
theorem dX10_sumOf_31 : decode cX10_sumOf 31 = .ok (.iinc 3 1, 3) := by decide +kernel
theorem dX10_sumOf_34 : decode cX10_sumOf 34 = .ok (.goto (-30), 3) := by decide +kernel
theorem dX10_sumOf_37 : decode cX10_sumOf 37 = .ok (.iload_n 2, 1) := by decide +kernel
theorem dX10_sumOf_38 : decode cX10_sumOf 38 = .ok (.ireturn, 1) := by decide +kernel
set_option maxRecDepth 20000 in
theorem ggX10_findGroups_X10_has : GoodIn wsX10_findGroups wsX10_has := goodIn_r _ [5] (by decide +kernel) (by decide +kernel)
set_option maxRecDepth 20000 in
theorem gX10_findGroups_X10_has : GoodIn wsX10_findGroups (va_wsS RX10 147 yX10_has wsX10_has) := goodIn_app (goodIn_of _ (by decide +kernel)) ggX10_findGroups_X10_has
set_option maxRecDepth 20000 in
theorem ggX10_findGroups_X10_sumOf : GoodIn wsX10_findGroups wsX10_sumOf := goodIn_r _ [9, 10, 2, 3, 4, 5, 11, 12, 13, 14, 15, 16, 17, 18, 19, 20, 21, 22, 23, 24, 25, 26, 27, 28, 29, 30, 31, 32, 33, 34, 35, 36, 37, 38, 39, 40, 41, 42, 43, 44, 45] (by decide +kernel) (by decide +kernel)
set_option maxRecDepth 20000 in
theorem gX10_findGroups_X10_sumOf : GoodIn wsX10_findGroups (wsV RX10 239 RX10 yX10_sumOf wsX10_sumOf) := goodIn_app (goodIn_of _ (by decide +kernel)) ggX10_findGroups_X10_sumOf
theorem dX10_findGroups_0 : decode cX10_findGroups 0 = .ok (.iconst 0, 1) := by decide +kernel
theorem dX10_findGroups_1 : decode cX10_findGroups 1 = .ok (.istore_n 1, 1) := by decide +kernel
theorem dX10_findGroups_2 : decode cX10_findGroups 2 = .ok (.iload_n 1, 1) := by decide +kernel
theorem dX10_findGroups_3 : decode cX10_findGroups 3 = .ok (.sipush 256, 3) := by decide +kernel
theorem dX10_findGroups_6 : decode cX10_findGroups 6 = .ok (.if_icmp .ge 89, 3) := by decide +kernel
theorem dX10_findGroups_9 : decode cX10_findGroups 9 = .ok (.iconst 0, 1) := by decide +kernel
theorem dX10_findGroups_10 : decode cX10_findGroups 10 = .ok (.istore_n 2, 1) := by decide +kernel
theorem dX10_findGroups_11 : decode cX10_findGroups 11 = .ok (.iconst 0, 1) := by decide +kernel
theorem dX10_findGroups_12 : decode cX10_findGroups 12 = .ok (.istore_n 3, 1) := by decide +kernel
theorem dX10_findGroups_13 : decode cX10_findGroups 13 = .ok (.iload_n 3, 1) := by decide +kernel
theorem dX10_findGroups_14 : decode cX10_findGroups 14 = .ok (.bipush 8, 2) := by decide +kernel
theorem dX10_findGroups_16 : decode cX10_findGroups 16 = .ok (.if_icmp .ge 48, 3) := by decide +kernel
theorem dX10_findGroups_19 : decode cX10_findGroups 19 = .ok (.iload_n 1, 1) := by decide +kernel
theorem dX10_findGroups_20 : decode cX10_findGroups 20 = .ok (.iload_n 3, 1) := by decide +kernel
theorem dX10_findGroups_21 : decode cX10_findGroups 21 = .ok (.invokestatic 147, 3) := by decide +kernel
theorem dX10_findGroups_24 : decode cX10_findGroups 24 = .ok (.ifCond .eq 18, 3) := by decide +kernel
theorem dX10_findGroups_27 : decode cX10_findGroups 27 = .ok (.aload_n 0, 1) := by decide +kernel
theorem dX10_findGroups_28 : decode cX10_findGroups 28 = .ok (.getfield 52, 3) := by decide +kernel
theorem dX10_findGroups_31 : decode cX10_findGroups 31 = .ok (.iload_n 1, 1) := by decide +kernel
theorem dX10_findGroups_32 : decode cX10_findGroups 32 = .ok (.iconst 1, 1) := by decide +kernel
theorem dX10_findGroups_33 : decode cX10_findGroups 33 = .ok (.iload_n 3, 1) := by decide +kernel
theorem dX10_findGroups_34 : decode cX10_findGroups 34 = .ok (.ishl, 1) := by decide +kernel
theorem dX10_findGroups_35 : decode cX10_findGroups 35 = .ok (.iconst (-1), 1) := by decide +kernel
theorem dX10_findGroups_36 : decode cX10_findGroups 36 = .ok (.ixor, 1) := by decide +kernel
theorem dX10_findGroups_37 : decode cX10_findGroups 37 = .ok (.iand, 1) := by decide +kernel
theorem dX10_findGroups_38 : decode cX10_findGroups 38 = .ok (.iaload, 1) := by decide +kernel
theorem dX10_findGroups_39 : decode cX10_findGroups 39 = .ok (.goto 4, 3) := by decide +kernel
theorem dX10_findGroups_42 : decode cX10_findGroups 42 = .ok (.iconst 0, 1) := by decide +kernel
theorem dX10_findGroups_43 : decode cX10_findGroups 43 = .ok (.istore 4, 2) := by decide +kernel
theorem dX10_findGroups_45 : decode cX10_findGroups 45 = .ok (.iload 4, 2) := by decide +kernel
theorem dX10_findGroups_47 : decode cX10_findGroups 47 = .ok (.iload_n 2, 1) := by decide +kernel
theorem dX10_findGroups_48 : decode cX10_findGroups 48 = .ok (.if_icmp .le 8, 3) := by decide +kernel
theorem dX10_findGroups_51 : decode cX10_findGroups 51 = .ok (.iload 4, 2) := by decide +kernel
theorem dX10_findGroups_53 : decode cX10_findGroups 53 = .ok (.goto 4, 3) := by decide +kernel
theorem dX10_findGroups_56 : decode cX10_findGroups 56 = .ok (.iload_n 2, 1) := by decide +kernel
theorem dX10_findGroups_57 : decode cX10_findGroups 57 = .ok (.istore_n 2, 1) := by decide +kernel
theorem dX10_findGroups_58 : decode cX10_findGroups 58 = .ok (.iinc 3 1, 3) := by decide +kernel
theorem dX10_findGroups_61 : decode cX10_findGroups 61 = .ok (.goto (-48), 3) := by decide +kernel
theorem dX10_findGroups_64 : decode cX10_findGroups 64 = .ok (.aload_n 0, 1) := by decide +kernel
theorem dX10_findGroups_65 : decode cX10_findGroups 65 = .ok (.getfield 52, 3) := by decide +kernel
theorem dX10_findGroups_68 : decode cX10_findGroups 68 = .ok (.iload_n 1, 1) := by decide +kernel
theorem dX10_findGroups_69 : decode cX10_findGroups 69 = .ok (.iload_n 1, 1) := by decide +kernel
theorem dX10_findGroups_70 : decode cX10_findGroups 70 = .ok (.ifCond .le 17, 3) := by decide +kernel
theorem dX10_findGroups_73 : decode cX10_findGroups 73 = .ok (.aload_n 0, 1) := by decide +kernel
theorem dX10_findGroups_74 : decode cX10_findGroups 74 = .ok (.iload_n 1, 1) := by decide +kernel
theorem dX10_findGroups_75 : decode cX10_findGroups 75 = .ok (.invokevirtual 239, 3) := by decide +kernel
theorem dX10_findGroups_78 : decode cX10_findGroups 78 = .ok (.ifCond .ne 9, 3) := by decide +kernel
