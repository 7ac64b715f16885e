theorem dX5_dueOf_2 : decode cX5_dueOf 2 = .ok (.iconst 0, 1) := by decide +kernel
theorem dX5_dueOf_3 : decode cX5_dueOf 3 = .ok (.istore_n 3, 1) := by decide +kernel
theorem dX5_dueOf_4 : decode cX5_dueOf 4 = .ok (.iload_n 3, 1) := by decide +kernel
theorem dX5_dueOf_5 : decode cX5_dueOf 5 = .ok (.bipush 8, 2) := by decide +kernel
theorem dX5_dueOf_7 : decode cX5_dueOf 7 = .ok (.if_icmp .ge 35, 3) := by decide +kernel
theorem dX5_dueOf_10 : decode cX5_dueOf 10 = .ok (.iload_n 2, 1) := by decide +kernel
theorem dX5_dueOf_11 : decode cX5_dueOf 11 = .ok (.aload_n 0, 1) := by decide +kernel
theorem dX5_dueOf_12 : decode cX5_dueOf 12 = .ok (.getfield 15, 3) := by decide +kernel
theorem dX5_dueOf_15 : decode cX5_dueOf 15 = .ok (.iload_n 1, 1) := by decide +kernel
theorem dX5_dueOf_16 : decode cX5_dueOf 16 = .ok (.bipush 8, 2) := by decide +kernel
theorem dX5_dueOf_18 : decode cX5_dueOf 18 = .ok (.imul, 1) := by decide +kernel
theorem dX5_dueOf_19 : decode cX5_dueOf 19 = .ok (.iload_n 3, 1) := by decide +kernel
theorem dX5_dueOf_20 : decode cX5_dueOf 20 = .ok (.iadd, 1) := by decide +kernel
theorem dX5_dueOf_21 : decode cX5_dueOf 21 = .ok (.iaload, 1) := by decide +kernel
theorem dX5_dueOf_22 : decode cX5_dueOf 22 = .ok (.aload_n 0, 1) := by decide +kernel
theorem dX5_dueOf_23 : decode cX5_dueOf 23 = .ok (.getfield 15, 3) := by decide +kernel
theorem dX5_dueOf_26 : decode cX5_dueOf 26 = .ok (.iload_n 3, 1) := by decide +kernel
theorem dX5_dueOf_27 : decode cX5_dueOf 27 = .ok (.bipush 8, 2) := by decide +kernel
theorem dX5_dueOf_29 : decode cX5_dueOf 29 = .ok (.imul, 1) := by decide +kernel
theorem dX5_dueOf_30 : decode cX5_dueOf 30 = .ok (.iload_n 1, 1) := by decide +kernel
theorem dX5_dueOf_31 : decode cX5_dueOf 31 = .ok (.iadd, 1) := by decide +kernel
theorem dX5_dueOf_32 : decode cX5_dueOf 32 = .ok (.iaload, 1) := by decide +kernel
theorem dX5_dueOf_33 : decode cX5_dueOf 33 = .ok (.isub, 1) := by decide +kernel
theorem dX5_dueOf_34 : decode cX5_dueOf 34 = .ok (.iadd, 1) := by decide +kernel
theorem dX5_dueOf_35 : decode cX5_dueOf 35 = .ok (.istore_n 2, 1) := by decide +kernel
theorem dX5_dueOf_36 : decode cX5_dueOf 36 = .ok (.iinc 3 1, 3) := by decide +kernel
theorem dX5_dueOf_39 : decode cX5_dueOf 39 = .ok (.goto (-35), 3) := by decide +kernel
theorem dX5_dueOf_42 : decode cX5_dueOf 42 = .ok (.iload_n 2, 1) := by decide +kernel
theorem dX5_dueOf_43 : decode cX5_dueOf 43 = .ok (.ireturn, 1) := by decide +kernel
set_option maxRecDepth 20000 in
theorem ggX5_reasonAgainst_X5_isIn : GoodIn wsX5_reasonAgainst wsX5_isIn := goodIn_r _ [6, 7, 17, 18, 19, 20, 21, 22] (by decide +kernel) (by decide +kernel)
set_option maxRecDepth 20000 in
theorem gX5_reasonAgainst_X5_isIn : GoodIn wsX5_reasonAgainst (wsV RX5 41 RX5 yX5_isIn wsX5_isIn) := goodIn_app (goodIn_of _ (by decide +kernel)) ggX5_reasonAgainst_X5_isIn
set_option maxRecDepth 20000 in
theorem ggX5_reasonAgainst_X5_reasonAgainstGift : GoodIn wsX5_reasonAgainst wsX5_reasonAgainstGift := goodIn_r _ [11, 2, 3, 4, 5, 6, 7, 12, 13, 14, 15, 16, 17, 18, 19, 20, 21, 22] (by decide +kernel) (by decide +kernel)
set_option maxRecDepth 20000 in
theorem gX5_reasonAgainst_X5_reasonAgainstGift : GoodIn wsX5_reasonAgainst (wsV RX5 45 RX5 yX5_reasonAgainstGift wsX5_reasonAgainstGift) := goodIn_app (goodIn_of _ (by decide +kernel)) ggX5_reasonAgainst_X5_reasonAgainstGift
theorem dX5_reasonAgainst_0 : decode cX5_reasonAgainst 0 = .ok (.iload_n 1, 1) := by decide +kernel
theorem dX5_reasonAgainst_1 : decode cX5_reasonAgainst 1 = .ok (.tableswitch 79 0 3 #[31, 45, 59, 68], 31) := by decide +kernel
theorem dX5_reasonAgainst_32 : decode cX5_reasonAgainst 32 = .ok (.aload_n 0, 1) := by decide +kernel
theorem dX5_reasonAgainst_33 : decode cX5_reasonAgainst 33 = .ok (.iload_n 2, 1) := by decide +kernel
theorem dX5_reasonAgainst_34 : decode cX5_reasonAgainst 34 = .ok (.invokevirtual 41, 3) := by decide +kernel
theorem dX5_reasonAgainst_37 : decode cX5_reasonAgainst 37 = .ok (.ifCond .eq 7, 3) := by decide +kernel
theorem dX5_reasonAgainst_40 : decode cX5_reasonAgainst 40 = .ok (.iconst 1, 1) := by decide +kernel
theorem dX5_reasonAgainst_41 : decode cX5_reasonAgainst 41 = .ok (.goto 4, 3) := by decide +kernel
theorem dX5_reasonAgainst_44 : decode cX5_reasonAgainst 44 = .ok (.iconst 0, 1) := by decide +kernel
theorem dX5_reasonAgainst_45 : decode cX5_reasonAgainst 45 = .ok (.ireturn, 1) := by decide +kernel
theorem dX5_reasonAgainst_46 : decode cX5_reasonAgainst 46 = .ok (.aload_n 0, 1) := by decide +kernel
theorem dX5_reasonAgainst_47 : decode cX5_reasonAgainst 47 = .ok (.iload_n 2, 1) := by decide +kernel
theorem dX5_reasonAgainst_48 : decode cX5_reasonAgainst 48 = .ok (.invokevirtual 41, 3) := by decide +kernel
theorem dX5_reasonAgainst_51 : decode cX5_reasonAgainst 51 = .ok (.ifCond .eq 7, 3) := by decide +kernel
theorem dX5_reasonAgainst_54 : decode cX5_reasonAgainst 54 = .ok (.iconst 0, 1) := by decide +kernel
theorem dX5_reasonAgainst_55 : decode cX5_reasonAgainst 55 = .ok (.goto 4, 3) := by decide +kernel
theorem dX5_reasonAgainst_58 : decode cX5_reasonAgainst 58 = .ok (.iconst 1, 1) := by decide +kernel
theorem dX5_reasonAgainst_59 : decode cX5_reasonAgainst 59 = .ok (.ireturn, 1) := by decide +kernel
theorem dX5_reasonAgainst_60 : decode cX5_reasonAgainst 60 = .ok (.aload_n 0, 1) := by decide +kernel
theorem dX5_reasonAgainst_61 : decode cX5_reasonAgainst 61 = .ok (.iload_n 2, 1) := by decide +kernel
theorem dX5_reasonAgainst_62 : decode cX5_reasonAgainst 62 = .ok (.iload_n 3, 1) := by decide +kernel
theorem dX5_reasonAgainst_63 : decode cX5_reasonAgainst 63 = .ok (.iload 4, 2) := by decide +kernel
theorem dX5_reasonAgainst_65 : decode cX5_reasonAgainst 65 = .ok (.invokevirtual 45, 3) := by decide +kernel
theorem dX5_reasonAgainst_68 : decode cX5_reasonAgainst 68 = .ok (.ireturn, 1) := by decide +kernel
theorem dX5_reasonAgainst_69 : decode cX5_reasonAgainst 69 = .ok (.iload_n 2, 1) := by decide +kernel
theorem dX5_reasonAgainst_70 : decode cX5_reasonAgainst 70 = .ok (.iload_n 3, 1) := by decide +kernel
theorem dX5_reasonAgainst_71 : decode cX5_reasonAgainst 71 = .ok (.if_icmp .ne 7, 3) := by decide +kernel
theorem dX5_reasonAgainst_74 : decode cX5_reasonAgainst 74 = .ok (.iconst 2, 1) := by decide +kernel
theorem dX5_reasonAgainst_75 : decode cX5_reasonAgainst 75 = .ok (.goto 4, 3) := by decide +kernel
theorem dX5_reasonAgainst_78 : decode cX5_reasonAgainst 78 = .ok (.iconst 0, 1) := by decide +kernel
theorem dX5_reasonAgainst_79 : decode cX5_reasonAgainst 79 = .ok (.ireturn, 1) := by decide +kernel
theorem dX5_reasonAgainst_80 : decode cX5_reasonAgainst 80 = .ok (.aload_n 0, 1) := by decide +kernel
theorem dX5_reasonAgainst_81 : decode cX5_reasonAgainst 81 = .ok (.getfield 34, 3) := by decide +kernel
theorem dX5_reasonAgainst_84 : decode cX5_reasonAgainst 84 = .ok (.bipush 99, 2) := by decide +kernel
theorem dX5_reasonAgainst_86 : decode cX5_reasonAgainst 86 = .ok (.if_icmp .lt 7, 3) := by decide +kernel
theorem dX5_reasonAgainst_89 : decode cX5_reasonAgainst 89 = .ok (.iconst 5, 1) := by decide +kernel
theorem dX5_reasonAgainst_90 : decode cX5_reasonAgainst 90 = .ok (.goto 4, 3) := by decide +kernel
theorem dX5_reasonAgainst_93 : decode cX5_reasonAgainst 93 = .ok (.iconst 0, 1) := by decide +kernel
theorem dX5_reasonAgainst_94 : decode cX5_reasonAgainst 94 = .ok (.ireturn, 1) := by decide +kernel
set_option maxRecDepth 20000 in
theorem ggX5_reasonAgainstGift_X5_isIn : GoodIn wsX5_reasonAgainstGift wsX5_isIn := goodIn_r _ [5, 6, 12, 13, 14, 15, 16, 17] (by decide +kernel) (by decide +kernel)
set_option maxRecDepth 20000 in
theorem gX5_reasonAgainstGift_X5_isIn : GoodIn wsX5_reasonAgainstGift (wsV RX5 41 RX5 yX5_isIn wsX5_isIn) := goodIn_app (goodIn_of _ (by decide +kernel)) ggX5_reasonAgainstGift_X5_isIn
set_option maxRecDepth 20000 in
theorem ggX5_reasonAgainstGift_X5_wealthOf : GoodIn wsX5_reasonAgainstGift wsX5_wealthOf := goodIn_r _ [10, 11, 12, 13, 14, 15, 16, 17] (by decide +kernel) (by decide +kernel)
set_option maxRecDepth 20000 in
theorem gX5_reasonAgainstGift_X5_wealthOf : GoodIn wsX5_reasonAgainstGift (wsV RX5 37 RX5 yX5_wealthOf wsX5_wealthOf) := goodIn_app (goodIn_of _ (by decide +kernel)) ggX5_reasonAgainstGift_X5_wealthOf
theorem dX5_reasonAgainstGift_0 : decode cX5_reasonAgainstGift 0 = .ok (.iload_n 1, 1) := by decide +kernel
theorem dX5_reasonAgainstGift_1 : decode cX5_reasonAgainstGift 1 = .ok (.iload_n 2, 1) := by decide +kernel
theorem dX5_reasonAgainstGift_2 : decode cX5_reasonAgainstGift 2 = .ok (.if_icmp .ne 5, 3) := by decide +kernel
theorem dX5_reasonAgainstGift_5 : decode cX5_reasonAgainstGift 5 = .ok (.iconst 2, 1) := by decide +kernel
theorem dX5_reasonAgainstGift_6 : decode cX5_reasonAgainstGift 6 = .ok (.ireturn, 1) := by decide +kernel
theorem dX5_reasonAgainstGift_7 : decode cX5_reasonAgainstGift 7 = .ok (.aload_n 0, 1) := by decide +kernel
theorem dX5_reasonAgainstGift_8 : decode cX5_reasonAgainstGift 8 = .ok (.iload_n 1, 1) := by decide +kernel
theorem dX5_reasonAgainstGift_9 : decode cX5_reasonAgainstGift 9 = .ok (.invokevirtual 41, 3) := by decide +kernel
theorem dX5_reasonAgainstGift_12 : decode cX5_reasonAgainstGift 12 = .ok (.ifCond .ne 11, 3) := by decide +kernel
theorem dX5_reasonAgainstGift_15 : decode cX5_reasonAgainstGift 15 = .ok (.aload_n 0, 1) := by decide +kernel
theorem dX5_reasonAgainstGift_16 : decode cX5_reasonAgainstGift 16 = .ok (.iload_n 2, 1) := by decide +kernel
theorem dX5_reasonAgainstGift_17 : decode cX5_reasonAgainstGift 17 = .ok (.invokevirtual 41, 3) := by decide +kernel
theorem dX5_reasonAgainstGift_20 : decode cX5_reasonAgainstGift 20 = .ok (.ifCond .ne 5, 3) := by decide +kernel
theorem dX5_reasonAgainstGift_23 : decode cX5_reasonAgainstGift 23 = .ok (.iconst 3, 1) := by decide +kernel
theorem dX5_reasonAgainstGift_24 : decode cX5_reasonAgainstGift 24 = .ok (.ireturn, 1) := by decide +kernel
theorem dX5_reasonAgainstGift_25 : decode cX5_reasonAgainstGift 25 = .ok (.aload_n 0, 1) := by decide +kernel
theorem dX5_reasonAgainstGift_26 : decode cX5_reasonAgainstGift 26 = .ok (.iload_n 1, 1) := by decide +kernel
theorem dX5_reasonAgainstGift_27 : decode cX5_reasonAgainstGift 27 = .ok (.invokevirtual 37, 3) := by decide +kernel
theorem dX5_reasonAgainstGift_30 : decode cX5_reasonAgainstGift 30 = .ok (.iload_n 3, 1) := by decide +kernel
theorem dX5_reasonAgainstGift_31 : decode cX5_reasonAgainstGift 31 = .ok (.if_icmp .ge 7, 3) := by decide +kernel
theorem dX5_reasonAgainstGift_34 : decode cX5_reasonAgainstGift 34 = .ok (.iconst 4, 1) := by decide +kernel
theorem dX5_reasonAgainstGift_35 : decode cX5_reasonAgainstGift 35 = .ok (.goto 4, 3) := by decide +kernel
theorem dX5_reasonAgainstGift_38 : decode cX5_reasonAgainstGift 38 = .ok (.iconst 0, 1) := by decide +kernel
theorem dX5_reasonAgainstGift_39 : decode cX5_reasonAgainstGift 39 = .ok (.ireturn, 1) := by decide +kernel
set_option maxRecDepth 20000 in
theorem ggX5_perform_X5_setIn : GoodIn wsX5_perform wsX5_setIn := goodIn_r _ [5, 6, 32, 33, 34, 35, 36, 37] (by decide +kernel) (by decide +kernel)
set_option maxRecDepth 20000 in
theorem gX5_perform_X5_setIn : GoodIn wsX5_perform (wsV RX5 49 RX5 yX5_setIn wsX5_setIn) := goodIn_app (goodIn_of _ (by decide +kernel)) ggX5_perform_X5_setIn
set_option maxRecDepth 20000 in
theorem ggX5_perform_X5_hand : GoodIn wsX5_perform wsX5_hand := goodIn_r _ [10, 11, 12, 13, 14, 15, 16, 32, 33, 34, 35, 36, 37] (by decide +kernel) (by decide +kernel)
set_option maxRecDepth 20000 in
theorem gX5_perform_X5_hand : GoodIn wsX5_perform (wsV RX5 53 RX5 yX5_hand wsX5_hand) := goodIn_app (goodIn_of _ (by decide +kernel)) ggX5_perform_X5_hand
set_option maxRecDepth 20000 in
theorem ggX5_perform_X5_changePlaces : GoodIn wsX5_perform wsX5_changePlaces := goodIn_r _ [20, 21, 32, 33, 34, 35, 36, 37] (by decide +kernel) (by decide +kernel)
set_option maxRecDepth 20000 in
theorem gX5_perform_X5_changePlaces : GoodIn wsX5_perform (wsV RX5 57 RX5 yX5_changePlaces wsX5_changePlaces) := goodIn_app (goodIn_of _ (by decide +kernel)) ggX5_perform_X5_changePlaces
set_option maxRecDepth 20000 in
theorem ggX5_perform_X5_passYear : GoodIn wsX5_perform wsX5_passYear := goodIn_r _ [25, 6, 26, 27, 28, 29, 30, 4, 31, 21, 32, 33, 34, 35, 36, 37] (by decide +kernel) (by decide +kernel)
set_option maxRecDepth 20000 in
theorem gX5_perform_X5_passYear : GoodIn wsX5_perform (wsV RX5 61 RX5 yX5_passYear wsX5_passYear) := goodIn_app (goodIn_of _ (by decide +kernel)) ggX5_perform_X5_passYear
theorem dX5_perform_0 : decode cX5_perform 0 = .ok (.iload_n 1, 1) := by decide +kernel
theorem dX5_perform_1 : decode cX5_perform 1 = .ok (.tableswitch 69 0 3 #[31, 40, 49, 60], 31) := by decide +kernel
theorem dX5_perform_32 : decode cX5_perform 32 = .ok (.aload_n 0, 1) := by decide +kernel
theorem dX5_perform_33 : decode cX5_perform 33 = .ok (.iload_n 2, 1) := by decide +kernel
theorem dX5_perform_34 : decode cX5_perform 34 = .ok (.iconst 1, 1) := by decide +kernel
theorem dX5_perform_35 : decode cX5_perform 35 = .ok (.invokevirtual 49, 3) := by decide +kernel
theorem dX5_perform_38 : decode cX5_perform 38 = .ok (.goto 36, 3) := by decide +kernel
theorem dX5_perform_41 : decode cX5_perform 41 = .ok (.aload_n 0, 1) := by decide +kernel
theorem dX5_perform_42 : decode cX5_perform 42 = .ok (.iload_n 2, 1) := by decide +kernel
theorem dX5_perform_43 : decode cX5_perform 43 = .ok (.iconst 0, 1) := by decide +kernel
theorem dX5_perform_44 : decode cX5_perform 44 = .ok (.invokevirtual 49, 3) := by decide +kernel
theorem dX5_perform_47 : decode cX5_perform 47 = .ok (.goto 27, 3) := by decide +kernel
theorem dX5_perform_50 : decode cX5_perform 50 = .ok (.aload_n 0, 1) := by decide +kernel
theorem dX5_perform_51 : decode cX5_perform 51 = .ok (.iload_n 2, 1) := by decide +kernel
theorem dX5_perform_52 : decode cX5_perform 52 = .ok (.iload_n 3, 1) := by decide +kernel
theorem dX5_perform_53 : decode cX5_perform 53 = .ok (.iload 4, 2) := by decide +kernel
theorem dX5_perform_55 : decode cX5_perform 55 = .ok (.invokevirtual 53, 3) := by decide +kernel
theorem dX5_perform_58 : decode cX5_perform 58 = .ok (.goto 16, 3) := by decide +kernel
theorem dX5_perform_61 : decode cX5_perform 61 = .ok (.aload_n 0, 1) := by decide +kernel
theorem dX5_perform_62 : decode cX5_perform 62 = .ok (.iload_n 2, 1) := by decide +kernel
theorem dX5_perform_63 : decode cX5_perform 63 = .ok (.iload_n 3, 1) := by decide +kernel
theorem dX5_perform_64 : decode cX5_perform 64 = .ok (.invokevirtual 57, 3) := by decide +kernel
theorem dX5_perform_67 : decode cX5_perform 67 = .ok (.goto 7, 3) := by decide +kernel
theorem dX5_perform_70 : decode cX5_perform 70 = .ok (.aload_n 0, 1) := by decide +kernel
theorem dX5_perform_71 : decode cX5_perform 71 = .ok (.invokevirtual 61, 3) := by decide +kernel
theorem dX5_perform_74 : decode cX5_perform 74 = .ok (.return_, 1) := by decide +kernel
theorem dX5_hand_0 : decode cX5_hand 0 = .ok (.iload_n 1, 1) := by decide +kernel
theorem dX5_hand_1 : decode cX5_hand 1 = .ok (.ifCond .lt 19, 3) := by decide +kernel
theorem dX5_hand_4 : decode cX5_hand 4 = .ok (.iload_n 1, 1) := by decide +kernel
theorem dX5_hand_5 : decode cX5_hand 5 = .ok (.bipush 8, 2) := by decide +kernel
theorem dX5_hand_7 : decode cX5_hand 7 = .ok (.if_icmp .ge 13, 3) := by decide +kernel
theorem dX5_hand_10 : decode cX5_hand 10 = .ok (.iload_n 2, 1) := by decide +kernel
theorem dX5_hand_11 : decode cX5_hand 11 = .ok (.ifCond .lt 9, 3) := by decide +kernel
theorem dX5_hand_14 : decode cX5_hand 14 = .ok (.iload_n 2, 1) := by decide +kernel
theorem dX5_hand_15 : decode cX5_hand 15 = .ok (.bipush 8, 2) := by decide +kernel
theorem dX5_hand_17 : decode cX5_hand 17 = .ok (.if_icmp .lt 4, 3) := by decide +kernel
theorem dX5_hand_20 : decode cX5_hand 20 = .ok (.return_, 1) := by decide +kernel
theorem dX5_hand_21 : decode cX5_hand 21 = .ok (.aload_n 0, 1) := by decide +kernel
theorem dX5_hand_22 : decode cX5_hand 22 = .ok (.getfield 9, 3) := by decide +kernel
theorem dX5_hand_25 : decode cX5_hand 25 = .ok (.iload_n 1, 1) := by decide +kernel
theorem dX5_hand_26 : decode cX5_hand 26 = .ok (.dup2, 1) := by decide +kernel
theorem dX5_hand_27 : decode cX5_hand 27 = .ok (.iaload, 1) := by decide +kernel
theorem dX5_hand_28 : decode cX5_hand 28 = .ok (.iload_n 3, 1) := by decide +kernel
theorem dX5_hand_29 : decode cX5_hand 29 = .ok (.isub, 1) := by decide +kernel
theorem dX5_hand_30 : decode cX5_hand 30 = .ok (.iastore, 1) := by decide +kernel
theorem dX5_hand_31 : decode cX5_hand 31 = .ok (.aload_n 0, 1) := by decide +kernel
theorem dX5_hand_32 : decode cX5_hand 32 = .ok (.getfield 9, 3) := by decide +kernel
theorem dX5_hand_35 : decode cX5_hand 35 = .ok (.iload_n 2, 1) := by decide +kernel
theorem dX5_hand_36 : decode cX5_hand 36 = .ok (.aload_n 0, 1) := by decide +kernel
theorem dX5_hand_37 : decode cX5_hand 37 = .ok (.getfield 9, 3) := by decide +kernel
theorem dX5_hand_40 : decode cX5_hand 40 = .ok (.iload_n 2, 1) := by decide +kernel
theorem dX5_hand_41 : decode cX5_hand 41 = .ok (.iaload, 1) := by decide +kernel
theorem dX5_hand_42 : decode cX5_hand 42 = .ok (.iload_n 3, 1) := by decide +kernel
theorem dX5_hand_43 : decode cX5_hand 43 = .ok (.iadd, 1) := by decide +kernel
theorem dX5_hand_44 : decode cX5_hand 44 = .ok (.sipush 999, 3) := by decide +kernel
theorem dX5_hand_47 : decode cX5_hand 47 = .ok (.invokestatic 64, 3) := by decide +kernel
theorem dX5_hand_50 : decode cX5_hand 50 = .ok (.iastore, 1) := by decide +kernel
theorem dX5_hand_51 : decode cX5_hand 51 = .ok (.iload_n 1, 1) := by decide +kernel
theorem dX5_hand_52 : decode cX5_hand 52 = .ok (.bipush 8, 2) := by decide +kernel
theorem dX5_hand_54 : decode cX5_hand 54 = .ok (.imul, 1) := by decide +kernel
theorem dX5_hand_55 : decode cX5_hand 55 = .ok (.iload_n 2, 1) := by decide +kernel
theorem dX5_hand_56 : decode cX5_hand 56 = .ok (.iadd, 1) := by decide +kernel
theorem dX5_hand_57 : decode cX5_hand 57 = .ok (.istore 4, 2) := by decide +kernel
theorem dX5_hand_59 : decode cX5_hand 59 = .ok (.aload_n 0, 1) := by decide +kernel
theorem dX5_hand_60 : decode cX5_hand 60 = .ok (.getfield 15, 3) := by decide +kernel
theorem dX5_hand_63 : decode cX5_hand 63 = .ok (.iload 4, 2) := by decide +kernel
theorem dX5_hand_65 : decode cX5_hand 65 = .ok (.aload_n 0, 1) := by decide +kernel
theorem dX5_hand_66 : decode cX5_hand 66 = .ok (.getfield 15, 3) := by decide +kernel
theorem dX5_hand_69 : decode cX5_hand 69 = .ok (.iload 4, 2) := by decide +kernel
theorem dX5_hand_71 : decode cX5_hand 71 = .ok (.iaload, 1) := by decide +kernel
theorem dX5_hand_72 : decode cX5_hand 72 = .ok (.iload_n 3, 1) := by decide +kernel
theorem dX5_hand_73 : decode cX5_hand 73 = .ok (.iadd, 1) := by decide +kernel
theorem dX5_hand_74 : decode cX5_hand 74 = .ok (.sipush 999, 3) := by decide +kernel
theorem dX5_hand_77 : decode cX5_hand 77 = .ok (.invokestatic 64, 3) := by decide +kernel
theorem dX5_hand_80 : decode cX5_hand 80 = .ok (.iastore, 1) := by decide +kernel
theorem dX5_hand_81 : decode cX5_hand 81 = .ok (.return_, 1) := by decide +kernel
theorem dX5_changePlaces_0 : decode cX5_changePlaces 0 = .ok (.iconst 0, 1) := by decide +kernel
theorem dX5_changePlaces_1 : decode cX5_changePlaces 1 = .ok (.istore_n 3, 1) := by decide +kernel
theorem dX5_changePlaces_2 : decode cX5_changePlaces 2 = .ok (.iload_n 3, 1) := by decide +kernel
theorem dX5_changePlaces_3 : decode cX5_changePlaces 3 = .ok (.bipush 8, 2) := by decide +kernel
theorem dX5_changePlaces_5 : decode cX5_changePlaces 5 = .ok (.if_icmp .ge 46, 3) := by decide +kernel
theorem dX5_changePlaces_8 : decode cX5_changePlaces 8 = .ok (.aload_n 0, 1) := by decide +kernel
theorem dX5_changePlaces_9 : decode cX5_changePlaces 9 = .ok (.getfield 18, 3) := by decide +kernel
theorem dX5_changePlaces_12 : decode cX5_changePlaces 12 = .ok (.iload_n 3, 1) := by decide +kernel
theorem dX5_changePlaces_13 : decode cX5_changePlaces 13 = .ok (.iaload, 1) := by decide +kernel
theorem dX5_changePlaces_14 : decode cX5_changePlaces 14 = .ok (.iload_n 1, 1) := by decide +kernel
theorem dX5_changePlaces_15 : decode cX5_changePlaces 15 = .ok (.if_icmp .ne 13, 3) := by decide +kernel
theorem dX5_changePlaces_18 : decode cX5_changePlaces 18 = .ok (.aload_n 0, 1) := by decide +kernel
theorem dX5_changePlaces_19 : decode cX5_changePlaces 19 = .ok (.getfield 18, 3) := by decide +kernel
theorem dX5_changePlaces_22 : decode cX5_changePlaces 22 = .ok (.iload_n 3, 1) := by decide +kernel
theorem dX5_changePlaces_23 : decode cX5_changePlaces 23 = .ok (.iload_n 2, 1) := by decide +kernel
theorem dX5_changePlaces_24 : decode cX5_changePlaces 24 = .ok (.iastore, 1) := by decide +kernel
theorem dX5_changePlaces_25 : decode cX5_changePlaces 25 = .ok (.goto 20, 3) := by decide +kernel
theorem dX5_changePlaces_28 : decode cX5_changePlaces 28 = .ok (.aload_n 0, 1) := by decide +kernel
theorem dX5_changePlaces_29 : decode cX5_changePlaces 29 = .ok (.getfield 18, 3) := by decide +kernel
theorem dX5_changePlaces_32 : decode cX5_changePlaces 32 = .ok (.iload_n 3, 1) := by decide +kernel
theorem dX5_changePlaces_33 : decode cX5_changePlaces 33 = .ok (.iaload, 1) := by decide +kernel
theorem dX5_changePlaces_34 : decode cX5_changePlaces 34 = .ok (.iload_n 2, 1) := by decide +kernel
theorem dX5_changePlaces_35 : decode cX5_changePlaces 35 = .ok (.if_icmp .ne 10, 3) := by decide +kernel
theorem dX5_changePlaces_38 : decode cX5_changePlaces 38 = .ok (.aload_n 0, 1) := by decide +kernel
theorem dX5_changePlaces_39 : decode cX5_changePlaces 39 = .ok (.getfield 18, 3) := by decide +kernel
theorem dX5_changePlaces_42 : decode cX5_changePlaces 42 = .ok (.iload_n 3, 1) := by decide +kernel
theorem dX5_changePlaces_43 : decode cX5_changePlaces 43 = .ok (.iload_n 1, 1) := by decide +kernel
theorem dX5_changePlaces_44 : decode cX5_changePlaces 44 = .ok (.iastore, 1) := by decide +kernel
theorem dX5_changePlaces_45 : decode cX5_changePlaces 45 = .ok (.iinc 3 1, 3) := by decide +kernel
theorem dX5_changePlaces_48 : decode cX5_changePlaces 48 = .ok (.goto (-46), 3) := by decide +kernel
theorem dX5_changePlaces_51 : decode cX5_changePlaces 51 = .ok (.return_, 1) := by decide +kernel
set_option maxRecDepth 20000 in
theorem ggX5_passYear_X5_houseAtNext : GoodIn wsX5_passYear wsX5_houseAtNext := goodIn_r _ [8, 2, 9, 10, 11, 12, 13, 14, 15] (by decide +kernel) (by decide +kernel)
set_option maxRecDepth 20000 in
theorem gX5_passYear_X5_houseAtNext : GoodIn wsX5_passYear (wsV RX5 70 RX5 yX5_houseAtNext wsX5_houseAtNext) := goodIn_app (goodIn_of _ (by decide +kernel)) ggX5_passYear_X5_houseAtNext
theorem dX5_passYear_0 : decode cX5_passYear 0 = .ok (.aload_n 0, 1) := by decide +kernel
theorem dX5_passYear_1 : decode cX5_passYear 1 = .ok (.iconst 1, 1) := by decide +kernel
theorem dX5_passYear_2 : decode cX5_passYear 2 = .ok (.aload_n 0, 1) := by decide +kernel
theorem dX5_passYear_3 : decode cX5_passYear 3 = .ok (.invokevirtual 70, 3) := by decide +kernel
theorem dX5_passYear_6 : decode cX5_passYear 6 = .ok (.ishl, 1) := by decide +kernel
theorem dX5_passYear_7 : decode cX5_passYear 7 = .ok (.putfield 27, 3) := by decide +kernel
theorem dX5_passYear_10 : decode cX5_passYear 10 = .ok (.aload_n 0, 1) := by decide +kernel
theorem dX5_passYear_11 : decode cX5_passYear 11 = .ok (.aload_n 0, 1) := by decide +kernel
theorem dX5_passYear_12 : decode cX5_passYear 12 = .ok (.getfield 31, 3) := by decide +kernel
theorem dX5_passYear_15 : decode cX5_passYear 15 = .ok (.iconst 1, 1) := by decide +kernel
theorem dX5_passYear_16 : decode cX5_passYear 16 = .ok (.iadd, 1) := by decide +kernel
theorem dX5_passYear_17 : decode cX5_passYear 17 = .ok (.bipush 8, 2) := by decide +kernel
theorem dX5_passYear_19 : decode cX5_passYear 19 = .ok (.irem, 1) := by decide +kernel
theorem dX5_passYear_20 : decode cX5_passYear 20 = .ok (.putfield 31, 3) := by decide +kernel
theorem dX5_passYear_23 : decode cX5_passYear 23 = .ok (.aload_n 0, 1) := by decide +kernel
theorem dX5_passYear_24 : decode cX5_passYear 24 = .ok (.dup, 1) := by decide +kernel
theorem dX5_passYear_25 : decode cX5_passYear 25 = .ok (.getfield 34, 3) := by decide +kernel
theorem dX5_passYear_28 : decode cX5_passYear 28 = .ok (.iconst 1, 1) := by decide +kernel
theorem dX5_passYear_29 : decode cX5_passYear 29 = .ok (.iadd, 1) := by decide +kernel
theorem dX5_passYear_30 : decode cX5_passYear 30 = .ok (.putfield 34, 3) := by decide +kernel
theorem dX5_passYear_33 : decode cX5_passYear 33 = .ok (.return_, 1) := by decide +kernel
theorem dX6_init_0 : decode cX6_init 0 = .ok (.aload_n 0, 1) := by decide +kernel
theorem dX6_init_1 : decode cX6_init 1 = .ok (.invokespecial 3, 3) := by decide +kernel
theorem dX6_init_4 : decode cX6_init 4 = .ok (.aload_n 0, 1) := by decide +kernel
theorem dX6_init_5 : decode cX6_init 5 = .ok (.sipush 2048, 3) := by decide +kernel
theorem dX6_init_8 : decode cX6_init 8 = .ok (.newarray .int, 2) := by decide +kernel
theorem dX6_init_10 : decode cX6_init 10 = .ok (.putfield 9, 3) := by decide +kernel
theorem dX6_init_13 : decode cX6_init 13 = .ok (.return_, 1) := by decide +kernel
set_option maxRecDepth 20000 in
theorem ggX6_work_X6_waysOn : GoodIn wsX6_work wsX6_waysOn := goodIn_r _ [6, 1, 7] (by decide +kernel) (by decide +kernel)
set_option maxRecDepth 20000 in
theorem gX6_work_X6_waysOn : GoodIn wsX6_work (wsV RX6 20 RX6 yX6_waysOn wsX6_waysOn) := goodIn_app (goodIn_of _ (by decide +kernel)) ggX6_work_X6_waysOn
theorem dX6_work_0 : decode cX6_work 0 = .ok (.iconst 0, 1) := by decide +kernel
theorem dX6_work_1 : decode cX6_work 1 = .ok (.istore_n 2, 1) := by decide +kernel
theorem dX6_work_2 : decode cX6_work 2 = .ok (.iload_n 2, 1) := by decide +kernel
theorem dX6_work_3 : decode cX6_work 3 = .ok (.bipush 8, 2) := by decide +kernel
theorem dX6_work_5 : decode cX6_work 5 = .ok (.if_icmp .ge 20, 3) := by decide +kernel
theorem dX6_work_8 : decode cX6_work 8 = .ok (.aload_n 0, 1) := by decide +kernel
theorem dX6_work_9 : decode cX6_work 9 = .ok (.getfield 9, 3) := by decide +kernel
theorem dX6_work_12 : decode cX6_work 12 = .ok (.sipush 2040, 3) := by decide +kernel
theorem dX6_work_15 : decode cX6_work 15 = .ok (.iload_n 2, 1) := by decide +kernel
theorem dX6_work_16 : decode cX6_work 16 = .ok (.iadd, 1) := by decide +kernel
theorem dX6_work_17 : decode cX6_work 17 = .ok (.iconst 1, 1) := by decide +kernel
theorem dX6_work_18 : decode cX6_work 18 = .ok (.iastore, 1) := by decide +kernel
theorem dX6_work_19 : decode cX6_work 19 = .ok (.iinc 2 1, 3) := by decide +kernel
theorem dX6_work_22 : decode cX6_work 22 = .ok (.goto (-20), 3) := by decide +kernel
theorem dX6_work_25 : decode cX6_work 25 = .ok (.sipush 254, 3) := by decide +kernel
theorem dX6_work_28 : decode cX6_work 28 = .ok (.istore_n 2, 1) := by decide +kernel
theorem dX6_work_29 : decode cX6_work 29 = .ok (.iload_n 2, 1) := by decide +kernel
theorem dX6_work_30 : decode cX6_work 30 = .ok (.ifCond .le 64, 3) := by decide +kernel
theorem dX6_work_33 : decode cX6_work 33 = .ok (.iconst 0, 1) := by decide +kernel
theorem dX6_work_34 : decode cX6_work 34 = .ok (.istore_n 3, 1) := by decide +kernel
theorem dX6_work_35 : decode cX6_work 35 = .ok (.iload_n 3, 1) := by decide +kernel
theorem dX6_work_36 : decode cX6_work 36 = .ok (.bipush 8, 2) := by decide +kernel
theorem dX6_work_38 : decode cX6_work 38 = .ok (.if_icmp .ge 50, 3) := by decide +kernel
theorem dX6_work_41 : decode cX6_work 41 = .ok (.iload_n 2, 1) := by decide +kernel
theorem dX6_work_42 : decode cX6_work 42 = .ok (.iload_n 3, 1) := by decide +kernel
theorem dX6_work_43 : decode cX6_work 43 = .ok (.ishr, 1) := by decide +kernel
theorem dX6_work_44 : decode cX6_work 44 = .ok (.iconst 1, 1) := by decide +kernel
theorem dX6_work_45 : decode cX6_work 45 = .ok (.iand, 1) := by decide +kernel
theorem dX6_work_46 : decode cX6_work 46 = .ok (.iconst 1, 1) := by decide +kernel
theorem dX6_work_47 : decode cX6_work 47 = .ok (.if_icmp .ne 35, 3) := by decide +kernel
theorem dX6_work_50 : decode cX6_work 50 = .ok (.aload_n 0, 1) := by decide +kernel
theorem dX6_work_51 : decode cX6_work 51 = .ok (.getfield 9, 3) := by decide +kernel
theorem dX6_work_54 : decode cX6_work 54 = .ok (.iload_n 2, 1) := by decide +kernel
theorem dX6_work_55 : decode cX6_work 55 = .ok (.bipush 8, 2) := by decide +kernel
theorem dX6_work_57 : decode cX6_work 57 = .ok (.imul, 1) := by decide +kernel
theorem dX6_work_58 : decode cX6_work 58 = .ok (.iload_n 3, 1) := by decide +kernel
theorem dX6_work_59 : decode cX6_work 59 = .ok (.iadd, 1) := by decide +kernel
theorem dX6_work_60 : decode cX6_work 60 = .ok (.aload_n 0, 1) := by decide +kernel
theorem dX6_work_61 : decode cX6_work 61 = .ok (.iload_n 2, 1) := by decide +kernel
theorem dX6_work_62 : decode cX6_work 62 = .ok (.sipush 255, 3) := by decide +kernel
theorem dX6_work_65 : decode cX6_work 65 = .ok (.iload_n 2, 1) := by decide +kernel
theorem dX6_work_66 : decode cX6_work 66 = .ok (.iconst (-1), 1) := by decide +kernel
theorem dX6_work_67 : decode cX6_work 67 = .ok (.ixor, 1) := by decide +kernel
theorem dX6_work_68 : decode cX6_work 68 = .ok (.iand, 1) := by decide +kernel
theorem dX6_work_69 : decode cX6_work 69 = .ok (.aload_n 1, 1) := by decide +kernel
theorem dX6_work_70 : decode cX6_work 70 = .ok (.getfield 15, 3) := by decide +kernel
theorem dX6_work_73 : decode cX6_work 73 = .ok (.iload_n 3, 1) := by decide +kernel
theorem dX6_work_74 : decode cX6_work 74 = .ok (.iaload, 1) := by decide +kernel
theorem dX6_work_75 : decode cX6_work 75 = .ok (.iconst (-1), 1) := by decide +kernel
theorem dX6_work_76 : decode cX6_work 76 = .ok (.ixor, 1) := by decide +kernel
theorem dX6_work_77 : decode cX6_work 77 = .ok (.iand, 1) := by decide +kernel
theorem dX6_work_78 : decode cX6_work 78 = .ok (.invokevirtual 20, 3) := by decide +kernel
theorem dX6_work_81 : decode cX6_work 81 = .ok (.iastore, 1) := by decide +kernel
theorem dX6_work_82 : decode cX6_work 82 = .ok (.iinc 3 1, 3) := by decide +kernel
theorem dX6_work_85 : decode cX6_work 85 = .ok (.goto (-50), 3) := by decide +kernel
theorem dX6_work_88 : decode cX6_work 88 = .ok (.iinc 2 (-1), 3) := by decide +kernel
theorem dX6_work_91 : decode cX6_work 91 = .ok (.goto (-62), 3) := by decide +kernel
theorem dX6_work_94 : decode cX6_work 94 = .ok (.return_, 1) := by decide +kernel
theorem dX6_waysOn_0 : decode cX6_waysOn 0 = .ok (.iconst 0, 1) := by decide +kernel
theorem dX6_waysOn_1 : decode cX6_waysOn 1 = .ok (.istore_n 3, 1) := by decide +kernel
theorem dX6_waysOn_2 : decode cX6_waysOn 2 = .ok (.iconst 0, 1) := by decide +kernel
theorem dX6_waysOn_3 : decode cX6_waysOn 3 = .ok (.istore 4, 2) := by decide +kernel
theorem dX6_waysOn_5 : decode cX6_waysOn 5 = .ok (.iload 4, 2) := by decide +kernel
theorem dX6_waysOn_7 : decode cX6_waysOn 7 = .ok (.bipush 8, 2) := by decide +kernel
theorem dX6_waysOn_9 : decode cX6_waysOn 9 = .ok (.if_icmp .ge 39, 3) := by decide +kernel
theorem dX6_waysOn_12 : decode cX6_waysOn 12 = .ok (.iload_n 2, 1) := by decide +kernel
theorem dX6_waysOn_13 : decode cX6_waysOn 13 = .ok (.iload 4, 2) := by decide +kernel
theorem dX6_waysOn_15 : decode cX6_waysOn 15 = .ok (.ishr, 1) := by decide +kernel
theorem dX6_waysOn_16 : decode cX6_waysOn 16 = .ok (.iconst 1, 1) := by decide +kernel
theorem dX6_waysOn_17 : decode cX6_waysOn 17 = .ok (.iand, 1) := by decide +kernel
theorem dX6_waysOn_18 : decode cX6_waysOn 18 = .ok (.iconst 1, 1) := by decide +kernel
theorem dX6_waysOn_19 : decode cX6_waysOn 19 = .ok (.if_icmp .ne 23, 3) := by decide +kernel
theorem dX6_waysOn_22 : decode cX6_waysOn 22 = .ok (.iload_n 3, 1) := by decide +kernel
theorem dX6_waysOn_23 : decode cX6_waysOn 23 = .ok (.aload_n 0, 1) := by decide +kernel
theorem dX6_waysOn_24 : decode cX6_waysOn 24 = .ok (.getfield 9, 3) := by decide +kernel
theorem dX6_waysOn_27 : decode cX6_waysOn 27 = .ok (.iload_n 1, 1) := by decide +kernel
theorem dX6_waysOn_28 : decode cX6_waysOn 28 = .ok (.iconst 1, 1) := by decide +kernel
theorem dX6_waysOn_29 : decode cX6_waysOn 29 = .ok (.iload 4, 2) := by decide +kernel
theorem dX6_waysOn_31 : decode cX6_waysOn 31 = .ok (.ishl, 1) := by decide +kernel
theorem dX6_waysOn_32 : decode cX6_waysOn 32 = .ok (.ior, 1) := by decide +kernel
theorem dX6_waysOn_33 : decode cX6_waysOn 33 = .ok (.bipush 8, 2) := by decide +kernel
theorem dX6_waysOn_35 : decode cX6_waysOn 35 = .ok (.imul, 1) := by decide +kernel
theorem dX6_waysOn_36 : decode cX6_waysOn 36 = .ok (.iload 4, 2) := by decide +kernel
theorem dX6_waysOn_38 : decode cX6_waysOn 38 = .ok (.iadd, 1) := by decide +kernel
theorem dX6_waysOn_39 : decode cX6_waysOn 39 = .ok (.iaload, 1) := by decide +kernel
theorem dX6_waysOn_40 : decode cX6_waysOn 40 = .ok (.iadd, 1) := by decide +kernel
theorem dX6_waysOn_41 : decode cX6_waysOn 41 = .ok (.istore_n 3, 1) := by decide +kernel
theorem dX6_waysOn_42 : decode cX6_waysOn 42 = .ok (.iinc 4 1, 3) := by decide +kernel
theorem dX6_waysOn_45 : decode cX6_waysOn 45 = .ok (.goto (-40), 3) := by decide +kernel
theorem dX6_waysOn_48 : decode cX6_waysOn 48 = .ok (.iload_n 3, 1) := by decide +kernel
theorem dX6_waysOn_49 : decode cX6_waysOn 49 = .ok (.ireturn, 1) := by decide +kernel
set_option maxRecDepth 20000 in
theorem ggX6_howMany_X6_waysOn : GoodIn wsX6_howMany wsX6_waysOn := goodIn_r _ [5, 6, 7] (by decide +kernel) (by decide +kernel)
set_option maxRecDepth 20000 in
theorem gX6_howMany_X6_waysOn : GoodIn wsX6_howMany (wsV RX6 20 RX6 yX6_waysOn wsX6_waysOn) := goodIn_app (goodIn_of _ (by decide +kernel)) ggX6_howMany_X6_waysOn
theorem dX6_howMany_0 : decode cX6_howMany 0 = .ok (.aload_n 0, 1) := by decide +kernel
theorem dX6_howMany_1 : decode cX6_howMany 1 = .ok (.iconst 0, 1) := by decide +kernel
theorem dX6_howMany_2 : decode cX6_howMany 2 = .ok (.sipush 255, 3) := by decide +kernel
theorem dX6_howMany_5 : decode cX6_howMany 5 = .ok (.invokevirtual 20, 3) := by decide +kernel
theorem dX6_howMany_8 : decode cX6_howMany 8 = .ok (.ireturn, 1) := by decide +kernel
set_option maxRecDepth 20000 in
theorem ggX6_least_X6_leastThatGoesOn : GoodIn wsX6_least wsX6_leastThatGoesOn := goodIn_r _ [5, 6, 8] (by decide +kernel) (by decide +kernel)
set_option maxRecDepth 20000 in
theorem gX6_least_X6_leastThatGoesOn : GoodIn wsX6_least (wsV RX6 24 RX6 yX6_leastThatGoesOn wsX6_leastThatGoesOn) := goodIn_app (goodIn_of _ (by decide +kernel)) ggX6_least_X6_leastThatGoesOn
theorem dX6_least_0 : decode cX6_least 0 = .ok (.iconst 0, 1) := by decide +kernel
theorem dX6_least_1 : decode cX6_least 1 = .ok (.istore_n 2, 1) := by decide +kernel
theorem dX6_least_2 : decode cX6_least 2 = .ok (.iconst 0, 1) := by decide +kernel
theorem dX6_least_3 : decode cX6_least 3 = .ok (.istore_n 3, 1) := by decide +kernel
theorem dX6_least_4 : decode cX6_least 4 = .ok (.sipush 255, 3) := by decide +kernel
theorem dX6_least_7 : decode cX6_least 7 = .ok (.istore 4, 2) := by decide +kernel
theorem dX6_least_9 : decode cX6_least 9 = .ok (.iconst 0, 1) := by decide +kernel
theorem dX6_least_10 : decode cX6_least 10 = .ok (.istore 5, 2) := by decide +kernel
theorem dX6_least_12 : decode cX6_least 12 = .ok (.iload 5, 2) := by decide +kernel
theorem dX6_least_14 : decode cX6_least 14 = .ok (.bipush 8, 2) := by decide +kernel
theorem dX6_least_16 : decode cX6_least 16 = .ok (.if_icmp .ge 62, 3) := by decide +kernel
theorem dX6_least_19 : decode cX6_least 19 = .ok (.aload_n 0, 1) := by decide +kernel
theorem dX6_least_20 : decode cX6_least 20 = .ok (.iload_n 3, 1) := by decide +kernel
theorem dX6_least_21 : decode cX6_least 21 = .ok (.iload 4, 2) := by decide +kernel
theorem dX6_least_23 : decode cX6_least 23 = .ok (.invokevirtual 24, 3) := by decide +kernel
theorem dX6_least_26 : decode cX6_least 26 = .ok (.istore 6, 2) := by decide +kernel
theorem dX6_least_28 : decode cX6_least 28 = .ok (.iload 6, 2) := by decide +kernel
theorem dX6_least_30 : decode cX6_least 30 = .ok (.bipush (-6), 2) := by decide +kernel
theorem dX6_least_32 : decode cX6_least 32 = .ok (.if_icmp .ne 6, 3) := by decide +kernel
theorem dX6_least_35 : decode cX6_least 35 = .ok (.bipush (-6), 2) := by decide +kernel
theorem dX6_least_37 : decode cX6_least 37 = .ok (.ireturn, 1) := by decide +kernel
theorem dX6_least_38 : decode cX6_least 38 = .ok (.iload_n 2, 1) := by decide +kernel
theorem dX6_least_39 : decode cX6_least 39 = .ok (.bipush 10, 2) := by decide +kernel
theorem dX6_least_41 : decode cX6_least 41 = .ok (.imul, 1) := by decide +kernel
theorem dX6_least_42 : decode cX6_least 42 = .ok (.iload 6, 2) := by decide +kernel
theorem dX6_least_44 : decode cX6_least 44 = .ok (.iadd, 1) := by decide +kernel
theorem dX6_least_45 : decode cX6_least 45 = .ok (.istore_n 2, 1) := by decide +kernel
theorem dX6_least_46 : decode cX6_least 46 = .ok (.iload_n 3, 1) := by decide +kernel
theorem dX6_least_47 : decode cX6_least 47 = .ok (.iconst 1, 1) := by decide +kernel
theorem dX6_least_48 : decode cX6_least 48 = .ok (.iload 6, 2) := by decide +kernel
theorem dX6_least_50 : decode cX6_least 50 = .ok (.ishl, 1) := by decide +kernel
theorem dX6_least_51 : decode cX6_least 51 = .ok (.ior, 1) := by decide +kernel
theorem dX6_least_52 : decode cX6_least 52 = .ok (.istore_n 3, 1) := by decide +kernel
theorem dX6_least_53 : decode cX6_least 53 = .ok (.sipush 255, 3) := by decide +kernel
theorem dX6_least_56 : decode cX6_least 56 = .ok (.iload_n 3, 1) := by decide +kernel
theorem dX6_least_57 : decode cX6_least 57 = .ok (.iconst (-1), 1) := by decide +kernel
theorem dX6_least_58 : decode cX6_least 58 = .ok (.ixor, 1) := by decide +kernel
theorem dX6_least_59 : decode cX6_least 59 = .ok (.iand, 1) := by decide +kernel
theorem dX6_least_60 : decode cX6_least 60 = .ok (.aload_n 1, 1) := by decide +kernel
theorem dX6_least_61 : decode cX6_least 61 = .ok (.getfield 15, 3) := by decide +kernel
theorem dX6_least_64 : decode cX6_least 64 = .ok (.iload 6, 2) := by decide +kernel
theorem dX6_least_66 : decode cX6_least 66 = .ok (.iaload, 1) := by decide +kernel
theorem dX6_least_67 : decode cX6_least 67 = .ok (.iconst (-1), 1) := by decide +kernel
theorem dX6_least_68 : decode cX6_least 68 = .ok (.ixor, 1) := by decide +kernel
theorem dX6_least_69 : decode cX6_least 69 = .ok (.iand, 1) := by decide +kernel
theorem dX6_least_70 : decode cX6_least 70 = .ok (.istore 4, 2) := by decide +kernel
theorem dX6_least_72 : decode cX6_least 72 = .ok (.iinc 5 1, 3) := by decide +kernel
theorem dX6_least_75 : decode cX6_least 75 = .ok (.goto (-63), 3) := by decide +kernel
theorem dX6_least_78 : decode cX6_least 78 = .ok (.iload_n 2, 1) := by decide +kernel
theorem dX6_least_79 : decode cX6_least 79 = .ok (.ireturn, 1) := by decide +kernel
theorem dX6_leastThatGoesOn_0 : decode cX6_leastThatGoesOn 0 = .ok (.iconst 0, 1) := by decide +kernel
theorem dX6_leastThatGoesOn_1 : decode cX6_leastThatGoesOn 1 = .ok (.istore_n 3, 1) := by decide +kernel
theorem dX6_leastThatGoesOn_2 : decode cX6_leastThatGoesOn 2 = .ok (.iload_n 3, 1) := by decide +kernel
theorem dX6_leastThatGoesOn_3 : decode cX6_leastThatGoesOn 3 = .ok (.bipush 8, 2) := by decide +kernel
theorem dX6_leastThatGoesOn_5 : decode cX6_leastThatGoesOn 5 = .ok (.if_icmp .ge 38, 3) := by decide +kernel
theorem dX6_leastThatGoesOn_8 : decode cX6_leastThatGoesOn 8 = .ok (.iload_n 2, 1) := by decide +kernel
theorem dX6_leastThatGoesOn_9 : decode cX6_leastThatGoesOn 9 = .ok (.iload_n 3, 1) := by decide +kernel
theorem dX6_leastThatGoesOn_10 : decode cX6_leastThatGoesOn 10 = .ok (.ishr, 1) := by decide +kernel
theorem dX6_leastThatGoesOn_11 : decode cX6_leastThatGoesOn 11 = .ok (.iconst 1, 1) := by decide +kernel
theorem dX6_leastThatGoesOn_12 : decode cX6_leastThatGoesOn 12 = .ok (.iand, 1) := by decide +kernel
theorem dX6_leastThatGoesOn_13 : decode cX6_leastThatGoesOn 13 = .ok (.iconst 1, 1) := by decide +kernel
theorem dX6_leastThatGoesOn_14 : decode cX6_leastThatGoesOn 14 = .ok (.if_icmp .ne 23, 3) := by decide +kernel
theorem dX6_leastThatGoesOn_17 : decode cX6_leastThatGoesOn 17 = .ok (.aload_n 0, 1) := by decide +kernel
theorem dX6_leastThatGoesOn_18 : decode cX6_leastThatGoesOn 18 = .ok (.getfield 9, 3) := by decide +kernel
theorem dX6_leastThatGoesOn_21 : decode cX6_leastThatGoesOn 21 = .ok (.iload_n 1, 1) := by decide +kernel
theorem dX6_leastThatGoesOn_22 : decode cX6_leastThatGoesOn 22 = .ok (.iconst 1, 1) := by decide +kernel
theorem dX6_leastThatGoesOn_23 : decode cX6_leastThatGoesOn 23 = .ok (.iload_n 3, 1) := by decide +kernel
theorem dX6_leastThatGoesOn_24 : decode cX6_leastThatGoesOn 24 = .ok (.ishl, 1) := by decide +kernel
theorem dX6_leastThatGoesOn_25 : decode cX6_leastThatGoesOn 25 = .ok (.ior, 1) := by decide +kernel
theorem dX6_leastThatGoesOn_26 : decode cX6_leastThatGoesOn 26 = .ok (.bipush 8, 2) := by decide +kernel
theorem dX6_leastThatGoesOn_28 : decode cX6_leastThatGoesOn 28 = .ok (.imul, 1) := by decide +kernel
theorem dX6_leastThatGoesOn_29 : decode cX6_leastThatGoesOn 29 = .ok (.iload_n 3, 1) := by decide +kernel
theorem dX6_leastThatGoesOn_30 : decode cX6_leastThatGoesOn 30 = .ok (.iadd, 1) := by decide +kernel
theorem dX6_leastThatGoesOn_31 : decode cX6_leastThatGoesOn 31 = .ok (.iaload, 1) := by decide +kernel
theorem dX6_leastThatGoesOn_32 : decode cX6_leastThatGoesOn 32 = .ok (.ifCond .le 5, 3) := by decide +kernel
theorem dX6_leastThatGoesOn_35 : decode cX6_leastThatGoesOn 35 = .ok (.iload_n 3, 1) := by decide +kernel
theorem dX6_leastThatGoesOn_36 : decode cX6_leastThatGoesOn 36 = .ok (.ireturn, 1) := by decide +kernel
theorem dX6_leastThatGoesOn_37 : decode cX6_leastThatGoesOn 37 = .ok (.iinc 3 1, 3) := by decide +kernel
theorem dX6_leastThatGoesOn_40 : decode cX6_leastThatGoesOn 40 = .ok (.goto (-38), 3) := by decide +kernel
theorem dX6_leastThatGoesOn_43 : decode cX6_leastThatGoesOn 43 = .ok (.bipush (-6), 2) := by decide +kernel
theorem dX6_leastThatGoesOn_45 : decode cX6_leastThatGoesOn 45 = .ok (.ireturn, 1) := by decide +kernel
theorem dX7_init_0 : decode cX7_init 0 = .ok (.aload_n 0, 1) := by decide +kernel
theorem dX7_init_1 : decode cX7_init 1 = .ok (.invokespecial 3, 3) := by decide +kernel
theorem dX7_init_4 : decode cX7_init 4 = .ok (.aload_n 0, 1) := by decide +kernel
theorem dX7_init_5 : decode cX7_init 5 = .ok (.bipush 8, 2) := by decide +kernel
theorem dX7_init_7 : decode cX7_init 7 = .ok (.newarray .int, 2) := by decide +kernel
theorem dX7_init_9 : decode cX7_init 9 = .ok (.putfield 9, 3) := by decide +kernel
theorem dX7_init_12 : decode cX7_init 12 = .ok (.aload_n 0, 1) := by decide +kernel
theorem dX7_init_13 : decode cX7_init 13 = .ok (.bipush 8, 2) := by decide +kernel
theorem dX7_init_15 : decode cX7_init 15 = .ok (.newarray .int, 2) := by decide +kernel
theorem dX7_init_17 : decode cX7_init 17 = .ok (.putfield 15, 3) := by decide +kernel
theorem dX7_init_20 : decode cX7_init 20 = .ok (.return_, 1) := by decide +kernel
theorem dX7_copyFrom_0 : decode cX7_copyFrom 0 = .ok (.aload_n 1, 1) := by decide +kernel
theorem dX7_copyFrom_1 : decode cX7_copyFrom 1 = .ok (.getfield 9, 3) := by decide +kernel
theorem dX7_copyFrom_4 : decode cX7_copyFrom 4 = .ok (.iconst 0, 1) := by decide +kernel
theorem dX7_copyFrom_5 : decode cX7_copyFrom 5 = .ok (.aload_n 0, 1) := by decide +kernel
theorem dX7_copyFrom_6 : decode cX7_copyFrom 6 = .ok (.getfield 9, 3) := by decide +kernel
theorem dX7_copyFrom_9 : decode cX7_copyFrom 9 = .ok (.iconst 0, 1) := by decide +kernel
theorem dX7_copyFrom_10 : decode cX7_copyFrom 10 = .ok (.bipush 8, 2) := by decide +kernel
theorem dX7_copyFrom_12 : decode cX7_copyFrom 12 = .ok (.invokestatic 18, 3) := by decide +kernel
theorem dX7_copyFrom_15 : decode cX7_copyFrom 15 = .ok (.aload_n 1, 1) := by decide +kernel
theorem dX7_copyFrom_16 : decode cX7_copyFrom 16 = .ok (.getfield 15, 3) := by decide +kernel
theorem dX7_copyFrom_19 : decode cX7_copyFrom 19 = .ok (.iconst 0, 1) := by decide +kernel
theorem dX7_copyFrom_20 : decode cX7_copyFrom 20 = .ok (.aload_n 0, 1) := by decide +kernel
theorem dX7_copyFrom_21 : decode cX7_copyFrom 21 = .ok (.getfield 15, 3) := by decide +kernel
theorem dX7_copyFrom_24 : decode cX7_copyFrom 24 = .ok (.iconst 0, 1) := by decide +kernel
theorem dX7_copyFrom_25 : decode cX7_copyFrom 25 = .ok (.bipush 8, 2) := by decide +kernel
theorem dX7_copyFrom_27 : decode cX7_copyFrom 27 = .ok (.invokestatic 18, 3) := by decide +kernel
theorem dX7_copyFrom_30 : decode cX7_copyFrom 30 = .ok (.aload_n 0, 1) := by decide +kernel
theorem dX7_copyFrom_31 : decode cX7_copyFrom 31 = .ok (.aload_n 1, 1) := by decide +kernel
theorem dX7_copyFrom_32 : decode cX7_copyFrom 32 = .ok (.getfield 24, 3) := by decide +kernel
theorem dX7_copyFrom_35 : decode cX7_copyFrom 35 = .ok (.putfield 24, 3) := by decide +kernel
theorem dX7_copyFrom_38 : decode cX7_copyFrom 38 = .ok (.return_, 1) := by decide +kernel
theorem dX7_add_0 : decode cX7_add 0 = .ok (.aload_n 0, 1) := by decide +kernel
theorem dX7_add_1 : decode cX7_add 1 = .ok (.getfield 24, 3) := by decide +kernel
theorem dX7_add_4 : decode cX7_add 4 = .ok (.bipush 8, 2) := by decide +kernel
theorem dX7_add_6 : decode cX7_add 6 = .ok (.if_icmp .ge 33, 3) := by decide +kernel
theorem dX7_add_9 : decode cX7_add 9 = .ok (.aload_n 0, 1) := by decide +kernel
theorem dX7_add_10 : decode cX7_add 10 = .ok (.getfield 9, 3) := by decide +kernel
theorem dX7_add_13 : decode cX7_add 13 = .ok (.aload_n 0, 1) := by decide +kernel
theorem dX7_add_14 : decode cX7_add 14 = .ok (.getfield 24, 3) := by decide +kernel
theorem dX7_add_17 : decode cX7_add 17 = .ok (.iload_n 1, 1) := by decide +kernel
theorem dX7_add_18 : decode cX7_add 18 = .ok (.iastore, 1) := by decide +kernel
theorem dX7_add_19 : decode cX7_add 19 = .ok (.aload_n 0, 1) := by decide +kernel
theorem dX7_add_20 : decode cX7_add 20 = .ok (.getfield 15, 3) := by decide +kernel
theorem dX7_add_23 : decode cX7_add 23 = .ok (.aload_n 0, 1) := by decide +kernel
theorem dX7_add_24 : decode cX7_add 24 = .ok (.getfield 24, 3) := by decide +kernel
theorem dX7_add_27 : decode cX7_add 27 = .ok (.iload_n 2, 1) := by decide +kernel
theorem dX7_add_28 : decode cX7_add 28 = .ok (.iastore, 1) := by decide +kernel
theorem dX7_add_29 : decode cX7_add 29 = .ok (.aload_n 0, 1) := by decide +kernel
theorem dX7_add_30 : decode cX7_add 30 = .ok (.dup, 1) := by decide +kernel
theorem dX7_add_31 : decode cX7_add 31 = .ok (.getfield 24, 3) := by decide +kernel
theorem dX7_add_34 : decode cX7_add 34 = .ok (.iconst 1, 1) := by decide +kernel
theorem dX7_add_35 : decode cX7_add 35 = .ok (.iadd, 1) := by decide +kernel
theorem dX7_add_36 : decode cX7_add 36 = .ok (.putfield 24, 3) := by decide +kernel
theorem dX7_add_39 : decode cX7_add 39 = .ok (.return_, 1) := by decide +kernel
set_option maxRecDepth 20000 in
theorem ggX7_allow_J6_bitCount_0f7a4 : GoodIn wsX7_allow wsJ6_bitCount_0f7a4 := goodIn_r _ [7, 8, 9, 10] (by decide +kernel) (by decide +kernel)
set_option maxRecDepth 20000 in
theorem gX7_allow_J6_bitCount_0f7a4 : GoodIn wsX7_allow (va_wsS RX7 28 yJ6_bitCount_0f7a4 wsJ6_bitCount_0f7a4) := goodIn_app (goodIn_of _ (by decide +kernel)) ggX7_allow_J6_bitCount_0f7a4
theorem dX7_allow_0 : decode cX7_allow 0 = .ok (.iconst 0, 1) := by decide +kernel
theorem dX7_allow_1 : decode cX7_allow 1 = .ok (.istore_n 2, 1) := by decide +kernel
theorem dX7_allow_2 : decode cX7_allow 2 = .ok (.iload_n 2, 1) := by decide +kernel
theorem dX7_allow_3 : decode cX7_allow 3 = .ok (.aload_n 0, 1) := by decide +kernel
theorem dX7_allow_4 : decode cX7_allow 4 = .ok (.getfield 24, 3) := by decide +kernel
theorem dX7_allow_7 : decode cX7_allow 7 = .ok (.if_icmp .ge 37, 3) := by decide +kernel
theorem dX7_allow_10 : decode cX7_allow 10 = .ok (.iload_n 2, 1) := by decide +kernel
theorem dX7_allow_11 : decode cX7_allow 11 = .ok (.bipush 8, 2) := by decide +kernel
theorem dX7_allow_13 : decode cX7_allow 13 = .ok (.if_icmp .ge 31, 3) := by decide +kernel
theorem dX7_allow_16 : decode cX7_allow 16 = .ok (.aload_n 0, 1) := by decide +kernel
theorem dX7_allow_17 : decode cX7_allow 17 = .ok (.getfield 9, 3) := by decide +kernel
theorem dX7_allow_20 : decode cX7_allow 20 = .ok (.iload_n 2, 1) := by decide +kernel
theorem dX7_allow_21 : decode cX7_allow 21 = .ok (.iaload, 1) := by decide +kernel
theorem dX7_allow_22 : decode cX7_allow 22 = .ok (.iload_n 1, 1) := by decide +kernel
theorem dX7_allow_23 : decode cX7_allow 23 = .ok (.iand, 1) := by decide +kernel
theorem dX7_allow_24 : decode cX7_allow 24 = .ok (.invokestatic 28, 3) := by decide +kernel
theorem dX7_allow_27 : decode cX7_allow 27 = .ok (.aload_n 0, 1) := by decide +kernel
theorem dX7_allow_28 : decode cX7_allow 28 = .ok (.getfield 15, 3) := by decide +kernel
theorem dX7_allow_31 : decode cX7_allow 31 = .ok (.iload_n 2, 1) := by decide +kernel
theorem dX7_allow_32 : decode cX7_allow 32 = .ok (.iaload, 1) := by decide +kernel
theorem dX7_allow_33 : decode cX7_allow 33 = .ok (.if_icmp .eq 5, 3) := by decide +kernel
theorem dX7_allow_36 : decode cX7_allow 36 = .ok (.iconst 0, 1) := by decide +kernel
theorem dX7_allow_37 : decode cX7_allow 37 = .ok (.ireturn, 1) := by decide +kernel
theorem dX7_allow_38 : decode cX7_allow 38 = .ok (.iinc 2 1, 3) := by decide +kernel
theorem dX7_allow_41 : decode cX7_allow 41 = .ok (.goto (-39), 3) := by decide +kernel
theorem dX7_allow_44 : decode cX7_allow 44 = .ok (.iconst 1, 1) := by decide +kernel
theorem dX7_allow_45 : decode cX7_allow 45 = .ok (.ireturn, 1) := by decide +kernel
set_option maxRecDepth 20000 in
theorem ggX8_init_X5_init : GoodIn wsX8_init wsX5_init := goodIn_r _ [9, 10, 2, 3, 11, 12, 13, 14, 15, 16, 17, 18, 19, 20] (by decide +kernel) (by decide +kernel)
set_option maxRecDepth 20000 in
theorem gX8_init_X5_init_n11 : GoodIn wsX8_init (wsX5_init) := ggX8_init_X5_init
theorem dX8_init_0 : decode cX8_init 0 = .ok (.aload_n 0, 1) := by decide +kernel
theorem dX8_init_1 : decode cX8_init 1 = .ok (.invokespecial 3, 3) := by decide +kernel
theorem dX8_init_4 : decode cX8_init 4 = .ok (.aload_n 0, 1) := by decide +kernel
theorem dX8_init_5 : decode cX8_init 5 = .ok (.new 9, 3) := by decide +kernel
theorem dX8_init_8 : decode cX8_init 8 = .ok (.dup, 1) := by decide +kernel
theorem dX8_init_9 : decode cX8_init 9 = .ok (.invokespecial 11, 3) := by decide +kernel
theorem dX8_init_12 : decode cX8_init 12 = .ok (.putfield 12, 3) := by decide +kernel
theorem dX8_init_15 : decode cX8_init 15 = .ok (.return_, 1) := by decide +kernel
set_option maxRecDepth 20000 in
theorem ggX8_begin_X5_copyFrom : GoodIn wsX8_begin wsX5_copyFrom := goodIn_r _ [10, 11, 12, 13, 14, 15, 16, 17, 18, 19, 20, 27, 28, 29, 30, 31, 32] (by decide +kernel) (by decide +kernel)
set_option maxRecDepth 20000 in
theorem gX8_begin_X5_copyFrom_n18 : GoodIn wsX8_begin (wsX5_copyFrom) := ggX8_begin_X5_copyFrom
theorem dX8_begin_0 : decode cX8_begin 0 = .ok (.aload_n 0, 1) := by decide +kernel
theorem dX8_begin_1 : decode cX8_begin 1 = .ok (.getfield 12, 3) := by decide +kernel
theorem dX8_begin_4 : decode cX8_begin 4 = .ok (.aload_n 1, 1) := by decide +kernel
theorem dX8_begin_5 : decode cX8_begin 5 = .ok (.invokevirtual 18, 3) := by decide +kernel
theorem dX8_begin_8 : decode cX8_begin 8 = .ok (.aload_n 0, 1) := by decide +kernel
theorem dX8_begin_9 : decode cX8_begin 9 = .ok (.bipush (-6), 2) := by decide +kernel
theorem dX8_begin_11 : decode cX8_begin 11 = .ok (.putfield 22, 3) := by decide +kernel
theorem dX8_begin_14 : decode cX8_begin 14 = .ok (.aload_n 0, 1) := by decide +kernel
theorem dX8_begin_15 : decode cX8_begin 15 = .ok (.bipush (-6), 2) := by decide +kernel
theorem dX8_begin_17 : decode cX8_begin 17 = .ok (.putfield 26, 3) := by decide +kernel
theorem dX8_begin_20 : decode cX8_begin 20 = .ok (.aload_n 0, 1) := by decide +kernel
theorem dX8_begin_21 : decode cX8_begin 21 = .ok (.iconst 0, 1) := by decide +kernel
theorem dX8_begin_22 : decode cX8_begin 22 = .ok (.putfield 29, 3) := by decide +kernel
theorem dX8_begin_25 : decode cX8_begin 25 = .ok (.aload_n 0, 1) := by decide +kernel
theorem dX8_begin_26 : decode cX8_begin 26 = .ok (.bipush (-6), 2) := by decide +kernel
theorem dX8_begin_28 : decode cX8_begin 28 = .ok (.putfield 32, 3) := by decide +kernel
theorem dX8_begin_31 : decode cX8_begin 31 = .ok (.aload_n 0, 1) := by decide +kernel
theorem dX8_begin_32 : decode cX8_begin 32 = .ok (.bipush (-6), 2) := by decide +kernel
theorem dX8_begin_34 : decode cX8_begin 34 = .ok (.putfield 35, 3) := by decide +kernel
theorem dX8_begin_37 : decode cX8_begin 37 = .ok (.return_, 1) := by decide +kernel
set_option maxRecDepth 20000 in
theorem ggX8_play_X8_begin : GoodIn wsX8_play wsX8_begin := goodIn_r _ [10, 1, 2, 3, 11, 4, 5, 12, 13, 14, 15, 16, 17, 18, 19, 20, 21, 22, 23, 24, 25, 82, 83, 84, 85, 86, 87, 88, 89, 90, 91, 92, 93] (by decide +kernel) (by decide +kernel)
set_option maxRecDepth 20000 in
theorem gX8_play_X8_begin : GoodIn wsX8_play (wsV RX8 38 RX8 yX8_begin wsX8_begin) := goodIn_app (goodIn_of _ (by decide +kernel)) ggX8_play_X8_begin
set_option maxRecDepth 20000 in
theorem ggX8_play_X5_houseAtNext : GoodIn wsX8_play wsX5_houseAtNext := goodIn_r _ [28, 24, 22, 88, 89, 90, 91, 92, 93] (by decide +kernel) (by decide +kernel)
set_option maxRecDepth 20000 in
theorem gX8_play_X5_houseAtNext_n50 : GoodIn wsX8_play (wsX5_houseAtNext) := ggX8_play_X5_houseAtNext
set_option maxRecDepth 20000 in
theorem ggX8_play_X8_attempt : GoodIn wsX8_play wsX8_attempt := goodIn_r _ [32, 1, 11, 33, 13, 34, 35, 25, 36, 37, 38, 39, 23, 40, 41, 42, 43, 44, 45, 46, 47, 16, 48, 49, 50, 51, 52, 53, 54, 55, 56, 57, 58, 59, 60, 61, 62, 21, 63, 64, 65, 66, 22, 67, 68, 69, 70, 24, 71, 26, 27, 28, 82, 83, 84, 85, 86, 87, 88, 89, 90, 91, 92, 93] (by decide +kernel) (by decide +kernel)
set_option maxRecDepth 20000 in
theorem gX8_play_X8_attempt : GoodIn wsX8_play (wsV RX8 63 RX8 yX8_attempt wsX8_attempt) := goodIn_app (goodIn_of _ (by decide +kernel)) ggX8_play_X8_attempt
theorem dX8_play_0 : decode cX8_play 0 = .ok (.aload_n 0, 1) := by decide +kernel
theorem dX8_play_1 : decode cX8_play 1 = .ok (.aload_n 2, 1) := by decide +kernel
theorem dX8_play_2 : decode cX8_play 2 = .ok (.invokevirtual 38, 3) := by decide +kernel
theorem dX8_play_5 : decode cX8_play 5 = .ok (.iconst 0, 1) := by decide +kernel
theorem dX8_play_6 : decode cX8_play 6 = .ok (.istore_n 3, 1) := by decide +kernel
theorem dX8_play_7 : decode cX8_play 7 = .ok (.iload_n 3, 1) := by decide +kernel
theorem dX8_play_8 : decode cX8_play 8 = .ok (.aload_n 1, 1) := by decide +kernel
theorem dX8_play_9 : decode cX8_play 9 = .ok (.getfield 41, 3) := by decide +kernel
theorem dX8_play_12 : decode cX8_play 12 = .ok (.if_icmp .ge 121, 3) := by decide +kernel
theorem dX8_play_15 : decode cX8_play 15 = .ok (.iload_n 3, 1) := by decide +kernel
theorem dX8_play_16 : decode cX8_play 16 = .ok (.bipush 60, 2) := by decide +kernel
theorem dX8_play_18 : decode cX8_play 18 = .ok (.if_icmp .ge 115, 3) := by decide +kernel
theorem dX8_play_21 : decode cX8_play 21 = .ok (.aload_n 1, 1) := by decide +kernel
theorem dX8_play_22 : decode cX8_play 22 = .ok (.getfield 46, 3) := by decide +kernel
theorem dX8_play_25 : decode cX8_play 25 = .ok (.iload_n 3, 1) := by decide +kernel
theorem dX8_play_26 : decode cX8_play 26 = .ok (.iaload, 1) := by decide +kernel
theorem dX8_play_27 : decode cX8_play 27 = .ok (.istore 4, 2) := by decide +kernel
theorem dX8_play_29 : decode cX8_play 29 = .ok (.iload 4, 2) := by decide +kernel
theorem dX8_play_31 : decode cX8_play 31 = .ok (.iconst 4, 1) := by decide +kernel
theorem dX8_play_32 : decode cX8_play 32 = .ok (.if_icmp .ne 13, 3) := by decide +kernel
theorem dX8_play_35 : decode cX8_play 35 = .ok (.aload_n 0, 1) := by decide +kernel
theorem dX8_play_36 : decode cX8_play 36 = .ok (.getfield 12, 3) := by decide +kernel
theorem dX8_play_39 : decode cX8_play 39 = .ok (.invokevirtual 50, 3) := by decide +kernel
theorem dX8_play_42 : decode cX8_play 42 = .ok (.goto 9, 3) := by decide +kernel
theorem dX8_play_45 : decode cX8_play 45 = .ok (.aload_n 1, 1) := by decide +kernel
theorem dX8_play_46 : decode cX8_play 46 = .ok (.getfield 54, 3) := by decide +kernel
theorem dX8_play_49 : decode cX8_play 49 = .ok (.iload_n 3, 1) := by decide +kernel
theorem dX8_play_50 : decode cX8_play 50 = .ok (.iaload, 1) := by decide +kernel
theorem dX8_play_51 : decode cX8_play 51 = .ok (.istore 5, 2) := by decide +kernel
theorem dX8_play_53 : decode cX8_play 53 = .ok (.aload_n 0, 1) := by decide +kernel
theorem dX8_play_54 : decode cX8_play 54 = .ok (.iload 4, 2) := by decide +kernel
theorem dX8_play_56 : decode cX8_play 56 = .ok (.aload_n 1, 1) := by decide +kernel
theorem dX8_play_57 : decode cX8_play 57 = .ok (.getfield 54, 3) := by decide +kernel
theorem dX8_play_60 : decode cX8_play 60 = .ok (.iload_n 3, 1) := by decide +kernel
theorem dX8_play_61 : decode cX8_play 61 = .ok (.iaload, 1) := by decide +kernel
theorem dX8_play_62 : decode cX8_play 62 = .ok (.aload_n 1, 1) := by decide +kernel
theorem dX8_play_63 : decode cX8_play 63 = .ok (.getfield 57, 3) := by decide +kernel
theorem dX8_play_66 : decode cX8_play 66 = .ok (.iload_n 3, 1) := by decide +kernel
theorem dX8_play_67 : decode cX8_play 67 = .ok (.iaload, 1) := by decide +kernel
theorem dX8_play_68 : decode cX8_play 68 = .ok (.aload_n 1, 1) := by decide +kernel
theorem dX8_play_69 : decode cX8_play 69 = .ok (.getfield 60, 3) := by decide +kernel
theorem dX8_play_72 : decode cX8_play 72 = .ok (.iload_n 3, 1) := by decide +kernel
theorem dX8_play_73 : decode cX8_play 73 = .ok (.iaload, 1) := by decide +kernel
theorem dX8_play_74 : decode cX8_play 74 = .ok (.invokevirtual 63, 3) := by decide +kernel
theorem dX8_play_77 : decode cX8_play 77 = .ok (.istore 6, 2) := by decide +kernel
theorem dX8_play_79 : decode cX8_play 79 = .ok (.iload 6, 2) := by decide +kernel
theorem dX8_play_81 : decode cX8_play 81 = .ok (.ifCond .eq 15, 3) := by decide +kernel
theorem dX8_play_84 : decode cX8_play 84 = .ok (.aload_n 0, 1) := by decide +kernel
theorem dX8_play_85 : decode cX8_play 85 = .ok (.iload_n 3, 1) := by decide +kernel
theorem dX8_play_86 : decode cX8_play 86 = .ok (.putfield 22, 3) := by decide +kernel
theorem dX8_play_89 : decode cX8_play 89 = .ok (.aload_n 0, 1) := by decide +kernel
theorem dX8_play_90 : decode cX8_play 90 = .ok (.iload 6, 2) := by decide +kernel
theorem dX8_play_92 : decode cX8_play 92 = .ok (.putfield 26, 3) := by decide +kernel
theorem dX8_play_95 : decode cX8_play 95 = .ok (.return_, 1) := by decide +kernel
theorem dX8_play_96 : decode cX8_play 96 = .ok (.aload_n 0, 1) := by decide +kernel
theorem dX8_play_97 : decode cX8_play 97 = .ok (.getfield 32, 3) := by decide +kernel
theorem dX8_play_100 : decode cX8_play 100 = .ok (.bipush (-6), 2) := by decide +kernel
theorem dX8_play_102 : decode cX8_play 102 = .ok (.if_icmp .ne 25, 3) := by decide +kernel
theorem dX8_play_105 : decode cX8_play 105 = .ok (.iload 4, 2) := by decide +kernel
theorem dX8_play_107 : decode cX8_play 107 = .ok (.iconst 4, 1) := by decide +kernel
theorem dX8_play_108 : decode cX8_play 108 = .ok (.if_icmp .eq 8, 3) := by decide +kernel
theorem dX8_play_111 : decode cX8_play 111 = .ok (.iload 4, 2) := by decide +kernel
theorem dX8_play_113 : decode cX8_play 113 = .ok (.ifCond .ne 14, 3) := by decide +kernel
theorem dX8_play_116 : decode cX8_play 116 = .ok (.aload_n 0, 1) := by decide +kernel
theorem dX8_play_117 : decode cX8_play 117 = .ok (.iload_n 3, 1) := by decide +kernel
theorem dX8_play_118 : decode cX8_play 118 = .ok (.putfield 32, 3) := by decide +kernel
theorem dX8_play_121 : decode cX8_play 121 = .ok (.aload_n 0, 1) := by decide +kernel
theorem dX8_play_122 : decode cX8_play 122 = .ok (.iload 5, 2) := by decide +kernel
theorem dX8_play_124 : decode cX8_play 124 = .ok (.putfield 35, 3) := by decide +kernel
theorem dX8_play_127 : decode cX8_play 127 = .ok (.iinc 3 1, 3) := by decide +kernel
theorem dX8_play_130 : decode cX8_play 130 = .ok (.goto (-123), 3) := by decide +kernel
theorem dX8_play_133 : decode cX8_play 133 = .ok (.return_, 1) := by decide +kernel
set_option maxRecDepth 20000 in
theorem ggX8_attempt_X5_reasonAgainst : GoodIn wsX8_attempt wsX5_reasonAgainst := goodIn_r _ [6, 7, 8, 9, 10, 4, 11, 12, 13, 14, 15, 16, 17, 18, 19, 20, 21, 58, 59, 60, 61, 62, 63] (by decide +kernel) (by decide +kernel)
set_option maxRecDepth 20000 in
theorem gX8_attempt_X5_reasonAgainst_n67 : GoodIn wsX8_attempt (wsX5_reasonAgainst) := ggX8_attempt_X5_reasonAgainst
set_option maxRecDepth 20000 in
theorem ggX8_attempt_X5_perform : GoodIn wsX8_attempt wsX5_perform := goodIn_r _ [24, 25, 26, 27, 4, 28, 12, 29, 30, 31, 32, 21, 33, 34, 35, 36, 37, 38, 39, 40, 41, 42, 43, 44, 45, 46, 47, 7, 48, 49, 50, 51, 58, 59, 60, 61, 62, 63] (by decide +kernel) (by decide +kernel)
set_option maxRecDepth 20000 in
theorem gX8_attempt_X5_perform_n70 : GoodIn wsX8_attempt (wsX5_perform) := ggX8_attempt_X5_perform
theorem dX8_attempt_0 : decode cX8_attempt 0 = .ok (.aload_n 0, 1) := by decide +kernel
theorem dX8_attempt_1 : decode cX8_attempt 1 = .ok (.getfield 12, 3) := by decide +kernel
theorem dX8_attempt_4 : decode cX8_attempt 4 = .ok (.iload_n 1, 1) := by decide +kernel
theorem dX8_attempt_5 : decode cX8_attempt 5 = .ok (.iload_n 2, 1) := by decide +kernel
theorem dX8_attempt_6 : decode cX8_attempt 6 = .ok (.iload_n 3, 1) := by decide +kernel
theorem dX8_attempt_7 : decode cX8_attempt 7 = .ok (.iload 4, 2) := by decide +kernel
theorem dX8_attempt_9 : decode cX8_attempt 9 = .ok (.invokevirtual 67, 3) := by decide +kernel
theorem dX8_attempt_12 : decode cX8_attempt 12 = .ok (.istore 5, 2) := by decide +kernel
theorem dX8_attempt_14 : decode cX8_attempt 14 = .ok (.iload 5, 2) := by decide +kernel
theorem dX8_attempt_16 : decode cX8_attempt 16 = .ok (.ifCond .ne 31, 3) := by decide +kernel
theorem dX8_attempt_19 : decode cX8_attempt 19 = .ok (.aload_n 0, 1) := by decide +kernel
theorem dX8_attempt_20 : decode cX8_attempt 20 = .ok (.getfield 12, 3) := by decide +kernel
theorem dX8_attempt_23 : decode cX8_attempt 23 = .ok (.iload_n 1, 1) := by decide +kernel
theorem dX8_attempt_24 : decode cX8_attempt 24 = .ok (.iload_n 2, 1) := by decide +kernel
theorem dX8_attempt_25 : decode cX8_attempt 25 = .ok (.iload_n 3, 1) := by decide +kernel
theorem dX8_attempt_26 : decode cX8_attempt 26 = .ok (.iload 4, 2) := by decide +kernel
theorem dX8_attempt_28 : decode cX8_attempt 28 = .ok (.invokevirtual 70, 3) := by decide +kernel
theorem dX8_attempt_31 : decode cX8_attempt 31 = .ok (.iload_n 1, 1) := by decide +kernel
theorem dX8_attempt_32 : decode cX8_attempt 32 = .ok (.iconst 2, 1) := by decide +kernel
theorem dX8_attempt_33 : decode cX8_attempt 33 = .ok (.if_icmp .ne 14, 3) := by decide +kernel
theorem dX8_attempt_36 : decode cX8_attempt 36 = .ok (.aload_n 0, 1) := by decide +kernel
theorem dX8_attempt_37 : decode cX8_attempt 37 = .ok (.dup, 1) := by decide +kernel
theorem dX8_attempt_38 : decode cX8_attempt 38 = .ok (.getfield 29, 3) := by decide +kernel
theorem dX8_attempt_41 : decode cX8_attempt 41 = .ok (.iload 4, 2) := by decide +kernel
theorem dX8_attempt_43 : decode cX8_attempt 43 = .ok (.iadd, 1) := by decide +kernel
theorem dX8_attempt_44 : decode cX8_attempt 44 = .ok (.putfield 29, 3) := by decide +kernel
theorem dX8_attempt_47 : decode cX8_attempt 47 = .ok (.iload 5, 2) := by decide +kernel
theorem dX8_attempt_49 : decode cX8_attempt 49 = .ok (.ireturn, 1) := by decide +kernel
set_option maxRecDepth 20000 in
theorem ggX9_init_X5_init : GoodIn wsX9_init wsX5_init := goodIn_r _ [42, 43, 2, 3, 44, 45, 46, 47, 94, 95, 96, 97, 98, 99] (by decide +kernel) (by decide +kernel)
set_option maxRecDepth 20000 in
theorem gX9_init_X5_init_n9 : GoodIn wsX9_init (wsX5_init) := ggX9_init_X5_init
set_option maxRecDepth 20000 in
theorem ggX9_init_X3_init : GoodIn wsX9_init wsX3_init := goodIn_r _ [49, 50, 2, 3, 44, 51, 110] (by decide +kernel) (by decide +kernel)
set_option maxRecDepth 20000 in
theorem gX9_init_X3_init_n18 : GoodIn wsX9_init (wsX3_init) := ggX9_init_X3_init
set_option maxRecDepth 20000 in
theorem ggX9_init_X7_init : GoodIn wsX9_init wsX7_init := goodIn_r _ [53, 54, 2, 3, 44, 55, 56, 111, 112, 113] (by decide +kernel) (by decide +kernel)
set_option maxRecDepth 20000 in
theorem gX9_init_X7_init_n25 : GoodIn wsX9_init (wsX7_init) := ggX9_init_X7_init
set_option maxRecDepth 20000 in
theorem ggX9_init_X4_init : GoodIn wsX9_init wsX4_init := goodIn_r _ [58, 59, 2, 3, 44, 60, 61, 62, 63, 64, 65, 114, 115, 116, 117, 118, 119, 120, 121, 122, 123] (by decide +kernel) (by decide +kernel)
set_option maxRecDepth 20000 in
theorem gX9_init_X4_init_n32 : GoodIn wsX9_init (wsX4_init) := ggX9_init_X4_init
set_option maxRecDepth 20000 in
theorem ggX9_init_X8_init : GoodIn wsX9_init wsX8_init := goodIn_r _ [67, 68, 2, 3, 69, 5, 6, 70, 41, 42, 43, 44, 45, 46, 47, 94, 95, 96, 97, 98, 99, 124, 125, 126, 127, 128, 129] (by decide +kernel) (by decide +kernel)
set_option maxRecDepth 20000 in
theorem gX9_init_X8_init_n39 : GoodIn wsX9_init (wsX8_init) := ggX9_init_X8_init
set_option maxRecDepth 20000 in
theorem ggX9_init_X0_init : GoodIn wsX9_init wsX0_init := goodIn_r _ [72, 73, 2, 3, 44, 74, 75, 130, 131, 132] (by decide +kernel) (by decide +kernel)
set_option maxRecDepth 20000 in
theorem gX9_init_X0_init_n46 : GoodIn wsX9_init (wsX0_init) := ggX9_init_X0_init
set_option maxRecDepth 20000 in
theorem ggX9_init_X6_init : GoodIn wsX9_init wsX6_init := goodIn_r _ [77, 78, 2, 3, 44, 79, 133] (by decide +kernel) (by decide +kernel)
set_option maxRecDepth 20000 in
theorem gX9_init_X6_init_n53 : GoodIn wsX9_init (wsX6_init) := ggX9_init_X6_init
set_option maxRecDepth 20000 in
theorem ggX9_init_X1_init : GoodIn wsX9_init wsX1_init := goodIn_r _ [81, 82, 2, 3, 44, 83, 84, 134, 135, 136, 137, 138] (by decide +kernel) (by decide +kernel)
set_option maxRecDepth 20000 in
theorem gX9_init_X1_init_n60 : GoodIn wsX9_init (wsX1_init) := ggX9_init_X1_init
set_option maxRecDepth 20000 in
theorem ggX9_init_X2_init : GoodIn wsX9_init wsX2_init := goodIn_r _ [86, 87, 2, 3, 88, 5, 6, 89, 90, 9, 10, 91, 92, 13, 14, 93, 41, 42, 43, 44, 45, 46, 47, 48, 49, 50, 51, 52, 53, 54, 55, 56, 94, 95, 96, 97, 98, 99, 139, 140, 141, 142, 110, 111, 112, 113] (by decide +kernel) (by decide +kernel)
set_option maxRecDepth 20000 in
theorem gX9_init_X2_init_n67 : GoodIn wsX9_init (wsX2_init) := ggX9_init_X2_init
theorem dX9_init_0 : decode cX9_init 0 = .ok (.aload_n 0, 1) := by decide +kernel
theorem dX9_init_1 : decode cX9_init 1 = .ok (.invokespecial 1, 3) := by decide +kernel
theorem dX9_init_4 : decode cX9_init 4 = .ok (.aload_n 0, 1) := by decide +kernel
theorem dX9_init_5 : decode cX9_init 5 = .ok (.new 7, 3) := by decide +kernel
theorem dX9_init_8 : decode cX9_init 8 = .ok (.dup, 1) := by decide +kernel
theorem dX9_init_9 : decode cX9_init 9 = .ok (.invokespecial 9, 3) := by decide +kernel
theorem dX9_init_12 : decode cX9_init 12 = .ok (.putfield 10, 3) := by decide +kernel
theorem dX9_init_15 : decode cX9_init 15 = .ok (.aload_n 0, 1) := by decide +kernel
theorem dX9_init_16 : decode cX9_init 16 = .ok (.new 16, 3) := by decide +kernel
theorem dX9_init_19 : decode cX9_init 19 = .ok (.dup, 1) := by decide +kernel
theorem dX9_init_20 : decode cX9_init 20 = .ok (.invokespecial 18, 3) := by decide +kernel
theorem dX9_init_23 : decode cX9_init 23 = .ok (.putfield 19, 3) := by decide +kernel
theorem dX9_init_26 : decode cX9_init 26 = .ok (.aload_n 0, 1) := by decide +kernel
theorem dX9_init_27 : decode cX9_init 27 = .ok (.new 23, 3) := by decide +kernel
theorem dX9_init_30 : decode cX9_init 30 = .ok (.dup, 1) := by decide +kernel
theorem dX9_init_31 : decode cX9_init 31 = .ok (.invokespecial 25, 3) := by decide +kernel
theorem dX9_init_34 : decode cX9_init 34 = .ok (.putfield 26, 3) := by decide +kernel
theorem dX9_init_37 : decode cX9_init 37 = .ok (.aload_n 0, 1) := by decide +kernel
theorem dX9_init_38 : decode cX9_init 38 = .ok (.new 30, 3) := by decide +kernel
theorem dX9_init_41 : decode cX9_init 41 = .ok (.dup, 1) := by decide +kernel
theorem dX9_init_42 : decode cX9_init 42 = .ok (.invokespecial 32, 3) := by decide +kernel
theorem dX9_init_45 : decode cX9_init 45 = .ok (.putfield 33, 3) := by decide +kernel
theorem dX9_init_48 : decode cX9_init 48 = .ok (.aload_n 0, 1) := by decide +kernel
theorem dX9_init_49 : decode cX9_init 49 = .ok (.new 37, 3) := by decide +kernel
theorem dX9_init_52 : decode cX9_init 52 = .ok (.dup, 1) := by decide +kernel
theorem dX9_init_53 : decode cX9_init 53 = .ok (.invokespecial 39, 3) := by decide +kernel
theorem dX9_init_56 : decode cX9_init 56 = .ok (.putfield 40, 3) := by decide +kernel
theorem dX9_init_59 : decode cX9_init 59 = .ok (.aload_n 0, 1) := by decide +kernel
theorem dX9_init_60 : decode cX9_init 60 = .ok (.new 44, 3) := by decide +kernel
theorem dX9_init_63 : decode cX9_init 63 = .ok (.dup, 1) := by decide +kernel
theorem dX9_init_64 : decode cX9_init 64 = .ok (.invokespecial 46, 3) := by decide +kernel
theorem dX9_init_67 : decode cX9_init 67 = .ok (.putfield 47, 3) := by decide +kernel
theorem dX9_init_70 : decode cX9_init 70 = .ok (.aload_n 0, 1) := by decide +kernel
theorem dX9_init_71 : decode cX9_init 71 = .ok (.new 51, 3) := by decide +kernel
theorem dX9_init_74 : decode cX9_init 74 = .ok (.dup, 1) := by decide +kernel
theorem dX9_init_75 : decode cX9_init 75 = .ok (.invokespecial 53, 3) := by decide +kernel
theorem dX9_init_78 : decode cX9_init 78 = .ok (.putfield 54, 3) := by decide +kernel
theorem dX9_init_81 : decode cX9_init 81 = .ok (.aload_n 0, 1) := by decide +kernel
theorem dX9_init_82 : decode cX9_init 82 = .ok (.new 58, 3) := by decide +kernel
theorem dX9_init_85 : decode cX9_init 85 = .ok (.dup, 1) := by decide +kernel
theorem dX9_init_86 : decode cX9_init 86 = .ok (.invokespecial 60, 3) := by decide +kernel
theorem dX9_init_89 : decode cX9_init 89 = .ok (.putfield 61, 3) := by decide +kernel
theorem dX9_init_92 : decode cX9_init 92 = .ok (.aload_n 0, 1) := by decide +kernel
theorem dX9_init_93 : decode cX9_init 93 = .ok (.new 65, 3) := by decide +kernel
theorem dX9_init_96 : decode cX9_init 96 = .ok (.dup, 1) := by decide +kernel
theorem dX9_init_97 : decode cX9_init 97 = .ok (.invokespecial 67, 3) := by decide +kernel
theorem dX9_init_100 : decode cX9_init 100 = .ok (.putfield 68, 3) := by decide +kernel
theorem dX9_init_103 : decode cX9_init 103 = .ok (.aload_n 0, 1) := by decide +kernel
theorem dX9_init_104 : decode cX9_init 104 = .ok (.new 65, 3) := by decide +kernel
theorem dX9_init_107 : decode cX9_init 107 = .ok (.dup, 1) := by decide +kernel
theorem dX9_init_108 : decode cX9_init 108 = .ok (.invokespecial 67, 3) := by decide +kernel
theorem dX9_init_111 : decode cX9_init 111 = .ok (.putfield 72, 3) := by decide +kernel
theorem dX9_init_114 : decode cX9_init 114 = .ok (.return_, 1) := by decide +kernel
set_option maxRecDepth 20000 in
theorem ggX9_house_X9_isHouse : GoodIn wsX9_house wsX9_isHouse := goodIn_r _ [5] (by decide +kernel) (by decide +kernel)
set_option maxRecDepth 20000 in
theorem gX9_house_X9_isHouse : GoodIn wsX9_house (va_wsS RX9 75 yX9_isHouse wsX9_isHouse) := goodIn_app (goodIn_of _ (by decide +kernel)) ggX9_house_X9_isHouse
set_option maxRecDepth 20000 in
theorem ggX9_house_X9_within : GoodIn wsX9_house wsX9_within := goodIn_r _ [8] (by decide +kernel) (by decide +kernel)
set_option maxRecDepth 20000 in
theorem gX9_house_X9_within : GoodIn wsX9_house (va_wsS RX9 79 yX9_within wsX9_within) := goodIn_app (goodIn_of _ (by decide +kernel)) ggX9_house_X9_within
set_option maxRecDepth 20000 in
theorem ggX9_house_X5_setIn : GoodIn wsX9_house wsX5_setIn := goodIn_r _ [12, 13, 24, 25, 26, 27, 28, 29] (by decide +kernel) (by decide +kernel)
set_option maxRecDepth 20000 in
theorem gX9_house_X5_setIn_n87 : GoodIn wsX9_house (wsX5_setIn) := ggX9_house_X5_setIn
theorem dX9_house_0 : decode cX9_house 0 = .ok (.iload_n 1, 1) := by decide +kernel
theorem dX9_house_1 : decode cX9_house 1 = .ok (.invokestatic 75, 3) := by decide +kernel
theorem dX9_house_4 : decode cX9_house 4 = .ok (.ifCond .ne 5, 3) := by decide +kernel
theorem dX9_house_7 : decode cX9_house 7 = .ok (.iconst (-1), 1) := by decide +kernel
theorem dX9_house_8 : decode cX9_house 8 = .ok (.ireturn, 1) := by decide +kernel
theorem dX9_house_9 : decode cX9_house 9 = .ok (.iload_n 2, 1) := by decide +kernel
theorem dX9_house_10 : decode cX9_house 10 = .ok (.iconst 0, 1) := by decide +kernel
theorem dX9_house_11 : decode cX9_house 11 = .ok (.sipush 999, 3) := by decide +kernel
theorem dX9_house_14 : decode cX9_house 14 = .ok (.invokestatic 79, 3) := by decide +kernel
theorem dX9_house_17 : decode cX9_house 17 = .ok (.ifCond .eq 12, 3) := by decide +kernel
theorem dX9_house_20 : decode cX9_house 20 = .ok (.iload_n 3, 1) := by decide +kernel
theorem dX9_house_21 : decode cX9_house 21 = .ok (.iconst 0, 1) := by decide +kernel
theorem dX9_house_22 : decode cX9_house 22 = .ok (.iconst 1, 1) := by decide +kernel
theorem dX9_house_23 : decode cX9_house 23 = .ok (.invokestatic 79, 3) := by decide +kernel
theorem dX9_house_26 : decode cX9_house 26 = .ok (.ifCond .ne 6, 3) := by decide +kernel
theorem dX9_house_29 : decode cX9_house 29 = .ok (.bipush (-2), 2) := by decide +kernel
theorem dX9_house_31 : decode cX9_house 31 = .ok (.ireturn, 1) := by decide +kernel
theorem dX9_house_32 : decode cX9_house 32 = .ok (.aload_n 0, 1) := by decide +kernel
theorem dX9_house_33 : decode cX9_house 33 = .ok (.getfield 10, 3) := by decide +kernel
theorem dX9_house_36 : decode cX9_house 36 = .ok (.getfield 83, 3) := by decide +kernel
theorem dX9_house_39 : decode cX9_house 39 = .ok (.iload_n 1, 1) := by decide +kernel
theorem dX9_house_40 : decode cX9_house 40 = .ok (.iaload, 1) := by decide +kernel
theorem dX9_house_41 : decode cX9_house 41 = .ok (.istore 4, 2) := by decide +kernel
theorem dX9_house_43 : decode cX9_house 43 = .ok (.aload_n 0, 1) := by decide +kernel
theorem dX9_house_44 : decode cX9_house 44 = .ok (.getfield 10, 3) := by decide +kernel
theorem dX9_house_47 : decode cX9_house 47 = .ok (.getfield 83, 3) := by decide +kernel
theorem dX9_house_50 : decode cX9_house 50 = .ok (.iload_n 1, 1) := by decide +kernel
theorem dX9_house_51 : decode cX9_house 51 = .ok (.iload_n 2, 1) := by decide +kernel
theorem dX9_house_52 : decode cX9_house 52 = .ok (.iastore, 1) := by decide +kernel
theorem dX9_house_53 : decode cX9_house 53 = .ok (.aload_n 0, 1) := by decide +kernel
theorem dX9_house_54 : decode cX9_house 54 = .ok (.getfield 10, 3) := by decide +kernel
theorem dX9_house_57 : decode cX9_house 57 = .ok (.iload_n 1, 1) := by decide +kernel
theorem dX9_house_58 : decode cX9_house 58 = .ok (.iload_n 3, 1) := by decide +kernel
theorem dX9_house_59 : decode cX9_house 59 = .ok (.iconst 1, 1) := by decide +kernel
theorem dX9_house_60 : decode cX9_house 60 = .ok (.if_icmp .ne 7, 3) := by decide +kernel
theorem dX9_house_63 : decode cX9_house 63 = .ok (.iconst 1, 1) := by decide +kernel
theorem dX9_house_64 : decode cX9_house 64 = .ok (.goto 4, 3) := by decide +kernel
theorem dX9_house_67 : decode cX9_house 67 = .ok (.iconst 0, 1) := by decide +kernel
theorem dX9_house_68 : decode cX9_house 68 = .ok (.invokevirtual 87, 3) := by decide +kernel
theorem dX9_house_71 : decode cX9_house 71 = .ok (.iload 4, 2) := by decide +kernel
theorem dX9_house_73 : decode cX9_house 73 = .ok (.ireturn, 1) := by decide +kernel
set_option maxRecDepth 20000 in
theorem ggX9_gave_X9_areTwoHouses : GoodIn wsX9_gave wsX9_areTwoHouses := goodIn_r _ [5, 6, 7, 4, 8] (by decide +kernel) (by decide +kernel)
set_option maxRecDepth 20000 in
theorem gX9_gave_X9_areTwoHouses : GoodIn wsX9_gave (va_wsS RX9 91 yX9_areTwoHouses wsX9_areTwoHouses) := goodIn_app (goodIn_of _ (by decide +kernel)) ggX9_gave_X9_areTwoHouses
set_option maxRecDepth 20000 in
theorem ggX9_gave_X9_within : GoodIn wsX9_gave wsX9_within := goodIn_r _ [11] (by decide +kernel) (by decide +kernel)
set_option maxRecDepth 20000 in
theorem gX9_gave_X9_within : GoodIn wsX9_gave (va_wsS RX9 79 yX9_within wsX9_within) := goodIn_app (goodIn_of _ (by decide +kernel)) ggX9_gave_X9_within
theorem dX9_gave_0 : decode cX9_gave 0 = .ok (.iload_n 1, 1) := by decide +kernel
theorem dX9_gave_1 : decode cX9_gave 1 = .ok (.iload_n 2, 1) := by decide +kernel
theorem dX9_gave_2 : decode cX9_gave 2 = .ok (.invokestatic 91, 3) := by decide +kernel
theorem dX9_gave_5 : decode cX9_gave 5 = .ok (.ifCond .ne 5, 3) := by decide +kernel
theorem dX9_gave_8 : decode cX9_gave 8 = .ok (.iconst (-1), 1) := by decide +kernel
theorem dX9_gave_9 : decode cX9_gave 9 = .ok (.ireturn, 1) := by decide +kernel
theorem dX9_gave_10 : decode cX9_gave 10 = .ok (.iload_n 3, 1) := by decide +kernel
theorem dX9_gave_11 : decode cX9_gave 11 = .ok (.iconst 0, 1) := by decide +kernel
theorem dX9_gave_12 : decode cX9_gave 12 = .ok (.sipush 999, 3) := by decide +kernel
theorem dX9_gave_15 : decode cX9_gave 15 = .ok (.invokestatic 79, 3) := by decide +kernel
theorem dX9_gave_18 : decode cX9_gave 18 = .ok (.ifCond .ne 6, 3) := by decide +kernel
theorem dX9_gave_21 : decode cX9_gave 21 = .ok (.bipush (-2), 2) := by decide +kernel
theorem dX9_gave_23 : decode cX9_gave 23 = .ok (.ireturn, 1) := by decide +kernel
theorem dX9_gave_24 : decode cX9_gave 24 = .ok (.aload_n 0, 1) := by decide +kernel
theorem dX9_gave_25 : decode cX9_gave 25 = .ok (.getfield 10, 3) := by decide +kernel
theorem dX9_gave_28 : decode cX9_gave 28 = .ok (.getfield 95, 3) := by decide +kernel
theorem dX9_gave_31 : decode cX9_gave 31 = .ok (.iload_n 1, 1) := by decide +kernel
theorem dX9_gave_32 : decode cX9_gave 32 = .ok (.bipush 8, 2) := by decide +kernel
theorem dX9_gave_34 : decode cX9_gave 34 = .ok (.imul, 1) := by decide +kernel
theorem dX9_gave_35 : decode cX9_gave 35 = .ok (.iload_n 2, 1) := by decide +kernel
theorem dX9_gave_36 : decode cX9_gave 36 = .ok (.iadd, 1) := by decide +kernel
theorem dX9_gave_37 : decode cX9_gave 37 = .ok (.iaload, 1) := by decide +kernel
theorem dX9_gave_38 : decode cX9_gave 38 = .ok (.istore 4, 2) := by decide +kernel
theorem dX9_gave_40 : decode cX9_gave 40 = .ok (.aload_n 0, 1) := by decide +kernel
theorem dX9_gave_41 : decode cX9_gave 41 = .ok (.getfield 10, 3) := by decide +kernel
theorem dX9_gave_44 : decode cX9_gave 44 = .ok (.getfield 95, 3) := by decide +kernel
theorem dX9_gave_47 : decode cX9_gave 47 = .ok (.iload_n 1, 1) := by decide +kernel
theorem dX9_gave_48 : decode cX9_gave 48 = .ok (.bipush 8, 2) := by decide +kernel
theorem dX9_gave_50 : decode cX9_gave 50 = .ok (.imul, 1) := by decide +kernel
theorem dX9_gave_51 : decode cX9_gave 51 = .ok (.iload_n 2, 1) := by decide +kernel
theorem dX9_gave_52 : decode cX9_gave 52 = .ok (.iadd, 1) := by decide +kernel
theorem dX9_gave_53 : decode cX9_gave 53 = .ok (.iload_n 3, 1) := by decide +kernel
theorem dX9_gave_54 : decode cX9_gave 54 = .ok (.iastore, 1) := by decide +kernel
theorem dX9_gave_55 : decode cX9_gave 55 = .ok (.iload 4, 2) := by decide +kernel
theorem dX9_gave_57 : decode cX9_gave 57 = .ok (.ireturn, 1) := by decide +kernel
set_option maxRecDepth 20000 in
theorem ggX9_map_X9_isRow : GoodIn wsX9_map wsX9_isRow := goodIn_r _ [5] (by decide +kernel) (by decide +kernel)
set_option maxRecDepth 20000 in
theorem gX9_map_X9_isRow : GoodIn wsX9_map (va_wsS RX9 98 yX9_isRow wsX9_isRow) := goodIn_app (goodIn_of _ (by decide +kernel)) ggX9_map_X9_isRow
set_option maxRecDepth 20000 in
theorem ggX9_map_X9_within : GoodIn wsX9_map wsX9_within := goodIn_r _ [8] (by decide +kernel) (by decide +kernel)
set_option maxRecDepth 20000 in
theorem gX9_map_X9_within : GoodIn wsX9_map (va_wsS RX9 79 yX9_within wsX9_within) := goodIn_app (goodIn_of _ (by decide +kernel)) ggX9_map_X9_within
set_option maxRecDepth 20000 in
theorem ggX9_map_X5_rowNumber : GoodIn wsX9_map wsX5_rowNumber := goodIn_r _ [12, 13, 27, 28, 29, 30, 31, 32] (by decide +kernel) (by decide +kernel)
set_option maxRecDepth 20000 in
theorem gX9_map_X5_rowNumber_n101 : GoodIn wsX9_map (wsX5_rowNumber) := ggX9_map_X5_rowNumber
set_option maxRecDepth 20000 in
theorem ggX9_map_X5_setRow : GoodIn wsX9_map wsX5_setRow := goodIn_r _ [16, 13, 27, 28, 29, 30, 31, 32] (by decide +kernel) (by decide +kernel)
set_option maxRecDepth 20000 in
theorem gX9_map_X5_setRow_n109 : GoodIn wsX9_map (wsX5_setRow) := ggX9_map_X5_setRow
theorem dX9_map_0 : decode cX9_map 0 = .ok (.iload_n 1, 1) := by decide +kernel
theorem dX9_map_1 : decode cX9_map 1 = .ok (.invokestatic 98, 3) := by decide +kernel
theorem dX9_map_4 : decode cX9_map 4 = .ok (.ifCond .eq 13, 3) := by decide +kernel
theorem dX9_map_7 : decode cX9_map 7 = .ok (.iload_n 2, 1) := by decide +kernel
theorem dX9_map_8 : decode cX9_map 8 = .ok (.iconst 0, 1) := by decide +kernel
theorem dX9_map_9 : decode cX9_map 9 = .ok (.bipush 7, 2) := by decide +kernel
theorem dX9_map_11 : decode cX9_map 11 = .ok (.invokestatic 79, 3) := by decide +kernel
theorem dX9_map_14 : decode cX9_map 14 = .ok (.ifCond .ne 6, 3) := by decide +kernel
theorem dX9_map_17 : decode cX9_map 17 = .ok (.bipush (-2), 2) := by decide +kernel
theorem dX9_map_19 : decode cX9_map 19 = .ok (.ireturn, 1) := by decide +kernel
theorem dX9_map_20 : decode cX9_map 20 = .ok (.aload_n 0, 1) := by decide +kernel
theorem dX9_map_21 : decode cX9_map 21 = .ok (.getfield 10, 3) := by decide +kernel
theorem dX9_map_24 : decode cX9_map 24 = .ok (.invokevirtual 101, 3) := by decide +kernel
theorem dX9_map_27 : decode cX9_map 27 = .ok (.bipush 10, 2) := by decide +kernel
theorem dX9_map_29 : decode cX9_map 29 = .ok (.imul, 1) := by decide +kernel
theorem dX9_map_30 : decode cX9_map 30 = .ok (.aload_n 0, 1) := by decide +kernel
theorem dX9_map_31 : decode cX9_map 31 = .ok (.getfield 10, 3) := by decide +kernel
theorem dX9_map_34 : decode cX9_map 34 = .ok (.getfield 105, 3) := by decide +kernel
theorem dX9_map_37 : decode cX9_map 37 = .ok (.iadd, 1) := by decide +kernel
theorem dX9_map_38 : decode cX9_map 38 = .ok (.istore_n 3, 1) := by decide +kernel
theorem dX9_map_39 : decode cX9_map 39 = .ok (.aload_n 0, 1) := by decide +kernel
theorem dX9_map_40 : decode cX9_map 40 = .ok (.getfield 10, 3) := by decide +kernel
theorem dX9_map_43 : decode cX9_map 43 = .ok (.iload_n 1, 1) := by decide +kernel
theorem dX9_map_44 : decode cX9_map 44 = .ok (.invokevirtual 109, 3) := by decide +kernel
theorem dX9_map_47 : decode cX9_map 47 = .ok (.aload_n 0, 1) := by decide +kernel
theorem dX9_map_48 : decode cX9_map 48 = .ok (.getfield 10, 3) := by decide +kernel
theorem dX9_map_51 : decode cX9_map 51 = .ok (.iload_n 2, 1) := by decide +kernel
theorem dX9_map_52 : decode cX9_map 52 = .ok (.putfield 105, 3) := by decide +kernel
theorem dX9_map_55 : decode cX9_map 55 = .ok (.iload_n 3, 1) := by decide +kernel
theorem dX9_map_56 : decode cX9_map 56 = .ok (.ireturn, 1) := by decide +kernel
set_option maxRecDepth 20000 in
theorem ggX9_kin_X9_areTwoHouses : GoodIn wsX9_kin wsX9_areTwoHouses := goodIn_r _ [5, 6, 7, 4, 8] (by decide +kernel) (by decide +kernel)
set_option maxRecDepth 20000 in
theorem gX9_kin_X9_areTwoHouses : GoodIn wsX9_kin (va_wsS RX9 91 yX9_areTwoHouses wsX9_areTwoHouses) := goodIn_app (goodIn_of _ (by decide +kernel)) ggX9_kin_X9_areTwoHouses
set_option maxRecDepth 20000 in
theorem ggX9_kin_X3_set : GoodIn wsX9_kin wsX3_set := goodIn_r _ [12, 13, 34] (by decide +kernel) (by decide +kernel)
set_option maxRecDepth 20000 in
theorem gX9_kin_X3_set_n113 : GoodIn wsX9_kin (wsX3_set) := ggX9_kin_X3_set
set_option maxRecDepth 20000 in
theorem ggX9_kin_X3_pairs : GoodIn wsX9_kin wsX3_pairs := goodIn_r _ [16, 13, 17, 18, 19, 20, 21, 22, 23, 34] (by decide +kernel) (by decide +kernel)
set_option maxRecDepth 20000 in
theorem gX9_kin_X3_pairs_n117 : GoodIn wsX9_kin (wsX3_pairs) := ggX9_kin_X3_pairs
theorem dX9_kin_0 : decode cX9_kin 0 = .ok (.iload_n 1, 1) := by decide +kernel
theorem dX9_kin_1 : decode cX9_kin 1 = .ok (.iload_n 2, 1) := by decide +kernel
theorem dX9_kin_2 : decode cX9_kin 2 = .ok (.invokestatic 91, 3) := by decide +kernel
theorem dX9_kin_5 : decode cX9_kin 5 = .ok (.ifCond .ne 5, 3) := by decide +kernel
theorem dX9_kin_8 : decode cX9_kin 8 = .ok (.iconst (-1), 1) := by decide +kernel
theorem dX9_kin_9 : decode cX9_kin 9 = .ok (.ireturn, 1) := by decide +kernel
theorem dX9_kin_10 : decode cX9_kin 10 = .ok (.aload_n 0, 1) := by decide +kernel
theorem dX9_kin_11 : decode cX9_kin 11 = .ok (.getfield 19, 3) := by decide +kernel
theorem dX9_kin_14 : decode cX9_kin 14 = .ok (.iload_n 1, 1) := by decide +kernel
theorem dX9_kin_15 : decode cX9_kin 15 = .ok (.iload_n 2, 1) := by decide +kernel
theorem dX9_kin_16 : decode cX9_kin 16 = .ok (.iload_n 3, 1) := by decide +kernel
theorem dX9_kin_17 : decode cX9_kin 17 = .ok (.invokevirtual 113, 3) := by decide +kernel
theorem dX9_kin_20 : decode cX9_kin 20 = .ok (.aload_n 0, 1) := by decide +kernel
theorem dX9_kin_21 : decode cX9_kin 21 = .ok (.getfield 19, 3) := by decide +kernel
theorem dX9_kin_24 : decode cX9_kin 24 = .ok (.invokevirtual 117, 3) := by decide +kernel
theorem dX9_kin_27 : decode cX9_kin 27 = .ok (.ireturn, 1) := by decide +kernel
set_option maxRecDepth 20000 in
theorem ggX9_say_X9_within : GoodIn wsX9_say wsX9_within := goodIn_r _ [5] (by decide +kernel) (by decide +kernel)
set_option maxRecDepth 20000 in
theorem gX9_say_X9_within : GoodIn wsX9_say (va_wsS RX9 79 yX9_within wsX9_within) := goodIn_app (goodIn_of _ (by decide +kernel)) ggX9_say_X9_within
set_option maxRecDepth 20000 in
theorem ggX9_say_X4_hear : GoodIn wsX9_say wsX4_hear := goodIn_r _ [9, 10, 11, 12, 13, 14, 7, 15, 16, 17, 18, 19, 20, 21, 22, 23, 24, 25, 26, 27, 28, 29, 30, 31, 32, 33, 34, 35, 36, 37, 38, 39, 40, 41, 42, 43, 44, 45, 46, 57, 58, 59, 60, 61, 62, 63, 64, 65, 66] (by decide +kernel) (by decide +kernel)
set_option maxRecDepth 20000 in
theorem gX9_say_X4_hear_n123 : GoodIn wsX9_say (wsX4_hear) := ggX9_say_X4_hear
theorem dX9_say_0 : decode cX9_say 0 = .ok (.iload_n 1, 1) := by decide +kernel
theorem dX9_say_1 : decode cX9_say 1 = .ok (.bipush 33, 2) := by decide +kernel
theorem dX9_say_3 : decode cX9_say 3 = .ok (.bipush 126, 2) := by decide +kernel
theorem dX9_say_5 : decode cX9_say 5 = .ok (.invokestatic 79, 3) := by decide +kernel
theorem dX9_say_8 : decode cX9_say 8 = .ok (.ifCond .ne 6, 3) := by decide +kernel
theorem dX9_say_11 : decode cX9_say 11 = .ok (.bipush (-2), 2) := by decide +kernel
theorem dX9_say_13 : decode cX9_say 13 = .ok (.ireturn, 1) := by decide +kernel
theorem dX9_say_14 : decode cX9_say 14 = .ok (.aload_n 0, 1) := by decide +kernel
theorem dX9_say_15 : decode cX9_say 15 = .ok (.getfield 33, 3) := by decide +kernel
theorem dX9_say_18 : decode cX9_say 18 = .ok (.getfield 120, 3) := by decide +kernel
theorem dX9_say_21 : decode cX9_say 21 = .ok (.bipush 60, 2) := by decide +kernel
theorem dX9_say_23 : decode cX9_say 23 = .ok (.if_icmp .lt 6, 3) := by decide +kernel
theorem dX9_say_26 : decode cX9_say 26 = .ok (.bipush (-4), 2) := by decide +kernel
theorem dX9_say_28 : decode cX9_say 28 = .ok (.ireturn, 1) := by decide +kernel
theorem dX9_say_29 : decode cX9_say 29 = .ok (.aload_n 0, 1) := by decide +kernel
theorem dX9_say_30 : decode cX9_say 30 = .ok (.getfield 33, 3) := by decide +kernel
theorem dX9_say_33 : decode cX9_say 33 = .ok (.iload_n 1, 1) := by decide +kernel
theorem dX9_say_34 : decode cX9_say 34 = .ok (.invokevirtual 123, 3) := by decide +kernel
theorem dX9_say_37 : decode cX9_say 37 = .ok (.aload_n 0, 1) := by decide +kernel
theorem dX9_say_38 : decode cX9_say 38 = .ok (.getfield 33, 3) := by decide +kernel
theorem dX9_say_41 : decode cX9_say 41 = .ok (.getfield 120, 3) := by decide +kernel
theorem dX9_say_44 : decode cX9_say 44 = .ok (.ireturn, 1) := by decide +kernel
set_option maxRecDepth 20000 in
theorem ggX9_wipe_X4_clear : GoodIn wsX9_wipe wsX4_clear := goodIn_r _ [5, 6, 7, 8, 9, 20, 21, 22, 23, 24, 25, 26, 27, 28, 29] (by decide +kernel) (by decide +kernel)
set_option maxRecDepth 20000 in
theorem gX9_wipe_X4_clear_n126 : GoodIn wsX9_wipe (wsX4_clear) := ggX9_wipe_X4_clear
theorem dX9_wipe_0 : decode cX9_wipe 0 = .ok (.aload_n 0, 1) := by decide +kernel
