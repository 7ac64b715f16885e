theorem dX9_within_2 : decode cX9_within 2 = .ok (.if_icmp .lt 12, 3) := by decide +kernel
theorem dX9_within_5 : decode cX9_within 5 = .ok (.iload_n 0, 1) := by decide +kernel
theorem dX9_within_6 : decode cX9_within 6 = .ok (.iload_n 2, 1) := by decide +kernel
theorem dX9_within_7 : decode cX9_within 7 = .ok (.if_icmp .gt 7, 3) := by decide +kernel
theorem dX9_within_10 : decode cX9_within 10 = .ok (.iconst 1, 1) := by decide +kernel
theorem dX9_within_11 : decode cX9_within 11 = .ok (.goto 4, 3) := by decide +kernel
theorem dX9_within_14 : decode cX9_within 14 = .ok (.iconst 0, 1) := by decide +kernel
theorem dX9_within_15 : decode cX9_within 15 = .ok (.ireturn, 1) := by decide +kernel
theorem dX9_isHouse_0 : decode cX9_isHouse 0 = .ok (.iload_n 0, 1) := by decide +kernel
theorem dX9_isHouse_1 : decode cX9_isHouse 1 = .ok (.ifCond .lt 13, 3) := by decide +kernel
theorem dX9_isHouse_4 : decode cX9_isHouse 4 = .ok (.iload_n 0, 1) := by decide +kernel
theorem dX9_isHouse_5 : decode cX9_isHouse 5 = .ok (.bipush 8, 2) := by decide +kernel
theorem dX9_isHouse_7 : decode cX9_isHouse 7 = .ok (.if_icmp .ge 7, 3) := by decide +kernel
theorem dX9_isHouse_10 : decode cX9_isHouse 10 = .ok (.iconst 1, 1) := by decide +kernel
theorem dX9_isHouse_11 : decode cX9_isHouse 11 = .ok (.goto 4, 3) := by decide +kernel
theorem dX9_isHouse_14 : decode cX9_isHouse 14 = .ok (.iconst 0, 1) := by decide +kernel
theorem dX9_isHouse_15 : decode cX9_isHouse 15 = .ok (.ireturn, 1) := by decide +kernel
set_option maxRecDepth 20000 in
theorem ggX9_areTwoHouses_X9_isHouse : GoodIn wsX9_areTwoHouses wsX9_isHouse := goodIn_r _ [4] (by decide +kernel) (by decide +kernel)
set_option maxRecDepth 20000 in
theorem gX9_areTwoHouses_X9_isHouse : GoodIn wsX9_areTwoHouses (va_wsS RX9 75 yX9_isHouse wsX9_isHouse) := goodIn_app (goodIn_of _ (by decide +kernel)) ggX9_areTwoHouses_X9_isHouse
theorem dX9_areTwoHouses_0 : decode cX9_areTwoHouses 0 = .ok (.iload_n 0, 1) := by decide +kernel
theorem dX9_areTwoHouses_1 : decode cX9_areTwoHouses 1 = .ok (.invokestatic 75, 3) := by decide +kernel
theorem dX9_areTwoHouses_4 : decode cX9_areTwoHouses 4 = .ok (.ifCond .eq 19, 3) := by decide +kernel
theorem dX9_areTwoHouses_7 : decode cX9_areTwoHouses 7 = .ok (.iload_n 1, 1) := by decide +kernel
theorem dX9_areTwoHouses_8 : decode cX9_areTwoHouses 8 = .ok (.invokestatic 75, 3) := by decide +kernel
theorem dX9_areTwoHouses_11 : decode cX9_areTwoHouses 11 = .ok (.ifCond .eq 12, 3) := by decide +kernel
theorem dX9_areTwoHouses_14 : decode cX9_areTwoHouses 14 = .ok (.iload_n 0, 1) := by decide +kernel
theorem dX9_areTwoHouses_15 : decode cX9_areTwoHouses 15 = .ok (.iload_n 1, 1) := by decide +kernel
theorem dX9_areTwoHouses_16 : decode cX9_areTwoHouses 16 = .ok (.if_icmp .eq 7, 3) := by decide +kernel
theorem dX9_areTwoHouses_19 : decode cX9_areTwoHouses 19 = .ok (.iconst 1, 1) := by decide +kernel
theorem dX9_areTwoHouses_20 : decode cX9_areTwoHouses 20 = .ok (.goto 4, 3) := by decide +kernel
theorem dX9_areTwoHouses_23 : decode cX9_areTwoHouses 23 = .ok (.iconst 0, 1) := by decide +kernel
theorem dX9_areTwoHouses_24 : decode cX9_areTwoHouses 24 = .ok (.ireturn, 1) := by decide +kernel
theorem dX9_isRow_0 : decode cX9_isRow 0 = .ok (.iload_n 0, 1) := by decide +kernel
theorem dX9_isRow_1 : decode cX9_isRow 1 = .ok (.ifCond .ge 5, 3) := by decide +kernel
theorem dX9_isRow_4 : decode cX9_isRow 4 = .ok (.iconst 0, 1) := by decide +kernel
theorem dX9_isRow_5 : decode cX9_isRow 5 = .ok (.ireturn, 1) := by decide +kernel
theorem dX9_isRow_6 : decode cX9_isRow 6 = .ok (.iload_n 0, 1) := by decide +kernel
theorem dX9_isRow_7 : decode cX9_isRow 7 = .ok (.istore_n 1, 1) := by decide +kernel
theorem dX9_isRow_8 : decode cX9_isRow 8 = .ok (.iconst 0, 1) := by decide +kernel
theorem dX9_isRow_9 : decode cX9_isRow 9 = .ok (.istore_n 2, 1) := by decide +kernel
theorem dX9_isRow_10 : decode cX9_isRow 10 = .ok (.iconst 0, 1) := by decide +kernel
theorem dX9_isRow_11 : decode cX9_isRow 11 = .ok (.istore_n 3, 1) := by decide +kernel
theorem dX9_isRow_12 : decode cX9_isRow 12 = .ok (.iload_n 3, 1) := by decide +kernel
theorem dX9_isRow_13 : decode cX9_isRow 13 = .ok (.bipush 8, 2) := by decide +kernel
theorem dX9_isRow_15 : decode cX9_isRow 15 = .ok (.if_icmp .ge 36, 3) := by decide +kernel
theorem dX9_isRow_18 : decode cX9_isRow 18 = .ok (.iload_n 1, 1) := by decide +kernel
theorem dX9_isRow_19 : decode cX9_isRow 19 = .ok (.bipush 10, 2) := by decide +kernel
theorem dX9_isRow_21 : decode cX9_isRow 21 = .ok (.irem, 1) := by decide +kernel
theorem dX9_isRow_22 : decode cX9_isRow 22 = .ok (.istore 4, 2) := by decide +kernel
theorem dX9_isRow_24 : decode cX9_isRow 24 = .ok (.iload 4, 2) := by decide +kernel
theorem dX9_isRow_26 : decode cX9_isRow 26 = .ok (.bipush 8, 2) := by decide +kernel
theorem dX9_isRow_28 : decode cX9_isRow 28 = .ok (.if_icmp .lt 5, 3) := by decide +kernel
theorem dX9_isRow_31 : decode cX9_isRow 31 = .ok (.iconst 0, 1) := by decide +kernel
theorem dX9_isRow_32 : decode cX9_isRow 32 = .ok (.ireturn, 1) := by decide +kernel
theorem dX9_isRow_33 : decode cX9_isRow 33 = .ok (.iload_n 2, 1) := by decide +kernel
theorem dX9_isRow_34 : decode cX9_isRow 34 = .ok (.iconst 1, 1) := by decide +kernel
theorem dX9_isRow_35 : decode cX9_isRow 35 = .ok (.iload 4, 2) := by decide +kernel
theorem dX9_isRow_37 : decode cX9_isRow 37 = .ok (.ishl, 1) := by decide +kernel
theorem dX9_isRow_38 : decode cX9_isRow 38 = .ok (.ior, 1) := by decide +kernel
theorem dX9_isRow_39 : decode cX9_isRow 39 = .ok (.istore_n 2, 1) := by decide +kernel
theorem dX9_isRow_40 : decode cX9_isRow 40 = .ok (.iload_n 1, 1) := by decide +kernel
theorem dX9_isRow_41 : decode cX9_isRow 41 = .ok (.bipush 10, 2) := by decide +kernel
theorem dX9_isRow_43 : decode cX9_isRow 43 = .ok (.idiv, 1) := by decide +kernel
theorem dX9_isRow_44 : decode cX9_isRow 44 = .ok (.istore_n 1, 1) := by decide +kernel
theorem dX9_isRow_45 : decode cX9_isRow 45 = .ok (.iinc 3 1, 3) := by decide +kernel
theorem dX9_isRow_48 : decode cX9_isRow 48 = .ok (.goto (-36), 3) := by decide +kernel
theorem dX9_isRow_51 : decode cX9_isRow 51 = .ok (.iload_n 1, 1) := by decide +kernel
theorem dX9_isRow_52 : decode cX9_isRow 52 = .ok (.ifCond .ne 14, 3) := by decide +kernel
theorem dX9_isRow_55 : decode cX9_isRow 55 = .ok (.iload_n 2, 1) := by decide +kernel
theorem dX9_isRow_56 : decode cX9_isRow 56 = .ok (.sipush 255, 3) := by decide +kernel
theorem dX9_isRow_59 : decode cX9_isRow 59 = .ok (.if_icmp .ne 7, 3) := by decide +kernel
theorem dX9_isRow_62 : decode cX9_isRow 62 = .ok (.iconst 1, 1) := by decide +kernel
theorem dX9_isRow_63 : decode cX9_isRow 63 = .ok (.goto 4, 3) := by decide +kernel
theorem dX9_isRow_66 : decode cX9_isRow 66 = .ok (.iconst 0, 1) := by decide +kernel
theorem dX9_isRow_67 : decode cX9_isRow 67 = .ok (.ireturn, 1) := by decide +kernel
theorem dX9_placeOfLeaver_0 : decode cX9_placeOfLeaver 0 = .ok (.iload_n 0, 1) := by decide +kernel
theorem dX9_placeOfLeaver_1 : decode cX9_placeOfLeaver 1 = .ok (.iconst 1, 1) := by decide +kernel
theorem dX9_placeOfLeaver_2 : decode cX9_placeOfLeaver 2 = .ok (.if_icmp .ge 6, 3) := by decide +kernel
theorem dX9_placeOfLeaver_5 : decode cX9_placeOfLeaver 5 = .ok (.bipush (-6), 2) := by decide +kernel
theorem dX9_placeOfLeaver_7 : decode cX9_placeOfLeaver 7 = .ok (.ireturn, 1) := by decide +kernel
theorem dX9_placeOfLeaver_8 : decode cX9_placeOfLeaver 8 = .ok (.iload_n 2, 1) := by decide +kernel
theorem dX9_placeOfLeaver_9 : decode cX9_placeOfLeaver 9 = .ok (.iconst 1, 1) := by decide +kernel
theorem dX9_placeOfLeaver_10 : decode cX9_placeOfLeaver 10 = .ok (.isub, 1) := by decide +kernel
theorem dX9_placeOfLeaver_11 : decode cX9_placeOfLeaver 11 = .ok (.iload_n 0, 1) := by decide +kernel
theorem dX9_placeOfLeaver_12 : decode cX9_placeOfLeaver 12 = .ok (.irem, 1) := by decide +kernel
theorem dX9_placeOfLeaver_13 : decode cX9_placeOfLeaver 13 = .ok (.istore_n 3, 1) := by decide +kernel
theorem dX9_placeOfLeaver_14 : decode cX9_placeOfLeaver 14 = .ok (.iload_n 0, 1) := by decide +kernel
theorem dX9_placeOfLeaver_15 : decode cX9_placeOfLeaver 15 = .ok (.iconst 1, 1) := by decide +kernel
theorem dX9_placeOfLeaver_16 : decode cX9_placeOfLeaver 16 = .ok (.iadd, 1) := by decide +kernel
theorem dX9_placeOfLeaver_17 : decode cX9_placeOfLeaver 17 = .ok (.istore 4, 2) := by decide +kernel
theorem dX9_placeOfLeaver_19 : decode cX9_placeOfLeaver 19 = .ok (.iload 4, 2) := by decide +kernel
theorem dX9_placeOfLeaver_21 : decode cX9_placeOfLeaver 21 = .ok (.iload_n 1, 1) := by decide +kernel
theorem dX9_placeOfLeaver_22 : decode cX9_placeOfLeaver 22 = .ok (.if_icmp .gt 16, 3) := by decide +kernel
theorem dX9_placeOfLeaver_25 : decode cX9_placeOfLeaver 25 = .ok (.iload_n 3, 1) := by decide +kernel
theorem dX9_placeOfLeaver_26 : decode cX9_placeOfLeaver 26 = .ok (.iload_n 2, 1) := by decide +kernel
theorem dX9_placeOfLeaver_27 : decode cX9_placeOfLeaver 27 = .ok (.iadd, 1) := by decide +kernel
theorem dX9_placeOfLeaver_28 : decode cX9_placeOfLeaver 28 = .ok (.iload 4, 2) := by decide +kernel
theorem dX9_placeOfLeaver_30 : decode cX9_placeOfLeaver 30 = .ok (.irem, 1) := by decide +kernel
theorem dX9_placeOfLeaver_31 : decode cX9_placeOfLeaver 31 = .ok (.istore_n 3, 1) := by decide +kernel
theorem dX9_placeOfLeaver_32 : decode cX9_placeOfLeaver 32 = .ok (.iinc 4 1, 3) := by decide +kernel
theorem dX9_placeOfLeaver_35 : decode cX9_placeOfLeaver 35 = .ok (.goto (-16), 3) := by decide +kernel
theorem dX9_placeOfLeaver_38 : decode cX9_placeOfLeaver 38 = .ok (.iload_n 3, 1) := by decide +kernel
theorem dX9_placeOfLeaver_39 : decode cX9_placeOfLeaver 39 = .ok (.ireturn, 1) := by decide +kernel
theorem dX9_canWin_0 : decode cX9_canWin 0 = .ok (.iload_n 0, 1) := by decide +kernel
theorem dX9_canWin_1 : decode cX9_canWin 1 = .ok (.iload_n 1, 1) := by decide +kernel
theorem dX9_canWin_2 : decode cX9_canWin 2 = .ok (.invokestatic 230, 3) := by decide +kernel
theorem dX9_canWin_5 : decode cX9_canWin 5 = .ok (.istore_n 2, 1) := by decide +kernel
theorem dX9_canWin_6 : decode cX9_canWin 6 = .ok (.iload_n 0, 1) := by decide +kernel
theorem dX9_canWin_7 : decode cX9_canWin 7 = .ok (.iload_n 1, 1) := by decide +kernel
theorem dX9_canWin_8 : decode cX9_canWin 8 = .ok (.invokestatic 236, 3) := by decide +kernel
theorem dX9_canWin_11 : decode cX9_canWin 11 = .ok (.istore_n 3, 1) := by decide +kernel
theorem dX9_canWin_12 : decode cX9_canWin 12 = .ok (.iconst 1, 1) := by decide +kernel
theorem dX9_canWin_13 : decode cX9_canWin 13 = .ok (.istore 4, 2) := by decide +kernel
theorem dX9_canWin_15 : decode cX9_canWin 15 = .ok (.iconst 0, 1) := by decide +kernel
theorem dX9_canWin_16 : decode cX9_canWin 16 = .ok (.istore 5, 2) := by decide +kernel
theorem dX9_canWin_18 : decode cX9_canWin 18 = .ok (.iload 5, 2) := by decide +kernel
theorem dX9_canWin_20 : decode cX9_canWin 20 = .ok (.sipush 999, 3) := by decide +kernel
theorem dX9_canWin_23 : decode cX9_canWin 23 = .ok (.if_icmp .gt 45, 3) := by decide +kernel
theorem dX9_canWin_26 : decode cX9_canWin 26 = .ok (.iload_n 3, 1) := by decide +kernel
theorem dX9_canWin_27 : decode cX9_canWin 27 = .ok (.ifCond .le 41, 3) := by decide +kernel
theorem dX9_canWin_30 : decode cX9_canWin 30 = .ok (.iload_n 2, 1) := by decide +kernel
theorem dX9_canWin_31 : decode cX9_canWin 31 = .ok (.iload_n 3, 1) := by decide +kernel
theorem dX9_canWin_32 : decode cX9_canWin 32 = .ok (.idiv, 1) := by decide +kernel
theorem dX9_canWin_33 : decode cX9_canWin 33 = .ok (.iconst 2, 1) := by decide +kernel
theorem dX9_canWin_34 : decode cX9_canWin 34 = .ok (.if_icmp .lt 6, 3) := by decide +kernel
theorem dX9_canWin_37 : decode cX9_canWin 37 = .ok (.iload 4, 2) := by decide +kernel
theorem dX9_canWin_39 : decode cX9_canWin 39 = .ok (.ireturn, 1) := by decide +kernel
theorem dX9_canWin_40 : decode cX9_canWin 40 = .ok (.iload_n 2, 1) := by decide +kernel
theorem dX9_canWin_41 : decode cX9_canWin 41 = .ok (.iload_n 3, 1) := by decide +kernel
theorem dX9_canWin_42 : decode cX9_canWin 42 = .ok (.isub, 1) := by decide +kernel
theorem dX9_canWin_43 : decode cX9_canWin 43 = .ok (.istore 6, 2) := by decide +kernel
theorem dX9_canWin_45 : decode cX9_canWin 45 = .ok (.iload_n 3, 1) := by decide +kernel
theorem dX9_canWin_46 : decode cX9_canWin 46 = .ok (.istore_n 2, 1) := by decide +kernel
theorem dX9_canWin_47 : decode cX9_canWin 47 = .ok (.iload 6, 2) := by decide +kernel
theorem dX9_canWin_49 : decode cX9_canWin 49 = .ok (.istore_n 3, 1) := by decide +kernel
theorem dX9_canWin_50 : decode cX9_canWin 50 = .ok (.iload 4, 2) := by decide +kernel
theorem dX9_canWin_52 : decode cX9_canWin 52 = .ok (.ifCond .ne 7, 3) := by decide +kernel
theorem dX9_canWin_55 : decode cX9_canWin 55 = .ok (.iconst 1, 1) := by decide +kernel
theorem dX9_canWin_56 : decode cX9_canWin 56 = .ok (.goto 4, 3) := by decide +kernel
theorem dX9_canWin_59 : decode cX9_canWin 59 = .ok (.iconst 0, 1) := by decide +kernel
theorem dX9_canWin_60 : decode cX9_canWin 60 = .ok (.istore 4, 2) := by decide +kernel
theorem dX9_canWin_62 : decode cX9_canWin 62 = .ok (.iinc 5 1, 3) := by decide +kernel
theorem dX9_canWin_65 : decode cX9_canWin 65 = .ok (.goto (-47), 3) := by decide +kernel
theorem dX9_canWin_68 : decode cX9_canWin 68 = .ok (.iload 4, 2) := by decide +kernel
theorem dX9_canWin_70 : decode cX9_canWin 70 = .ok (.ifCond .ne 7, 3) := by decide +kernel
theorem dX9_canWin_73 : decode cX9_canWin 73 = .ok (.iconst 1, 1) := by decide +kernel
theorem dX9_canWin_74 : decode cX9_canWin 74 = .ok (.goto 4, 3) := by decide +kernel
theorem dX9_canWin_77 : decode cX9_canWin 77 = .ok (.iconst 0, 1) := by decide +kernel
theorem dX9_canWin_78 : decode cX9_canWin 78 = .ok (.ireturn, 1) := by decide +kernel
set_option maxRecDepth 20000 in
theorem ggX9_winningTimes_X9_canWin : GoodIn wsX9_winningTimes wsX9_canWin := goodIn_r _ [4, 5, 6, 7, 8, 9, 10, 11] (by decide +kernel) (by decide +kernel)
set_option maxRecDepth 20000 in
theorem gX9_winningTimes_X9_canWin : GoodIn wsX9_winningTimes (va_wsS RX9 227 yX9_canWin wsX9_canWin) := goodIn_app (goodIn_of _ (by decide +kernel)) ggX9_winningTimes_X9_canWin
theorem dX9_winningTimes_0 : decode cX9_winningTimes 0 = .ok (.iload_n 1, 1) := by decide +kernel
theorem dX9_winningTimes_1 : decode cX9_winningTimes 1 = .ok (.ifCond .gt 6, 3) := by decide +kernel
theorem dX9_winningTimes_4 : decode cX9_winningTimes 4 = .ok (.bipush (-6), 2) := by decide +kernel
theorem dX9_winningTimes_6 : decode cX9_winningTimes 6 = .ok (.ireturn, 1) := by decide +kernel
theorem dX9_winningTimes_7 : decode cX9_winningTimes 7 = .ok (.iconst 1, 1) := by decide +kernel
theorem dX9_winningTimes_8 : decode cX9_winningTimes 8 = .ok (.istore_n 2, 1) := by decide +kernel
theorem dX9_winningTimes_9 : decode cX9_winningTimes 9 = .ok (.iload_n 2, 1) := by decide +kernel
theorem dX9_winningTimes_10 : decode cX9_winningTimes 10 = .ok (.iload_n 0, 1) := by decide +kernel
theorem dX9_winningTimes_11 : decode cX9_winningTimes 11 = .ok (.iload_n 1, 1) := by decide +kernel
theorem dX9_winningTimes_12 : decode cX9_winningTimes 12 = .ok (.idiv, 1) := by decide +kernel
theorem dX9_winningTimes_13 : decode cX9_winningTimes 13 = .ok (.if_icmp .gt 23, 3) := by decide +kernel
theorem dX9_winningTimes_16 : decode cX9_winningTimes 16 = .ok (.iload_n 0, 1) := by decide +kernel
theorem dX9_winningTimes_17 : decode cX9_winningTimes 17 = .ok (.iload_n 2, 1) := by decide +kernel
theorem dX9_winningTimes_18 : decode cX9_winningTimes 18 = .ok (.iload_n 1, 1) := by decide +kernel
theorem dX9_winningTimes_19 : decode cX9_winningTimes 19 = .ok (.imul, 1) := by decide +kernel
theorem dX9_winningTimes_20 : decode cX9_winningTimes 20 = .ok (.isub, 1) := by decide +kernel
theorem dX9_winningTimes_21 : decode cX9_winningTimes 21 = .ok (.iload_n 1, 1) := by decide +kernel
theorem dX9_winningTimes_22 : decode cX9_winningTimes 22 = .ok (.invokestatic 227, 3) := by decide +kernel
theorem dX9_winningTimes_25 : decode cX9_winningTimes 25 = .ok (.ifCond .ne 5, 3) := by decide +kernel
theorem dX9_winningTimes_28 : decode cX9_winningTimes 28 = .ok (.iload_n 2, 1) := by decide +kernel
theorem dX9_winningTimes_29 : decode cX9_winningTimes 29 = .ok (.ireturn, 1) := by decide +kernel
theorem dX9_winningTimes_30 : decode cX9_winningTimes 30 = .ok (.iinc 2 1, 3) := by decide +kernel
theorem dX9_winningTimes_33 : decode cX9_winningTimes 33 = .ok (.goto (-24), 3) := by decide +kernel
theorem dX9_winningTimes_36 : decode cX9_winningTimes 36 = .ok (.bipush (-6), 2) := by decide +kernel
theorem dX9_winningTimes_38 : decode cX9_winningTimes 38 = .ok (.ireturn, 1) := by decide +kernel
set_option maxRecDepth 20000 in
theorem ggX9_waysToDraw_X9_within : GoodIn wsX9_waysToDraw wsX9_within := goodIn_r _ [6] (by decide +kernel) (by decide +kernel)
set_option maxRecDepth 20000 in
theorem gX9_waysToDraw_X9_within : GoodIn wsX9_waysToDraw (va_wsS RX9 79 yX9_within wsX9_within) := goodIn_app (goodIn_of _ (by decide +kernel)) ggX9_waysToDraw_X9_within
theorem dX9_waysToDraw_0 : decode cX9_waysToDraw 0 = .ok (.iload_n 0, 1) := by decide +kernel
theorem dX9_waysToDraw_1 : decode cX9_waysToDraw 1 = .ok (.iconst 0, 1) := by decide +kernel
theorem dX9_waysToDraw_2 : decode cX9_waysToDraw 2 = .ok (.bipush 12, 2) := by decide +kernel
theorem dX9_waysToDraw_4 : decode cX9_waysToDraw 4 = .ok (.invokestatic 79, 3) := by decide +kernel
theorem dX9_waysToDraw_7 : decode cX9_waysToDraw 7 = .ok (.ifCond .eq 12, 3) := by decide +kernel
theorem dX9_waysToDraw_10 : decode cX9_waysToDraw 10 = .ok (.iload_n 1, 1) := by decide +kernel
theorem dX9_waysToDraw_11 : decode cX9_waysToDraw 11 = .ok (.iconst 0, 1) := by decide +kernel
theorem dX9_waysToDraw_12 : decode cX9_waysToDraw 12 = .ok (.iload_n 0, 1) := by decide +kernel
theorem dX9_waysToDraw_13 : decode cX9_waysToDraw 13 = .ok (.invokestatic 79, 3) := by decide +kernel
theorem dX9_waysToDraw_16 : decode cX9_waysToDraw 16 = .ok (.ifCond .ne 5, 3) := by decide +kernel
theorem dX9_waysToDraw_19 : decode cX9_waysToDraw 19 = .ok (.lconst 0, 1) := by decide +kernel
theorem dX9_waysToDraw_20 : decode cX9_waysToDraw 20 = .ok (.lreturn, 1) := by decide +kernel
theorem dX9_waysToDraw_21 : decode cX9_waysToDraw 21 = .ok (.getstatic 248, 3) := by decide +kernel
theorem dX9_waysToDraw_24 : decode cX9_waysToDraw 24 = .ok (.iload_n 1, 1) := by decide +kernel
theorem dX9_waysToDraw_25 : decode cX9_waysToDraw 25 = .ok (.laload, 1) := by decide +kernel
theorem dX9_waysToDraw_26 : decode cX9_waysToDraw 26 = .ok (.getstatic 248, 3) := by decide +kernel
theorem dX9_waysToDraw_29 : decode cX9_waysToDraw 29 = .ok (.iload_n 0, 1) := by decide +kernel
theorem dX9_waysToDraw_30 : decode cX9_waysToDraw 30 = .ok (.iload_n 1, 1) := by decide +kernel
theorem dX9_waysToDraw_31 : decode cX9_waysToDraw 31 = .ok (.isub, 1) := by decide +kernel
theorem dX9_waysToDraw_32 : decode cX9_waysToDraw 32 = .ok (.laload, 1) := by decide +kernel
theorem dX9_waysToDraw_33 : decode cX9_waysToDraw 33 = .ok (.lmul, 1) := by decide +kernel
theorem dX9_waysToDraw_34 : decode cX9_waysToDraw 34 = .ok (.lstore_n 2, 1) := by decide +kernel
theorem dX9_waysToDraw_35 : decode cX9_waysToDraw 35 = .ok (.lload_n 2, 1) := by decide +kernel
theorem dX9_waysToDraw_36 : decode cX9_waysToDraw 36 = .ok (.lconst 1, 1) := by decide +kernel
theorem dX9_waysToDraw_37 : decode cX9_waysToDraw 37 = .ok (.lcmp, 1) := by decide +kernel
theorem dX9_waysToDraw_38 : decode cX9_waysToDraw 38 = .ok (.ifCond .ge 7, 3) := by decide +kernel
theorem dX9_waysToDraw_41 : decode cX9_waysToDraw 41 = .ok (.lconst 0, 1) := by decide +kernel
theorem dX9_waysToDraw_42 : decode cX9_waysToDraw 42 = .ok (.goto 18, 3) := by decide +kernel
theorem dX9_waysToDraw_45 : decode cX9_waysToDraw 45 = .ok (.getstatic 248, 3) := by decide +kernel
theorem dX9_waysToDraw_48 : decode cX9_waysToDraw 48 = .ok (.iload_n 0, 1) := by decide +kernel
theorem dX9_waysToDraw_49 : decode cX9_waysToDraw 49 = .ok (.laload, 1) := by decide +kernel
theorem dX9_waysToDraw_50 : decode cX9_waysToDraw 50 = .ok (.lload_n 2, 1) := by decide +kernel
theorem dX9_waysToDraw_51 : decode cX9_waysToDraw 51 = .ok (.ldiv, 1) := by decide +kernel
theorem dX9_waysToDraw_52 : decode cX9_waysToDraw 52 = .ok (.getstatic 288, 3) := by decide +kernel
theorem dX9_waysToDraw_55 : decode cX9_waysToDraw 55 = .ok (.iload_n 0, 1) := by decide +kernel
theorem dX9_waysToDraw_56 : decode cX9_waysToDraw 56 = .ok (.iload_n 1, 1) := by decide +kernel
theorem dX9_waysToDraw_57 : decode cX9_waysToDraw 57 = .ok (.isub, 1) := by decide +kernel
theorem dX9_waysToDraw_58 : decode cX9_waysToDraw 58 = .ok (.laload, 1) := by decide +kernel
theorem dX9_waysToDraw_59 : decode cX9_waysToDraw 59 = .ok (.lmul, 1) := by decide +kernel
theorem dX9_waysToDraw_60 : decode cX9_waysToDraw 60 = .ok (.lreturn, 1) := by decide +kernel
theorem dX9_commonDivisor_0 : decode cX9_commonDivisor 0 = .ok (.lload_n 0, 1) := by decide +kernel
theorem dX9_commonDivisor_1 : decode cX9_commonDivisor 1 = .ok (.lstore 4, 2) := by decide +kernel
theorem dX9_commonDivisor_3 : decode cX9_commonDivisor 3 = .ok (.lload_n 2, 1) := by decide +kernel
theorem dX9_commonDivisor_4 : decode cX9_commonDivisor 4 = .ok (.lstore 6, 2) := by decide +kernel
theorem dX9_commonDivisor_6 : decode cX9_commonDivisor 6 = .ok (.iconst 0, 1) := by decide +kernel
theorem dX9_commonDivisor_7 : decode cX9_commonDivisor 7 = .ok (.istore 8, 2) := by decide +kernel
theorem dX9_commonDivisor_9 : decode cX9_commonDivisor 9 = .ok (.iload 8, 2) := by decide +kernel
theorem dX9_commonDivisor_11 : decode cX9_commonDivisor 11 = .ok (.sipush 1000, 3) := by decide +kernel
theorem dX9_commonDivisor_14 : decode cX9_commonDivisor 14 = .ok (.if_icmp .ge 31, 3) := by decide +kernel
theorem dX9_commonDivisor_17 : decode cX9_commonDivisor 17 = .ok (.lload 6, 2) := by decide +kernel
theorem dX9_commonDivisor_19 : decode cX9_commonDivisor 19 = .ok (.lconst 0, 1) := by decide +kernel
theorem dX9_commonDivisor_20 : decode cX9_commonDivisor 20 = .ok (.lcmp, 1) := by decide +kernel
theorem dX9_commonDivisor_21 : decode cX9_commonDivisor 21 = .ok (.ifCond .eq 24, 3) := by decide +kernel
theorem dX9_commonDivisor_24 : decode cX9_commonDivisor 24 = .ok (.lload 4, 2) := by decide +kernel
theorem dX9_commonDivisor_26 : decode cX9_commonDivisor 26 = .ok (.lload 6, 2) := by decide +kernel
theorem dX9_commonDivisor_28 : decode cX9_commonDivisor 28 = .ok (.lrem, 1) := by decide +kernel
theorem dX9_commonDivisor_29 : decode cX9_commonDivisor 29 = .ok (.lstore 9, 2) := by decide +kernel
theorem dX9_commonDivisor_31 : decode cX9_commonDivisor 31 = .ok (.lload 6, 2) := by decide +kernel
theorem dX9_commonDivisor_33 : decode cX9_commonDivisor 33 = .ok (.lstore 4, 2) := by decide +kernel
theorem dX9_commonDivisor_35 : decode cX9_commonDivisor 35 = .ok (.lload 9, 2) := by decide +kernel
theorem dX9_commonDivisor_37 : decode cX9_commonDivisor 37 = .ok (.lstore 6, 2) := by decide +kernel
theorem dX9_commonDivisor_39 : decode cX9_commonDivisor 39 = .ok (.iinc 8 1, 3) := by decide +kernel
theorem dX9_commonDivisor_42 : decode cX9_commonDivisor 42 = .ok (.goto (-33), 3) := by decide +kernel
theorem dX9_commonDivisor_45 : decode cX9_commonDivisor 45 = .ok (.lload 4, 2) := by decide +kernel
theorem dX9_commonDivisor_47 : decode cX9_commonDivisor 47 = .ok (.lreturn, 1) := by decide +kernel
theorem dX10_init_0 : decode cX10_init 0 = .ok (.aload_n 0, 1) := by decide +kernel
theorem dX10_init_1 : decode cX10_init 1 = .ok (.invokespecial 1, 3) := by decide +kernel
theorem dX10_init_4 : decode cX10_init 4 = .ok (.aload_n 0, 1) := by decide +kernel
theorem dX10_init_5 : decode cX10_init 5 = .ok (.bipush 8, 2) := by decide +kernel
theorem dX10_init_7 : decode cX10_init 7 = .ok (.newarray .int, 2) := by decide +kernel
theorem dX10_init_9 : decode cX10_init 9 = .ok (.putfield 7, 3) := by decide +kernel
theorem dX10_init_12 : decode cX10_init 12 = .ok (.aload_n 0, 1) := by decide +kernel
theorem dX10_init_13 : decode cX10_init 13 = .ok (.bipush 64, 2) := by decide +kernel
theorem dX10_init_15 : decode cX10_init 15 = .ok (.newarray .int, 2) := by decide +kernel
theorem dX10_init_17 : decode cX10_init 17 = .ok (.putfield 13, 3) := by decide +kernel
theorem dX10_init_20 : decode cX10_init 20 = .ok (.aload_n 0, 1) := by decide +kernel
theorem dX10_init_21 : decode cX10_init 21 = .ok (.bipush 8, 2) := by decide +kernel
theorem dX10_init_23 : decode cX10_init 23 = .ok (.newarray .int, 2) := by decide +kernel
theorem dX10_init_25 : decode cX10_init 25 = .ok (.putfield 16, 3) := by decide +kernel
theorem dX10_init_28 : decode cX10_init 28 = .ok (.aload_n 0, 1) := by decide +kernel
theorem dX10_init_29 : decode cX10_init 29 = .ok (.bipush 8, 2) := by decide +kernel
theorem dX10_init_31 : decode cX10_init 31 = .ok (.newarray .int, 2) := by decide +kernel
theorem dX10_init_33 : decode cX10_init 33 = .ok (.putfield 19, 3) := by decide +kernel
theorem dX10_init_36 : decode cX10_init 36 = .ok (.aload_n 0, 1) := by decide +kernel
theorem dX10_init_37 : decode cX10_init 37 = .ok (.bipush 8, 2) := by decide +kernel
theorem dX10_init_39 : decode cX10_init 39 = .ok (.newarray .int, 2) := by decide +kernel
theorem dX10_init_41 : decode cX10_init 41 = .ok (.putfield 22, 3) := by decide +kernel
theorem dX10_init_44 : decode cX10_init 44 = .ok (.aload_n 0, 1) := by decide +kernel
theorem dX10_init_45 : decode cX10_init 45 = .ok (.bipush 8, 2) := by decide +kernel
theorem dX10_init_47 : decode cX10_init 47 = .ok (.newarray .int, 2) := by decide +kernel
theorem dX10_init_49 : decode cX10_init 49 = .ok (.putfield 25, 3) := by decide +kernel
theorem dX10_init_52 : decode cX10_init 52 = .ok (.aload_n 0, 1) := by decide +kernel
theorem dX10_init_53 : decode cX10_init 53 = .ok (.bipush 8, 2) := by decide +kernel
theorem dX10_init_55 : decode cX10_init 55 = .ok (.newarray .int, 2) := by decide +kernel
theorem dX10_init_57 : decode cX10_init 57 = .ok (.putfield 28, 3) := by decide +kernel
theorem dX10_init_60 : decode cX10_init 60 = .ok (.aload_n 0, 1) := by decide +kernel
theorem dX10_init_61 : decode cX10_init 61 = .ok (.bipush 60, 2) := by decide +kernel
theorem dX10_init_63 : decode cX10_init 63 = .ok (.newarray .int, 2) := by decide +kernel
theorem dX10_init_65 : decode cX10_init 65 = .ok (.putfield 31, 3) := by decide +kernel
theorem dX10_init_68 : decode cX10_init 68 = .ok (.aload_n 0, 1) := by decide +kernel
theorem dX10_init_69 : decode cX10_init 69 = .ok (.bipush 60, 2) := by decide +kernel
theorem dX10_init_71 : decode cX10_init 71 = .ok (.newarray .int, 2) := by decide +kernel
theorem dX10_init_73 : decode cX10_init 73 = .ok (.putfield 34, 3) := by decide +kernel
theorem dX10_init_76 : decode cX10_init 76 = .ok (.aload_n 0, 1) := by decide +kernel
theorem dX10_init_77 : decode cX10_init 77 = .ok (.bipush 60, 2) := by decide +kernel
theorem dX10_init_79 : decode cX10_init 79 = .ok (.newarray .int, 2) := by decide +kernel
theorem dX10_init_81 : decode cX10_init 81 = .ok (.putfield 37, 3) := by decide +kernel
theorem dX10_init_84 : decode cX10_init 84 = .ok (.aload_n 0, 1) := by decide +kernel
theorem dX10_init_85 : decode cX10_init 85 = .ok (.bipush 60, 2) := by decide +kernel
theorem dX10_init_87 : decode cX10_init 87 = .ok (.newarray .int, 2) := by decide +kernel
theorem dX10_init_89 : decode cX10_init 89 = .ok (.putfield 40, 3) := by decide +kernel
theorem dX10_init_92 : decode cX10_init 92 = .ok (.aload_n 0, 1) := by decide +kernel
theorem dX10_init_93 : decode cX10_init 93 = .ok (.bipush 60, 2) := by decide +kernel
theorem dX10_init_95 : decode cX10_init 95 = .ok (.newarray .int, 2) := by decide +kernel
theorem dX10_init_97 : decode cX10_init 97 = .ok (.putfield 43, 3) := by decide +kernel
theorem dX10_init_100 : decode cX10_init 100 = .ok (.aload_n 0, 1) := by decide +kernel
theorem dX10_init_101 : decode cX10_init 101 = .ok (.bipush 83, 2) := by decide +kernel
theorem dX10_init_103 : decode cX10_init 103 = .ok (.newarray .int, 2) := by decide +kernel
theorem dX10_init_105 : decode cX10_init 105 = .ok (.putfield 46, 3) := by decide +kernel
theorem dX10_init_108 : decode cX10_init 108 = .ok (.aload_n 0, 1) := by decide +kernel
theorem dX10_init_109 : decode cX10_init 109 = .ok (.bipush 8, 2) := by decide +kernel
theorem dX10_init_111 : decode cX10_init 111 = .ok (.newarray .int, 2) := by decide +kernel
theorem dX10_init_113 : decode cX10_init 113 = .ok (.putfield 49, 3) := by decide +kernel
theorem dX10_init_116 : decode cX10_init 116 = .ok (.aload_n 0, 1) := by decide +kernel
theorem dX10_init_117 : decode cX10_init 117 = .ok (.sipush 256, 3) := by decide +kernel
theorem dX10_init_120 : decode cX10_init 120 = .ok (.newarray .int, 2) := by decide +kernel
theorem dX10_init_122 : decode cX10_init 122 = .ok (.putfield 52, 3) := by decide +kernel
theorem dX10_init_125 : decode cX10_init 125 = .ok (.aload_n 0, 1) := by decide +kernel
theorem dX10_init_126 : decode cX10_init 126 = .ok (.sipush 2048, 3) := by decide +kernel
theorem dX10_init_129 : decode cX10_init 129 = .ok (.newarray .int, 2) := by decide +kernel
theorem dX10_init_131 : decode cX10_init 131 = .ok (.putfield 55, 3) := by decide +kernel
theorem dX10_init_134 : decode cX10_init 134 = .ok (.aload_n 0, 1) := by decide +kernel
theorem dX10_init_135 : decode cX10_init 135 = .ok (.sipush 256, 3) := by decide +kernel
theorem dX10_init_138 : decode cX10_init 138 = .ok (.newarray .int, 2) := by decide +kernel
theorem dX10_init_140 : decode cX10_init 140 = .ok (.putfield 58, 3) := by decide +kernel
theorem dX10_init_143 : decode cX10_init 143 = .ok (.aload_n 0, 1) := by decide +kernel
theorem dX10_init_144 : decode cX10_init 144 = .ok (.bipush 9, 2) := by decide +kernel
theorem dX10_init_146 : decode cX10_init 146 = .ok (.newarray .int, 2) := by decide +kernel
theorem dX10_init_148 : decode cX10_init 148 = .ok (.putfield 61, 3) := by decide +kernel
theorem dX10_init_151 : decode cX10_init 151 = .ok (.aload_n 0, 1) := by decide +kernel
theorem dX10_init_152 : decode cX10_init 152 = .ok (.sipush 240, 3) := by decide +kernel
theorem dX10_init_155 : decode cX10_init 155 = .ok (.newarray .int, 2) := by decide +kernel
theorem dX10_init_157 : decode cX10_init 157 = .ok (.putfield 64, 3) := by decide +kernel
theorem dX10_init_160 : decode cX10_init 160 = .ok (.aload_n 0, 1) := by decide +kernel
theorem dX10_init_161 : decode cX10_init 161 = .ok (.iconst 2, 1) := by decide +kernel
theorem dX10_init_162 : decode cX10_init 162 = .ok (.newarray .boolean, 2) := by decide +kernel
theorem dX10_init_164 : decode cX10_init 164 = .ok (.putfield 67, 3) := by decide +kernel
theorem dX10_init_167 : decode cX10_init 167 = .ok (.iconst 0, 1) := by decide +kernel
theorem dX10_init_168 : decode cX10_init 168 = .ok (.istore_n 1, 1) := by decide +kernel
theorem dX10_init_169 : decode cX10_init 169 = .ok (.iload_n 1, 1) := by decide +kernel
theorem dX10_init_170 : decode cX10_init 170 = .ok (.bipush 8, 2) := by decide +kernel
theorem dX10_init_172 : decode cX10_init 172 = .ok (.if_icmp .ge 24, 3) := by decide +kernel
theorem dX10_init_175 : decode cX10_init 175 = .ok (.aload_n 0, 1) := by decide +kernel
theorem dX10_init_176 : decode cX10_init 176 = .ok (.getfield 7, 3) := by decide +kernel
theorem dX10_init_179 : decode cX10_init 179 = .ok (.iload_n 1, 1) := by decide +kernel
theorem dX10_init_180 : decode cX10_init 180 = .ok (.bipush 50, 2) := by decide +kernel
theorem dX10_init_182 : decode cX10_init 182 = .ok (.iastore, 1) := by decide +kernel
theorem dX10_init_183 : decode cX10_init 183 = .ok (.aload_n 0, 1) := by decide +kernel
theorem dX10_init_184 : decode cX10_init 184 = .ok (.getfield 16, 3) := by decide +kernel
theorem dX10_init_187 : decode cX10_init 187 = .ok (.iload_n 1, 1) := by decide +kernel
theorem dX10_init_188 : decode cX10_init 188 = .ok (.iload_n 1, 1) := by decide +kernel
theorem dX10_init_189 : decode cX10_init 189 = .ok (.iastore, 1) := by decide +kernel
theorem dX10_init_190 : decode cX10_init 190 = .ok (.iinc 1 1, 3) := by decide +kernel
theorem dX10_init_193 : decode cX10_init 193 = .ok (.goto (-24), 3) := by decide +kernel
theorem dX10_init_196 : decode cX10_init 196 = .ok (.return_, 1) := by decide +kernel
theorem dX10_in_0 : decode cX10_in 0 = .ok (.lload_n 0, 1) := by decide +kernel
theorem dX10_in_1 : decode cX10_in 1 = .ok (.lload_n 2, 1) := by decide +kernel
theorem dX10_in_2 : decode cX10_in 2 = .ok (.lcmp, 1) := by decide +kernel
theorem dX10_in_3 : decode cX10_in 3 = .ok (.ifCond .lt 14, 3) := by decide +kernel
theorem dX10_in_6 : decode cX10_in 6 = .ok (.lload_n 0, 1) := by decide +kernel
theorem dX10_in_7 : decode cX10_in 7 = .ok (.lload 4, 2) := by decide +kernel
theorem dX10_in_9 : decode cX10_in 9 = .ok (.lcmp, 1) := by decide +kernel
theorem dX10_in_10 : decode cX10_in 10 = .ok (.ifCond .gt 7, 3) := by decide +kernel
theorem dX10_in_13 : decode cX10_in 13 = .ok (.iconst 1, 1) := by decide +kernel
theorem dX10_in_14 : decode cX10_in 14 = .ok (.goto 4, 3) := by decide +kernel
theorem dX10_in_17 : decode cX10_in 17 = .ok (.iconst 0, 1) := by decide +kernel
theorem dX10_in_18 : decode cX10_in 18 = .ok (.ireturn, 1) := by decide +kernel
set_option maxRecDepth 20000 in
theorem ggX10_isHouse_X10_in : GoodIn wsX10_isHouse wsX10_in := goodIn_r _ [5] (by decide +kernel) (by decide +kernel)
set_option maxRecDepth 20000 in
theorem gX10_isHouse_X10_in : GoodIn wsX10_isHouse (va_wsS RX10 73 yX10_in wsX10_in) := goodIn_app (goodIn_of _ (by decide +kernel)) ggX10_isHouse_X10_in
theorem dX10_isHouse_0 : decode cX10_isHouse 0 = .ok (.iload_n 0, 1) := by decide +kernel
theorem dX10_isHouse_1 : decode cX10_isHouse 1 = .ok (.i2l, 1) := by decide +kernel
theorem dX10_isHouse_2 : decode cX10_isHouse 2 = .ok (.lconst 0, 1) := by decide +kernel
theorem dX10_isHouse_3 : decode cX10_isHouse 3 = .ok (.ldc2_w 71, 3) := by decide +kernel
theorem dX10_isHouse_6 : decode cX10_isHouse 6 = .ok (.invokestatic 73, 3) := by decide +kernel
theorem dX10_isHouse_9 : decode cX10_isHouse 9 = .ok (.ireturn, 1) := by decide +kernel
theorem dX10_ones_0 : decode cX10_ones 0 = .ok (.iconst 0, 1) := by decide +kernel
theorem dX10_ones_1 : decode cX10_ones 1 = .ok (.istore_n 1, 1) := by decide +kernel
theorem dX10_ones_2 : decode cX10_ones 2 = .ok (.iload_n 0, 1) := by decide +kernel
theorem dX10_ones_3 : decode cX10_ones 3 = .ok (.istore_n 2, 1) := by decide +kernel
theorem dX10_ones_4 : decode cX10_ones 4 = .ok (.iload_n 2, 1) := by decide +kernel
theorem dX10_ones_5 : decode cX10_ones 5 = .ok (.ifCond .eq 15, 3) := by decide +kernel
theorem dX10_ones_8 : decode cX10_ones 8 = .ok (.iinc 1 1, 3) := by decide +kernel
theorem dX10_ones_11 : decode cX10_ones 11 = .ok (.iload_n 2, 1) := by decide +kernel
theorem dX10_ones_12 : decode cX10_ones 12 = .ok (.iload_n 2, 1) := by decide +kernel
theorem dX10_ones_13 : decode cX10_ones 13 = .ok (.iconst 1, 1) := by decide +kernel
theorem dX10_ones_14 : decode cX10_ones 14 = .ok (.isub, 1) := by decide +kernel
theorem dX10_ones_15 : decode cX10_ones 15 = .ok (.iand, 1) := by decide +kernel
theorem dX10_ones_16 : decode cX10_ones 16 = .ok (.istore_n 2, 1) := by decide +kernel
theorem dX10_ones_17 : decode cX10_ones 17 = .ok (.goto (-13), 3) := by decide +kernel
theorem dX10_ones_20 : decode cX10_ones 20 = .ok (.iload_n 1, 1) := by decide +kernel
theorem dX10_ones_21 : decode cX10_ones 21 = .ok (.ireturn, 1) := by decide +kernel
theorem dX10_has_0 : decode cX10_has 0 = .ok (.iload_n 0, 1) := by decide +kernel
theorem dX10_has_1 : decode cX10_has 1 = .ok (.iload_n 1, 1) := by decide +kernel
theorem dX10_has_2 : decode cX10_has 2 = .ok (.ishr, 1) := by decide +kernel
theorem dX10_has_3 : decode cX10_has 3 = .ok (.iconst 1, 1) := by decide +kernel
theorem dX10_has_4 : decode cX10_has 4 = .ok (.iand, 1) := by decide +kernel
theorem dX10_has_5 : decode cX10_has 5 = .ok (.iconst 1, 1) := by decide +kernel
theorem dX10_has_6 : decode cX10_has 6 = .ok (.if_icmp .ne 7, 3) := by decide +kernel
theorem dX10_has_9 : decode cX10_has 9 = .ok (.iconst 1, 1) := by decide +kernel
theorem dX10_has_10 : decode cX10_has 10 = .ok (.goto 4, 3) := by decide +kernel
theorem dX10_has_13 : decode cX10_has 13 = .ok (.iconst 0, 1) := by decide +kernel
theorem dX10_has_14 : decode cX10_has 14 = .ok (.ireturn, 1) := by decide +kernel
theorem dX10_with_0 : decode cX10_with 0 = .ok (.iload_n 2, 1) := by decide +kernel
theorem dX10_with_1 : decode cX10_with 1 = .ok (.ifCond .eq 11, 3) := by decide +kernel
theorem dX10_with_4 : decode cX10_with 4 = .ok (.iload_n 0, 1) := by decide +kernel
theorem dX10_with_5 : decode cX10_with 5 = .ok (.iconst 1, 1) := by decide +kernel
theorem dX10_with_6 : decode cX10_with 6 = .ok (.iload_n 1, 1) := by decide +kernel
theorem dX10_with_7 : decode cX10_with 7 = .ok (.ishl, 1) := by decide +kernel
theorem dX10_with_8 : decode cX10_with 8 = .ok (.ior, 1) := by decide +kernel
theorem dX10_with_9 : decode cX10_with 9 = .ok (.goto 10, 3) := by decide +kernel
theorem dX10_with_12 : decode cX10_with 12 = .ok (.iload_n 0, 1) := by decide +kernel
theorem dX10_with_13 : decode cX10_with 13 = .ok (.iconst 1, 1) := by decide +kernel
theorem dX10_with_14 : decode cX10_with 14 = .ok (.iload_n 1, 1) := by decide +kernel
theorem dX10_with_15 : decode cX10_with 15 = .ok (.ishl, 1) := by decide +kernel
theorem dX10_with_16 : decode cX10_with 16 = .ok (.iconst (-1), 1) := by decide +kernel
theorem dX10_with_17 : decode cX10_with 17 = .ok (.ixor, 1) := by decide +kernel
theorem dX10_with_18 : decode cX10_with 18 = .ok (.iand, 1) := by decide +kernel
theorem dX10_with_19 : decode cX10_with 19 = .ok (.ireturn, 1) := by decide +kernel
theorem dX10_less_0 : decode cX10_less 0 = .ok (.iload_n 0, 1) := by decide +kernel
theorem dX10_less_1 : decode cX10_less 1 = .ok (.iload_n 1, 1) := by decide +kernel
theorem dX10_less_2 : decode cX10_less 2 = .ok (.if_icmp .ge 7, 3) := by decide +kernel
theorem dX10_less_5 : decode cX10_less 5 = .ok (.iload_n 0, 1) := by decide +kernel
theorem dX10_less_6 : decode cX10_less 6 = .ok (.goto 4, 3) := by decide +kernel
theorem dX10_less_9 : decode cX10_less 9 = .ok (.iload_n 1, 1) := by decide +kernel
theorem dX10_less_10 : decode cX10_less 10 = .ok (.ireturn, 1) := by decide +kernel
set_option maxRecDepth 20000 in
theorem ggX10_house_X10_isHouse : GoodIn wsX10_house wsX10_isHouse := goodIn_r _ [7, 8, 9, 10, 6, 11] (by decide +kernel) (by decide +kernel)
set_option maxRecDepth 20000 in
theorem gX10_house_X10_isHouse : GoodIn wsX10_house (va_wsS RX10 77 yX10_isHouse wsX10_isHouse) := goodIn_app (goodIn_of _ (by decide +kernel)) ggX10_house_X10_isHouse
set_option maxRecDepth 20000 in
theorem ggX10_house_X10_in : GoodIn wsX10_house wsX10_in := goodIn_r _ [11] (by decide +kernel) (by decide +kernel)
set_option maxRecDepth 20000 in
theorem gX10_house_X10_in : GoodIn wsX10_house (va_wsS RX10 73 yX10_in wsX10_in) := goodIn_app (goodIn_of _ (by decide +kernel)) ggX10_house_X10_in
set_option maxRecDepth 20000 in
theorem ggX10_house_X10_with : GoodIn wsX10_house wsX10_with := goodIn_r _ [14] (by decide +kernel) (by decide +kernel)
set_option maxRecDepth 20000 in
theorem gX10_house_X10_with : GoodIn wsX10_house (va_wsS RX10 87 yX10_with wsX10_with) := goodIn_app (goodIn_of _ (by decide +kernel)) ggX10_house_X10_with
theorem dX10_house_0 : decode cX10_house 0 = .ok (.iload_n 1, 1) := by decide +kernel
theorem dX10_house_1 : decode cX10_house 1 = .ok (.invokestatic 77, 3) := by decide +kernel
theorem dX10_house_4 : decode cX10_house 4 = .ok (.ifCond .ne 5, 3) := by decide +kernel
theorem dX10_house_7 : decode cX10_house 7 = .ok (.iconst (-1), 1) := by decide +kernel
theorem dX10_house_8 : decode cX10_house 8 = .ok (.ireturn, 1) := by decide +kernel
theorem dX10_house_9 : decode cX10_house 9 = .ok (.iload_n 2, 1) := by decide +kernel
theorem dX10_house_10 : decode cX10_house 10 = .ok (.i2l, 1) := by decide +kernel
theorem dX10_house_11 : decode cX10_house 11 = .ok (.lconst 0, 1) := by decide +kernel
theorem dX10_house_12 : decode cX10_house 12 = .ok (.ldc2_w 81, 3) := by decide +kernel
theorem dX10_house_15 : decode cX10_house 15 = .ok (.invokestatic 73, 3) := by decide +kernel
theorem dX10_house_18 : decode cX10_house 18 = .ok (.ifCond .eq 13, 3) := by decide +kernel
theorem dX10_house_21 : decode cX10_house 21 = .ok (.iload_n 3, 1) := by decide +kernel
theorem dX10_house_22 : decode cX10_house 22 = .ok (.i2l, 1) := by decide +kernel
theorem dX10_house_23 : decode cX10_house 23 = .ok (.lconst 0, 1) := by decide +kernel
theorem dX10_house_24 : decode cX10_house 24 = .ok (.lconst 1, 1) := by decide +kernel
theorem dX10_house_25 : decode cX10_house 25 = .ok (.invokestatic 73, 3) := by decide +kernel
theorem dX10_house_28 : decode cX10_house 28 = .ok (.ifCond .ne 6, 3) := by decide +kernel
theorem dX10_house_31 : decode cX10_house 31 = .ok (.bipush (-2), 2) := by decide +kernel
theorem dX10_house_33 : decode cX10_house 33 = .ok (.ireturn, 1) := by decide +kernel
theorem dX10_house_34 : decode cX10_house 34 = .ok (.aload_n 0, 1) := by decide +kernel
theorem dX10_house_35 : decode cX10_house 35 = .ok (.getfield 7, 3) := by decide +kernel
theorem dX10_house_38 : decode cX10_house 38 = .ok (.iload_n 1, 1) := by decide +kernel
theorem dX10_house_39 : decode cX10_house 39 = .ok (.iaload, 1) := by decide +kernel
theorem dX10_house_40 : decode cX10_house 40 = .ok (.istore 4, 2) := by decide +kernel
theorem dX10_house_42 : decode cX10_house 42 = .ok (.aload_n 0, 1) := by decide +kernel
theorem dX10_house_43 : decode cX10_house 43 = .ok (.getfield 7, 3) := by decide +kernel
theorem dX10_house_46 : decode cX10_house 46 = .ok (.iload_n 1, 1) := by decide +kernel
theorem dX10_house_47 : decode cX10_house 47 = .ok (.iload_n 2, 1) := by decide +kernel
theorem dX10_house_48 : decode cX10_house 48 = .ok (.iastore, 1) := by decide +kernel
theorem dX10_house_49 : decode cX10_house 49 = .ok (.aload_n 0, 1) := by decide +kernel
theorem dX10_house_50 : decode cX10_house 50 = .ok (.aload_n 0, 1) := by decide +kernel
theorem dX10_house_51 : decode cX10_house 51 = .ok (.getfield 83, 3) := by decide +kernel
theorem dX10_house_54 : decode cX10_house 54 = .ok (.iload_n 1, 1) := by decide +kernel
theorem dX10_house_55 : decode cX10_house 55 = .ok (.iload_n 3, 1) := by decide +kernel
theorem dX10_house_56 : decode cX10_house 56 = .ok (.iconst 1, 1) := by decide +kernel
theorem dX10_house_57 : decode cX10_house 57 = .ok (.if_icmp .ne 7, 3) := by decide +kernel
theorem dX10_house_60 : decode cX10_house 60 = .ok (.iconst 1, 1) := by decide +kernel
theorem dX10_house_61 : decode cX10_house 61 = .ok (.goto 4, 3) := by decide +kernel
theorem dX10_house_64 : decode cX10_house 64 = .ok (.iconst 0, 1) := by decide +kernel
theorem dX10_house_65 : decode cX10_house 65 = .ok (.invokestatic 87, 3) := by decide +kernel
theorem dX10_house_68 : decode cX10_house 68 = .ok (.putfield 83, 3) := by decide +kernel
theorem dX10_house_71 : decode cX10_house 71 = .ok (.iload 4, 2) := by decide +kernel
theorem dX10_house_73 : decode cX10_house 73 = .ok (.ireturn, 1) := by decide +kernel
set_option maxRecDepth 20000 in
theorem ggX10_gave_X10_isHouse : GoodIn wsX10_gave wsX10_isHouse := goodIn_r _ [6, 7, 8, 9, 5, 10] (by decide +kernel) (by decide +kernel)
set_option maxRecDepth 20000 in
theorem gX10_gave_X10_isHouse : GoodIn wsX10_gave (va_wsS RX10 77 yX10_isHouse wsX10_isHouse) := goodIn_app (goodIn_of _ (by decide +kernel)) ggX10_gave_X10_isHouse
set_option maxRecDepth 20000 in
theorem ggX10_gave_X10_in : GoodIn wsX10_gave wsX10_in := goodIn_r _ [10] (by decide +kernel) (by decide +kernel)
set_option maxRecDepth 20000 in
theorem gX10_gave_X10_in : GoodIn wsX10_gave (va_wsS RX10 73 yX10_in wsX10_in) := goodIn_app (goodIn_of _ (by decide +kernel)) ggX10_gave_X10_in
theorem dX10_gave_0 : decode cX10_gave 0 = .ok (.iload_n 1, 1) := by decide +kernel
theorem dX10_gave_1 : decode cX10_gave 1 = .ok (.invokestatic 77, 3) := by decide +kernel
theorem dX10_gave_4 : decode cX10_gave 4 = .ok (.ifCond .eq 15, 3) := by decide +kernel
theorem dX10_gave_7 : decode cX10_gave 7 = .ok (.iload_n 2, 1) := by decide +kernel
theorem dX10_gave_8 : decode cX10_gave 8 = .ok (.invokestatic 77, 3) := by decide +kernel
theorem dX10_gave_11 : decode cX10_gave 11 = .ok (.ifCond .eq 8, 3) := by decide +kernel
theorem dX10_gave_14 : decode cX10_gave 14 = .ok (.iload_n 1, 1) := by decide +kernel
theorem dX10_gave_15 : decode cX10_gave 15 = .ok (.iload_n 2, 1) := by decide +kernel
theorem dX10_gave_16 : decode cX10_gave 16 = .ok (.if_icmp .ne 5, 3) := by decide +kernel
theorem dX10_gave_19 : decode cX10_gave 19 = .ok (.iconst (-1), 1) := by decide +kernel
theorem dX10_gave_20 : decode cX10_gave 20 = .ok (.ireturn, 1) := by decide +kernel
theorem dX10_gave_21 : decode cX10_gave 21 = .ok (.iload_n 3, 1) := by decide +kernel
theorem dX10_gave_22 : decode cX10_gave 22 = .ok (.i2l, 1) := by decide +kernel
theorem dX10_gave_23 : decode cX10_gave 23 = .ok (.lconst 0, 1) := by decide +kernel
theorem dX10_gave_24 : decode cX10_gave 24 = .ok (.ldc2_w 81, 3) := by decide +kernel
theorem dX10_gave_27 : decode cX10_gave 27 = .ok (.invokestatic 73, 3) := by decide +kernel
theorem dX10_gave_30 : decode cX10_gave 30 = .ok (.ifCond .ne 6, 3) := by decide +kernel
theorem dX10_gave_33 : decode cX10_gave 33 = .ok (.bipush (-2), 2) := by decide +kernel
theorem dX10_gave_35 : decode cX10_gave 35 = .ok (.ireturn, 1) := by decide +kernel
theorem dX10_gave_36 : decode cX10_gave 36 = .ok (.aload_n 0, 1) := by decide +kernel
theorem dX10_gave_37 : decode cX10_gave 37 = .ok (.getfield 13, 3) := by decide +kernel
theorem dX10_gave_40 : decode cX10_gave 40 = .ok (.bipush 8, 2) := by decide +kernel
theorem dX10_gave_42 : decode cX10_gave 42 = .ok (.iload_n 1, 1) := by decide +kernel
theorem dX10_gave_43 : decode cX10_gave 43 = .ok (.imul, 1) := by decide +kernel
theorem dX10_gave_44 : decode cX10_gave 44 = .ok (.iload_n 2, 1) := by decide +kernel
theorem dX10_gave_45 : decode cX10_gave 45 = .ok (.iadd, 1) := by decide +kernel
theorem dX10_gave_46 : decode cX10_gave 46 = .ok (.iaload, 1) := by decide +kernel
theorem dX10_gave_47 : decode cX10_gave 47 = .ok (.istore 4, 2) := by decide +kernel
theorem dX10_gave_49 : decode cX10_gave 49 = .ok (.aload_n 0, 1) := by decide +kernel
theorem dX10_gave_50 : decode cX10_gave 50 = .ok (.getfield 13, 3) := by decide +kernel
theorem dX10_gave_53 : decode cX10_gave 53 = .ok (.bipush 8, 2) := by decide +kernel
theorem dX10_gave_55 : decode cX10_gave 55 = .ok (.iload_n 1, 1) := by decide +kernel
theorem dX10_gave_56 : decode cX10_gave 56 = .ok (.imul, 1) := by decide +kernel
theorem dX10_gave_57 : decode cX10_gave 57 = .ok (.iload_n 2, 1) := by decide +kernel
theorem dX10_gave_58 : decode cX10_gave 58 = .ok (.iadd, 1) := by decide +kernel
theorem dX10_gave_59 : decode cX10_gave 59 = .ok (.iload_n 3, 1) := by decide +kernel
theorem dX10_gave_60 : decode cX10_gave 60 = .ok (.iastore, 1) := by decide +kernel
theorem dX10_gave_61 : decode cX10_gave 61 = .ok (.iload 4, 2) := by decide +kernel
theorem dX10_gave_63 : decode cX10_gave 63 = .ok (.ireturn, 1) := by decide +kernel
theorem dX10_chartRow_0 : decode cX10_chartRow 0 = .ok (.iconst 0, 1) := by decide +kernel
theorem dX10_chartRow_1 : decode cX10_chartRow 1 = .ok (.istore_n 1, 1) := by decide +kernel
theorem dX10_chartRow_2 : decode cX10_chartRow 2 = .ok (.iconst 0, 1) := by decide +kernel
theorem dX10_chartRow_3 : decode cX10_chartRow 3 = .ok (.istore_n 2, 1) := by decide +kernel
theorem dX10_chartRow_4 : decode cX10_chartRow 4 = .ok (.iload_n 2, 1) := by decide +kernel
theorem dX10_chartRow_5 : decode cX10_chartRow 5 = .ok (.bipush 8, 2) := by decide +kernel
theorem dX10_chartRow_7 : decode cX10_chartRow 7 = .ok (.if_icmp .ge 21, 3) := by decide +kernel
theorem dX10_chartRow_10 : decode cX10_chartRow 10 = .ok (.bipush 10, 2) := by decide +kernel
theorem dX10_chartRow_12 : decode cX10_chartRow 12 = .ok (.iload_n 1, 1) := by decide +kernel
theorem dX10_chartRow_13 : decode cX10_chartRow 13 = .ok (.imul, 1) := by decide +kernel
theorem dX10_chartRow_14 : decode cX10_chartRow 14 = .ok (.aload_n 0, 1) := by decide +kernel
theorem dX10_chartRow_15 : decode cX10_chartRow 15 = .ok (.getfield 16, 3) := by decide +kernel
theorem dX10_chartRow_18 : decode cX10_chartRow 18 = .ok (.iload_n 2, 1) := by decide +kernel
theorem dX10_chartRow_19 : decode cX10_chartRow 19 = .ok (.iaload, 1) := by decide +kernel
theorem dX10_chartRow_20 : decode cX10_chartRow 20 = .ok (.iadd, 1) := by decide +kernel
theorem dX10_chartRow_21 : decode cX10_chartRow 21 = .ok (.istore_n 1, 1) := by decide +kernel
theorem dX10_chartRow_22 : decode cX10_chartRow 22 = .ok (.iinc 2 1, 3) := by decide +kernel
theorem dX10_chartRow_25 : decode cX10_chartRow 25 = .ok (.goto (-21), 3) := by decide +kernel
theorem dX10_chartRow_28 : decode cX10_chartRow 28 = .ok (.iload_n 1, 1) := by decide +kernel
theorem dX10_chartRow_29 : decode cX10_chartRow 29 = .ok (.ireturn, 1) := by decide +kernel
theorem dX10_readRow_0 : decode cX10_readRow 0 = .ok (.iload_n 1, 1) := by decide +kernel
theorem dX10_readRow_1 : decode cX10_readRow 1 = .ok (.istore_n 2, 1) := by decide +kernel
theorem dX10_readRow_2 : decode cX10_readRow 2 = .ok (.iconst 0, 1) := by decide +kernel
theorem dX10_readRow_3 : decode cX10_readRow 3 = .ok (.istore_n 3, 1) := by decide +kernel
theorem dX10_readRow_4 : decode cX10_readRow 4 = .ok (.bipush 7, 2) := by decide +kernel
theorem dX10_readRow_6 : decode cX10_readRow 6 = .ok (.istore 4, 2) := by decide +kernel
theorem dX10_readRow_8 : decode cX10_readRow 8 = .ok (.iload 4, 2) := by decide +kernel
theorem dX10_readRow_10 : decode cX10_readRow 10 = .ok (.ifCond .lt 34, 3) := by decide +kernel
theorem dX10_readRow_13 : decode cX10_readRow 13 = .ok (.aload_n 0, 1) := by decide +kernel
theorem dX10_readRow_14 : decode cX10_readRow 14 = .ok (.getfield 28, 3) := by decide +kernel
theorem dX10_readRow_17 : decode cX10_readRow 17 = .ok (.iload 4, 2) := by decide +kernel
theorem dX10_readRow_19 : decode cX10_readRow 19 = .ok (.iload_n 2, 1) := by decide +kernel
theorem dX10_readRow_20 : decode cX10_readRow 20 = .ok (.bipush 10, 2) := by decide +kernel
theorem dX10_readRow_22 : decode cX10_readRow 22 = .ok (.irem, 1) := by decide +kernel
theorem dX10_readRow_23 : decode cX10_readRow 23 = .ok (.iastore, 1) := by decide +kernel
theorem dX10_readRow_24 : decode cX10_readRow 24 = .ok (.iload_n 3, 1) := by decide +kernel
theorem dX10_readRow_25 : decode cX10_readRow 25 = .ok (.iconst 1, 1) := by decide +kernel
theorem dX10_readRow_26 : decode cX10_readRow 26 = .ok (.iload_n 2, 1) := by decide +kernel
theorem dX10_readRow_27 : decode cX10_readRow 27 = .ok (.bipush 10, 2) := by decide +kernel
theorem dX10_readRow_29 : decode cX10_readRow 29 = .ok (.irem, 1) := by decide +kernel
theorem dX10_readRow_30 : decode cX10_readRow 30 = .ok (.ishl, 1) := by decide +kernel
theorem dX10_readRow_31 : decode cX10_readRow 31 = .ok (.ior, 1) := by decide +kernel
theorem dX10_readRow_32 : decode cX10_readRow 32 = .ok (.istore_n 3, 1) := by decide +kernel
theorem dX10_readRow_33 : decode cX10_readRow 33 = .ok (.iload_n 2, 1) := by decide +kernel
theorem dX10_readRow_34 : decode cX10_readRow 34 = .ok (.bipush 10, 2) := by decide +kernel
theorem dX10_readRow_36 : decode cX10_readRow 36 = .ok (.idiv, 1) := by decide +kernel
theorem dX10_readRow_37 : decode cX10_readRow 37 = .ok (.istore_n 2, 1) := by decide +kernel
theorem dX10_readRow_38 : decode cX10_readRow 38 = .ok (.iinc 4 (-1), 3) := by decide +kernel
theorem dX10_readRow_41 : decode cX10_readRow 41 = .ok (.goto (-33), 3) := by decide +kernel
theorem dX10_readRow_44 : decode cX10_readRow 44 = .ok (.iload_n 2, 1) := by decide +kernel
theorem dX10_readRow_45 : decode cX10_readRow 45 = .ok (.ifCond .ne 14, 3) := by decide +kernel
theorem dX10_readRow_48 : decode cX10_readRow 48 = .ok (.iload_n 3, 1) := by decide +kernel
theorem dX10_readRow_49 : decode cX10_readRow 49 = .ok (.sipush 255, 3) := by decide +kernel
theorem dX10_readRow_52 : decode cX10_readRow 52 = .ok (.if_icmp .ne 7, 3) := by decide +kernel
theorem dX10_readRow_55 : decode cX10_readRow 55 = .ok (.iconst 1, 1) := by decide +kernel
theorem dX10_readRow_56 : decode cX10_readRow 56 = .ok (.goto 4, 3) := by decide +kernel
theorem dX10_readRow_59 : decode cX10_readRow 59 = .ok (.iconst 0, 1) := by decide +kernel
theorem dX10_readRow_60 : decode cX10_readRow 60 = .ok (.ireturn, 1) := by decide +kernel
set_option maxRecDepth 20000 in
theorem ggX10_map_X10_in : GoodIn wsX10_map wsX10_in := goodIn_r _ [8] (by decide +kernel) (by decide +kernel)
set_option maxRecDepth 20000 in
theorem gX10_map_X10_in : GoodIn wsX10_map (va_wsS RX10 73 yX10_in wsX10_in) := goodIn_app (goodIn_of _ (by decide +kernel)) ggX10_map_X10_in
set_option maxRecDepth 20000 in
theorem ggX10_map_X10_readRow : GoodIn wsX10_map wsX10_readRow := goodIn_r _ [12, 4, 21, 22, 23, 24, 25, 26, 27, 28, 29, 30, 31, 32, 33, 34, 35, 36, 37, 38, 39, 40, 41, 42, 43, 44, 45, 46, 47, 48, 49, 50, 51, 52, 53, 54, 55] (by decide +kernel) (by decide +kernel)
set_option maxRecDepth 20000 in
theorem gX10_map_X10_readRow : GoodIn wsX10_map (wsV RX10 93 RX10 yX10_readRow wsX10_readRow) := goodIn_app (goodIn_of _ (by decide +kernel)) ggX10_map_X10_readRow
set_option maxRecDepth 20000 in
theorem ggX10_map_X10_isHouse : GoodIn wsX10_map wsX10_isHouse := goodIn_r _ [15, 16, 5, 6, 7, 8] (by decide +kernel) (by decide +kernel)
set_option maxRecDepth 20000 in
theorem gX10_map_X10_isHouse : GoodIn wsX10_map (va_wsS RX10 77 yX10_isHouse wsX10_isHouse) := goodIn_app (goodIn_of _ (by decide +kernel)) ggX10_map_X10_isHouse
set_option maxRecDepth 20000 in
theorem ggX10_map_X10_chartRow : GoodIn wsX10_map wsX10_chartRow := goodIn_r _ [20, 3, 21, 22, 23, 24, 25, 26, 27, 28, 29, 30, 31, 32, 33, 34, 35, 36, 37, 38, 39, 40, 41, 42, 43, 44, 45, 46, 47, 48, 49, 50, 51, 52, 53, 54, 55] (by decide +kernel) (by decide +kernel)
set_option maxRecDepth 20000 in
theorem gX10_map_X10_chartRow : GoodIn wsX10_map (wsV RX10 96 RX10 yX10_chartRow wsX10_chartRow) := goodIn_app (goodIn_of _ (by decide +kernel)) ggX10_map_X10_chartRow
theorem dX10_map_0 : decode cX10_map 0 = .ok (.iload_n 1, 1) := by decide +kernel
theorem dX10_map_1 : decode cX10_map 1 = .ok (.i2l, 1) := by decide +kernel
theorem dX10_map_2 : decode cX10_map 2 = .ok (.lconst 0, 1) := by decide +kernel
theorem dX10_map_3 : decode cX10_map 3 = .ok (.ldc2_w 91, 3) := by decide +kernel
theorem dX10_map_6 : decode cX10_map 6 = .ok (.invokestatic 73, 3) := by decide +kernel
theorem dX10_map_9 : decode cX10_map 9 = .ok (.ifCond .eq 18, 3) := by decide +kernel
theorem dX10_map_12 : decode cX10_map 12 = .ok (.aload_n 0, 1) := by decide +kernel
theorem dX10_map_13 : decode cX10_map 13 = .ok (.iload_n 1, 1) := by decide +kernel
theorem dX10_map_14 : decode cX10_map 14 = .ok (.invokevirtual 93, 3) := by decide +kernel
theorem dX10_map_17 : decode cX10_map 17 = .ok (.ifCond .eq 10, 3) := by decide +kernel
theorem dX10_map_20 : decode cX10_map 20 = .ok (.iload_n 2, 1) := by decide +kernel
theorem dX10_map_21 : decode cX10_map 21 = .ok (.invokestatic 77, 3) := by decide +kernel
theorem dX10_map_24 : decode cX10_map 24 = .ok (.ifCond .ne 6, 3) := by decide +kernel
theorem dX10_map_27 : decode cX10_map 27 = .ok (.bipush (-2), 2) := by decide +kernel
theorem dX10_map_29 : decode cX10_map 29 = .ok (.ireturn, 1) := by decide +kernel
theorem dX10_map_30 : decode cX10_map 30 = .ok (.bipush 10, 2) := by decide +kernel
theorem dX10_map_32 : decode cX10_map 32 = .ok (.aload_n 0, 1) := by decide +kernel
theorem dX10_map_33 : decode cX10_map 33 = .ok (.invokevirtual 96, 3) := by decide +kernel
theorem dX10_map_36 : decode cX10_map 36 = .ok (.imul, 1) := by decide +kernel
theorem dX10_map_37 : decode cX10_map 37 = .ok (.aload_n 0, 1) := by decide +kernel
theorem dX10_map_38 : decode cX10_map 38 = .ok (.getfield 100, 3) := by decide +kernel
theorem dX10_map_41 : decode cX10_map 41 = .ok (.iadd, 1) := by decide +kernel
theorem dX10_map_42 : decode cX10_map 42 = .ok (.istore_n 3, 1) := by decide +kernel
theorem dX10_map_43 : decode cX10_map 43 = .ok (.iconst 0, 1) := by decide +kernel
theorem dX10_map_44 : decode cX10_map 44 = .ok (.istore 4, 2) := by decide +kernel
theorem dX10_map_46 : decode cX10_map 46 = .ok (.iload 4, 2) := by decide +kernel
theorem dX10_map_48 : decode cX10_map 48 = .ok (.bipush 8, 2) := by decide +kernel
theorem dX10_map_50 : decode cX10_map 50 = .ok (.if_icmp .ge 23, 3) := by decide +kernel
theorem dX10_map_53 : decode cX10_map 53 = .ok (.aload_n 0, 1) := by decide +kernel
theorem dX10_map_54 : decode cX10_map 54 = .ok (.getfield 16, 3) := by decide +kernel
theorem dX10_map_57 : decode cX10_map 57 = .ok (.iload 4, 2) := by decide +kernel
theorem dX10_map_59 : decode cX10_map 59 = .ok (.aload_n 0, 1) := by decide +kernel
theorem dX10_map_60 : decode cX10_map 60 = .ok (.getfield 28, 3) := by decide +kernel
theorem dX10_map_63 : decode cX10_map 63 = .ok (.iload 4, 2) := by decide +kernel
theorem dX10_map_65 : decode cX10_map 65 = .ok (.iaload, 1) := by decide +kernel
theorem dX10_map_66 : decode cX10_map 66 = .ok (.iastore, 1) := by decide +kernel
theorem dX10_map_67 : decode cX10_map 67 = .ok (.iinc 4 1, 3) := by decide +kernel
theorem dX10_map_70 : decode cX10_map 70 = .ok (.goto (-24), 3) := by decide +kernel
theorem dX10_map_73 : decode cX10_map 73 = .ok (.aload_n 0, 1) := by decide +kernel
theorem dX10_map_74 : decode cX10_map 74 = .ok (.iload_n 2, 1) := by decide +kernel
theorem dX10_map_75 : decode cX10_map 75 = .ok (.putfield 100, 3) := by decide +kernel
theorem dX10_map_78 : decode cX10_map 78 = .ok (.iload_n 3, 1) := by decide +kernel
theorem dX10_map_79 : decode cX10_map 79 = .ok (.ireturn, 1) := by decide +kernel
set_option maxRecDepth 20000 in
theorem ggX10_kin_X10_isHouse : GoodIn wsX10_kin wsX10_isHouse := goodIn_r _ [5, 6, 7, 8, 4, 9] (by decide +kernel) (by decide +kernel)
set_option maxRecDepth 20000 in
theorem gX10_kin_X10_isHouse : GoodIn wsX10_kin (va_wsS RX10 77 yX10_isHouse wsX10_isHouse) := goodIn_app (goodIn_of _ (by decide +kernel)) ggX10_kin_X10_isHouse
set_option maxRecDepth 20000 in
theorem ggX10_kin_X10_with : GoodIn wsX10_kin wsX10_with := goodIn_r _ [12] (by decide +kernel) (by decide +kernel)
set_option maxRecDepth 20000 in
theorem gX10_kin_X10_with : GoodIn wsX10_kin (va_wsS RX10 87 yX10_with wsX10_with) := goodIn_app (goodIn_of _ (by decide +kernel)) ggX10_kin_X10_with
set_option maxRecDepth 20000 in
theorem ggX10_kin_X10_ones : GoodIn wsX10_kin wsX10_ones := goodIn_r _ [15] (by decide +kernel) (by decide +kernel)
set_option maxRecDepth 20000 in
theorem gX10_kin_X10_ones : GoodIn wsX10_kin (va_wsS RX10 103 yX10_ones wsX10_ones) := goodIn_app (goodIn_of _ (by decide +kernel)) ggX10_kin_X10_ones
theorem dX10_kin_0 : decode cX10_kin 0 = .ok (.iload_n 1, 1) := by decide +kernel
theorem dX10_kin_1 : decode cX10_kin 1 = .ok (.invokestatic 77, 3) := by decide +kernel
theorem dX10_kin_4 : decode cX10_kin 4 = .ok (.ifCond .eq 15, 3) := by decide +kernel
theorem dX10_kin_7 : decode cX10_kin 7 = .ok (.iload_n 2, 1) := by decide +kernel
theorem dX10_kin_8 : decode cX10_kin 8 = .ok (.invokestatic 77, 3) := by decide +kernel
theorem dX10_kin_11 : decode cX10_kin 11 = .ok (.ifCond .eq 8, 3) := by decide +kernel
theorem dX10_kin_14 : decode cX10_kin 14 = .ok (.iload_n 1, 1) := by decide +kernel
theorem dX10_kin_15 : decode cX10_kin 15 = .ok (.iload_n 2, 1) := by decide +kernel
theorem dX10_kin_16 : decode cX10_kin 16 = .ok (.if_icmp .ne 5, 3) := by decide +kernel
theorem dX10_kin_19 : decode cX10_kin 19 = .ok (.iconst (-1), 1) := by decide +kernel
theorem dX10_kin_20 : decode cX10_kin 20 = .ok (.ireturn, 1) := by decide +kernel
theorem dX10_kin_21 : decode cX10_kin 21 = .ok (.aload_n 0, 1) := by decide +kernel
theorem dX10_kin_22 : decode cX10_kin 22 = .ok (.getfield 19, 3) := by decide +kernel
theorem dX10_kin_25 : decode cX10_kin 25 = .ok (.iload_n 1, 1) := by decide +kernel
theorem dX10_kin_26 : decode cX10_kin 26 = .ok (.aload_n 0, 1) := by decide +kernel
theorem dX10_kin_27 : decode cX10_kin 27 = .ok (.getfield 19, 3) := by decide +kernel
theorem dX10_kin_30 : decode cX10_kin 30 = .ok (.iload_n 1, 1) := by decide +kernel
theorem dX10_kin_31 : decode cX10_kin 31 = .ok (.iaload, 1) := by decide +kernel
theorem dX10_kin_32 : decode cX10_kin 32 = .ok (.iload_n 2, 1) := by decide +kernel
theorem dX10_kin_33 : decode cX10_kin 33 = .ok (.iload_n 3, 1) := by decide +kernel
theorem dX10_kin_34 : decode cX10_kin 34 = .ok (.invokestatic 87, 3) := by decide +kernel
theorem dX10_kin_37 : decode cX10_kin 37 = .ok (.iastore, 1) := by decide +kernel
theorem dX10_kin_38 : decode cX10_kin 38 = .ok (.aload_n 0, 1) := by decide +kernel
theorem dX10_kin_39 : decode cX10_kin 39 = .ok (.getfield 19, 3) := by decide +kernel
theorem dX10_kin_42 : decode cX10_kin 42 = .ok (.iload_n 2, 1) := by decide +kernel
theorem dX10_kin_43 : decode cX10_kin 43 = .ok (.aload_n 0, 1) := by decide +kernel
theorem dX10_kin_44 : decode cX10_kin 44 = .ok (.getfield 19, 3) := by decide +kernel
theorem dX10_kin_47 : decode cX10_kin 47 = .ok (.iload_n 2, 1) := by decide +kernel
theorem dX10_kin_48 : decode cX10_kin 48 = .ok (.iaload, 1) := by decide +kernel
theorem dX10_kin_49 : decode cX10_kin 49 = .ok (.iload_n 1, 1) := by decide +kernel
theorem dX10_kin_50 : decode cX10_kin 50 = .ok (.iload_n 3, 1) := by decide +kernel
theorem dX10_kin_51 : decode cX10_kin 51 = .ok (.invokestatic 87, 3) := by decide +kernel
theorem dX10_kin_54 : decode cX10_kin 54 = .ok (.iastore, 1) := by decide +kernel
theorem dX10_kin_55 : decode cX10_kin 55 = .ok (.iconst 0, 1) := by decide +kernel
theorem dX10_kin_56 : decode cX10_kin 56 = .ok (.istore 4, 2) := by decide +kernel
theorem dX10_kin_58 : decode cX10_kin 58 = .ok (.iconst 0, 1) := by decide +kernel
theorem dX10_kin_59 : decode cX10_kin 59 = .ok (.istore 5, 2) := by decide +kernel
theorem dX10_kin_61 : decode cX10_kin 61 = .ok (.iload 5, 2) := by decide +kernel
theorem dX10_kin_63 : decode cX10_kin 63 = .ok (.bipush 8, 2) := by decide +kernel
theorem dX10_kin_65 : decode cX10_kin 65 = .ok (.if_icmp .ge 24, 3) := by decide +kernel
theorem dX10_kin_68 : decode cX10_kin 68 = .ok (.iload 4, 2) := by decide +kernel
theorem dX10_kin_70 : decode cX10_kin 70 = .ok (.aload_n 0, 1) := by decide +kernel
theorem dX10_kin_71 : decode cX10_kin 71 = .ok (.getfield 19, 3) := by decide +kernel
theorem dX10_kin_74 : decode cX10_kin 74 = .ok (.iload 5, 2) := by decide +kernel
theorem dX10_kin_76 : decode cX10_kin 76 = .ok (.iaload, 1) := by decide +kernel
theorem dX10_kin_77 : decode cX10_kin 77 = .ok (.invokestatic 103, 3) := by decide +kernel
theorem dX10_kin_80 : decode cX10_kin 80 = .ok (.iadd, 1) := by decide +kernel
theorem dX10_kin_81 : decode cX10_kin 81 = .ok (.istore 4, 2) := by decide +kernel
theorem dX10_kin_83 : decode cX10_kin 83 = .ok (.iinc 5 1, 3) := by decide +kernel
theorem dX10_kin_86 : decode cX10_kin 86 = .ok (.goto (-25), 3) := by decide +kernel
theorem dX10_kin_89 : decode cX10_kin 89 = .ok (.iload 4, 2) := by decide +kernel
theorem dX10_kin_91 : decode cX10_kin 91 = .ok (.iconst 2, 1) := by decide +kernel
theorem dX10_kin_92 : decode cX10_kin 92 = .ok (.idiv, 1) := by decide +kernel
theorem dX10_kin_93 : decode cX10_kin 93 = .ok (.ireturn, 1) := by decide +kernel
set_option maxRecDepth 20000 in
theorem ggX10_say_X10_in : GoodIn wsX10_say wsX10_in := goodIn_r _ [8] (by decide +kernel) (by decide +kernel)
set_option maxRecDepth 20000 in
theorem gX10_say_X10_in : GoodIn wsX10_say (va_wsS RX10 73 yX10_in wsX10_in) := goodIn_app (goodIn_of _ (by decide +kernel)) ggX10_say_X10_in
theorem dX10_say_0 : decode cX10_say 0 = .ok (.iload_n 1, 1) := by decide +kernel
theorem dX10_say_1 : decode cX10_say 1 = .ok (.i2l, 1) := by decide +kernel
theorem dX10_say_2 : decode cX10_say 2 = .ok (.ldc2_w 107, 3) := by decide +kernel
theorem dX10_say_5 : decode cX10_say 5 = .ok (.ldc2_w 109, 3) := by decide +kernel
theorem dX10_say_8 : decode cX10_say 8 = .ok (.invokestatic 73, 3) := by decide +kernel
theorem dX10_say_11 : decode cX10_say 11 = .ok (.ifCond .ne 6, 3) := by decide +kernel
theorem dX10_say_14 : decode cX10_say 14 = .ok (.bipush (-2), 2) := by decide +kernel
theorem dX10_say_16 : decode cX10_say 16 = .ok (.ireturn, 1) := by decide +kernel
theorem dX10_say_17 : decode cX10_say 17 = .ok (.aload_n 0, 1) := by decide +kernel
theorem dX10_say_18 : decode cX10_say 18 = .ok (.getfield 111, 3) := by decide +kernel
theorem dX10_say_21 : decode cX10_say 21 = .ok (.bipush 60, 2) := by decide +kernel
theorem dX10_say_23 : decode cX10_say 23 = .ok (.if_icmp .ne 6, 3) := by decide +kernel
theorem dX10_say_26 : decode cX10_say 26 = .ok (.bipush (-4), 2) := by decide +kernel
theorem dX10_say_28 : decode cX10_say 28 = .ok (.ireturn, 1) := by decide +kernel
theorem dX10_say_29 : decode cX10_say 29 = .ok (.aload_n 0, 1) := by decide +kernel
theorem dX10_say_30 : decode cX10_say 30 = .ok (.getfield 31, 3) := by decide +kernel
theorem dX10_say_33 : decode cX10_say 33 = .ok (.aload_n 0, 1) := by decide +kernel
theorem dX10_say_34 : decode cX10_say 34 = .ok (.getfield 111, 3) := by decide +kernel
theorem dX10_say_37 : decode cX10_say 37 = .ok (.iload_n 1, 1) := by decide +kernel
theorem dX10_say_38 : decode cX10_say 38 = .ok (.iastore, 1) := by decide +kernel
theorem dX10_say_39 : decode cX10_say 39 = .ok (.aload_n 0, 1) := by decide +kernel
theorem dX10_say_40 : decode cX10_say 40 = .ok (.dup, 1) := by decide +kernel
theorem dX10_say_41 : decode cX10_say 41 = .ok (.getfield 111, 3) := by decide +kernel
theorem dX10_say_44 : decode cX10_say 44 = .ok (.iconst 1, 1) := by decide +kernel
theorem dX10_say_45 : decode cX10_say 45 = .ok (.iadd, 1) := by decide +kernel
theorem dX10_say_46 : decode cX10_say 46 = .ok (.putfield 111, 3) := by decide +kernel
theorem dX10_say_49 : decode cX10_say 49 = .ok (.aload_n 0, 1) := by decide +kernel
theorem dX10_say_50 : decode cX10_say 50 = .ok (.getfield 111, 3) := by decide +kernel
theorem dX10_say_53 : decode cX10_say 53 = .ok (.ireturn, 1) := by decide +kernel
theorem dX10_wipe_0 : decode cX10_wipe 0 = .ok (.aload_n 0, 1) := by decide +kernel
theorem dX10_wipe_1 : decode cX10_wipe 1 = .ok (.getfield 111, 3) := by decide +kernel
theorem dX10_wipe_4 : decode cX10_wipe 4 = .ok (.istore_n 1, 1) := by decide +kernel
theorem dX10_wipe_5 : decode cX10_wipe 5 = .ok (.aload_n 0, 1) := by decide +kernel
theorem dX10_wipe_6 : decode cX10_wipe 6 = .ok (.iconst 0, 1) := by decide +kernel
theorem dX10_wipe_7 : decode cX10_wipe 7 = .ok (.putfield 111, 3) := by decide +kernel
theorem dX10_wipe_10 : decode cX10_wipe 10 = .ok (.iload_n 1, 1) := by decide +kernel
theorem dX10_wipe_11 : decode cX10_wipe 11 = .ok (.ireturn, 1) := by decide +kernel
theorem dX10_close_0 : decode cX10_close 0 = .ok (.aload_n 0, 1) := by decide +kernel
theorem dX10_close_1 : decode cX10_close 1 = .ok (.getfield 34, 3) := by decide +kernel
theorem dX10_close_4 : decode cX10_close 4 = .ok (.aload_n 0, 1) := by decide +kernel
theorem dX10_close_5 : decode cX10_close 5 = .ok (.getfield 114, 3) := by decide +kernel
theorem dX10_close_8 : decode cX10_close 8 = .ok (.iload_n 1, 1) := by decide +kernel
theorem dX10_close_9 : decode cX10_close 9 = .ok (.iastore, 1) := by decide +kernel
theorem dX10_close_10 : decode cX10_close 10 = .ok (.aload_n 0, 1) := by decide +kernel
theorem dX10_close_11 : decode cX10_close 11 = .ok (.dup, 1) := by decide +kernel
theorem dX10_close_12 : decode cX10_close 12 = .ok (.getfield 114, 3) := by decide +kernel
theorem dX10_close_15 : decode cX10_close 15 = .ok (.iconst 1, 1) := by decide +kernel
theorem dX10_close_16 : decode cX10_close 16 = .ok (.iadd, 1) := by decide +kernel
theorem dX10_close_17 : decode cX10_close 17 = .ok (.putfield 114, 3) := by decide +kernel
theorem dX10_close_20 : decode cX10_close 20 = .ok (.iconst 0, 1) := by decide +kernel
theorem dX10_close_21 : decode cX10_close 21 = .ok (.ireturn, 1) := by decide +kernel
set_option maxRecDepth 20000 in
theorem ggX10_isName_X10_in : GoodIn wsX10_isName wsX10_in := goodIn_r _ [6] (by decide +kernel) (by decide +kernel)
set_option maxRecDepth 20000 in
theorem gX10_isName_X10_in : GoodIn wsX10_isName (va_wsS RX10 73 yX10_in wsX10_in) := goodIn_app (goodIn_of _ (by decide +kernel)) ggX10_isName_X10_in
theorem dX10_isName_0 : decode cX10_isName 0 = .ok (.iload_n 0, 1) := by decide +kernel
theorem dX10_isName_1 : decode cX10_isName 1 = .ok (.i2l, 1) := by decide +kernel
theorem dX10_isName_2 : decode cX10_isName 2 = .ok (.ldc2_w 117, 3) := by decide +kernel
theorem dX10_isName_5 : decode cX10_isName 5 = .ok (.ldc2_w 119, 3) := by decide +kernel
theorem dX10_isName_8 : decode cX10_isName 8 = .ok (.invokestatic 73, 3) := by decide +kernel
theorem dX10_isName_11 : decode cX10_isName 11 = .ok (.ireturn, 1) := by decide +kernel
set_option maxRecDepth 20000 in
theorem ggX10_begin_X10_isName : GoodIn wsX10_begin wsX10_isName := goodIn_r _ [8, 9, 10, 11, 12, 7, 13] (by decide +kernel) (by decide +kernel)
set_option maxRecDepth 20000 in
theorem gX10_begin_X10_isName : GoodIn wsX10_begin (va_wsS RX10 121 yX10_isName wsX10_isName) := goodIn_app (goodIn_of _ (by decide +kernel)) ggX10_begin_X10_isName
set_option maxRecDepth 20000 in
theorem ggX10_begin_X10_close : GoodIn wsX10_begin wsX10_close := goodIn_r _ [17, 18, 2, 19, 20, 21, 22, 23, 24, 25, 26, 27, 28, 29, 30, 31, 32, 33, 34, 35, 36, 37, 38, 39, 40, 41, 42, 43, 44, 45, 46, 47, 48, 49, 50, 51, 52, 53] (by decide +kernel) (by decide +kernel)
set_option maxRecDepth 20000 in
theorem gX10_begin_X10_close : GoodIn wsX10_begin (wsV RX10 124 RX10 yX10_close wsX10_close) := goodIn_app (goodIn_of _ (by decide +kernel)) ggX10_begin_X10_close
theorem dX10_begin_0 : decode cX10_begin 0 = .ok (.iload_n 1, 1) := by decide +kernel
theorem dX10_begin_1 : decode cX10_begin 1 = .ok (.invokestatic 121, 3) := by decide +kernel
theorem dX10_begin_4 : decode cX10_begin 4 = .ok (.istore_n 2, 1) := by decide +kernel
theorem dX10_begin_5 : decode cX10_begin 5 = .ok (.aload_n 0, 1) := by decide +kernel
theorem dX10_begin_6 : decode cX10_begin 6 = .ok (.getfield 37, 3) := by decide +kernel
theorem dX10_begin_9 : decode cX10_begin 9 = .ok (.aload_n 0, 1) := by decide +kernel
theorem dX10_begin_10 : decode cX10_begin 10 = .ok (.getfield 114, 3) := by decide +kernel
theorem dX10_begin_13 : decode cX10_begin 13 = .ok (.iload_n 2, 1) := by decide +kernel
theorem dX10_begin_14 : decode cX10_begin 14 = .ok (.ifCond .eq 10, 3) := by decide +kernel
theorem dX10_begin_17 : decode cX10_begin 17 = .ok (.iload_n 1, 1) := by decide +kernel
theorem dX10_begin_18 : decode cX10_begin 18 = .ok (.bipush 65, 2) := by decide +kernel
theorem dX10_begin_20 : decode cX10_begin 20 = .ok (.isub, 1) := by decide +kernel
theorem dX10_begin_21 : decode cX10_begin 21 = .ok (.goto 4, 3) := by decide +kernel
theorem dX10_begin_24 : decode cX10_begin 24 = .ok (.iconst 0, 1) := by decide +kernel
theorem dX10_begin_25 : decode cX10_begin 25 = .ok (.iastore, 1) := by decide +kernel
theorem dX10_begin_26 : decode cX10_begin 26 = .ok (.aload_n 0, 1) := by decide +kernel
theorem dX10_begin_27 : decode cX10_begin 27 = .ok (.getfield 40, 3) := by decide +kernel
theorem dX10_begin_30 : decode cX10_begin 30 = .ok (.aload_n 0, 1) := by decide +kernel
theorem dX10_begin_31 : decode cX10_begin 31 = .ok (.getfield 114, 3) := by decide +kernel
theorem dX10_begin_34 : decode cX10_begin 34 = .ok (.iconst 0, 1) := by decide +kernel
theorem dX10_begin_35 : decode cX10_begin 35 = .ok (.iastore, 1) := by decide +kernel
theorem dX10_begin_36 : decode cX10_begin 36 = .ok (.aload_n 0, 1) := by decide +kernel
theorem dX10_begin_37 : decode cX10_begin 37 = .ok (.getfield 43, 3) := by decide +kernel
theorem dX10_begin_40 : decode cX10_begin 40 = .ok (.aload_n 0, 1) := by decide +kernel
theorem dX10_begin_41 : decode cX10_begin 41 = .ok (.getfield 114, 3) := by decide +kernel
theorem dX10_begin_44 : decode cX10_begin 44 = .ok (.iconst 0, 1) := by decide +kernel
theorem dX10_begin_45 : decode cX10_begin 45 = .ok (.iastore, 1) := by decide +kernel
theorem dX10_begin_46 : decode cX10_begin 46 = .ok (.iload_n 2, 1) := by decide +kernel
theorem dX10_begin_47 : decode cX10_begin 47 = .ok (.ifCond .eq 7, 3) := by decide +kernel
theorem dX10_begin_50 : decode cX10_begin 50 = .ok (.iconst 1, 1) := by decide +kernel
theorem dX10_begin_51 : decode cX10_begin 51 = .ok (.goto 29, 3) := by decide +kernel
theorem dX10_begin_54 : decode cX10_begin 54 = .ok (.iload_n 1, 1) := by decide +kernel
theorem dX10_begin_55 : decode cX10_begin 55 = .ok (.bipush 120, 2) := by decide +kernel
theorem dX10_begin_57 : decode cX10_begin 57 = .ok (.if_icmp .ne 7, 3) := by decide +kernel
theorem dX10_begin_60 : decode cX10_begin 60 = .ok (.iconst 4, 1) := by decide +kernel
theorem dX10_begin_61 : decode cX10_begin 61 = .ok (.goto 19, 3) := by decide +kernel
theorem dX10_begin_64 : decode cX10_begin 64 = .ok (.iload_n 1, 1) := by decide +kernel
theorem dX10_begin_65 : decode cX10_begin 65 = .ok (.bipush 46, 2) := by decide +kernel
theorem dX10_begin_67 : decode cX10_begin 67 = .ok (.if_icmp .ne 11, 3) := by decide +kernel
theorem dX10_begin_70 : decode cX10_begin 70 = .ok (.aload_n 0, 1) := by decide +kernel
theorem dX10_begin_71 : decode cX10_begin 71 = .ok (.iconst 4, 1) := by decide +kernel
theorem dX10_begin_72 : decode cX10_begin 72 = .ok (.invokevirtual 124, 3) := by decide +kernel
theorem dX10_begin_75 : decode cX10_begin 75 = .ok (.goto 5, 3) := by decide +kernel
theorem dX10_begin_78 : decode cX10_begin 78 = .ok (.bipush (-6), 2) := by decide +kernel
theorem dX10_begin_80 : decode cX10_begin 80 = .ok (.ireturn, 1) := by decide +kernel
set_option maxRecDepth 20000 in
theorem ggX10_deed_X10_close : GoodIn wsX10_deed wsX10_close := goodIn_r _ [5, 6, 7, 8, 9, 10, 11, 12, 13, 14, 15, 16, 17, 18, 19, 20, 21, 22, 23, 24, 25, 26, 27, 28, 29, 30, 31, 32, 33, 34, 35, 36, 37, 38, 39, 40, 41, 42] (by decide +kernel) (by decide +kernel)
set_option maxRecDepth 20000 in
theorem gX10_deed_X10_close : GoodIn wsX10_deed (wsV RX10 124 RX10 yX10_close wsX10_close) := goodIn_app (goodIn_of _ (by decide +kernel)) ggX10_deed_X10_close
theorem dX10_deed_0 : decode cX10_deed 0 = .ok (.iload_n 1, 1) := by decide +kernel
theorem dX10_deed_1 : decode cX10_deed 1 = .ok (.bipush 94, 2) := by decide +kernel
theorem dX10_deed_3 : decode cX10_deed 3 = .ok (.if_icmp .ne 11, 3) := by decide +kernel
theorem dX10_deed_6 : decode cX10_deed 6 = .ok (.aload_n 0, 1) := by decide +kernel
theorem dX10_deed_7 : decode cX10_deed 7 = .ok (.iconst 0, 1) := by decide +kernel
theorem dX10_deed_8 : decode cX10_deed 8 = .ok (.invokevirtual 124, 3) := by decide +kernel
theorem dX10_deed_11 : decode cX10_deed 11 = .ok (.goto 29, 3) := by decide +kernel
theorem dX10_deed_14 : decode cX10_deed 14 = .ok (.iload_n 1, 1) := by decide +kernel
theorem dX10_deed_15 : decode cX10_deed 15 = .ok (.bipush 95, 2) := by decide +kernel
theorem dX10_deed_17 : decode cX10_deed 17 = .ok (.if_icmp .ne 11, 3) := by decide +kernel
theorem dX10_deed_20 : decode cX10_deed 20 = .ok (.aload_n 0, 1) := by decide +kernel
theorem dX10_deed_21 : decode cX10_deed 21 = .ok (.iconst 1, 1) := by decide +kernel
theorem dX10_deed_22 : decode cX10_deed 22 = .ok (.invokevirtual 124, 3) := by decide +kernel
theorem dX10_deed_25 : decode cX10_deed 25 = .ok (.goto 15, 3) := by decide +kernel
theorem dX10_deed_28 : decode cX10_deed 28 = .ok (.iload_n 1, 1) := by decide +kernel
theorem dX10_deed_29 : decode cX10_deed 29 = .ok (.bipush 62, 2) := by decide +kernel
theorem dX10_deed_31 : decode cX10_deed 31 = .ok (.if_icmp .ne 7, 3) := by decide +kernel
theorem dX10_deed_34 : decode cX10_deed 34 = .ok (.iconst 2, 1) := by decide +kernel
theorem dX10_deed_35 : decode cX10_deed 35 = .ok (.goto 5, 3) := by decide +kernel
theorem dX10_deed_38 : decode cX10_deed 38 = .ok (.bipush (-6), 2) := by decide +kernel
theorem dX10_deed_40 : decode cX10_deed 40 = .ok (.ireturn, 1) := by decide +kernel
set_option maxRecDepth 20000 in
theorem ggX10_name_X10_isName : GoodIn wsX10_name wsX10_isName := goodIn_r _ [7, 8, 9, 10, 11, 6, 12] (by decide +kernel) (by decide +kernel)
set_option maxRecDepth 20000 in
theorem gX10_name_X10_isName : GoodIn wsX10_name (va_wsS RX10 121 yX10_isName wsX10_isName) := goodIn_app (goodIn_of _ (by decide +kernel)) ggX10_name_X10_isName
set_option maxRecDepth 20000 in
theorem ggX10_name_X10_close : GoodIn wsX10_name wsX10_close := goodIn_r _ [16, 17, 2, 18, 19, 20, 21, 22, 23, 24, 25, 26, 27, 28, 29, 30, 31, 32, 33, 34, 35, 36, 37, 38, 39, 40, 41, 42, 43, 44, 45, 46, 47, 48, 49, 50, 51, 52] (by decide +kernel) (by decide +kernel)
set_option maxRecDepth 20000 in
theorem gX10_name_X10_close : GoodIn wsX10_name (wsV RX10 124 RX10 yX10_close wsX10_close) := goodIn_app (goodIn_of _ (by decide +kernel)) ggX10_name_X10_close
theorem dX10_name_0 : decode cX10_name 0 = .ok (.iload_n 2, 1) := by decide +kernel
theorem dX10_name_1 : decode cX10_name 1 = .ok (.invokestatic 121, 3) := by decide +kernel
theorem dX10_name_4 : decode cX10_name 4 = .ok (.ifCond .ne 6, 3) := by decide +kernel
theorem dX10_name_7 : decode cX10_name 7 = .ok (.bipush (-6), 2) := by decide +kernel
theorem dX10_name_9 : decode cX10_name 9 = .ok (.ireturn, 1) := by decide +kernel
theorem dX10_name_10 : decode cX10_name 10 = .ok (.iload_n 1, 1) := by decide +kernel
theorem dX10_name_11 : decode cX10_name 11 = .ok (.iconst 4, 1) := by decide +kernel
theorem dX10_name_12 : decode cX10_name 12 = .ok (.if_icmp .ne 18, 3) := by decide +kernel
theorem dX10_name_15 : decode cX10_name 15 = .ok (.aload_n 0, 1) := by decide +kernel
theorem dX10_name_16 : decode cX10_name 16 = .ok (.getfield 37, 3) := by decide +kernel
theorem dX10_name_19 : decode cX10_name 19 = .ok (.aload_n 0, 1) := by decide +kernel
theorem dX10_name_20 : decode cX10_name 20 = .ok (.getfield 114, 3) := by decide +kernel
theorem dX10_name_23 : decode cX10_name 23 = .ok (.iload_n 2, 1) := by decide +kernel
theorem dX10_name_24 : decode cX10_name 24 = .ok (.bipush 65, 2) := by decide +kernel
theorem dX10_name_26 : decode cX10_name 26 = .ok (.isub, 1) := by decide +kernel
theorem dX10_name_27 : decode cX10_name 27 = .ok (.iastore, 1) := by decide +kernel
theorem dX10_name_28 : decode cX10_name 28 = .ok (.iconst 5, 1) := by decide +kernel
theorem dX10_name_29 : decode cX10_name 29 = .ok (.ireturn, 1) := by decide +kernel
theorem dX10_name_30 : decode cX10_name 30 = .ok (.aload_n 0, 1) := by decide +kernel
theorem dX10_name_31 : decode cX10_name 31 = .ok (.getfield 40, 3) := by decide +kernel
theorem dX10_name_34 : decode cX10_name 34 = .ok (.aload_n 0, 1) := by decide +kernel
theorem dX10_name_35 : decode cX10_name 35 = .ok (.getfield 114, 3) := by decide +kernel
theorem dX10_name_38 : decode cX10_name 38 = .ok (.iload_n 2, 1) := by decide +kernel
theorem dX10_name_39 : decode cX10_name 39 = .ok (.bipush 65, 2) := by decide +kernel
theorem dX10_name_41 : decode cX10_name 41 = .ok (.isub, 1) := by decide +kernel
theorem dX10_name_42 : decode cX10_name 42 = .ok (.iastore, 1) := by decide +kernel
theorem dX10_name_43 : decode cX10_name 43 = .ok (.iload_n 1, 1) := by decide +kernel
theorem dX10_name_44 : decode cX10_name 44 = .ok (.iconst 2, 1) := by decide +kernel
theorem dX10_name_45 : decode cX10_name 45 = .ok (.if_icmp .ne 7, 3) := by decide +kernel
theorem dX10_name_48 : decode cX10_name 48 = .ok (.iconst 3, 1) := by decide +kernel
theorem dX10_name_49 : decode cX10_name 49 = .ok (.goto 8, 3) := by decide +kernel
theorem dX10_name_52 : decode cX10_name 52 = .ok (.aload_n 0, 1) := by decide +kernel
theorem dX10_name_53 : decode cX10_name 53 = .ok (.iconst 3, 1) := by decide +kernel
theorem dX10_name_54 : decode cX10_name 54 = .ok (.invokevirtual 124, 3) := by decide +kernel
theorem dX10_name_57 : decode cX10_name 57 = .ok (.ireturn, 1) := by decide +kernel
set_option maxRecDepth 20000 in
theorem ggX10_amount_X10_in : GoodIn wsX10_amount wsX10_in := goodIn_r _ [8] (by decide +kernel) (by decide +kernel)
set_option maxRecDepth 20000 in
theorem gX10_amount_X10_in : GoodIn wsX10_amount (va_wsS RX10 73 yX10_in wsX10_in) := goodIn_app (goodIn_of _ (by decide +kernel)) ggX10_amount_X10_in
set_option maxRecDepth 20000 in
theorem ggX10_amount_X10_close : GoodIn wsX10_amount wsX10_close := goodIn_r _ [12, 13, 2, 14, 15, 16, 17, 18, 19, 20, 21, 22, 23, 24, 25, 26, 27, 28, 29, 30, 31, 32, 33, 34, 35, 36, 37, 38, 39, 40, 41, 42, 43, 44, 45, 46, 47, 48] (by decide +kernel) (by decide +kernel)
set_option maxRecDepth 20000 in
theorem gX10_amount_X10_close : GoodIn wsX10_amount (wsV RX10 124 RX10 yX10_close wsX10_close) := goodIn_app (goodIn_of _ (by decide +kernel)) ggX10_amount_X10_close
theorem dX10_amount_0 : decode cX10_amount 0 = .ok (.aload_n 0, 1) := by decide +kernel
theorem dX10_amount_1 : decode cX10_amount 1 = .ok (.getfield 43, 3) := by decide +kernel
theorem dX10_amount_4 : decode cX10_amount 4 = .ok (.aload_n 0, 1) := by decide +kernel
theorem dX10_amount_5 : decode cX10_amount 5 = .ok (.getfield 114, 3) := by decide +kernel
theorem dX10_amount_8 : decode cX10_amount 8 = .ok (.iload_n 1, 1) := by decide +kernel
theorem dX10_amount_9 : decode cX10_amount 9 = .ok (.bipush 48, 2) := by decide +kernel
theorem dX10_amount_11 : decode cX10_amount 11 = .ok (.isub, 1) := by decide +kernel
theorem dX10_amount_12 : decode cX10_amount 12 = .ok (.iastore, 1) := by decide +kernel
theorem dX10_amount_13 : decode cX10_amount 13 = .ok (.iload_n 1, 1) := by decide +kernel
theorem dX10_amount_14 : decode cX10_amount 14 = .ok (.i2l, 1) := by decide +kernel
theorem dX10_amount_15 : decode cX10_amount 15 = .ok (.ldc2_w 127, 3) := by decide +kernel
theorem dX10_amount_18 : decode cX10_amount 18 = .ok (.ldc2_w 129, 3) := by decide +kernel
theorem dX10_amount_21 : decode cX10_amount 21 = .ok (.invokestatic 73, 3) := by decide +kernel
theorem dX10_amount_24 : decode cX10_amount 24 = .ok (.ifCond .eq 11, 3) := by decide +kernel
theorem dX10_amount_27 : decode cX10_amount 27 = .ok (.aload_n 0, 1) := by decide +kernel
theorem dX10_amount_28 : decode cX10_amount 28 = .ok (.iconst 2, 1) := by decide +kernel
theorem dX10_amount_29 : decode cX10_amount 29 = .ok (.invokevirtual 124, 3) := by decide +kernel
theorem dX10_amount_32 : decode cX10_amount 32 = .ok (.goto 5, 3) := by decide +kernel
theorem dX10_amount_35 : decode cX10_amount 35 = .ok (.bipush (-6), 2) := by decide +kernel
theorem dX10_amount_37 : decode cX10_amount 37 = .ok (.ireturn, 1) := by decide +kernel
set_option maxRecDepth 20000 in
theorem ggX10_readOn_X10_begin : GoodIn wsX10_readOn wsX10_begin := goodIn_r _ [5, 6, 7, 8, 9, 10, 11, 4, 12, 13, 14, 15, 16, 17, 18, 19, 20, 21, 22, 37, 38, 39, 40, 41, 42, 43, 44, 45, 46, 47, 48, 49, 50, 51, 52, 53, 54, 55, 56, 57, 58, 59, 60, 61, 62, 63, 64, 65, 66, 67, 68, 69, 70, 71] (by decide +kernel) (by decide +kernel)
set_option maxRecDepth 20000 in
theorem gX10_readOn_X10_begin : GoodIn wsX10_readOn (wsV RX10 131 RX10 yX10_begin wsX10_begin) := goodIn_app (goodIn_of _ (by decide +kernel)) ggX10_readOn_X10_begin
set_option maxRecDepth 20000 in
theorem ggX10_readOn_X10_deed : GoodIn wsX10_readOn wsX10_deed := goodIn_r _ [26, 18, 19, 20, 4, 21, 22, 7, 37, 38, 39, 40, 41, 42, 43, 44, 45, 46, 47, 48, 49, 50, 51, 52, 53, 54, 55, 56, 57, 58, 59, 60, 61, 62, 63, 64, 65, 66, 67, 68, 69, 70, 71] (by decide +kernel) (by decide +kernel)
set_option maxRecDepth 20000 in
theorem gX10_readOn_X10_deed : GoodIn wsX10_readOn (wsV RX10 134 RX10 yX10_deed wsX10_deed) := goodIn_app (goodIn_of _ (by decide +kernel)) ggX10_readOn_X10_deed
set_option maxRecDepth 20000 in
theorem ggX10_readOn_X10_amount : GoodIn wsX10_readOn wsX10_amount := goodIn_r _ [30, 9, 7, 31, 32, 15, 16, 4, 17, 18, 19, 20, 21, 22, 37, 38, 39, 40, 41, 42, 43, 44, 45, 46, 47, 48, 49, 50, 51, 52, 53, 54, 55, 56, 57, 58, 59, 60, 61, 62, 63, 64, 65, 66, 67, 68, 69, 70, 71] (by decide +kernel) (by decide +kernel)
set_option maxRecDepth 20000 in
theorem gX10_readOn_X10_amount : GoodIn wsX10_readOn (wsV RX10 137 RX10 yX10_amount wsX10_amount) := goodIn_app (goodIn_of _ (by decide +kernel)) ggX10_readOn_X10_amount
set_option maxRecDepth 20000 in
theorem ggX10_readOn_X10_name : GoodIn wsX10_readOn wsX10_name := goodIn_r _ [36, 6, 7, 8, 10, 11, 4, 12, 13, 14, 15, 16, 17, 18, 19, 20, 21, 22, 37, 38, 39, 40, 41, 42, 43, 44, 45, 46, 47, 48, 49, 50, 51, 52, 53, 54, 55, 56, 57, 58, 59, 60, 61, 62, 63, 64, 65, 66, 67, 68, 69, 70, 71] (by decide +kernel) (by decide +kernel)
set_option maxRecDepth 20000 in
theorem gX10_readOn_X10_name : GoodIn wsX10_readOn (wsV RX10 140 RX10 yX10_name wsX10_name) := goodIn_app (goodIn_of _ (by decide +kernel)) ggX10_readOn_X10_name
theorem dX10_readOn_0 : decode cX10_readOn 0 = .ok (.iload_n 1, 1) := by decide +kernel
theorem dX10_readOn_1 : decode cX10_readOn 1 = .ok (.tableswitch 49 0 3 #[31, 37, 49, 43], 31) := by decide +kernel
theorem dX10_readOn_32 : decode cX10_readOn 32 = .ok (.aload_n 0, 1) := by decide +kernel
theorem dX10_readOn_33 : decode cX10_readOn 33 = .ok (.iload_n 2, 1) := by decide +kernel
theorem dX10_readOn_34 : decode cX10_readOn 34 = .ok (.invokevirtual 131, 3) := by decide +kernel
theorem dX10_readOn_37 : decode cX10_readOn 37 = .ok (.ireturn, 1) := by decide +kernel
theorem dX10_readOn_38 : decode cX10_readOn 38 = .ok (.aload_n 0, 1) := by decide +kernel
theorem dX10_readOn_39 : decode cX10_readOn 39 = .ok (.iload_n 2, 1) := by decide +kernel
theorem dX10_readOn_40 : decode cX10_readOn 40 = .ok (.invokevirtual 134, 3) := by decide +kernel
theorem dX10_readOn_43 : decode cX10_readOn 43 = .ok (.ireturn, 1) := by decide +kernel
theorem dX10_readOn_44 : decode cX10_readOn 44 = .ok (.aload_n 0, 1) := by decide +kernel
theorem dX10_readOn_45 : decode cX10_readOn 45 = .ok (.iload_n 2, 1) := by decide +kernel
theorem dX10_readOn_46 : decode cX10_readOn 46 = .ok (.invokevirtual 137, 3) := by decide +kernel
theorem dX10_readOn_49 : decode cX10_readOn 49 = .ok (.ireturn, 1) := by decide +kernel
theorem dX10_readOn_50 : decode cX10_readOn 50 = .ok (.aload_n 0, 1) := by decide +kernel
theorem dX10_readOn_51 : decode cX10_readOn 51 = .ok (.iload_n 1, 1) := by decide +kernel
theorem dX10_readOn_52 : decode cX10_readOn 52 = .ok (.iload_n 2, 1) := by decide +kernel
theorem dX10_readOn_53 : decode cX10_readOn 53 = .ok (.invokevirtual 140, 3) := by decide +kernel
theorem dX10_readOn_56 : decode cX10_readOn 56 = .ok (.ireturn, 1) := by decide +kernel
set_option maxRecDepth 20000 in
theorem ggX10_fault_X10_readOn : GoodIn wsX10_fault wsX10_readOn := goodIn_r _ [8, 9, 10, 11, 7, 12, 13, 1, 14, 15, 16, 17, 18, 19, 20, 21, 22, 23, 24, 25, 26, 27, 28, 29, 30, 31, 32, 33, 34, 35, 36, 37, 38, 39, 40, 41, 42, 43, 44, 45, 46, 47, 48, 49, 50, 51, 52, 53, 54, 55, 56, 57, 58, 59, 60, 61, 62, 63, 64, 65, 66, 67, 68, 69, 70, 71, 72, 73, 74, 75, 76, 77] (by decide +kernel) (by decide +kernel)
set_option maxRecDepth 20000 in
theorem gX10_fault_X10_readOn : GoodIn wsX10_fault (wsV RX10 144 RX10 yX10_readOn wsX10_readOn) := goodIn_app (goodIn_of _ (by decide +kernel)) ggX10_fault_X10_readOn
theorem dX10_fault_0 : decode cX10_fault 0 = .ok (.aload_n 0, 1) := by decide +kernel
