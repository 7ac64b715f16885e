set_option maxRecDepth 20000 in
theorem ggX10_century_X10_happen : GoodIn wsX10_century wsX10_happen := goodIn_r _ [40, 41, 9, 42, 43, 44, 12, 45, 46, 47, 48, 49, 8, 20, 4, 50, 51, 52, 53, 54, 55, 56, 19, 57, 58, 59, 60, 61, 62, 63, 64, 21, 22, 69, 70, 71, 72, 73, 74, 75, 76, 77, 78, 79, 80, 81, 82, 83, 84, 85, 86, 87, 88, 89, 90, 91, 92, 93, 94, 95, 96, 97, 98, 99, 100, 101, 102, 103] (by decide +kernel) (by decide +kernel)
set_option maxRecDepth 20000 in
theorem gX10_century_X10_happen : GoodIn wsX10_century (wsV RX10 185 RX10 yX10_happen wsX10_happen) := goodIn_app (goodIn_of _ (by decide +kernel)) ggX10_century_X10_happen
set_option maxRecDepth 20000 in
theorem ggX10_century_X10_back : GoodIn wsX10_century wsX10_back := goodIn_r _ [68, 8, 18, 19, 20, 9, 21, 22, 69, 70, 71, 72, 73, 74, 75, 76, 77, 78, 79, 80, 81, 82, 83, 84, 85, 86, 87, 88, 89, 90, 91, 92, 93, 94, 95, 96, 97, 98, 99, 100, 101, 102, 103] (by decide +kernel) (by decide +kernel)
set_option maxRecDepth 20000 in
theorem gX10_century_X10_back : GoodIn wsX10_century (wsV RX10 222 RX10 yX10_back wsX10_back) := goodIn_app (goodIn_of _ (by decide +kernel)) ggX10_century_X10_back
theorem dX10_century_0 : decode cX10_century 0 = .ok (.iload_n 1, 1) := by decide +kernel
theorem dX10_century_1 : decode cX10_century 1 = .ok (.i2l, 1) := by decide +kernel
theorem dX10_century_2 : decode cX10_century 2 = .ok (.lconst 0, 1) := by decide +kernel
theorem dX10_century_3 : decode cX10_century 3 = .ok (.ldc2_w 294, 3) := by decide +kernel
theorem dX10_century_6 : decode cX10_century 6 = .ok (.invokestatic 73, 3) := by decide +kernel
theorem dX10_century_9 : decode cX10_century 9 = .ok (.ifCond .eq 27, 3) := by decide +kernel
theorem dX10_century_12 : decode cX10_century 12 = .ok (.iload_n 2, 1) := by decide +kernel
theorem dX10_century_13 : decode cX10_century 13 = .ok (.i2l, 1) := by decide +kernel
theorem dX10_century_14 : decode cX10_century 14 = .ok (.lconst 1, 1) := by decide +kernel
theorem dX10_century_15 : decode cX10_century 15 = .ok (.ldc2_w 251, 3) := by decide +kernel
theorem dX10_century_18 : decode cX10_century 18 = .ok (.invokestatic 73, 3) := by decide +kernel
theorem dX10_century_21 : decode cX10_century 21 = .ok (.ifCond .eq 15, 3) := by decide +kernel
theorem dX10_century_24 : decode cX10_century 24 = .ok (.iload_n 3, 1) := by decide +kernel
theorem dX10_century_25 : decode cX10_century 25 = .ok (.i2l, 1) := by decide +kernel
theorem dX10_century_26 : decode cX10_century 26 = .ok (.lconst 0, 1) := by decide +kernel
theorem dX10_century_27 : decode cX10_century 27 = .ok (.ldc2_w 217, 3) := by decide +kernel
theorem dX10_century_30 : decode cX10_century 30 = .ok (.invokestatic 73, 3) := by decide +kernel
theorem dX10_century_33 : decode cX10_century 33 = .ok (.ifCond .ne 6, 3) := by decide +kernel
theorem dX10_century_36 : decode cX10_century 36 = .ok (.bipush (-2), 2) := by decide +kernel
theorem dX10_century_38 : decode cX10_century 38 = .ok (.ireturn, 1) := by decide +kernel
theorem dX10_century_39 : decode cX10_century 39 = .ok (.aload_n 0, 1) := by decide +kernel
theorem dX10_century_40 : decode cX10_century 40 = .ok (.invokevirtual 208, 3) := by decide +kernel
theorem dX10_century_43 : decode cX10_century 43 = .ok (.aload_n 0, 1) := by decide +kernel
theorem dX10_century_44 : decode cX10_century 44 = .ok (.iconst 0, 1) := by decide +kernel
theorem dX10_century_45 : decode cX10_century 45 = .ok (.putfield 164, 3) := by decide +kernel
theorem dX10_century_48 : decode cX10_century 48 = .ok (.iload_n 1, 1) := by decide +kernel
theorem dX10_century_49 : decode cX10_century 49 = .ok (.istore 4, 2) := by decide +kernel
theorem dX10_century_51 : decode cX10_century 51 = .ok (.iconst 0, 1) := by decide +kernel
theorem dX10_century_52 : decode cX10_century 52 = .ok (.istore 5, 2) := by decide +kernel
theorem dX10_century_54 : decode cX10_century 54 = .ok (.iload 5, 2) := by decide +kernel
theorem dX10_century_56 : decode cX10_century 56 = .ok (.iload_n 2, 1) := by decide +kernel
theorem dX10_century_57 : decode cX10_century 57 = .ok (.if_icmp .ge 98, 3) := by decide +kernel
theorem dX10_century_60 : decode cX10_century 60 = .ok (.ldc2_w 296, 3) := by decide +kernel
theorem dX10_century_63 : decode cX10_century 63 = .ok (.iload 4, 2) := by decide +kernel
theorem dX10_century_65 : decode cX10_century 65 = .ok (.i2l, 1) := by decide +kernel
theorem dX10_century_66 : decode cX10_century 66 = .ok (.lmul, 1) := by decide +kernel
theorem dX10_century_67 : decode cX10_century 67 = .ok (.ldc2_w 298, 3) := by decide +kernel
theorem dX10_century_70 : decode cX10_century 70 = .ok (.ladd, 1) := by decide +kernel
theorem dX10_century_71 : decode cX10_century 71 = .ok (.ldc2_w 300, 3) := by decide +kernel
theorem dX10_century_74 : decode cX10_century 74 = .ok (.lrem, 1) := by decide +kernel
theorem dX10_century_75 : decode cX10_century 75 = .ok (.l2i, 1) := by decide +kernel
theorem dX10_century_76 : decode cX10_century 76 = .ok (.istore 4, 2) := by decide +kernel
theorem dX10_century_78 : decode cX10_century 78 = .ok (.iload 4, 2) := by decide +kernel
theorem dX10_century_80 : decode cX10_century 80 = .ok (.bipush 8, 2) := by decide +kernel
theorem dX10_century_82 : decode cX10_century 82 = .ok (.idiv, 1) := by decide +kernel
theorem dX10_century_83 : decode cX10_century 83 = .ok (.bipush 8, 2) := by decide +kernel
theorem dX10_century_85 : decode cX10_century 85 = .ok (.irem, 1) := by decide +kernel
theorem dX10_century_86 : decode cX10_century 86 = .ok (.invokestatic 302, 3) := by decide +kernel
theorem dX10_century_89 : decode cX10_century 89 = .ok (.istore 6, 2) := by decide +kernel
theorem dX10_century_91 : decode cX10_century 91 = .ok (.iload 4, 2) := by decide +kernel
theorem dX10_century_93 : decode cX10_century 93 = .ok (.bipush 64, 2) := by decide +kernel
theorem dX10_century_95 : decode cX10_century 95 = .ok (.idiv, 1) := by decide +kernel
theorem dX10_century_96 : decode cX10_century 96 = .ok (.istore 7, 2) := by decide +kernel
theorem dX10_century_98 : decode cX10_century 98 = .ok (.iconst 1, 1) := by decide +kernel
theorem dX10_century_99 : decode cX10_century 99 = .ok (.iload 7, 2) := by decide +kernel
theorem dX10_century_101 : decode cX10_century 101 = .ok (.bipush 8, 2) := by decide +kernel
theorem dX10_century_103 : decode cX10_century 103 = .ok (.idiv, 1) := by decide +kernel
theorem dX10_century_104 : decode cX10_century 104 = .ok (.bipush 9, 2) := by decide +kernel
theorem dX10_century_106 : decode cX10_century 106 = .ok (.irem, 1) := by decide +kernel
theorem dX10_century_107 : decode cX10_century 107 = .ok (.iadd, 1) := by decide +kernel
theorem dX10_century_108 : decode cX10_century 108 = .ok (.istore 8, 2) := by decide +kernel
theorem dX10_century_110 : decode cX10_century 110 = .ok (.aload_n 0, 1) := by decide +kernel
theorem dX10_century_111 : decode cX10_century 111 = .ok (.iload 6, 2) := by decide +kernel
theorem dX10_century_113 : decode cX10_century 113 = .ok (.iload 4, 2) := by decide +kernel
theorem dX10_century_115 : decode cX10_century 115 = .ok (.bipush 8, 2) := by decide +kernel
theorem dX10_century_117 : decode cX10_century 117 = .ok (.irem, 1) := by decide +kernel
theorem dX10_century_118 : decode cX10_century 118 = .ok (.iload 7, 2) := by decide +kernel
theorem dX10_century_120 : decode cX10_century 120 = .ok (.bipush 8, 2) := by decide +kernel
theorem dX10_century_122 : decode cX10_century 122 = .ok (.irem, 1) := by decide +kernel
theorem dX10_century_123 : decode cX10_century 123 = .ok (.iload 8, 2) := by decide +kernel
theorem dX10_century_125 : decode cX10_century 125 = .ok (.invokevirtual 201, 3) := by decide +kernel
theorem dX10_century_128 : decode cX10_century 128 = .ok (.ifCond .ne 21, 3) := by decide +kernel
theorem dX10_century_131 : decode cX10_century 131 = .ok (.aload_n 0, 1) := by decide +kernel
theorem dX10_century_132 : decode cX10_century 132 = .ok (.iload 6, 2) := by decide +kernel
theorem dX10_century_134 : decode cX10_century 134 = .ok (.iload 4, 2) := by decide +kernel
theorem dX10_century_136 : decode cX10_century 136 = .ok (.bipush 8, 2) := by decide +kernel
theorem dX10_century_138 : decode cX10_century 138 = .ok (.irem, 1) := by decide +kernel
theorem dX10_century_139 : decode cX10_century 139 = .ok (.iload 7, 2) := by decide +kernel
theorem dX10_century_141 : decode cX10_century 141 = .ok (.bipush 8, 2) := by decide +kernel
theorem dX10_century_143 : decode cX10_century 143 = .ok (.irem, 1) := by decide +kernel
theorem dX10_century_144 : decode cX10_century 144 = .ok (.iload 8, 2) := by decide +kernel
theorem dX10_century_146 : decode cX10_century 146 = .ok (.invokevirtual 185, 3) := by decide +kernel
theorem dX10_century_149 : decode cX10_century 149 = .ok (.iinc 5 1, 3) := by decide +kernel
theorem dX10_century_152 : decode cX10_century 152 = .ok (.goto (-98), 3) := by decide +kernel
theorem dX10_century_155 : decode cX10_century 155 = .ok (.aload_n 0, 1) := by decide +kernel
theorem dX10_century_156 : decode cX10_century 156 = .ok (.iload_n 3, 1) := by decide +kernel
theorem dX10_century_157 : decode cX10_century 157 = .ok (.ifCond .ne 12, 3) := by decide +kernel
theorem dX10_century_160 : decode cX10_century 160 = .ok (.aload_n 0, 1) := by decide +kernel
theorem dX10_century_161 : decode cX10_century 161 = .ok (.getfield 7, 3) := by decide +kernel
theorem dX10_century_164 : decode cX10_century 164 = .ok (.iconst 0, 1) := by decide +kernel
theorem dX10_century_165 : decode cX10_century 165 = .ok (.iaload, 1) := by decide +kernel
theorem dX10_century_166 : decode cX10_century 166 = .ok (.goto 19, 3) := by decide +kernel
theorem dX10_century_169 : decode cX10_century 169 = .ok (.iload_n 3, 1) := by decide +kernel
theorem dX10_century_170 : decode cX10_century 170 = .ok (.iconst 1, 1) := by decide +kernel
theorem dX10_century_171 : decode cX10_century 171 = .ok (.if_icmp .ne 10, 3) := by decide +kernel
theorem dX10_century_174 : decode cX10_century 174 = .ok (.aload_n 0, 1) := by decide +kernel
theorem dX10_century_175 : decode cX10_century 175 = .ok (.getfield 83, 3) := by decide +kernel
theorem dX10_century_178 : decode cX10_century 178 = .ok (.goto 7, 3) := by decide +kernel
theorem dX10_century_181 : decode cX10_century 181 = .ok (.aload_n 0, 1) := by decide +kernel
theorem dX10_century_182 : decode cX10_century 182 = .ok (.getfield 164, 3) := by decide +kernel
theorem dX10_century_185 : decode cX10_century 185 = .ok (.invokevirtual 222, 3) := by decide +kernel
theorem dX10_century_188 : decode cX10_century 188 = .ok (.ireturn, 1) := by decide +kernel
theorem dX10_pass_0 : decode cX10_pass 0 = .ok (.aload_n 0, 1) := by decide +kernel
theorem dX10_pass_1 : decode cX10_pass 1 = .ok (.getfield 305, 3) := by decide +kernel
theorem dX10_pass_4 : decode cX10_pass 4 = .ok (.ifCond .eq 7, 3) := by decide +kernel
theorem dX10_pass_7 : decode cX10_pass 7 = .ok (.iload_n 1, 1) := by decide +kernel
theorem dX10_pass_8 : decode cX10_pass 8 = .ok (.goto 12, 3) := by decide +kernel
theorem dX10_pass_11 : decode cX10_pass 11 = .ok (.aload_n 0, 1) := by decide +kernel
theorem dX10_pass_12 : decode cX10_pass 12 = .ok (.getfield 64, 3) := by decide +kernel
theorem dX10_pass_15 : decode cX10_pass 15 = .ok (.aload_n 0, 1) := by decide +kernel
theorem dX10_pass_16 : decode cX10_pass 16 = .ok (.getfield 309, 3) := by decide +kernel
theorem dX10_pass_19 : decode cX10_pass 19 = .ok (.iaload, 1) := by decide +kernel
theorem dX10_pass_20 : decode cX10_pass 20 = .ok (.istore_n 2, 1) := by decide +kernel
theorem dX10_pass_21 : decode cX10_pass 21 = .ok (.aload_n 0, 1) := by decide +kernel
theorem dX10_pass_22 : decode cX10_pass 22 = .ok (.getfield 64, 3) := by decide +kernel
theorem dX10_pass_25 : decode cX10_pass 25 = .ok (.aload_n 0, 1) := by decide +kernel
theorem dX10_pass_26 : decode cX10_pass 26 = .ok (.getfield 309, 3) := by decide +kernel
theorem dX10_pass_29 : decode cX10_pass 29 = .ok (.iload_n 2, 1) := by decide +kernel
theorem dX10_pass_30 : decode cX10_pass 30 = .ok (.iastore, 1) := by decide +kernel
theorem dX10_pass_31 : decode cX10_pass 31 = .ok (.aload_n 0, 1) := by decide +kernel
theorem dX10_pass_32 : decode cX10_pass 32 = .ok (.dup, 1) := by decide +kernel
theorem dX10_pass_33 : decode cX10_pass 33 = .ok (.getfield 309, 3) := by decide +kernel
theorem dX10_pass_36 : decode cX10_pass 36 = .ok (.iconst 1, 1) := by decide +kernel
theorem dX10_pass_37 : decode cX10_pass 37 = .ok (.iadd, 1) := by decide +kernel
theorem dX10_pass_38 : decode cX10_pass 38 = .ok (.putfield 309, 3) := by decide +kernel
theorem dX10_pass_41 : decode cX10_pass 41 = .ok (.iload_n 2, 1) := by decide +kernel
theorem dX10_pass_42 : decode cX10_pass 42 = .ok (.ireturn, 1) := by decide +kernel
set_option maxRecDepth 20000 in
theorem ggX10_passRow_X10_pass : GoodIn wsX10_passRow wsX10_pass := goodIn_r _ [5, 6, 7, 8, 9, 10, 11, 12, 13, 14, 15, 16, 17, 18, 19, 20, 21, 22, 23, 24, 25, 26, 27, 28, 29, 30, 31, 32, 33, 34, 35, 36, 37, 38, 39, 40, 41, 42, 43] (by decide +kernel) (by decide +kernel)
set_option maxRecDepth 20000 in
theorem gX10_passRow_X10_pass : GoodIn wsX10_passRow (wsV RX10 312 RX10 yX10_pass wsX10_pass) := goodIn_app (goodIn_of _ (by decide +kernel)) ggX10_passRow_X10_pass
theorem dX10_passRow_0 : decode cX10_passRow 0 = .ok (.iconst 0, 1) := by decide +kernel
theorem dX10_passRow_1 : decode cX10_passRow 1 = .ok (.istore_n 3, 1) := by decide +kernel
theorem dX10_passRow_2 : decode cX10_passRow 2 = .ok (.iload_n 3, 1) := by decide +kernel
theorem dX10_passRow_3 : decode cX10_passRow 3 = .ok (.iload_n 2, 1) := by decide +kernel
theorem dX10_passRow_4 : decode cX10_passRow 4 = .ok (.if_icmp .ge 19, 3) := by decide +kernel
theorem dX10_passRow_7 : decode cX10_passRow 7 = .ok (.aload_n 1, 1) := by decide +kernel
theorem dX10_passRow_8 : decode cX10_passRow 8 = .ok (.iload_n 3, 1) := by decide +kernel
theorem dX10_passRow_9 : decode cX10_passRow 9 = .ok (.aload_n 0, 1) := by decide +kernel
theorem dX10_passRow_10 : decode cX10_passRow 10 = .ok (.aload_n 1, 1) := by decide +kernel
theorem dX10_passRow_11 : decode cX10_passRow 11 = .ok (.iload_n 3, 1) := by decide +kernel
theorem dX10_passRow_12 : decode cX10_passRow 12 = .ok (.iaload, 1) := by decide +kernel
theorem dX10_passRow_13 : decode cX10_passRow 13 = .ok (.invokevirtual 312, 3) := by decide +kernel
theorem dX10_passRow_16 : decode cX10_passRow 16 = .ok (.iastore, 1) := by decide +kernel
theorem dX10_passRow_17 : decode cX10_passRow 17 = .ok (.iinc 3 1, 3) := by decide +kernel
theorem dX10_passRow_20 : decode cX10_passRow 20 = .ok (.goto (-18), 3) := by decide +kernel
theorem dX10_passRow_23 : decode cX10_passRow 23 = .ok (.return_, 1) := by decide +kernel
set_option maxRecDepth 20000 in
theorem ggX10_passAll_X10_pass : GoodIn wsX10_passAll wsX10_pass := goodIn_r _ [15, 16, 17, 18, 23, 24, 25, 26, 27, 28, 29, 30, 31, 32, 33, 34, 35, 36, 37, 38, 39, 40, 41, 42, 43, 44, 45, 46, 47, 48, 49, 50, 51, 52, 53, 54, 55, 56, 57] (by decide +kernel) (by decide +kernel)
set_option maxRecDepth 20000 in
theorem gX10_passAll_X10_pass : GoodIn wsX10_passAll (wsV RX10 312 RX10 yX10_pass wsX10_pass) := goodIn_app (goodIn_of _ (by decide +kernel)) ggX10_passAll_X10_pass
set_option maxRecDepth 20000 in
theorem ggX10_passAll_X10_passRow : GoodIn wsX10_passAll wsX10_passRow := goodIn_r _ [22, 11, 12, 13, 14, 15, 16, 17, 18, 23, 24, 25, 26, 27, 28, 29, 30, 31, 32, 33, 34, 35, 36, 37, 38, 39, 40, 41, 42, 43, 44, 45, 46, 47, 48, 49, 50, 51, 52, 53, 54, 55, 56, 57] (by decide +kernel) (by decide +kernel)
set_option maxRecDepth 20000 in
theorem gX10_passAll_X10_passRow : GoodIn wsX10_passAll (wsV RX10 315 RX10 yX10_passRow wsX10_passRow) := goodIn_app (goodIn_of _ (by decide +kernel)) ggX10_passAll_X10_passRow
theorem dX10_passAll_0 : decode cX10_passAll 0 = .ok (.aload_n 0, 1) := by decide +kernel
theorem dX10_passAll_1 : decode cX10_passAll 1 = .ok (.aload_n 0, 1) := by decide +kernel
theorem dX10_passAll_2 : decode cX10_passAll 2 = .ok (.aload_n 0, 1) := by decide +kernel
theorem dX10_passAll_3 : decode cX10_passAll 3 = .ok (.getfield 83, 3) := by decide +kernel
theorem dX10_passAll_6 : decode cX10_passAll 6 = .ok (.invokevirtual 312, 3) := by decide +kernel
theorem dX10_passAll_9 : decode cX10_passAll 9 = .ok (.putfield 83, 3) := by decide +kernel
theorem dX10_passAll_12 : decode cX10_passAll 12 = .ok (.aload_n 0, 1) := by decide +kernel
theorem dX10_passAll_13 : decode cX10_passAll 13 = .ok (.aload_n 0, 1) := by decide +kernel
theorem dX10_passAll_14 : decode cX10_passAll 14 = .ok (.aload_n 0, 1) := by decide +kernel
theorem dX10_passAll_15 : decode cX10_passAll 15 = .ok (.getfield 100, 3) := by decide +kernel
theorem dX10_passAll_18 : decode cX10_passAll 18 = .ok (.invokevirtual 312, 3) := by decide +kernel
theorem dX10_passAll_21 : decode cX10_passAll 21 = .ok (.putfield 100, 3) := by decide +kernel
theorem dX10_passAll_24 : decode cX10_passAll 24 = .ok (.aload_n 0, 1) := by decide +kernel
theorem dX10_passAll_25 : decode cX10_passAll 25 = .ok (.aload_n 0, 1) := by decide +kernel
theorem dX10_passAll_26 : decode cX10_passAll 26 = .ok (.aload_n 0, 1) := by decide +kernel
theorem dX10_passAll_27 : decode cX10_passAll 27 = .ok (.getfield 155, 3) := by decide +kernel
theorem dX10_passAll_30 : decode cX10_passAll 30 = .ok (.invokevirtual 312, 3) := by decide +kernel
theorem dX10_passAll_33 : decode cX10_passAll 33 = .ok (.putfield 155, 3) := by decide +kernel
theorem dX10_passAll_36 : decode cX10_passAll 36 = .ok (.aload_n 0, 1) := by decide +kernel
theorem dX10_passAll_37 : decode cX10_passAll 37 = .ok (.aload_n 0, 1) := by decide +kernel
theorem dX10_passAll_38 : decode cX10_passAll 38 = .ok (.aload_n 0, 1) := by decide +kernel
theorem dX10_passAll_39 : decode cX10_passAll 39 = .ok (.getfield 257, 3) := by decide +kernel
theorem dX10_passAll_42 : decode cX10_passAll 42 = .ok (.invokevirtual 312, 3) := by decide +kernel
theorem dX10_passAll_45 : decode cX10_passAll 45 = .ok (.putfield 257, 3) := by decide +kernel
theorem dX10_passAll_48 : decode cX10_passAll 48 = .ok (.aload_n 0, 1) := by decide +kernel
theorem dX10_passAll_49 : decode cX10_passAll 49 = .ok (.aload_n 0, 1) := by decide +kernel
theorem dX10_passAll_50 : decode cX10_passAll 50 = .ok (.getfield 7, 3) := by decide +kernel
theorem dX10_passAll_53 : decode cX10_passAll 53 = .ok (.bipush 8, 2) := by decide +kernel
theorem dX10_passAll_55 : decode cX10_passAll 55 = .ok (.invokevirtual 315, 3) := by decide +kernel
theorem dX10_passAll_58 : decode cX10_passAll 58 = .ok (.aload_n 0, 1) := by decide +kernel
theorem dX10_passAll_59 : decode cX10_passAll 59 = .ok (.aload_n 0, 1) := by decide +kernel
theorem dX10_passAll_60 : decode cX10_passAll 60 = .ok (.getfield 13, 3) := by decide +kernel
theorem dX10_passAll_63 : decode cX10_passAll 63 = .ok (.bipush 64, 2) := by decide +kernel
theorem dX10_passAll_65 : decode cX10_passAll 65 = .ok (.invokevirtual 315, 3) := by decide +kernel
theorem dX10_passAll_68 : decode cX10_passAll 68 = .ok (.aload_n 0, 1) := by decide +kernel
theorem dX10_passAll_69 : decode cX10_passAll 69 = .ok (.aload_n 0, 1) := by decide +kernel
theorem dX10_passAll_70 : decode cX10_passAll 70 = .ok (.getfield 16, 3) := by decide +kernel
theorem dX10_passAll_73 : decode cX10_passAll 73 = .ok (.bipush 8, 2) := by decide +kernel
theorem dX10_passAll_75 : decode cX10_passAll 75 = .ok (.invokevirtual 315, 3) := by decide +kernel
theorem dX10_passAll_78 : decode cX10_passAll 78 = .ok (.aload_n 0, 1) := by decide +kernel
theorem dX10_passAll_79 : decode cX10_passAll 79 = .ok (.aload_n 0, 1) := by decide +kernel
theorem dX10_passAll_80 : decode cX10_passAll 80 = .ok (.getfield 19, 3) := by decide +kernel
theorem dX10_passAll_83 : decode cX10_passAll 83 = .ok (.bipush 8, 2) := by decide +kernel
theorem dX10_passAll_85 : decode cX10_passAll 85 = .ok (.invokevirtual 315, 3) := by decide +kernel
theorem dX10_passAll_88 : decode cX10_passAll 88 = .ok (.aload_n 0, 1) := by decide +kernel
theorem dX10_passAll_89 : decode cX10_passAll 89 = .ok (.aload_n 0, 1) := by decide +kernel
theorem dX10_passAll_90 : decode cX10_passAll 90 = .ok (.getfield 22, 3) := by decide +kernel
theorem dX10_passAll_93 : decode cX10_passAll 93 = .ok (.bipush 8, 2) := by decide +kernel
theorem dX10_passAll_95 : decode cX10_passAll 95 = .ok (.invokevirtual 315, 3) := by decide +kernel
theorem dX10_passAll_98 : decode cX10_passAll 98 = .ok (.aload_n 0, 1) := by decide +kernel
theorem dX10_passAll_99 : decode cX10_passAll 99 = .ok (.aload_n 0, 1) := by decide +kernel
theorem dX10_passAll_100 : decode cX10_passAll 100 = .ok (.getfield 25, 3) := by decide +kernel
theorem dX10_passAll_103 : decode cX10_passAll 103 = .ok (.bipush 8, 2) := by decide +kernel
theorem dX10_passAll_105 : decode cX10_passAll 105 = .ok (.invokevirtual 315, 3) := by decide +kernel
theorem dX10_passAll_108 : decode cX10_passAll 108 = .ok (.return_, 1) := by decide +kernel
set_option maxRecDepth 20000 in
theorem ggX10_image_X10_in : GoodIn wsX10_image wsX10_in := goodIn_r _ [7] (by decide +kernel) (by decide +kernel)
set_option maxRecDepth 20000 in
theorem gX10_image_X10_in : GoodIn wsX10_image (va_wsS RX10 73 yX10_in wsX10_in) := goodIn_app (goodIn_of _ (by decide +kernel)) ggX10_image_X10_in
set_option maxRecDepth 20000 in
theorem ggX10_image_X10_passAll : GoodIn wsX10_image wsX10_passAll := goodIn_r _ [11, 12, 13, 14, 15, 16, 17, 18, 19, 20, 21, 22, 23, 24, 6, 25, 2, 26, 1, 27, 28, 29, 30, 31, 32, 33, 34, 35, 36, 37, 38, 39, 40, 41, 42, 43, 44, 45, 46, 47, 48, 49, 50, 51, 52, 53, 54, 55, 56, 57, 58, 59, 60, 61, 62, 63, 64, 65] (by decide +kernel) (by decide +kernel)
set_option maxRecDepth 20000 in
theorem gX10_image_X10_passAll : GoodIn wsX10_image (wsV RX10 319 RX10 yX10_passAll wsX10_passAll) := goodIn_app (goodIn_of _ (by decide +kernel)) ggX10_image_X10_passAll
theorem dX10_image_0 : decode cX10_image 0 = .ok (.iload_n 1, 1) := by decide +kernel
theorem dX10_image_1 : decode cX10_image 1 = .ok (.i2l, 1) := by decide +kernel
theorem dX10_image_2 : decode cX10_image 2 = .ok (.lconst 0, 1) := by decide +kernel
theorem dX10_image_3 : decode cX10_image 3 = .ok (.lconst 1, 1) := by decide +kernel
theorem dX10_image_4 : decode cX10_image 4 = .ok (.invokestatic 73, 3) := by decide +kernel
theorem dX10_image_7 : decode cX10_image 7 = .ok (.ifCond .ne 6, 3) := by decide +kernel
theorem dX10_image_10 : decode cX10_image 10 = .ok (.bipush (-2), 2) := by decide +kernel
theorem dX10_image_12 : decode cX10_image 12 = .ok (.ireturn, 1) := by decide +kernel
theorem dX10_image_13 : decode cX10_image 13 = .ok (.aload_n 0, 1) := by decide +kernel
theorem dX10_image_14 : decode cX10_image 14 = .ok (.bipush 120, 2) := by decide +kernel
theorem dX10_image_16 : decode cX10_image 16 = .ok (.iload_n 1, 1) := by decide +kernel
theorem dX10_image_17 : decode cX10_image 17 = .ok (.imul, 1) := by decide +kernel
theorem dX10_image_18 : decode cX10_image 18 = .ok (.putfield 309, 3) := by decide +kernel
theorem dX10_image_21 : decode cX10_image 21 = .ok (.aload_n 0, 1) := by decide +kernel
theorem dX10_image_22 : decode cX10_image 22 = .ok (.iconst 1, 1) := by decide +kernel
theorem dX10_image_23 : decode cX10_image 23 = .ok (.putfield 305, 3) := by decide +kernel
theorem dX10_image_26 : decode cX10_image 26 = .ok (.aload_n 0, 1) := by decide +kernel
theorem dX10_image_27 : decode cX10_image 27 = .ok (.invokevirtual 319, 3) := by decide +kernel
theorem dX10_image_30 : decode cX10_image 30 = .ok (.aload_n 0, 1) := by decide +kernel
theorem dX10_image_31 : decode cX10_image 31 = .ok (.getfield 67, 3) := by decide +kernel
theorem dX10_image_34 : decode cX10_image 34 = .ok (.iload_n 1, 1) := by decide +kernel
theorem dX10_image_35 : decode cX10_image 35 = .ok (.iconst 1, 1) := by decide +kernel
theorem dX10_image_36 : decode cX10_image 36 = .ok (.bastore, 1) := by decide +kernel
theorem dX10_image_37 : decode cX10_image 37 = .ok (.iconst 1, 1) := by decide +kernel
theorem dX10_image_38 : decode cX10_image 38 = .ok (.ireturn, 1) := by decide +kernel
set_option maxRecDepth 20000 in
theorem ggX10_restore_X10_in : GoodIn wsX10_restore wsX10_in := goodIn_r _ [7] (by decide +kernel) (by decide +kernel)
set_option maxRecDepth 20000 in
theorem gX10_restore_X10_in : GoodIn wsX10_restore (va_wsS RX10 73 yX10_in wsX10_in) := goodIn_app (goodIn_of _ (by decide +kernel)) ggX10_restore_X10_in
set_option maxRecDepth 20000 in
theorem ggX10_restore_X10_passAll : GoodIn wsX10_restore wsX10_passAll := goodIn_r _ [11, 12, 13, 14, 15, 16, 17, 18, 19, 20, 21, 22, 23, 24, 6, 25, 3, 26, 2, 27, 28, 29, 30, 31, 32, 33, 34, 35, 36, 37, 38, 39, 40, 41, 42, 43, 44, 45, 46, 47, 48, 49, 50, 51, 52, 53, 54, 55, 56, 57, 58, 59, 60, 61, 62, 63, 64, 65] (by decide +kernel) (by decide +kernel)
set_option maxRecDepth 20000 in
theorem gX10_restore_X10_passAll : GoodIn wsX10_restore (wsV RX10 319 RX10 yX10_passAll wsX10_passAll) := goodIn_app (goodIn_of _ (by decide +kernel)) ggX10_restore_X10_passAll
theorem dX10_restore_0 : decode cX10_restore 0 = .ok (.iload_n 1, 1) := by decide +kernel
theorem dX10_restore_1 : decode cX10_restore 1 = .ok (.i2l, 1) := by decide +kernel
theorem dX10_restore_2 : decode cX10_restore 2 = .ok (.lconst 0, 1) := by decide +kernel
theorem dX10_restore_3 : decode cX10_restore 3 = .ok (.lconst 1, 1) := by decide +kernel
theorem dX10_restore_4 : decode cX10_restore 4 = .ok (.invokestatic 73, 3) := by decide +kernel
theorem dX10_restore_7 : decode cX10_restore 7 = .ok (.ifCond .ne 6, 3) := by decide +kernel
theorem dX10_restore_10 : decode cX10_restore 10 = .ok (.bipush (-2), 2) := by decide +kernel
theorem dX10_restore_12 : decode cX10_restore 12 = .ok (.ireturn, 1) := by decide +kernel
theorem dX10_restore_13 : decode cX10_restore 13 = .ok (.aload_n 0, 1) := by decide +kernel
theorem dX10_restore_14 : decode cX10_restore 14 = .ok (.getfield 67, 3) := by decide +kernel
theorem dX10_restore_17 : decode cX10_restore 17 = .ok (.iload_n 1, 1) := by decide +kernel
theorem dX10_restore_18 : decode cX10_restore 18 = .ok (.baload, 1) := by decide +kernel
theorem dX10_restore_19 : decode cX10_restore 19 = .ok (.ifCond .ne 6, 3) := by decide +kernel
theorem dX10_restore_22 : decode cX10_restore 22 = .ok (.bipush (-3), 2) := by decide +kernel
theorem dX10_restore_24 : decode cX10_restore 24 = .ok (.ireturn, 1) := by decide +kernel
theorem dX10_restore_25 : decode cX10_restore 25 = .ok (.aload_n 0, 1) := by decide +kernel
theorem dX10_restore_26 : decode cX10_restore 26 = .ok (.bipush 120, 2) := by decide +kernel
theorem dX10_restore_28 : decode cX10_restore 28 = .ok (.iload_n 1, 1) := by decide +kernel
theorem dX10_restore_29 : decode cX10_restore 29 = .ok (.imul, 1) := by decide +kernel
theorem dX10_restore_30 : decode cX10_restore 30 = .ok (.putfield 309, 3) := by decide +kernel
theorem dX10_restore_33 : decode cX10_restore 33 = .ok (.aload_n 0, 1) := by decide +kernel
theorem dX10_restore_34 : decode cX10_restore 34 = .ok (.iconst 0, 1) := by decide +kernel
theorem dX10_restore_35 : decode cX10_restore 35 = .ok (.putfield 305, 3) := by decide +kernel
theorem dX10_restore_38 : decode cX10_restore 38 = .ok (.aload_n 0, 1) := by decide +kernel
theorem dX10_restore_39 : decode cX10_restore 39 = .ok (.invokevirtual 319, 3) := by decide +kernel
theorem dX10_restore_42 : decode cX10_restore 42 = .ok (.iconst 1, 1) := by decide +kernel
theorem dX10_restore_43 : decode cX10_restore 43 = .ok (.ireturn, 1) := by decide +kernel
set_option maxRecDepth 20000 in
theorem ggX10_told_X10_in : GoodIn wsX10_told wsX10_in := goodIn_r _ [18] (by decide +kernel) (by decide +kernel)
set_option maxRecDepth 20000 in
theorem gX10_told_X10_in : GoodIn wsX10_told (va_wsS RX10 73 yX10_in wsX10_in) := goodIn_app (goodIn_of _ (by decide +kernel)) ggX10_told_X10_in
set_option maxRecDepth 20000 in
theorem ggX10_told_X10_chartRow : GoodIn wsX10_told wsX10_chartRow := goodIn_r _ [22, 23, 24, 25, 26, 27, 28, 29, 30, 31, 32, 33, 34, 35, 36, 37, 38, 39, 40, 41, 42, 43, 44, 45, 46, 47, 48, 49, 50, 51, 52, 53, 54, 55, 56, 57, 58] (by decide +kernel) (by decide +kernel)
set_option maxRecDepth 20000 in
theorem gX10_told_X10_chartRow : GoodIn wsX10_told (wsV RX10 96 RX10 yX10_chartRow wsX10_chartRow) := goodIn_app (goodIn_of _ (by decide +kernel)) ggX10_told_X10_chartRow
theorem dX10_told_0 : decode cX10_told 0 = .ok (.iload_n 1, 1) := by decide +kernel
theorem dX10_told_1 : decode cX10_told 1 = .ok (.i2l, 1) := by decide +kernel
theorem dX10_told_2 : decode cX10_told 2 = .ok (.ldc2_w 322, 3) := by decide +kernel
theorem dX10_told_5 : decode cX10_told 5 = .ok (.ldc2_w 324, 3) := by decide +kernel
theorem dX10_told_8 : decode cX10_told 8 = .ok (.invokestatic 73, 3) := by decide +kernel
theorem dX10_told_11 : decode cX10_told 11 = .ok (.ifCond .eq 38, 3) := by decide +kernel
theorem dX10_told_14 : decode cX10_told 14 = .ok (.iload_n 1, 1) := by decide +kernel
theorem dX10_told_15 : decode cX10_told 15 = .ok (.bipush 10, 2) := by decide +kernel
theorem dX10_told_17 : decode cX10_told 17 = .ok (.irem, 1) := by decide +kernel
theorem dX10_told_18 : decode cX10_told 18 = .ok (.bipush 8, 2) := by decide +kernel
theorem dX10_told_20 : decode cX10_told 20 = .ok (.if_icmp .ge 26, 3) := by decide +kernel
theorem dX10_told_23 : decode cX10_told 23 = .ok (.aload_n 0, 1) := by decide +kernel
theorem dX10_told_24 : decode cX10_told 24 = .ok (.getfield 13, 3) := by decide +kernel
theorem dX10_told_27 : decode cX10_told 27 = .ok (.bipush 8, 2) := by decide +kernel
theorem dX10_told_29 : decode cX10_told 29 = .ok (.iload_n 1, 1) := by decide +kernel
theorem dX10_told_30 : decode cX10_told 30 = .ok (.bipush 100, 2) := by decide +kernel
theorem dX10_told_32 : decode cX10_told 32 = .ok (.isub, 1) := by decide +kernel
theorem dX10_told_33 : decode cX10_told 33 = .ok (.bipush 10, 2) := by decide +kernel
theorem dX10_told_35 : decode cX10_told 35 = .ok (.idiv, 1) := by decide +kernel
theorem dX10_told_36 : decode cX10_told 36 = .ok (.imul, 1) := by decide +kernel
theorem dX10_told_37 : decode cX10_told 37 = .ok (.iload_n 1, 1) := by decide +kernel
theorem dX10_told_38 : decode cX10_told 38 = .ok (.bipush 10, 2) := by decide +kernel
theorem dX10_told_40 : decode cX10_told 40 = .ok (.irem, 1) := by decide +kernel
theorem dX10_told_41 : decode cX10_told 41 = .ok (.iadd, 1) := by decide +kernel
theorem dX10_told_42 : decode cX10_told 42 = .ok (.iaload, 1) := by decide +kernel
theorem dX10_told_43 : decode cX10_told 43 = .ok (.goto 5, 3) := by decide +kernel
theorem dX10_told_46 : decode cX10_told 46 = .ok (.bipush (-2), 2) := by decide +kernel
theorem dX10_told_48 : decode cX10_told 48 = .ok (.ireturn, 1) := by decide +kernel
theorem dX10_told_49 : decode cX10_told 49 = .ok (.iload_n 1, 1) := by decide +kernel
theorem dX10_told_50 : decode cX10_told 50 = .ok (.i2l, 1) := by decide +kernel
theorem dX10_told_51 : decode cX10_told 51 = .ok (.ldc2_w 326, 3) := by decide +kernel
theorem dX10_told_54 : decode cX10_told 54 = .ok (.ldc2_w 328, 3) := by decide +kernel
theorem dX10_told_57 : decode cX10_told 57 = .ok (.invokestatic 73, 3) := by decide +kernel
theorem dX10_told_60 : decode cX10_told 60 = .ok (.ifCond .eq 13, 3) := by decide +kernel
theorem dX10_told_63 : decode cX10_told 63 = .ok (.aload_n 0, 1) := by decide +kernel
theorem dX10_told_64 : decode cX10_told 64 = .ok (.getfield 7, 3) := by decide +kernel
theorem dX10_told_67 : decode cX10_told 67 = .ok (.iload_n 1, 1) := by decide +kernel
theorem dX10_told_68 : decode cX10_told 68 = .ok (.bipush 10, 2) := by decide +kernel
theorem dX10_told_70 : decode cX10_told 70 = .ok (.isub, 1) := by decide +kernel
theorem dX10_told_71 : decode cX10_told 71 = .ok (.iaload, 1) := by decide +kernel
theorem dX10_told_72 : decode cX10_told 72 = .ok (.ireturn, 1) := by decide +kernel
theorem dX10_told_73 : decode cX10_told 73 = .ok (.iload_n 1, 1) := by decide +kernel
theorem dX10_told_74 : decode cX10_told 74 = .ok (.i2l, 1) := by decide +kernel
theorem dX10_told_75 : decode cX10_told 75 = .ok (.ldc2_w 330, 3) := by decide +kernel
theorem dX10_told_78 : decode cX10_told 78 = .ok (.ldc2_w 332, 3) := by decide +kernel
theorem dX10_told_81 : decode cX10_told 81 = .ok (.invokestatic 73, 3) := by decide +kernel
theorem dX10_told_84 : decode cX10_told 84 = .ok (.ifCond .eq 13, 3) := by decide +kernel
theorem dX10_told_87 : decode cX10_told 87 = .ok (.aload_n 0, 1) := by decide +kernel
theorem dX10_told_88 : decode cX10_told 88 = .ok (.getfield 19, 3) := by decide +kernel
theorem dX10_told_91 : decode cX10_told 91 = .ok (.iload_n 1, 1) := by decide +kernel
theorem dX10_told_92 : decode cX10_told 92 = .ok (.bipush 20, 2) := by decide +kernel
theorem dX10_told_94 : decode cX10_told 94 = .ok (.isub, 1) := by decide +kernel
theorem dX10_told_95 : decode cX10_told 95 = .ok (.iaload, 1) := by decide +kernel
theorem dX10_told_96 : decode cX10_told 96 = .ok (.ireturn, 1) := by decide +kernel
theorem dX10_told_97 : decode cX10_told 97 = .ok (.iload_n 1, 1) := by decide +kernel
theorem dX10_told_98 : decode cX10_told 98 = .ok (.tableswitch 68 0 5 #[38, 43, 48, 53, 58, 63], 38) := by decide +kernel
theorem dX10_told_136 : decode cX10_told 136 = .ok (.aload_n 0, 1) := by decide +kernel
theorem dX10_told_137 : decode cX10_told 137 = .ok (.getfield 111, 3) := by decide +kernel
theorem dX10_told_140 : decode cX10_told 140 = .ok (.ireturn, 1) := by decide +kernel
theorem dX10_told_141 : decode cX10_told 141 = .ok (.aload_n 0, 1) := by decide +kernel
theorem dX10_told_142 : decode cX10_told 142 = .ok (.getfield 83, 3) := by decide +kernel
theorem dX10_told_145 : decode cX10_told 145 = .ok (.ireturn, 1) := by decide +kernel
theorem dX10_told_146 : decode cX10_told 146 = .ok (.aload_n 0, 1) := by decide +kernel
theorem dX10_told_147 : decode cX10_told 147 = .ok (.invokevirtual 96, 3) := by decide +kernel
theorem dX10_told_150 : decode cX10_told 150 = .ok (.ireturn, 1) := by decide +kernel
theorem dX10_told_151 : decode cX10_told 151 = .ok (.aload_n 0, 1) := by decide +kernel
theorem dX10_told_152 : decode cX10_told 152 = .ok (.getfield 100, 3) := by decide +kernel
theorem dX10_told_155 : decode cX10_told 155 = .ok (.ireturn, 1) := by decide +kernel
theorem dX10_told_156 : decode cX10_told 156 = .ok (.aload_n 0, 1) := by decide +kernel
theorem dX10_told_157 : decode cX10_told 157 = .ok (.getfield 155, 3) := by decide +kernel
theorem dX10_told_160 : decode cX10_told 160 = .ok (.ireturn, 1) := by decide +kernel
theorem dX10_told_161 : decode cX10_told 161 = .ok (.aload_n 0, 1) := by decide +kernel
theorem dX10_told_162 : decode cX10_told 162 = .ok (.getfield 257, 3) := by decide +kernel
theorem dX10_told_165 : decode cX10_told 165 = .ok (.ireturn, 1) := by decide +kernel
theorem dX10_told_166 : decode cX10_told 166 = .ok (.bipush (-2), 2) := by decide +kernel
theorem dX10_told_168 : decode cX10_told 168 = .ok (.ireturn, 1) := by decide +kernel
theorem dJ6_bitCount_0f7a4_0 : decode cJ6_bitCount_0f7a4 0 = .ok (.iload_n 0, 1) := by decide +kernel
theorem dJ6_bitCount_0f7a4_1 : decode cJ6_bitCount_0f7a4 1 = .ok (.iload_n 0, 1) := by decide +kernel
theorem dJ6_bitCount_0f7a4_2 : decode cJ6_bitCount_0f7a4 2 = .ok (.iconst 1, 1) := by decide +kernel
theorem dJ6_bitCount_0f7a4_3 : decode cJ6_bitCount_0f7a4 3 = .ok (.iushr, 1) := by decide +kernel
theorem dJ6_bitCount_0f7a4_4 : decode cJ6_bitCount_0f7a4 4 = .ok (.ldc_w 265, 3) := by decide +kernel
theorem dJ6_bitCount_0f7a4_7 : decode cJ6_bitCount_0f7a4 7 = .ok (.iand, 1) := by decide +kernel
theorem dJ6_bitCount_0f7a4_8 : decode cJ6_bitCount_0f7a4 8 = .ok (.isub, 1) := by decide +kernel
theorem dJ6_bitCount_0f7a4_9 : decode cJ6_bitCount_0f7a4 9 = .ok (.istore_n 0, 1) := by decide +kernel
theorem dJ6_bitCount_0f7a4_10 : decode cJ6_bitCount_0f7a4 10 = .ok (.iload_n 0, 1) := by decide +kernel
theorem dJ6_bitCount_0f7a4_11 : decode cJ6_bitCount_0f7a4 11 = .ok (.ldc_w 266, 3) := by decide +kernel
theorem dJ6_bitCount_0f7a4_14 : decode cJ6_bitCount_0f7a4 14 = .ok (.iand, 1) := by decide +kernel
theorem dJ6_bitCount_0f7a4_15 : decode cJ6_bitCount_0f7a4 15 = .ok (.iload_n 0, 1) := by decide +kernel
theorem dJ6_bitCount_0f7a4_16 : decode cJ6_bitCount_0f7a4 16 = .ok (.iconst 2, 1) := by decide +kernel
theorem dJ6_bitCount_0f7a4_17 : decode cJ6_bitCount_0f7a4 17 = .ok (.iushr, 1) := by decide +kernel
theorem dJ6_bitCount_0f7a4_18 : decode cJ6_bitCount_0f7a4 18 = .ok (.ldc_w 266, 3) := by decide +kernel
theorem dJ6_bitCount_0f7a4_21 : decode cJ6_bitCount_0f7a4 21 = .ok (.iand, 1) := by decide +kernel
theorem dJ6_bitCount_0f7a4_22 : decode cJ6_bitCount_0f7a4 22 = .ok (.iadd, 1) := by decide +kernel
theorem dJ6_bitCount_0f7a4_23 : decode cJ6_bitCount_0f7a4 23 = .ok (.istore_n 0, 1) := by decide +kernel
theorem dJ6_bitCount_0f7a4_24 : decode cJ6_bitCount_0f7a4 24 = .ok (.iload_n 0, 1) := by decide +kernel
theorem dJ6_bitCount_0f7a4_25 : decode cJ6_bitCount_0f7a4 25 = .ok (.iload_n 0, 1) := by decide +kernel
theorem dJ6_bitCount_0f7a4_26 : decode cJ6_bitCount_0f7a4 26 = .ok (.iconst 4, 1) := by decide +kernel
theorem dJ6_bitCount_0f7a4_27 : decode cJ6_bitCount_0f7a4 27 = .ok (.iushr, 1) := by decide +kernel
theorem dJ6_bitCount_0f7a4_28 : decode cJ6_bitCount_0f7a4 28 = .ok (.iadd, 1) := by decide +kernel
theorem dJ6_bitCount_0f7a4_29 : decode cJ6_bitCount_0f7a4 29 = .ok (.ldc_w 267, 3) := by decide +kernel
theorem dJ6_bitCount_0f7a4_32 : decode cJ6_bitCount_0f7a4 32 = .ok (.iand, 1) := by decide +kernel
theorem dJ6_bitCount_0f7a4_33 : decode cJ6_bitCount_0f7a4 33 = .ok (.istore_n 0, 1) := by decide +kernel
theorem dJ6_bitCount_0f7a4_34 : decode cJ6_bitCount_0f7a4 34 = .ok (.iload_n 0, 1) := by decide +kernel
theorem dJ6_bitCount_0f7a4_35 : decode cJ6_bitCount_0f7a4 35 = .ok (.iload_n 0, 1) := by decide +kernel
theorem dJ6_bitCount_0f7a4_36 : decode cJ6_bitCount_0f7a4 36 = .ok (.bipush 8, 2) := by decide +kernel
theorem dJ6_bitCount_0f7a4_38 : decode cJ6_bitCount_0f7a4 38 = .ok (.iushr, 1) := by decide +kernel
theorem dJ6_bitCount_0f7a4_39 : decode cJ6_bitCount_0f7a4 39 = .ok (.iadd, 1) := by decide +kernel
theorem dJ6_bitCount_0f7a4_40 : decode cJ6_bitCount_0f7a4 40 = .ok (.istore_n 0, 1) := by decide +kernel
theorem dJ6_bitCount_0f7a4_41 : decode cJ6_bitCount_0f7a4 41 = .ok (.iload_n 0, 1) := by decide +kernel
theorem dJ6_bitCount_0f7a4_42 : decode cJ6_bitCount_0f7a4 42 = .ok (.iload_n 0, 1) := by decide +kernel
theorem dJ6_bitCount_0f7a4_43 : decode cJ6_bitCount_0f7a4 43 = .ok (.bipush 16, 2) := by decide +kernel
theorem dJ6_bitCount_0f7a4_45 : decode cJ6_bitCount_0f7a4 45 = .ok (.iushr, 1) := by decide +kernel
theorem dJ6_bitCount_0f7a4_46 : decode cJ6_bitCount_0f7a4 46 = .ok (.iadd, 1) := by decide +kernel
theorem dJ6_bitCount_0f7a4_47 : decode cJ6_bitCount_0f7a4 47 = .ok (.istore_n 0, 1) := by decide +kernel
theorem dJ6_bitCount_0f7a4_48 : decode cJ6_bitCount_0f7a4 48 = .ok (.iload_n 0, 1) := by decide +kernel
theorem dJ6_bitCount_0f7a4_49 : decode cJ6_bitCount_0f7a4 49 = .ok (.bipush 63, 2) := by decide +kernel
theorem dJ6_bitCount_0f7a4_51 : decode cJ6_bitCount_0f7a4 51 = .ok (.iand, 1) := by decide +kernel
theorem dJ6_bitCount_0f7a4_52 : decode cJ6_bitCount_0f7a4 52 = .ok (.ireturn, 1) := by decide +kernel
theorem dJ9_max_7cf53_0 : decode cJ9_max_7cf53 0 = .ok (.iload_n 0, 1) := by decide +kernel
theorem dJ9_max_7cf53_1 : decode cJ9_max_7cf53 1 = .ok (.iload_n 1, 1) := by decide +kernel
theorem dJ9_max_7cf53_2 : decode cJ9_max_7cf53 2 = .ok (.if_icmp .lt 7, 3) := by decide +kernel
theorem dJ9_max_7cf53_5 : decode cJ9_max_7cf53 5 = .ok (.iload_n 0, 1) := by decide +kernel
theorem dJ9_max_7cf53_6 : decode cJ9_max_7cf53 6 = .ok (.goto 4, 3) := by decide +kernel
theorem dJ9_max_7cf53_9 : decode cJ9_max_7cf53 9 = .ok (.iload_n 1, 1) := by decide +kernel
theorem dJ9_max_7cf53_10 : decode cJ9_max_7cf53 10 = .ok (.ireturn, 1) := by decide +kernel
theorem dJ9_min_7cf53_0 : decode cJ9_min_7cf53 0 = .ok (.iload_n 0, 1) := by decide +kernel
theorem dJ9_min_7cf53_1 : decode cJ9_min_7cf53 1 = .ok (.iload_n 1, 1) := by decide +kernel
theorem dJ9_min_7cf53_2 : decode cJ9_min_7cf53 2 = .ok (.if_icmp .gt 7, 3) := by decide +kernel
theorem dJ9_min_7cf53_5 : decode cJ9_min_7cf53 5 = .ok (.iload_n 0, 1) := by decide +kernel
theorem dJ9_min_7cf53_6 : decode cJ9_min_7cf53 6 = .ok (.goto 4, 3) := by decide +kernel
theorem dJ9_min_7cf53_9 : decode cJ9_min_7cf53 9 = .ok (.iload_n 1, 1) := by decide +kernel
theorem dJ9_min_7cf53_10 : decode cJ9_min_7cf53 10 = .ok (.ireturn, 1) := by decide +kernel
