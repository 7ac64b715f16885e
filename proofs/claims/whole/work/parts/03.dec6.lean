theorem dX10_century_74 : decode cX10_century 74 = .ok (.lrem, 1) := by decide +kernel
theorem dX10_century_75 : decode cX10_century 75 = .ok (.l2i, 1) := by decide +kernel
theorem dX10_century_76 : decode cX10_century 76 = .ok (.istore 4, 2) := by decide +kernel
theorem dX10_century_78 : decode cX10_century 78 = .ok (.iload 4, 2) := by decide +kernel
theorem dX10_century_80 : decode cX10_century 80 = .ok (.bipush 8, 2) := by decide +kernel
theorem dX10_century_82 : decode cX10_century 82 = .ok (.idiv, 1) := by decide +kernel
theorem dX10_century_83 : decode cX10_century 83 = .ok (.bipush 8, 2) := by decide +kernel
theorem dX10_century_85 : decode cX10_century 85 = .ok (.irem, 1) := by decide +kernel
theorem dX10_century_86 : decode cX10_century 86 = .ok (.invokestatic 302, 3) := by decide +kernel
theorem dX10_century_89 : decode cX10_century 89 = .ok (.istore 6, 2) := by decide +kernel
theorem dX10_century_91 : decode cX10_century 91 = .ok (.iload 4, 2) := by decide +kernel
theorem dX10_century_93 : decode cX10_century 93 = .ok (.bipush 64, 2) := by decide +kernel
theorem dX10_century_95 : decode cX10_century 95 = .ok (.idiv, 1) := by decide +kernel
theorem dX10_century_96 : decode cX10_century 96 = .ok (.istore 7, 2) := by decide +kernel
theorem dX10_century_98 : decode cX10_century 98 = .ok (.iconst 1, 1) := by decide +kernel
theorem dX10_century_99 : decode cX10_century 99 = .ok (.iload 7, 2) := by decide +kernel
theorem dX10_century_101 : decode cX10_century 101 = .ok (.bipush 8, 2) := by decide +kernel
theorem dX10_century_103 : decode cX10_century 103 = .ok (.idiv, 1) := by decide +kernel
theorem dX10_century_104 : decode cX10_century 104 = .ok (.bipush 9, 2) := by decide +kernel
theorem dX10_century_106 : decode cX10_century 106 = .ok (.irem, 1) := by decide +kernel
theorem dX10_century_107 : decode cX10_century 107 = .ok (.iadd, 1) := by decide +kernel
theorem dX10_century_108 : decode cX10_century 108 = .ok (.istore 8, 2) := by decide +kernel
theorem dX10_century_110 : decode cX10_century 110 = .ok (.aload_n 0, 1) := by decide +kernel
theorem dX10_century_111 : decode cX10_century 111 = .ok (.iload 6, 2) := by decide +kernel
theorem dX10_century_113 : decode cX10_century 113 = .ok (.iload 4, 2) := by decide +kernel
theorem dX10_century_115 : decode cX10_century 115 = .ok (.bipush 8, 2) := by decide +kernel
theorem dX10_century_117 : decode cX10_century 117 = .ok (.irem, 1) := by decide +kernel
theorem dX10_century_118 : decode cX10_century 118 = .ok (.iload 7, 2) := by decide +kernel
theorem dX10_century_120 : decode cX10_century 120 = .ok (.bipush 8, 2) := by decide +kernel
theorem dX10_century_122 : decode cX10_century 122 = .ok (.irem, 1) := by decide +kernel
theorem dX10_century_123 : decode cX10_century 123 = .ok (.iload 8, 2) := by decide +kernel
theorem dX10_century_125 : decode cX10_century 125 = .ok (.invokevirtual 201, 3) := by decide +kernel
theorem dX10_century_128 : decode cX10_century 128 = .ok (.ifCond .ne 21, 3) := by decide +kernel
theorem dX10_century_131 : decode cX10_century 131 = .ok (.aload_n 0, 1) := by decide +kernel
theorem dX10_century_132 : decode cX10_century 132 = .ok (.iload 6, 2) := by decide +kernel
theorem dX10_century_134 : decode cX10_century 134 = .ok (.iload 4, 2) := by decide +kernel
theorem dX10_century_136 : decode cX10_century 136 = .ok (.bipush 8, 2) := by decide +kernel
theorem dX10_century_138 : decode cX10_century 138 = .ok (.irem, 1) := by decide +kernel
theorem dX10_century_139 : decode cX10_century 139 = .ok (.iload 7, 2) := by decide +kernel
theorem dX10_century_141 : decode cX10_century 141 = .ok (.bipush 8, 2) := by decide +kernel
theorem dX10_century_143 : decode cX10_century 143 = .ok (.irem, 1) := by decide +kernel
theorem dX10_century_144 : decode cX10_century 144 = .ok (.iload 8, 2) := by decide +kernel
theorem dX10_century_146 : decode cX10_century 146 = .ok (.invokevirtual 185, 3) := by decide +kernel
theorem dX10_century_149 : decode cX10_century 149 = .ok (.iinc 5 1, 3) := by decide +kernel
theorem dX10_century_152 : decode cX10_century 152 = .ok (.goto (-98), 3) := by decide +kernel
theorem dX10_century_155 : decode cX10_century 155 = .ok (.aload_n 0, 1) := by decide +kernel
theorem dX10_century_156 : decode cX10_century 156 = .ok (.iload_n 3, 1) := by decide +kernel
theorem dX10_century_157 : decode cX10_century 157 = .ok (.ifCond .ne 12, 3) := by decide +kernel
theorem dX10_century_160 : decode cX10_century 160 = .ok (.aload_n 0, 1) := by decide +kernel
theorem dX10_century_161 : decode cX10_century 161 = .ok (.getfield 7, 3) := by decide +kernel
theorem dX10_century_164 : decode cX10_century 164 = .ok (.iconst 0, 1) := by decide +kernel
theorem dX10_century_165 : decode cX10_century 165 = .ok (.iaload, 1) := by decide +kernel
theorem dX10_century_166 : decode cX10_century 166 = .ok (.goto 19, 3) := by decide +kernel
theorem dX10_century_169 : decode cX10_century 169 = .ok (.iload_n 3, 1) := by decide +kernel
theorem dX10_century_170 : decode cX10_century 170 = .ok (.iconst 1, 1) := by decide +kernel
theorem dX10_century_171 : decode cX10_century 171 = .ok (.if_icmp .ne 10, 3) := by decide +kernel
theorem dX10_century_174 : decode cX10_century 174 = .ok (.aload_n 0, 1) := by decide +kernel
theorem dX10_century_175 : decode cX10_century 175 = .ok (.getfield 83, 3) := by decide +kernel
theorem dX10_century_178 : decode cX10_century 178 = .ok (.goto 7, 3) := by decide +kernel
theorem dX10_century_181 : decode cX10_century 181 = .ok (.aload_n 0, 1) := by decide +kernel
theorem dX10_century_182 : decode cX10_century 182 = .ok (.getfield 164, 3) := by decide +kernel
theorem dX10_century_185 : decode cX10_century 185 = .ok (.invokevirtual 222, 3) := by decide +kernel
theorem dX10_century_188 : decode cX10_century 188 = .ok (.ireturn, 1) := by decide +kernel
theorem dX10_pass_0 : decode cX10_pass 0 = .ok (.aload_n 0, 1) := by decide +kernel
theorem dX10_pass_1 : decode cX10_pass 1 = .ok (.getfield 305, 3) := by decide +kernel
theorem dX10_pass_4 : decode cX10_pass 4 = .ok (.ifCond .eq 7, 3) := by decide +kernel
theorem dX10_pass_7 : decode cX10_pass 7 = .ok (.iload_n 1, 1) := by decide +kernel
theorem dX10_pass_8 : decode cX10_pass 8 = .ok (.goto 12, 3) := by decide +kernel
theorem dX10_pass_11 : decode cX10_pass 11 = .ok (.aload_n 0, 1) := by decide +kernel
theorem dX10_pass_12 : decode cX10_pass 12 = .ok (.getfield 64, 3) := by decide +kernel
theorem dX10_pass_15 : decode cX10_pass 15 = .ok (.aload_n 0, 1) := by decide +kernel
theorem dX10_pass_16 : decode cX10_pass 16 = .ok (.getfield 309, 3) := by decide +kernel
theorem dX10_pass_19 : decode cX10_pass 19 = .ok (.iaload, 1) := by decide +kernel
theorem dX10_pass_20 : decode cX10_pass 20 = .ok (.istore_n 2, 1) := by decide +kernel
theorem dX10_pass_21 : decode cX10_pass 21 = .ok (.aload_n 0, 1) := by decide +kernel
theorem dX10_pass_22 : decode cX10_pass 22 = .ok (.getfield 64, 3) := by decide +kernel
theorem dX10_pass_25 : decode cX10_pass 25 = .ok (.aload_n 0, 1) := by decide +kernel
theorem dX10_pass_26 : decode cX10_pass 26 = .ok (.getfield 309, 3) := by decide +kernel
theorem dX10_pass_29 : decode cX10_pass 29 = .ok (.iload_n 2, 1) := by decide +kernel
theorem dX10_pass_30 : decode cX10_pass 30 = .ok (.iastore, 1) := by decide +kernel
theorem dX10_pass_31 : decode cX10_pass 31 = .ok (.aload_n 0, 1) := by decide +kernel
theorem dX10_pass_32 : decode cX10_pass 32 = .ok (.dup, 1) := by decide +kernel
theorem dX10_pass_33 : decode cX10_pass 33 = .ok (.getfield 309, 3) := by decide +kernel
theorem dX10_pass_36 : decode cX10_pass 36 = .ok (.iconst 1, 1) := by decide +kernel
theorem dX10_pass_37 : decode cX10_pass 37 = .ok (.iadd, 1) := by decide +kernel
theorem dX10_pass_38 : decode cX10_pass 38 = .ok (.putfield 309, 3) := by decide +kernel
theorem dX10_pass_41 : decode cX10_pass 41 = .ok (.iload_n 2, 1) := by decide +kernel
theorem dX10_pass_42 : decode cX10_pass 42 = .ok (.ireturn, 1) := by decide +kernel
set_option maxRecDepth 20000 in
theorem ggX10_passRow_X10_pass : GoodIn wsX10_passRow wsX10_pass := goodIn_r _ [5, 6, 7, 8, 9, 10, 11, 12, 13, 14, 15, 16, 17, 18, 19, 20, 21, 22, 23, 24, 25, 26, 27, 28, 29, 30, 31, 32, 33, 34, 35, 36, 37, 38, 39, 40, 41, 42, 43] (by decide +kernel) (by decide +kernel)
set_option maxRecDepth 20000 in
theorem gX10_passRow_X10_pass : GoodIn wsX10_passRow (wsV RX10 312 RX10 yX10_pass wsX10_pass) := goodIn_app (goodIn_of _ (by decide +kernel)) ggX10_passRow_X10_pass
theorem dX10_passRow_0 : decode cX10_passRow 0 = .ok (.iconst 0, 1) := by decide +kernel
theorem dX10_passRow_1 : decode cX10_passRow 1 = .ok (.istore_n 3, 1) := by decide +kernel
theorem dX10_passRow_2 : decode cX10_passRow 2 = .ok (.iload_n 3, 1) := by decide +kernel
theorem dX10_passRow_3 : decode cX10_passRow 3 = .ok (.iload_n 2, 1) := by decide +kernel
theorem dX10_passRow_4 : decode cX10_passRow 4 = .ok (.if_icmp .ge 19, 3) := by decide +kernel
theorem dX10_passRow_7 : decode cX10_passRow 7 = .ok (.aload_n 1, 1) := by decide +kernel
theorem dX10_passRow_8 : decode cX10_passRow 8 = .ok (.iload_n 3, 1) := by decide +kernel
theorem dX10_passRow_9 : decode cX10_passRow 9 = .ok (.aload_n 0, 1) := by decide +kernel
theorem dX10_passRow_10 : decode cX10_passRow 10 = .ok (.aload_n 1, 1) := by decide +kernel
theorem dX10_passRow_11 : decode cX10_passRow 11 = .ok (.iload_n 3, 1) := by decide +kernel
theorem dX10_passRow_12 : decode cX10_passRow 12 = .ok (.iaload, 1) := by decide +kernel
theorem dX10_passRow_13 : decode cX10_passRow 13 = .ok (.invokevirtual 312, 3) := by decide +kernel
theorem dX10_passRow_16 : decode cX10_passRow 16 = .ok (.iastore, 1) := by decide +kernel
theorem dX10_passRow_17 : decode cX10_passRow 17 = .ok (.iinc 3 1, 3) := by decide +kernel
theorem dX10_passRow_20 : decode cX10_passRow 20 = .ok (.goto (-18), 3) := by decide +kernel
theorem dX10_passRow_23 : decode cX10_passRow 23 = .ok (.return_, 1) := by decide +kernel
set_option maxRecDepth 20000 in
theorem ggX10_passAll_X10_pass : GoodIn wsX10_passAll wsX10_pass := goodIn_r _ [15, 16, 17, 18, 23, 24, 25, 26, 27, 28, 29, 30, 31, 32, 33, 34, 35, 36, 37, 38, 39, 40, 41, 42, 43, 44, 45, 46, 47, 48, 49, 50, 51, 52, 53, 54, 55, 56, 57] (by decide +kernel) (by decide +kernel)
set_option maxRecDepth 20000 in
theorem gX10_passAll_X10_pass : GoodIn wsX10_passAll (wsV RX10 312 RX10 yX10_pass wsX10_pass) := goodIn_app (goodIn_of _ (by decide +kernel)) ggX10_passAll_X10_pass
set_option maxRecDepth 20000 in
theorem ggX10_passAll_X10_passRow : GoodIn wsX10_passAll wsX10_passRow := goodIn_r _ [22, 11, 12, 13, 14, 15, 16, 17, 18, 23, 24, 25, 26, 27, 28, 29, 30, 31, 32, 33, 34, 35, 36, 37, 38, 39, 40, 41, 42, 43, 44, 45, 46, 47, 48, 49, 50, 51, 52, 53, 54, 55, 56, 57] (by decide +kernel) (by decide +kernel)
set_option maxRecDepth 20000 in
theorem gX10_passAll_X10_passRow : GoodIn wsX10_passAll (wsV RX10 315 RX10 yX10_passRow wsX10_passRow) := goodIn_app (goodIn_of _ (by decide +kernel)) ggX10_passAll_X10_passRow
theorem dX10_passAll_0 : decode cX10_passAll 0 = .ok (.aload_n 0, 1) := by decide +kernel
theorem dX10_passAll_1 : decode cX10_passAll 1 = .ok (.aload_n 0, 1) := by decide +kernel
theorem dX10_passAll_2 : decode cX10_passAll 2 = .ok (.aload_n 0, 1) := by decide +kernel
theorem dX10_passAll_3 : decode cX10_passAll 3 = .ok (.getfield 83, 3) := by decide +kernel
theorem dX10_passAll_6 : decode cX10_passAll 6 = .ok (.invokevirtual 312, 3) := by decide +kernel
theorem dX10_passAll_9 : decode cX10_passAll 9 = .ok (.putfield 83, 3) := by decide +kernel
theorem dX10_passAll_12 : decode cX10_passAll 12 = .ok (.aload_n 0, 1) := by decide +kernel
theorem dX10_passAll_13 : decode cX10_passAll 13 = .ok (.aload_n 0, 1) := by decide +kernel
theorem dX10_passAll_14 : decode cX10_passAll 14 = .ok (.aload_n 0, 1) := by decide +kernel
theorem dX10_passAll_15 : decode cX10_passAll 15 = .ok (.getfield 100, 3) := by decide +kernel
theorem dX10_passAll_18 : decode cX10_passAll 18 = .ok (.invokevirtual 312, 3) := by decide +kernel
theorem dX10_passAll_21 : decode cX10_passAll 21 = .ok (.putfield 100, 3) := by decide +kernel
theorem dX10_passAll_24 : decode cX10_passAll 24 = .ok (.aload_n 0, 1) := by decide +kernel
theorem dX10_passAll_25 : decode cX10_passAll 25 = .ok (.aload_n 0, 1) := by decide +kernel
theorem dX10_passAll_26 : decode cX10_passAll 26 = .ok (.aload_n 0, 1) := by decide +kernel
theorem dX10_passAll_27 : decode cX10_passAll 27 = .ok (.getfield 155, 3) := by decide +kernel
theorem dX10_passAll_30 : decode cX10_passAll 30 = .ok (.invokevirtual 312, 3) := by decide +kernel
theorem dX10_passAll_33 : decode cX10_passAll 33 = .ok (.putfield 155, 3) := by decide +kernel
theorem dX10_passAll_36 : decode cX10_passAll 36 = .ok (.aload_n 0, 1) := by decide +kernel
theorem dX10_passAll_37 : decode cX10_passAll 37 = .ok (.aload_n 0, 1) := by decide +kernel
theorem dX10_passAll_38 : decode cX10_passAll 38 = .ok (.aload_n 0, 1) := by decide +kernel
theorem dX10_passAll_39 : decode cX10_passAll 39 = .ok (.getfield 257, 3) := by decide +kernel
theorem dX10_passAll_42 : decode cX10_passAll 42 = .ok (.invokevirtual 312, 3) := by decide +kernel
theorem dX10_passAll_45 : decode cX10_passAll 45 = .ok (.putfield 257, 3) := by decide +kernel
theorem dX10_passAll_48 : decode cX10_passAll 48 = .ok (.aload_n 0, 1) := by decide +kernel
theorem dX10_passAll_49 : decode cX10_passAll 49 = .ok (.aload_n 0, 1) := by decide +kernel
theorem dX10_passAll_50 : decode cX10_passAll 50 = .ok (.getfield 7, 3) := by decide +kernel
theorem dX10_passAll_53 : decode cX10_passAll 53 = .ok (.bipush 8, 2) := by decide +kernel
theorem dX10_passAll_55 : decode cX10_passAll 55 = .ok (.invokevirtual 315, 3) := by decide +kernel
theorem dX10_passAll_58 : decode cX10_passAll 58 = .ok (.aload_n 0, 1) := by decide +kernel
theorem dX10_passAll_59 : decode cX10_passAll 59 = .ok (.aload_n 0, 1) := by decide +kernel
theorem dX10_passAll_60 : decode cX10_passAll 60 = .ok (.getfield 13, 3) := by decide +kernel
theorem dX10_passAll_63 : decode cX10_passAll 63 = .ok (.bipush 64, 2) := by decide +kernel
theorem dX10_passAll_65 : decode cX10_passAll 65 = .ok (.invokevirtual 315, 3) := by decide +kernel
theorem dX10_passAll_68 : decode cX10_passAll 68 = .ok (.aload_n 0, 1) := by decide +kernel
theorem dX10_passAll_69 : decode cX10_passAll 69 = .ok (.aload_n 0, 1) := by decide +kernel
theorem dX10_passAll_70 : decode cX10_passAll 70 = .ok (.getfield 16, 3) := by decide +kernel
theorem dX10_passAll_73 : decode cX10_passAll 73 = .ok (.bipush 8, 2) := by decide +kernel
theorem dX10_passAll_75 : decode cX10_passAll 75 = .ok (.invokevirtual 315, 3) := by decide +kernel
theorem dX10_passAll_78 : decode cX10_passAll 78 = .ok (.aload_n 0, 1) := by decide +kernel
theorem dX10_passAll_79 : decode cX10_passAll 79 = .ok (.aload_n 0, 1) := by decide +kernel
theorem dX10_passAll_80 : decode cX10_passAll 80 = .ok (.getfield 19, 3) := by decide +kernel
theorem dX10_passAll_83 : decode cX10_passAll 83 = .ok (.bipush 8, 2) := by decide +kernel
theorem dX10_passAll_85 : decode cX10_passAll 85 = .ok (.invokevirtual 315, 3) := by decide +kernel
theorem dX10_passAll_88 : decode cX10_passAll 88 = .ok (.aload_n 0, 1) := by decide +kernel
theorem dX10_passAll_89 : decode cX10_passAll 89 = .ok (.aload_n 0, 1) := by decide +kernel
theorem dX10_passAll_90 : decode cX10_passAll 90 = .ok (.getfield 22, 3) := by decide +kernel
theorem dX10_passAll_93 : decode cX10_passAll 93 = .ok (.bipush 8, 2) := by decide +kernel
theorem dX10_passAll_95 : decode cX10_passAll 95 = .ok (.invokevirtual 315, 3) := by decide +kernel
theorem dX10_passAll_98 : decode cX10_passAll 98 = .ok (.aload_n 0, 1) := by decide +kernel
theorem dX10_passAll_99 : decode cX10_passAll 99 = .ok (.aload_n 0, 1) := by decide +kernel
theorem dX10_passAll_100 : decode cX10_passAll 100 = .ok (.getfield 25, 3) := by decide +kernel
theorem dX10_passAll_103 : decode cX10_passAll 103 = .ok (.bipush 8, 2) := by decide +kernel
theorem dX10_passAll_105 : decode cX10_passAll 105 = .ok (.invokevirtual 315, 3) := by decide +kernel
theorem dX10_passAll_108 : decode cX10_passAll 108 = .ok (.return_, 1) := by decide +kernel
set_option maxRecDepth 20000 in
theorem ggX10_image_X10_in : GoodIn wsX10_image wsX10_in := goodIn_r _ [7] (by decide +kernel) (by decide +kernel)
set_option maxRecDepth 20000 in
theorem gX10_image_X10_in : GoodIn wsX10_image (va_wsS RX10 73 yX10_in wsX10_in) := goodIn_app (goodIn_of _ (by decide +kernel)) ggX10_image_X10_in
set_option maxRecDepth 20000 in
theorem ggX10_image_X10_passAll : GoodIn wsX10_image wsX10_passAll := goodIn_r _ [11, 12, 13, 14, 15, 16, 17, 18, 19, 20, 21, 22, 23, 24, 6, 25, 2, 26, 1, 27, 28, 29, 30, 31, 32, 33, 34, 35, 36, 37, 38, 39, 40, 41, 42, 43, 44, 45, 46, 47, 48, 49, 50, 51, 52, 53, 54, 55, 56, 57, 58, 59, 60, 61, 62, 63, 64, 65] (by decide +kernel) (by decide +kernel)
set_option maxRecDepth 20000 in
theorem gX10_image_X10_passAll : GoodIn wsX10_image (wsV RX10 319 RX10 yX10_passAll wsX10_passAll) := goodIn_app (goodIn_of _ (by decide +kernel)) ggX10_image_X10_passAll
theorem dX10_image_0 : decode cX10_image 0 = .ok (.iload_n 1, 1) := by decide +kernel
theorem dX10_image_1 : decode cX10_image 1 = .ok (.i2l, 1) := by decide +kernel
theorem dX10_image_2 : decode cX10_image 2 = .ok (.lconst 0, 1) := by decide +kernel
theorem dX10_image_3 : decode cX10_image 3 = .ok (.lconst 1, 1) := by decide +kernel
theorem dX10_image_4 : decode cX10_image 4 = .ok (.invokestatic 73, 3) := by decide +kernel
theorem dX10_image_7 : decode cX10_image 7 = .ok (.ifCond .ne 6, 3) := by decide +kernel
theorem dX10_image_10 : decode cX10_image 10 = .ok (.bipush (-2), 2) := by decide +kernel
theorem dX10_image_12 : decode cX10_image 12 = .ok (.ireturn, 1) := by decide +kernel
theorem dX10_image_13 : decode cX10_image 13 = .ok (.aload_n 0, 1) := by decide +kernel
theorem dX10_image_14 : decode cX10_image 14 = .ok (.bipush 120, 2) := by decide +kernel
theorem dX10_image_16 : decode cX10_image 16 = .ok (.iload_n 1, 1) := by decide +kernel
theorem dX10_image_17 : decode cX10_image 17 = .ok (.imul, 1) := by decide +kernel
theorem dX10_image_18 : decode cX10_image 18 = .ok (.putfield 309, 3) := by decide +kernel
theorem dX10_image_21 : decode cX10_image 21 = .ok (.aload_n 0, 1) := by decide +kernel
theorem dX10_image_22 : decode cX10_image 22 = .ok (.iconst 1, 1) := by decide +kernel
theorem dX10_image_23 : decode cX10_image 23 = .ok (.putfield 305, 3) := by decide +kernel
theorem dX10_image_26 : decode cX10_image 26 = .ok (.aload_n 0, 1) := by decide +kernel
theorem dX10_image_27 : decode cX10_image 27 = .ok (.invokevirtual 319, 3) := by decide +kernel
theorem dX10_image_30 : decode cX10_image 30 = .ok (.aload_n 0, 1) := by decide +kernel
theorem dX10_image_31 : decode cX10_image 31 = .ok (.getfield 67, 3) := by decide +kernel
theorem dX10_image_34 : decode cX10_image 34 = .ok (.iload_n 1, 1) := by decide +kernel
theorem dX10_image_35 : decode cX10_image 35 = .ok (.iconst 1, 1) := by decide +kernel
theorem dX10_image_36 : decode cX10_image 36 = .ok (.bastore, 1) := by decide +kernel
theorem dX10_image_37 : decode cX10_image 37 = .ok (.iconst 1, 1) := by decide +kernel
theorem dX10_image_38 : decode cX10_image 38 = .ok (.ireturn, 1) := by decide +kernel
set_option maxRecDepth 20000 in
theorem ggX10_restore_X10_in : GoodIn wsX10_restore wsX10_in := goodIn_r _ [7] (by decide +kernel) (by decide +kernel)
set_option maxRecDepth 20000 in
theorem gX10_restore_X10_in : GoodIn wsX10_restore (va_wsS RX10 73 yX10_in wsX10_in) := goodIn_app (goodIn_of _ (by decide +kernel)) ggX10_restore_X10_in
set_option maxRecDepth 20000 in
theorem ggX10_restore_X10_passAll : GoodIn wsX10_restore wsX10_passAll := goodIn_r _ [11, 12, 13, 14, 15, 16, 17, 18, 19, 20, 21, 22, 23, 24, 6, 25, 3, 26, 2, 27, 28, 29, 30, 31, 32, 33, 34, 35, 36, 37, 38, 39, 40, 41, 42, 43, 44, 45, 46, 47, 48, 49, 50, 51, 52, 53, 54, 55, 56, 57, 58, 59, 60, 61, 62, 63, 64, 65] (by decide +kernel) (by decide +kernel)
set_option maxRecDepth 20000 in
theorem gX10_restore_X10_passAll : GoodIn wsX10_restore (wsV RX10 319 RX10 yX10_passAll wsX10_passAll) := goodIn_app (goodIn_of _ (by decide +kernel)) ggX10_restore_X10_passAll
theorem dX10_restore_0 : decode cX10_restore 0 = .ok (.iload_n 1, 1) := by decide +kernel
theorem dX10_restore_1 : decode cX10_restore 1 = .ok (.i2l, 1) := by decide +kernel
theorem dX10_restore_2 : decode cX10_restore 2 = .ok (.lconst 0, 1) := by decide +kernel
theorem dX10_restore_3 : decode cX10_restore 3 = .ok (.lconst 1, 1) := by decide +kernel
theorem dX10_restore_4 : decode cX10_restore 4 = .ok (.invokestatic 73, 3) := by decide +kernel
theorem dX10_restore_7 : decode cX10_restore 7 = .ok (.ifCond .ne 6, 3) := by decide +kernel
theorem dX10_restore_10 : decode cX10_restore 10 = .ok (.bipush (-2), 2) := by decide +kernel
theorem dX10_restore_12 : decode cX10_restore 12 = .ok (.ireturn, 1) := by decide +kernel
theorem dX10_restore_13 : decode cX10_restore 13 = .ok (.aload_n 0, 1) := by decide +kernel
theorem dX10_restore_14 : decode cX10_restore 14 = .ok (.getfield 67, 3) := by decide +kernel
theorem dX10_restore_17 : decode cX10_restore 17 = .ok (.iload_n 1, 1) := by decide +kernel
theorem dX10_restore_18 : decode cX10_restore 18 = .ok (.baload, 1) := by decide +kernel
theorem dX10_restore_19 : decode cX10_restore 19 = .ok (.ifCond .ne 6, 3) := by decide +kernel
theorem dX10_restore_22 : decode cX10_restore 22 = .ok (.bipush (-3), 2) := by decide +kernel
theorem dX10_restore_24 : decode cX10_restore 24 = .ok (.ireturn, 1) := by decide +kernel
theorem dX10_restore_25 : decode cX10_restore 25 = .ok (.aload_n 0, 1) := by decide +kernel
theorem dX10_restore_26 : decode cX10_restore 26 = .ok (.bipush 120, 2) := by decide +kernel
theorem dX10_restore_28 : decode cX10_restore 28 = .ok (.iload_n 1, 1) := by decide +kernel
theorem dX10_restore_29 : decode cX10_restore 29 = .ok (.imul, 1) := by decide +kernel
theorem dX10_restore_30 : decode cX10_restore 30 = .ok (.putfield 309, 3) := by decide +kernel
theorem dX10_restore_33 : decode cX10_restore 33 = .ok (.aload_n 0, 1) := by decide +kernel
theorem dX10_restore_34 : decode cX10_restore 34 = .ok (.iconst 0, 1) := by decide +kernel
theorem dX10_restore_35 : decode cX10_restore 35 = .ok (.putfield 305, 3) := by decide +kernel
theorem dX10_restore_38 : decode cX10_restore 38 = .ok (.aload_n 0, 1) := by decide +kernel
theorem dX10_restore_39 : decode cX10_restore 39 = .ok (.invokevirtual 319, 3) := by decide +kernel
theorem dX10_restore_42 : decode cX10_restore 42 = .ok (.iconst 1, 1) := by decide +kernel
theorem dX10_restore_43 : decode cX10_restore 43 = .ok (.ireturn, 1) := by decide +kernel
set_option maxRecDepth 20000 in
theorem ggX10_told_X10_in : GoodIn wsX10_told wsX10_in := goodIn_r _ [18] (by decide +kernel) (by decide +kernel)
set_option maxRecDepth 20000 in
theorem gX10_told_X10_in : GoodIn wsX10_told (va_wsS RX10 73 yX10_in wsX10_in) := goodIn_app (goodIn_of _ (by decide +kernel)) ggX10_told_X10_in
set_option maxRecDepth 20000 in
theorem ggX10_told_X10_chartRow : GoodIn wsX10_told wsX10_chartRow := goodIn_r _ [22, 23, 24, 25, 26, 27, 28, 29, 30, 31, 32, 33, 34, 35, 36, 37, 38, 39, 40, 41, 42, 43, 44, 45, 46, 47, 48, 49, 50, 51, 52, 53, 54, 55, 56, 57, 58] (by decide +kernel) (by decide +kernel)
set_option maxRecDepth 20000 in
theorem gX10_told_X10_chartRow : GoodIn wsX10_told (wsV RX10 96 RX10 yX10_chartRow wsX10_chartRow) := goodIn_app (goodIn_of _ (by decide +kernel)) ggX10_told_X10_chartRow
theorem dX10_told_0 : decode cX10_told 0 = .ok (.iload_n 1, 1) := by decide +kernel
theorem dX10_told_1 : decode cX10_told 1 = .ok (.i2l, 1) := by decide +kernel
theorem dX10_told_2 : decode cX10_told 2 = .ok (.ldc2_w 322, 3) := by decide +kernel
theorem dX10_told_5 : decode cX10_told 5 = .ok (.ldc2_w 324, 3) := by decide +kernel
theorem dX10_told_8 : decode cX10_told 8 = .ok (.invokestatic 73, 3) := by decide +kernel
theorem dX10_told_11 : decode cX10_told 11 = .ok (.ifCond .eq 38, 3) := by decide +kernel
theorem dX10_told_14 : decode cX10_told 14 = .ok (.iload_n 1, 1) := by decide +kernel
theorem dX10_told_15 : decode cX10_told 15 = .ok (.bipush 10, 2) := by decide +kernel
theorem dX10_told_17 : decode cX10_told 17 = .ok (.irem, 1) := by decide +kernel
theorem dX10_told_18 : decode cX10_told 18 = .ok (.bipush 8, 2) := by decide +kernel
theorem dX10_told_20 : decode cX10_told 20 = .ok (.if_icmp .ge 26, 3) := by decide +kernel
theorem dX10_told_23 : decode cX10_told 23 = .ok (.aload_n 0, 1) := by decide +kernel
theorem dX10_told_24 : decode cX10_told 24 = .ok (.getfield 13, 3) := by decide +kernel
theorem dX10_told_27 : decode cX10_told 27 = .ok (.bipush 8, 2) := by decide +kernel
theorem dX10_told_29 : decode cX10_told 29 = .ok (.iload_n 1, 1) := by decide +kernel
theorem dX10_told_30 : decode cX10_told 30 = .ok (.bipush 100, 2) := by decide +kernel
theorem dX10_told_32 : decode cX10_told 32 = .ok (.isub, 1) := by decide +kernel
theorem dX10_told_33 : decode cX10_told 33 = .ok (.bipush 10, 2) := by decide +kernel
theorem dX10_told_35 : decode cX10_told 35 = .ok (.idiv, 1) := by decide +kernel
theorem dX10_told_36 : decode cX10_told 36 = .ok (.imul, 1) := by decide +kernel
theorem dX10_told_37 : decode cX10_told 37 = .ok (.iload_n 1, 1) := by decide +kernel
theorem dX10_told_38 : decode cX10_told 38 = .ok (.bipush 10, 2) := by decide +kernel
theorem dX10_told_40 : decode cX10_told 40 = .ok (.irem, 1) := by decide +kernel
theorem dX10_told_41 : decode cX10_told 41 = .ok (.iadd, 1) := by decide +kernel
theorem dX10_told_42 : decode cX10_told 42 = .ok (.iaload, 1) := by decide +kernel
theorem dX10_told_43 : decode cX10_told 43 = .ok (.goto 5, 3) := by decide +kernel
theorem dX10_told_46 : decode cX10_told 46 = .ok (.bipush (-2), 2) := by decide +kernel
theorem dX10_told_48 : decode cX10_told 48 = .ok (.ireturn, 1) := by decide +kernel
theorem dX10_told_49 : decode cX10_told 49 = .ok (.iload_n 1, 1) := by decide +kernel
theorem dX10_told_50 : decode cX10_told 50 = .ok (.i2l, 1) := by decide +kernel
theorem dX10_told_51 : decode cX10_told 51 = .ok (.ldc2_w 326, 3) := by decide +kernel
theorem dX10_told_54 : decode cX10_told 54 = .ok (.ldc2_w 328, 3) := by decide +kernel
theorem dX10_told_57 : decode cX10_told 57 = .ok (.invokestatic 73, 3) := by decide +kernel
theorem dX10_told_60 : decode cX10_told 60 = .ok (.ifCond .eq 13, 3) := by decide +kernel
theorem dX10_told_63 : decode cX10_told 63 = .ok (.aload_n 0, 1) := by decide +kernel
theorem dX10_told_64 : decode cX10_told 64 = .ok (.getfield 7, 3) := by decide +kernel
theorem dX10_told_67 : decode cX10_told 67 = .ok (.iload_n 1, 1) := by decide +kernel
theorem dX10_told_68 : decode cX10_told 68 = .ok (.bipush 10, 2) := by decide +kernel
theorem dX10_told_70 : decode cX10_told 70 = .ok (.isub, 1) := by decide +kernel
theorem dX10_told_71 : decode cX10_told 71 = .ok (.iaload, 1) := by decide +kernel
theorem dX10_told_72 : decode cX10_told 72 = .ok (.ireturn, 1) := by decide +kernel
theorem dX10_told_73 : decode cX10_told 73 = .ok (.iload_n 1, 1) := by decide +kernel
theorem dX10_told_74 : decode cX10_told 74 = .ok (.i2l, 1) := by decide +kernel
theorem dX10_told_75 : decode cX10_told 75 = .ok (.ldc2_w 330, 3) := by decide +kernel
theorem dX10_told_78 : decode cX10_told 78 = .ok (.ldc2_w 332, 3) := by decide +kernel
theorem dX10_told_81 : decode cX10_told 81 = .ok (.invokestatic 73, 3) := by decide +kernel
theorem dX10_told_84 : decode cX10_told 84 = .ok (.ifCond .eq 13, 3) := by decide +kernel
theorem dX10_told_87 : decode cX10_told 87 = .ok (.aload_n 0, 1) := by decide +kernel
theorem dX10_told_88 : decode cX10_told 88 = .ok (.getfield 19, 3) := by decide +kernel
theorem dX10_told_91 : decode cX10_told 91 = .ok (.iload_n 1, 1) := by decide +kernel
theorem dX10_told_92 : decode cX10_told 92 = .ok (.bipush 20, 2) := by decide +kernel
theorem dX10_told_94 : decode cX10_told 94 = .ok (.isub, 1) := by decide +kernel
theorem dX10_told_95 : decode cX10_told 95 = .ok (.iaload, 1) := by decide +kernel
theorem dX10_told_96 : decode cX10_told 96 = .ok (.ireturn, 1) := by decide +kernel
theorem dX10_told_97 : decode cX10_told 97 = .ok (.iload_n 1, 1) := by decide +kernel
theorem dX10_told_98 : decode cX10_told 98 = .ok (.tableswitch 68 0 5 #[38, 43, 48, 53, 58, 63], 38) := by decide +kernel
theorem dX10_told_136 : decode cX10_told 136 = .ok (.aload_n 0, 1) := by decide +kernel
theorem dX10_told_137 : decode cX10_told 137 = .ok (.getfield 111, 3) := by decide +kernel
theorem dX10_told_140 : decode cX10_told 140 = .ok (.ireturn, 1) := by decide +kernel
theorem dX10_told_141 : decode cX10_told 141 = .ok (.aload_n 0, 1) := by decide +kernel
theorem dX10_told_142 : decode cX10_told 142 = .ok (.getfield 83, 3) := by decide +kernel
theorem dX10_told_145 : decode cX10_told 145 = .ok (.ireturn, 1) := by decide +kernel
theorem dX10_told_146 : decode cX10_told 146 = .ok (.aload_n 0, 1) := by decide +kernel
theorem dX10_told_147 : decode cX10_told 147 = .ok (.invokevirtual 96, 3) := by decide +kernel
theorem dX10_told_150 : decode cX10_told 150 = .ok (.ireturn, 1) := by decide +kernel
theorem dX10_told_151 : decode cX10_told 151 = .ok (.aload_n 0, 1) := by decide +kernel
theorem dX10_told_152 : decode cX10_told 152 = .ok (.getfield 100, 3) := by decide +kernel
theorem dX10_told_155 : decode cX10_told 155 = .ok (.ireturn, 1) := by decide +kernel
theorem dX10_told_156 : decode cX10_told 156 = .ok (.aload_n 0, 1) := by decide +kernel
theorem dX10_told_157 : decode cX10_told 157 = .ok (.getfield 155, 3) := by decide +kernel
theorem dX10_told_160 : decode cX10_told 160 = .ok (.ireturn, 1) := by decide +kernel
theorem dX10_told_161 : decode cX10_told 161 = .ok (.aload_n 0, 1) := by decide +kernel
theorem dX10_told_162 : decode cX10_told 162 = .ok (.getfield 257, 3) := by decide +kernel
theorem dX10_told_165 : decode cX10_told 165 = .ok (.ireturn, 1) := by decide +kernel
theorem dX10_told_166 : decode cX10_told 166 = .ok (.bipush (-2), 2) := by decide +kernel
theorem dX10_told_168 : decode cX10_told 168 = .ok (.ireturn, 1) := by decide +kernel
theorem dJ6_bitCount_0f7a4_0 : decode cJ6_bitCount_0f7a4 0 = .ok (.iload_n 0, 1) := by decide +kernel
theorem dJ6_bitCount_0f7a4_1 : decode cJ6_bitCount_0f7a4 1 = .ok (.iload_n 0, 1) := by decide +kernel
theorem dJ6_bitCount_0f7a4_2 : decode cJ6_bitCount_0f7a4 2 = .ok (.iconst 1, 1) := by decide +kernel
theorem dJ6_bitCount_0f7a4_3 : decode cJ6_bitCount_0f7a4 3 = .ok (.iushr, 1) := by decide +kernel
theorem dJ6_bitCount_0f7a4_4 : decode cJ6_bitCount_0f7a4 4 = .ok (.ldc_w 265, 3) := by decide +kernel
theorem dJ6_bitCount_0f7a4_7 : decode cJ6_bitCount_0f7a4 7 = .ok (.iand, 1) := by decide +kernel
theorem dJ6_bitCount_0f7a4_8 : decode cJ6_bitCount_0f7a4 8 = .ok (.isub, 1) := by decide +kernel
theorem dJ6_bitCount_0f7a4_9 : decode cJ6_bitCount_0f7a4 9 = .ok (.istore_n 0, 1) := by decide +kernel
theorem dJ6_bitCount_0f7a4_10 : decode cJ6_bitCount_0f7a4 10 = .ok (.iload_n 0, 1) := by decide +kernel
theorem dJ6_bitCount_0f7a4_11 : decode cJ6_bitCount_0f7a4 11 = .ok (.ldc_w 266, 3) := by decide +kernel
theorem dJ6_bitCount_0f7a4_14 : decode cJ6_bitCount_0f7a4 14 = .ok (.iand, 1) := by decide +kernel
theorem dJ6_bitCount_0f7a4_15 : decode cJ6_bitCount_0f7a4 15 = .ok (.iload_n 0, 1) := by decide +kernel
theorem dJ6_bitCount_0f7a4_16 : decode cJ6_bitCount_0f7a4 16 = .ok (.iconst 2, 1) := by decide +kernel
theorem dJ6_bitCount_0f7a4_17 : decode cJ6_bitCount_0f7a4 17 = .ok (.iushr, 1) := by decide +kernel
theorem dJ6_bitCount_0f7a4_18 : decode cJ6_bitCount_0f7a4 18 = .ok (.ldc_w 266, 3) := by decide +kernel
theorem dJ6_bitCount_0f7a4_21 : decode cJ6_bitCount_0f7a4 21 = .ok (.iand, 1) := by decide +kernel
theorem dJ6_bitCount_0f7a4_22 : decode cJ6_bitCount_0f7a4 22 = .ok (.iadd, 1) := by decide +kernel
theorem dJ6_bitCount_0f7a4_23 : decode cJ6_bitCount_0f7a4 23 = .ok (.istore_n 0, 1) := by decide +kernel
theorem dJ6_bitCount_0f7a4_24 : decode cJ6_bitCount_0f7a4 24 = .ok (.iload_n 0, 1) := by decide +kernel
theorem dJ6_bitCount_0f7a4_25 : decode cJ6_bitCount_0f7a4 25 = .ok (.iload_n 0, 1) := by decide +kernel
theorem dJ6_bitCount_0f7a4_26 : decode cJ6_bitCount_0f7a4 26 = .ok (.iconst 4, 1) := by decide +kernel
theorem dJ6_bitCount_0f7a4_27 : decode cJ6_bitCount_0f7a4 27 = .ok (.iushr, 1) := by decide +kernel
theorem dJ6_bitCount_0f7a4_28 : decode cJ6_bitCount_0f7a4 28 = .ok (.iadd, 1) := by decide +kernel
theorem dJ6_bitCount_0f7a4_29 : decode cJ6_bitCount_0f7a4 29 = .ok (.ldc_w 267, 3) := by decide +kernel
theorem dJ6_bitCount_0f7a4_32 : decode cJ6_bitCount_0f7a4 32 = .ok (.iand, 1) := by decide +kernel
theorem dJ6_bitCount_0f7a4_33 : decode cJ6_bitCount_0f7a4 33 = .ok (.istore_n 0, 1) := by decide +kernel
theorem dJ6_bitCount_0f7a4_34 : decode cJ6_bitCount_0f7a4 34 = .ok (.iload_n 0, 1) := by decide +kernel
theorem dJ6_bitCount_0f7a4_35 : decode cJ6_bitCount_0f7a4 35 = .ok (.iload_n 0, 1) := by decide +kernel
theorem dJ6_bitCount_0f7a4_36 : decode cJ6_bitCount_0f7a4 36 = .ok (.bipush 8, 2) := by decide +kernel
theorem dJ6_bitCount_0f7a4_38 : decode cJ6_bitCount_0f7a4 38 = .ok (.iushr, 1) := by decide +kernel
theorem dJ6_bitCount_0f7a4_39 : decode cJ6_bitCount_0f7a4 39 = .ok (.iadd, 1) := by decide +kernel
theorem dJ6_bitCount_0f7a4_40 : decode cJ6_bitCount_0f7a4 40 = .ok (.istore_n 0, 1) := by decide +kernel
theorem dJ6_bitCount_0f7a4_41 : decode cJ6_bitCount_0f7a4 41 = .ok (.iload_n 0, 1) := by decide +kernel
theorem dJ6_bitCount_0f7a4_42 : decode cJ6_bitCount_0f7a4 42 = .ok (.iload_n 0, 1) := by decide +kernel
theorem dJ6_bitCount_0f7a4_43 : decode cJ6_bitCount_0f7a4 43 = .ok (.bipush 16, 2) := by decide +kernel
theorem dJ6_bitCount_0f7a4_45 : decode cJ6_bitCount_0f7a4 45 = .ok (.iushr, 1) := by decide +kernel
theorem dJ6_bitCount_0f7a4_46 : decode cJ6_bitCount_0f7a4 46 = .ok (.iadd, 1) := by decide +kernel
theorem dJ6_bitCount_0f7a4_47 : decode cJ6_bitCount_0f7a4 47 = .ok (.istore_n 0, 1) := by decide +kernel
theorem dJ6_bitCount_0f7a4_48 : decode cJ6_bitCount_0f7a4 48 = .ok (.iload_n 0, 1) := by decide +kernel
theorem dJ6_bitCount_0f7a4_49 : decode cJ6_bitCount_0f7a4 49 = .ok (.bipush 63, 2) := by decide +kernel
theorem dJ6_bitCount_0f7a4_51 : decode cJ6_bitCount_0f7a4 51 = .ok (.iand, 1) := by decide +kernel
theorem dJ6_bitCount_0f7a4_52 : decode cJ6_bitCount_0f7a4 52 = .ok (.ireturn, 1) := by decide +kernel
theorem dJ9_max_7cf53_0 : decode cJ9_max_7cf53 0 = .ok (.iload_n 0, 1) := by decide +kernel
theorem dJ9_max_7cf53_1 : decode cJ9_max_7cf53 1 = .ok (.iload_n 1, 1) := by decide +kernel
theorem dJ9_max_7cf53_2 : decode cJ9_max_7cf53 2 = .ok (.if_icmp .lt 7, 3) := by decide +kernel
theorem dJ9_max_7cf53_5 : decode cJ9_max_7cf53 5 = .ok (.iload_n 0, 1) := by decide +kernel
theorem dJ9_max_7cf53_6 : decode cJ9_max_7cf53 6 = .ok (.goto 4, 3) := by decide +kernel
theorem dJ9_max_7cf53_9 : decode cJ9_max_7cf53 9 = .ok (.iload_n 1, 1) := by decide +kernel
theorem dJ9_max_7cf53_10 : decode cJ9_max_7cf53 10 = .ok (.ireturn, 1) := by decide +kernel
theorem dJ9_min_7cf53_0 : decode cJ9_min_7cf53 0 = .ok (.iload_n 0, 1) := by decide +kernel
theorem dJ9_min_7cf53_1 : decode cJ9_min_7cf53 1 = .ok (.iload_n 1, 1) := by decide +kernel
theorem dJ9_min_7cf53_2 : decode cJ9_min_7cf53 2 = .ok (.if_icmp .gt 7, 3) := by decide +kernel
theorem dJ9_min_7cf53_5 : decode cJ9_min_7cf53 5 = .ok (.iload_n 0, 1) := by decide +kernel
theorem dJ9_min_7cf53_6 : decode cJ9_min_7cf53 6 = .ok (.goto 4, 3) := by decide +kernel
theorem dJ9_min_7cf53_9 : decode cJ9_min_7cf53 9 = .ok (.iload_n 1, 1) := by decide +kernel
theorem dJ9_min_7cf53_10 : decode cJ9_min_7cf53 10 = .ok (.ireturn, 1) := by decide +kernel
set_option maxRecDepth 20000 in
theorem ggL_law_X9_init : GoodIn wsL_law wsX9_init := goodIn_r _ [8, 9, 10, 11, 12, 13, 14, 15, 16, 17, 18, 19, 20, 21, 22, 23, 24, 25, 26, 27, 28, 29, 30, 31, 32, 33, 34, 35, 36, 37, 38, 39, 40, 41, 42, 43, 44, 45, 46, 47, 48, 49, 50, 51, 52, 53, 54, 55, 56, 57, 58, 59, 60, 61, 62, 63, 64, 65, 66, 67, 68, 69, 70, 71, 72, 73, 74, 75, 76, 77, 78, 79, 80, 81, 82, 83, 84, 85, 86, 87, 88, 89, 90, 91, 92, 93, 94, 95, 96, 97, 98, 99, 100, 101, 843, 844, 845, 846, 847, 848, 798, 799, 800, 801, 802, 803, 804, 805, 806, 807, 849, 850, 851, 852, 853, 854, 855, 856, 857, 858, 859, 860, 861, 862, 863, 864, 865, 866, 867, 868, 869, 870, 871, 872, 873, 874, 875, 876, 877, 878, 879, 880, 881] (by decide +kernel) (by decide +kernel)
set_option maxRecDepth 20000 in
theorem gL_law_X9_init : GoodIn wsL_law (wsX9_init) := ggL_law_X9_init
set_option maxRecDepth 20000 in
theorem ggL_law_X10_init : GoodIn wsL_law wsX10_init := goodIn_r _ [104, 105, 10, 11, 52, 106, 107, 108, 109, 110, 111, 112, 113, 114, 115, 116, 117, 118, 119, 120, 121, 122, 123, 124, 125, 126, 808, 809, 810, 811, 812, 813, 814, 815, 816, 817, 818, 819, 820, 821, 822, 823, 824, 825, 826, 827, 828, 829, 830, 831, 832, 833, 834, 835, 836, 837, 838, 839, 840, 841, 842] (by decide +kernel) (by decide +kernel)
set_option maxRecDepth 20000 in
theorem gL_law_X10_init : GoodIn wsL_law (wsX10_init) := ggL_law_X10_init
set_option maxRecDepth 20000 in
theorem ggL_law_X9_house : GoodIn wsL_law wsX9_house := goodIn_r _ [130, 15, 131, 132, 2, 133, 134, 135, 136, 137, 14, 138, 139, 140, 798, 799, 800, 801, 802, 803, 804, 805, 806, 807, 843, 844, 845, 846, 847, 848] (by decide +kernel) (by decide +kernel)
set_option maxRecDepth 20000 in
theorem gL_law_X9_house : GoodIn wsL_law (wsV RL 13 RX9 yX9_house wsX9_house) := goodIn_app (goodIn_of _ (by decide +kernel)) ggL_law_X9_house
set_option maxRecDepth 20000 in
theorem ggL_law_X10_house : GoodIn wsL_law wsX10_house := goodIn_r _ [144, 145, 106, 146, 147, 148, 5, 149, 150, 151, 152, 153, 154, 155, 156, 808, 809, 810, 811, 812, 813, 814, 815, 816, 817, 818, 819, 820, 821, 822, 823, 824, 825, 826, 827, 828, 829, 830, 831, 832, 833, 834, 835, 836, 837, 838, 839, 840, 841, 842] (by decide +kernel) (by decide +kernel)
set_option maxRecDepth 20000 in
theorem gL_law_X10_house : GoodIn wsL_law (wsV RL 17 RX10 yX10_house wsX10_house) := goodIn_app (goodIn_of _ (by decide +kernel)) ggL_law_X10_house
set_option maxRecDepth 20000 in
theorem ggL_law_X9_gave : GoodIn wsL_law wsX9_gave := goodIn_r _ [160, 15, 161, 162, 2, 163, 131, 132, 133, 134, 135, 136, 798, 799, 800, 801, 802, 803, 804, 805, 806, 807, 843, 844, 845, 846, 847, 848] (by decide +kernel) (by decide +kernel)
set_option maxRecDepth 20000 in
theorem gL_law_X9_gave : GoodIn wsL_law (wsV RL 18 RX9 yX9_gave wsX9_gave) := goodIn_app (goodIn_of _ (by decide +kernel)) ggL_law_X9_gave
set_option maxRecDepth 20000 in
theorem ggL_law_X10_gave : GoodIn wsL_law wsX10_gave := goodIn_r _ [167, 145, 107, 147, 148, 5, 149, 150, 151, 152, 153, 808, 809, 810, 811, 812, 813, 814, 815, 816, 817, 818, 819, 820, 821, 822, 823, 824, 825, 826, 827, 828, 829, 830, 831, 832, 833, 834, 835, 836, 837, 838, 839, 840, 841, 842] (by decide +kernel) (by decide +kernel)
set_option maxRecDepth 20000 in
theorem gL_law_X10_gave : GoodIn wsL_law (wsV RL 21 RX10 yX10_gave wsX10_gave) := goodIn_app (goodIn_of _ (by decide +kernel)) ggL_law_X10_gave
set_option maxRecDepth 20000 in
theorem ggL_law_X9_map : GoodIn wsL_law wsX9_map := goodIn_r _ [171, 15, 172, 173, 2, 174, 134, 135, 136, 175, 14, 176, 177, 55, 178, 179, 180, 798, 799, 800, 801, 802, 803, 804, 805, 806, 807, 843, 844, 845, 846, 847, 848] (by decide +kernel) (by decide +kernel)
set_option maxRecDepth 20000 in
theorem gL_law_X9_map : GoodIn wsL_law (wsV RL 22 RX9 yX9_map wsX9_map) := goodIn_app (goodIn_of _ (by decide +kernel)) ggL_law_X9_map
set_option maxRecDepth 20000 in
theorem ggL_law_X10_map : GoodIn wsL_law wsX10_map := goodIn_r _ [184, 185, 186, 108, 112, 151, 152, 5, 153, 187, 188, 189, 190, 147, 148, 149, 150, 191, 192, 193, 194, 808, 809, 810, 811, 812, 813, 814, 815, 816, 817, 818, 819, 820, 821, 822, 823, 824, 825, 826, 827, 828, 829, 830, 831, 832, 833, 834, 835, 836, 837, 838, 839, 840, 841, 842] (by decide +kernel) (by decide +kernel)
set_option maxRecDepth 20000 in
theorem gL_law_X10_map : GoodIn wsL_law (wsV RL 26 RX10 yX10_map wsX10_map) := goodIn_app (goodIn_of _ (by decide +kernel)) ggL_law_X10_map
set_option maxRecDepth 20000 in
theorem ggL_law_X9_kin : GoodIn wsL_law wsX9_kin := goodIn_r _ [198, 19, 161, 162, 2, 163, 131, 132, 133, 199, 18, 200, 201, 59, 202, 203, 204, 205, 206, 207, 208, 209, 210, 211, 798, 799, 800, 801, 802, 803, 804, 805, 806, 807, 849] (by decide +kernel) (by decide +kernel)
set_option maxRecDepth 20000 in
theorem gL_law_X9_kin : GoodIn wsL_law (wsV RL 27 RX9 yX9_kin wsX9_kin) := goodIn_app (goodIn_of _ (by decide +kernel)) ggL_law_X9_kin
set_option maxRecDepth 20000 in
theorem ggL_law_X10_kin : GoodIn wsL_law wsX10_kin := goodIn_r _ [215, 109, 147, 148, 5, 149, 150, 151, 152, 153, 154, 155, 156, 216, 217, 218, 808, 809, 810, 811, 812, 813, 814, 815, 816, 817, 818, 819, 820, 821, 822, 823, 824, 825, 826, 827, 828, 829, 830, 831, 832, 833, 834, 835, 836, 837, 838, 839, 840, 841, 842] (by decide +kernel) (by decide +kernel)
set_option maxRecDepth 20000 in
theorem gL_law_X10_kin : GoodIn wsL_law (wsV RL 31 RX10 yX10_kin wsX10_kin) := goodIn_app (goodIn_of _ (by decide +kernel)) ggL_law_X10_kin
set_option maxRecDepth 20000 in
theorem ggL_law_X9_say : GoodIn wsL_law wsX9_say := goodIn_r _ [222, 27, 134, 135, 2, 136, 223, 26, 224, 225, 72, 226, 227, 228, 229, 230, 73, 231, 232, 233, 234, 235, 236, 237, 238, 239, 240, 241, 242, 243, 68, 69, 70, 244, 71, 245, 246, 247, 248, 249, 250, 251, 252, 253, 254, 255, 256, 798, 799, 800, 801, 802, 803, 804, 805, 806, 807, 853, 854, 855, 856, 857, 858, 859, 860, 861, 862] (by decide +kernel) (by decide +kernel)
set_option maxRecDepth 20000 in
theorem gL_law_X9_say : GoodIn wsL_law (wsV RL 32 RX9 yX9_say wsX9_say) := goodIn_app (goodIn_of _ (by decide +kernel)) ggL_law_X9_say
set_option maxRecDepth 20000 in
theorem ggL_law_X10_say : GoodIn wsL_law wsX10_say := goodIn_r _ [260, 261, 262, 263, 113, 151, 152, 5, 153, 808, 809, 810, 811, 812, 813, 814, 815, 816, 817, 818, 819, 820, 821, 822, 823, 824, 825, 826, 827, 828, 829, 830, 831, 832, 833, 834, 835, 836, 837, 838, 839, 840, 841, 842] (by decide +kernel) (by decide +kernel)
set_option maxRecDepth 20000 in
theorem gL_law_X10_say : GoodIn wsL_law (wsV RL 36 RX10 yX10_say wsX10_say) := goodIn_app (goodIn_of _ (by decide +kernel)) ggL_law_X10_say
set_option maxRecDepth 20000 in
theorem ggL_law_X9_wipe : GoodIn wsL_law wsX9_wipe := goodIn_r _ [267, 27, 268, 26, 269, 270, 243, 226, 72, 73, 798, 799, 800, 801, 802, 803, 804, 805, 806, 807, 853, 854, 855, 856, 857, 858, 859, 860, 861, 862] (by decide +kernel) (by decide +kernel)
set_option maxRecDepth 20000 in
theorem gL_law_X9_wipe : GoodIn wsL_law (wsV RL 37 RX9 yX9_wipe wsX9_wipe) := goodIn_app (goodIn_of _ (by decide +kernel)) ggL_law_X9_wipe
set_option maxRecDepth 20000 in
theorem ggL_law_X10_wipe : GoodIn wsL_law wsX10_wipe := goodIn_r _ [274, 263, 808, 809, 810, 811, 812, 813, 814, 815, 816, 817, 818, 819, 820, 821, 822, 823, 824, 825, 826, 827, 828, 829, 830, 831, 832, 833, 834, 835, 836, 837, 838, 839, 840, 841, 842] (by decide +kernel) (by decide +kernel)
set_option maxRecDepth 20000 in
theorem gL_law_X10_wipe : GoodIn wsL_law (wsV RL 41 RX10 yX10_wipe wsX10_wipe) := goodIn_app (goodIn_of _ (by decide +kernel)) ggL_law_X10_wipe
set_option maxRecDepth 20000 in
theorem ggL_law_X9_fault : GoodIn wsL_law wsX9_fault := goodIn_r _ [278, 27, 279, 26, 280, 281, 72, 73, 226, 798, 799, 800, 801, 802, 803, 804, 805, 806, 807, 853, 854, 855, 856, 857, 858, 859, 860, 861, 862] (by decide +kernel) (by decide +kernel)
set_option maxRecDepth 20000 in
theorem gL_law_X9_fault : GoodIn wsL_law (wsV RL 42 RX9 yX9_fault wsX9_fault) := goodIn_app (goodIn_of _ (by decide +kernel)) ggL_law_X9_fault
set_option maxRecDepth 20000 in
theorem ggL_law_X10_fault : GoodIn wsL_law wsX10_fault := goodIn_r _ [285, 286, 263, 113, 287, 288, 289, 5, 290, 291, 292, 293, 294, 115, 116, 117, 295, 296, 297, 298, 299, 151, 152, 153, 300, 301, 302, 303, 114, 304, 305, 306, 307, 308, 309, 310, 311, 312, 313, 314, 315, 316, 317, 808, 809, 810, 811, 812, 813, 814, 815, 816, 817, 818, 819, 820, 821, 822, 823, 824, 825, 826, 827, 828, 829, 830, 831, 832, 833, 834, 835, 836, 837, 838, 839, 840, 841, 842] (by decide +kernel) (by decide +kernel)
set_option maxRecDepth 20000 in
theorem gL_law_X10_fault : GoodIn wsL_law (wsV RL 45 RX10 yX10_fault wsX10_fault) := goodIn_app (goodIn_of _ (by decide +kernel)) ggL_law_X10_fault
set_option maxRecDepth 20000 in
theorem ggL_law_X9_judge : GoodIn wsL_law wsX9_judge := goodIn_r _ [321, 31, 134, 135, 2, 136, 322, 323, 324, 325, 27, 15, 279, 26, 280, 281, 72, 73, 226, 326, 30, 327, 328, 78, 329, 330, 331, 332, 333, 334, 335, 336, 337, 338, 14, 339, 340, 53, 341, 342, 343, 344, 54, 55, 140, 345, 346, 347, 348, 349, 350, 351, 352, 353, 354, 355, 356, 357, 358, 359, 360, 361, 362, 363, 364, 365, 137, 138, 139, 366, 367, 368, 369, 370, 371, 372, 373, 374, 375, 376, 377, 378, 379, 380, 381, 798, 799, 800, 801, 802, 803, 804, 805, 806, 807, 863, 864, 865, 866, 867, 868, 853, 854, 855, 856, 857, 858, 859, 860, 861, 862, 843, 844, 845, 846, 847, 848] (by decide +kernel) (by decide +kernel)
set_option maxRecDepth 20000 in
theorem gL_law_X9_judge : GoodIn wsL_law (wsV RL 46 RX9 yX9_judge wsX9_judge) := goodIn_app (goodIn_of _ (by decide +kernel)) ggL_law_X9_judge
set_option maxRecDepth 20000 in
theorem ggL_law_X10_judge : GoodIn wsL_law wsX10_judge := goodIn_r _ [385, 386, 387, 388, 389, 151, 152, 5, 153, 390, 391, 392, 393, 394, 395, 396, 397, 118, 106, 108, 107, 146, 186, 398, 399, 283, 284, 285, 286, 263, 113, 287, 288, 289, 290, 291, 292, 293, 294, 115, 116, 117, 295, 296, 297, 298, 299, 300, 301, 302, 303, 114, 304, 305, 306, 307, 308, 309, 310, 311, 312, 313, 314, 315, 316, 317, 400, 401, 402, 403, 404, 405, 406, 407, 408, 409, 410, 411, 412, 413, 414, 415, 416, 417, 418, 419, 420, 421, 422, 423, 424, 425, 426, 427, 428, 429, 430, 431, 432, 433, 434, 435, 436, 437, 438, 439, 440, 441, 442, 443, 444, 445, 446, 447, 448, 449, 450, 451, 452, 808, 809, 810, 811, 812, 813, 814, 815, 816, 817, 818, 819, 820, 821, 822, 823, 824, 825, 826, 827, 828, 829, 830, 831, 832, 833, 834, 835, 836, 837, 838, 839, 840, 841, 842] (by decide +kernel) (by decide +kernel)
set_option maxRecDepth 20000 in
theorem gL_law_X10_judge : GoodIn wsL_law (wsV RL 49 RX10 yX10_judge wsX10_judge) := goodIn_app (goodIn_of _ (by decide +kernel)) ggL_law_X10_judge
set_option maxRecDepth 20000 in
theorem ggL_law_X9_behind : GoodIn wsL_law wsX9_behind := goodIn_r _ [456, 31, 131, 132, 2, 133, 134, 135, 136, 322, 323, 324, 325, 27, 15, 279, 26, 280, 281, 72, 73, 226, 326, 30, 327, 328, 78, 329, 330, 331, 332, 333, 334, 335, 336, 337, 338, 14, 339, 340, 53, 341, 342, 343, 344, 54, 55, 140, 345, 346, 347, 348, 349, 350, 351, 352, 353, 354, 355, 356, 357, 358, 359, 360, 361, 362, 363, 364, 365, 137, 138, 139, 366, 367, 368, 369, 370, 371, 372, 373, 374, 375, 376, 377, 378, 379, 380, 381, 457, 458, 459, 798, 799, 800, 801, 802, 803, 804, 805, 806, 807, 863, 864, 865, 866, 867, 868, 843, 844, 845, 846, 847, 848, 853, 854, 855, 856, 857, 858, 859, 860, 861, 862] (by decide +kernel) (by decide +kernel)
set_option maxRecDepth 20000 in
theorem gL_law_X9_behind : GoodIn wsL_law (wsV RL 50 RX9 yX9_behind wsX9_behind) := goodIn_app (goodIn_of _ (by decide +kernel)) ggL_law_X9_behind
set_option maxRecDepth 20000 in
theorem ggL_law_X10_behind : GoodIn wsL_law wsX10_behind := goodIn_r _ [463, 386, 106, 146, 147, 148, 5, 149, 150, 151, 152, 153, 390, 391, 392, 393, 387, 394, 395, 396, 397, 118, 108, 107, 186, 398, 399, 283, 284, 285, 286, 263, 113, 287, 288, 289, 290, 291, 292, 293, 294, 115, 116, 117, 295, 296, 297, 298, 299, 300, 301, 302, 303, 114, 304, 305, 306, 307, 308, 309, 310, 311, 312, 313, 314, 315, 316, 317, 400, 401, 402, 403, 388, 404, 405, 389, 406, 407, 408, 409, 410, 411, 412, 413, 414, 415, 416, 417, 418, 419, 420, 421, 422, 423, 424, 425, 426, 427, 428, 429, 430, 431, 432, 433, 434, 435, 436, 437, 438, 439, 440, 441, 442, 443, 444, 445, 446, 447, 448, 449, 450, 451, 452, 808, 809, 810, 811, 812, 813, 814, 815, 816, 817, 818, 819, 820, 821, 822, 823, 824, 825, 826, 827, 828, 829, 830, 831, 832, 833, 834, 835, 836, 837, 838, 839, 840, 841, 842] (by decide +kernel) (by decide +kernel)
set_option maxRecDepth 20000 in
theorem gL_law_X10_behind : GoodIn wsL_law (wsV RL 53 RX10 yX10_behind wsX10_behind) := goodIn_app (goodIn_of _ (by decide +kernel)) ggL_law_X10_behind
set_option maxRecDepth 20000 in
theorem ggL_law_X9_parish : GoodIn wsL_law wsX9_parish := goodIn_r _ [467, 31, 134, 135, 2, 136, 322, 323, 324, 325, 27, 15, 279, 26, 280, 281, 72, 73, 226, 326, 30, 327, 328, 78, 329, 330, 331, 332, 333, 334, 335, 336, 337, 338, 14, 339, 340, 53, 341, 342, 343, 344, 54, 55, 140, 345, 346, 347, 348, 349, 350, 351, 352, 353, 354, 355, 356, 357, 358, 359, 360, 361, 362, 363, 364, 365, 137, 138, 139, 366, 367, 368, 369, 370, 371, 372, 373, 374, 375, 376, 377, 378, 379, 380, 381, 468, 469, 470, 471, 472, 473, 798, 799, 800, 801, 802, 803, 804, 805, 806, 807, 863, 864, 865, 866, 867, 868, 843, 844, 845, 846, 847, 848, 853, 854, 855, 856, 857, 858, 859, 860, 861, 862] (by decide +kernel) (by decide +kernel)
set_option maxRecDepth 20000 in
theorem gL_law_X9_parish : GoodIn wsL_law (wsV RL 54 RX9 yX9_parish wsX9_parish) := goodIn_app (goodIn_of _ (by decide +kernel)) ggL_law_X9_parish
set_option maxRecDepth 20000 in
theorem ggL_law_X10_parish : GoodIn wsL_law wsX10_parish := goodIn_r _ [477, 478, 151, 152, 5, 153, 390, 391, 392, 393, 387, 394, 395, 396, 397, 118, 106, 108, 107, 146, 186, 398, 399, 283, 284, 285, 286, 263, 113, 287, 288, 289, 290, 291, 292, 293, 294, 115, 116, 117, 295, 296, 297, 298, 299, 300, 301, 302, 303, 114, 304, 305, 306, 307, 308, 309, 310, 311, 312, 313, 314, 315, 316, 317, 400, 401, 402, 403, 388, 404, 405, 389, 406, 407, 408, 409, 410, 411, 412, 413, 414, 415, 416, 417, 418, 419, 420, 421, 422, 423, 424, 425, 426, 427, 428, 429, 430, 431, 432, 433, 434, 435, 436, 437, 438, 439, 440, 441, 442, 443, 444, 445, 446, 447, 448, 479, 480, 481, 482, 483, 484, 485, 486, 487, 488, 489, 490, 449, 450, 451, 452, 808, 809, 810, 811, 812, 813, 814, 815, 816, 817, 818, 819, 820, 821, 822, 823, 824, 825, 826, 827, 828, 829, 830, 831, 832, 833, 834, 835, 836, 837, 838, 839, 840, 841, 842] (by decide +kernel) (by decide +kernel)
set_option maxRecDepth 20000 in
theorem gL_law_X10_parish : GoodIn wsL_law (wsV RL 57 RX10 yX10_parish wsX10_parish) := goodIn_app (goodIn_of _ (by decide +kernel)) ggL_law_X10_parish
set_option maxRecDepth 20000 in
theorem ggL_law_X9_first : GoodIn wsL_law wsX9_first := goodIn_r _ [494, 31, 134, 135, 2, 136, 322, 323, 324, 325, 27, 15, 279, 26, 280, 281, 72, 73, 226, 326, 30, 327, 328, 78, 329, 330, 331, 332, 333, 334, 335, 336, 337, 338, 14, 339, 340, 53, 341, 342, 343, 344, 54, 55, 140, 345, 346, 347, 348, 349, 350, 351, 352, 353, 354, 355, 356, 357, 358, 359, 360, 361, 362, 363, 364, 365, 137, 138, 139, 366, 367, 368, 369, 370, 371, 372, 373, 374, 375, 376, 377, 378, 379, 380, 381, 798, 799, 800, 801, 802, 803, 804, 805, 806, 807, 863, 864, 865, 866, 867, 868, 853, 854, 855, 856, 857, 858, 859, 860, 861, 862, 843, 844, 845, 846, 847, 848] (by decide +kernel) (by decide +kernel)
set_option maxRecDepth 20000 in
theorem gL_law_X9_first : GoodIn wsL_law (wsV RL 58 RX9 yX9_first wsX9_first) := goodIn_app (goodIn_of _ (by decide +kernel)) ggL_law_X9_first
set_option maxRecDepth 20000 in
theorem ggL_law_X10_first : GoodIn wsL_law wsX10_first := goodIn_r _ [498, 404, 405, 151, 152, 5, 153, 390, 391, 392, 393, 387, 394, 395, 396, 397, 118, 106, 108, 107, 146, 186, 398, 399, 283, 284, 285, 286, 263, 113, 287, 288, 289, 290, 291, 292, 293, 294, 115, 116, 117, 295, 296, 297, 298, 299, 300, 301, 302, 303, 114, 304, 305, 306, 307, 308, 309, 310, 311, 312, 313, 314, 315, 316, 317, 400, 401, 402, 403, 388, 389, 406, 407, 408, 409, 410, 411, 412, 413, 414, 415, 416, 417, 418, 419, 420, 421, 422, 423, 424, 425, 426, 427, 428, 429, 430, 431, 432, 433, 434, 435, 436, 437, 438, 439, 440, 441, 442, 443, 444, 445, 446, 447, 448, 449, 450, 451, 452, 808, 809, 810, 811, 812, 813, 814, 815, 816, 817, 818, 819, 820, 821, 822, 823, 824, 825, 826, 827, 828, 829, 830, 831, 832, 833, 834, 835, 836, 837, 838, 839, 840, 841, 842] (by decide +kernel) (by decide +kernel)
set_option maxRecDepth 20000 in
theorem gL_law_X10_first : GoodIn wsL_law (wsV RL 61 RX10 yX10_first wsX10_first) := goodIn_app (goodIn_of _ (by decide +kernel)) ggL_law_X10_first
set_option maxRecDepth 20000 in
theorem ggL_law_X9_done : GoodIn wsL_law wsX9_done := goodIn_r _ [502, 27, 15, 31, 322, 323, 324, 2, 325, 279, 26, 280, 281, 72, 73, 226, 326, 30, 327, 328, 78, 329, 330, 331, 332, 333, 334, 335, 336, 337, 338, 14, 339, 340, 53, 341, 342, 343, 344, 54, 55, 140, 345, 346, 347, 348, 349, 350, 351, 352, 353, 354, 355, 356, 357, 358, 359, 360, 361, 362, 363, 364, 365, 137, 138, 139, 366, 367, 368, 369, 370, 371, 372, 373, 374, 375, 376, 377, 378, 379, 380, 381, 268, 269, 270, 243, 798, 799, 800, 801, 802, 803, 804, 805, 806, 807, 853, 854, 855, 856, 857, 858, 859, 860, 861, 862, 863, 864, 865, 866, 867, 868, 843, 844, 845, 846, 847, 848] (by decide +kernel) (by decide +kernel)
set_option maxRecDepth 20000 in
theorem gL_law_X9_done : GoodIn wsL_law (wsV RL 62 RX9 yX9_done wsX9_done) := goodIn_app (goodIn_of _ (by decide +kernel)) ggL_law_X9_done
set_option maxRecDepth 20000 in
theorem ggL_law_X10_done : GoodIn wsL_law wsX10_done := goodIn_r _ [506, 263, 286, 390, 391, 392, 5, 393, 387, 394, 395, 396, 397, 118, 106, 108, 107, 146, 186, 398, 399, 283, 284, 285, 113, 287, 288, 289, 290, 291, 292, 293, 294, 115, 116, 117, 295, 296, 297, 298, 299, 151, 152, 153, 300, 301, 302, 303, 114, 304, 305, 306, 307, 308, 309, 310, 311, 312, 313, 314, 315, 316, 317, 400, 401, 402, 403, 388, 404, 405, 389, 406, 407, 408, 409, 410, 411, 412, 413, 414, 415, 416, 417, 418, 419, 420, 421, 422, 423, 424, 425, 426, 427, 428, 429, 430, 431, 432, 433, 434, 435, 436, 437, 438, 439, 440, 441, 442, 443, 444, 445, 446, 447, 448, 449, 450, 451, 452, 808, 809, 810, 811, 812, 813, 814, 815, 816, 817, 818, 819, 820, 821, 822, 823, 824, 825, 826, 827, 828, 829, 830, 831, 832, 833, 834, 835, 836, 837, 838, 839, 840, 841, 842] (by decide +kernel) (by decide +kernel)
set_option maxRecDepth 20000 in
theorem gL_law_X10_done : GoodIn wsL_law (wsV RL 65 RX10 yX10_done wsX10_done) := goodIn_app (goodIn_of _ (by decide +kernel)) ggL_law_X10_done
set_option maxRecDepth 20000 in
theorem ggL_law_X9_due : GoodIn wsL_law wsX9_due := goodIn_r _ [510, 15, 131, 132, 2, 133, 511, 14, 512, 513, 54, 798, 799, 800, 801, 802, 803, 804, 805, 806, 807, 843, 844, 845, 846, 847, 848] (by decide +kernel) (by decide +kernel)
set_option maxRecDepth 20000 in
theorem gL_law_X9_due : GoodIn wsL_law (wsV RL 66 RX9 yX9_due wsX9_due) := goodIn_app (goodIn_of _ (by decide +kernel)) ggL_law_X9_due
set_option maxRecDepth 20000 in
theorem ggL_law_X10_due : GoodIn wsL_law wsX10_due := goodIn_r _ [517, 147, 148, 5, 149, 150, 151, 152, 153, 518, 519, 520, 521, 107, 808, 809, 810, 811, 812, 813, 814, 815, 816, 817, 818, 819, 820, 821, 822, 823, 824, 825, 826, 827, 828, 829, 830, 831, 832, 833, 834, 835, 836, 837, 838, 839, 840, 841, 842] (by decide +kernel) (by decide +kernel)
set_option maxRecDepth 20000 in
theorem gL_law_X10_due : GoodIn wsL_law (wsV RL 69 RX10 yX10_due wsX10_due) := goodIn_app (goodIn_of _ (by decide +kernel)) ggL_law_X10_due
set_option maxRecDepth 20000 in
theorem ggL_law_X9_even : GoodIn wsL_law wsX9_even := goodIn_r _ [525, 35, 15, 134, 135, 2, 136, 526, 34, 527, 528, 529, 82, 83, 511, 14, 512, 513, 54, 530, 531, 532, 533, 534, 535, 372, 536, 537, 538, 539, 540, 206, 207, 208, 209, 210, 211, 541, 542, 543, 798, 799, 800, 801, 802, 803, 804, 805, 806, 807, 869, 870, 871, 843, 844, 845, 846, 847, 848] (by decide +kernel) (by decide +kernel)
set_option maxRecDepth 20000 in
theorem gL_law_X9_even : GoodIn wsL_law (wsV RL 70 RX9 yX9_even wsX9_even) := goodIn_app (goodIn_of _ (by decide +kernel)) ggL_law_X9_even
set_option maxRecDepth 20000 in
theorem ggL_law_X10_even : GoodIn wsL_law wsX10_even := goodIn_r _ [547, 119, 120, 151, 152, 5, 153, 518, 519, 520, 521, 107, 548, 549, 550, 551, 410, 411, 412, 552, 553, 554, 555, 216, 217, 218, 808, 809, 810, 811, 812, 813, 814, 815, 816, 817, 818, 819, 820, 821, 822, 823, 824, 825, 826, 827, 828, 829, 830, 831, 832, 833, 834, 835, 836, 837, 838, 839, 840, 841, 842] (by decide +kernel) (by decide +kernel)
set_option maxRecDepth 20000 in
theorem gL_law_X10_even : GoodIn wsL_law (wsV RL 73 RX10 yX10_even wsX10_even) := goodIn_app (goodIn_of _ (by decide +kernel)) ggL_law_X10_even
set_option maxRecDepth 20000 in
theorem ggL_law_X9_orders : GoodIn wsL_law wsX9_orders := goodIn_r _ [559, 39, 19, 134, 135, 2, 136, 560, 38, 561, 562, 87, 563, 564, 565, 566, 567, 568, 569, 570, 571, 572, 573, 574, 575, 576, 798, 799, 800, 801, 802, 803, 804, 805, 806, 807, 872, 849] (by decide +kernel) (by decide +kernel)
set_option maxRecDepth 20000 in
theorem gL_law_X9_orders : GoodIn wsL_law (wsV RL 74 RX9 yX9_orders wsX9_orders) := goodIn_app (goodIn_of _ (by decide +kernel)) ggL_law_X9_orders
set_option maxRecDepth 20000 in
theorem ggL_law_X10_orders : GoodIn wsL_law wsX10_orders := goodIn_r _ [580, 121, 151, 152, 5, 153, 410, 411, 412, 581, 582, 583, 584, 109, 585, 586, 587, 588, 808, 809, 810, 811, 812, 813, 814, 815, 816, 817, 818, 819, 820, 821, 822, 823, 824, 825, 826, 827, 828, 829, 830, 831, 832, 833, 834, 835, 836, 837, 838, 839, 840, 841, 842] (by decide +kernel) (by decide +kernel)
set_option maxRecDepth 20000 in
theorem gL_law_X10_orders : GoodIn wsL_law (wsV RL 77 RX10 yX10_orders wsX10_orders) := goodIn_app (goodIn_of _ (by decide +kernel)) ggL_law_X10_orders
set_option maxRecDepth 20000 in
theorem ggL_law_X9_ring : GoodIn wsL_law wsX9_ring := goodIn_r _ [592, 134, 135, 2, 136, 593, 594, 595] (by decide +kernel) (by decide +kernel)
set_option maxRecDepth 20000 in
theorem gL_law_X9_ring : GoodIn wsL_law (wsV RL 78 RX9 yX9_ring wsX9_ring) := goodIn_app (goodIn_of _ (by decide +kernel)) ggL_law_X9_ring
set_option maxRecDepth 20000 in
theorem ggL_law_X10_ring : GoodIn wsL_law wsX10_ring := goodIn_r _ [599, 145, 600, 151, 152, 5, 153] (by decide +kernel) (by decide +kernel)
set_option maxRecDepth 20000 in
theorem gL_law_X10_ring : GoodIn wsL_law (wsV RL 81 RX10 yX10_ring wsX10_ring) := goodIn_app (goodIn_of _ (by decide +kernel)) ggL_law_X10_ring
set_option maxRecDepth 20000 in
theorem ggL_law_X9_count : GoodIn wsL_law wsX9_count := goodIn_r _ [604, 23, 134, 135, 2, 136, 605, 22, 606, 607, 608, 63, 64, 798, 799, 800, 801, 802, 803, 804, 805, 806, 807, 850, 851, 852] (by decide +kernel) (by decide +kernel)
set_option maxRecDepth 20000 in
theorem gL_law_X9_count : GoodIn wsL_law (wsV RL 82 RX9 yX9_count wsX9_count) := goodIn_app (goodIn_of _ (by decide +kernel)) ggL_law_X9_count
set_option maxRecDepth 20000 in
theorem ggL_law_X10_count : GoodIn wsL_law wsX10_count := goodIn_r _ [612, 613, 614, 615, 110, 111, 151, 152, 5, 153, 808, 809, 810, 811, 812, 813, 814, 815, 816, 817, 818, 819, 820, 821, 822, 823, 824, 825, 826, 827, 828, 829, 830, 831, 832, 833, 834, 835, 836, 837, 838, 839, 840, 841, 842] (by decide +kernel) (by decide +kernel)
set_option maxRecDepth 20000 in
theorem gL_law_X10_count : GoodIn wsL_law (wsV RL 85 RX10 yX10_count wsX10_count) := goodIn_app (goodIn_of _ (by decide +kernel)) ggL_law_X10_count
set_option maxRecDepth 20000 in
theorem ggL_law_X9_forget : GoodIn wsL_law wsX9_forget := goodIn_r _ [619, 23, 798, 799, 800, 801, 802, 803, 804, 805, 806, 807, 850, 851, 852] (by decide +kernel) (by decide +kernel)
set_option maxRecDepth 20000 in
theorem gL_law_X9_forget : GoodIn wsL_law (wsV RL 86 RX9 yX9_forget wsX9_forget) := goodIn_app (goodIn_of _ (by decide +kernel)) ggL_law_X9_forget
set_option maxRecDepth 20000 in
theorem ggL_law_X10_forget : GoodIn wsL_law wsX10_forget := goodIn_r _ [623, 615, 808, 809, 810, 811, 812, 813, 814, 815, 816, 817, 818, 819, 820, 821, 822, 823, 824, 825, 826, 827, 828, 829, 830, 831, 832, 833, 834, 835, 836, 837, 838, 839, 840, 841, 842] (by decide +kernel) (by decide +kernel)
set_option maxRecDepth 20000 in
theorem gL_law_X10_forget : GoodIn wsL_law (wsV RL 89 RX10 yX10_forget wsX10_forget) := goodIn_app (goodIn_of _ (by decide +kernel)) ggL_law_X10_forget
set_option maxRecDepth 20000 in
theorem ggL_law_X9_ever : GoodIn wsL_law wsX9_ever := goodIn_r _ [627, 43, 23, 628, 42, 629, 630, 631, 91, 632, 22, 633, 634, 608, 63, 64, 635, 206, 207, 208, 209, 210, 211, 134, 135, 2, 136, 798, 799, 800, 801, 802, 803, 804, 805, 806, 807, 873, 874, 875, 876, 877, 850, 851, 852] (by decide +kernel) (by decide +kernel)
set_option maxRecDepth 20000 in
theorem gL_law_X9_ever : GoodIn wsL_law (wsV RL 90 RX9 yX9_ever wsX9_ever) := goodIn_app (goodIn_of _ (by decide +kernel)) ggL_law_X9_ever
set_option maxRecDepth 20000 in
theorem ggL_law_X10_ever : GoodIn wsL_law wsX10_ever := goodIn_r _ [639, 640, 122, 641, 642, 643, 5, 644, 645, 646, 647, 648, 615, 110, 111, 216, 217, 218, 151, 152, 153, 808, 809, 810, 811, 812, 813, 814, 815, 816, 817, 818, 819, 820, 821, 822, 823, 824, 825, 826, 827, 828, 829, 830, 831, 832, 833, 834, 835, 836, 837, 838, 839, 840, 841, 842] (by decide +kernel) (by decide +kernel)
set_option maxRecDepth 20000 in
theorem gL_law_X10_ever : GoodIn wsL_law (wsV RL 93 RX10 yX10_ever wsX10_ever) := goodIn_app (goodIn_of _ (by decide +kernel)) ggL_law_X10_ever
set_option maxRecDepth 20000 in
theorem ggL_law_X9_ask : GoodIn wsL_law wsX9_ask := goodIn_r _ [652, 43, 23, 134, 135, 2, 136, 628, 42, 629, 630, 631, 91, 632, 22, 633, 634, 608, 63, 64, 635, 206, 207, 208, 209, 210, 211, 653, 654, 655, 656, 657, 658, 659, 660, 661, 92, 662, 535, 372, 536, 663, 798, 799, 800, 801, 802, 803, 804, 805, 806, 807, 873, 874, 875, 876, 877, 850, 851, 852] (by decide +kernel) (by decide +kernel)
set_option maxRecDepth 20000 in
theorem gL_law_X9_ask : GoodIn wsL_law (wsV RL 94 RX9 yX9_ask wsX9_ask) := goodIn_app (goodIn_of _ (by decide +kernel)) ggL_law_X9_ask
set_option maxRecDepth 20000 in
theorem ggL_law_X10_ask : GoodIn wsL_law wsX10_ask := goodIn_r _ [667, 640, 151, 152, 5, 153, 641, 642, 643, 644, 122, 645, 646, 647, 648, 615, 110, 111, 216, 217, 218, 668, 669, 670, 671, 123, 434, 435, 436, 808, 809, 810, 811, 812, 813, 814, 815, 816, 817, 818, 819, 820, 821, 822, 823, 824, 825, 826, 827, 828, 829, 830, 831, 832, 833, 834, 835, 836, 837, 838, 839, 840, 841, 842] (by decide +kernel) (by decide +kernel)
set_option maxRecDepth 20000 in
theorem gL_law_X10_ask : GoodIn wsL_law (wsV RL 97 RX10 yX10_ask wsX10_ask) := goodIn_app (goodIn_of _ (by decide +kernel)) ggL_law_X10_ask
set_option maxRecDepth 20000 in
theorem ggL_law_X9_crumbs : GoodIn wsL_law wsX9_crumbs := goodIn_r _ [675, 676, 535, 372, 536, 677, 371, 373, 134, 135, 2, 136, 678, 679, 680, 681, 682, 683] (by decide +kernel) (by decide +kernel)
set_option maxRecDepth 20000 in
theorem gL_law_X9_crumbs : GoodIn wsL_law (wsV RL 98 RX9 yX9_crumbs wsX9_crumbs) := goodIn_app (goodIn_of _ (by decide +kernel)) ggL_law_X9_crumbs
set_option maxRecDepth 20000 in
theorem ggL_law_X10_crumbs : GoodIn wsL_law wsX10_crumbs := goodIn_r _ [687, 145, 151, 152, 5, 153, 688, 689, 690, 691, 692, 693] (by decide +kernel) (by decide +kernel)
set_option maxRecDepth 20000 in
theorem gL_law_X10_crumbs : GoodIn wsL_law (wsV RL 101 RX10 yX10_crumbs wsX10_crumbs) := goodIn_app (goodIn_of _ (by decide +kernel)) ggL_law_X10_crumbs
set_option maxRecDepth 20000 in
theorem ggL_law_X9_lots : GoodIn wsL_law wsX9_lots := goodIn_r _ [697, 698, 699, 134, 135, 2, 136, 700, 701, 702, 703, 704, 705, 706] (by decide +kernel) (by decide +kernel)
set_option maxRecDepth 20000 in
theorem gL_law_X9_lots : GoodIn wsL_law (wsV RL 102 RX9 yX9_lots wsX9_lots) := goodIn_app (goodIn_of _ (by decide +kernel)) ggL_law_X9_lots
set_option maxRecDepth 20000 in
theorem ggL_law_X10_lots : GoodIn wsL_law wsX10_lots := goodIn_r _ [710, 711, 712, 151, 152, 5, 153, 713, 714, 715, 716, 717, 718, 719, 720, 721] (by decide +kernel) (by decide +kernel)
set_option maxRecDepth 20000 in
theorem gL_law_X10_lots : GoodIn wsL_law (wsV RL 106 RX10 yX10_lots wsX10_lots) := goodIn_app (goodIn_of _ (by decide +kernel)) ggL_law_X10_lots
set_option maxRecDepth 20000 in
theorem ggL_law_X9_century : GoodIn wsL_law wsX9_century := goodIn_r _ [725, 31, 15, 726, 134, 135, 2, 136, 334, 30, 335, 336, 78, 329, 330, 337, 331, 332, 338, 14, 339, 340, 53, 341, 342, 343, 344, 54, 55, 140, 345, 346, 727, 728, 729, 730, 348, 349, 350, 351, 352, 353, 354, 355, 356, 357, 358, 359, 360, 361, 362, 363, 364, 365, 137, 138, 139, 366, 367, 368, 369, 370, 371, 372, 373, 374, 375, 376, 377, 378, 379, 380, 381, 798, 799, 800, 801, 802, 803, 804, 805, 806, 807, 863, 864, 865, 866, 867, 868, 843, 844, 845, 846, 847, 848] (by decide +kernel) (by decide +kernel)
set_option maxRecDepth 20000 in
theorem gL_law_X9_century : GoodIn wsL_law (wsV RL 107 RX9 yX9_century wsX9_century) := goodIn_app (goodIn_of _ (by decide +kernel)) ggL_law_X9_century
set_option maxRecDepth 20000 in
theorem ggL_law_X10_century : GoodIn wsL_law wsX10_century := goodIn_r _ [734, 735, 600, 386, 389, 736, 737, 738, 106, 146, 151, 152, 5, 153, 394, 395, 396, 397, 118, 108, 107, 186, 398, 739, 740, 741, 406, 407, 408, 409, 410, 411, 412, 413, 414, 415, 416, 422, 423, 424, 425, 421, 426, 427, 428, 429, 430, 431, 432, 433, 434, 435, 436, 437, 438, 439, 440, 441, 442, 443, 444, 445, 446, 447, 448, 449, 450, 451, 452, 808, 809, 810, 811, 812, 813, 814, 815, 816, 817, 818, 819, 820, 821, 822, 823, 824, 825, 826, 827, 828, 829, 830, 831, 832, 833, 834, 835, 836, 837, 838, 839, 840, 841, 842] (by decide +kernel) (by decide +kernel)
set_option maxRecDepth 20000 in
theorem gL_law_X10_century : GoodIn wsL_law (wsV RL 110 RX10 yX10_century wsX10_century) := goodIn_app (goodIn_of _ (by decide +kernel)) ggL_law_X10_century
set_option maxRecDepth 20000 in
theorem ggL_law_X9_image : GoodIn wsL_law wsX9_image := goodIn_r _ [745, 47, 48, 15, 19, 23, 134, 135, 2, 136, 338, 14, 339, 340, 53, 341, 342, 343, 344, 54, 55, 140, 345, 346, 746, 18, 747, 748, 59, 749, 750, 22, 751, 752, 63, 753, 64, 608, 798, 799, 800, 801, 802, 803, 804, 805, 806, 807, 878, 879, 880, 881, 843, 844, 845, 846, 847, 848, 849, 850, 851, 852] (by decide +kernel) (by decide +kernel)
set_option maxRecDepth 20000 in
theorem gL_law_X9_image : GoodIn wsL_law (wsV RL 111 RX9 yX9_image wsX9_image) := goodIn_app (goodIn_of _ (by decide +kernel)) ggL_law_X9_image
set_option maxRecDepth 20000 in
theorem ggL_law_X10_image : GoodIn wsL_law wsX10_image := goodIn_r _ [757, 758, 759, 126, 151, 152, 5, 153, 760, 761, 762, 763, 146, 186, 398, 615, 106, 107, 108, 109, 110, 111, 764, 765, 766, 767, 124, 768, 769, 770, 771, 808, 809, 810, 811, 812, 813, 814, 815, 816, 817, 818, 819, 820, 821, 822, 823, 824, 825, 826, 827, 828, 829, 830, 831, 832, 833, 834, 835, 836, 837, 838, 839, 840, 841, 842] (by decide +kernel) (by decide +kernel)
set_option maxRecDepth 20000 in
theorem gL_law_X10_image : GoodIn wsL_law (wsV RL 114 RX10 yX10_image wsX10_image) := goodIn_app (goodIn_of _ (by decide +kernel)) ggL_law_X10_image
set_option maxRecDepth 20000 in
theorem ggL_law_X9_restore : GoodIn wsL_law wsX9_restore := goodIn_r _ [775, 47, 48, 15, 19, 23, 134, 135, 2, 136, 338, 14, 339, 340, 53, 341, 342, 343, 344, 54, 55, 140, 345, 346, 746, 18, 747, 748, 59, 749, 750, 22, 751, 752, 63, 753, 64, 608, 798, 799, 800, 801, 802, 803, 804, 805, 806, 807, 878, 879, 880, 881, 843, 844, 845, 846, 847, 848, 849, 850, 851, 852] (by decide +kernel) (by decide +kernel)
set_option maxRecDepth 20000 in
theorem gL_law_X9_restore : GoodIn wsL_law (wsV RL 115 RX9 yX9_restore wsX9_restore) := goodIn_app (goodIn_of _ (by decide +kernel)) ggL_law_X9_restore
set_option maxRecDepth 20000 in
theorem ggL_law_X10_restore : GoodIn wsL_law wsX10_restore := goodIn_r _ [779, 126, 758, 759, 151, 152, 5, 153, 760, 761, 762, 763, 146, 186, 398, 615, 106, 107, 108, 109, 110, 111, 764, 765, 766, 767, 124, 768, 769, 770, 771, 808, 809, 810, 811, 812, 813, 814, 815, 816, 817, 818, 819, 820, 821, 822, 823, 824, 825, 826, 827, 828, 829, 830, 831, 832, 833, 834, 835, 836, 837, 838, 839, 840, 841, 842] (by decide +kernel) (by decide +kernel)
set_option maxRecDepth 20000 in
theorem gL_law_X10_restore : GoodIn wsL_law (wsV RL 118 RX10 yX10_restore wsX10_restore) := goodIn_app (goodIn_of _ (by decide +kernel)) ggL_law_X10_restore
set_option maxRecDepth 20000 in
theorem ggL_law_X9_told : GoodIn wsL_law wsX9_told := goodIn_r _ [783, 15, 19, 134, 135, 2, 136, 784, 785, 786, 787, 27, 23, 175, 14, 176, 177, 55, 798, 799, 800, 801, 802, 803, 804, 805, 806, 807, 843, 844, 845, 846, 847, 848, 849, 853, 854, 855, 856, 857, 858, 859, 860, 861, 862, 850, 851, 852] (by decide +kernel) (by decide +kernel)
set_option maxRecDepth 20000 in
theorem gL_law_X9_told : GoodIn wsL_law (wsV RL 119 RX9 yX9_told wsX9_told) := goodIn_app (goodIn_of _ (by decide +kernel)) ggL_law_X9_told
set_option maxRecDepth 20000 in
theorem ggL_law_X10_told : GoodIn wsL_law wsX10_told := goodIn_r _ [791, 792, 793, 107, 794, 795, 106, 796, 797, 109, 263, 146, 186, 398, 615, 151, 152, 5, 153, 191, 192, 193, 194, 108, 808, 809, 810, 811, 812, 813, 814, 815, 816, 817, 818, 819, 820, 821, 822, 823, 824, 825, 826, 827, 828, 829, 830, 831, 832, 833, 834, 835, 836, 837, 838, 839, 840, 841, 842] (by decide +kernel) (by decide +kernel)
set_option maxRecDepth 20000 in
theorem gL_law_X10_told : GoodIn wsL_law (wsV RL 122 RX10 yX10_told wsX10_told) := goodIn_app (goodIn_of _ (by decide +kernel)) ggL_law_X10_told
theorem dL_law_0 : decode cL_law 0 = .ok (.new 7, 3) := by decide +kernel
theorem dL_law_3 : decode cL_law 3 = .ok (.dup, 1) := by decide +kernel
theorem dL_law_4 : decode cL_law 4 = .ok (.invokespecial 9, 3) := by decide +kernel
theorem dL_law_7 : decode cL_law 7 = .ok (.astore_n 1, 1) := by decide +kernel
theorem dL_law_8 : decode cL_law 8 = .ok (.new 10, 3) := by decide +kernel
theorem dL_law_11 : decode cL_law 11 = .ok (.dup, 1) := by decide +kernel
theorem dL_law_12 : decode cL_law 12 = .ok (.invokespecial 12, 3) := by decide +kernel
theorem dL_law_15 : decode cL_law 15 = .ok (.astore_n 2, 1) := by decide +kernel
theorem dL_law_16 : decode cL_law 16 = .ok (.iconst 0, 1) := by decide +kernel
theorem dL_law_17 : decode cL_law 17 = .ok (.istore_n 3, 1) := by decide +kernel
theorem dL_law_18 : decode cL_law 18 = .ok (.iload_n 3, 1) := by decide +kernel
theorem dL_law_19 : decode cL_law 19 = .ok (.aload_n 0, 1) := by decide +kernel
theorem dL_law_20 : decode cL_law 20 = .ok (.arraylength, 1) := by decide +kernel
theorem dL_law_21 : decode cL_law 21 = .ok (.iconst 5, 1) := by decide +kernel
theorem dL_law_22 : decode cL_law 22 = .ok (.isub, 1) := by decide +kernel
theorem dL_law_23 : decode cL_law 23 = .ok (.if_icmp .gt 890, 3) := by decide +kernel
theorem dL_law_26 : decode cL_law 26 = .ok (.aload_n 0, 1) := by decide +kernel
theorem dL_law_27 : decode cL_law 27 = .ok (.iload_n 3, 1) := by decide +kernel
theorem dL_law_28 : decode cL_law 28 = .ok (.iaload, 1) := by decide +kernel
theorem dL_law_29 : decode cL_law 29 = .ok (.bipush 31, 2) := by decide +kernel
theorem dL_law_31 : decode cL_law 31 = .ok (.iand, 1) := by decide +kernel
theorem dL_law_32 : decode cL_law 32 = .ok (.tableswitch 875 0 25 #[120, 163, 206, 239, 298, 321, 334, 347, 370, 403, 426, 449, 462, 485, 508, 531, 574, 607, 620, 643, 666, 709, 763, 806, 829, 852], 120) := by decide +kernel
theorem dL_law_152 : decode cL_law 152 = .ok (.aload_n 1, 1) := by decide +kernel
theorem dL_law_153 : decode cL_law 153 = .ok (.aload_n 0, 1) := by decide +kernel
theorem dL_law_154 : decode cL_law 154 = .ok (.iload_n 3, 1) := by decide +kernel
theorem dL_law_155 : decode cL_law 155 = .ok (.iconst 1, 1) := by decide +kernel
theorem dL_law_156 : decode cL_law 156 = .ok (.iadd, 1) := by decide +kernel
theorem dL_law_157 : decode cL_law 157 = .ok (.iaload, 1) := by decide +kernel
theorem dL_law_158 : decode cL_law 158 = .ok (.aload_n 0, 1) := by decide +kernel
theorem dL_law_159 : decode cL_law 159 = .ok (.iload_n 3, 1) := by decide +kernel
theorem dL_law_160 : decode cL_law 160 = .ok (.iconst 2, 1) := by decide +kernel
theorem dL_law_161 : decode cL_law 161 = .ok (.iadd, 1) := by decide +kernel
theorem dL_law_162 : decode cL_law 162 = .ok (.iaload, 1) := by decide +kernel
theorem dL_law_163 : decode cL_law 163 = .ok (.aload_n 0, 1) := by decide +kernel
theorem dL_law_164 : decode cL_law 164 = .ok (.iload_n 3, 1) := by decide +kernel
theorem dL_law_165 : decode cL_law 165 = .ok (.iconst 3, 1) := by decide +kernel
theorem dL_law_166 : decode cL_law 166 = .ok (.iadd, 1) := by decide +kernel
theorem dL_law_167 : decode cL_law 167 = .ok (.iaload, 1) := by decide +kernel
theorem dL_law_168 : decode cL_law 168 = .ok (.invokevirtual 13, 3) := by decide +kernel
theorem dL_law_171 : decode cL_law 171 = .ok (.aload_n 2, 1) := by decide +kernel
theorem dL_law_172 : decode cL_law 172 = .ok (.aload_n 0, 1) := by decide +kernel
theorem dL_law_173 : decode cL_law 173 = .ok (.iload_n 3, 1) := by decide +kernel
theorem dL_law_174 : decode cL_law 174 = .ok (.iconst 1, 1) := by decide +kernel
theorem dL_law_175 : decode cL_law 175 = .ok (.iadd, 1) := by decide +kernel
theorem dL_law_176 : decode cL_law 176 = .ok (.iaload, 1) := by decide +kernel
theorem dL_law_177 : decode cL_law 177 = .ok (.aload_n 0, 1) := by decide +kernel
theorem dL_law_178 : decode cL_law 178 = .ok (.iload_n 3, 1) := by decide +kernel
theorem dL_law_179 : decode cL_law 179 = .ok (.iconst 2, 1) := by decide +kernel
theorem dL_law_180 : decode cL_law 180 = .ok (.iadd, 1) := by decide +kernel
theorem dL_law_181 : decode cL_law 181 = .ok (.iaload, 1) := by decide +kernel
theorem dL_law_182 : decode cL_law 182 = .ok (.aload_n 0, 1) := by decide +kernel
theorem dL_law_183 : decode cL_law 183 = .ok (.iload_n 3, 1) := by decide +kernel
theorem dL_law_184 : decode cL_law 184 = .ok (.iconst 3, 1) := by decide +kernel
theorem dL_law_185 : decode cL_law 185 = .ok (.iadd, 1) := by decide +kernel
theorem dL_law_186 : decode cL_law 186 = .ok (.iaload, 1) := by decide +kernel
theorem dL_law_187 : decode cL_law 187 = .ok (.invokevirtual 17, 3) := by decide +kernel
theorem dL_law_190 : decode cL_law 190 = .ok (.if_icmp .eq 717, 3) := by decide +kernel
theorem dL_law_193 : decode cL_law 193 = .ok (.iconst 0, 1) := by decide +kernel
theorem dL_law_194 : decode cL_law 194 = .ok (.ireturn, 1) := by decide +kernel
theorem dL_law_195 : decode cL_law 195 = .ok (.aload_n 1, 1) := by decide +kernel
theorem dL_law_196 : decode cL_law 196 = .ok (.aload_n 0, 1) := by decide +kernel
theorem dL_law_197 : decode cL_law 197 = .ok (.iload_n 3, 1) := by decide +kernel
theorem dL_law_198 : decode cL_law 198 = .ok (.iconst 1, 1) := by decide +kernel
theorem dL_law_199 : decode cL_law 199 = .ok (.iadd, 1) := by decide +kernel
theorem dL_law_200 : decode cL_law 200 = .ok (.iaload, 1) := by decide +kernel
theorem dL_law_201 : decode cL_law 201 = .ok (.aload_n 0, 1) := by decide +kernel
theorem dL_law_202 : decode cL_law 202 = .ok (.iload_n 3, 1) := by decide +kernel
theorem dL_law_203 : decode cL_law 203 = .ok (.iconst 2, 1) := by decide +kernel
theorem dL_law_204 : decode cL_law 204 = .ok (.iadd, 1) := by decide +kernel
theorem dL_law_205 : decode cL_law 205 = .ok (.iaload, 1) := by decide +kernel
theorem dL_law_206 : decode cL_law 206 = .ok (.aload_n 0, 1) := by decide +kernel
theorem dL_law_207 : decode cL_law 207 = .ok (.iload_n 3, 1) := by decide +kernel
theorem dL_law_208 : decode cL_law 208 = .ok (.iconst 3, 1) := by decide +kernel
theorem dL_law_209 : decode cL_law 209 = .ok (.iadd, 1) := by decide +kernel
theorem dL_law_210 : decode cL_law 210 = .ok (.iaload, 1) := by decide +kernel
theorem dL_law_211 : decode cL_law 211 = .ok (.invokevirtual 18, 3) := by decide +kernel
theorem dL_law_214 : decode cL_law 214 = .ok (.aload_n 2, 1) := by decide +kernel
theorem dL_law_215 : decode cL_law 215 = .ok (.aload_n 0, 1) := by decide +kernel
theorem dL_law_216 : decode cL_law 216 = .ok (.iload_n 3, 1) := by decide +kernel
theorem dL_law_217 : decode cL_law 217 = .ok (.iconst 1, 1) := by decide +kernel
theorem dL_law_218 : decode cL_law 218 = .ok (.iadd, 1) := by decide +kernel
theorem dL_law_219 : decode cL_law 219 = .ok (.iaload, 1) := by decide +kernel
theorem dL_law_220 : decode cL_law 220 = .ok (.aload_n 0, 1) := by decide +kernel
theorem dL_law_221 : decode cL_law 221 = .ok (.iload_n 3, 1) := by decide +kernel
theorem dL_law_222 : decode cL_law 222 = .ok (.iconst 2, 1) := by decide +kernel
theorem dL_law_223 : decode cL_law 223 = .ok (.iadd, 1) := by decide +kernel
theorem dL_law_224 : decode cL_law 224 = .ok (.iaload, 1) := by decide +kernel
theorem dL_law_225 : decode cL_law 225 = .ok (.aload_n 0, 1) := by decide +kernel
theorem dL_law_226 : decode cL_law 226 = .ok (.iload_n 3, 1) := by decide +kernel
theorem dL_law_227 : decode cL_law 227 = .ok (.iconst 3, 1) := by decide +kernel
theorem dL_law_228 : decode cL_law 228 = .ok (.iadd, 1) := by decide +kernel
theorem dL_law_229 : decode cL_law 229 = .ok (.iaload, 1) := by decide +kernel
theorem dL_law_230 : decode cL_law 230 = .ok (.invokevirtual 21, 3) := by decide +kernel
theorem dL_law_233 : decode cL_law 233 = .ok (.if_icmp .eq 674, 3) := by decide +kernel
theorem dL_law_236 : decode cL_law 236 = .ok (.iconst 0, 1) := by decide +kernel
theorem dL_law_237 : decode cL_law 237 = .ok (.ireturn, 1) := by decide +kernel
theorem dL_law_238 : decode cL_law 238 = .ok (.aload_n 1, 1) := by decide +kernel
theorem dL_law_239 : decode cL_law 239 = .ok (.aload_n 0, 1) := by decide +kernel
theorem dL_law_240 : decode cL_law 240 = .ok (.iload_n 3, 1) := by decide +kernel
theorem dL_law_241 : decode cL_law 241 = .ok (.iconst 1, 1) := by decide +kernel
theorem dL_law_242 : decode cL_law 242 = .ok (.iadd, 1) := by decide +kernel
theorem dL_law_243 : decode cL_law 243 = .ok (.iaload, 1) := by decide +kernel
theorem dL_law_244 : decode cL_law 244 = .ok (.aload_n 0, 1) := by decide +kernel
theorem dL_law_245 : decode cL_law 245 = .ok (.iload_n 3, 1) := by decide +kernel
theorem dL_law_246 : decode cL_law 246 = .ok (.iconst 2, 1) := by decide +kernel
theorem dL_law_247 : decode cL_law 247 = .ok (.iadd, 1) := by decide +kernel
theorem dL_law_248 : decode cL_law 248 = .ok (.iaload, 1) := by decide +kernel
theorem dL_law_249 : decode cL_law 249 = .ok (.invokevirtual 22, 3) := by decide +kernel
theorem dL_law_252 : decode cL_law 252 = .ok (.aload_n 2, 1) := by decide +kernel
theorem dL_law_253 : decode cL_law 253 = .ok (.aload_n 0, 1) := by decide +kernel
theorem dL_law_254 : decode cL_law 254 = .ok (.iload_n 3, 1) := by decide +kernel
theorem dL_law_255 : decode cL_law 255 = .ok (.iconst 1, 1) := by decide +kernel
theorem dL_law_256 : decode cL_law 256 = .ok (.iadd, 1) := by decide +kernel
theorem dL_law_257 : decode cL_law 257 = .ok (.iaload, 1) := by decide +kernel
theorem dL_law_258 : decode cL_law 258 = .ok (.aload_n 0, 1) := by decide +kernel
theorem dL_law_259 : decode cL_law 259 = .ok (.iload_n 3, 1) := by decide +kernel
theorem dL_law_260 : decode cL_law 260 = .ok (.iconst 2, 1) := by decide +kernel
theorem dL_law_261 : decode cL_law 261 = .ok (.iadd, 1) := by decide +kernel
theorem dL_law_262 : decode cL_law 262 = .ok (.iaload, 1) := by decide +kernel
theorem dL_law_263 : decode cL_law 263 = .ok (.invokevirtual 26, 3) := by decide +kernel
theorem dL_law_266 : decode cL_law 266 = .ok (.if_icmp .eq 641, 3) := by decide +kernel
theorem dL_law_269 : decode cL_law 269 = .ok (.iconst 0, 1) := by decide +kernel
theorem dL_law_270 : decode cL_law 270 = .ok (.ireturn, 1) := by decide +kernel
theorem dL_law_271 : decode cL_law 271 = .ok (.aload_n 1, 1) := by decide +kernel
theorem dL_law_272 : decode cL_law 272 = .ok (.aload_n 0, 1) := by decide +kernel
theorem dL_law_273 : decode cL_law 273 = .ok (.iload_n 3, 1) := by decide +kernel
theorem dL_law_274 : decode cL_law 274 = .ok (.iconst 1, 1) := by decide +kernel
theorem dL_law_275 : decode cL_law 275 = .ok (.iadd, 1) := by decide +kernel
theorem dL_law_276 : decode cL_law 276 = .ok (.iaload, 1) := by decide +kernel
theorem dL_law_277 : decode cL_law 277 = .ok (.aload_n 0, 1) := by decide +kernel
theorem dL_law_278 : decode cL_law 278 = .ok (.iload_n 3, 1) := by decide +kernel
theorem dL_law_279 : decode cL_law 279 = .ok (.iconst 2, 1) := by decide +kernel
theorem dL_law_280 : decode cL_law 280 = .ok (.iadd, 1) := by decide +kernel
theorem dL_law_281 : decode cL_law 281 = .ok (.iaload, 1) := by decide +kernel
theorem dL_law_282 : decode cL_law 282 = .ok (.aload_n 0, 1) := by decide +kernel
theorem dL_law_283 : decode cL_law 283 = .ok (.iload_n 3, 1) := by decide +kernel
theorem dL_law_284 : decode cL_law 284 = .ok (.iconst 3, 1) := by decide +kernel
theorem dL_law_285 : decode cL_law 285 = .ok (.iadd, 1) := by decide +kernel
theorem dL_law_286 : decode cL_law 286 = .ok (.iaload, 1) := by decide +kernel
theorem dL_law_287 : decode cL_law 287 = .ok (.ifCond .eq 7, 3) := by decide +kernel
theorem dL_law_290 : decode cL_law 290 = .ok (.iconst 1, 1) := by decide +kernel
theorem dL_law_291 : decode cL_law 291 = .ok (.goto 4, 3) := by decide +kernel
theorem dL_law_294 : decode cL_law 294 = .ok (.iconst 0, 1) := by decide +kernel
theorem dL_law_295 : decode cL_law 295 = .ok (.invokevirtual 27, 3) := by decide +kernel
theorem dL_law_298 : decode cL_law 298 = .ok (.aload_n 2, 1) := by decide +kernel
theorem dL_law_299 : decode cL_law 299 = .ok (.aload_n 0, 1) := by decide +kernel
theorem dL_law_300 : decode cL_law 300 = .ok (.iload_n 3, 1) := by decide +kernel
theorem dL_law_301 : decode cL_law 301 = .ok (.iconst 1, 1) := by decide +kernel
theorem dL_law_302 : decode cL_law 302 = .ok (.iadd, 1) := by decide +kernel
theorem dL_law_303 : decode cL_law 303 = .ok (.iaload, 1) := by decide +kernel
theorem dL_law_304 : decode cL_law 304 = .ok (.aload_n 0, 1) := by decide +kernel
theorem dL_law_305 : decode cL_law 305 = .ok (.iload_n 3, 1) := by decide +kernel
theorem dL_law_306 : decode cL_law 306 = .ok (.iconst 2, 1) := by decide +kernel
theorem dL_law_307 : decode cL_law 307 = .ok (.iadd, 1) := by decide +kernel
theorem dL_law_308 : decode cL_law 308 = .ok (.iaload, 1) := by decide +kernel
theorem dL_law_309 : decode cL_law 309 = .ok (.aload_n 0, 1) := by decide +kernel
theorem dL_law_310 : decode cL_law 310 = .ok (.iload_n 3, 1) := by decide +kernel
theorem dL_law_311 : decode cL_law 311 = .ok (.iconst 3, 1) := by decide +kernel
theorem dL_law_312 : decode cL_law 312 = .ok (.iadd, 1) := by decide +kernel
theorem dL_law_313 : decode cL_law 313 = .ok (.iaload, 1) := by decide +kernel
theorem dL_law_314 : decode cL_law 314 = .ok (.ifCond .eq 7, 3) := by decide +kernel
theorem dL_law_317 : decode cL_law 317 = .ok (.iconst 1, 1) := by decide +kernel
theorem dL_law_318 : decode cL_law 318 = .ok (.goto 4, 3) := by decide +kernel
theorem dL_law_321 : decode cL_law 321 = .ok (.iconst 0, 1) := by decide +kernel
theorem dL_law_322 : decode cL_law 322 = .ok (.invokevirtual 31, 3) := by decide +kernel
theorem dL_law_325 : decode cL_law 325 = .ok (.if_icmp .eq 582, 3) := by decide +kernel
theorem dL_law_328 : decode cL_law 328 = .ok (.iconst 0, 1) := by decide +kernel
theorem dL_law_329 : decode cL_law 329 = .ok (.ireturn, 1) := by decide +kernel
theorem dL_law_330 : decode cL_law 330 = .ok (.aload_n 1, 1) := by decide +kernel
theorem dL_law_331 : decode cL_law 331 = .ok (.aload_n 0, 1) := by decide +kernel
theorem dL_law_332 : decode cL_law 332 = .ok (.iload_n 3, 1) := by decide +kernel
theorem dL_law_333 : decode cL_law 333 = .ok (.iconst 1, 1) := by decide +kernel
theorem dL_law_334 : decode cL_law 334 = .ok (.iadd, 1) := by decide +kernel
theorem dL_law_335 : decode cL_law 335 = .ok (.iaload, 1) := by decide +kernel
theorem dL_law_336 : decode cL_law 336 = .ok (.invokevirtual 32, 3) := by decide +kernel
theorem dL_law_339 : decode cL_law 339 = .ok (.aload_n 2, 1) := by decide +kernel
theorem dL_law_340 : decode cL_law 340 = .ok (.aload_n 0, 1) := by decide +kernel
theorem dL_law_341 : decode cL_law 341 = .ok (.iload_n 3, 1) := by decide +kernel
theorem dL_law_342 : decode cL_law 342 = .ok (.iconst 1, 1) := by decide +kernel
theorem dL_law_343 : decode cL_law 343 = .ok (.iadd, 1) := by decide +kernel
theorem dL_law_344 : decode cL_law 344 = .ok (.iaload, 1) := by decide +kernel
theorem dL_law_345 : decode cL_law 345 = .ok (.invokevirtual 36, 3) := by decide +kernel
theorem dL_law_348 : decode cL_law 348 = .ok (.if_icmp .eq 559, 3) := by decide +kernel
theorem dL_law_351 : decode cL_law 351 = .ok (.iconst 0, 1) := by decide +kernel
theorem dL_law_352 : decode cL_law 352 = .ok (.ireturn, 1) := by decide +kernel
theorem dL_law_353 : decode cL_law 353 = .ok (.aload_n 1, 1) := by decide +kernel
theorem dL_law_354 : decode cL_law 354 = .ok (.invokevirtual 37, 3) := by decide +kernel
theorem dL_law_357 : decode cL_law 357 = .ok (.aload_n 2, 1) := by decide +kernel
theorem dL_law_358 : decode cL_law 358 = .ok (.invokevirtual 41, 3) := by decide +kernel
theorem dL_law_361 : decode cL_law 361 = .ok (.if_icmp .eq 546, 3) := by decide +kernel
theorem dL_law_364 : decode cL_law 364 = .ok (.iconst 0, 1) := by decide +kernel
theorem dL_law_365 : decode cL_law 365 = .ok (.ireturn, 1) := by decide +kernel
theorem dL_law_366 : decode cL_law 366 = .ok (.aload_n 1, 1) := by decide +kernel
theorem dL_law_367 : decode cL_law 367 = .ok (.invokevirtual 42, 3) := by decide +kernel
theorem dL_law_370 : decode cL_law 370 = .ok (.aload_n 2, 1) := by decide +kernel
theorem dL_law_371 : decode cL_law 371 = .ok (.invokevirtual 45, 3) := by decide +kernel
theorem dL_law_374 : decode cL_law 374 = .ok (.if_icmp .eq 533, 3) := by decide +kernel
theorem dL_law_377 : decode cL_law 377 = .ok (.iconst 0, 1) := by decide +kernel
theorem dL_law_378 : decode cL_law 378 = .ok (.ireturn, 1) := by decide +kernel
theorem dL_law_379 : decode cL_law 379 = .ok (.aload_n 1, 1) := by decide +kernel
theorem dL_law_380 : decode cL_law 380 = .ok (.aload_n 0, 1) := by decide +kernel
theorem dL_law_381 : decode cL_law 381 = .ok (.iload_n 3, 1) := by decide +kernel
theorem dL_law_382 : decode cL_law 382 = .ok (.iconst 1, 1) := by decide +kernel
theorem dL_law_383 : decode cL_law 383 = .ok (.iadd, 1) := by decide +kernel
theorem dL_law_384 : decode cL_law 384 = .ok (.iaload, 1) := by decide +kernel
theorem dL_law_385 : decode cL_law 385 = .ok (.invokevirtual 46, 3) := by decide +kernel
theorem dL_law_388 : decode cL_law 388 = .ok (.aload_n 2, 1) := by decide +kernel
theorem dL_law_389 : decode cL_law 389 = .ok (.aload_n 0, 1) := by decide +kernel
theorem dL_law_390 : decode cL_law 390 = .ok (.iload_n 3, 1) := by decide +kernel
theorem dL_law_391 : decode cL_law 391 = .ok (.iconst 1, 1) := by decide +kernel
theorem dL_law_392 : decode cL_law 392 = .ok (.iadd, 1) := by decide +kernel
theorem dL_law_393 : decode cL_law 393 = .ok (.iaload, 1) := by decide +kernel
theorem dL_law_394 : decode cL_law 394 = .ok (.invokevirtual 49, 3) := by decide +kernel
theorem dL_law_397 : decode cL_law 397 = .ok (.if_icmp .eq 510, 3) := by decide +kernel
theorem dL_law_400 : decode cL_law 400 = .ok (.iconst 0, 1) := by decide +kernel
theorem dL_law_401 : decode cL_law 401 = .ok (.ireturn, 1) := by decide +kernel
theorem dL_law_402 : decode cL_law 402 = .ok (.aload_n 1, 1) := by decide +kernel
theorem dL_law_403 : decode cL_law 403 = .ok (.aload_n 0, 1) := by decide +kernel
theorem dL_law_404 : decode cL_law 404 = .ok (.iload_n 3, 1) := by decide +kernel
theorem dL_law_405 : decode cL_law 405 = .ok (.iconst 1, 1) := by decide +kernel
theorem dL_law_406 : decode cL_law 406 = .ok (.iadd, 1) := by decide +kernel
theorem dL_law_407 : decode cL_law 407 = .ok (.iaload, 1) := by decide +kernel
theorem dL_law_408 : decode cL_law 408 = .ok (.aload_n 0, 1) := by decide +kernel
theorem dL_law_409 : decode cL_law 409 = .ok (.iload_n 3, 1) := by decide +kernel
theorem dL_law_410 : decode cL_law 410 = .ok (.iconst 2, 1) := by decide +kernel
theorem dL_law_411 : decode cL_law 411 = .ok (.iadd, 1) := by decide +kernel
theorem dL_law_412 : decode cL_law 412 = .ok (.iaload, 1) := by decide +kernel
theorem dL_law_413 : decode cL_law 413 = .ok (.invokevirtual 50, 3) := by decide +kernel
theorem dL_law_416 : decode cL_law 416 = .ok (.aload_n 2, 1) := by decide +kernel
theorem dL_law_417 : decode cL_law 417 = .ok (.aload_n 0, 1) := by decide +kernel
theorem dL_law_418 : decode cL_law 418 = .ok (.iload_n 3, 1) := by decide +kernel
theorem dL_law_419 : decode cL_law 419 = .ok (.iconst 1, 1) := by decide +kernel
theorem dL_law_420 : decode cL_law 420 = .ok (.iadd, 1) := by decide +kernel
theorem dL_law_421 : decode cL_law 421 = .ok (.iaload, 1) := by decide +kernel
theorem dL_law_422 : decode cL_law 422 = .ok (.aload_n 0, 1) := by decide +kernel
theorem dL_law_423 : decode cL_law 423 = .ok (.iload_n 3, 1) := by decide +kernel
theorem dL_law_424 : decode cL_law 424 = .ok (.iconst 2, 1) := by decide +kernel
theorem dL_law_425 : decode cL_law 425 = .ok (.iadd, 1) := by decide +kernel
theorem dL_law_426 : decode cL_law 426 = .ok (.iaload, 1) := by decide +kernel
theorem dL_law_427 : decode cL_law 427 = .ok (.invokevirtual 53, 3) := by decide +kernel
theorem dL_law_430 : decode cL_law 430 = .ok (.if_icmp .eq 477, 3) := by decide +kernel
theorem dL_law_433 : decode cL_law 433 = .ok (.iconst 0, 1) := by decide +kernel
theorem dL_law_434 : decode cL_law 434 = .ok (.ireturn, 1) := by decide +kernel
theorem dL_law_435 : decode cL_law 435 = .ok (.aload_n 1, 1) := by decide +kernel
theorem dL_law_436 : decode cL_law 436 = .ok (.aload_n 0, 1) := by decide +kernel
theorem dL_law_437 : decode cL_law 437 = .ok (.iload_n 3, 1) := by decide +kernel
theorem dL_law_438 : decode cL_law 438 = .ok (.iconst 1, 1) := by decide +kernel
theorem dL_law_439 : decode cL_law 439 = .ok (.iadd, 1) := by decide +kernel
theorem dL_law_440 : decode cL_law 440 = .ok (.iaload, 1) := by decide +kernel
theorem dL_law_441 : decode cL_law 441 = .ok (.invokevirtual 54, 3) := by decide +kernel
theorem dL_law_444 : decode cL_law 444 = .ok (.aload_n 2, 1) := by decide +kernel
theorem dL_law_445 : decode cL_law 445 = .ok (.aload_n 0, 1) := by decide +kernel
theorem dL_law_446 : decode cL_law 446 = .ok (.iload_n 3, 1) := by decide +kernel
theorem dL_law_447 : decode cL_law 447 = .ok (.iconst 1, 1) := by decide +kernel
theorem dL_law_448 : decode cL_law 448 = .ok (.iadd, 1) := by decide +kernel
theorem dL_law_449 : decode cL_law 449 = .ok (.iaload, 1) := by decide +kernel
theorem dL_law_450 : decode cL_law 450 = .ok (.invokevirtual 57, 3) := by decide +kernel
theorem dL_law_453 : decode cL_law 453 = .ok (.if_icmp .eq 454, 3) := by decide +kernel
theorem dL_law_456 : decode cL_law 456 = .ok (.iconst 0, 1) := by decide +kernel
theorem dL_law_457 : decode cL_law 457 = .ok (.ireturn, 1) := by decide +kernel
theorem dL_law_458 : decode cL_law 458 = .ok (.aload_n 1, 1) := by decide +kernel
theorem dL_law_459 : decode cL_law 459 = .ok (.aload_n 0, 1) := by decide +kernel
theorem dL_law_460 : decode cL_law 460 = .ok (.iload_n 3, 1) := by decide +kernel
theorem dL_law_461 : decode cL_law 461 = .ok (.iconst 1, 1) := by decide +kernel
theorem dL_law_462 : decode cL_law 462 = .ok (.iadd, 1) := by decide +kernel
theorem dL_law_463 : decode cL_law 463 = .ok (.iaload, 1) := by decide +kernel
theorem dL_law_464 : decode cL_law 464 = .ok (.invokevirtual 58, 3) := by decide +kernel
theorem dL_law_467 : decode cL_law 467 = .ok (.aload_n 2, 1) := by decide +kernel
theorem dL_law_468 : decode cL_law 468 = .ok (.aload_n 0, 1) := by decide +kernel
theorem dL_law_469 : decode cL_law 469 = .ok (.iload_n 3, 1) := by decide +kernel
theorem dL_law_470 : decode cL_law 470 = .ok (.iconst 1, 1) := by decide +kernel
theorem dL_law_471 : decode cL_law 471 = .ok (.iadd, 1) := by decide +kernel
theorem dL_law_472 : decode cL_law 472 = .ok (.iaload, 1) := by decide +kernel
theorem dL_law_473 : decode cL_law 473 = .ok (.invokevirtual 61, 3) := by decide +kernel
theorem dL_law_476 : decode cL_law 476 = .ok (.if_icmp .eq 431, 3) := by decide +kernel
theorem dL_law_479 : decode cL_law 479 = .ok (.iconst 0, 1) := by decide +kernel
theorem dL_law_480 : decode cL_law 480 = .ok (.ireturn, 1) := by decide +kernel
theorem dL_law_481 : decode cL_law 481 = .ok (.aload_n 1, 1) := by decide +kernel
theorem dL_law_482 : decode cL_law 482 = .ok (.invokevirtual 62, 3) := by decide +kernel
theorem dL_law_485 : decode cL_law 485 = .ok (.aload_n 2, 1) := by decide +kernel
theorem dL_law_486 : decode cL_law 486 = .ok (.invokevirtual 65, 3) := by decide +kernel
theorem dL_law_489 : decode cL_law 489 = .ok (.if_icmp .eq 418, 3) := by decide +kernel
theorem dL_law_492 : decode cL_law 492 = .ok (.iconst 0, 1) := by decide +kernel
theorem dL_law_493 : decode cL_law 493 = .ok (.ireturn, 1) := by decide +kernel
theorem dL_law_494 : decode cL_law 494 = .ok (.aload_n 1, 1) := by decide +kernel
theorem dL_law_495 : decode cL_law 495 = .ok (.aload_n 0, 1) := by decide +kernel
theorem dL_law_496 : decode cL_law 496 = .ok (.iload_n 3, 1) := by decide +kernel
theorem dL_law_497 : decode cL_law 497 = .ok (.iconst 1, 1) := by decide +kernel
theorem dL_law_498 : decode cL_law 498 = .ok (.iadd, 1) := by decide +kernel
theorem dL_law_499 : decode cL_law 499 = .ok (.iaload, 1) := by decide +kernel
theorem dL_law_500 : decode cL_law 500 = .ok (.invokevirtual 66, 3) := by decide +kernel
theorem dL_law_503 : decode cL_law 503 = .ok (.aload_n 2, 1) := by decide +kernel
theorem dL_law_504 : decode cL_law 504 = .ok (.aload_n 0, 1) := by decide +kernel
theorem dL_law_505 : decode cL_law 505 = .ok (.iload_n 3, 1) := by decide +kernel
theorem dL_law_506 : decode cL_law 506 = .ok (.iconst 1, 1) := by decide +kernel
theorem dL_law_507 : decode cL_law 507 = .ok (.iadd, 1) := by decide +kernel
theorem dL_law_508 : decode cL_law 508 = .ok (.iaload, 1) := by decide +kernel
theorem dL_law_509 : decode cL_law 509 = .ok (.invokevirtual 69, 3) := by decide +kernel
theorem dL_law_512 : decode cL_law 512 = .ok (.if_icmp .eq 395, 3) := by decide +kernel
theorem dL_law_515 : decode cL_law 515 = .ok (.iconst 0, 1) := by decide +kernel
theorem dL_law_516 : decode cL_law 516 = .ok (.ireturn, 1) := by decide +kernel
theorem dL_law_517 : decode cL_law 517 = .ok (.aload_n 1, 1) := by decide +kernel
theorem dL_law_518 : decode cL_law 518 = .ok (.aload_n 0, 1) := by decide +kernel
theorem dL_law_519 : decode cL_law 519 = .ok (.iload_n 3, 1) := by decide +kernel
theorem dL_law_520 : decode cL_law 520 = .ok (.iconst 1, 1) := by decide +kernel
theorem dL_law_521 : decode cL_law 521 = .ok (.iadd, 1) := by decide +kernel
theorem dL_law_522 : decode cL_law 522 = .ok (.iaload, 1) := by decide +kernel
theorem dL_law_523 : decode cL_law 523 = .ok (.invokevirtual 70, 3) := by decide +kernel
theorem dL_law_526 : decode cL_law 526 = .ok (.aload_n 2, 1) := by decide +kernel
theorem dL_law_527 : decode cL_law 527 = .ok (.aload_n 0, 1) := by decide +kernel
theorem dL_law_528 : decode cL_law 528 = .ok (.iload_n 3, 1) := by decide +kernel
theorem dL_law_529 : decode cL_law 529 = .ok (.iconst 1, 1) := by decide +kernel
theorem dL_law_530 : decode cL_law 530 = .ok (.iadd, 1) := by decide +kernel
theorem dL_law_531 : decode cL_law 531 = .ok (.iaload, 1) := by decide +kernel
theorem dL_law_532 : decode cL_law 532 = .ok (.invokevirtual 73, 3) := by decide +kernel
theorem dL_law_535 : decode cL_law 535 = .ok (.if_icmp .eq 372, 3) := by decide +kernel
theorem dL_law_538 : decode cL_law 538 = .ok (.iconst 0, 1) := by decide +kernel
theorem dL_law_539 : decode cL_law 539 = .ok (.ireturn, 1) := by decide +kernel
theorem dL_law_540 : decode cL_law 540 = .ok (.aload_n 1, 1) := by decide +kernel
theorem dL_law_541 : decode cL_law 541 = .ok (.aload_n 0, 1) := by decide +kernel
theorem dL_law_542 : decode cL_law 542 = .ok (.iload_n 3, 1) := by decide +kernel
theorem dL_law_543 : decode cL_law 543 = .ok (.iconst 1, 1) := by decide +kernel
theorem dL_law_544 : decode cL_law 544 = .ok (.iadd, 1) := by decide +kernel
theorem dL_law_545 : decode cL_law 545 = .ok (.iaload, 1) := by decide +kernel
theorem dL_law_546 : decode cL_law 546 = .ok (.invokevirtual 74, 3) := by decide +kernel
theorem dL_law_549 : decode cL_law 549 = .ok (.aload_n 2, 1) := by decide +kernel
theorem dL_law_550 : decode cL_law 550 = .ok (.aload_n 0, 1) := by decide +kernel
theorem dL_law_551 : decode cL_law 551 = .ok (.iload_n 3, 1) := by decide +kernel
theorem dL_law_552 : decode cL_law 552 = .ok (.iconst 1, 1) := by decide +kernel
theorem dL_law_553 : decode cL_law 553 = .ok (.iadd, 1) := by decide +kernel
theorem dL_law_554 : decode cL_law 554 = .ok (.iaload, 1) := by decide +kernel
theorem dL_law_555 : decode cL_law 555 = .ok (.invokevirtual 77, 3) := by decide +kernel
theorem dL_law_558 : decode cL_law 558 = .ok (.if_icmp .eq 349, 3) := by decide +kernel
theorem dL_law_561 : decode cL_law 561 = .ok (.iconst 0, 1) := by decide +kernel
theorem dL_law_562 : decode cL_law 562 = .ok (.ireturn, 1) := by decide +kernel
theorem dL_law_563 : decode cL_law 563 = .ok (.aload_n 1, 1) := by decide +kernel
theorem dL_law_564 : decode cL_law 564 = .ok (.aload_n 0, 1) := by decide +kernel
theorem dL_law_565 : decode cL_law 565 = .ok (.iload_n 3, 1) := by decide +kernel
theorem dL_law_566 : decode cL_law 566 = .ok (.iconst 1, 1) := by decide +kernel
theorem dL_law_567 : decode cL_law 567 = .ok (.iadd, 1) := by decide +kernel
theorem dL_law_568 : decode cL_law 568 = .ok (.iaload, 1) := by decide +kernel
theorem dL_law_569 : decode cL_law 569 = .ok (.aload_n 0, 1) := by decide +kernel
theorem dL_law_570 : decode cL_law 570 = .ok (.iload_n 3, 1) := by decide +kernel
theorem dL_law_571 : decode cL_law 571 = .ok (.iconst 2, 1) := by decide +kernel
theorem dL_law_572 : decode cL_law 572 = .ok (.iadd, 1) := by decide +kernel
theorem dL_law_573 : decode cL_law 573 = .ok (.iaload, 1) := by decide +kernel
theorem dL_law_574 : decode cL_law 574 = .ok (.aload_n 0, 1) := by decide +kernel
theorem dL_law_575 : decode cL_law 575 = .ok (.iload_n 3, 1) := by decide +kernel
theorem dL_law_576 : decode cL_law 576 = .ok (.iconst 3, 1) := by decide +kernel
theorem dL_law_577 : decode cL_law 577 = .ok (.iadd, 1) := by decide +kernel
theorem dL_law_578 : decode cL_law 578 = .ok (.iaload, 1) := by decide +kernel
theorem dL_law_579 : decode cL_law 579 = .ok (.invokevirtual 78, 3) := by decide +kernel
theorem dL_law_582 : decode cL_law 582 = .ok (.aload_n 2, 1) := by decide +kernel
theorem dL_law_583 : decode cL_law 583 = .ok (.aload_n 0, 1) := by decide +kernel
theorem dL_law_584 : decode cL_law 584 = .ok (.iload_n 3, 1) := by decide +kernel
theorem dL_law_585 : decode cL_law 585 = .ok (.iconst 1, 1) := by decide +kernel
theorem dL_law_586 : decode cL_law 586 = .ok (.iadd, 1) := by decide +kernel
theorem dL_law_587 : decode cL_law 587 = .ok (.iaload, 1) := by decide +kernel
theorem dL_law_588 : decode cL_law 588 = .ok (.aload_n 0, 1) := by decide +kernel
theorem dL_law_589 : decode cL_law 589 = .ok (.iload_n 3, 1) := by decide +kernel
theorem dL_law_590 : decode cL_law 590 = .ok (.iconst 2, 1) := by decide +kernel
theorem dL_law_591 : decode cL_law 591 = .ok (.iadd, 1) := by decide +kernel
theorem dL_law_592 : decode cL_law 592 = .ok (.iaload, 1) := by decide +kernel
theorem dL_law_593 : decode cL_law 593 = .ok (.aload_n 0, 1) := by decide +kernel
theorem dL_law_594 : decode cL_law 594 = .ok (.iload_n 3, 1) := by decide +kernel
theorem dL_law_595 : decode cL_law 595 = .ok (.iconst 3, 1) := by decide +kernel
theorem dL_law_596 : decode cL_law 596 = .ok (.iadd, 1) := by decide +kernel
theorem dL_law_597 : decode cL_law 597 = .ok (.iaload, 1) := by decide +kernel
theorem dL_law_598 : decode cL_law 598 = .ok (.invokevirtual 81, 3) := by decide +kernel
theorem dL_law_601 : decode cL_law 601 = .ok (.if_icmp .eq 306, 3) := by decide +kernel
theorem dL_law_604 : decode cL_law 604 = .ok (.iconst 0, 1) := by decide +kernel
theorem dL_law_605 : decode cL_law 605 = .ok (.ireturn, 1) := by decide +kernel
theorem dL_law_606 : decode cL_law 606 = .ok (.aload_n 1, 1) := by decide +kernel
theorem dL_law_607 : decode cL_law 607 = .ok (.aload_n 0, 1) := by decide +kernel
theorem dL_law_608 : decode cL_law 608 = .ok (.iload_n 3, 1) := by decide +kernel
theorem dL_law_609 : decode cL_law 609 = .ok (.iconst 1, 1) := by decide +kernel
theorem dL_law_610 : decode cL_law 610 = .ok (.iadd, 1) := by decide +kernel
theorem dL_law_611 : decode cL_law 611 = .ok (.iaload, 1) := by decide +kernel
theorem dL_law_612 : decode cL_law 612 = .ok (.aload_n 0, 1) := by decide +kernel
theorem dL_law_613 : decode cL_law 613 = .ok (.iload_n 3, 1) := by decide +kernel
theorem dL_law_614 : decode cL_law 614 = .ok (.iconst 2, 1) := by decide +kernel
theorem dL_law_615 : decode cL_law 615 = .ok (.iadd, 1) := by decide +kernel
theorem dL_law_616 : decode cL_law 616 = .ok (.iaload, 1) := by decide +kernel
theorem dL_law_617 : decode cL_law 617 = .ok (.invokevirtual 82, 3) := by decide +kernel
theorem dL_law_620 : decode cL_law 620 = .ok (.aload_n 2, 1) := by decide +kernel
theorem dL_law_621 : decode cL_law 621 = .ok (.aload_n 0, 1) := by decide +kernel
theorem dL_law_622 : decode cL_law 622 = .ok (.iload_n 3, 1) := by decide +kernel
theorem dL_law_623 : decode cL_law 623 = .ok (.iconst 1, 1) := by decide +kernel
theorem dL_law_624 : decode cL_law 624 = .ok (.iadd, 1) := by decide +kernel
theorem dL_law_625 : decode cL_law 625 = .ok (.iaload, 1) := by decide +kernel
theorem dL_law_626 : decode cL_law 626 = .ok (.aload_n 0, 1) := by decide +kernel
theorem dL_law_627 : decode cL_law 627 = .ok (.iload_n 3, 1) := by decide +kernel
theorem dL_law_628 : decode cL_law 628 = .ok (.iconst 2, 1) := by decide +kernel
theorem dL_law_629 : decode cL_law 629 = .ok (.iadd, 1) := by decide +kernel
theorem dL_law_630 : decode cL_law 630 = .ok (.iaload, 1) := by decide +kernel
theorem dL_law_631 : decode cL_law 631 = .ok (.invokevirtual 85, 3) := by decide +kernel
theorem dL_law_634 : decode cL_law 634 = .ok (.if_icmp .eq 273, 3) := by decide +kernel
theorem dL_law_637 : decode cL_law 637 = .ok (.iconst 0, 1) := by decide +kernel
theorem dL_law_638 : decode cL_law 638 = .ok (.ireturn, 1) := by decide +kernel
theorem dL_law_639 : decode cL_law 639 = .ok (.aload_n 1, 1) := by decide +kernel
theorem dL_law_640 : decode cL_law 640 = .ok (.invokevirtual 86, 3) := by decide +kernel
theorem dL_law_643 : decode cL_law 643 = .ok (.aload_n 2, 1) := by decide +kernel
theorem dL_law_644 : decode cL_law 644 = .ok (.invokevirtual 89, 3) := by decide +kernel
theorem dL_law_647 : decode cL_law 647 = .ok (.if_icmp .eq 260, 3) := by decide +kernel
theorem dL_law_650 : decode cL_law 650 = .ok (.iconst 0, 1) := by decide +kernel
theorem dL_law_651 : decode cL_law 651 = .ok (.ireturn, 1) := by decide +kernel
theorem dL_law_652 : decode cL_law 652 = .ok (.aload_n 1, 1) := by decide +kernel
theorem dL_law_653 : decode cL_law 653 = .ok (.aload_n 0, 1) := by decide +kernel
theorem dL_law_654 : decode cL_law 654 = .ok (.iload_n 3, 1) := by decide +kernel
theorem dL_law_655 : decode cL_law 655 = .ok (.iconst 1, 1) := by decide +kernel
theorem dL_law_656 : decode cL_law 656 = .ok (.iadd, 1) := by decide +kernel
theorem dL_law_657 : decode cL_law 657 = .ok (.iaload, 1) := by decide +kernel
theorem dL_law_658 : decode cL_law 658 = .ok (.invokevirtual 90, 3) := by decide +kernel
theorem dL_law_661 : decode cL_law 661 = .ok (.aload_n 2, 1) := by decide +kernel
theorem dL_law_662 : decode cL_law 662 = .ok (.aload_n 0, 1) := by decide +kernel
theorem dL_law_663 : decode cL_law 663 = .ok (.iload_n 3, 1) := by decide +kernel
theorem dL_law_664 : decode cL_law 664 = .ok (.iconst 1, 1) := by decide +kernel
theorem dL_law_665 : decode cL_law 665 = .ok (.iadd, 1) := by decide +kernel
theorem dL_law_666 : decode cL_law 666 = .ok (.iaload, 1) := by decide +kernel
theorem dL_law_667 : decode cL_law 667 = .ok (.invokevirtual 93, 3) := by decide +kernel
theorem dL_law_670 : decode cL_law 670 = .ok (.if_icmp .eq 237, 3) := by decide +kernel
theorem dL_law_673 : decode cL_law 673 = .ok (.iconst 0, 1) := by decide +kernel
theorem dL_law_674 : decode cL_law 674 = .ok (.ireturn, 1) := by decide +kernel
theorem dL_law_675 : decode cL_law 675 = .ok (.aload_n 1, 1) := by decide +kernel
theorem dL_law_676 : decode cL_law 676 = .ok (.aload_n 0, 1) := by decide +kernel
theorem dL_law_677 : decode cL_law 677 = .ok (.iload_n 3, 1) := by decide +kernel
theorem dL_law_678 : decode cL_law 678 = .ok (.iconst 1, 1) := by decide +kernel
theorem dL_law_679 : decode cL_law 679 = .ok (.iadd, 1) := by decide +kernel
theorem dL_law_680 : decode cL_law 680 = .ok (.iaload, 1) := by decide +kernel
theorem dL_law_681 : decode cL_law 681 = .ok (.invokevirtual 94, 3) := by decide +kernel
theorem dL_law_684 : decode cL_law 684 = .ok (.aload_n 2, 1) := by decide +kernel
