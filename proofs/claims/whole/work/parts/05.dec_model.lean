theorem dX5_init_0 : decode cX5_init 0 = .ok (.aload_n 0, 1) := by decide +kernel
theorem dX5_init_1 : decode cX5_init 1 = .ok (.invokespecial 1, 3) := by decide +kernel
theorem dX5_init_4 : decode cX5_init 4 = .ok (.aload_n 0, 1) := by decide +kernel
theorem dX5_init_5 : decode cX5_init 5 = .ok (.iconst 5, 1) := by decide +kernel
theorem dX5_init_6 : decode cX5_init 6 = .ok (.putfield 7, 3) := by decide +kernel
theorem dX5_init_9 : decode cX5_init 9 = .ok (.aload_n 0, 1) := by decide +kernel
theorem dX5_init_10 : decode cX5_init 10 = .ok (.sipush 471, 3) := by decide +kernel
theorem dX5_init_13 : decode cX5_init 13 = .ok (.newarray .long, 2) := by decide +kernel
theorem dX5_init_15 : decode cX5_init 15 = .ok (.putfield 13, 3) := by decide +kernel
theorem dX5_init_18 : decode cX5_init 18 = .ok (.aload_n 0, 1) := by decide +kernel
theorem dX5_init_19 : decode cX5_init 19 = .ok (.iconst 3, 1) := by decide +kernel
theorem dX5_init_20 : decode cX5_init 20 = .ok (.newarray .int, 2) := by decide +kernel
theorem dX5_init_22 : decode cX5_init 22 = .ok (.putfield 17, 3) := by decide +kernel
theorem dX5_init_25 : decode cX5_init 25 = .ok (.aload_n 0, 1) := by decide +kernel
theorem dX5_init_26 : decode cX5_init 26 = .ok (.iconst 3, 1) := by decide +kernel
theorem dX5_init_27 : decode cX5_init 27 = .ok (.newarray .int, 2) := by decide +kernel
theorem dX5_init_29 : decode cX5_init 29 = .ok (.putfield 21, 3) := by decide +kernel
theorem dX5_init_32 : decode cX5_init 32 = .ok (.aload_n 0, 1) := by decide +kernel
theorem dX5_init_33 : decode cX5_init 33 = .ok (.iconst 3, 1) := by decide +kernel
theorem dX5_init_34 : decode cX5_init 34 = .ok (.newarray .int, 2) := by decide +kernel
theorem dX5_init_36 : decode cX5_init 36 = .ok (.putfield 24, 3) := by decide +kernel
theorem dX5_init_39 : decode cX5_init 39 = .ok (.aload_n 0, 1) := by decide +kernel
theorem dX5_init_40 : decode cX5_init 40 = .ok (.iconst 3, 1) := by decide +kernel
theorem dX5_init_41 : decode cX5_init 41 = .ok (.newarray .int, 2) := by decide +kernel
theorem dX5_init_43 : decode cX5_init 43 = .ok (.putfield 27, 3) := by decide +kernel
theorem dX5_init_46 : decode cX5_init 46 = .ok (.aload_n 0, 1) := by decide +kernel
theorem dX5_init_47 : decode cX5_init 47 = .ok (.bipush 60, 2) := by decide +kernel
theorem dX5_init_49 : decode cX5_init 49 = .ok (.newarray .int, 2) := by decide +kernel
theorem dX5_init_51 : decode cX5_init 51 = .ok (.putfield 30, 3) := by decide +kernel
theorem dX5_init_54 : decode cX5_init 54 = .ok (.aload_n 0, 1) := by decide +kernel
theorem dX5_init_55 : decode cX5_init 55 = .ok (.bipush 60, 2) := by decide +kernel
theorem dX5_init_57 : decode cX5_init 57 = .ok (.newarray .int, 2) := by decide +kernel
theorem dX5_init_59 : decode cX5_init 59 = .ok (.putfield 33, 3) := by decide +kernel
theorem dX5_init_62 : decode cX5_init 62 = .ok (.aload_n 0, 1) := by decide +kernel
theorem dX5_init_63 : decode cX5_init 63 = .ok (.bipush 60, 2) := by decide +kernel
theorem dX5_init_65 : decode cX5_init 65 = .ok (.newarray .int, 2) := by decide +kernel
theorem dX5_init_67 : decode cX5_init 67 = .ok (.putfield 36, 3) := by decide +kernel
theorem dX5_init_70 : decode cX5_init 70 = .ok (.aload_n 0, 1) := by decide +kernel
theorem dX5_init_71 : decode cX5_init 71 = .ok (.bipush 60, 2) := by decide +kernel
theorem dX5_init_73 : decode cX5_init 73 = .ok (.newarray .int, 2) := by decide +kernel
theorem dX5_init_75 : decode cX5_init 75 = .ok (.putfield 39, 3) := by decide +kernel
theorem dX5_init_78 : decode cX5_init 78 = .ok (.aload_n 0, 1) := by decide +kernel
theorem dX5_init_79 : decode cX5_init 79 = .ok (.bipush 60, 2) := by decide +kernel
theorem dX5_init_81 : decode cX5_init 81 = .ok (.newarray .int, 2) := by decide +kernel
theorem dX5_init_83 : decode cX5_init 83 = .ok (.putfield 42, 3) := by decide +kernel
theorem dX5_init_86 : decode cX5_init 86 = .ok (.aload_n 0, 1) := by decide +kernel
theorem dX5_init_87 : decode cX5_init 87 = .ok (.bipush 60, 2) := by decide +kernel
theorem dX5_init_89 : decode cX5_init 89 = .ok (.newarray .int, 2) := by decide +kernel
theorem dX5_init_91 : decode cX5_init 91 = .ok (.putfield 45, 3) := by decide +kernel
theorem dX5_init_94 : decode cX5_init 94 = .ok (.aload_n 0, 1) := by decide +kernel
theorem dX5_init_95 : decode cX5_init 95 = .ok (.bipush 60, 2) := by decide +kernel
theorem dX5_init_97 : decode cX5_init 97 = .ok (.newarray .int, 2) := by decide +kernel
theorem dX5_init_99 : decode cX5_init 99 = .ok (.putfield 48, 3) := by decide +kernel
theorem dX5_init_102 : decode cX5_init 102 = .ok (.aload_n 0, 1) := by decide +kernel
theorem dX5_init_103 : decode cX5_init 103 = .ok (.bipush 30, 2) := by decide +kernel
theorem dX5_init_105 : decode cX5_init 105 = .ok (.newarray .int, 2) := by decide +kernel
theorem dX5_init_107 : decode cX5_init 107 = .ok (.putfield 51, 3) := by decide +kernel
theorem dX5_init_110 : decode cX5_init 110 = .ok (.aload_n 0, 1) := by decide +kernel
theorem dX5_init_111 : decode cX5_init 111 = .ok (.bipush 30, 2) := by decide +kernel
theorem dX5_init_113 : decode cX5_init 113 = .ok (.newarray .int, 2) := by decide +kernel
theorem dX5_init_115 : decode cX5_init 115 = .ok (.putfield 54, 3) := by decide +kernel
theorem dX5_init_118 : decode cX5_init 118 = .ok (.aload_n 0, 1) := by decide +kernel
theorem dX5_init_119 : decode cX5_init 119 = .ok (.bipush 30, 2) := by decide +kernel
theorem dX5_init_121 : decode cX5_init 121 = .ok (.newarray .int, 2) := by decide +kernel
theorem dX5_init_123 : decode cX5_init 123 = .ok (.putfield 57, 3) := by decide +kernel
theorem dX5_init_126 : decode cX5_init 126 = .ok (.aload_n 0, 1) := by decide +kernel
theorem dX5_init_127 : decode cX5_init 127 = .ok (.bipush 30, 2) := by decide +kernel
theorem dX5_init_129 : decode cX5_init 129 = .ok (.newarray .int, 2) := by decide +kernel
theorem dX5_init_131 : decode cX5_init 131 = .ok (.putfield 60, 3) := by decide +kernel
theorem dX5_init_134 : decode cX5_init 134 = .ok (.aload_n 0, 1) := by decide +kernel
theorem dX5_init_135 : decode cX5_init 135 = .ok (.bipush 30, 2) := by decide +kernel
theorem dX5_init_137 : decode cX5_init 137 = .ok (.newarray .int, 2) := by decide +kernel
theorem dX5_init_139 : decode cX5_init 139 = .ok (.putfield 63, 3) := by decide +kernel
theorem dX5_init_142 : decode cX5_init 142 = .ok (.aload_n 0, 1) := by decide +kernel
theorem dX5_init_143 : decode cX5_init 143 = .ok (.bipush 30, 2) := by decide +kernel
theorem dX5_init_145 : decode cX5_init 145 = .ok (.newarray .int, 2) := by decide +kernel
theorem dX5_init_147 : decode cX5_init 147 = .ok (.putfield 66, 3) := by decide +kernel
theorem dX5_init_150 : decode cX5_init 150 = .ok (.aload_n 0, 1) := by decide +kernel
theorem dX5_init_151 : decode cX5_init 151 = .ok (.iconst 4, 1) := by decide +kernel
theorem dX5_init_152 : decode cX5_init 152 = .ok (.newarray .int, 2) := by decide +kernel
theorem dX5_init_154 : decode cX5_init 154 = .ok (.putfield 69, 3) := by decide +kernel
theorem dX5_init_157 : decode cX5_init 157 = .ok (.aload_n 0, 1) := by decide +kernel
theorem dX5_init_158 : decode cX5_init 158 = .ok (.bipush 40, 2) := by decide +kernel
theorem dX5_init_160 : decode cX5_init 160 = .ok (.newarray .int, 2) := by decide +kernel
theorem dX5_init_162 : decode cX5_init 162 = .ok (.putfield 72, 3) := by decide +kernel
theorem dX5_init_165 : decode cX5_init 165 = .ok (.aload_n 0, 1) := by decide +kernel
theorem dX5_init_166 : decode cX5_init 166 = .ok (.bipush 40, 2) := by decide +kernel
theorem dX5_init_168 : decode cX5_init 168 = .ok (.newarray .int, 2) := by decide +kernel
theorem dX5_init_170 : decode cX5_init 170 = .ok (.putfield 75, 3) := by decide +kernel
theorem dX5_init_173 : decode cX5_init 173 = .ok (.iconst 0, 1) := by decide +kernel
theorem dX5_init_174 : decode cX5_init 174 = .ok (.istore_n 1, 1) := by decide +kernel
theorem dX5_init_175 : decode cX5_init 175 = .ok (.iload_n 1, 1) := by decide +kernel
theorem dX5_init_176 : decode cX5_init 176 = .ok (.bipush 60, 2) := by decide +kernel
theorem dX5_init_178 : decode cX5_init 178 = .ok (.if_icmp .ge 16, 3) := by decide +kernel
theorem dX5_init_181 : decode cX5_init 181 = .ok (.aload_n 0, 1) := by decide +kernel
theorem dX5_init_182 : decode cX5_init 182 = .ok (.getfield 45, 3) := by decide +kernel
theorem dX5_init_185 : decode cX5_init 185 = .ok (.iload_n 1, 1) := by decide +kernel
theorem dX5_init_186 : decode cX5_init 186 = .ok (.iconst (-1), 1) := by decide +kernel
theorem dX5_init_187 : decode cX5_init 187 = .ok (.iastore, 1) := by decide +kernel
theorem dX5_init_188 : decode cX5_init 188 = .ok (.iinc 1 1, 3) := by decide +kernel
theorem dX5_init_191 : decode cX5_init 191 = .ok (.goto (-16), 3) := by decide +kernel
theorem dX5_init_194 : decode cX5_init 194 = .ok (.return_, 1) := by decide +kernel
theorem dX5_thrown_0 : decode cX5_thrown 0 = .ok (.aload_n 0, 1) := by decide +kernel
theorem dX5_thrown_1 : decode cX5_thrown 1 = .ok (.getfield 78, 3) := by decide +kernel
theorem dX5_thrown_4 : decode cX5_thrown 4 = .ok (.ireturn, 1) := by decide +kernel
theorem dX5_fails_0 : decode cX5_fails 0 = .ok (.aload_n 0, 1) := by decide +kernel
theorem dX5_fails_1 : decode cX5_fails 1 = .ok (.iload_n 1, 1) := by decide +kernel
theorem dX5_fails_2 : decode cX5_fails 2 = .ok (.putfield 78, 3) := by decide +kernel
theorem dX5_fails_5 : decode cX5_fails 5 = .ok (.iconst 0, 1) := by decide +kernel
theorem dX5_fails_6 : decode cX5_fails 6 = .ok (.ireturn, 1) := by decide +kernel
theorem dX5_asks_0 : decode cX5_asks 0 = .ok (.aload_n 0, 1) := by decide +kernel
theorem dX5_asks_1 : decode cX5_asks 1 = .ok (.iload_n 1, 1) := by decide +kernel
theorem dX5_asks_2 : decode cX5_asks 2 = .ok (.ifCond .eq 7, 3) := by decide +kernel
theorem dX5_asks_5 : decode cX5_asks 5 = .ok (.iconst 0, 1) := by decide +kernel
theorem dX5_asks_6 : decode cX5_asks 6 = .ok (.goto 4, 3) := by decide +kernel
theorem dX5_asks_9 : decode cX5_asks 9 = .ok (.iconst 1, 1) := by decide +kernel
theorem dX5_asks_10 : decode cX5_asks 10 = .ok (.putfield 78, 3) := by decide +kernel
theorem dX5_asks_13 : decode cX5_asks 13 = .ok (.iload_n 1, 1) := by decide +kernel
theorem dX5_asks_14 : decode cX5_asks 14 = .ok (.ireturn, 1) := by decide +kernel
theorem dX5_in_0 : decode cX5_in 0 = .ok (.iload_n 0, 1) := by decide +kernel
theorem dX5_in_1 : decode cX5_in 1 = .ok (.iload_n 1, 1) := by decide +kernel
theorem dX5_in_2 : decode cX5_in 2 = .ok (.if_icmp .lt 12, 3) := by decide +kernel
theorem dX5_in_5 : decode cX5_in 5 = .ok (.iload_n 0, 1) := by decide +kernel
theorem dX5_in_6 : decode cX5_in 6 = .ok (.iload_n 2, 1) := by decide +kernel
theorem dX5_in_7 : decode cX5_in 7 = .ok (.if_icmp .gt 7, 3) := by decide +kernel
theorem dX5_in_10 : decode cX5_in 10 = .ok (.iconst 1, 1) := by decide +kernel
theorem dX5_in_11 : decode cX5_in 11 = .ok (.goto 4, 3) := by decide +kernel
theorem dX5_in_14 : decode cX5_in 14 = .ok (.iconst 0, 1) := by decide +kernel
theorem dX5_in_15 : decode cX5_in 15 = .ok (.ireturn, 1) := by decide +kernel
set_option maxRecDepth 20000 in
theorem ggX5_isNumber_X5_in : GoodIn wsX5_isNumber wsX5_in := goodIn_r _ [5] (by decide +kernel) (by decide +kernel)
set_option maxRecDepth 20000 in
theorem gX5_isNumber_X5_in : GoodIn wsX5_isNumber (va_wsS RX5 82 yX5_in wsX5_in) := goodIn_app (goodIn_of _ (by decide +kernel)) ggX5_isNumber_X5_in
theorem dX5_isNumber_0 : decode cX5_isNumber 0 = .ok (.iload_n 0, 1) := by decide +kernel
theorem dX5_isNumber_1 : decode cX5_isNumber 1 = .ok (.sipush 1000, 3) := by decide +kernel
theorem dX5_isNumber_4 : decode cX5_isNumber 4 = .ok (.ldc 81, 2) := by decide +kernel
theorem dX5_isNumber_6 : decode cX5_isNumber 6 = .ok (.invokestatic 82, 3) := by decide +kernel
theorem dX5_isNumber_9 : decode cX5_isNumber 9 = .ok (.ireturn, 1) := by decide +kernel
set_option maxRecDepth 20000 in
theorem ggX5_isPrefix_X5_in : GoodIn wsX5_isPrefix wsX5_in := goodIn_r _ [5] (by decide +kernel) (by decide +kernel)
set_option maxRecDepth 20000 in
theorem gX5_isPrefix_X5_in : GoodIn wsX5_isPrefix (va_wsS RX5 82 yX5_in wsX5_in) := goodIn_app (goodIn_of _ (by decide +kernel)) ggX5_isPrefix_X5_in
theorem dX5_isPrefix_0 : decode cX5_isPrefix 0 = .ok (.iload_n 0, 1) := by decide +kernel
theorem dX5_isPrefix_1 : decode cX5_isPrefix 1 = .ok (.iconst 1, 1) := by decide +kernel
theorem dX5_isPrefix_2 : decode cX5_isPrefix 2 = .ok (.ldc 86, 2) := by decide +kernel
theorem dX5_isPrefix_4 : decode cX5_isPrefix 4 = .ok (.invokestatic 82, 3) := by decide +kernel
theorem dX5_isPrefix_7 : decode cX5_isPrefix 7 = .ok (.ireturn, 1) := by decide +kernel
theorem dX5_fits_0 : decode cX5_fits 0 = .ok (.iload_n 1, 1) := by decide +kernel
theorem dX5_fits_1 : decode cX5_fits 1 = .ok (.istore_n 2, 1) := by decide +kernel
theorem dX5_fits_2 : decode cX5_fits 2 = .ok (.iload_n 2, 1) := by decide +kernel
theorem dX5_fits_3 : decode cX5_fits 3 = .ok (.iload_n 0, 1) := by decide +kernel
theorem dX5_fits_4 : decode cX5_fits 4 = .ok (.if_icmp .le 11, 3) := by decide +kernel
theorem dX5_fits_7 : decode cX5_fits 7 = .ok (.iload_n 2, 1) := by decide +kernel
theorem dX5_fits_8 : decode cX5_fits 8 = .ok (.bipush 10, 2) := by decide +kernel
theorem dX5_fits_10 : decode cX5_fits 10 = .ok (.idiv, 1) := by decide +kernel
theorem dX5_fits_11 : decode cX5_fits 11 = .ok (.istore_n 2, 1) := by decide +kernel
theorem dX5_fits_12 : decode cX5_fits 12 = .ok (.goto (-10), 3) := by decide +kernel
theorem dX5_fits_15 : decode cX5_fits 15 = .ok (.iload_n 2, 1) := by decide +kernel
theorem dX5_fits_16 : decode cX5_fits 16 = .ok (.iload_n 0, 1) := by decide +kernel
theorem dX5_fits_17 : decode cX5_fits 17 = .ok (.if_icmp .ne 7, 3) := by decide +kernel
theorem dX5_fits_20 : decode cX5_fits 20 = .ok (.iconst 1, 1) := by decide +kernel
theorem dX5_fits_21 : decode cX5_fits 21 = .ok (.goto 4, 3) := by decide +kernel
theorem dX5_fits_24 : decode cX5_fits 24 = .ok (.iconst 0, 1) := by decide +kernel
theorem dX5_fits_25 : decode cX5_fits 25 = .ok (.ireturn, 1) := by decide +kernel
theorem dX5_apart_0 : decode cX5_apart 0 = .ok (.iload_n 0, 1) := by decide +kernel
theorem dX5_apart_1 : decode cX5_apart 1 = .ok (.iload_n 1, 1) := by decide +kernel
theorem dX5_apart_2 : decode cX5_apart 2 = .ok (.if_icmp .ge 9, 3) := by decide +kernel
theorem dX5_apart_5 : decode cX5_apart 5 = .ok (.iload_n 1, 1) := by decide +kernel
theorem dX5_apart_6 : decode cX5_apart 6 = .ok (.iload_n 0, 1) := by decide +kernel
theorem dX5_apart_7 : decode cX5_apart 7 = .ok (.isub, 1) := by decide +kernel
theorem dX5_apart_8 : decode cX5_apart 8 = .ok (.goto 6, 3) := by decide +kernel
theorem dX5_apart_11 : decode cX5_apart 11 = .ok (.iload_n 0, 1) := by decide +kernel
theorem dX5_apart_12 : decode cX5_apart 12 = .ok (.iload_n 1, 1) := by decide +kernel
theorem dX5_apart_13 : decode cX5_apart 13 = .ok (.isub, 1) := by decide +kernel
theorem dX5_apart_14 : decode cX5_apart 14 = .ok (.ireturn, 1) := by decide +kernel
set_option maxRecDepth 20000 in
theorem ggX5_setBound_X5_in : GoodIn wsX5_setBound wsX5_in := goodIn_r _ [5] (by decide +kernel) (by decide +kernel)
set_option maxRecDepth 20000 in
theorem gX5_setBound_X5_in : GoodIn wsX5_setBound (va_wsS RX5 82 yX5_in wsX5_in) := goodIn_app (goodIn_of _ (by decide +kernel)) ggX5_setBound_X5_in
set_option maxRecDepth 20000 in
theorem ggX5_setBound_X5_asks : GoodIn wsX5_setBound wsX5_asks := goodIn_r _ [9, 10, 11, 12, 13, 14, 15, 16, 17, 18, 19, 20, 21, 22, 23, 24, 25, 26, 27, 28, 29, 30, 31, 32, 33, 34, 35, 36] (by decide +kernel) (by decide +kernel)
set_option maxRecDepth 20000 in
theorem gX5_setBound_X5_asks : GoodIn wsX5_setBound (wsV RX5 87 RX5 yX5_asks wsX5_asks) := goodIn_app (goodIn_of _ (by decide +kernel)) ggX5_setBound_X5_asks
theorem dX5_setBound_0 : decode cX5_setBound 0 = .ok (.aload_n 0, 1) := by decide +kernel
theorem dX5_setBound_1 : decode cX5_setBound 1 = .ok (.iload_n 1, 1) := by decide +kernel
theorem dX5_setBound_2 : decode cX5_setBound 2 = .ok (.iconst 0, 1) := by decide +kernel
theorem dX5_setBound_3 : decode cX5_setBound 3 = .ok (.bipush 100, 2) := by decide +kernel
theorem dX5_setBound_5 : decode cX5_setBound 5 = .ok (.invokestatic 82, 3) := by decide +kernel
theorem dX5_setBound_8 : decode cX5_setBound 8 = .ok (.invokevirtual 87, 3) := by decide +kernel
theorem dX5_setBound_11 : decode cX5_setBound 11 = .ok (.ifCond .ne 5, 3) := by decide +kernel
theorem dX5_setBound_14 : decode cX5_setBound 14 = .ok (.iconst 0, 1) := by decide +kernel
theorem dX5_setBound_15 : decode cX5_setBound 15 = .ok (.ireturn, 1) := by decide +kernel
theorem dX5_setBound_16 : decode cX5_setBound 16 = .ok (.aload_n 0, 1) := by decide +kernel
theorem dX5_setBound_17 : decode cX5_setBound 17 = .ok (.getfield 7, 3) := by decide +kernel
theorem dX5_setBound_20 : decode cX5_setBound 20 = .ok (.istore_n 2, 1) := by decide +kernel
theorem dX5_setBound_21 : decode cX5_setBound 21 = .ok (.aload_n 0, 1) := by decide +kernel
theorem dX5_setBound_22 : decode cX5_setBound 22 = .ok (.iload_n 1, 1) := by decide +kernel
theorem dX5_setBound_23 : decode cX5_setBound 23 = .ok (.putfield 7, 3) := by decide +kernel
theorem dX5_setBound_26 : decode cX5_setBound 26 = .ok (.iload_n 2, 1) := by decide +kernel
theorem dX5_setBound_27 : decode cX5_setBound 27 = .ok (.ireturn, 1) := by decide +kernel
set_option maxRecDepth 20000 in
theorem ggX5_joined_X5_apart : GoodIn wsX5_joined wsX5_apart := goodIn_r _ [10] (by decide +kernel) (by decide +kernel)
set_option maxRecDepth 20000 in
theorem gX5_joined_X5_apart : GoodIn wsX5_joined (va_wsS RX5 94 yX5_apart wsX5_apart) := goodIn_app (goodIn_of _ (by decide +kernel)) ggX5_joined_X5_apart
theorem dX5_joined_0 : decode cX5_joined 0 = .ok (.iconst 0, 1) := by decide +kernel
theorem dX5_joined_1 : decode cX5_joined 1 = .ok (.istore 5, 2) := by decide +kernel
theorem dX5_joined_3 : decode cX5_joined 3 = .ok (.iload 5, 2) := by decide +kernel
theorem dX5_joined_5 : decode cX5_joined 5 = .ok (.aload_n 0, 1) := by decide +kernel
theorem dX5_joined_6 : decode cX5_joined 6 = .ok (.getfield 91, 3) := by decide +kernel
theorem dX5_joined_9 : decode cX5_joined 9 = .ok (.if_icmp .ge 74, 3) := by decide +kernel
theorem dX5_joined_12 : decode cX5_joined 12 = .ok (.aload_n 0, 1) := by decide +kernel
theorem dX5_joined_13 : decode cX5_joined 13 = .ok (.getfield 30, 3) := by decide +kernel
theorem dX5_joined_16 : decode cX5_joined 16 = .ok (.iload 5, 2) := by decide +kernel
theorem dX5_joined_18 : decode cX5_joined 18 = .ok (.iaload, 1) := by decide +kernel
theorem dX5_joined_19 : decode cX5_joined 19 = .ok (.iload_n 2, 1) := by decide +kernel
theorem dX5_joined_20 : decode cX5_joined 20 = .ok (.if_icmp .ne 57, 3) := by decide +kernel
theorem dX5_joined_23 : decode cX5_joined 23 = .ok (.aload_n 0, 1) := by decide +kernel
theorem dX5_joined_24 : decode cX5_joined 24 = .ok (.getfield 42, 3) := by decide +kernel
theorem dX5_joined_27 : decode cX5_joined 27 = .ok (.iload 5, 2) := by decide +kernel
theorem dX5_joined_29 : decode cX5_joined 29 = .ok (.iaload, 1) := by decide +kernel
theorem dX5_joined_30 : decode cX5_joined 30 = .ok (.iload_n 1, 1) := by decide +kernel
theorem dX5_joined_31 : decode cX5_joined 31 = .ok (.ishr, 1) := by decide +kernel
theorem dX5_joined_32 : decode cX5_joined 32 = .ok (.iconst 1, 1) := by decide +kernel
theorem dX5_joined_33 : decode cX5_joined 33 = .ok (.iand, 1) := by decide +kernel
theorem dX5_joined_34 : decode cX5_joined 34 = .ok (.ifCond .ne 43, 3) := by decide +kernel
theorem dX5_joined_37 : decode cX5_joined 37 = .ok (.aload_n 0, 1) := by decide +kernel
theorem dX5_joined_38 : decode cX5_joined 38 = .ok (.getfield 33, 3) := by decide +kernel
theorem dX5_joined_41 : decode cX5_joined 41 = .ok (.iload 5, 2) := by decide +kernel
theorem dX5_joined_43 : decode cX5_joined 43 = .ok (.iaload, 1) := by decide +kernel
theorem dX5_joined_44 : decode cX5_joined 44 = .ok (.iload_n 3, 1) := by decide +kernel
theorem dX5_joined_45 : decode cX5_joined 45 = .ok (.invokestatic 94, 3) := by decide +kernel
theorem dX5_joined_48 : decode cX5_joined 48 = .ok (.aload_n 0, 1) := by decide +kernel
theorem dX5_joined_49 : decode cX5_joined 49 = .ok (.getfield 7, 3) := by decide +kernel
theorem dX5_joined_52 : decode cX5_joined 52 = .ok (.if_icmp .gt 25, 3) := by decide +kernel
theorem dX5_joined_55 : decode cX5_joined 55 = .ok (.aload_n 0, 1) := by decide +kernel
theorem dX5_joined_56 : decode cX5_joined 56 = .ok (.getfield 36, 3) := by decide +kernel
theorem dX5_joined_59 : decode cX5_joined 59 = .ok (.iload 5, 2) := by decide +kernel
theorem dX5_joined_61 : decode cX5_joined 61 = .ok (.iaload, 1) := by decide +kernel
theorem dX5_joined_62 : decode cX5_joined 62 = .ok (.iload 4, 2) := by decide +kernel
theorem dX5_joined_64 : decode cX5_joined 64 = .ok (.invokestatic 94, 3) := by decide +kernel
theorem dX5_joined_67 : decode cX5_joined 67 = .ok (.aload_n 0, 1) := by decide +kernel
theorem dX5_joined_68 : decode cX5_joined 68 = .ok (.getfield 7, 3) := by decide +kernel
theorem dX5_joined_71 : decode cX5_joined 71 = .ok (.if_icmp .gt 6, 3) := by decide +kernel
theorem dX5_joined_74 : decode cX5_joined 74 = .ok (.iload 5, 2) := by decide +kernel
theorem dX5_joined_76 : decode cX5_joined 76 = .ok (.ireturn, 1) := by decide +kernel
theorem dX5_joined_77 : decode cX5_joined 77 = .ok (.iinc 5 1, 3) := by decide +kernel
theorem dX5_joined_80 : decode cX5_joined 80 = .ok (.goto (-77), 3) := by decide +kernel
theorem dX5_joined_83 : decode cX5_joined 83 = .ok (.aload_n 0, 1) := by decide +kernel
theorem dX5_joined_84 : decode cX5_joined 84 = .ok (.getfield 91, 3) := by decide +kernel
theorem dX5_joined_87 : decode cX5_joined 87 = .ok (.ireturn, 1) := by decide +kernel
set_option maxRecDepth 20000 in
theorem ggX5_record_X5_in : GoodIn wsX5_record wsX5_in := goodIn_r _ [16] (by decide +kernel) (by decide +kernel)
set_option maxRecDepth 20000 in
theorem gX5_record_X5_in : GoodIn wsX5_record (va_wsS RX5 82 yX5_in wsX5_in) := goodIn_app (goodIn_of _ (by decide +kernel)) ggX5_record_X5_in
set_option maxRecDepth 20000 in
theorem ggX5_record_X5_isNumber : GoodIn wsX5_record wsX5_isNumber := goodIn_r _ [19, 20, 13, 14, 15, 16] (by decide +kernel) (by decide +kernel)
set_option maxRecDepth 20000 in
theorem gX5_record_X5_isNumber : GoodIn wsX5_record (va_wsS RX5 98 yX5_isNumber wsX5_isNumber) := goodIn_app (goodIn_of _ (by decide +kernel)) ggX5_record_X5_isNumber
set_option maxRecDepth 20000 in
theorem ggX5_record_X5_asks : GoodIn wsX5_record wsX5_asks := goodIn_r _ [24, 25, 38, 39, 40, 41, 42, 43, 44, 45, 46, 47, 48, 49, 50, 51, 52, 53, 54, 55, 56, 57, 58, 59, 60, 61, 62, 63] (by decide +kernel) (by decide +kernel)
set_option maxRecDepth 20000 in
theorem gX5_record_X5_asks : GoodIn wsX5_record (wsV RX5 87 RX5 yX5_asks wsX5_asks) := goodIn_app (goodIn_of _ (by decide +kernel)) ggX5_record_X5_asks
set_option maxRecDepth 20000 in
theorem ggX5_record_X5_joined : GoodIn wsX5_record wsX5_joined := goodIn_r _ [29, 7, 8, 11, 9, 30, 10, 31, 32, 15, 33, 38, 39, 40, 41, 42, 43, 44, 45, 46, 47, 48, 49, 50, 51, 52, 53, 54, 55, 56, 57, 58, 59, 60, 61, 62, 63] (by decide +kernel) (by decide +kernel)
set_option maxRecDepth 20000 in
theorem gX5_record_X5_joined : GoodIn wsX5_record (wsV RX5 103 RX5 yX5_joined wsX5_joined) := goodIn_app (goodIn_of _ (by decide +kernel)) ggX5_record_X5_joined
set_option maxRecDepth 20000 in
theorem ggX5_record_X5_fails : GoodIn wsX5_record wsX5_fails := goodIn_r _ [37, 25, 38, 39, 40, 41, 42, 43, 44, 45, 46, 47, 48, 49, 50, 51, 52, 53, 54, 55, 56, 57, 58, 59, 60, 61, 62, 63] (by decide +kernel) (by decide +kernel)
set_option maxRecDepth 20000 in
theorem gX5_record_X5_fails : GoodIn wsX5_record (wsV RX5 107 RX5 yX5_fails wsX5_fails) := goodIn_app (goodIn_of _ (by decide +kernel)) ggX5_record_X5_fails
theorem dX5_record_0 : decode cX5_record 0 = .ok (.aload_n 0, 1) := by decide +kernel
theorem dX5_record_1 : decode cX5_record 1 = .ok (.iload_n 1, 1) := by decide +kernel
theorem dX5_record_2 : decode cX5_record 2 = .ok (.iconst 0, 1) := by decide +kernel
theorem dX5_record_3 : decode cX5_record 3 = .ok (.iconst 2, 1) := by decide +kernel
theorem dX5_record_4 : decode cX5_record 4 = .ok (.invokestatic 82, 3) := by decide +kernel
theorem dX5_record_7 : decode cX5_record 7 = .ok (.ifCond .eq 48, 3) := by decide +kernel
theorem dX5_record_10 : decode cX5_record 10 = .ok (.iload_n 2, 1) := by decide +kernel
theorem dX5_record_11 : decode cX5_record 11 = .ok (.iconst 0, 1) := by decide +kernel
theorem dX5_record_12 : decode cX5_record 12 = .ok (.sipush 9999, 3) := by decide +kernel
theorem dX5_record_15 : decode cX5_record 15 = .ok (.invokestatic 82, 3) := by decide +kernel
theorem dX5_record_18 : decode cX5_record 18 = .ok (.ifCond .eq 37, 3) := by decide +kernel
theorem dX5_record_21 : decode cX5_record 21 = .ok (.iload_n 3, 1) := by decide +kernel
theorem dX5_record_22 : decode cX5_record 22 = .ok (.invokestatic 98, 3) := by decide +kernel
theorem dX5_record_25 : decode cX5_record 25 = .ok (.ifCond .eq 30, 3) := by decide +kernel
theorem dX5_record_28 : decode cX5_record 28 = .ok (.iload 4, 2) := by decide +kernel
theorem dX5_record_30 : decode cX5_record 30 = .ok (.iconst 0, 1) := by decide +kernel
theorem dX5_record_31 : decode cX5_record 31 = .ok (.ldc 102, 2) := by decide +kernel
theorem dX5_record_33 : decode cX5_record 33 = .ok (.invokestatic 82, 3) := by decide +kernel
theorem dX5_record_36 : decode cX5_record 36 = .ok (.ifCond .eq 19, 3) := by decide +kernel
theorem dX5_record_39 : decode cX5_record 39 = .ok (.iload 5, 2) := by decide +kernel
theorem dX5_record_41 : decode cX5_record 41 = .ok (.iconst 0, 1) := by decide +kernel
theorem dX5_record_42 : decode cX5_record 42 = .ok (.sipush 10000, 3) := by decide +kernel
theorem dX5_record_45 : decode cX5_record 45 = .ok (.invokestatic 82, 3) := by decide +kernel
theorem dX5_record_48 : decode cX5_record 48 = .ok (.ifCond .eq 7, 3) := by decide +kernel
theorem dX5_record_51 : decode cX5_record 51 = .ok (.iconst 1, 1) := by decide +kernel
theorem dX5_record_52 : decode cX5_record 52 = .ok (.goto 4, 3) := by decide +kernel
theorem dX5_record_55 : decode cX5_record 55 = .ok (.iconst 0, 1) := by decide +kernel
theorem dX5_record_56 : decode cX5_record 56 = .ok (.invokevirtual 87, 3) := by decide +kernel
theorem dX5_record_59 : decode cX5_record 59 = .ok (.ifCond .ne 5, 3) := by decide +kernel
theorem dX5_record_62 : decode cX5_record 62 = .ok (.iconst 0, 1) := by decide +kernel
theorem dX5_record_63 : decode cX5_record 63 = .ok (.ireturn, 1) := by decide +kernel
theorem dX5_record_64 : decode cX5_record 64 = .ok (.sipush 157, 3) := by decide +kernel
theorem dX5_record_67 : decode cX5_record 67 = .ok (.iload_n 1, 1) := by decide +kernel
theorem dX5_record_68 : decode cX5_record 68 = .ok (.imul, 1) := by decide +kernel
theorem dX5_record_69 : decode cX5_record 69 = .ok (.iload_n 2, 1) := by decide +kernel
theorem dX5_record_70 : decode cX5_record 70 = .ok (.bipush 64, 2) := by decide +kernel
theorem dX5_record_72 : decode cX5_record 72 = .ok (.idiv, 1) := by decide +kernel
theorem dX5_record_73 : decode cX5_record 73 = .ok (.iadd, 1) := by decide +kernel
theorem dX5_record_74 : decode cX5_record 74 = .ok (.istore 6, 2) := by decide +kernel
theorem dX5_record_76 : decode cX5_record 76 = .ok (.aload_n 0, 1) := by decide +kernel
theorem dX5_record_77 : decode cX5_record 77 = .ok (.getfield 13, 3) := by decide +kernel
theorem dX5_record_80 : decode cX5_record 80 = .ok (.iload 6, 2) := by decide +kernel
theorem dX5_record_82 : decode cX5_record 82 = .ok (.laload, 1) := by decide +kernel
theorem dX5_record_83 : decode cX5_record 83 = .ok (.iload_n 2, 1) := by decide +kernel
theorem dX5_record_84 : decode cX5_record 84 = .ok (.bipush 64, 2) := by decide +kernel
theorem dX5_record_86 : decode cX5_record 86 = .ok (.irem, 1) := by decide +kernel
theorem dX5_record_87 : decode cX5_record 87 = .ok (.lshr, 1) := by decide +kernel
theorem dX5_record_88 : decode cX5_record 88 = .ok (.lconst 1, 1) := by decide +kernel
theorem dX5_record_89 : decode cX5_record 89 = .ok (.land, 1) := by decide +kernel
theorem dX5_record_90 : decode cX5_record 90 = .ok (.lconst 1, 1) := by decide +kernel
theorem dX5_record_91 : decode cX5_record 91 = .ok (.lcmp, 1) := by decide +kernel
theorem dX5_record_92 : decode cX5_record 92 = .ok (.ifCond .ne 15, 3) := by decide +kernel
theorem dX5_record_95 : decode cX5_record 95 = .ok (.aload_n 0, 1) := by decide +kernel
theorem dX5_record_96 : decode cX5_record 96 = .ok (.getfield 27, 3) := by decide +kernel
theorem dX5_record_99 : decode cX5_record 99 = .ok (.iload_n 1, 1) := by decide +kernel
theorem dX5_record_100 : decode cX5_record 100 = .ok (.dup2, 1) := by decide +kernel
theorem dX5_record_101 : decode cX5_record 101 = .ok (.iaload, 1) := by decide +kernel
theorem dX5_record_102 : decode cX5_record 102 = .ok (.iconst 1, 1) := by decide +kernel
theorem dX5_record_103 : decode cX5_record 103 = .ok (.iadd, 1) := by decide +kernel
theorem dX5_record_104 : decode cX5_record 104 = .ok (.iastore, 1) := by decide +kernel
theorem dX5_record_105 : decode cX5_record 105 = .ok (.iconst (-1), 1) := by decide +kernel
theorem dX5_record_106 : decode cX5_record 106 = .ok (.ireturn, 1) := by decide +kernel
theorem dX5_record_107 : decode cX5_record 107 = .ok (.aload_n 0, 1) := by decide +kernel
theorem dX5_record_108 : decode cX5_record 108 = .ok (.iload_n 1, 1) := by decide +kernel
theorem dX5_record_109 : decode cX5_record 109 = .ok (.iload_n 3, 1) := by decide +kernel
theorem dX5_record_110 : decode cX5_record 110 = .ok (.iload 4, 2) := by decide +kernel
theorem dX5_record_112 : decode cX5_record 112 = .ok (.iload 5, 2) := by decide +kernel
theorem dX5_record_114 : decode cX5_record 114 = .ok (.invokevirtual 103, 3) := by decide +kernel
theorem dX5_record_117 : decode cX5_record 117 = .ok (.istore 7, 2) := by decide +kernel
theorem dX5_record_119 : decode cX5_record 119 = .ok (.iload 7, 2) := by decide +kernel
theorem dX5_record_121 : decode cX5_record 121 = .ok (.bipush 60, 2) := by decide +kernel
theorem dX5_record_123 : decode cX5_record 123 = .ok (.if_icmp .ne 9, 3) := by decide +kernel
theorem dX5_record_126 : decode cX5_record 126 = .ok (.aload_n 0, 1) := by decide +kernel
theorem dX5_record_127 : decode cX5_record 127 = .ok (.iconst 2, 1) := by decide +kernel
theorem dX5_record_128 : decode cX5_record 128 = .ok (.invokevirtual 107, 3) := by decide +kernel
theorem dX5_record_131 : decode cX5_record 131 = .ok (.ireturn, 1) := by decide +kernel
theorem dX5_record_132 : decode cX5_record 132 = .ok (.aload_n 0, 1) := by decide +kernel
theorem dX5_record_133 : decode cX5_record 133 = .ok (.getfield 13, 3) := by decide +kernel
theorem dX5_record_136 : decode cX5_record 136 = .ok (.iload 6, 2) := by decide +kernel
theorem dX5_record_138 : decode cX5_record 138 = .ok (.dup2, 1) := by decide +kernel
theorem dX5_record_139 : decode cX5_record 139 = .ok (.laload, 1) := by decide +kernel
theorem dX5_record_140 : decode cX5_record 140 = .ok (.lconst 1, 1) := by decide +kernel
theorem dX5_record_141 : decode cX5_record 141 = .ok (.iload_n 2, 1) := by decide +kernel
theorem dX5_record_142 : decode cX5_record 142 = .ok (.bipush 64, 2) := by decide +kernel
theorem dX5_record_144 : decode cX5_record 144 = .ok (.irem, 1) := by decide +kernel
theorem dX5_record_145 : decode cX5_record 145 = .ok (.lshl, 1) := by decide +kernel
theorem dX5_record_146 : decode cX5_record 146 = .ok (.lor, 1) := by decide +kernel
theorem dX5_record_147 : decode cX5_record 147 = .ok (.lastore, 1) := by decide +kernel
theorem dX5_record_148 : decode cX5_record 148 = .ok (.aload_n 0, 1) := by decide +kernel
theorem dX5_record_149 : decode cX5_record 149 = .ok (.getfield 21, 3) := by decide +kernel
theorem dX5_record_152 : decode cX5_record 152 = .ok (.iload_n 1, 1) := by decide +kernel
theorem dX5_record_153 : decode cX5_record 153 = .ok (.aload_n 0, 1) := by decide +kernel
theorem dX5_record_154 : decode cX5_record 154 = .ok (.getfield 17, 3) := by decide +kernel
theorem dX5_record_157 : decode cX5_record 157 = .ok (.iload_n 1, 1) := by decide +kernel
theorem dX5_record_158 : decode cX5_record 158 = .ok (.iaload, 1) := by decide +kernel
theorem dX5_record_159 : decode cX5_record 159 = .ok (.ifCond .eq 13, 3) := by decide +kernel
theorem dX5_record_162 : decode cX5_record 162 = .ok (.iload_n 2, 1) := by decide +kernel
theorem dX5_record_163 : decode cX5_record 163 = .ok (.aload_n 0, 1) := by decide +kernel
theorem dX5_record_164 : decode cX5_record 164 = .ok (.getfield 21, 3) := by decide +kernel
theorem dX5_record_167 : decode cX5_record 167 = .ok (.iload_n 1, 1) := by decide +kernel
theorem dX5_record_168 : decode cX5_record 168 = .ok (.iaload, 1) := by decide +kernel
theorem dX5_record_169 : decode cX5_record 169 = .ok (.if_icmp .ge 7, 3) := by decide +kernel
theorem dX5_record_172 : decode cX5_record 172 = .ok (.iload_n 2, 1) := by decide +kernel
theorem dX5_record_173 : decode cX5_record 173 = .ok (.goto 9, 3) := by decide +kernel
theorem dX5_record_176 : decode cX5_record 176 = .ok (.aload_n 0, 1) := by decide +kernel
theorem dX5_record_177 : decode cX5_record 177 = .ok (.getfield 21, 3) := by decide +kernel
theorem dX5_record_180 : decode cX5_record 180 = .ok (.iload_n 1, 1) := by decide +kernel
theorem dX5_record_181 : decode cX5_record 181 = .ok (.iaload, 1) := by decide +kernel
theorem dX5_record_182 : decode cX5_record 182 = .ok (.iastore, 1) := by decide +kernel
theorem dX5_record_183 : decode cX5_record 183 = .ok (.aload_n 0, 1) := by decide +kernel
theorem dX5_record_184 : decode cX5_record 184 = .ok (.getfield 24, 3) := by decide +kernel
theorem dX5_record_187 : decode cX5_record 187 = .ok (.iload_n 1, 1) := by decide +kernel
theorem dX5_record_188 : decode cX5_record 188 = .ok (.aload_n 0, 1) := by decide +kernel
theorem dX5_record_189 : decode cX5_record 189 = .ok (.getfield 17, 3) := by decide +kernel
theorem dX5_record_192 : decode cX5_record 192 = .ok (.iload_n 1, 1) := by decide +kernel
theorem dX5_record_193 : decode cX5_record 193 = .ok (.iaload, 1) := by decide +kernel
theorem dX5_record_194 : decode cX5_record 194 = .ok (.ifCond .eq 13, 3) := by decide +kernel
theorem dX5_record_197 : decode cX5_record 197 = .ok (.iload_n 2, 1) := by decide +kernel
theorem dX5_record_198 : decode cX5_record 198 = .ok (.aload_n 0, 1) := by decide +kernel
theorem dX5_record_199 : decode cX5_record 199 = .ok (.getfield 24, 3) := by decide +kernel
theorem dX5_record_202 : decode cX5_record 202 = .ok (.iload_n 1, 1) := by decide +kernel
theorem dX5_record_203 : decode cX5_record 203 = .ok (.iaload, 1) := by decide +kernel
theorem dX5_record_204 : decode cX5_record 204 = .ok (.if_icmp .le 7, 3) := by decide +kernel
theorem dX5_record_207 : decode cX5_record 207 = .ok (.iload_n 2, 1) := by decide +kernel
theorem dX5_record_208 : decode cX5_record 208 = .ok (.goto 9, 3) := by decide +kernel
theorem dX5_record_211 : decode cX5_record 211 = .ok (.aload_n 0, 1) := by decide +kernel
theorem dX5_record_212 : decode cX5_record 212 = .ok (.getfield 24, 3) := by decide +kernel
theorem dX5_record_215 : decode cX5_record 215 = .ok (.iload_n 1, 1) := by decide +kernel
theorem dX5_record_216 : decode cX5_record 216 = .ok (.iaload, 1) := by decide +kernel
theorem dX5_record_217 : decode cX5_record 217 = .ok (.iastore, 1) := by decide +kernel
theorem dX5_record_218 : decode cX5_record 218 = .ok (.aload_n 0, 1) := by decide +kernel
theorem dX5_record_219 : decode cX5_record 219 = .ok (.getfield 17, 3) := by decide +kernel
theorem dX5_record_222 : decode cX5_record 222 = .ok (.iload_n 1, 1) := by decide +kernel
theorem dX5_record_223 : decode cX5_record 223 = .ok (.dup2, 1) := by decide +kernel
theorem dX5_record_224 : decode cX5_record 224 = .ok (.iaload, 1) := by decide +kernel
theorem dX5_record_225 : decode cX5_record 225 = .ok (.iconst 1, 1) := by decide +kernel
theorem dX5_record_226 : decode cX5_record 226 = .ok (.iadd, 1) := by decide +kernel
theorem dX5_record_227 : decode cX5_record 227 = .ok (.iastore, 1) := by decide +kernel
theorem dX5_record_228 : decode cX5_record 228 = .ok (.iload 7, 2) := by decide +kernel
theorem dX5_record_230 : decode cX5_record 230 = .ok (.aload_n 0, 1) := by decide +kernel
theorem dX5_record_231 : decode cX5_record 231 = .ok (.getfield 91, 3) := by decide +kernel
theorem dX5_record_234 : decode cX5_record 234 = .ok (.if_icmp .ne 39, 3) := by decide +kernel
theorem dX5_record_237 : decode cX5_record 237 = .ok (.aload_n 0, 1) := by decide +kernel
theorem dX5_record_238 : decode cX5_record 238 = .ok (.getfield 30, 3) := by decide +kernel
theorem dX5_record_241 : decode cX5_record 241 = .ok (.iload 7, 2) := by decide +kernel
theorem dX5_record_243 : decode cX5_record 243 = .ok (.iload_n 3, 1) := by decide +kernel
theorem dX5_record_244 : decode cX5_record 244 = .ok (.iastore, 1) := by decide +kernel
theorem dX5_record_245 : decode cX5_record 245 = .ok (.aload_n 0, 1) := by decide +kernel
theorem dX5_record_246 : decode cX5_record 246 = .ok (.getfield 33, 3) := by decide +kernel
theorem dX5_record_249 : decode cX5_record 249 = .ok (.iload 7, 2) := by decide +kernel
theorem dX5_record_251 : decode cX5_record 251 = .ok (.iload 4, 2) := by decide +kernel
theorem dX5_record_253 : decode cX5_record 253 = .ok (.iastore, 1) := by decide +kernel
theorem dX5_record_254 : decode cX5_record 254 = .ok (.aload_n 0, 1) := by decide +kernel
theorem dX5_record_255 : decode cX5_record 255 = .ok (.getfield 36, 3) := by decide +kernel
theorem dX5_record_258 : decode cX5_record 258 = .ok (.iload 7, 2) := by decide +kernel
theorem dX5_record_260 : decode cX5_record 260 = .ok (.iload 5, 2) := by decide +kernel
theorem dX5_record_262 : decode cX5_record 262 = .ok (.iastore, 1) := by decide +kernel
theorem dX5_record_263 : decode cX5_record 263 = .ok (.aload_n 0, 1) := by decide +kernel
theorem dX5_record_264 : decode cX5_record 264 = .ok (.dup, 1) := by decide +kernel
theorem dX5_record_265 : decode cX5_record 265 = .ok (.getfield 91, 3) := by decide +kernel
theorem dX5_record_268 : decode cX5_record 268 = .ok (.iconst 1, 1) := by decide +kernel
theorem dX5_record_269 : decode cX5_record 269 = .ok (.iadd, 1) := by decide +kernel
theorem dX5_record_270 : decode cX5_record 270 = .ok (.putfield 91, 3) := by decide +kernel
theorem dX5_record_273 : decode cX5_record 273 = .ok (.aload_n 0, 1) := by decide +kernel
theorem dX5_record_274 : decode cX5_record 274 = .ok (.getfield 42, 3) := by decide +kernel
theorem dX5_record_277 : decode cX5_record 277 = .ok (.iload 7, 2) := by decide +kernel
theorem dX5_record_279 : decode cX5_record 279 = .ok (.dup2, 1) := by decide +kernel
theorem dX5_record_280 : decode cX5_record 280 = .ok (.iaload, 1) := by decide +kernel
theorem dX5_record_281 : decode cX5_record 281 = .ok (.iconst 1, 1) := by decide +kernel
theorem dX5_record_282 : decode cX5_record 282 = .ok (.iload_n 1, 1) := by decide +kernel
theorem dX5_record_283 : decode cX5_record 283 = .ok (.ishl, 1) := by decide +kernel
theorem dX5_record_284 : decode cX5_record 284 = .ok (.iadd, 1) := by decide +kernel
theorem dX5_record_285 : decode cX5_record 285 = .ok (.iastore, 1) := by decide +kernel
theorem dX5_record_286 : decode cX5_record 286 = .ok (.aload_n 0, 1) := by decide +kernel
theorem dX5_record_287 : decode cX5_record 287 = .ok (.getfield 39, 3) := by decide +kernel
theorem dX5_record_290 : decode cX5_record 290 = .ok (.iload 7, 2) := by decide +kernel
theorem dX5_record_292 : decode cX5_record 292 = .ok (.iload 5, 2) := by decide +kernel
theorem dX5_record_294 : decode cX5_record 294 = .ok (.aload_n 0, 1) := by decide +kernel
theorem dX5_record_295 : decode cX5_record 295 = .ok (.getfield 39, 3) := by decide +kernel
theorem dX5_record_298 : decode cX5_record 298 = .ok (.iload 7, 2) := by decide +kernel
theorem dX5_record_300 : decode cX5_record 300 = .ok (.iaload, 1) := by decide +kernel
theorem dX5_record_301 : decode cX5_record 301 = .ok (.if_icmp .le 8, 3) := by decide +kernel
theorem dX5_record_304 : decode cX5_record 304 = .ok (.iload 5, 2) := by decide +kernel
theorem dX5_record_306 : decode cX5_record 306 = .ok (.goto 10, 3) := by decide +kernel
theorem dX5_record_309 : decode cX5_record 309 = .ok (.aload_n 0, 1) := by decide +kernel
theorem dX5_record_310 : decode cX5_record 310 = .ok (.getfield 39, 3) := by decide +kernel
theorem dX5_record_313 : decode cX5_record 313 = .ok (.iload 7, 2) := by decide +kernel
theorem dX5_record_315 : decode cX5_record 315 = .ok (.iaload, 1) := by decide +kernel
theorem dX5_record_316 : decode cX5_record 316 = .ok (.iastore, 1) := by decide +kernel
theorem dX5_record_317 : decode cX5_record 317 = .ok (.iload 7, 2) := by decide +kernel
theorem dX5_record_319 : decode cX5_record 319 = .ok (.ireturn, 1) := by decide +kernel
set_option maxRecDepth 20000 in
theorem ggX5_gaps_X5_in : GoodIn wsX5_gaps wsX5_in := goodIn_r _ [7] (by decide +kernel) (by decide +kernel)
set_option maxRecDepth 20000 in
theorem gX5_gaps_X5_in : GoodIn wsX5_gaps (va_wsS RX5 82 yX5_in wsX5_in) := goodIn_app (goodIn_of _ (by decide +kernel)) ggX5_gaps_X5_in
set_option maxRecDepth 20000 in
theorem ggX5_gaps_X5_asks : GoodIn wsX5_gaps wsX5_asks := goodIn_r _ [11, 12, 13, 14, 15, 16, 17, 18, 19, 20, 21, 22, 23, 24, 25, 26, 27, 28, 29, 30, 31, 32, 33, 34, 35, 36, 37, 38] (by decide +kernel) (by decide +kernel)
set_option maxRecDepth 20000 in
theorem gX5_gaps_X5_asks : GoodIn wsX5_gaps (wsV RX5 87 RX5 yX5_asks wsX5_asks) := goodIn_app (goodIn_of _ (by decide +kernel)) ggX5_gaps_X5_asks
theorem dX5_gaps_0 : decode cX5_gaps 0 = .ok (.aload_n 0, 1) := by decide +kernel
theorem dX5_gaps_1 : decode cX5_gaps 1 = .ok (.iload_n 1, 1) := by decide +kernel
theorem dX5_gaps_2 : decode cX5_gaps 2 = .ok (.iconst 0, 1) := by decide +kernel
theorem dX5_gaps_3 : decode cX5_gaps 3 = .ok (.iconst 2, 1) := by decide +kernel
theorem dX5_gaps_4 : decode cX5_gaps 4 = .ok (.invokestatic 82, 3) := by decide +kernel
theorem dX5_gaps_7 : decode cX5_gaps 7 = .ok (.invokevirtual 87, 3) := by decide +kernel
theorem dX5_gaps_10 : decode cX5_gaps 10 = .ok (.ifCond .ne 5, 3) := by decide +kernel
theorem dX5_gaps_13 : decode cX5_gaps 13 = .ok (.iconst 0, 1) := by decide +kernel
theorem dX5_gaps_14 : decode cX5_gaps 14 = .ok (.ireturn, 1) := by decide +kernel
theorem dX5_gaps_15 : decode cX5_gaps 15 = .ok (.aload_n 0, 1) := by decide +kernel
theorem dX5_gaps_16 : decode cX5_gaps 16 = .ok (.getfield 17, 3) := by decide +kernel
theorem dX5_gaps_19 : decode cX5_gaps 19 = .ok (.iload_n 1, 1) := by decide +kernel
theorem dX5_gaps_20 : decode cX5_gaps 20 = .ok (.iaload, 1) := by decide +kernel
theorem dX5_gaps_21 : decode cX5_gaps 21 = .ok (.ifCond .ne 7, 3) := by decide +kernel
theorem dX5_gaps_24 : decode cX5_gaps 24 = .ok (.iconst 0, 1) := by decide +kernel
theorem dX5_gaps_25 : decode cX5_gaps 25 = .ok (.goto 25, 3) := by decide +kernel
theorem dX5_gaps_28 : decode cX5_gaps 28 = .ok (.aload_n 0, 1) := by decide +kernel
theorem dX5_gaps_29 : decode cX5_gaps 29 = .ok (.getfield 24, 3) := by decide +kernel
theorem dX5_gaps_32 : decode cX5_gaps 32 = .ok (.iload_n 1, 1) := by decide +kernel
theorem dX5_gaps_33 : decode cX5_gaps 33 = .ok (.iaload, 1) := by decide +kernel
theorem dX5_gaps_34 : decode cX5_gaps 34 = .ok (.aload_n 0, 1) := by decide +kernel
theorem dX5_gaps_35 : decode cX5_gaps 35 = .ok (.getfield 21, 3) := by decide +kernel
theorem dX5_gaps_38 : decode cX5_gaps 38 = .ok (.iload_n 1, 1) := by decide +kernel
theorem dX5_gaps_39 : decode cX5_gaps 39 = .ok (.iaload, 1) := by decide +kernel
theorem dX5_gaps_40 : decode cX5_gaps 40 = .ok (.isub, 1) := by decide +kernel
theorem dX5_gaps_41 : decode cX5_gaps 41 = .ok (.iconst 1, 1) := by decide +kernel
theorem dX5_gaps_42 : decode cX5_gaps 42 = .ok (.iadd, 1) := by decide +kernel
theorem dX5_gaps_43 : decode cX5_gaps 43 = .ok (.aload_n 0, 1) := by decide +kernel
theorem dX5_gaps_44 : decode cX5_gaps 44 = .ok (.getfield 17, 3) := by decide +kernel
theorem dX5_gaps_47 : decode cX5_gaps 47 = .ok (.iload_n 1, 1) := by decide +kernel
theorem dX5_gaps_48 : decode cX5_gaps 48 = .ok (.iaload, 1) := by decide +kernel
theorem dX5_gaps_49 : decode cX5_gaps 49 = .ok (.isub, 1) := by decide +kernel
theorem dX5_gaps_50 : decode cX5_gaps 50 = .ok (.ireturn, 1) := by decide +kernel
set_option maxRecDepth 20000 in
theorem ggX5_doubles_X5_in : GoodIn wsX5_doubles wsX5_in := goodIn_r _ [5] (by decide +kernel) (by decide +kernel)
set_option maxRecDepth 20000 in
theorem gX5_doubles_X5_in : GoodIn wsX5_doubles (va_wsS RX5 82 yX5_in wsX5_in) := goodIn_app (goodIn_of _ (by decide +kernel)) ggX5_doubles_X5_in
set_option maxRecDepth 20000 in
theorem ggX5_doubles_X5_asks : GoodIn wsX5_doubles wsX5_asks := goodIn_r _ [9, 10, 11, 12, 13, 14, 15, 16, 17, 18, 19, 20, 21, 22, 23, 24, 25, 26, 27, 28, 29, 30, 31, 32, 33, 34, 35, 36] (by decide +kernel) (by decide +kernel)
set_option maxRecDepth 20000 in
theorem gX5_doubles_X5_asks : GoodIn wsX5_doubles (wsV RX5 87 RX5 yX5_asks wsX5_asks) := goodIn_app (goodIn_of _ (by decide +kernel)) ggX5_doubles_X5_asks
theorem dX5_doubles_0 : decode cX5_doubles 0 = .ok (.aload_n 0, 1) := by decide +kernel
theorem dX5_doubles_1 : decode cX5_doubles 1 = .ok (.iload_n 1, 1) := by decide +kernel
theorem dX5_doubles_2 : decode cX5_doubles 2 = .ok (.iconst 0, 1) := by decide +kernel
theorem dX5_doubles_3 : decode cX5_doubles 3 = .ok (.iconst 2, 1) := by decide +kernel
theorem dX5_doubles_4 : decode cX5_doubles 4 = .ok (.invokestatic 82, 3) := by decide +kernel
theorem dX5_doubles_7 : decode cX5_doubles 7 = .ok (.invokevirtual 87, 3) := by decide +kernel
theorem dX5_doubles_10 : decode cX5_doubles 10 = .ok (.ifCond .eq 12, 3) := by decide +kernel
theorem dX5_doubles_13 : decode cX5_doubles 13 = .ok (.aload_n 0, 1) := by decide +kernel
theorem dX5_doubles_14 : decode cX5_doubles 14 = .ok (.getfield 27, 3) := by decide +kernel
theorem dX5_doubles_17 : decode cX5_doubles 17 = .ok (.iload_n 1, 1) := by decide +kernel
theorem dX5_doubles_18 : decode cX5_doubles 18 = .ok (.iaload, 1) := by decide +kernel
theorem dX5_doubles_19 : decode cX5_doubles 19 = .ok (.goto 4, 3) := by decide +kernel
theorem dX5_doubles_22 : decode cX5_doubles 22 = .ok (.iconst 0, 1) := by decide +kernel
theorem dX5_doubles_23 : decode cX5_doubles 23 = .ok (.ireturn, 1) := by decide +kernel
theorem dX5_calls_0 : decode cX5_calls 0 = .ok (.aload_n 0, 1) := by decide +kernel
theorem dX5_calls_1 : decode cX5_calls 1 = .ok (.iconst 0, 1) := by decide +kernel
theorem dX5_calls_2 : decode cX5_calls 2 = .ok (.putfield 78, 3) := by decide +kernel
theorem dX5_calls_5 : decode cX5_calls 5 = .ok (.aload_n 0, 1) := by decide +kernel
theorem dX5_calls_6 : decode cX5_calls 6 = .ok (.getfield 91, 3) := by decide +kernel
theorem dX5_calls_9 : decode cX5_calls 9 = .ok (.ireturn, 1) := by decide +kernel
theorem dX5_isCall_0 : decode cX5_isCall 0 = .ok (.iload_n 1, 1) := by decide +kernel
theorem dX5_isCall_1 : decode cX5_isCall 1 = .ok (.ifCond .lt 15, 3) := by decide +kernel
theorem dX5_isCall_4 : decode cX5_isCall 4 = .ok (.iload_n 1, 1) := by decide +kernel
theorem dX5_isCall_5 : decode cX5_isCall 5 = .ok (.aload_n 0, 1) := by decide +kernel
theorem dX5_isCall_6 : decode cX5_isCall 6 = .ok (.getfield 91, 3) := by decide +kernel
theorem dX5_isCall_9 : decode cX5_isCall 9 = .ok (.if_icmp .ge 7, 3) := by decide +kernel
theorem dX5_isCall_12 : decode cX5_isCall 12 = .ok (.iconst 1, 1) := by decide +kernel
theorem dX5_isCall_13 : decode cX5_isCall 13 = .ok (.goto 4, 3) := by decide +kernel
theorem dX5_isCall_16 : decode cX5_isCall 16 = .ok (.iconst 0, 1) := by decide +kernel
theorem dX5_isCall_17 : decode cX5_isCall 17 = .ok (.ireturn, 1) := by decide +kernel
set_option maxRecDepth 20000 in
theorem ggX5_legs_X5_isCall : GoodIn wsX5_legs wsX5_isCall := goodIn_r _ [6, 7, 13, 14, 15, 16, 17, 18, 19, 20, 21, 22, 23, 24, 25, 26, 27, 28, 29, 30, 31, 32, 33, 34, 35, 36, 37, 38] (by decide +kernel) (by decide +kernel)
set_option maxRecDepth 20000 in
theorem gX5_legs_X5_isCall : GoodIn wsX5_legs (wsV RX5 111 RX5 yX5_isCall wsX5_isCall) := goodIn_app (goodIn_of _ (by decide +kernel)) ggX5_legs_X5_isCall
set_option maxRecDepth 20000 in
theorem ggX5_legs_X5_asks : GoodIn wsX5_legs wsX5_asks := goodIn_r _ [11, 12, 13, 14, 15, 16, 17, 18, 19, 20, 21, 22, 23, 24, 25, 26, 27, 28, 29, 30, 31, 32, 33, 34, 35, 36, 37, 38] (by decide +kernel) (by decide +kernel)
set_option maxRecDepth 20000 in
theorem gX5_legs_X5_asks : GoodIn wsX5_legs (wsV RX5 87 RX5 yX5_asks wsX5_asks) := goodIn_app (goodIn_of _ (by decide +kernel)) ggX5_legs_X5_asks
theorem dX5_legs_0 : decode cX5_legs 0 = .ok (.aload_n 0, 1) := by decide +kernel
theorem dX5_legs_1 : decode cX5_legs 1 = .ok (.aload_n 0, 1) := by decide +kernel
theorem dX5_legs_2 : decode cX5_legs 2 = .ok (.iload_n 1, 1) := by decide +kernel
theorem dX5_legs_3 : decode cX5_legs 3 = .ok (.invokevirtual 111, 3) := by decide +kernel
theorem dX5_legs_6 : decode cX5_legs 6 = .ok (.invokevirtual 87, 3) := by decide +kernel
theorem dX5_legs_9 : decode cX5_legs 9 = .ok (.ifCond .eq 12, 3) := by decide +kernel
theorem dX5_legs_12 : decode cX5_legs 12 = .ok (.aload_n 0, 1) := by decide +kernel
theorem dX5_legs_13 : decode cX5_legs 13 = .ok (.getfield 42, 3) := by decide +kernel
theorem dX5_legs_16 : decode cX5_legs 16 = .ok (.iload_n 1, 1) := by decide +kernel
theorem dX5_legs_17 : decode cX5_legs 17 = .ok (.iaload, 1) := by decide +kernel
theorem dX5_legs_18 : decode cX5_legs 18 = .ok (.goto 4, 3) := by decide +kernel
theorem dX5_legs_21 : decode cX5_legs 21 = .ok (.iconst 0, 1) := by decide +kernel
theorem dX5_legs_22 : decode cX5_legs 22 = .ok (.ireturn, 1) := by decide +kernel
set_option maxRecDepth 20000 in
theorem ggX5_length_X5_isCall : GoodIn wsX5_length wsX5_isCall := goodIn_r _ [6, 7, 13, 14, 15, 16, 17, 18, 19, 20, 21, 22, 23, 24, 25, 26, 27, 28, 29, 30, 31, 32, 33, 34, 35, 36, 37, 38] (by decide +kernel) (by decide +kernel)
set_option maxRecDepth 20000 in
theorem gX5_length_X5_isCall : GoodIn wsX5_length (wsV RX5 111 RX5 yX5_isCall wsX5_isCall) := goodIn_app (goodIn_of _ (by decide +kernel)) ggX5_length_X5_isCall
set_option maxRecDepth 20000 in
theorem ggX5_length_X5_asks : GoodIn wsX5_length wsX5_asks := goodIn_r _ [11, 12, 13, 14, 15, 16, 17, 18, 19, 20, 21, 22, 23, 24, 25, 26, 27, 28, 29, 30, 31, 32, 33, 34, 35, 36, 37, 38] (by decide +kernel) (by decide +kernel)
set_option maxRecDepth 20000 in
theorem gX5_length_X5_asks : GoodIn wsX5_length (wsV RX5 87 RX5 yX5_asks wsX5_asks) := goodIn_app (goodIn_of _ (by decide +kernel)) ggX5_length_X5_asks
theorem dX5_length_0 : decode cX5_length 0 = .ok (.aload_n 0, 1) := by decide +kernel
theorem dX5_length_1 : decode cX5_length 1 = .ok (.aload_n 0, 1) := by decide +kernel
theorem dX5_length_2 : decode cX5_length 2 = .ok (.iload_n 1, 1) := by decide +kernel
theorem dX5_length_3 : decode cX5_length 3 = .ok (.invokevirtual 111, 3) := by decide +kernel
theorem dX5_length_6 : decode cX5_length 6 = .ok (.invokevirtual 87, 3) := by decide +kernel
theorem dX5_length_9 : decode cX5_length 9 = .ok (.ifCond .eq 12, 3) := by decide +kernel
theorem dX5_length_12 : decode cX5_length 12 = .ok (.aload_n 0, 1) := by decide +kernel
theorem dX5_length_13 : decode cX5_length 13 = .ok (.getfield 39, 3) := by decide +kernel
theorem dX5_length_16 : decode cX5_length 16 = .ok (.iload_n 1, 1) := by decide +kernel
theorem dX5_length_17 : decode cX5_length 17 = .ok (.iaload, 1) := by decide +kernel
theorem dX5_length_18 : decode cX5_length 18 = .ok (.goto 4, 3) := by decide +kernel
theorem dX5_length_21 : decode cX5_length 21 = .ok (.iconst 0, 1) := by decide +kernel
theorem dX5_length_22 : decode cX5_length 22 = .ok (.ireturn, 1) := by decide +kernel
set_option maxRecDepth 20000 in
theorem ggX5_addRate_X5_isPrefix : GoodIn wsX5_addRate wsX5_isPrefix := goodIn_r _ [11, 12, 13, 14, 10, 15] (by decide +kernel) (by decide +kernel)
set_option maxRecDepth 20000 in
theorem gX5_addRate_X5_isPrefix : GoodIn wsX5_addRate (va_wsS RX5 114 yX5_isPrefix wsX5_isPrefix) := goodIn_app (goodIn_of _ (by decide +kernel)) ggX5_addRate_X5_isPrefix
set_option maxRecDepth 20000 in
theorem ggX5_addRate_X5_in : GoodIn wsX5_addRate wsX5_in := goodIn_r _ [15] (by decide +kernel) (by decide +kernel)
set_option maxRecDepth 20000 in
theorem gX5_addRate_X5_in : GoodIn wsX5_addRate (va_wsS RX5 82 yX5_in wsX5_in) := goodIn_app (goodIn_of _ (by decide +kernel)) ggX5_addRate_X5_in
set_option maxRecDepth 20000 in
theorem ggX5_addRate_X5_asks : GoodIn wsX5_addRate wsX5_asks := goodIn_r _ [19, 20, 25, 26, 27, 28, 29, 30, 31, 32, 33, 34, 35, 36, 37, 38, 39, 40, 41, 42, 43, 44, 45, 46, 47, 48, 49, 50] (by decide +kernel) (by decide +kernel)
set_option maxRecDepth 20000 in
theorem gX5_addRate_X5_asks : GoodIn wsX5_addRate (wsV RX5 87 RX5 yX5_asks wsX5_asks) := goodIn_app (goodIn_of _ (by decide +kernel)) ggX5_addRate_X5_asks
set_option maxRecDepth 20000 in
theorem ggX5_addRate_X5_fails : GoodIn wsX5_addRate wsX5_fails := goodIn_r _ [24, 20, 25, 26, 27, 28, 29, 30, 31, 32, 33, 34, 35, 36, 37, 38, 39, 40, 41, 42, 43, 44, 45, 46, 47, 48, 49, 50] (by decide +kernel) (by decide +kernel)
set_option maxRecDepth 20000 in
theorem gX5_addRate_X5_fails : GoodIn wsX5_addRate (wsV RX5 107 RX5 yX5_fails wsX5_fails) := goodIn_app (goodIn_of _ (by decide +kernel)) ggX5_addRate_X5_fails
theorem dX5_addRate_0 : decode cX5_addRate 0 = .ok (.aload_n 0, 1) := by decide +kernel
theorem dX5_addRate_1 : decode cX5_addRate 1 = .ok (.iload_n 1, 1) := by decide +kernel
theorem dX5_addRate_2 : decode cX5_addRate 2 = .ok (.invokestatic 114, 3) := by decide +kernel
theorem dX5_addRate_5 : decode cX5_addRate 5 = .ok (.ifCond .eq 63, 3) := by decide +kernel
theorem dX5_addRate_8 : decode cX5_addRate 8 = .ok (.iload_n 2, 1) := by decide +kernel
theorem dX5_addRate_9 : decode cX5_addRate 9 = .ok (.iconst 0, 1) := by decide +kernel
theorem dX5_addRate_10 : decode cX5_addRate 10 = .ok (.sipush 999, 3) := by decide +kernel
theorem dX5_addRate_13 : decode cX5_addRate 13 = .ok (.invokestatic 82, 3) := by decide +kernel
theorem dX5_addRate_16 : decode cX5_addRate 16 = .ok (.ifCond .eq 52, 3) := by decide +kernel
theorem dX5_addRate_19 : decode cX5_addRate 19 = .ok (.iload_n 3, 1) := by decide +kernel
theorem dX5_addRate_20 : decode cX5_addRate 20 = .ok (.iconst 0, 1) := by decide +kernel
theorem dX5_addRate_21 : decode cX5_addRate 21 = .ok (.sipush 10000, 3) := by decide +kernel
theorem dX5_addRate_24 : decode cX5_addRate 24 = .ok (.invokestatic 82, 3) := by decide +kernel
theorem dX5_addRate_27 : decode cX5_addRate 27 = .ok (.ifCond .eq 41, 3) := by decide +kernel
theorem dX5_addRate_30 : decode cX5_addRate 30 = .ok (.iload 4, 2) := by decide +kernel
theorem dX5_addRate_32 : decode cX5_addRate 32 = .ok (.iconst 1, 1) := by decide +kernel
theorem dX5_addRate_33 : decode cX5_addRate 33 = .ok (.bipush 60, 2) := by decide +kernel
theorem dX5_addRate_35 : decode cX5_addRate 35 = .ok (.invokestatic 82, 3) := by decide +kernel
theorem dX5_addRate_38 : decode cX5_addRate 38 = .ok (.ifCond .eq 30, 3) := by decide +kernel
theorem dX5_addRate_41 : decode cX5_addRate 41 = .ok (.iload 5, 2) := by decide +kernel
theorem dX5_addRate_43 : decode cX5_addRate 43 = .ok (.iconst 0, 1) := by decide +kernel
theorem dX5_addRate_44 : decode cX5_addRate 44 = .ok (.bipush 120, 2) := by decide +kernel
theorem dX5_addRate_46 : decode cX5_addRate 46 = .ok (.invokestatic 82, 3) := by decide +kernel
theorem dX5_addRate_49 : decode cX5_addRate 49 = .ok (.ifCond .eq 19, 3) := by decide +kernel
theorem dX5_addRate_52 : decode cX5_addRate 52 = .ok (.iload 6, 2) := by decide +kernel
theorem dX5_addRate_54 : decode cX5_addRate 54 = .ok (.iconst 0, 1) := by decide +kernel
theorem dX5_addRate_55 : decode cX5_addRate 55 = .ok (.sipush 1000, 3) := by decide +kernel
theorem dX5_addRate_58 : decode cX5_addRate 58 = .ok (.invokestatic 82, 3) := by decide +kernel
theorem dX5_addRate_61 : decode cX5_addRate 61 = .ok (.ifCond .eq 7, 3) := by decide +kernel
theorem dX5_addRate_64 : decode cX5_addRate 64 = .ok (.iconst 1, 1) := by decide +kernel
theorem dX5_addRate_65 : decode cX5_addRate 65 = .ok (.goto 4, 3) := by decide +kernel
theorem dX5_addRate_68 : decode cX5_addRate 68 = .ok (.iconst 0, 1) := by decide +kernel
theorem dX5_addRate_69 : decode cX5_addRate 69 = .ok (.invokevirtual 87, 3) := by decide +kernel
theorem dX5_addRate_72 : decode cX5_addRate 72 = .ok (.ifCond .ne 5, 3) := by decide +kernel
theorem dX5_addRate_75 : decode cX5_addRate 75 = .ok (.iconst 0, 1) := by decide +kernel
theorem dX5_addRate_76 : decode cX5_addRate 76 = .ok (.ireturn, 1) := by decide +kernel
theorem dX5_addRate_77 : decode cX5_addRate 77 = .ok (.aload_n 0, 1) := by decide +kernel
theorem dX5_addRate_78 : decode cX5_addRate 78 = .ok (.getfield 117, 3) := by decide +kernel
theorem dX5_addRate_81 : decode cX5_addRate 81 = .ok (.bipush 30, 2) := by decide +kernel
theorem dX5_addRate_83 : decode cX5_addRate 83 = .ok (.if_icmp .ne 9, 3) := by decide +kernel
theorem dX5_addRate_86 : decode cX5_addRate 86 = .ok (.aload_n 0, 1) := by decide +kernel
theorem dX5_addRate_87 : decode cX5_addRate 87 = .ok (.iconst 2, 1) := by decide +kernel
theorem dX5_addRate_88 : decode cX5_addRate 88 = .ok (.invokevirtual 107, 3) := by decide +kernel
theorem dX5_addRate_91 : decode cX5_addRate 91 = .ok (.ireturn, 1) := by decide +kernel
theorem dX5_addRate_92 : decode cX5_addRate 92 = .ok (.aload_n 0, 1) := by decide +kernel
theorem dX5_addRate_93 : decode cX5_addRate 93 = .ok (.getfield 51, 3) := by decide +kernel
theorem dX5_addRate_96 : decode cX5_addRate 96 = .ok (.aload_n 0, 1) := by decide +kernel
theorem dX5_addRate_97 : decode cX5_addRate 97 = .ok (.getfield 117, 3) := by decide +kernel
theorem dX5_addRate_100 : decode cX5_addRate 100 = .ok (.iload_n 1, 1) := by decide +kernel
theorem dX5_addRate_101 : decode cX5_addRate 101 = .ok (.iastore, 1) := by decide +kernel
theorem dX5_addRate_102 : decode cX5_addRate 102 = .ok (.aload_n 0, 1) := by decide +kernel
theorem dX5_addRate_103 : decode cX5_addRate 103 = .ok (.getfield 54, 3) := by decide +kernel
theorem dX5_addRate_106 : decode cX5_addRate 106 = .ok (.aload_n 0, 1) := by decide +kernel
theorem dX5_addRate_107 : decode cX5_addRate 107 = .ok (.getfield 117, 3) := by decide +kernel
theorem dX5_addRate_110 : decode cX5_addRate 110 = .ok (.iload_n 2, 1) := by decide +kernel
theorem dX5_addRate_111 : decode cX5_addRate 111 = .ok (.iastore, 1) := by decide +kernel
theorem dX5_addRate_112 : decode cX5_addRate 112 = .ok (.aload_n 0, 1) := by decide +kernel
theorem dX5_addRate_113 : decode cX5_addRate 113 = .ok (.getfield 57, 3) := by decide +kernel
theorem dX5_addRate_116 : decode cX5_addRate 116 = .ok (.aload_n 0, 1) := by decide +kernel
theorem dX5_addRate_117 : decode cX5_addRate 117 = .ok (.getfield 117, 3) := by decide +kernel
theorem dX5_addRate_120 : decode cX5_addRate 120 = .ok (.iload_n 3, 1) := by decide +kernel
theorem dX5_addRate_121 : decode cX5_addRate 121 = .ok (.iastore, 1) := by decide +kernel
theorem dX5_addRate_122 : decode cX5_addRate 122 = .ok (.aload_n 0, 1) := by decide +kernel
theorem dX5_addRate_123 : decode cX5_addRate 123 = .ok (.getfield 60, 3) := by decide +kernel
theorem dX5_addRate_126 : decode cX5_addRate 126 = .ok (.aload_n 0, 1) := by decide +kernel
theorem dX5_addRate_127 : decode cX5_addRate 127 = .ok (.getfield 117, 3) := by decide +kernel
theorem dX5_addRate_130 : decode cX5_addRate 130 = .ok (.iload 4, 2) := by decide +kernel
theorem dX5_addRate_132 : decode cX5_addRate 132 = .ok (.iastore, 1) := by decide +kernel
theorem dX5_addRate_133 : decode cX5_addRate 133 = .ok (.aload_n 0, 1) := by decide +kernel
theorem dX5_addRate_134 : decode cX5_addRate 134 = .ok (.getfield 63, 3) := by decide +kernel
theorem dX5_addRate_137 : decode cX5_addRate 137 = .ok (.aload_n 0, 1) := by decide +kernel
theorem dX5_addRate_138 : decode cX5_addRate 138 = .ok (.getfield 117, 3) := by decide +kernel
theorem dX5_addRate_141 : decode cX5_addRate 141 = .ok (.iload 5, 2) := by decide +kernel
theorem dX5_addRate_143 : decode cX5_addRate 143 = .ok (.iastore, 1) := by decide +kernel
theorem dX5_addRate_144 : decode cX5_addRate 144 = .ok (.aload_n 0, 1) := by decide +kernel
theorem dX5_addRate_145 : decode cX5_addRate 145 = .ok (.getfield 66, 3) := by decide +kernel
theorem dX5_addRate_148 : decode cX5_addRate 148 = .ok (.aload_n 0, 1) := by decide +kernel
theorem dX5_addRate_149 : decode cX5_addRate 149 = .ok (.getfield 117, 3) := by decide +kernel
theorem dX5_addRate_152 : decode cX5_addRate 152 = .ok (.iload 6, 2) := by decide +kernel
theorem dX5_addRate_154 : decode cX5_addRate 154 = .ok (.iastore, 1) := by decide +kernel
theorem dX5_addRate_155 : decode cX5_addRate 155 = .ok (.aload_n 0, 1) := by decide +kernel
theorem dX5_addRate_156 : decode cX5_addRate 156 = .ok (.dup, 1) := by decide +kernel
theorem dX5_addRate_157 : decode cX5_addRate 157 = .ok (.getfield 117, 3) := by decide +kernel
theorem dX5_addRate_160 : decode cX5_addRate 160 = .ok (.iconst 1, 1) := by decide +kernel
theorem dX5_addRate_161 : decode cX5_addRate 161 = .ok (.iadd, 1) := by decide +kernel
theorem dX5_addRate_162 : decode cX5_addRate 162 = .ok (.putfield 117, 3) := by decide +kernel
theorem dX5_addRate_165 : decode cX5_addRate 165 = .ok (.aload_n 0, 1) := by decide +kernel
theorem dX5_addRate_166 : decode cX5_addRate 166 = .ok (.getfield 117, 3) := by decide +kernel
theorem dX5_addRate_169 : decode cX5_addRate 169 = .ok (.iconst 1, 1) := by decide +kernel
theorem dX5_addRate_170 : decode cX5_addRate 170 = .ok (.isub, 1) := by decide +kernel
theorem dX5_addRate_171 : decode cX5_addRate 171 = .ok (.ireturn, 1) := by decide +kernel
set_option maxRecDepth 20000 in
theorem ggX5_rate_X5_fits : GoodIn wsX5_rate wsX5_fits := goodIn_r _ [7] (by decide +kernel) (by decide +kernel)
set_option maxRecDepth 20000 in
theorem gX5_rate_X5_fits : GoodIn wsX5_rate (va_wsS RX5 120 yX5_fits wsX5_fits) := goodIn_app (goodIn_of _ (by decide +kernel)) ggX5_rate_X5_fits
theorem dX5_rate_0 : decode cX5_rate 0 = .ok (.iconst (-1), 1) := by decide +kernel
theorem dX5_rate_1 : decode cX5_rate 1 = .ok (.istore_n 3, 1) := by decide +kernel
theorem dX5_rate_2 : decode cX5_rate 2 = .ok (.iconst 0, 1) := by decide +kernel
theorem dX5_rate_3 : decode cX5_rate 3 = .ok (.istore 4, 2) := by decide +kernel
theorem dX5_rate_5 : decode cX5_rate 5 = .ok (.iload 4, 2) := by decide +kernel
theorem dX5_rate_7 : decode cX5_rate 7 = .ok (.aload_n 0, 1) := by decide +kernel
theorem dX5_rate_8 : decode cX5_rate 8 = .ok (.getfield 117, 3) := by decide +kernel
theorem dX5_rate_11 : decode cX5_rate 11 = .ok (.if_icmp .ge 106, 3) := by decide +kernel
theorem dX5_rate_14 : decode cX5_rate 14 = .ok (.aload_n 0, 1) := by decide +kernel
theorem dX5_rate_15 : decode cX5_rate 15 = .ok (.getfield 51, 3) := by decide +kernel
theorem dX5_rate_18 : decode cX5_rate 18 = .ok (.iload 4, 2) := by decide +kernel
theorem dX5_rate_20 : decode cX5_rate 20 = .ok (.iaload, 1) := by decide +kernel
theorem dX5_rate_21 : decode cX5_rate 21 = .ok (.iload_n 1, 1) := by decide +kernel
theorem dX5_rate_22 : decode cX5_rate 22 = .ok (.invokestatic 120, 3) := by decide +kernel
theorem dX5_rate_25 : decode cX5_rate 25 = .ok (.ifCond .eq 86, 3) := by decide +kernel
theorem dX5_rate_28 : decode cX5_rate 28 = .ok (.aload_n 0, 1) := by decide +kernel
theorem dX5_rate_29 : decode cX5_rate 29 = .ok (.getfield 54, 3) := by decide +kernel
theorem dX5_rate_32 : decode cX5_rate 32 = .ok (.iload 4, 2) := by decide +kernel
theorem dX5_rate_34 : decode cX5_rate 34 = .ok (.iaload, 1) := by decide +kernel
theorem dX5_rate_35 : decode cX5_rate 35 = .ok (.iload_n 2, 1) := by decide +kernel
theorem dX5_rate_36 : decode cX5_rate 36 = .ok (.if_icmp .gt 75, 3) := by decide +kernel
theorem dX5_rate_39 : decode cX5_rate 39 = .ok (.iload_n 3, 1) := by decide +kernel
theorem dX5_rate_40 : decode cX5_rate 40 = .ok (.iconst (-1), 1) := by decide +kernel
theorem dX5_rate_41 : decode cX5_rate 41 = .ok (.if_icmp .eq 51, 3) := by decide +kernel
theorem dX5_rate_44 : decode cX5_rate 44 = .ok (.aload_n 0, 1) := by decide +kernel
theorem dX5_rate_45 : decode cX5_rate 45 = .ok (.getfield 51, 3) := by decide +kernel
theorem dX5_rate_48 : decode cX5_rate 48 = .ok (.iload 4, 2) := by decide +kernel
theorem dX5_rate_50 : decode cX5_rate 50 = .ok (.iaload, 1) := by decide +kernel
theorem dX5_rate_51 : decode cX5_rate 51 = .ok (.aload_n 0, 1) := by decide +kernel
theorem dX5_rate_52 : decode cX5_rate 52 = .ok (.getfield 51, 3) := by decide +kernel
theorem dX5_rate_55 : decode cX5_rate 55 = .ok (.iload_n 3, 1) := by decide +kernel
theorem dX5_rate_56 : decode cX5_rate 56 = .ok (.iaload, 1) := by decide +kernel
theorem dX5_rate_57 : decode cX5_rate 57 = .ok (.if_icmp .gt 35, 3) := by decide +kernel
theorem dX5_rate_60 : decode cX5_rate 60 = .ok (.aload_n 0, 1) := by decide +kernel
theorem dX5_rate_61 : decode cX5_rate 61 = .ok (.getfield 51, 3) := by decide +kernel
theorem dX5_rate_64 : decode cX5_rate 64 = .ok (.iload 4, 2) := by decide +kernel
theorem dX5_rate_66 : decode cX5_rate 66 = .ok (.iaload, 1) := by decide +kernel
theorem dX5_rate_67 : decode cX5_rate 67 = .ok (.aload_n 0, 1) := by decide +kernel
theorem dX5_rate_68 : decode cX5_rate 68 = .ok (.getfield 51, 3) := by decide +kernel
theorem dX5_rate_71 : decode cX5_rate 71 = .ok (.iload_n 3, 1) := by decide +kernel
theorem dX5_rate_72 : decode cX5_rate 72 = .ok (.iaload, 1) := by decide +kernel
theorem dX5_rate_73 : decode cX5_rate 73 = .ok (.if_icmp .ne 23, 3) := by decide +kernel
theorem dX5_rate_76 : decode cX5_rate 76 = .ok (.aload_n 0, 1) := by decide +kernel
theorem dX5_rate_77 : decode cX5_rate 77 = .ok (.getfield 54, 3) := by decide +kernel
theorem dX5_rate_80 : decode cX5_rate 80 = .ok (.iload 4, 2) := by decide +kernel
theorem dX5_rate_82 : decode cX5_rate 82 = .ok (.iaload, 1) := by decide +kernel
theorem dX5_rate_83 : decode cX5_rate 83 = .ok (.aload_n 0, 1) := by decide +kernel
theorem dX5_rate_84 : decode cX5_rate 84 = .ok (.getfield 54, 3) := by decide +kernel
theorem dX5_rate_87 : decode cX5_rate 87 = .ok (.iload_n 3, 1) := by decide +kernel
theorem dX5_rate_88 : decode cX5_rate 88 = .ok (.iaload, 1) := by decide +kernel
theorem dX5_rate_89 : decode cX5_rate 89 = .ok (.if_icmp .lt 7, 3) := by decide +kernel
theorem dX5_rate_92 : decode cX5_rate 92 = .ok (.iconst 1, 1) := by decide +kernel
theorem dX5_rate_93 : decode cX5_rate 93 = .ok (.goto 4, 3) := by decide +kernel
theorem dX5_rate_96 : decode cX5_rate 96 = .ok (.iconst 0, 1) := by decide +kernel
theorem dX5_rate_97 : decode cX5_rate 97 = .ok (.istore 5, 2) := by decide +kernel
theorem dX5_rate_99 : decode cX5_rate 99 = .ok (.iload 5, 2) := by decide +kernel
theorem dX5_rate_101 : decode cX5_rate 101 = .ok (.ifCond .eq 8, 3) := by decide +kernel
theorem dX5_rate_104 : decode cX5_rate 104 = .ok (.iload 4, 2) := by decide +kernel
theorem dX5_rate_106 : decode cX5_rate 106 = .ok (.goto 4, 3) := by decide +kernel
theorem dX5_rate_109 : decode cX5_rate 109 = .ok (.iload_n 3, 1) := by decide +kernel
theorem dX5_rate_110 : decode cX5_rate 110 = .ok (.istore_n 3, 1) := by decide +kernel
theorem dX5_rate_111 : decode cX5_rate 111 = .ok (.iinc 4 1, 3) := by decide +kernel
theorem dX5_rate_114 : decode cX5_rate 114 = .ok (.goto (-109), 3) := by decide +kernel
theorem dX5_rate_117 : decode cX5_rate 117 = .ok (.iload_n 3, 1) := by decide +kernel
theorem dX5_rate_118 : decode cX5_rate 118 = .ok (.ireturn, 1) := by decide +kernel
set_option maxRecDepth 20000 in
theorem ggX5_rateFor_X5_isNumber : GoodIn wsX5_rateFor wsX5_isNumber := goodIn_r _ [4, 5, 6, 7, 3, 8] (by decide +kernel) (by decide +kernel)
set_option maxRecDepth 20000 in
theorem gX5_rateFor_X5_isNumber : GoodIn wsX5_rateFor (va_wsS RX5 98 yX5_isNumber wsX5_isNumber) := goodIn_app (goodIn_of _ (by decide +kernel)) ggX5_rateFor_X5_isNumber
set_option maxRecDepth 20000 in
theorem ggX5_rateFor_X5_in : GoodIn wsX5_rateFor wsX5_in := goodIn_r _ [8] (by decide +kernel) (by decide +kernel)
set_option maxRecDepth 20000 in
theorem gX5_rateFor_X5_in : GoodIn wsX5_rateFor (va_wsS RX5 82 yX5_in wsX5_in) := goodIn_app (goodIn_of _ (by decide +kernel)) ggX5_rateFor_X5_in
set_option maxRecDepth 20000 in
theorem ggX5_rateFor_X5_asks : GoodIn wsX5_rateFor wsX5_asks := goodIn_r _ [12, 13, 28, 29, 30, 31, 32, 33, 34, 35, 36, 37, 38, 39, 40, 41, 42, 43, 44, 45, 46, 47, 48, 49, 50, 51, 52, 53] (by decide +kernel) (by decide +kernel)
set_option maxRecDepth 20000 in
theorem gX5_rateFor_X5_asks : GoodIn wsX5_rateFor (wsV RX5 87 RX5 yX5_asks wsX5_asks) := goodIn_app (goodIn_of _ (by decide +kernel)) ggX5_rateFor_X5_asks
set_option maxRecDepth 20000 in
theorem ggX5_rateFor_X5_rate : GoodIn wsX5_rateFor wsX5_rate := goodIn_r _ [17, 18, 19, 20, 21, 22, 3, 23, 28, 29, 30, 31, 32, 33, 34, 35, 36, 37, 38, 39, 40, 41, 42, 43, 44, 45, 46, 47, 48, 49, 50, 51, 52, 53] (by decide +kernel) (by decide +kernel)
set_option maxRecDepth 20000 in
theorem gX5_rateFor_X5_rate : GoodIn wsX5_rateFor (wsV RX5 124 RX5 yX5_rate wsX5_rate) := goodIn_app (goodIn_of _ (by decide +kernel)) ggX5_rateFor_X5_rate
set_option maxRecDepth 20000 in
theorem ggX5_rateFor_X5_fails : GoodIn wsX5_rateFor wsX5_fails := goodIn_r _ [27, 13, 28, 29, 30, 31, 32, 33, 34, 35, 36, 37, 38, 39, 40, 41, 42, 43, 44, 45, 46, 47, 48, 49, 50, 51, 52, 53] (by decide +kernel) (by decide +kernel)
set_option maxRecDepth 20000 in
theorem gX5_rateFor_X5_fails : GoodIn wsX5_rateFor (wsV RX5 107 RX5 yX5_fails wsX5_fails) := goodIn_app (goodIn_of _ (by decide +kernel)) ggX5_rateFor_X5_fails
theorem dX5_rateFor_0 : decode cX5_rateFor 0 = .ok (.aload_n 0, 1) := by decide +kernel
theorem dX5_rateFor_1 : decode cX5_rateFor 1 = .ok (.iload_n 1, 1) := by decide +kernel
theorem dX5_rateFor_2 : decode cX5_rateFor 2 = .ok (.invokestatic 98, 3) := by decide +kernel
theorem dX5_rateFor_5 : decode cX5_rateFor 5 = .ok (.ifCond .eq 18, 3) := by decide +kernel
theorem dX5_rateFor_8 : decode cX5_rateFor 8 = .ok (.iload_n 2, 1) := by decide +kernel
theorem dX5_rateFor_9 : decode cX5_rateFor 9 = .ok (.iconst 0, 1) := by decide +kernel
theorem dX5_rateFor_10 : decode cX5_rateFor 10 = .ok (.sipush 999, 3) := by decide +kernel
theorem dX5_rateFor_13 : decode cX5_rateFor 13 = .ok (.invokestatic 82, 3) := by decide +kernel
theorem dX5_rateFor_16 : decode cX5_rateFor 16 = .ok (.ifCond .eq 7, 3) := by decide +kernel
theorem dX5_rateFor_19 : decode cX5_rateFor 19 = .ok (.iconst 1, 1) := by decide +kernel
theorem dX5_rateFor_20 : decode cX5_rateFor 20 = .ok (.goto 4, 3) := by decide +kernel
theorem dX5_rateFor_23 : decode cX5_rateFor 23 = .ok (.iconst 0, 1) := by decide +kernel
theorem dX5_rateFor_24 : decode cX5_rateFor 24 = .ok (.invokevirtual 87, 3) := by decide +kernel
theorem dX5_rateFor_27 : decode cX5_rateFor 27 = .ok (.ifCond .ne 5, 3) := by decide +kernel
theorem dX5_rateFor_30 : decode cX5_rateFor 30 = .ok (.iconst 0, 1) := by decide +kernel
theorem dX5_rateFor_31 : decode cX5_rateFor 31 = .ok (.ireturn, 1) := by decide +kernel
theorem dX5_rateFor_32 : decode cX5_rateFor 32 = .ok (.aload_n 0, 1) := by decide +kernel
theorem dX5_rateFor_33 : decode cX5_rateFor 33 = .ok (.iload_n 1, 1) := by decide +kernel
theorem dX5_rateFor_34 : decode cX5_rateFor 34 = .ok (.iload_n 2, 1) := by decide +kernel
theorem dX5_rateFor_35 : decode cX5_rateFor 35 = .ok (.invokevirtual 124, 3) := by decide +kernel
theorem dX5_rateFor_38 : decode cX5_rateFor 38 = .ok (.istore_n 3, 1) := by decide +kernel
theorem dX5_rateFor_39 : decode cX5_rateFor 39 = .ok (.iload_n 3, 1) := by decide +kernel
theorem dX5_rateFor_40 : decode cX5_rateFor 40 = .ok (.iconst (-1), 1) := by decide +kernel
theorem dX5_rateFor_41 : decode cX5_rateFor 41 = .ok (.if_icmp .ne 11, 3) := by decide +kernel
theorem dX5_rateFor_44 : decode cX5_rateFor 44 = .ok (.aload_n 0, 1) := by decide +kernel
theorem dX5_rateFor_45 : decode cX5_rateFor 45 = .ok (.iconst 2, 1) := by decide +kernel
theorem dX5_rateFor_46 : decode cX5_rateFor 46 = .ok (.invokevirtual 107, 3) := by decide +kernel
theorem dX5_rateFor_49 : decode cX5_rateFor 49 = .ok (.goto 4, 3) := by decide +kernel
theorem dX5_rateFor_52 : decode cX5_rateFor 52 = .ok (.iload_n 3, 1) := by decide +kernel
theorem dX5_rateFor_53 : decode cX5_rateFor 53 = .ok (.ireturn, 1) := by decide +kernel
set_option maxRecDepth 20000 in
theorem ggX5_chargeOf_X5_rate : GoodIn wsX5_chargeOf wsX5_rate := goodIn_r _ [12, 13, 14, 15, 16, 17, 11, 18, 19, 20, 21, 22, 23, 24, 25, 26, 27, 28, 29, 30, 31, 32, 33, 34, 35, 36, 37, 38, 39, 40, 41, 42, 43, 44] (by decide +kernel) (by decide +kernel)
set_option maxRecDepth 20000 in
theorem gX5_chargeOf_X5_rate : GoodIn wsX5_chargeOf (wsV RX5 124 RX5 yX5_rate wsX5_rate) := goodIn_app (goodIn_of _ (by decide +kernel)) ggX5_chargeOf_X5_rate
theorem dX5_chargeOf_0 : decode cX5_chargeOf 0 = .ok (.aload_n 0, 1) := by decide +kernel
theorem dX5_chargeOf_1 : decode cX5_chargeOf 1 = .ok (.aload_n 0, 1) := by decide +kernel
theorem dX5_chargeOf_2 : decode cX5_chargeOf 2 = .ok (.getfield 30, 3) := by decide +kernel
theorem dX5_chargeOf_5 : decode cX5_chargeOf 5 = .ok (.iload_n 1, 1) := by decide +kernel
theorem dX5_chargeOf_6 : decode cX5_chargeOf 6 = .ok (.iaload, 1) := by decide +kernel
theorem dX5_chargeOf_7 : decode cX5_chargeOf 7 = .ok (.aload_n 0, 1) := by decide +kernel
theorem dX5_chargeOf_8 : decode cX5_chargeOf 8 = .ok (.getfield 33, 3) := by decide +kernel
theorem dX5_chargeOf_11 : decode cX5_chargeOf 11 = .ok (.iload_n 1, 1) := by decide +kernel
theorem dX5_chargeOf_12 : decode cX5_chargeOf 12 = .ok (.iaload, 1) := by decide +kernel
theorem dX5_chargeOf_13 : decode cX5_chargeOf 13 = .ok (.sipush 1000, 3) := by decide +kernel
theorem dX5_chargeOf_16 : decode cX5_chargeOf 16 = .ok (.idiv, 1) := by decide +kernel
theorem dX5_chargeOf_17 : decode cX5_chargeOf 17 = .ok (.invokevirtual 124, 3) := by decide +kernel
theorem dX5_chargeOf_20 : decode cX5_chargeOf 20 = .ok (.istore_n 2, 1) := by decide +kernel
theorem dX5_chargeOf_21 : decode cX5_chargeOf 21 = .ok (.iload_n 2, 1) := by decide +kernel
theorem dX5_chargeOf_22 : decode cX5_chargeOf 22 = .ok (.iconst (-1), 1) := by decide +kernel
theorem dX5_chargeOf_23 : decode cX5_chargeOf 23 = .ok (.if_icmp .ne 5, 3) := by decide +kernel
theorem dX5_chargeOf_26 : decode cX5_chargeOf 26 = .ok (.iconst (-1), 1) := by decide +kernel
theorem dX5_chargeOf_27 : decode cX5_chargeOf 27 = .ok (.ireturn, 1) := by decide +kernel
theorem dX5_chargeOf_28 : decode cX5_chargeOf 28 = .ok (.aload_n 0, 1) := by decide +kernel
theorem dX5_chargeOf_29 : decode cX5_chargeOf 29 = .ok (.getfield 39, 3) := by decide +kernel
theorem dX5_chargeOf_32 : decode cX5_chargeOf 32 = .ok (.iload_n 1, 1) := by decide +kernel
theorem dX5_chargeOf_33 : decode cX5_chargeOf 33 = .ok (.iaload, 1) := by decide +kernel
theorem dX5_chargeOf_34 : decode cX5_chargeOf 34 = .ok (.aload_n 0, 1) := by decide +kernel
theorem dX5_chargeOf_35 : decode cX5_chargeOf 35 = .ok (.getfield 60, 3) := by decide +kernel
theorem dX5_chargeOf_38 : decode cX5_chargeOf 38 = .ok (.iload_n 2, 1) := by decide +kernel
theorem dX5_chargeOf_39 : decode cX5_chargeOf 39 = .ok (.iaload, 1) := by decide +kernel
theorem dX5_chargeOf_40 : decode cX5_chargeOf 40 = .ok (.iadd, 1) := by decide +kernel
theorem dX5_chargeOf_41 : decode cX5_chargeOf 41 = .ok (.iconst 1, 1) := by decide +kernel
theorem dX5_chargeOf_42 : decode cX5_chargeOf 42 = .ok (.isub, 1) := by decide +kernel
theorem dX5_chargeOf_43 : decode cX5_chargeOf 43 = .ok (.aload_n 0, 1) := by decide +kernel
theorem dX5_chargeOf_44 : decode cX5_chargeOf 44 = .ok (.getfield 60, 3) := by decide +kernel
theorem dX5_chargeOf_47 : decode cX5_chargeOf 47 = .ok (.iload_n 2, 1) := by decide +kernel
theorem dX5_chargeOf_48 : decode cX5_chargeOf 48 = .ok (.iaload, 1) := by decide +kernel
theorem dX5_chargeOf_49 : decode cX5_chargeOf 49 = .ok (.idiv, 1) := by decide +kernel
theorem dX5_chargeOf_50 : decode cX5_chargeOf 50 = .ok (.aload_n 0, 1) := by decide +kernel
theorem dX5_chargeOf_51 : decode cX5_chargeOf 51 = .ok (.getfield 60, 3) := by decide +kernel
theorem dX5_chargeOf_54 : decode cX5_chargeOf 54 = .ok (.iload_n 2, 1) := by decide +kernel
theorem dX5_chargeOf_55 : decode cX5_chargeOf 55 = .ok (.iaload, 1) := by decide +kernel
theorem dX5_chargeOf_56 : decode cX5_chargeOf 56 = .ok (.imul, 1) := by decide +kernel
theorem dX5_chargeOf_57 : decode cX5_chargeOf 57 = .ok (.istore_n 3, 1) := by decide +kernel
theorem dX5_chargeOf_58 : decode cX5_chargeOf 58 = .ok (.iload_n 3, 1) := by decide +kernel
theorem dX5_chargeOf_59 : decode cX5_chargeOf 59 = .ok (.aload_n 0, 1) := by decide +kernel
theorem dX5_chargeOf_60 : decode cX5_chargeOf 60 = .ok (.getfield 63, 3) := by decide +kernel
theorem dX5_chargeOf_63 : decode cX5_chargeOf 63 = .ok (.iload_n 2, 1) := by decide +kernel
theorem dX5_chargeOf_64 : decode cX5_chargeOf 64 = .ok (.iaload, 1) := by decide +kernel
theorem dX5_chargeOf_65 : decode cX5_chargeOf 65 = .ok (.if_icmp .ge 12, 3) := by decide +kernel
theorem dX5_chargeOf_68 : decode cX5_chargeOf 68 = .ok (.aload_n 0, 1) := by decide +kernel
theorem dX5_chargeOf_69 : decode cX5_chargeOf 69 = .ok (.getfield 63, 3) := by decide +kernel
theorem dX5_chargeOf_72 : decode cX5_chargeOf 72 = .ok (.iload_n 2, 1) := by decide +kernel
theorem dX5_chargeOf_73 : decode cX5_chargeOf 73 = .ok (.iaload, 1) := by decide +kernel
theorem dX5_chargeOf_74 : decode cX5_chargeOf 74 = .ok (.goto 4, 3) := by decide +kernel
theorem dX5_chargeOf_77 : decode cX5_chargeOf 77 = .ok (.iload_n 3, 1) := by decide +kernel
theorem dX5_chargeOf_78 : decode cX5_chargeOf 78 = .ok (.istore 4, 2) := by decide +kernel
theorem dX5_chargeOf_80 : decode cX5_chargeOf 80 = .ok (.aload_n 0, 1) := by decide +kernel
theorem dX5_chargeOf_81 : decode cX5_chargeOf 81 = .ok (.getfield 66, 3) := by decide +kernel
theorem dX5_chargeOf_84 : decode cX5_chargeOf 84 = .ok (.iload_n 2, 1) := by decide +kernel
theorem dX5_chargeOf_85 : decode cX5_chargeOf 85 = .ok (.iaload, 1) := by decide +kernel
theorem dX5_chargeOf_86 : decode cX5_chargeOf 86 = .ok (.aload_n 0, 1) := by decide +kernel
theorem dX5_chargeOf_87 : decode cX5_chargeOf 87 = .ok (.getfield 57, 3) := by decide +kernel
theorem dX5_chargeOf_90 : decode cX5_chargeOf 90 = .ok (.iload_n 2, 1) := by decide +kernel
theorem dX5_chargeOf_91 : decode cX5_chargeOf 91 = .ok (.iaload, 1) := by decide +kernel
theorem dX5_chargeOf_92 : decode cX5_chargeOf 92 = .ok (.iload 4, 2) := by decide +kernel
theorem dX5_chargeOf_94 : decode cX5_chargeOf 94 = .ok (.imul, 1) := by decide +kernel
theorem dX5_chargeOf_95 : decode cX5_chargeOf 95 = .ok (.bipush 59, 2) := by decide +kernel
theorem dX5_chargeOf_97 : decode cX5_chargeOf 97 = .ok (.iadd, 1) := by decide +kernel
theorem dX5_chargeOf_98 : decode cX5_chargeOf 98 = .ok (.bipush 60, 2) := by decide +kernel
theorem dX5_chargeOf_100 : decode cX5_chargeOf 100 = .ok (.idiv, 1) := by decide +kernel
theorem dX5_chargeOf_101 : decode cX5_chargeOf 101 = .ok (.iadd, 1) := by decide +kernel
theorem dX5_chargeOf_102 : decode cX5_chargeOf 102 = .ok (.ireturn, 1) := by decide +kernel
set_option maxRecDepth 20000 in
theorem ggX5_charge_X5_isCall : GoodIn wsX5_charge wsX5_isCall := goodIn_r _ [5, 6, 37, 38, 39, 40, 41, 42, 43, 44, 45, 46, 47, 48, 49, 50, 51, 52, 53, 54, 55, 56, 57, 58, 59, 60, 61, 62] (by decide +kernel) (by decide +kernel)
set_option maxRecDepth 20000 in
theorem gX5_charge_X5_isCall : GoodIn wsX5_charge (wsV RX5 111 RX5 yX5_isCall wsX5_isCall) := goodIn_app (goodIn_of _ (by decide +kernel)) ggX5_charge_X5_isCall
set_option maxRecDepth 20000 in
theorem ggX5_charge_X5_asks : GoodIn wsX5_charge wsX5_asks := goodIn_r _ [10, 11, 37, 38, 39, 40, 41, 42, 43, 44, 45, 46, 47, 48, 49, 50, 51, 52, 53, 54, 55, 56, 57, 58, 59, 60, 61, 62] (by decide +kernel) (by decide +kernel)
set_option maxRecDepth 20000 in
theorem gX5_charge_X5_asks : GoodIn wsX5_charge (wsV RX5 87 RX5 yX5_asks wsX5_asks) := goodIn_app (goodIn_of _ (by decide +kernel)) ggX5_charge_X5_asks
set_option maxRecDepth 20000 in
theorem ggX5_charge_X5_chargeOf : GoodIn wsX5_charge wsX5_chargeOf := goodIn_r _ [15, 16, 17, 18, 19, 20, 21, 22, 23, 24, 25, 4, 26, 27, 28, 29, 30, 31, 32, 37, 38, 39, 40, 41, 42, 43, 44, 45, 46, 47, 48, 49, 50, 51, 52, 53, 54, 55, 56, 57, 58, 59, 60, 61, 62] (by decide +kernel) (by decide +kernel)
set_option maxRecDepth 20000 in
theorem gX5_charge_X5_chargeOf : GoodIn wsX5_charge (wsV RX5 127 RX5 yX5_chargeOf wsX5_chargeOf) := goodIn_app (goodIn_of _ (by decide +kernel)) ggX5_charge_X5_chargeOf
set_option maxRecDepth 20000 in
theorem ggX5_charge_X5_fails : GoodIn wsX5_charge wsX5_fails := goodIn_r _ [36, 11, 37, 38, 39, 40, 41, 42, 43, 44, 45, 46, 47, 48, 49, 50, 51, 52, 53, 54, 55, 56, 57, 58, 59, 60, 61, 62] (by decide +kernel) (by decide +kernel)
set_option maxRecDepth 20000 in
theorem gX5_charge_X5_fails : GoodIn wsX5_charge (wsV RX5 107 RX5 yX5_fails wsX5_fails) := goodIn_app (goodIn_of _ (by decide +kernel)) ggX5_charge_X5_fails
theorem dX5_charge_0 : decode cX5_charge 0 = .ok (.aload_n 0, 1) := by decide +kernel
theorem dX5_charge_1 : decode cX5_charge 1 = .ok (.aload_n 0, 1) := by decide +kernel
theorem dX5_charge_2 : decode cX5_charge 2 = .ok (.iload_n 1, 1) := by decide +kernel
theorem dX5_charge_3 : decode cX5_charge 3 = .ok (.invokevirtual 111, 3) := by decide +kernel
theorem dX5_charge_6 : decode cX5_charge 6 = .ok (.invokevirtual 87, 3) := by decide +kernel
theorem dX5_charge_9 : decode cX5_charge 9 = .ok (.ifCond .ne 5, 3) := by decide +kernel
theorem dX5_charge_12 : decode cX5_charge 12 = .ok (.iconst 0, 1) := by decide +kernel
theorem dX5_charge_13 : decode cX5_charge 13 = .ok (.ireturn, 1) := by decide +kernel
theorem dX5_charge_14 : decode cX5_charge 14 = .ok (.aload_n 0, 1) := by decide +kernel
theorem dX5_charge_15 : decode cX5_charge 15 = .ok (.iload_n 1, 1) := by decide +kernel
theorem dX5_charge_16 : decode cX5_charge 16 = .ok (.invokevirtual 127, 3) := by decide +kernel
theorem dX5_charge_19 : decode cX5_charge 19 = .ok (.istore_n 2, 1) := by decide +kernel
theorem dX5_charge_20 : decode cX5_charge 20 = .ok (.iload_n 2, 1) := by decide +kernel
theorem dX5_charge_21 : decode cX5_charge 21 = .ok (.iconst (-1), 1) := by decide +kernel
theorem dX5_charge_22 : decode cX5_charge 22 = .ok (.if_icmp .ne 11, 3) := by decide +kernel
theorem dX5_charge_25 : decode cX5_charge 25 = .ok (.aload_n 0, 1) := by decide +kernel
theorem dX5_charge_26 : decode cX5_charge 26 = .ok (.iconst 2, 1) := by decide +kernel
theorem dX5_charge_27 : decode cX5_charge 27 = .ok (.invokevirtual 107, 3) := by decide +kernel
theorem dX5_charge_30 : decode cX5_charge 30 = .ok (.goto 4, 3) := by decide +kernel
theorem dX5_charge_33 : decode cX5_charge 33 = .ok (.iload_n 2, 1) := by decide +kernel
theorem dX5_charge_34 : decode cX5_charge 34 = .ok (.ireturn, 1) := by decide +kernel
set_option maxRecDepth 20000 in
theorem ggX5_book_X5_chargeOf : GoodIn wsX5_book wsX5_chargeOf := goodIn_r _ [8, 9, 10, 11, 12, 13, 14, 15, 16, 17, 18, 7, 19, 20, 21, 22, 23, 24, 25, 26, 27, 28, 29, 30, 31, 32, 33, 34, 35, 36, 37, 38, 39, 40, 41, 42, 43, 44, 45, 46, 47, 48, 49, 50, 51] (by decide +kernel) (by decide +kernel)
set_option maxRecDepth 20000 in
theorem gX5_book_X5_chargeOf : GoodIn wsX5_book (wsV RX5 127 RX5 yX5_chargeOf wsX5_chargeOf) := goodIn_app (goodIn_of _ (by decide +kernel)) ggX5_book_X5_chargeOf
theorem dX5_book_0 : decode cX5_book 0 = .ok (.aload_n 0, 1) := by decide +kernel
theorem dX5_book_1 : decode cX5_book 1 = .ok (.iconst 0, 1) := by decide +kernel
theorem dX5_book_2 : decode cX5_book 2 = .ok (.putfield 78, 3) := by decide +kernel
theorem dX5_book_5 : decode cX5_book 5 = .ok (.iconst 0, 1) := by decide +kernel
theorem dX5_book_6 : decode cX5_book 6 = .ok (.istore_n 1, 1) := by decide +kernel
theorem dX5_book_7 : decode cX5_book 7 = .ok (.iconst 0, 1) := by decide +kernel
theorem dX5_book_8 : decode cX5_book 8 = .ok (.istore_n 2, 1) := by decide +kernel
theorem dX5_book_9 : decode cX5_book 9 = .ok (.iload_n 2, 1) := by decide +kernel
theorem dX5_book_10 : decode cX5_book 10 = .ok (.aload_n 0, 1) := by decide +kernel
theorem dX5_book_11 : decode cX5_book 11 = .ok (.getfield 91, 3) := by decide +kernel
theorem dX5_book_14 : decode cX5_book 14 = .ok (.if_icmp .ge 48, 3) := by decide +kernel
theorem dX5_book_17 : decode cX5_book 17 = .ok (.aload_n 0, 1) := by decide +kernel
theorem dX5_book_18 : decode cX5_book 18 = .ok (.getfield 45, 3) := by decide +kernel
theorem dX5_book_21 : decode cX5_book 21 = .ok (.iload_n 2, 1) := by decide +kernel
theorem dX5_book_22 : decode cX5_book 22 = .ok (.iaload, 1) := by decide +kernel
theorem dX5_book_23 : decode cX5_book 23 = .ok (.iconst (-1), 1) := by decide +kernel
theorem dX5_book_24 : decode cX5_book 24 = .ok (.if_icmp .ne 32, 3) := by decide +kernel
theorem dX5_book_27 : decode cX5_book 27 = .ok (.aload_n 0, 1) := by decide +kernel
theorem dX5_book_28 : decode cX5_book 28 = .ok (.getfield 45, 3) := by decide +kernel
theorem dX5_book_31 : decode cX5_book 31 = .ok (.iload_n 2, 1) := by decide +kernel
theorem dX5_book_32 : decode cX5_book 32 = .ok (.aload_n 0, 1) := by decide +kernel
theorem dX5_book_33 : decode cX5_book 33 = .ok (.iload_n 2, 1) := by decide +kernel
theorem dX5_book_34 : decode cX5_book 34 = .ok (.invokevirtual 127, 3) := by decide +kernel
theorem dX5_book_37 : decode cX5_book 37 = .ok (.iastore, 1) := by decide +kernel
theorem dX5_book_38 : decode cX5_book 38 = .ok (.iload_n 1, 1) := by decide +kernel
theorem dX5_book_39 : decode cX5_book 39 = .ok (.aload_n 0, 1) := by decide +kernel
theorem dX5_book_40 : decode cX5_book 40 = .ok (.getfield 45, 3) := by decide +kernel
theorem dX5_book_43 : decode cX5_book 43 = .ok (.iload_n 2, 1) := by decide +kernel
theorem dX5_book_44 : decode cX5_book 44 = .ok (.iaload, 1) := by decide +kernel
theorem dX5_book_45 : decode cX5_book 45 = .ok (.iconst (-1), 1) := by decide +kernel
theorem dX5_book_46 : decode cX5_book 46 = .ok (.if_icmp .ne 7, 3) := by decide +kernel
theorem dX5_book_49 : decode cX5_book 49 = .ok (.iconst 0, 1) := by decide +kernel
theorem dX5_book_50 : decode cX5_book 50 = .ok (.goto 4, 3) := by decide +kernel
theorem dX5_book_53 : decode cX5_book 53 = .ok (.iconst 1, 1) := by decide +kernel
theorem dX5_book_54 : decode cX5_book 54 = .ok (.iadd, 1) := by decide +kernel
theorem dX5_book_55 : decode cX5_book 55 = .ok (.istore_n 1, 1) := by decide +kernel
theorem dX5_book_56 : decode cX5_book 56 = .ok (.iinc 2 1, 3) := by decide +kernel
theorem dX5_book_59 : decode cX5_book 59 = .ok (.goto (-50), 3) := by decide +kernel
theorem dX5_book_62 : decode cX5_book 62 = .ok (.iload_n 1, 1) := by decide +kernel
theorem dX5_book_63 : decode cX5_book 63 = .ok (.ireturn, 1) := by decide +kernel
set_option maxRecDepth 20000 in
theorem ggX5_booked_X5_isCall : GoodIn wsX5_booked wsX5_isCall := goodIn_r _ [6, 7, 17, 18, 19, 20, 21, 22, 23, 24, 25, 26, 27, 28, 29, 30, 31, 32, 33, 34, 35, 36, 37, 38, 39, 40, 41, 42] (by decide +kernel) (by decide +kernel)
set_option maxRecDepth 20000 in
theorem gX5_booked_X5_isCall : GoodIn wsX5_booked (wsV RX5 111 RX5 yX5_isCall wsX5_isCall) := goodIn_app (goodIn_of _ (by decide +kernel)) ggX5_booked_X5_isCall
set_option maxRecDepth 20000 in
theorem ggX5_booked_X5_asks : GoodIn wsX5_booked wsX5_asks := goodIn_r _ [11, 12, 17, 18, 19, 20, 21, 22, 23, 24, 25, 26, 27, 28, 29, 30, 31, 32, 33, 34, 35, 36, 37, 38, 39, 40, 41, 42] (by decide +kernel) (by decide +kernel)
set_option maxRecDepth 20000 in
theorem gX5_booked_X5_asks : GoodIn wsX5_booked (wsV RX5 87 RX5 yX5_asks wsX5_asks) := goodIn_app (goodIn_of _ (by decide +kernel)) ggX5_booked_X5_asks
set_option maxRecDepth 20000 in
theorem ggX5_booked_X5_fails : GoodIn wsX5_booked wsX5_fails := goodIn_r _ [16, 12, 17, 18, 19, 20, 21, 22, 23, 24, 25, 26, 27, 28, 29, 30, 31, 32, 33, 34, 35, 36, 37, 38, 39, 40, 41, 42] (by decide +kernel) (by decide +kernel)
set_option maxRecDepth 20000 in
theorem gX5_booked_X5_fails : GoodIn wsX5_booked (wsV RX5 107 RX5 yX5_fails wsX5_fails) := goodIn_app (goodIn_of _ (by decide +kernel)) ggX5_booked_X5_fails
theorem dX5_booked_0 : decode cX5_booked 0 = .ok (.aload_n 0, 1) := by decide +kernel
theorem dX5_booked_1 : decode cX5_booked 1 = .ok (.aload_n 0, 1) := by decide +kernel
theorem dX5_booked_2 : decode cX5_booked 2 = .ok (.iload_n 1, 1) := by decide +kernel
theorem dX5_booked_3 : decode cX5_booked 3 = .ok (.invokevirtual 111, 3) := by decide +kernel
theorem dX5_booked_6 : decode cX5_booked 6 = .ok (.invokevirtual 87, 3) := by decide +kernel
theorem dX5_booked_9 : decode cX5_booked 9 = .ok (.ifCond .ne 5, 3) := by decide +kernel
theorem dX5_booked_12 : decode cX5_booked 12 = .ok (.iconst 0, 1) := by decide +kernel
theorem dX5_booked_13 : decode cX5_booked 13 = .ok (.ireturn, 1) := by decide +kernel
theorem dX5_booked_14 : decode cX5_booked 14 = .ok (.aload_n 0, 1) := by decide +kernel
theorem dX5_booked_15 : decode cX5_booked 15 = .ok (.getfield 45, 3) := by decide +kernel
theorem dX5_booked_18 : decode cX5_booked 18 = .ok (.iload_n 1, 1) := by decide +kernel
theorem dX5_booked_19 : decode cX5_booked 19 = .ok (.iaload, 1) := by decide +kernel
theorem dX5_booked_20 : decode cX5_booked 20 = .ok (.iconst (-1), 1) := by decide +kernel
theorem dX5_booked_21 : decode cX5_booked 21 = .ok (.if_icmp .ne 11, 3) := by decide +kernel
theorem dX5_booked_24 : decode cX5_booked 24 = .ok (.aload_n 0, 1) := by decide +kernel
theorem dX5_booked_25 : decode cX5_booked 25 = .ok (.iconst 2, 1) := by decide +kernel
theorem dX5_booked_26 : decode cX5_booked 26 = .ok (.invokevirtual 107, 3) := by decide +kernel
theorem dX5_booked_29 : decode cX5_booked 29 = .ok (.goto 9, 3) := by decide +kernel
theorem dX5_booked_32 : decode cX5_booked 32 = .ok (.aload_n 0, 1) := by decide +kernel
theorem dX5_booked_33 : decode cX5_booked 33 = .ok (.getfield 45, 3) := by decide +kernel
theorem dX5_booked_36 : decode cX5_booked 36 = .ok (.iload_n 1, 1) := by decide +kernel
theorem dX5_booked_37 : decode cX5_booked 37 = .ok (.iaload, 1) := by decide +kernel
theorem dX5_booked_38 : decode cX5_booked 38 = .ok (.ireturn, 1) := by decide +kernel
set_option maxRecDepth 20000 in
theorem ggX5_correct_X5_chargeOf : GoodIn wsX5_correct wsX5_chargeOf := goodIn_r _ [9, 10, 11, 12, 13, 14, 15, 16, 17, 18, 19, 8, 20, 21, 22, 23, 24, 25, 26, 27, 28, 29, 30, 31, 32, 33, 34, 35, 36, 37, 38, 39, 40, 41, 42, 43, 44, 45, 46, 47, 48, 49, 50, 51, 52] (by decide +kernel) (by decide +kernel)
set_option maxRecDepth 20000 in
theorem gX5_correct_X5_chargeOf : GoodIn wsX5_correct (wsV RX5 127 RX5 yX5_chargeOf wsX5_chargeOf) := goodIn_app (goodIn_of _ (by decide +kernel)) ggX5_correct_X5_chargeOf
theorem dX5_correct_0 : decode cX5_correct 0 = .ok (.aload_n 0, 1) := by decide +kernel
theorem dX5_correct_1 : decode cX5_correct 1 = .ok (.iconst 0, 1) := by decide +kernel
theorem dX5_correct_2 : decode cX5_correct 2 = .ok (.putfield 78, 3) := by decide +kernel
theorem dX5_correct_5 : decode cX5_correct 5 = .ok (.iconst 0, 1) := by decide +kernel
theorem dX5_correct_6 : decode cX5_correct 6 = .ok (.istore_n 1, 1) := by decide +kernel
theorem dX5_correct_7 : decode cX5_correct 7 = .ok (.iconst 0, 1) := by decide +kernel
theorem dX5_correct_8 : decode cX5_correct 8 = .ok (.istore_n 2, 1) := by decide +kernel
theorem dX5_correct_9 : decode cX5_correct 9 = .ok (.iload_n 2, 1) := by decide +kernel
theorem dX5_correct_10 : decode cX5_correct 10 = .ok (.aload_n 0, 1) := by decide +kernel
theorem dX5_correct_11 : decode cX5_correct 11 = .ok (.getfield 91, 3) := by decide +kernel
theorem dX5_correct_14 : decode cX5_correct 14 = .ok (.if_icmp .ge 76, 3) := by decide +kernel
theorem dX5_correct_17 : decode cX5_correct 17 = .ok (.aload_n 0, 1) := by decide +kernel
theorem dX5_correct_18 : decode cX5_correct 18 = .ok (.getfield 45, 3) := by decide +kernel
theorem dX5_correct_21 : decode cX5_correct 21 = .ok (.iload_n 2, 1) := by decide +kernel
theorem dX5_correct_22 : decode cX5_correct 22 = .ok (.iaload, 1) := by decide +kernel
theorem dX5_correct_23 : decode cX5_correct 23 = .ok (.iconst (-1), 1) := by decide +kernel
theorem dX5_correct_24 : decode cX5_correct 24 = .ok (.if_icmp .ne 7, 3) := by decide +kernel
theorem dX5_correct_27 : decode cX5_correct 27 = .ok (.iconst (-1), 1) := by decide +kernel
theorem dX5_correct_28 : decode cX5_correct 28 = .ok (.goto 8, 3) := by decide +kernel
theorem dX5_correct_31 : decode cX5_correct 31 = .ok (.aload_n 0, 1) := by decide +kernel
theorem dX5_correct_32 : decode cX5_correct 32 = .ok (.iload_n 2, 1) := by decide +kernel
theorem dX5_correct_33 : decode cX5_correct 33 = .ok (.invokevirtual 127, 3) := by decide +kernel
theorem dX5_correct_36 : decode cX5_correct 36 = .ok (.istore_n 3, 1) := by decide +kernel
theorem dX5_correct_37 : decode cX5_correct 37 = .ok (.iload_n 3, 1) := by decide +kernel
theorem dX5_correct_38 : decode cX5_correct 38 = .ok (.iconst (-1), 1) := by decide +kernel
theorem dX5_correct_39 : decode cX5_correct 39 = .ok (.if_icmp .eq 45, 3) := by decide +kernel
theorem dX5_correct_42 : decode cX5_correct 42 = .ok (.iload_n 1, 1) := by decide +kernel
theorem dX5_correct_43 : decode cX5_correct 43 = .ok (.iload_n 3, 1) := by decide +kernel
theorem dX5_correct_44 : decode cX5_correct 44 = .ok (.aload_n 0, 1) := by decide +kernel
theorem dX5_correct_45 : decode cX5_correct 45 = .ok (.getfield 45, 3) := by decide +kernel
theorem dX5_correct_48 : decode cX5_correct 48 = .ok (.iload_n 2, 1) := by decide +kernel
theorem dX5_correct_49 : decode cX5_correct 49 = .ok (.iaload, 1) := by decide +kernel
theorem dX5_correct_50 : decode cX5_correct 50 = .ok (.isub, 1) := by decide +kernel
theorem dX5_correct_51 : decode cX5_correct 51 = .ok (.iadd, 1) := by decide +kernel
theorem dX5_correct_52 : decode cX5_correct 52 = .ok (.istore_n 1, 1) := by decide +kernel
theorem dX5_correct_53 : decode cX5_correct 53 = .ok (.aload_n 0, 1) := by decide +kernel
theorem dX5_correct_54 : decode cX5_correct 54 = .ok (.dup, 1) := by decide +kernel
theorem dX5_correct_55 : decode cX5_correct 55 = .ok (.getfield 130, 3) := by decide +kernel
theorem dX5_correct_58 : decode cX5_correct 58 = .ok (.iload_n 3, 1) := by decide +kernel
theorem dX5_correct_59 : decode cX5_correct 59 = .ok (.aload_n 0, 1) := by decide +kernel
theorem dX5_correct_60 : decode cX5_correct 60 = .ok (.getfield 45, 3) := by decide +kernel
theorem dX5_correct_63 : decode cX5_correct 63 = .ok (.iload_n 2, 1) := by decide +kernel
theorem dX5_correct_64 : decode cX5_correct 64 = .ok (.iaload, 1) := by decide +kernel
theorem dX5_correct_65 : decode cX5_correct 65 = .ok (.if_icmp .ne 7, 3) := by decide +kernel
theorem dX5_correct_68 : decode cX5_correct 68 = .ok (.iconst 0, 1) := by decide +kernel
theorem dX5_correct_69 : decode cX5_correct 69 = .ok (.goto 4, 3) := by decide +kernel
theorem dX5_correct_72 : decode cX5_correct 72 = .ok (.iconst 1, 1) := by decide +kernel
theorem dX5_correct_73 : decode cX5_correct 73 = .ok (.iadd, 1) := by decide +kernel
theorem dX5_correct_74 : decode cX5_correct 74 = .ok (.putfield 130, 3) := by decide +kernel
theorem dX5_correct_77 : decode cX5_correct 77 = .ok (.aload_n 0, 1) := by decide +kernel
theorem dX5_correct_78 : decode cX5_correct 78 = .ok (.getfield 45, 3) := by decide +kernel
theorem dX5_correct_81 : decode cX5_correct 81 = .ok (.iload_n 2, 1) := by decide +kernel
theorem dX5_correct_82 : decode cX5_correct 82 = .ok (.iload_n 3, 1) := by decide +kernel
theorem dX5_correct_83 : decode cX5_correct 83 = .ok (.iastore, 1) := by decide +kernel
theorem dX5_correct_84 : decode cX5_correct 84 = .ok (.iinc 2 1, 3) := by decide +kernel
theorem dX5_correct_87 : decode cX5_correct 87 = .ok (.goto (-78), 3) := by decide +kernel
theorem dX5_correct_90 : decode cX5_correct 90 = .ok (.iload_n 1, 1) := by decide +kernel
theorem dX5_correct_91 : decode cX5_correct 91 = .ok (.ireturn, 1) := by decide +kernel
theorem dX5_corrections_0 : decode cX5_corrections 0 = .ok (.aload_n 0, 1) := by decide +kernel
theorem dX5_corrections_1 : decode cX5_corrections 1 = .ok (.iconst 0, 1) := by decide +kernel
theorem dX5_corrections_2 : decode cX5_corrections 2 = .ok (.putfield 78, 3) := by decide +kernel
theorem dX5_corrections_5 : decode cX5_corrections 5 = .ok (.aload_n 0, 1) := by decide +kernel
theorem dX5_corrections_6 : decode cX5_corrections 6 = .ok (.getfield 130, 3) := by decide +kernel
theorem dX5_corrections_9 : decode cX5_corrections 9 = .ok (.ireturn, 1) := by decide +kernel
theorem dX5_bookedOf_0 : decode cX5_bookedOf 0 = .ok (.aload_n 0, 1) := by decide +kernel
theorem dX5_bookedOf_1 : decode cX5_bookedOf 1 = .ok (.getfield 45, 3) := by decide +kernel
theorem dX5_bookedOf_4 : decode cX5_bookedOf 4 = .ok (.iload_n 1, 1) := by decide +kernel
theorem dX5_bookedOf_5 : decode cX5_bookedOf 5 = .ok (.iaload, 1) := by decide +kernel
theorem dX5_bookedOf_6 : decode cX5_bookedOf 6 = .ok (.iconst (-1), 1) := by decide +kernel
theorem dX5_bookedOf_7 : decode cX5_bookedOf 7 = .ok (.if_icmp .ne 7, 3) := by decide +kernel
theorem dX5_bookedOf_10 : decode cX5_bookedOf 10 = .ok (.iconst 0, 1) := by decide +kernel
theorem dX5_bookedOf_11 : decode cX5_bookedOf 11 = .ok (.goto 9, 3) := by decide +kernel
theorem dX5_bookedOf_14 : decode cX5_bookedOf 14 = .ok (.aload_n 0, 1) := by decide +kernel
theorem dX5_bookedOf_15 : decode cX5_bookedOf 15 = .ok (.getfield 45, 3) := by decide +kernel
theorem dX5_bookedOf_18 : decode cX5_bookedOf 18 = .ok (.iload_n 1, 1) := by decide +kernel
theorem dX5_bookedOf_19 : decode cX5_bookedOf 19 = .ok (.iaload, 1) := by decide +kernel
theorem dX5_bookedOf_20 : decode cX5_bookedOf 20 = .ok (.ireturn, 1) := by decide +kernel
set_option maxRecDepth 20000 in
theorem ggX5_total_X5_isPrefix : GoodIn wsX5_total wsX5_isPrefix := goodIn_r _ [6, 7, 8, 9, 5, 10] (by decide +kernel) (by decide +kernel)
set_option maxRecDepth 20000 in
theorem gX5_total_X5_isPrefix : GoodIn wsX5_total (va_wsS RX5 114 yX5_isPrefix wsX5_isPrefix) := goodIn_app (goodIn_of _ (by decide +kernel)) ggX5_total_X5_isPrefix
set_option maxRecDepth 20000 in
theorem ggX5_total_X5_asks : GoodIn wsX5_total wsX5_asks := goodIn_r _ [14, 15, 24, 25, 26, 27, 28, 29, 30, 31, 32, 33, 34, 35, 36, 37, 38, 39, 40, 41, 42, 43, 44, 45, 46, 47, 48, 49] (by decide +kernel) (by decide +kernel)
set_option maxRecDepth 20000 in
theorem gX5_total_X5_asks : GoodIn wsX5_total (wsV RX5 87 RX5 yX5_asks wsX5_asks) := goodIn_app (goodIn_of _ (by decide +kernel)) ggX5_total_X5_asks
set_option maxRecDepth 20000 in
theorem ggX5_total_X5_fits : GoodIn wsX5_total wsX5_fits := goodIn_r _ [18] (by decide +kernel) (by decide +kernel)
set_option maxRecDepth 20000 in
theorem gX5_total_X5_fits : GoodIn wsX5_total (va_wsS RX5 120 yX5_fits wsX5_fits) := goodIn_app (goodIn_of _ (by decide +kernel)) ggX5_total_X5_fits
set_option maxRecDepth 20000 in
theorem ggX5_total_X5_bookedOf : GoodIn wsX5_total wsX5_bookedOf := goodIn_r _ [22, 23, 24, 25, 26, 27, 28, 29, 30, 31, 32, 33, 34, 35, 36, 37, 38, 39, 40, 41, 42, 43, 44, 45, 46, 47, 48, 49] (by decide +kernel) (by decide +kernel)
set_option maxRecDepth 20000 in
theorem gX5_total_X5_bookedOf : GoodIn wsX5_total (wsV RX5 133 RX5 yX5_bookedOf wsX5_bookedOf) := goodIn_app (goodIn_of _ (by decide +kernel)) ggX5_total_X5_bookedOf
theorem dX5_total_0 : decode cX5_total 0 = .ok (.iconst 0, 1) := by decide +kernel
theorem dX5_total_1 : decode cX5_total 1 = .ok (.istore_n 2, 1) := by decide +kernel
theorem dX5_total_2 : decode cX5_total 2 = .ok (.aload_n 0, 1) := by decide +kernel
theorem dX5_total_3 : decode cX5_total 3 = .ok (.iload_n 1, 1) := by decide +kernel
theorem dX5_total_4 : decode cX5_total 4 = .ok (.invokestatic 114, 3) := by decide +kernel
theorem dX5_total_7 : decode cX5_total 7 = .ok (.invokevirtual 87, 3) := by decide +kernel
theorem dX5_total_10 : decode cX5_total 10 = .ok (.ifCond .eq 44, 3) := by decide +kernel
theorem dX5_total_13 : decode cX5_total 13 = .ok (.iconst 0, 1) := by decide +kernel
theorem dX5_total_14 : decode cX5_total 14 = .ok (.istore_n 3, 1) := by decide +kernel
theorem dX5_total_15 : decode cX5_total 15 = .ok (.iload_n 3, 1) := by decide +kernel
theorem dX5_total_16 : decode cX5_total 16 = .ok (.aload_n 0, 1) := by decide +kernel
theorem dX5_total_17 : decode cX5_total 17 = .ok (.getfield 91, 3) := by decide +kernel
theorem dX5_total_20 : decode cX5_total 20 = .ok (.if_icmp .ge 34, 3) := by decide +kernel
theorem dX5_total_23 : decode cX5_total 23 = .ok (.iload_n 2, 1) := by decide +kernel
theorem dX5_total_24 : decode cX5_total 24 = .ok (.iload_n 1, 1) := by decide +kernel
theorem dX5_total_25 : decode cX5_total 25 = .ok (.aload_n 0, 1) := by decide +kernel
theorem dX5_total_26 : decode cX5_total 26 = .ok (.getfield 30, 3) := by decide +kernel
theorem dX5_total_29 : decode cX5_total 29 = .ok (.iload_n 3, 1) := by decide +kernel
theorem dX5_total_30 : decode cX5_total 30 = .ok (.iaload, 1) := by decide +kernel
theorem dX5_total_31 : decode cX5_total 31 = .ok (.invokestatic 120, 3) := by decide +kernel
theorem dX5_total_34 : decode cX5_total 34 = .ok (.ifCond .eq 11, 3) := by decide +kernel
theorem dX5_total_37 : decode cX5_total 37 = .ok (.aload_n 0, 1) := by decide +kernel
theorem dX5_total_38 : decode cX5_total 38 = .ok (.iload_n 3, 1) := by decide +kernel
theorem dX5_total_39 : decode cX5_total 39 = .ok (.invokevirtual 133, 3) := by decide +kernel
theorem dX5_total_42 : decode cX5_total 42 = .ok (.goto 4, 3) := by decide +kernel
theorem dX5_total_45 : decode cX5_total 45 = .ok (.iconst 0, 1) := by decide +kernel
theorem dX5_total_46 : decode cX5_total 46 = .ok (.iadd, 1) := by decide +kernel
theorem dX5_total_47 : decode cX5_total 47 = .ok (.istore_n 2, 1) := by decide +kernel
theorem dX5_total_48 : decode cX5_total 48 = .ok (.iinc 3 1, 3) := by decide +kernel
theorem dX5_total_51 : decode cX5_total 51 = .ok (.goto (-36), 3) := by decide +kernel
theorem dX5_total_54 : decode cX5_total 54 = .ok (.iload_n 2, 1) := by decide +kernel
theorem dX5_total_55 : decode cX5_total 55 = .ok (.ireturn, 1) := by decide +kernel
set_option maxRecDepth 20000 in
theorem ggX5_offer_X5_in : GoodIn wsX5_offer wsX5_in := goodIn_r _ [7] (by decide +kernel) (by decide +kernel)
set_option maxRecDepth 20000 in
theorem gX5_offer_X5_in : GoodIn wsX5_offer (va_wsS RX5 82 yX5_in wsX5_in) := goodIn_app (goodIn_of _ (by decide +kernel)) ggX5_offer_X5_in
set_option maxRecDepth 20000 in
theorem ggX5_offer_X5_isPrefix : GoodIn wsX5_offer wsX5_isPrefix := goodIn_r _ [10, 11, 4, 5, 6, 7] (by decide +kernel) (by decide +kernel)
set_option maxRecDepth 20000 in
theorem gX5_offer_X5_isPrefix : GoodIn wsX5_offer (va_wsS RX5 114 yX5_isPrefix wsX5_isPrefix) := goodIn_app (goodIn_of _ (by decide +kernel)) ggX5_offer_X5_isPrefix
set_option maxRecDepth 20000 in
theorem ggX5_offer_X5_asks : GoodIn wsX5_offer wsX5_asks := goodIn_r _ [15, 16, 21, 22, 23, 24, 25, 26, 27, 28, 29, 30, 31, 32, 33, 34, 35, 36, 37, 38, 39, 40, 41, 42, 43, 44, 45, 46] (by decide +kernel) (by decide +kernel)
set_option maxRecDepth 20000 in
theorem gX5_offer_X5_asks : GoodIn wsX5_offer (wsV RX5 87 RX5 yX5_asks wsX5_asks) := goodIn_app (goodIn_of _ (by decide +kernel)) ggX5_offer_X5_asks
set_option maxRecDepth 20000 in
theorem ggX5_offer_X5_fails : GoodIn wsX5_offer wsX5_fails := goodIn_r _ [20, 16, 21, 22, 23, 24, 25, 26, 27, 28, 29, 30, 31, 32, 33, 34, 35, 36, 37, 38, 39, 40, 41, 42, 43, 44, 45, 46] (by decide +kernel) (by decide +kernel)
set_option maxRecDepth 20000 in
theorem gX5_offer_X5_fails : GoodIn wsX5_offer (wsV RX5 107 RX5 yX5_fails wsX5_fails) := goodIn_app (goodIn_of _ (by decide +kernel)) ggX5_offer_X5_fails
theorem dX5_offer_0 : decode cX5_offer 0 = .ok (.aload_n 0, 1) := by decide +kernel
theorem dX5_offer_1 : decode cX5_offer 1 = .ok (.iload_n 1, 1) := by decide +kernel
theorem dX5_offer_2 : decode cX5_offer 2 = .ok (.iconst 0, 1) := by decide +kernel
theorem dX5_offer_3 : decode cX5_offer 3 = .ok (.iconst 3, 1) := by decide +kernel
theorem dX5_offer_4 : decode cX5_offer 4 = .ok (.invokestatic 82, 3) := by decide +kernel
theorem dX5_offer_7 : decode cX5_offer 7 = .ok (.ifCond .eq 25, 3) := by decide +kernel
theorem dX5_offer_10 : decode cX5_offer 10 = .ok (.iload_n 2, 1) := by decide +kernel
theorem dX5_offer_11 : decode cX5_offer 11 = .ok (.invokestatic 114, 3) := by decide +kernel
theorem dX5_offer_14 : decode cX5_offer 14 = .ok (.ifCond .eq 18, 3) := by decide +kernel
theorem dX5_offer_17 : decode cX5_offer 17 = .ok (.iload_n 3, 1) := by decide +kernel
theorem dX5_offer_18 : decode cX5_offer 18 = .ok (.iconst (-1), 1) := by decide +kernel
theorem dX5_offer_19 : decode cX5_offer 19 = .ok (.sipush 10000, 3) := by decide +kernel
theorem dX5_offer_22 : decode cX5_offer 22 = .ok (.invokestatic 82, 3) := by decide +kernel
theorem dX5_offer_25 : decode cX5_offer 25 = .ok (.ifCond .eq 7, 3) := by decide +kernel
theorem dX5_offer_28 : decode cX5_offer 28 = .ok (.iconst 1, 1) := by decide +kernel
theorem dX5_offer_29 : decode cX5_offer 29 = .ok (.goto 4, 3) := by decide +kernel
theorem dX5_offer_32 : decode cX5_offer 32 = .ok (.iconst 0, 1) := by decide +kernel
theorem dX5_offer_33 : decode cX5_offer 33 = .ok (.invokevirtual 87, 3) := by decide +kernel
theorem dX5_offer_36 : decode cX5_offer 36 = .ok (.ifCond .ne 5, 3) := by decide +kernel
theorem dX5_offer_39 : decode cX5_offer 39 = .ok (.iconst 0, 1) := by decide +kernel
theorem dX5_offer_40 : decode cX5_offer 40 = .ok (.ireturn, 1) := by decide +kernel
theorem dX5_offer_41 : decode cX5_offer 41 = .ok (.iconst (-1), 1) := by decide +kernel
theorem dX5_offer_42 : decode cX5_offer 42 = .ok (.istore 4, 2) := by decide +kernel
theorem dX5_offer_44 : decode cX5_offer 44 = .ok (.iconst 0, 1) := by decide +kernel
theorem dX5_offer_45 : decode cX5_offer 45 = .ok (.istore 5, 2) := by decide +kernel
theorem dX5_offer_47 : decode cX5_offer 47 = .ok (.iload 5, 2) := by decide +kernel
theorem dX5_offer_49 : decode cX5_offer 49 = .ok (.aload_n 0, 1) := by decide +kernel
theorem dX5_offer_50 : decode cX5_offer 50 = .ok (.getfield 69, 3) := by decide +kernel
theorem dX5_offer_53 : decode cX5_offer 53 = .ok (.iload_n 1, 1) := by decide +kernel
theorem dX5_offer_54 : decode cX5_offer 54 = .ok (.iaload, 1) := by decide +kernel
theorem dX5_offer_55 : decode cX5_offer 55 = .ok (.if_icmp .ge 39, 3) := by decide +kernel
theorem dX5_offer_58 : decode cX5_offer 58 = .ok (.aload_n 0, 1) := by decide +kernel
theorem dX5_offer_59 : decode cX5_offer 59 = .ok (.getfield 72, 3) := by decide +kernel
theorem dX5_offer_62 : decode cX5_offer 62 = .ok (.bipush 10, 2) := by decide +kernel
theorem dX5_offer_64 : decode cX5_offer 64 = .ok (.iload_n 1, 1) := by decide +kernel
theorem dX5_offer_65 : decode cX5_offer 65 = .ok (.imul, 1) := by decide +kernel
theorem dX5_offer_66 : decode cX5_offer 66 = .ok (.iload 5, 2) := by decide +kernel
theorem dX5_offer_68 : decode cX5_offer 68 = .ok (.iadd, 1) := by decide +kernel
theorem dX5_offer_69 : decode cX5_offer 69 = .ok (.iaload, 1) := by decide +kernel
theorem dX5_offer_70 : decode cX5_offer 70 = .ok (.iload_n 2, 1) := by decide +kernel
theorem dX5_offer_71 : decode cX5_offer 71 = .ok (.if_icmp .ne 13, 3) := by decide +kernel
theorem dX5_offer_74 : decode cX5_offer 74 = .ok (.bipush 10, 2) := by decide +kernel
theorem dX5_offer_76 : decode cX5_offer 76 = .ok (.iload_n 1, 1) := by decide +kernel
theorem dX5_offer_77 : decode cX5_offer 77 = .ok (.imul, 1) := by decide +kernel
theorem dX5_offer_78 : decode cX5_offer 78 = .ok (.iload 5, 2) := by decide +kernel
theorem dX5_offer_80 : decode cX5_offer 80 = .ok (.iadd, 1) := by decide +kernel
theorem dX5_offer_81 : decode cX5_offer 81 = .ok (.goto 5, 3) := by decide +kernel
theorem dX5_offer_84 : decode cX5_offer 84 = .ok (.iload 4, 2) := by decide +kernel
theorem dX5_offer_86 : decode cX5_offer 86 = .ok (.istore 4, 2) := by decide +kernel
theorem dX5_offer_88 : decode cX5_offer 88 = .ok (.iinc 5 1, 3) := by decide +kernel
theorem dX5_offer_91 : decode cX5_offer 91 = .ok (.goto (-44), 3) := by decide +kernel
theorem dX5_offer_94 : decode cX5_offer 94 = .ok (.bipush 10, 2) := by decide +kernel
theorem dX5_offer_96 : decode cX5_offer 96 = .ok (.iload_n 1, 1) := by decide +kernel
theorem dX5_offer_97 : decode cX5_offer 97 = .ok (.imul, 1) := by decide +kernel
theorem dX5_offer_98 : decode cX5_offer 98 = .ok (.aload_n 0, 1) := by decide +kernel
theorem dX5_offer_99 : decode cX5_offer 99 = .ok (.getfield 69, 3) := by decide +kernel
theorem dX5_offer_102 : decode cX5_offer 102 = .ok (.iload_n 1, 1) := by decide +kernel
theorem dX5_offer_103 : decode cX5_offer 103 = .ok (.iaload, 1) := by decide +kernel
theorem dX5_offer_104 : decode cX5_offer 104 = .ok (.iadd, 1) := by decide +kernel
theorem dX5_offer_105 : decode cX5_offer 105 = .ok (.iconst 1, 1) := by decide +kernel
theorem dX5_offer_106 : decode cX5_offer 106 = .ok (.isub, 1) := by decide +kernel
theorem dX5_offer_107 : decode cX5_offer 107 = .ok (.istore 5, 2) := by decide +kernel
theorem dX5_offer_109 : decode cX5_offer 109 = .ok (.iload 4, 2) := by decide +kernel
theorem dX5_offer_111 : decode cX5_offer 111 = .ok (.iconst (-1), 1) := by decide +kernel
theorem dX5_offer_112 : decode cX5_offer 112 = .ok (.if_icmp .ne 10, 3) := by decide +kernel
theorem dX5_offer_115 : decode cX5_offer 115 = .ok (.iload_n 3, 1) := by decide +kernel
theorem dX5_offer_116 : decode cX5_offer 116 = .ok (.iconst (-1), 1) := by decide +kernel
theorem dX5_offer_117 : decode cX5_offer 117 = .ok (.if_icmp .ne 5, 3) := by decide +kernel
theorem dX5_offer_120 : decode cX5_offer 120 = .ok (.iconst (-1), 1) := by decide +kernel
theorem dX5_offer_121 : decode cX5_offer 121 = .ok (.ireturn, 1) := by decide +kernel
theorem dX5_offer_122 : decode cX5_offer 122 = .ok (.iload 4, 2) := by decide +kernel
theorem dX5_offer_124 : decode cX5_offer 124 = .ok (.iconst (-1), 1) := by decide +kernel
theorem dX5_offer_125 : decode cX5_offer 125 = .ok (.if_icmp .ne 20, 3) := by decide +kernel
theorem dX5_offer_128 : decode cX5_offer 128 = .ok (.aload_n 0, 1) := by decide +kernel
theorem dX5_offer_129 : decode cX5_offer 129 = .ok (.getfield 69, 3) := by decide +kernel
theorem dX5_offer_132 : decode cX5_offer 132 = .ok (.iload_n 1, 1) := by decide +kernel
theorem dX5_offer_133 : decode cX5_offer 133 = .ok (.iaload, 1) := by decide +kernel
theorem dX5_offer_134 : decode cX5_offer 134 = .ok (.bipush 10, 2) := by decide +kernel
theorem dX5_offer_136 : decode cX5_offer 136 = .ok (.if_icmp .ne 9, 3) := by decide +kernel
theorem dX5_offer_139 : decode cX5_offer 139 = .ok (.aload_n 0, 1) := by decide +kernel
theorem dX5_offer_140 : decode cX5_offer 140 = .ok (.iconst 2, 1) := by decide +kernel
theorem dX5_offer_141 : decode cX5_offer 141 = .ok (.invokevirtual 107, 3) := by decide +kernel
theorem dX5_offer_144 : decode cX5_offer 144 = .ok (.ireturn, 1) := by decide +kernel
theorem dX5_offer_145 : decode cX5_offer 145 = .ok (.iload 4, 2) := by decide +kernel
theorem dX5_offer_147 : decode cX5_offer 147 = .ok (.iconst (-1), 1) := by decide +kernel
theorem dX5_offer_148 : decode cX5_offer 148 = .ok (.if_icmp .ne 7, 3) := by decide +kernel
theorem dX5_offer_151 : decode cX5_offer 151 = .ok (.iconst (-1), 1) := by decide +kernel
theorem dX5_offer_152 : decode cX5_offer 152 = .ok (.goto 10, 3) := by decide +kernel
theorem dX5_offer_155 : decode cX5_offer 155 = .ok (.aload_n 0, 1) := by decide +kernel
theorem dX5_offer_156 : decode cX5_offer 156 = .ok (.getfield 75, 3) := by decide +kernel
theorem dX5_offer_159 : decode cX5_offer 159 = .ok (.iload 4, 2) := by decide +kernel
theorem dX5_offer_161 : decode cX5_offer 161 = .ok (.iaload, 1) := by decide +kernel
theorem dX5_offer_162 : decode cX5_offer 162 = .ok (.istore 6, 2) := by decide +kernel
theorem dX5_offer_164 : decode cX5_offer 164 = .ok (.iload_n 3, 1) := by decide +kernel
theorem dX5_offer_165 : decode cX5_offer 165 = .ok (.iconst (-1), 1) := by decide +kernel
theorem dX5_offer_166 : decode cX5_offer 166 = .ok (.if_icmp .ne 44, 3) := by decide +kernel
theorem dX5_offer_169 : decode cX5_offer 169 = .ok (.aload_n 0, 1) := by decide +kernel
theorem dX5_offer_170 : decode cX5_offer 170 = .ok (.getfield 72, 3) := by decide +kernel
theorem dX5_offer_173 : decode cX5_offer 173 = .ok (.iload 4, 2) := by decide +kernel
theorem dX5_offer_175 : decode cX5_offer 175 = .ok (.aload_n 0, 1) := by decide +kernel
theorem dX5_offer_176 : decode cX5_offer 176 = .ok (.getfield 72, 3) := by decide +kernel
theorem dX5_offer_179 : decode cX5_offer 179 = .ok (.iload 5, 2) := by decide +kernel
theorem dX5_offer_181 : decode cX5_offer 181 = .ok (.iaload, 1) := by decide +kernel
theorem dX5_offer_182 : decode cX5_offer 182 = .ok (.iastore, 1) := by decide +kernel
theorem dX5_offer_183 : decode cX5_offer 183 = .ok (.aload_n 0, 1) := by decide +kernel
theorem dX5_offer_184 : decode cX5_offer 184 = .ok (.getfield 75, 3) := by decide +kernel
theorem dX5_offer_187 : decode cX5_offer 187 = .ok (.iload 4, 2) := by decide +kernel
theorem dX5_offer_189 : decode cX5_offer 189 = .ok (.aload_n 0, 1) := by decide +kernel
theorem dX5_offer_190 : decode cX5_offer 190 = .ok (.getfield 75, 3) := by decide +kernel
theorem dX5_offer_193 : decode cX5_offer 193 = .ok (.iload 5, 2) := by decide +kernel
theorem dX5_offer_195 : decode cX5_offer 195 = .ok (.iaload, 1) := by decide +kernel
theorem dX5_offer_196 : decode cX5_offer 196 = .ok (.iastore, 1) := by decide +kernel
theorem dX5_offer_197 : decode cX5_offer 197 = .ok (.aload_n 0, 1) := by decide +kernel
theorem dX5_offer_198 : decode cX5_offer 198 = .ok (.getfield 69, 3) := by decide +kernel
theorem dX5_offer_201 : decode cX5_offer 201 = .ok (.iload_n 1, 1) := by decide +kernel
theorem dX5_offer_202 : decode cX5_offer 202 = .ok (.dup2, 1) := by decide +kernel
theorem dX5_offer_203 : decode cX5_offer 203 = .ok (.iaload, 1) := by decide +kernel
theorem dX5_offer_204 : decode cX5_offer 204 = .ok (.iconst 1, 1) := by decide +kernel
theorem dX5_offer_205 : decode cX5_offer 205 = .ok (.isub, 1) := by decide +kernel
theorem dX5_offer_206 : decode cX5_offer 206 = .ok (.iastore, 1) := by decide +kernel
theorem dX5_offer_207 : decode cX5_offer 207 = .ok (.goto 57, 3) := by decide +kernel
theorem dX5_offer_210 : decode cX5_offer 210 = .ok (.iload 4, 2) := by decide +kernel
theorem dX5_offer_212 : decode cX5_offer 212 = .ok (.iconst (-1), 1) := by decide +kernel
theorem dX5_offer_213 : decode cX5_offer 213 = .ok (.if_icmp .ne 10, 3) := by decide +kernel
theorem dX5_offer_216 : decode cX5_offer 216 = .ok (.iload 5, 2) := by decide +kernel
theorem dX5_offer_218 : decode cX5_offer 218 = .ok (.iconst 1, 1) := by decide +kernel
theorem dX5_offer_219 : decode cX5_offer 219 = .ok (.iadd, 1) := by decide +kernel
theorem dX5_offer_220 : decode cX5_offer 220 = .ok (.goto 5, 3) := by decide +kernel
theorem dX5_offer_223 : decode cX5_offer 223 = .ok (.iload 4, 2) := by decide +kernel
theorem dX5_offer_225 : decode cX5_offer 225 = .ok (.istore 4, 2) := by decide +kernel
theorem dX5_offer_227 : decode cX5_offer 227 = .ok (.aload_n 0, 1) := by decide +kernel
theorem dX5_offer_228 : decode cX5_offer 228 = .ok (.getfield 69, 3) := by decide +kernel
theorem dX5_offer_231 : decode cX5_offer 231 = .ok (.iload_n 1, 1) := by decide +kernel
theorem dX5_offer_232 : decode cX5_offer 232 = .ok (.dup2, 1) := by decide +kernel
theorem dX5_offer_233 : decode cX5_offer 233 = .ok (.iaload, 1) := by decide +kernel
theorem dX5_offer_234 : decode cX5_offer 234 = .ok (.iload 4, 2) := by decide +kernel
theorem dX5_offer_236 : decode cX5_offer 236 = .ok (.iload 5, 2) := by decide +kernel
theorem dX5_offer_238 : decode cX5_offer 238 = .ok (.if_icmp .le 7, 3) := by decide +kernel
theorem dX5_offer_241 : decode cX5_offer 241 = .ok (.iconst 1, 1) := by decide +kernel
theorem dX5_offer_242 : decode cX5_offer 242 = .ok (.goto 4, 3) := by decide +kernel
theorem dX5_offer_245 : decode cX5_offer 245 = .ok (.iconst 0, 1) := by decide +kernel
theorem dX5_offer_246 : decode cX5_offer 246 = .ok (.iadd, 1) := by decide +kernel
theorem dX5_offer_247 : decode cX5_offer 247 = .ok (.iastore, 1) := by decide +kernel
theorem dX5_offer_248 : decode cX5_offer 248 = .ok (.aload_n 0, 1) := by decide +kernel
theorem dX5_offer_249 : decode cX5_offer 249 = .ok (.getfield 72, 3) := by decide +kernel
theorem dX5_offer_252 : decode cX5_offer 252 = .ok (.iload 4, 2) := by decide +kernel
theorem dX5_offer_254 : decode cX5_offer 254 = .ok (.iload_n 2, 1) := by decide +kernel
theorem dX5_offer_255 : decode cX5_offer 255 = .ok (.iastore, 1) := by decide +kernel
theorem dX5_offer_256 : decode cX5_offer 256 = .ok (.aload_n 0, 1) := by decide +kernel
theorem dX5_offer_257 : decode cX5_offer 257 = .ok (.getfield 75, 3) := by decide +kernel
theorem dX5_offer_260 : decode cX5_offer 260 = .ok (.iload 4, 2) := by decide +kernel
theorem dX5_offer_262 : decode cX5_offer 262 = .ok (.iload_n 3, 1) := by decide +kernel
theorem dX5_offer_263 : decode cX5_offer 263 = .ok (.iastore, 1) := by decide +kernel
theorem dX5_offer_264 : decode cX5_offer 264 = .ok (.iload 6, 2) := by decide +kernel
theorem dX5_offer_266 : decode cX5_offer 266 = .ok (.ireturn, 1) := by decide +kernel
set_option maxRecDepth 20000 in
theorem ggX5_offerOf_X5_fits : GoodIn wsX5_offerOf wsX5_fits := goodIn_r _ [7] (by decide +kernel) (by decide +kernel)
set_option maxRecDepth 20000 in
theorem gX5_offerOf_X5_fits : GoodIn wsX5_offerOf (va_wsS RX5 120 yX5_fits wsX5_fits) := goodIn_app (goodIn_of _ (by decide +kernel)) ggX5_offerOf_X5_fits
theorem dX5_offerOf_0 : decode cX5_offerOf 0 = .ok (.iconst (-1), 1) := by decide +kernel
theorem dX5_offerOf_1 : decode cX5_offerOf 1 = .ok (.istore_n 3, 1) := by decide +kernel
theorem dX5_offerOf_2 : decode cX5_offerOf 2 = .ok (.bipush 10, 2) := by decide +kernel
theorem dX5_offerOf_4 : decode cX5_offerOf 4 = .ok (.iload_n 1, 1) := by decide +kernel
theorem dX5_offerOf_5 : decode cX5_offerOf 5 = .ok (.imul, 1) := by decide +kernel
theorem dX5_offerOf_6 : decode cX5_offerOf 6 = .ok (.istore 4, 2) := by decide +kernel
theorem dX5_offerOf_8 : decode cX5_offerOf 8 = .ok (.iload 4, 2) := by decide +kernel
theorem dX5_offerOf_10 : decode cX5_offerOf 10 = .ok (.bipush 10, 2) := by decide +kernel
theorem dX5_offerOf_12 : decode cX5_offerOf 12 = .ok (.iload_n 1, 1) := by decide +kernel
theorem dX5_offerOf_13 : decode cX5_offerOf 13 = .ok (.imul, 1) := by decide +kernel
theorem dX5_offerOf_14 : decode cX5_offerOf 14 = .ok (.aload_n 0, 1) := by decide +kernel
theorem dX5_offerOf_15 : decode cX5_offerOf 15 = .ok (.getfield 69, 3) := by decide +kernel
theorem dX5_offerOf_18 : decode cX5_offerOf 18 = .ok (.iload_n 1, 1) := by decide +kernel
theorem dX5_offerOf_19 : decode cX5_offerOf 19 = .ok (.iaload, 1) := by decide +kernel
theorem dX5_offerOf_20 : decode cX5_offerOf 20 = .ok (.iadd, 1) := by decide +kernel
theorem dX5_offerOf_21 : decode cX5_offerOf 21 = .ok (.if_icmp .ge 51, 3) := by decide +kernel
theorem dX5_offerOf_24 : decode cX5_offerOf 24 = .ok (.aload_n 0, 1) := by decide +kernel
theorem dX5_offerOf_25 : decode cX5_offerOf 25 = .ok (.getfield 72, 3) := by decide +kernel
theorem dX5_offerOf_28 : decode cX5_offerOf 28 = .ok (.iload 4, 2) := by decide +kernel
theorem dX5_offerOf_30 : decode cX5_offerOf 30 = .ok (.iaload, 1) := by decide +kernel
theorem dX5_offerOf_31 : decode cX5_offerOf 31 = .ok (.iload_n 2, 1) := by decide +kernel
theorem dX5_offerOf_32 : decode cX5_offerOf 32 = .ok (.invokestatic 120, 3) := by decide +kernel
theorem dX5_offerOf_35 : decode cX5_offerOf 35 = .ok (.ifCond .eq 29, 3) := by decide +kernel
theorem dX5_offerOf_38 : decode cX5_offerOf 38 = .ok (.iload_n 3, 1) := by decide +kernel
theorem dX5_offerOf_39 : decode cX5_offerOf 39 = .ok (.iconst (-1), 1) := by decide +kernel
theorem dX5_offerOf_40 : decode cX5_offerOf 40 = .ok (.if_icmp .eq 19, 3) := by decide +kernel
theorem dX5_offerOf_43 : decode cX5_offerOf 43 = .ok (.aload_n 0, 1) := by decide +kernel
theorem dX5_offerOf_44 : decode cX5_offerOf 44 = .ok (.getfield 72, 3) := by decide +kernel
theorem dX5_offerOf_47 : decode cX5_offerOf 47 = .ok (.iload 4, 2) := by decide +kernel
theorem dX5_offerOf_49 : decode cX5_offerOf 49 = .ok (.iaload, 1) := by decide +kernel
theorem dX5_offerOf_50 : decode cX5_offerOf 50 = .ok (.aload_n 0, 1) := by decide +kernel
theorem dX5_offerOf_51 : decode cX5_offerOf 51 = .ok (.getfield 72, 3) := by decide +kernel
theorem dX5_offerOf_54 : decode cX5_offerOf 54 = .ok (.iload_n 3, 1) := by decide +kernel
theorem dX5_offerOf_55 : decode cX5_offerOf 55 = .ok (.iaload, 1) := by decide +kernel
theorem dX5_offerOf_56 : decode cX5_offerOf 56 = .ok (.if_icmp .le 8, 3) := by decide +kernel
theorem dX5_offerOf_59 : decode cX5_offerOf 59 = .ok (.iload 4, 2) := by decide +kernel
theorem dX5_offerOf_61 : decode cX5_offerOf 61 = .ok (.goto 4, 3) := by decide +kernel
theorem dX5_offerOf_64 : decode cX5_offerOf 64 = .ok (.iload_n 3, 1) := by decide +kernel
theorem dX5_offerOf_65 : decode cX5_offerOf 65 = .ok (.istore_n 3, 1) := by decide +kernel
theorem dX5_offerOf_66 : decode cX5_offerOf 66 = .ok (.iinc 4 1, 3) := by decide +kernel
theorem dX5_offerOf_69 : decode cX5_offerOf 69 = .ok (.goto (-61), 3) := by decide +kernel
theorem dX5_offerOf_72 : decode cX5_offerOf 72 = .ok (.iload_n 3, 1) := by decide +kernel
theorem dX5_offerOf_73 : decode cX5_offerOf 73 = .ok (.iconst (-1), 1) := by decide +kernel
theorem dX5_offerOf_74 : decode cX5_offerOf 74 = .ok (.if_icmp .ne 7, 3) := by decide +kernel
theorem dX5_offerOf_77 : decode cX5_offerOf 77 = .ok (.iconst (-1), 1) := by decide +kernel
theorem dX5_offerOf_78 : decode cX5_offerOf 78 = .ok (.goto 9, 3) := by decide +kernel
theorem dX5_offerOf_81 : decode cX5_offerOf 81 = .ok (.aload_n 0, 1) := by decide +kernel
theorem dX5_offerOf_82 : decode cX5_offerOf 82 = .ok (.getfield 75, 3) := by decide +kernel
theorem dX5_offerOf_85 : decode cX5_offerOf 85 = .ok (.iload_n 3, 1) := by decide +kernel
theorem dX5_offerOf_86 : decode cX5_offerOf 86 = .ok (.iaload, 1) := by decide +kernel
theorem dX5_offerOf_87 : decode cX5_offerOf 87 = .ok (.ireturn, 1) := by decide +kernel
set_option maxRecDepth 20000 in
theorem ggX5_offerFor_X5_in : GoodIn wsX5_offerFor wsX5_in := goodIn_r _ [4] (by decide +kernel) (by decide +kernel)
set_option maxRecDepth 20000 in
theorem gX5_offerFor_X5_in : GoodIn wsX5_offerFor (va_wsS RX5 82 yX5_in wsX5_in) := goodIn_app (goodIn_of _ (by decide +kernel)) ggX5_offerFor_X5_in
set_option maxRecDepth 20000 in
theorem ggX5_offerFor_X5_isNumber : GoodIn wsX5_offerFor wsX5_isNumber := goodIn_r _ [7, 8, 1, 2, 3, 4] (by decide +kernel) (by decide +kernel)
set_option maxRecDepth 20000 in
theorem gX5_offerFor_X5_isNumber : GoodIn wsX5_offerFor (va_wsS RX5 98 yX5_isNumber wsX5_isNumber) := goodIn_app (goodIn_of _ (by decide +kernel)) ggX5_offerFor_X5_isNumber
set_option maxRecDepth 20000 in
theorem ggX5_offerFor_X5_asks : GoodIn wsX5_offerFor wsX5_asks := goodIn_r _ [12, 13, 28, 29, 30, 31, 32, 33, 34, 35, 36, 37, 38, 39, 40, 41, 42, 43, 44, 45, 46, 47, 48, 49, 50, 51, 52, 53] (by decide +kernel) (by decide +kernel)
set_option maxRecDepth 20000 in
theorem gX5_offerFor_X5_asks : GoodIn wsX5_offerFor (wsV RX5 87 RX5 yX5_asks wsX5_asks) := goodIn_app (goodIn_of _ (by decide +kernel)) ggX5_offerFor_X5_asks
set_option maxRecDepth 20000 in
theorem ggX5_offerFor_X5_offerOf : GoodIn wsX5_offerFor wsX5_offerOf := goodIn_r _ [17, 18, 19, 20, 21, 22, 3, 23, 28, 29, 30, 31, 32, 33, 34, 35, 36, 37, 38, 39, 40, 41, 42, 43, 44, 45, 46, 47, 48, 49, 50, 51, 52, 53] (by decide +kernel) (by decide +kernel)
set_option maxRecDepth 20000 in
theorem gX5_offerFor_X5_offerOf : GoodIn wsX5_offerFor (wsV RX5 136 RX5 yX5_offerOf wsX5_offerOf) := goodIn_app (goodIn_of _ (by decide +kernel)) ggX5_offerFor_X5_offerOf
set_option maxRecDepth 20000 in
theorem ggX5_offerFor_X5_fails : GoodIn wsX5_offerFor wsX5_fails := goodIn_r _ [27, 13, 28, 29, 30, 31, 32, 33, 34, 35, 36, 37, 38, 39, 40, 41, 42, 43, 44, 45, 46, 47, 48, 49, 50, 51, 52, 53] (by decide +kernel) (by decide +kernel)
set_option maxRecDepth 20000 in
theorem gX5_offerFor_X5_fails : GoodIn wsX5_offerFor (wsV RX5 107 RX5 yX5_fails wsX5_fails) := goodIn_app (goodIn_of _ (by decide +kernel)) ggX5_offerFor_X5_fails
theorem dX5_offerFor_0 : decode cX5_offerFor 0 = .ok (.aload_n 0, 1) := by decide +kernel
theorem dX5_offerFor_1 : decode cX5_offerFor 1 = .ok (.iload_n 1, 1) := by decide +kernel
theorem dX5_offerFor_2 : decode cX5_offerFor 2 = .ok (.iconst 0, 1) := by decide +kernel
theorem dX5_offerFor_3 : decode cX5_offerFor 3 = .ok (.iconst 3, 1) := by decide +kernel
theorem dX5_offerFor_4 : decode cX5_offerFor 4 = .ok (.invokestatic 82, 3) := by decide +kernel
theorem dX5_offerFor_7 : decode cX5_offerFor 7 = .ok (.ifCond .eq 14, 3) := by decide +kernel
theorem dX5_offerFor_10 : decode cX5_offerFor 10 = .ok (.iload_n 2, 1) := by decide +kernel
theorem dX5_offerFor_11 : decode cX5_offerFor 11 = .ok (.invokestatic 98, 3) := by decide +kernel
theorem dX5_offerFor_14 : decode cX5_offerFor 14 = .ok (.ifCond .eq 7, 3) := by decide +kernel
theorem dX5_offerFor_17 : decode cX5_offerFor 17 = .ok (.iconst 1, 1) := by decide +kernel
theorem dX5_offerFor_18 : decode cX5_offerFor 18 = .ok (.goto 4, 3) := by decide +kernel
theorem dX5_offerFor_21 : decode cX5_offerFor 21 = .ok (.iconst 0, 1) := by decide +kernel
theorem dX5_offerFor_22 : decode cX5_offerFor 22 = .ok (.invokevirtual 87, 3) := by decide +kernel
theorem dX5_offerFor_25 : decode cX5_offerFor 25 = .ok (.ifCond .ne 5, 3) := by decide +kernel
theorem dX5_offerFor_28 : decode cX5_offerFor 28 = .ok (.iconst 0, 1) := by decide +kernel
theorem dX5_offerFor_29 : decode cX5_offerFor 29 = .ok (.ireturn, 1) := by decide +kernel
theorem dX5_offerFor_30 : decode cX5_offerFor 30 = .ok (.aload_n 0, 1) := by decide +kernel
theorem dX5_offerFor_31 : decode cX5_offerFor 31 = .ok (.iload_n 1, 1) := by decide +kernel
theorem dX5_offerFor_32 : decode cX5_offerFor 32 = .ok (.iload_n 2, 1) := by decide +kernel
theorem dX5_offerFor_33 : decode cX5_offerFor 33 = .ok (.invokevirtual 136, 3) := by decide +kernel
theorem dX5_offerFor_36 : decode cX5_offerFor 36 = .ok (.istore_n 3, 1) := by decide +kernel
theorem dX5_offerFor_37 : decode cX5_offerFor 37 = .ok (.iload_n 3, 1) := by decide +kernel
theorem dX5_offerFor_38 : decode cX5_offerFor 38 = .ok (.iconst (-1), 1) := by decide +kernel
theorem dX5_offerFor_39 : decode cX5_offerFor 39 = .ok (.if_icmp .ne 11, 3) := by decide +kernel
theorem dX5_offerFor_42 : decode cX5_offerFor 42 = .ok (.aload_n 0, 1) := by decide +kernel
theorem dX5_offerFor_43 : decode cX5_offerFor 43 = .ok (.iconst 2, 1) := by decide +kernel
theorem dX5_offerFor_44 : decode cX5_offerFor 44 = .ok (.invokevirtual 107, 3) := by decide +kernel
theorem dX5_offerFor_47 : decode cX5_offerFor 47 = .ok (.goto 4, 3) := by decide +kernel
theorem dX5_offerFor_50 : decode cX5_offerFor 50 = .ok (.iload_n 3, 1) := by decide +kernel
theorem dX5_offerFor_51 : decode cX5_offerFor 51 = .ok (.ireturn, 1) := by decide +kernel
set_option maxRecDepth 20000 in
theorem ggX5_route_X5_isNumber : GoodIn wsX5_route wsX5_isNumber := goodIn_r _ [5, 6, 7, 8, 4, 9] (by decide +kernel) (by decide +kernel)
set_option maxRecDepth 20000 in
theorem gX5_route_X5_isNumber : GoodIn wsX5_route (va_wsS RX5 98 yX5_isNumber wsX5_isNumber) := goodIn_app (goodIn_of _ (by decide +kernel)) ggX5_route_X5_isNumber
set_option maxRecDepth 20000 in
theorem ggX5_route_X5_in : GoodIn wsX5_route wsX5_in := goodIn_r _ [9] (by decide +kernel) (by decide +kernel)
set_option maxRecDepth 20000 in
theorem gX5_route_X5_in : GoodIn wsX5_route (va_wsS RX5 82 yX5_in wsX5_in) := goodIn_app (goodIn_of _ (by decide +kernel)) ggX5_route_X5_in
set_option maxRecDepth 20000 in
theorem ggX5_route_X5_asks : GoodIn wsX5_route wsX5_asks := goodIn_r _ [13, 14, 36, 37, 38, 39, 40, 41, 42, 43, 44, 45, 46, 47, 48, 49, 50, 51, 52, 53, 54, 55, 56, 57, 58, 59, 60, 61] (by decide +kernel) (by decide +kernel)
set_option maxRecDepth 20000 in
theorem gX5_route_X5_asks : GoodIn wsX5_route (wsV RX5 87 RX5 yX5_asks wsX5_asks) := goodIn_app (goodIn_of _ (by decide +kernel)) ggX5_route_X5_asks
set_option maxRecDepth 20000 in
theorem ggX5_route_X5_rate : GoodIn wsX5_route wsX5_rate := goodIn_r _ [18, 19, 20, 21, 22, 23, 4, 24, 36, 37, 38, 39, 40, 41, 42, 43, 44, 45, 46, 47, 48, 49, 50, 51, 52, 53, 54, 55, 56, 57, 58, 59, 60, 61] (by decide +kernel) (by decide +kernel)
set_option maxRecDepth 20000 in
theorem gX5_route_X5_rate : GoodIn wsX5_route (wsV RX5 124 RX5 yX5_rate wsX5_rate) := goodIn_app (goodIn_of _ (by decide +kernel)) ggX5_route_X5_rate
set_option maxRecDepth 20000 in
theorem ggX5_route_X5_offerOf : GoodIn wsX5_route wsX5_offerOf := goodIn_r _ [28, 29, 30, 31, 22, 23, 4, 24, 36, 37, 38, 39, 40, 41, 42, 43, 44, 45, 46, 47, 48, 49, 50, 51, 52, 53, 54, 55, 56, 57, 58, 59, 60, 61] (by decide +kernel) (by decide +kernel)
set_option maxRecDepth 20000 in
theorem gX5_route_X5_offerOf : GoodIn wsX5_route (wsV RX5 136 RX5 yX5_offerOf wsX5_offerOf) := goodIn_app (goodIn_of _ (by decide +kernel)) ggX5_route_X5_offerOf
set_option maxRecDepth 20000 in
theorem ggX5_route_X5_fails : GoodIn wsX5_route wsX5_fails := goodIn_r _ [35, 14, 36, 37, 38, 39, 40, 41, 42, 43, 44, 45, 46, 47, 48, 49, 50, 51, 52, 53, 54, 55, 56, 57, 58, 59, 60, 61] (by decide +kernel) (by decide +kernel)
set_option maxRecDepth 20000 in
theorem gX5_route_X5_fails : GoodIn wsX5_route (wsV RX5 107 RX5 yX5_fails wsX5_fails) := goodIn_app (goodIn_of _ (by decide +kernel)) ggX5_route_X5_fails
theorem dX5_route_0 : decode cX5_route 0 = .ok (.aload_n 0, 1) := by decide +kernel
theorem dX5_route_1 : decode cX5_route 1 = .ok (.iload_n 1, 1) := by decide +kernel
theorem dX5_route_2 : decode cX5_route 2 = .ok (.invokestatic 98, 3) := by decide +kernel
theorem dX5_route_5 : decode cX5_route 5 = .ok (.ifCond .eq 34, 3) := by decide +kernel
theorem dX5_route_8 : decode cX5_route 8 = .ok (.iload_n 2, 1) := by decide +kernel
theorem dX5_route_9 : decode cX5_route 9 = .ok (.iconst 0, 1) := by decide +kernel
theorem dX5_route_10 : decode cX5_route 10 = .ok (.sipush 999, 3) := by decide +kernel
theorem dX5_route_13 : decode cX5_route 13 = .ok (.invokestatic 82, 3) := by decide +kernel
theorem dX5_route_16 : decode cX5_route 16 = .ok (.ifCond .eq 23, 3) := by decide +kernel
theorem dX5_route_19 : decode cX5_route 19 = .ok (.iload_n 3, 1) := by decide +kernel
theorem dX5_route_20 : decode cX5_route 20 = .ok (.iconst 0, 1) := by decide +kernel
theorem dX5_route_21 : decode cX5_route 21 = .ok (.sipush 10000, 3) := by decide +kernel
theorem dX5_route_24 : decode cX5_route 24 = .ok (.invokestatic 82, 3) := by decide +kernel
theorem dX5_route_27 : decode cX5_route 27 = .ok (.ifCond .eq 12, 3) := by decide +kernel
theorem dX5_route_30 : decode cX5_route 30 = .ok (.iload 4, 2) := by decide +kernel
theorem dX5_route_32 : decode cX5_route 32 = .ok (.ifCond .lt 7, 3) := by decide +kernel
theorem dX5_route_35 : decode cX5_route 35 = .ok (.iconst 1, 1) := by decide +kernel
theorem dX5_route_36 : decode cX5_route 36 = .ok (.goto 4, 3) := by decide +kernel
theorem dX5_route_39 : decode cX5_route 39 = .ok (.iconst 0, 1) := by decide +kernel
theorem dX5_route_40 : decode cX5_route 40 = .ok (.invokevirtual 87, 3) := by decide +kernel
theorem dX5_route_43 : decode cX5_route 43 = .ok (.ifCond .ne 5, 3) := by decide +kernel
theorem dX5_route_46 : decode cX5_route 46 = .ok (.iconst 0, 1) := by decide +kernel
theorem dX5_route_47 : decode cX5_route 47 = .ok (.ireturn, 1) := by decide +kernel
theorem dX5_route_48 : decode cX5_route 48 = .ok (.aload_n 0, 1) := by decide +kernel
theorem dX5_route_49 : decode cX5_route 49 = .ok (.iload_n 1, 1) := by decide +kernel
theorem dX5_route_50 : decode cX5_route 50 = .ok (.iload_n 2, 1) := by decide +kernel
theorem dX5_route_51 : decode cX5_route 51 = .ok (.invokevirtual 124, 3) := by decide +kernel
theorem dX5_route_54 : decode cX5_route 54 = .ok (.istore 5, 2) := by decide +kernel
theorem dX5_route_56 : decode cX5_route 56 = .ok (.iconst (-1), 1) := by decide +kernel
theorem dX5_route_57 : decode cX5_route 57 = .ok (.istore 6, 2) := by decide +kernel
theorem dX5_route_59 : decode cX5_route 59 = .ok (.iconst 0, 1) := by decide +kernel
theorem dX5_route_60 : decode cX5_route 60 = .ok (.istore 7, 2) := by decide +kernel
theorem dX5_route_62 : decode cX5_route 62 = .ok (.iload 7, 2) := by decide +kernel
theorem dX5_route_64 : decode cX5_route 64 = .ok (.iconst 4, 1) := by decide +kernel
theorem dX5_route_65 : decode cX5_route 65 = .ok (.if_icmp .ge 124, 3) := by decide +kernel
theorem dX5_route_68 : decode cX5_route 68 = .ok (.iload 5, 2) := by decide +kernel
theorem dX5_route_70 : decode cX5_route 70 = .ok (.iconst (-1), 1) := by decide +kernel
theorem dX5_route_71 : decode cX5_route 71 = .ok (.if_icmp .eq 118, 3) := by decide +kernel
theorem dX5_route_74 : decode cX5_route 74 = .ok (.aload_n 0, 1) := by decide +kernel
theorem dX5_route_75 : decode cX5_route 75 = .ok (.iload 7, 2) := by decide +kernel
theorem dX5_route_77 : decode cX5_route 77 = .ok (.iload_n 1, 1) := by decide +kernel
theorem dX5_route_78 : decode cX5_route 78 = .ok (.invokevirtual 136, 3) := by decide +kernel
theorem dX5_route_81 : decode cX5_route 81 = .ok (.istore 8, 2) := by decide +kernel
theorem dX5_route_83 : decode cX5_route 83 = .ok (.iconst 0, 1) := by decide +kernel
theorem dX5_route_84 : decode cX5_route 84 = .ok (.istore 9, 2) := by decide +kernel
theorem dX5_route_86 : decode cX5_route 86 = .ok (.iconst 0, 1) := by decide +kernel
theorem dX5_route_87 : decode cX5_route 87 = .ok (.istore 10, 2) := by decide +kernel
theorem dX5_route_89 : decode cX5_route 89 = .ok (.iload 10, 2) := by decide +kernel
theorem dX5_route_91 : decode cX5_route 91 = .ok (.iconst 4, 1) := by decide +kernel
theorem dX5_route_92 : decode cX5_route 92 = .ok (.if_icmp .ge 55, 3) := by decide +kernel
theorem dX5_route_95 : decode cX5_route 95 = .ok (.aload_n 0, 1) := by decide +kernel
theorem dX5_route_96 : decode cX5_route 96 = .ok (.iload 10, 2) := by decide +kernel
theorem dX5_route_98 : decode cX5_route 98 = .ok (.iload_n 1, 1) := by decide +kernel
theorem dX5_route_99 : decode cX5_route 99 = .ok (.invokevirtual 136, 3) := by decide +kernel
theorem dX5_route_102 : decode cX5_route 102 = .ok (.istore 11, 2) := by decide +kernel
theorem dX5_route_104 : decode cX5_route 104 = .ok (.iload 9, 2) := by decide +kernel
theorem dX5_route_106 : decode cX5_route 106 = .ok (.iload 11, 2) := by decide +kernel
theorem dX5_route_108 : decode cX5_route 108 = .ok (.iconst (-1), 1) := by decide +kernel
theorem dX5_route_109 : decode cX5_route 109 = .ok (.if_icmp .eq 28, 3) := by decide +kernel
theorem dX5_route_112 : decode cX5_route 112 = .ok (.iload 11, 2) := by decide +kernel
theorem dX5_route_114 : decode cX5_route 114 = .ok (.iload 8, 2) := by decide +kernel
theorem dX5_route_116 : decode cX5_route 116 = .ok (.if_icmp .lt 17, 3) := by decide +kernel
theorem dX5_route_119 : decode cX5_route 119 = .ok (.iload 11, 2) := by decide +kernel
theorem dX5_route_121 : decode cX5_route 121 = .ok (.iload 8, 2) := by decide +kernel
theorem dX5_route_123 : decode cX5_route 123 = .ok (.if_icmp .ne 14, 3) := by decide +kernel
theorem dX5_route_126 : decode cX5_route 126 = .ok (.iload 10, 2) := by decide +kernel
theorem dX5_route_128 : decode cX5_route 128 = .ok (.iload 7, 2) := by decide +kernel
theorem dX5_route_130 : decode cX5_route 130 = .ok (.if_icmp .ge 7, 3) := by decide +kernel
theorem dX5_route_133 : decode cX5_route 133 = .ok (.iconst 1, 1) := by decide +kernel
theorem dX5_route_134 : decode cX5_route 134 = .ok (.goto 4, 3) := by decide +kernel
theorem dX5_route_137 : decode cX5_route 137 = .ok (.iconst 0, 1) := by decide +kernel
theorem dX5_route_138 : decode cX5_route 138 = .ok (.iadd, 1) := by decide +kernel
theorem dX5_route_139 : decode cX5_route 139 = .ok (.istore 9, 2) := by decide +kernel
theorem dX5_route_141 : decode cX5_route 141 = .ok (.iinc 10 1, 3) := by decide +kernel
theorem dX5_route_144 : decode cX5_route 144 = .ok (.goto (-55), 3) := by decide +kernel
theorem dX5_route_147 : decode cX5_route 147 = .ok (.iload 8, 2) := by decide +kernel
theorem dX5_route_149 : decode cX5_route 149 = .ok (.iconst (-1), 1) := by decide +kernel
theorem dX5_route_150 : decode cX5_route 150 = .ok (.if_icmp .eq 29, 3) := by decide +kernel
theorem dX5_route_153 : decode cX5_route 153 = .ok (.iload 8, 2) := by decide +kernel
theorem dX5_route_155 : decode cX5_route 155 = .ok (.aload_n 0, 1) := by decide +kernel
theorem dX5_route_156 : decode cX5_route 156 = .ok (.getfield 57, 3) := by decide +kernel
theorem dX5_route_159 : decode cX5_route 159 = .ok (.iload 5, 2) := by decide +kernel
theorem dX5_route_161 : decode cX5_route 161 = .ok (.iaload, 1) := by decide +kernel
theorem dX5_route_162 : decode cX5_route 162 = .ok (.iload_n 3, 1) := by decide +kernel
theorem dX5_route_163 : decode cX5_route 163 = .ok (.isub, 1) := by decide +kernel
theorem dX5_route_164 : decode cX5_route 164 = .ok (.if_icmp .gt 15, 3) := by decide +kernel
theorem dX5_route_167 : decode cX5_route 167 = .ok (.iload 9, 2) := by decide +kernel
theorem dX5_route_169 : decode cX5_route 169 = .ok (.iload 4, 2) := by decide +kernel
theorem dX5_route_171 : decode cX5_route 171 = .ok (.if_icmp .ne 8, 3) := by decide +kernel
theorem dX5_route_174 : decode cX5_route 174 = .ok (.iload 7, 2) := by decide +kernel
theorem dX5_route_176 : decode cX5_route 176 = .ok (.goto 5, 3) := by decide +kernel
theorem dX5_route_179 : decode cX5_route 179 = .ok (.iload 6, 2) := by decide +kernel
theorem dX5_route_181 : decode cX5_route 181 = .ok (.istore 6, 2) := by decide +kernel
theorem dX5_route_183 : decode cX5_route 183 = .ok (.iinc 7 1, 3) := by decide +kernel
theorem dX5_route_186 : decode cX5_route 186 = .ok (.goto (-124), 3) := by decide +kernel
theorem dX5_route_189 : decode cX5_route 189 = .ok (.iload 6, 2) := by decide +kernel
theorem dX5_route_191 : decode cX5_route 191 = .ok (.iconst (-1), 1) := by decide +kernel
theorem dX5_route_192 : decode cX5_route 192 = .ok (.if_icmp .ne 11, 3) := by decide +kernel
theorem dX5_route_195 : decode cX5_route 195 = .ok (.aload_n 0, 1) := by decide +kernel
theorem dX5_route_196 : decode cX5_route 196 = .ok (.iconst 2, 1) := by decide +kernel
theorem dX5_route_197 : decode cX5_route 197 = .ok (.invokevirtual 107, 3) := by decide +kernel
theorem dX5_route_200 : decode cX5_route 200 = .ok (.goto 5, 3) := by decide +kernel
theorem dX5_route_203 : decode cX5_route 203 = .ok (.iload 6, 2) := by decide +kernel
theorem dX5_route_205 : decode cX5_route 205 = .ok (.ireturn, 1) := by decide +kernel
set_option maxRecDepth 20000 in
theorem ggX5_claim_X5_isCall : GoodIn wsX5_claim wsX5_isCall := goodIn_r _ [7, 8, 21, 22, 23, 24, 25, 26, 27, 28, 29, 30, 31, 32, 33, 34, 35, 36, 37, 38, 39, 40, 41, 42, 43, 44, 45, 46] (by decide +kernel) (by decide +kernel)
set_option maxRecDepth 20000 in
theorem gX5_claim_X5_isCall : GoodIn wsX5_claim (wsV RX5 111 RX5 yX5_isCall wsX5_isCall) := goodIn_app (goodIn_of _ (by decide +kernel)) ggX5_claim_X5_isCall
set_option maxRecDepth 20000 in
theorem ggX5_claim_X5_asks : GoodIn wsX5_claim wsX5_asks := goodIn_r _ [12, 13, 21, 22, 23, 24, 25, 26, 27, 28, 29, 30, 31, 32, 33, 34, 35, 36, 37, 38, 39, 40, 41, 42, 43, 44, 45, 46] (by decide +kernel) (by decide +kernel)
set_option maxRecDepth 20000 in
theorem gX5_claim_X5_asks : GoodIn wsX5_claim (wsV RX5 87 RX5 yX5_asks wsX5_asks) := goodIn_app (goodIn_of _ (by decide +kernel)) ggX5_claim_X5_asks
set_option maxRecDepth 20000 in
theorem ggX5_claim_X5_in : GoodIn wsX5_claim wsX5_in := goodIn_r _ [16] (by decide +kernel) (by decide +kernel)
set_option maxRecDepth 20000 in
theorem gX5_claim_X5_in : GoodIn wsX5_claim (va_wsS RX5 82 yX5_in wsX5_in) := goodIn_app (goodIn_of _ (by decide +kernel)) ggX5_claim_X5_in
set_option maxRecDepth 20000 in
theorem ggX5_claim_X5_fails : GoodIn wsX5_claim wsX5_fails := goodIn_r _ [20, 13, 21, 22, 23, 24, 25, 26, 27, 28, 29, 30, 31, 32, 33, 34, 35, 36, 37, 38, 39, 40, 41, 42, 43, 44, 45, 46] (by decide +kernel) (by decide +kernel)
set_option maxRecDepth 20000 in
theorem gX5_claim_X5_fails : GoodIn wsX5_claim (wsV RX5 107 RX5 yX5_fails wsX5_fails) := goodIn_app (goodIn_of _ (by decide +kernel)) ggX5_claim_X5_fails
theorem dX5_claim_0 : decode cX5_claim 0 = .ok (.aload_n 0, 1) := by decide +kernel
theorem dX5_claim_1 : decode cX5_claim 1 = .ok (.aload_n 0, 1) := by decide +kernel
theorem dX5_claim_2 : decode cX5_claim 2 = .ok (.iload_n 1, 1) := by decide +kernel
theorem dX5_claim_3 : decode cX5_claim 3 = .ok (.invokevirtual 111, 3) := by decide +kernel
theorem dX5_claim_6 : decode cX5_claim 6 = .ok (.invokevirtual 87, 3) := by decide +kernel
theorem dX5_claim_9 : decode cX5_claim 9 = .ok (.ifCond .ne 5, 3) := by decide +kernel
theorem dX5_claim_12 : decode cX5_claim 12 = .ok (.iconst 0, 1) := by decide +kernel
theorem dX5_claim_13 : decode cX5_claim 13 = .ok (.ireturn, 1) := by decide +kernel
theorem dX5_claim_14 : decode cX5_claim 14 = .ok (.iload_n 2, 1) := by decide +kernel
theorem dX5_claim_15 : decode cX5_claim 15 = .ok (.iconst 0, 1) := by decide +kernel
theorem dX5_claim_16 : decode cX5_claim 16 = .ok (.ldc 139, 2) := by decide +kernel
theorem dX5_claim_18 : decode cX5_claim 18 = .ok (.invokestatic 82, 3) := by decide +kernel
theorem dX5_claim_21 : decode cX5_claim 21 = .ok (.ifCond .ne 9, 3) := by decide +kernel
theorem dX5_claim_24 : decode cX5_claim 24 = .ok (.aload_n 0, 1) := by decide +kernel
theorem dX5_claim_25 : decode cX5_claim 25 = .ok (.iconst 2, 1) := by decide +kernel
theorem dX5_claim_26 : decode cX5_claim 26 = .ok (.invokevirtual 107, 3) := by decide +kernel
theorem dX5_claim_29 : decode cX5_claim 29 = .ok (.ireturn, 1) := by decide +kernel
theorem dX5_claim_30 : decode cX5_claim 30 = .ok (.aload_n 0, 1) := by decide +kernel
theorem dX5_claim_31 : decode cX5_claim 31 = .ok (.getfield 48, 3) := by decide +kernel
theorem dX5_claim_34 : decode cX5_claim 34 = .ok (.iload_n 1, 1) := by decide +kernel
theorem dX5_claim_35 : decode cX5_claim 35 = .ok (.iaload, 1) := by decide +kernel
theorem dX5_claim_36 : decode cX5_claim 36 = .ok (.istore_n 3, 1) := by decide +kernel
theorem dX5_claim_37 : decode cX5_claim 37 = .ok (.aload_n 0, 1) := by decide +kernel
theorem dX5_claim_38 : decode cX5_claim 38 = .ok (.getfield 48, 3) := by decide +kernel
theorem dX5_claim_41 : decode cX5_claim 41 = .ok (.iload_n 1, 1) := by decide +kernel
theorem dX5_claim_42 : decode cX5_claim 42 = .ok (.iload_n 2, 1) := by decide +kernel
theorem dX5_claim_43 : decode cX5_claim 43 = .ok (.iastore, 1) := by decide +kernel
theorem dX5_claim_44 : decode cX5_claim 44 = .ok (.iload_n 3, 1) := by decide +kernel
theorem dX5_claim_45 : decode cX5_claim 45 = .ok (.ireturn, 1) := by decide +kernel
set_option maxRecDepth 20000 in
theorem ggX5_differs_X5_fits : GoodIn wsX5_differs wsX5_fits := goodIn_r _ [7] (by decide +kernel) (by decide +kernel)
set_option maxRecDepth 20000 in
theorem gX5_differs_X5_fits : GoodIn wsX5_differs (va_wsS RX5 120 yX5_fits wsX5_fits) := goodIn_app (goodIn_of _ (by decide +kernel)) ggX5_differs_X5_fits
set_option maxRecDepth 20000 in
theorem ggX5_differs_X5_bookedOf : GoodIn wsX5_differs wsX5_bookedOf := goodIn_r _ [11, 12, 13, 14, 15, 16, 17, 18, 19, 20, 21, 22, 23, 24, 25, 26, 27, 28, 29, 30, 31, 32, 33, 34, 35, 36, 37, 38] (by decide +kernel) (by decide +kernel)
set_option maxRecDepth 20000 in
theorem gX5_differs_X5_bookedOf : GoodIn wsX5_differs (wsV RX5 133 RX5 yX5_bookedOf wsX5_bookedOf) := goodIn_app (goodIn_of _ (by decide +kernel)) ggX5_differs_X5_bookedOf
theorem dX5_differs_0 : decode cX5_differs 0 = .ok (.iconst 0, 1) := by decide +kernel
theorem dX5_differs_1 : decode cX5_differs 1 = .ok (.istore_n 2, 1) := by decide +kernel
theorem dX5_differs_2 : decode cX5_differs 2 = .ok (.iconst 0, 1) := by decide +kernel
theorem dX5_differs_3 : decode cX5_differs 3 = .ok (.istore_n 3, 1) := by decide +kernel
theorem dX5_differs_4 : decode cX5_differs 4 = .ok (.iload_n 3, 1) := by decide +kernel
theorem dX5_differs_5 : decode cX5_differs 5 = .ok (.aload_n 0, 1) := by decide +kernel
theorem dX5_differs_6 : decode cX5_differs 6 = .ok (.getfield 91, 3) := by decide +kernel
theorem dX5_differs_9 : decode cX5_differs 9 = .ok (.if_icmp .ge 41, 3) := by decide +kernel
theorem dX5_differs_12 : decode cX5_differs 12 = .ok (.iload_n 2, 1) := by decide +kernel
theorem dX5_differs_13 : decode cX5_differs 13 = .ok (.iload_n 1, 1) := by decide +kernel
theorem dX5_differs_14 : decode cX5_differs 14 = .ok (.aload_n 0, 1) := by decide +kernel
theorem dX5_differs_15 : decode cX5_differs 15 = .ok (.getfield 30, 3) := by decide +kernel
theorem dX5_differs_18 : decode cX5_differs 18 = .ok (.iload_n 3, 1) := by decide +kernel
theorem dX5_differs_19 : decode cX5_differs 19 = .ok (.iaload, 1) := by decide +kernel
theorem dX5_differs_20 : decode cX5_differs 20 = .ok (.invokestatic 120, 3) := by decide +kernel
theorem dX5_differs_23 : decode cX5_differs 23 = .ok (.ifCond .eq 18, 3) := by decide +kernel
theorem dX5_differs_26 : decode cX5_differs 26 = .ok (.aload_n 0, 1) := by decide +kernel
theorem dX5_differs_27 : decode cX5_differs 27 = .ok (.getfield 48, 3) := by decide +kernel
theorem dX5_differs_30 : decode cX5_differs 30 = .ok (.iload_n 3, 1) := by decide +kernel
theorem dX5_differs_31 : decode cX5_differs 31 = .ok (.iaload, 1) := by decide +kernel
theorem dX5_differs_32 : decode cX5_differs 32 = .ok (.aload_n 0, 1) := by decide +kernel
theorem dX5_differs_33 : decode cX5_differs 33 = .ok (.iload_n 3, 1) := by decide +kernel
theorem dX5_differs_34 : decode cX5_differs 34 = .ok (.invokevirtual 133, 3) := by decide +kernel
theorem dX5_differs_37 : decode cX5_differs 37 = .ok (.isub, 1) := by decide +kernel
theorem dX5_differs_38 : decode cX5_differs 38 = .ok (.goto 4, 3) := by decide +kernel
theorem dX5_differs_41 : decode cX5_differs 41 = .ok (.iconst 0, 1) := by decide +kernel
theorem dX5_differs_42 : decode cX5_differs 42 = .ok (.iadd, 1) := by decide +kernel
theorem dX5_differs_43 : decode cX5_differs 43 = .ok (.istore_n 2, 1) := by decide +kernel
theorem dX5_differs_44 : decode cX5_differs 44 = .ok (.iinc 3 1, 3) := by decide +kernel
theorem dX5_differs_47 : decode cX5_differs 47 = .ok (.goto (-43), 3) := by decide +kernel
theorem dX5_differs_50 : decode cX5_differs 50 = .ok (.iload_n 2, 1) := by decide +kernel
theorem dX5_differs_51 : decode cX5_differs 51 = .ok (.ireturn, 1) := by decide +kernel
set_option maxRecDepth 20000 in
theorem ggX5_difference_X5_isPrefix : GoodIn wsX5_difference wsX5_isPrefix := goodIn_r _ [4, 5, 6, 7, 3, 8] (by decide +kernel) (by decide +kernel)
set_option maxRecDepth 20000 in
theorem gX5_difference_X5_isPrefix : GoodIn wsX5_difference (va_wsS RX5 114 yX5_isPrefix wsX5_isPrefix) := goodIn_app (goodIn_of _ (by decide +kernel)) ggX5_difference_X5_isPrefix
set_option maxRecDepth 20000 in
theorem ggX5_difference_X5_asks : GoodIn wsX5_difference wsX5_asks := goodIn_r _ [12, 13, 29, 30, 31, 32, 33, 34, 35, 36, 37, 38, 39, 40, 41, 42, 43, 44, 45, 46, 47, 48, 49, 50, 51, 52, 53, 54] (by decide +kernel) (by decide +kernel)
set_option maxRecDepth 20000 in
theorem gX5_difference_X5_asks : GoodIn wsX5_difference (wsV RX5 87 RX5 yX5_asks wsX5_asks) := goodIn_app (goodIn_of _ (by decide +kernel)) ggX5_difference_X5_asks
set_option maxRecDepth 20000 in
theorem ggX5_difference_X5_differs : GoodIn wsX5_difference wsX5_differs := goodIn_r _ [17, 18, 19, 20, 21, 22, 3, 23, 24, 25, 26, 27, 28, 29, 30, 31, 32, 33, 34, 35, 36, 37, 38, 39, 40, 41, 42, 43, 44, 45, 46, 47, 48, 49, 50, 51, 52, 53, 54] (by decide +kernel) (by decide +kernel)
set_option maxRecDepth 20000 in
theorem gX5_difference_X5_differs : GoodIn wsX5_difference (wsV RX5 140 RX5 yX5_differs wsX5_differs) := goodIn_app (goodIn_of _ (by decide +kernel)) ggX5_difference_X5_differs
theorem dX5_difference_0 : decode cX5_difference 0 = .ok (.aload_n 0, 1) := by decide +kernel
theorem dX5_difference_1 : decode cX5_difference 1 = .ok (.iload_n 1, 1) := by decide +kernel
theorem dX5_difference_2 : decode cX5_difference 2 = .ok (.invokestatic 114, 3) := by decide +kernel
theorem dX5_difference_5 : decode cX5_difference 5 = .ok (.invokevirtual 87, 3) := by decide +kernel
theorem dX5_difference_8 : decode cX5_difference 8 = .ok (.ifCond .eq 11, 3) := by decide +kernel
theorem dX5_difference_11 : decode cX5_difference 11 = .ok (.aload_n 0, 1) := by decide +kernel
theorem dX5_difference_12 : decode cX5_difference 12 = .ok (.iload_n 1, 1) := by decide +kernel
theorem dX5_difference_13 : decode cX5_difference 13 = .ok (.invokevirtual 140, 3) := by decide +kernel
theorem dX5_difference_16 : decode cX5_difference 16 = .ok (.goto 4, 3) := by decide +kernel
theorem dX5_difference_19 : decode cX5_difference 19 = .ok (.iconst 0, 1) := by decide +kernel
theorem dX5_difference_20 : decode cX5_difference 20 = .ok (.ireturn, 1) := by decide +kernel
set_option maxRecDepth 20000 in
theorem ggX5_narrow_X5_in : GoodIn wsX5_narrow wsX5_in := goodIn_r _ [4] (by decide +kernel) (by decide +kernel)
set_option maxRecDepth 20000 in
theorem gX5_narrow_X5_in : GoodIn wsX5_narrow (va_wsS RX5 82 yX5_in wsX5_in) := goodIn_app (goodIn_of _ (by decide +kernel)) ggX5_narrow_X5_in
set_option maxRecDepth 20000 in
theorem ggX5_narrow_X5_asks : GoodIn wsX5_narrow wsX5_asks := goodIn_r _ [8, 9, 28, 29, 30, 31, 32, 33, 34, 35, 36, 37, 38, 39, 40, 41, 42, 43, 44, 45, 46, 47, 48, 49, 50, 51, 52, 53] (by decide +kernel) (by decide +kernel)
set_option maxRecDepth 20000 in
theorem gX5_narrow_X5_asks : GoodIn wsX5_narrow (wsV RX5 87 RX5 yX5_asks wsX5_asks) := goodIn_app (goodIn_of _ (by decide +kernel)) ggX5_narrow_X5_asks
set_option maxRecDepth 20000 in
theorem ggX5_narrow_X5_differs : GoodIn wsX5_narrow wsX5_differs := goodIn_r _ [13, 14, 15, 16, 17, 18, 3, 19, 20, 21, 22, 23, 24, 28, 29, 30, 31, 32, 33, 34, 35, 36, 37, 38, 39, 40, 41, 42, 43, 44, 45, 46, 47, 48, 49, 50, 51, 52, 53] (by decide +kernel) (by decide +kernel)
set_option maxRecDepth 20000 in
theorem gX5_narrow_X5_differs : GoodIn wsX5_narrow (wsV RX5 140 RX5 yX5_differs wsX5_differs) := goodIn_app (goodIn_of _ (by decide +kernel)) ggX5_narrow_X5_differs
set_option maxRecDepth 20000 in
theorem ggX5_narrow_X5_apart : GoodIn wsX5_narrow wsX5_apart := goodIn_r _ [27] (by decide +kernel) (by decide +kernel)
set_option maxRecDepth 20000 in
theorem gX5_narrow_X5_apart : GoodIn wsX5_narrow (va_wsS RX5 94 yX5_apart wsX5_apart) := goodIn_app (goodIn_of _ (by decide +kernel)) ggX5_narrow_X5_apart
theorem dX5_narrow_0 : decode cX5_narrow 0 = .ok (.aload_n 0, 1) := by decide +kernel
theorem dX5_narrow_1 : decode cX5_narrow 1 = .ok (.iload_n 1, 1) := by decide +kernel
theorem dX5_narrow_2 : decode cX5_narrow 2 = .ok (.iconst 1, 1) := by decide +kernel
theorem dX5_narrow_3 : decode cX5_narrow 3 = .ok (.iconst 5, 1) := by decide +kernel
theorem dX5_narrow_4 : decode cX5_narrow 4 = .ok (.invokestatic 82, 3) := by decide +kernel
theorem dX5_narrow_7 : decode cX5_narrow 7 = .ok (.invokevirtual 87, 3) := by decide +kernel
theorem dX5_narrow_10 : decode cX5_narrow 10 = .ok (.ifCond .ne 5, 3) := by decide +kernel
theorem dX5_narrow_13 : decode cX5_narrow 13 = .ok (.iconst 0, 1) := by decide +kernel
theorem dX5_narrow_14 : decode cX5_narrow 14 = .ok (.ireturn, 1) := by decide +kernel
theorem dX5_narrow_15 : decode cX5_narrow 15 = .ok (.iconst 0, 1) := by decide +kernel
theorem dX5_narrow_16 : decode cX5_narrow 16 = .ok (.istore_n 2, 1) := by decide +kernel
theorem dX5_narrow_17 : decode cX5_narrow 17 = .ok (.iconst 0, 1) := by decide +kernel
theorem dX5_narrow_18 : decode cX5_narrow 18 = .ok (.istore_n 3, 1) := by decide +kernel
theorem dX5_narrow_19 : decode cX5_narrow 19 = .ok (.iload_n 3, 1) := by decide +kernel
theorem dX5_narrow_20 : decode cX5_narrow 20 = .ok (.iload_n 1, 1) := by decide +kernel
theorem dX5_narrow_21 : decode cX5_narrow 21 = .ok (.if_icmp .ge 86, 3) := by decide +kernel
theorem dX5_narrow_24 : decode cX5_narrow 24 = .ok (.iconst (-1), 1) := by decide +kernel
theorem dX5_narrow_25 : decode cX5_narrow 25 = .ok (.istore 4, 2) := by decide +kernel
theorem dX5_narrow_27 : decode cX5_narrow 27 = .ok (.iload_n 3, 1) := by decide +kernel
theorem dX5_narrow_28 : decode cX5_narrow 28 = .ok (.ifCond .ne 7, 3) := by decide +kernel
theorem dX5_narrow_31 : decode cX5_narrow 31 = .ok (.iconst 1, 1) := by decide +kernel
theorem dX5_narrow_32 : decode cX5_narrow 32 = .ok (.goto 4, 3) := by decide +kernel
theorem dX5_narrow_35 : decode cX5_narrow 35 = .ok (.iconst 0, 1) := by decide +kernel
theorem dX5_narrow_36 : decode cX5_narrow 36 = .ok (.istore 5, 2) := by decide +kernel
theorem dX5_narrow_38 : decode cX5_narrow 38 = .ok (.iload 5, 2) := by decide +kernel
theorem dX5_narrow_40 : decode cX5_narrow 40 = .ok (.bipush 10, 2) := by decide +kernel
theorem dX5_narrow_42 : decode cX5_narrow 42 = .ok (.if_icmp .ge 56, 3) := by decide +kernel
theorem dX5_narrow_45 : decode cX5_narrow 45 = .ok (.bipush 10, 2) := by decide +kernel
theorem dX5_narrow_47 : decode cX5_narrow 47 = .ok (.iload_n 2, 1) := by decide +kernel
theorem dX5_narrow_48 : decode cX5_narrow 48 = .ok (.imul, 1) := by decide +kernel
theorem dX5_narrow_49 : decode cX5_narrow 49 = .ok (.iload 5, 2) := by decide +kernel
theorem dX5_narrow_51 : decode cX5_narrow 51 = .ok (.iadd, 1) := by decide +kernel
theorem dX5_narrow_52 : decode cX5_narrow 52 = .ok (.istore 6, 2) := by decide +kernel
theorem dX5_narrow_54 : decode cX5_narrow 54 = .ok (.iload 4, 2) := by decide +kernel
theorem dX5_narrow_56 : decode cX5_narrow 56 = .ok (.iconst (-1), 1) := by decide +kernel
theorem dX5_narrow_57 : decode cX5_narrow 57 = .ok (.if_icmp .eq 26, 3) := by decide +kernel
theorem dX5_narrow_60 : decode cX5_narrow 60 = .ok (.aload_n 0, 1) := by decide +kernel
theorem dX5_narrow_61 : decode cX5_narrow 61 = .ok (.iload 6, 2) := by decide +kernel
theorem dX5_narrow_63 : decode cX5_narrow 63 = .ok (.invokevirtual 140, 3) := by decide +kernel
theorem dX5_narrow_66 : decode cX5_narrow 66 = .ok (.iconst 0, 1) := by decide +kernel
theorem dX5_narrow_67 : decode cX5_narrow 67 = .ok (.invokestatic 94, 3) := by decide +kernel
theorem dX5_narrow_70 : decode cX5_narrow 70 = .ok (.aload_n 0, 1) := by decide +kernel
theorem dX5_narrow_71 : decode cX5_narrow 71 = .ok (.iload 4, 2) := by decide +kernel
theorem dX5_narrow_73 : decode cX5_narrow 73 = .ok (.invokevirtual 140, 3) := by decide +kernel
theorem dX5_narrow_76 : decode cX5_narrow 76 = .ok (.iconst 0, 1) := by decide +kernel
theorem dX5_narrow_77 : decode cX5_narrow 77 = .ok (.invokestatic 94, 3) := by decide +kernel
theorem dX5_narrow_80 : decode cX5_narrow 80 = .ok (.if_icmp .le 8, 3) := by decide +kernel
theorem dX5_narrow_83 : decode cX5_narrow 83 = .ok (.iload 6, 2) := by decide +kernel
theorem dX5_narrow_85 : decode cX5_narrow 85 = .ok (.goto 5, 3) := by decide +kernel
theorem dX5_narrow_88 : decode cX5_narrow 88 = .ok (.iload 4, 2) := by decide +kernel
theorem dX5_narrow_90 : decode cX5_narrow 90 = .ok (.istore 4, 2) := by decide +kernel
theorem dX5_narrow_92 : decode cX5_narrow 92 = .ok (.iinc 5 1, 3) := by decide +kernel
theorem dX5_narrow_95 : decode cX5_narrow 95 = .ok (.goto (-57), 3) := by decide +kernel
theorem dX5_narrow_98 : decode cX5_narrow 98 = .ok (.iload 4, 2) := by decide +kernel
theorem dX5_narrow_100 : decode cX5_narrow 100 = .ok (.istore_n 2, 1) := by decide +kernel
theorem dX5_narrow_101 : decode cX5_narrow 101 = .ok (.iinc 3 1, 3) := by decide +kernel
theorem dX5_narrow_104 : decode cX5_narrow 104 = .ok (.goto (-85), 3) := by decide +kernel
theorem dX5_narrow_107 : decode cX5_narrow 107 = .ok (.iload_n 2, 1) := by decide +kernel
theorem dX5_narrow_108 : decode cX5_narrow 108 = .ok (.ireturn, 1) := by decide +kernel
set_option maxRecDepth 20000 in
theorem ggX5_worst_X5_bookedOf : GoodIn wsX5_worst wsX5_bookedOf := goodIn_r _ [7, 8, 17, 18, 19, 20, 21, 22, 23, 24, 25, 26, 27, 28, 29, 30, 31, 32, 33, 34, 35, 36, 37, 38, 39, 40, 41, 42] (by decide +kernel) (by decide +kernel)
set_option maxRecDepth 20000 in
theorem gX5_worst_X5_bookedOf : GoodIn wsX5_worst (wsV RX5 133 RX5 yX5_bookedOf wsX5_bookedOf) := goodIn_app (goodIn_of _ (by decide +kernel)) ggX5_worst_X5_bookedOf
set_option maxRecDepth 20000 in
theorem ggX5_worst_X5_apart : GoodIn wsX5_worst wsX5_apart := goodIn_r _ [11] (by decide +kernel) (by decide +kernel)
set_option maxRecDepth 20000 in
theorem gX5_worst_X5_apart : GoodIn wsX5_worst (va_wsS RX5 94 yX5_apart wsX5_apart) := goodIn_app (goodIn_of _ (by decide +kernel)) ggX5_worst_X5_apart
set_option maxRecDepth 20000 in
theorem ggX5_worst_X5_asks : GoodIn wsX5_worst wsX5_asks := goodIn_r _ [15, 16, 17, 18, 19, 20, 21, 22, 23, 24, 25, 26, 27, 28, 29, 30, 31, 32, 33, 34, 35, 36, 37, 38, 39, 40, 41, 42] (by decide +kernel) (by decide +kernel)
set_option maxRecDepth 20000 in
theorem gX5_worst_X5_asks : GoodIn wsX5_worst (wsV RX5 87 RX5 yX5_asks wsX5_asks) := goodIn_app (goodIn_of _ (by decide +kernel)) ggX5_worst_X5_asks
theorem dX5_worst_0 : decode cX5_worst 0 = .ok (.iconst 0, 1) := by decide +kernel
theorem dX5_worst_1 : decode cX5_worst 1 = .ok (.istore_n 1, 1) := by decide +kernel
theorem dX5_worst_2 : decode cX5_worst 2 = .ok (.iconst 1, 1) := by decide +kernel
theorem dX5_worst_3 : decode cX5_worst 3 = .ok (.istore_n 2, 1) := by decide +kernel
theorem dX5_worst_4 : decode cX5_worst 4 = .ok (.iload_n 2, 1) := by decide +kernel
theorem dX5_worst_5 : decode cX5_worst 5 = .ok (.aload_n 0, 1) := by decide +kernel
theorem dX5_worst_6 : decode cX5_worst 6 = .ok (.getfield 91, 3) := by decide +kernel
theorem dX5_worst_9 : decode cX5_worst 9 = .ok (.if_icmp .ge 46, 3) := by decide +kernel
theorem dX5_worst_12 : decode cX5_worst 12 = .ok (.aload_n 0, 1) := by decide +kernel
theorem dX5_worst_13 : decode cX5_worst 13 = .ok (.getfield 48, 3) := by decide +kernel
theorem dX5_worst_16 : decode cX5_worst 16 = .ok (.iload_n 2, 1) := by decide +kernel
theorem dX5_worst_17 : decode cX5_worst 17 = .ok (.iaload, 1) := by decide +kernel
theorem dX5_worst_18 : decode cX5_worst 18 = .ok (.aload_n 0, 1) := by decide +kernel
theorem dX5_worst_19 : decode cX5_worst 19 = .ok (.iload_n 2, 1) := by decide +kernel
theorem dX5_worst_20 : decode cX5_worst 20 = .ok (.invokevirtual 133, 3) := by decide +kernel
theorem dX5_worst_23 : decode cX5_worst 23 = .ok (.invokestatic 94, 3) := by decide +kernel
theorem dX5_worst_26 : decode cX5_worst 26 = .ok (.aload_n 0, 1) := by decide +kernel
theorem dX5_worst_27 : decode cX5_worst 27 = .ok (.getfield 48, 3) := by decide +kernel
theorem dX5_worst_30 : decode cX5_worst 30 = .ok (.iload_n 1, 1) := by decide +kernel
theorem dX5_worst_31 : decode cX5_worst 31 = .ok (.iaload, 1) := by decide +kernel
theorem dX5_worst_32 : decode cX5_worst 32 = .ok (.aload_n 0, 1) := by decide +kernel
theorem dX5_worst_33 : decode cX5_worst 33 = .ok (.iload_n 1, 1) := by decide +kernel
theorem dX5_worst_34 : decode cX5_worst 34 = .ok (.invokevirtual 133, 3) := by decide +kernel
theorem dX5_worst_37 : decode cX5_worst 37 = .ok (.invokestatic 94, 3) := by decide +kernel
theorem dX5_worst_40 : decode cX5_worst 40 = .ok (.if_icmp .le 7, 3) := by decide +kernel
theorem dX5_worst_43 : decode cX5_worst 43 = .ok (.iload_n 2, 1) := by decide +kernel
theorem dX5_worst_44 : decode cX5_worst 44 = .ok (.goto 4, 3) := by decide +kernel
theorem dX5_worst_47 : decode cX5_worst 47 = .ok (.iload_n 1, 1) := by decide +kernel
theorem dX5_worst_48 : decode cX5_worst 48 = .ok (.istore_n 1, 1) := by decide +kernel
theorem dX5_worst_49 : decode cX5_worst 49 = .ok (.iinc 2 1, 3) := by decide +kernel
theorem dX5_worst_52 : decode cX5_worst 52 = .ok (.goto (-48), 3) := by decide +kernel
theorem dX5_worst_55 : decode cX5_worst 55 = .ok (.aload_n 0, 1) := by decide +kernel
theorem dX5_worst_56 : decode cX5_worst 56 = .ok (.aload_n 0, 1) := by decide +kernel
theorem dX5_worst_57 : decode cX5_worst 57 = .ok (.getfield 91, 3) := by decide +kernel
theorem dX5_worst_60 : decode cX5_worst 60 = .ok (.ifCond .le 7, 3) := by decide +kernel
theorem dX5_worst_63 : decode cX5_worst 63 = .ok (.iconst 1, 1) := by decide +kernel
theorem dX5_worst_64 : decode cX5_worst 64 = .ok (.goto 4, 3) := by decide +kernel
theorem dX5_worst_67 : decode cX5_worst 67 = .ok (.iconst 0, 1) := by decide +kernel
theorem dX5_worst_68 : decode cX5_worst 68 = .ok (.invokevirtual 87, 3) := by decide +kernel
theorem dX5_worst_71 : decode cX5_worst 71 = .ok (.ifCond .eq 7, 3) := by decide +kernel
theorem dX5_worst_74 : decode cX5_worst 74 = .ok (.iload_n 1, 1) := by decide +kernel
theorem dX5_worst_75 : decode cX5_worst 75 = .ok (.goto 4, 3) := by decide +kernel
theorem dX5_worst_78 : decode cX5_worst 78 = .ok (.iconst 0, 1) := by decide +kernel
theorem dX5_worst_79 : decode cX5_worst 79 = .ok (.ireturn, 1) := by decide +kernel
theorem dJ9_abs_0f7a4_0 : decode cJ9_abs_0f7a4 0 = .ok (.iload_n 0, 1) := by decide +kernel
theorem dJ9_abs_0f7a4_1 : decode cJ9_abs_0f7a4 1 = .ok (.ifCond .ge 8, 3) := by decide +kernel
theorem dJ9_abs_0f7a4_4 : decode cJ9_abs_0f7a4 4 = .ok (.iload_n 0, 1) := by decide +kernel
theorem dJ9_abs_0f7a4_5 : decode cJ9_abs_0f7a4 5 = .ok (.ineg, 1) := by decide +kernel
theorem dJ9_abs_0f7a4_6 : decode cJ9_abs_0f7a4 6 = .ok (.goto 4, 3) := by decide +kernel
theorem dJ9_abs_0f7a4_9 : decode cJ9_abs_0f7a4 9 = .ok (.iload_n 0, 1) := by decide +kernel
theorem dJ9_abs_0f7a4_10 : decode cJ9_abs_0f7a4 10 = .ok (.ireturn, 1) := by decide +kernel
theorem dJ9_max_7cf53_0 : decode cJ9_max_7cf53 0 = .ok (.iload_n 0, 1) := by decide +kernel
theorem dJ9_max_7cf53_1 : decode cJ9_max_7cf53 1 = .ok (.iload_n 1, 1) := by decide +kernel
theorem dJ9_max_7cf53_2 : decode cJ9_max_7cf53 2 = .ok (.if_icmp .lt 7, 3) := by decide +kernel
theorem dJ9_max_7cf53_5 : decode cJ9_max_7cf53 5 = .ok (.iload_n 0, 1) := by decide +kernel
theorem dJ9_max_7cf53_6 : decode cJ9_max_7cf53 6 = .ok (.goto 4, 3) := by decide +kernel
theorem dJ9_max_7cf53_9 : decode cJ9_max_7cf53 9 = .ok (.iload_n 1, 1) := by decide +kernel
theorem dJ9_max_7cf53_10 : decode cJ9_max_7cf53 10 = .ok (.ireturn, 1) := by decide +kernel
theorem dJ9_min_7cf53_0 : decode cJ9_min_7cf53 0 = .ok (.iload_n 0, 1) := by decide +kernel
theorem dJ9_min_7cf53_1 : decode cJ9_min_7cf53 1 = .ok (.iload_n 1, 1) := by decide +kernel
theorem dJ9_min_7cf53_2 : decode cJ9_min_7cf53 2 = .ok (.if_icmp .gt 7, 3) := by decide +kernel
theorem dJ9_min_7cf53_5 : decode cJ9_min_7cf53 5 = .ok (.iload_n 0, 1) := by decide +kernel
theorem dJ9_min_7cf53_6 : decode cJ9_min_7cf53 6 = .ok (.goto 4, 3) := by decide +kernel
theorem dJ9_min_7cf53_9 : decode cJ9_min_7cf53 9 = .ok (.iload_n 1, 1) := by decide +kernel
theorem dJ9_min_7cf53_10 : decode cJ9_min_7cf53 10 = .ok (.ireturn, 1) := by decide +kernel
set_option maxRecDepth 20000 in
theorem ggL_setBound_X4_setBound : GoodIn wsL_setBound wsX4_setBound := goodIn_ca (goodIn_r _ [6, 7, 8, 9, 10, 11, 5, 12, 13, 14, 15, 16, 17, 18, 19, 20] (by decide +kernel) (by decide +kernel)) (goodIn_sub (fun _ h => List.mem_cons_of_mem _ (List.mem_append_right _ h)) (by decide +kernel))
set_option maxRecDepth 20000 in
theorem gL_setBound_X4_setBound : GoodIn wsL_setBound (wsV RL 7 RX4 yX4_setBound wsX4_setBound) := goodIn_app (goodIn_of _ (by decide +kernel)) ggL_setBound_X4_setBound
