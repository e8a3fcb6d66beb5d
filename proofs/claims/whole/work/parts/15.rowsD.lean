theorem dX6_init_0 : decode cX6_init 0 = .ok (.aload_n 0, 1) := by decide +kernel
theorem dX6_init_1 : decode cX6_init 1 = .ok (.invokespecial 1, 3) := by decide +kernel
theorem dX6_init_4 : decode cX6_init 4 = .ok (.aload_n 0, 1) := by decide +kernel
theorem dX6_init_5 : decode cX6_init 5 = .ok (.bipush 6, 2) := by decide +kernel
theorem dX6_init_7 : decode cX6_init 7 = .ok (.newarray .int, 2) := by decide +kernel
theorem dX6_init_9 : decode cX6_init 9 = .ok (.putfield 7, 3) := by decide +kernel
theorem dX6_init_12 : decode cX6_init 12 = .ok (.aload_n 0, 1) := by decide +kernel
theorem dX6_init_13 : decode cX6_init 13 = .ok (.sipush 240, 3) := by decide +kernel
theorem dX6_init_16 : decode cX6_init 16 = .ok (.newarray .int, 2) := by decide +kernel
theorem dX6_init_18 : decode cX6_init 18 = .ok (.putfield 13, 3) := by decide +kernel
theorem dX6_init_21 : decode cX6_init 21 = .ok (.aload_n 0, 1) := by decide +kernel
theorem dX6_init_22 : decode cX6_init 22 = .ok (.iconst 4, 1) := by decide +kernel
theorem dX6_init_23 : decode cX6_init 23 = .ok (.newarray .int, 2) := by decide +kernel
theorem dX6_init_25 : decode cX6_init 25 = .ok (.putfield 16, 3) := by decide +kernel
theorem dX6_init_28 : decode cX6_init 28 = .ok (.aload_n 0, 1) := by decide +kernel
theorem dX6_init_29 : decode cX6_init 29 = .ok (.sipush 320, 3) := by decide +kernel
theorem dX6_init_32 : decode cX6_init 32 = .ok (.newarray .int, 2) := by decide +kernel
theorem dX6_init_34 : decode cX6_init 34 = .ok (.putfield 19, 3) := by decide +kernel
theorem dX6_init_37 : decode cX6_init 37 = .ok (.aload_n 0, 1) := by decide +kernel
theorem dX6_init_38 : decode cX6_init 38 = .ok (.iconst 4, 1) := by decide +kernel
theorem dX6_init_39 : decode cX6_init 39 = .ok (.newarray .int, 2) := by decide +kernel
theorem dX6_init_41 : decode cX6_init 41 = .ok (.putfield 22, 3) := by decide +kernel
theorem dX6_init_44 : decode cX6_init 44 = .ok (.aload_n 0, 1) := by decide +kernel
theorem dX6_init_45 : decode cX6_init 45 = .ok (.bipush 6, 2) := by decide +kernel
theorem dX6_init_47 : decode cX6_init 47 = .ok (.newarray .int, 2) := by decide +kernel
theorem dX6_init_49 : decode cX6_init 49 = .ok (.putfield 25, 3) := by decide +kernel
theorem dX6_init_52 : decode cX6_init 52 = .ok (.aload_n 0, 1) := by decide +kernel
theorem dX6_init_53 : decode cX6_init 53 = .ok (.bipush 6, 2) := by decide +kernel
theorem dX6_init_55 : decode cX6_init 55 = .ok (.newarray .int, 2) := by decide +kernel
theorem dX6_init_57 : decode cX6_init 57 = .ok (.putfield 28, 3) := by decide +kernel
theorem dX6_init_60 : decode cX6_init 60 = .ok (.aload_n 0, 1) := by decide +kernel
theorem dX6_init_61 : decode cX6_init 61 = .ok (.bipush 7, 2) := by decide +kernel
theorem dX6_init_63 : decode cX6_init 63 = .ok (.newarray .int, 2) := by decide +kernel
theorem dX6_init_65 : decode cX6_init 65 = .ok (.putfield 31, 3) := by decide +kernel
theorem dX6_init_68 : decode cX6_init 68 = .ok (.aload_n 0, 1) := by decide +kernel
theorem dX6_init_69 : decode cX6_init 69 = .ok (.sipush 280, 3) := by decide +kernel
theorem dX6_init_72 : decode cX6_init 72 = .ok (.newarray .int, 2) := by decide +kernel
theorem dX6_init_74 : decode cX6_init 74 = .ok (.putfield 34, 3) := by decide +kernel
theorem dX6_init_77 : decode cX6_init 77 = .ok (.aload_n 0, 1) := by decide +kernel
theorem dX6_init_78 : decode cX6_init 78 = .ok (.sipush 864, 3) := by decide +kernel
theorem dX6_init_81 : decode cX6_init 81 = .ok (.newarray .int, 2) := by decide +kernel
theorem dX6_init_83 : decode cX6_init 83 = .ok (.putfield 37, 3) := by decide +kernel
theorem dX6_init_86 : decode cX6_init 86 = .ok (.aload_n 0, 1) := by decide +kernel
theorem dX6_init_87 : decode cX6_init 87 = .ok (.iconst 3, 1) := by decide +kernel
theorem dX6_init_88 : decode cX6_init 88 = .ok (.newarray .boolean, 2) := by decide +kernel
theorem dX6_init_90 : decode cX6_init 90 = .ok (.putfield 40, 3) := by decide +kernel
theorem dX6_init_93 : decode cX6_init 93 = .ok (.aload_n 0, 1) := by decide +kernel
theorem dX6_init_94 : decode cX6_init 94 = .ok (.lconst 1, 1) := by decide +kernel
theorem dX6_init_95 : decode cX6_init 95 = .ok (.putfield 44, 3) := by decide +kernel
theorem dX6_init_98 : decode cX6_init 98 = .ok (.aload_n 0, 1) := by decide +kernel
theorem dX6_init_99 : decode cX6_init 99 = .ok (.bipush 6, 2) := by decide +kernel
theorem dX6_init_101 : decode cX6_init 101 = .ok (.newarray .int, 2) := by decide +kernel
theorem dX6_init_103 : decode cX6_init 103 = .ok (.putfield 48, 3) := by decide +kernel
theorem dX6_init_106 : decode cX6_init 106 = .ok (.aload_n 0, 1) := by decide +kernel
theorem dX6_init_107 : decode cX6_init 107 = .ok (.bipush 23, 2) := by decide +kernel
theorem dX6_init_109 : decode cX6_init 109 = .ok (.newarray .int, 2) := by decide +kernel
theorem dX6_init_111 : decode cX6_init 111 = .ok (.putfield 51, 3) := by decide +kernel
theorem dX6_init_114 : decode cX6_init 114 = .ok (.aload_n 0, 1) := by decide +kernel
theorem dX6_init_115 : decode cX6_init 115 = .ok (.bipush 7, 2) := by decide +kernel
theorem dX6_init_117 : decode cX6_init 117 = .ok (.newarray .int, 2) := by decide +kernel
theorem dX6_init_119 : decode cX6_init 119 = .ok (.putfield 54, 3) := by decide +kernel
theorem dX6_init_122 : decode cX6_init 122 = .ok (.aload_n 0, 1) := by decide +kernel
theorem dX6_init_123 : decode cX6_init 123 = .ok (.bipush 49, 2) := by decide +kernel
theorem dX6_init_125 : decode cX6_init 125 = .ok (.newarray .int, 2) := by decide +kernel
theorem dX6_init_127 : decode cX6_init 127 = .ok (.putfield 57, 3) := by decide +kernel
theorem dX6_init_130 : decode cX6_init 130 = .ok (.aload_n 0, 1) := by decide +kernel
theorem dX6_init_131 : decode cX6_init 131 = .ok (.bipush 7, 2) := by decide +kernel
theorem dX6_init_133 : decode cX6_init 133 = .ok (.newarray .int, 2) := by decide +kernel
theorem dX6_init_135 : decode cX6_init 135 = .ok (.putfield 60, 3) := by decide +kernel
theorem dX6_init_138 : decode cX6_init 138 = .ok (.aload_n 0, 1) := by decide +kernel
theorem dX6_init_139 : decode cX6_init 139 = .ok (.bipush 7, 2) := by decide +kernel
theorem dX6_init_141 : decode cX6_init 141 = .ok (.newarray .int, 2) := by decide +kernel
theorem dX6_init_143 : decode cX6_init 143 = .ok (.putfield 63, 3) := by decide +kernel
theorem dX6_init_146 : decode cX6_init 146 = .ok (.iconst 0, 1) := by decide +kernel
theorem dX6_init_147 : decode cX6_init 147 = .ok (.istore_n 1, 1) := by decide +kernel
theorem dX6_init_148 : decode cX6_init 148 = .ok (.iload_n 1, 1) := by decide +kernel
theorem dX6_init_149 : decode cX6_init 149 = .ok (.bipush 6, 2) := by decide +kernel
theorem dX6_init_151 : decode cX6_init 151 = .ok (.if_icmp .ge 16, 3) := by decide +kernel
theorem dX6_init_154 : decode cX6_init 154 = .ok (.aload_n 0, 1) := by decide +kernel
theorem dX6_init_155 : decode cX6_init 155 = .ok (.getfield 7, 3) := by decide +kernel
theorem dX6_init_158 : decode cX6_init 158 = .ok (.iload_n 1, 1) := by decide +kernel
theorem dX6_init_159 : decode cX6_init 159 = .ok (.iconst (-1), 1) := by decide +kernel
theorem dX6_init_160 : decode cX6_init 160 = .ok (.iastore, 1) := by decide +kernel
theorem dX6_init_161 : decode cX6_init 161 = .ok (.iinc 1 1, 3) := by decide +kernel
theorem dX6_init_164 : decode cX6_init 164 = .ok (.goto (-16), 3) := by decide +kernel
theorem dX6_init_167 : decode cX6_init 167 = .ok (.iconst 0, 1) := by decide +kernel
theorem dX6_init_168 : decode cX6_init 168 = .ok (.istore_n 1, 1) := by decide +kernel
theorem dX6_init_169 : decode cX6_init 169 = .ok (.iload_n 1, 1) := by decide +kernel
theorem dX6_init_170 : decode cX6_init 170 = .ok (.iconst 4, 1) := by decide +kernel
theorem dX6_init_171 : decode cX6_init 171 = .ok (.if_icmp .ge 16, 3) := by decide +kernel
theorem dX6_init_174 : decode cX6_init 174 = .ok (.aload_n 0, 1) := by decide +kernel
theorem dX6_init_175 : decode cX6_init 175 = .ok (.getfield 16, 3) := by decide +kernel
theorem dX6_init_178 : decode cX6_init 178 = .ok (.iload_n 1, 1) := by decide +kernel
theorem dX6_init_179 : decode cX6_init 179 = .ok (.iconst (-1), 1) := by decide +kernel
theorem dX6_init_180 : decode cX6_init 180 = .ok (.iastore, 1) := by decide +kernel
theorem dX6_init_181 : decode cX6_init 181 = .ok (.iinc 1 1, 3) := by decide +kernel
theorem dX6_init_184 : decode cX6_init 184 = .ok (.goto (-15), 3) := by decide +kernel
theorem dX6_init_187 : decode cX6_init 187 = .ok (.return_, 1) := by decide +kernel
theorem dX6_in_0 : decode cX6_in 0 = .ok (.lload_n 0, 1) := by decide +kernel
theorem dX6_in_1 : decode cX6_in 1 = .ok (.lload_n 2, 1) := by decide +kernel
theorem dX6_in_2 : decode cX6_in 2 = .ok (.lcmp, 1) := by decide +kernel
theorem dX6_in_3 : decode cX6_in 3 = .ok (.ifCond .lt 14, 3) := by decide +kernel
theorem dX6_in_6 : decode cX6_in 6 = .ok (.lload_n 0, 1) := by decide +kernel
theorem dX6_in_7 : decode cX6_in 7 = .ok (.lload 4, 2) := by decide +kernel
theorem dX6_in_9 : decode cX6_in 9 = .ok (.lcmp, 1) := by decide +kernel
theorem dX6_in_10 : decode cX6_in 10 = .ok (.ifCond .gt 7, 3) := by decide +kernel
theorem dX6_in_13 : decode cX6_in 13 = .ok (.iconst 1, 1) := by decide +kernel
theorem dX6_in_14 : decode cX6_in 14 = .ok (.goto 4, 3) := by decide +kernel
theorem dX6_in_17 : decode cX6_in 17 = .ok (.iconst 0, 1) := by decide +kernel
theorem dX6_in_18 : decode cX6_in 18 = .ok (.ireturn, 1) := by decide +kernel
theorem dX6_found_0 : decode cX6_found 0 = .ok (.aload_n 0, 1) := by decide +kernel
theorem dX6_found_1 : decode cX6_found 1 = .ok (.iload_n 1, 1) := by decide +kernel
theorem dX6_found_2 : decode cX6_found 2 = .ok (.putfield 66, 3) := by decide +kernel
theorem dX6_found_5 : decode cX6_found 5 = .ok (.aload_n 0, 1) := by decide +kernel
theorem dX6_found_6 : decode cX6_found 6 = .ok (.getfield 48, 3) := by decide +kernel
theorem dX6_found_9 : decode cX6_found 9 = .ok (.iload_n 1, 1) := by decide +kernel
theorem dX6_found_10 : decode cX6_found 10 = .ok (.dup2, 1) := by decide +kernel
theorem dX6_found_11 : decode cX6_found 11 = .ok (.iaload, 1) := by decide +kernel
theorem dX6_found_12 : decode cX6_found 12 = .ok (.iconst 1, 1) := by decide +kernel
theorem dX6_found_13 : decode cX6_found 13 = .ok (.iadd, 1) := by decide +kernel
theorem dX6_found_14 : decode cX6_found 14 = .ok (.iastore, 1) := by decide +kernel
theorem dX6_found_15 : decode cX6_found 15 = .ok (.bipush (-3), 2) := by decide +kernel
theorem dX6_found_17 : decode cX6_found 17 = .ok (.ireturn, 1) := by decide +kernel
theorem dX6_tell_0 : decode cX6_tell 0 = .ok (.aload_n 0, 1) := by decide +kernel
theorem dX6_tell_1 : decode cX6_tell 1 = .ok (.iload_n 1, 1) := by decide +kernel
theorem dX6_tell_2 : decode cX6_tell 2 = .ok (.putfield 70, 3) := by decide +kernel
theorem dX6_tell_5 : decode cX6_tell 5 = .ok (.iconst 1, 1) := by decide +kernel
theorem dX6_tell_6 : decode cX6_tell 6 = .ok (.ireturn, 1) := by decide +kernel
theorem dX6_answer_0 : decode cX6_answer 0 = .ok (.aload_n 0, 1) := by decide +kernel
theorem dX6_answer_1 : decode cX6_answer 1 = .ok (.iload_n 2, 1) := by decide +kernel
theorem dX6_answer_2 : decode cX6_answer 2 = .ok (.putfield 70, 3) := by decide +kernel
theorem dX6_answer_5 : decode cX6_answer 5 = .ok (.iload_n 1, 1) := by decide +kernel
theorem dX6_answer_6 : decode cX6_answer 6 = .ok (.ireturn, 1) := by decide +kernel
set_option maxRecDepth 20000 in
theorem ggX6_isRow_X6_in : GoodIn wsX6_isRow wsX6_in := goodIn_r _ [5] (by decide +kernel) (by decide +kernel)
set_option maxRecDepth 20000 in
theorem gX6_isRow_X6_in : GoodIn wsX6_isRow (va_wsS RX6 75 yX6_in wsX6_in) := goodIn_app (goodIn_of _ (by decide +kernel)) ggX6_isRow_X6_in
theorem dX6_isRow_0 : decode cX6_isRow 0 = .ok (.iload_n 0, 1) := by decide +kernel
theorem dX6_isRow_1 : decode cX6_isRow 1 = .ok (.i2l, 1) := by decide +kernel
theorem dX6_isRow_2 : decode cX6_isRow 2 = .ok (.lconst 0, 1) := by decide +kernel
theorem dX6_isRow_3 : decode cX6_isRow 3 = .ok (.ldc2_w 73, 3) := by decide +kernel
theorem dX6_isRow_6 : decode cX6_isRow 6 = .ok (.invokestatic 75, 3) := by decide +kernel
theorem dX6_isRow_9 : decode cX6_isRow 9 = .ok (.ireturn, 1) := by decide +kernel
set_option maxRecDepth 20000 in
theorem ggX6_isText_X6_in : GoodIn wsX6_isText wsX6_in := goodIn_r _ [5] (by decide +kernel) (by decide +kernel)
set_option maxRecDepth 20000 in
theorem gX6_isText_X6_in : GoodIn wsX6_isText (va_wsS RX6 75 yX6_in wsX6_in) := goodIn_app (goodIn_of _ (by decide +kernel)) ggX6_isText_X6_in
theorem dX6_isText_0 : decode cX6_isText 0 = .ok (.iload_n 0, 1) := by decide +kernel
theorem dX6_isText_1 : decode cX6_isText 1 = .ok (.i2l, 1) := by decide +kernel
theorem dX6_isText_2 : decode cX6_isText 2 = .ok (.lconst 0, 1) := by decide +kernel
theorem dX6_isText_3 : decode cX6_isText 3 = .ok (.ldc2_w 79, 3) := by decide +kernel
theorem dX6_isText_6 : decode cX6_isText 6 = .ok (.invokestatic 75, 3) := by decide +kernel
theorem dX6_isText_9 : decode cX6_isText 9 = .ok (.ireturn, 1) := by decide +kernel
set_option maxRecDepth 20000 in
theorem ggX6_row_X6_isRow : GoodIn wsX6_row wsX6_isRow := goodIn_r _ [6, 7, 8, 9, 5, 10] (by decide +kernel) (by decide +kernel)
set_option maxRecDepth 20000 in
theorem gX6_row_X6_isRow : GoodIn wsX6_row (va_wsS RX6 81 yX6_isRow wsX6_isRow) := goodIn_app (goodIn_of _ (by decide +kernel)) ggX6_row_X6_isRow
set_option maxRecDepth 20000 in
theorem ggX6_row_X6_found : GoodIn wsX6_row wsX6_found := goodIn_r _ [14, 15, 16, 17, 18, 19, 20, 21, 22, 23, 24, 25, 26, 27, 28, 29, 30, 31, 32, 33, 34, 35, 36, 37, 38, 39, 40, 41, 42, 43] (by decide +kernel) (by decide +kernel)
set_option maxRecDepth 20000 in
theorem gX6_row_X6_found : GoodIn wsX6_row (wsV RX6 85 RX6 yX6_found wsX6_found) := goodIn_app (goodIn_of _ (by decide +kernel)) ggX6_row_X6_found
theorem dX6_row_0 : decode cX6_row 0 = .ok (.iload_n 1, 1) := by decide +kernel
theorem dX6_row_1 : decode cX6_row 1 = .ok (.invokestatic 81, 3) := by decide +kernel
theorem dX6_row_4 : decode cX6_row 4 = .ok (.ifCond .eq 9, 3) := by decide +kernel
theorem dX6_row_7 : decode cX6_row 7 = .ok (.iload_n 2, 1) := by decide +kernel
theorem dX6_row_8 : decode cX6_row 8 = .ok (.bipush 40, 2) := by decide +kernel
theorem dX6_row_10 : decode cX6_row 10 = .ok (.if_icmp .le 5, 3) := by decide +kernel
theorem dX6_row_13 : decode cX6_row 13 = .ok (.iconst (-1), 1) := by decide +kernel
theorem dX6_row_14 : decode cX6_row 14 = .ok (.ireturn, 1) := by decide +kernel
theorem dX6_row_15 : decode cX6_row 15 = .ok (.iload_n 2, 1) := by decide +kernel
theorem dX6_row_16 : decode cX6_row 16 = .ok (.ifCond .ge 9, 3) := by decide +kernel
theorem dX6_row_19 : decode cX6_row 19 = .ok (.aload_n 0, 1) := by decide +kernel
theorem dX6_row_20 : decode cX6_row 20 = .ok (.iconst 5, 1) := by decide +kernel
theorem dX6_row_21 : decode cX6_row 21 = .ok (.invokevirtual 85, 3) := by decide +kernel
theorem dX6_row_24 : decode cX6_row 24 = .ok (.ireturn, 1) := by decide +kernel
theorem dX6_row_25 : decode cX6_row 25 = .ok (.aload_n 0, 1) := by decide +kernel
theorem dX6_row_26 : decode cX6_row 26 = .ok (.getfield 7, 3) := by decide +kernel
theorem dX6_row_29 : decode cX6_row 29 = .ok (.iload_n 1, 1) := by decide +kernel
theorem dX6_row_30 : decode cX6_row 30 = .ok (.iload_n 2, 1) := by decide +kernel
theorem dX6_row_31 : decode cX6_row 31 = .ok (.iastore, 1) := by decide +kernel
theorem dX6_row_32 : decode cX6_row 32 = .ok (.iconst 0, 1) := by decide +kernel
theorem dX6_row_33 : decode cX6_row 33 = .ok (.istore_n 3, 1) := by decide +kernel
theorem dX6_row_34 : decode cX6_row 34 = .ok (.iload_n 3, 1) := by decide +kernel
theorem dX6_row_35 : decode cX6_row 35 = .ok (.bipush 40, 2) := by decide +kernel
theorem dX6_row_37 : decode cX6_row 37 = .ok (.if_icmp .ge 21, 3) := by decide +kernel
theorem dX6_row_40 : decode cX6_row 40 = .ok (.aload_n 0, 1) := by decide +kernel
theorem dX6_row_41 : decode cX6_row 41 = .ok (.getfield 13, 3) := by decide +kernel
theorem dX6_row_44 : decode cX6_row 44 = .ok (.bipush 40, 2) := by decide +kernel
theorem dX6_row_46 : decode cX6_row 46 = .ok (.iload_n 1, 1) := by decide +kernel
theorem dX6_row_47 : decode cX6_row 47 = .ok (.imul, 1) := by decide +kernel
theorem dX6_row_48 : decode cX6_row 48 = .ok (.iload_n 3, 1) := by decide +kernel
theorem dX6_row_49 : decode cX6_row 49 = .ok (.iadd, 1) := by decide +kernel
theorem dX6_row_50 : decode cX6_row 50 = .ok (.iconst 0, 1) := by decide +kernel
theorem dX6_row_51 : decode cX6_row 51 = .ok (.iastore, 1) := by decide +kernel
theorem dX6_row_52 : decode cX6_row 52 = .ok (.iinc 3 1, 3) := by decide +kernel
theorem dX6_row_55 : decode cX6_row 55 = .ok (.goto (-21), 3) := by decide +kernel
theorem dX6_row_58 : decode cX6_row 58 = .ok (.iload_n 2, 1) := by decide +kernel
theorem dX6_row_59 : decode cX6_row 59 = .ok (.ireturn, 1) := by decide +kernel
set_option maxRecDepth 20000 in
theorem ggX6_lay_X6_isRow : GoodIn wsX6_lay wsX6_isRow := goodIn_r _ [6, 7, 8, 9, 5, 10] (by decide +kernel) (by decide +kernel)
set_option maxRecDepth 20000 in
theorem gX6_lay_X6_isRow : GoodIn wsX6_lay (va_wsS RX6 81 yX6_isRow wsX6_isRow) := goodIn_app (goodIn_of _ (by decide +kernel)) ggX6_lay_X6_isRow
set_option maxRecDepth 20000 in
theorem ggX6_lay_X6_found : GoodIn wsX6_lay wsX6_found := goodIn_r _ [14, 15, 16, 22, 23, 24, 25, 26, 27, 28, 29, 30, 31, 32, 33, 34, 35, 36, 37, 38, 39, 40, 41, 42, 43, 44, 45, 46, 47, 48] (by decide +kernel) (by decide +kernel)
set_option maxRecDepth 20000 in
theorem gX6_lay_X6_found : GoodIn wsX6_lay (wsV RX6 85 RX6 yX6_found wsX6_found) := goodIn_app (goodIn_of _ (by decide +kernel)) ggX6_lay_X6_found
set_option maxRecDepth 20000 in
theorem ggX6_lay_X6_in : GoodIn wsX6_lay wsX6_in := goodIn_r _ [10] (by decide +kernel) (by decide +kernel)
set_option maxRecDepth 20000 in
theorem gX6_lay_X6_in : GoodIn wsX6_lay (va_wsS RX6 75 yX6_in wsX6_in) := goodIn_app (goodIn_of _ (by decide +kernel)) ggX6_lay_X6_in
set_option maxRecDepth 20000 in
theorem ggX6_lay_X6_tell : GoodIn wsX6_lay wsX6_tell := goodIn_r _ [20, 21, 22, 23, 24, 25, 26, 27, 28, 29, 30, 31, 32, 33, 34, 35, 36, 37, 38, 39, 40, 41, 42, 43, 44, 45, 46, 47, 48] (by decide +kernel) (by decide +kernel)
set_option maxRecDepth 20000 in
theorem gX6_lay_X6_tell : GoodIn wsX6_lay (wsV RX6 89 RX6 yX6_tell wsX6_tell) := goodIn_app (goodIn_of _ (by decide +kernel)) ggX6_lay_X6_tell
theorem dX6_lay_0 : decode cX6_lay 0 = .ok (.iload_n 1, 1) := by decide +kernel
theorem dX6_lay_1 : decode cX6_lay 1 = .ok (.invokestatic 81, 3) := by decide +kernel
theorem dX6_lay_4 : decode cX6_lay 4 = .ok (.ifCond .ne 5, 3) := by decide +kernel
theorem dX6_lay_7 : decode cX6_lay 7 = .ok (.iconst (-1), 1) := by decide +kernel
theorem dX6_lay_8 : decode cX6_lay 8 = .ok (.ireturn, 1) := by decide +kernel
theorem dX6_lay_9 : decode cX6_lay 9 = .ok (.aload_n 0, 1) := by decide +kernel
theorem dX6_lay_10 : decode cX6_lay 10 = .ok (.getfield 7, 3) := by decide +kernel
theorem dX6_lay_13 : decode cX6_lay 13 = .ok (.iload_n 1, 1) := by decide +kernel
theorem dX6_lay_14 : decode cX6_lay 14 = .ok (.iaload, 1) := by decide +kernel
theorem dX6_lay_15 : decode cX6_lay 15 = .ok (.ifCond .ge 9, 3) := by decide +kernel
theorem dX6_lay_18 : decode cX6_lay 18 = .ok (.aload_n 0, 1) := by decide +kernel
theorem dX6_lay_19 : decode cX6_lay 19 = .ok (.iconst 1, 1) := by decide +kernel
theorem dX6_lay_20 : decode cX6_lay 20 = .ok (.invokevirtual 85, 3) := by decide +kernel
theorem dX6_lay_23 : decode cX6_lay 23 = .ok (.ireturn, 1) := by decide +kernel
theorem dX6_lay_24 : decode cX6_lay 24 = .ok (.iload_n 2, 1) := by decide +kernel
theorem dX6_lay_25 : decode cX6_lay 25 = .ok (.i2l, 1) := by decide +kernel
theorem dX6_lay_26 : decode cX6_lay 26 = .ok (.lconst 0, 1) := by decide +kernel
theorem dX6_lay_27 : decode cX6_lay 27 = .ok (.aload_n 0, 1) := by decide +kernel
theorem dX6_lay_28 : decode cX6_lay 28 = .ok (.getfield 7, 3) := by decide +kernel
theorem dX6_lay_31 : decode cX6_lay 31 = .ok (.iload_n 1, 1) := by decide +kernel
theorem dX6_lay_32 : decode cX6_lay 32 = .ok (.iaload, 1) := by decide +kernel
theorem dX6_lay_33 : decode cX6_lay 33 = .ok (.iconst 1, 1) := by decide +kernel
theorem dX6_lay_34 : decode cX6_lay 34 = .ok (.isub, 1) := by decide +kernel
theorem dX6_lay_35 : decode cX6_lay 35 = .ok (.i2l, 1) := by decide +kernel
theorem dX6_lay_36 : decode cX6_lay 36 = .ok (.invokestatic 75, 3) := by decide +kernel
theorem dX6_lay_39 : decode cX6_lay 39 = .ok (.ifCond .ne 9, 3) := by decide +kernel
theorem dX6_lay_42 : decode cX6_lay 42 = .ok (.aload_n 0, 1) := by decide +kernel
theorem dX6_lay_43 : decode cX6_lay 43 = .ok (.iconst 2, 1) := by decide +kernel
theorem dX6_lay_44 : decode cX6_lay 44 = .ok (.invokevirtual 85, 3) := by decide +kernel
theorem dX6_lay_47 : decode cX6_lay 47 = .ok (.ireturn, 1) := by decide +kernel
theorem dX6_lay_48 : decode cX6_lay 48 = .ok (.aload_n 0, 1) := by decide +kernel
theorem dX6_lay_49 : decode cX6_lay 49 = .ok (.getfield 13, 3) := by decide +kernel
theorem dX6_lay_52 : decode cX6_lay 52 = .ok (.bipush 40, 2) := by decide +kernel
theorem dX6_lay_54 : decode cX6_lay 54 = .ok (.iload_n 1, 1) := by decide +kernel
theorem dX6_lay_55 : decode cX6_lay 55 = .ok (.imul, 1) := by decide +kernel
theorem dX6_lay_56 : decode cX6_lay 56 = .ok (.iload_n 2, 1) := by decide +kernel
theorem dX6_lay_57 : decode cX6_lay 57 = .ok (.iadd, 1) := by decide +kernel
theorem dX6_lay_58 : decode cX6_lay 58 = .ok (.iaload, 1) := by decide +kernel
theorem dX6_lay_59 : decode cX6_lay 59 = .ok (.istore 4, 2) := by decide +kernel
theorem dX6_lay_61 : decode cX6_lay 61 = .ok (.aload_n 0, 1) := by decide +kernel
theorem dX6_lay_62 : decode cX6_lay 62 = .ok (.getfield 13, 3) := by decide +kernel
theorem dX6_lay_65 : decode cX6_lay 65 = .ok (.bipush 40, 2) := by decide +kernel
theorem dX6_lay_67 : decode cX6_lay 67 = .ok (.iload_n 1, 1) := by decide +kernel
theorem dX6_lay_68 : decode cX6_lay 68 = .ok (.imul, 1) := by decide +kernel
theorem dX6_lay_69 : decode cX6_lay 69 = .ok (.iload_n 2, 1) := by decide +kernel
theorem dX6_lay_70 : decode cX6_lay 70 = .ok (.iadd, 1) := by decide +kernel
theorem dX6_lay_71 : decode cX6_lay 71 = .ok (.iload_n 3, 1) := by decide +kernel
theorem dX6_lay_72 : decode cX6_lay 72 = .ok (.iastore, 1) := by decide +kernel
theorem dX6_lay_73 : decode cX6_lay 73 = .ok (.aload_n 0, 1) := by decide +kernel
theorem dX6_lay_74 : decode cX6_lay 74 = .ok (.iload 4, 2) := by decide +kernel
theorem dX6_lay_76 : decode cX6_lay 76 = .ok (.invokevirtual 89, 3) := by decide +kernel
theorem dX6_lay_79 : decode cX6_lay 79 = .ok (.ireturn, 1) := by decide +kernel
set_option maxRecDepth 20000 in
theorem ggX6_at_X6_isRow : GoodIn wsX6_at wsX6_isRow := goodIn_r _ [6, 7, 8, 9, 5, 10] (by decide +kernel) (by decide +kernel)
set_option maxRecDepth 20000 in
theorem gX6_at_X6_isRow : GoodIn wsX6_at (va_wsS RX6 81 yX6_isRow wsX6_isRow) := goodIn_app (goodIn_of _ (by decide +kernel)) ggX6_at_X6_isRow
set_option maxRecDepth 20000 in
theorem ggX6_at_X6_found : GoodIn wsX6_at wsX6_found := goodIn_r _ [14, 15, 16, 22, 23, 24, 25, 26, 27, 28, 29, 30, 31, 32, 33, 34, 35, 36, 37, 38, 39, 40, 41, 42, 43, 44, 45, 46, 47, 48] (by decide +kernel) (by decide +kernel)
set_option maxRecDepth 20000 in
theorem gX6_at_X6_found : GoodIn wsX6_at (wsV RX6 85 RX6 yX6_found wsX6_found) := goodIn_app (goodIn_of _ (by decide +kernel)) ggX6_at_X6_found
set_option maxRecDepth 20000 in
theorem ggX6_at_X6_in : GoodIn wsX6_at wsX6_in := goodIn_r _ [10] (by decide +kernel) (by decide +kernel)
set_option maxRecDepth 20000 in
theorem gX6_at_X6_in : GoodIn wsX6_at (va_wsS RX6 75 yX6_in wsX6_in) := goodIn_app (goodIn_of _ (by decide +kernel)) ggX6_at_X6_in
set_option maxRecDepth 20000 in
theorem ggX6_at_X6_tell : GoodIn wsX6_at wsX6_tell := goodIn_r _ [20, 21, 22, 23, 24, 25, 26, 27, 28, 29, 30, 31, 32, 33, 34, 35, 36, 37, 38, 39, 40, 41, 42, 43, 44, 45, 46, 47, 48] (by decide +kernel) (by decide +kernel)
set_option maxRecDepth 20000 in
theorem gX6_at_X6_tell : GoodIn wsX6_at (wsV RX6 89 RX6 yX6_tell wsX6_tell) := goodIn_app (goodIn_of _ (by decide +kernel)) ggX6_at_X6_tell
theorem dX6_at_0 : decode cX6_at 0 = .ok (.iload_n 1, 1) := by decide +kernel
theorem dX6_at_1 : decode cX6_at 1 = .ok (.invokestatic 81, 3) := by decide +kernel
theorem dX6_at_4 : decode cX6_at 4 = .ok (.ifCond .ne 5, 3) := by decide +kernel
theorem dX6_at_7 : decode cX6_at 7 = .ok (.iconst (-1), 1) := by decide +kernel
theorem dX6_at_8 : decode cX6_at 8 = .ok (.ireturn, 1) := by decide +kernel
theorem dX6_at_9 : decode cX6_at 9 = .ok (.aload_n 0, 1) := by decide +kernel
theorem dX6_at_10 : decode cX6_at 10 = .ok (.getfield 7, 3) := by decide +kernel
theorem dX6_at_13 : decode cX6_at 13 = .ok (.iload_n 1, 1) := by decide +kernel
theorem dX6_at_14 : decode cX6_at 14 = .ok (.iaload, 1) := by decide +kernel
theorem dX6_at_15 : decode cX6_at 15 = .ok (.ifCond .ge 9, 3) := by decide +kernel
theorem dX6_at_18 : decode cX6_at 18 = .ok (.aload_n 0, 1) := by decide +kernel
theorem dX6_at_19 : decode cX6_at 19 = .ok (.iconst 1, 1) := by decide +kernel
theorem dX6_at_20 : decode cX6_at 20 = .ok (.invokevirtual 85, 3) := by decide +kernel
theorem dX6_at_23 : decode cX6_at 23 = .ok (.ireturn, 1) := by decide +kernel
theorem dX6_at_24 : decode cX6_at 24 = .ok (.iload_n 2, 1) := by decide +kernel
theorem dX6_at_25 : decode cX6_at 25 = .ok (.i2l, 1) := by decide +kernel
theorem dX6_at_26 : decode cX6_at 26 = .ok (.lconst 0, 1) := by decide +kernel
theorem dX6_at_27 : decode cX6_at 27 = .ok (.aload_n 0, 1) := by decide +kernel
theorem dX6_at_28 : decode cX6_at 28 = .ok (.getfield 7, 3) := by decide +kernel
theorem dX6_at_31 : decode cX6_at 31 = .ok (.iload_n 1, 1) := by decide +kernel
theorem dX6_at_32 : decode cX6_at 32 = .ok (.iaload, 1) := by decide +kernel
theorem dX6_at_33 : decode cX6_at 33 = .ok (.iconst 1, 1) := by decide +kernel
theorem dX6_at_34 : decode cX6_at 34 = .ok (.isub, 1) := by decide +kernel
theorem dX6_at_35 : decode cX6_at 35 = .ok (.i2l, 1) := by decide +kernel
theorem dX6_at_36 : decode cX6_at 36 = .ok (.invokestatic 75, 3) := by decide +kernel
theorem dX6_at_39 : decode cX6_at 39 = .ok (.ifCond .eq 21, 3) := by decide +kernel
theorem dX6_at_42 : decode cX6_at 42 = .ok (.aload_n 0, 1) := by decide +kernel
theorem dX6_at_43 : decode cX6_at 43 = .ok (.aload_n 0, 1) := by decide +kernel
theorem dX6_at_44 : decode cX6_at 44 = .ok (.getfield 13, 3) := by decide +kernel
theorem dX6_at_47 : decode cX6_at 47 = .ok (.bipush 40, 2) := by decide +kernel
theorem dX6_at_49 : decode cX6_at 49 = .ok (.iload_n 1, 1) := by decide +kernel
theorem dX6_at_50 : decode cX6_at 50 = .ok (.imul, 1) := by decide +kernel
theorem dX6_at_51 : decode cX6_at 51 = .ok (.iload_n 2, 1) := by decide +kernel
theorem dX6_at_52 : decode cX6_at 52 = .ok (.iadd, 1) := by decide +kernel
theorem dX6_at_53 : decode cX6_at 53 = .ok (.iaload, 1) := by decide +kernel
theorem dX6_at_54 : decode cX6_at 54 = .ok (.invokevirtual 89, 3) := by decide +kernel
theorem dX6_at_57 : decode cX6_at 57 = .ok (.goto 8, 3) := by decide +kernel
theorem dX6_at_60 : decode cX6_at 60 = .ok (.aload_n 0, 1) := by decide +kernel
theorem dX6_at_61 : decode cX6_at 61 = .ok (.iconst 2, 1) := by decide +kernel
theorem dX6_at_62 : decode cX6_at 62 = .ok (.invokevirtual 85, 3) := by decide +kernel
theorem dX6_at_65 : decode cX6_at 65 = .ok (.ireturn, 1) := by decide +kernel
set_option maxRecDepth 20000 in
theorem ggX6_tear_X6_isRow : GoodIn wsX6_tear wsX6_isRow := goodIn_r _ [5, 6, 7, 8, 4, 9] (by decide +kernel) (by decide +kernel)
set_option maxRecDepth 20000 in
theorem gX6_tear_X6_isRow : GoodIn wsX6_tear (va_wsS RX6 81 yX6_isRow wsX6_isRow) := goodIn_app (goodIn_of _ (by decide +kernel)) ggX6_tear_X6_isRow
set_option maxRecDepth 20000 in
theorem ggX6_tear_X6_found : GoodIn wsX6_tear wsX6_found := goodIn_r _ [13, 14, 15, 16, 17, 18, 19, 20, 21, 22, 23, 24, 25, 26, 27, 28, 29, 30, 31, 32, 33, 34, 35, 36, 37, 38, 39, 40, 41, 42] (by decide +kernel) (by decide +kernel)
set_option maxRecDepth 20000 in
theorem gX6_tear_X6_found : GoodIn wsX6_tear (wsV RX6 85 RX6 yX6_found wsX6_found) := goodIn_app (goodIn_of _ (by decide +kernel)) ggX6_tear_X6_found
theorem dX6_tear_0 : decode cX6_tear 0 = .ok (.iload_n 1, 1) := by decide +kernel
theorem dX6_tear_1 : decode cX6_tear 1 = .ok (.invokestatic 81, 3) := by decide +kernel
theorem dX6_tear_4 : decode cX6_tear 4 = .ok (.ifCond .ne 5, 3) := by decide +kernel
theorem dX6_tear_7 : decode cX6_tear 7 = .ok (.iconst (-1), 1) := by decide +kernel
theorem dX6_tear_8 : decode cX6_tear 8 = .ok (.ireturn, 1) := by decide +kernel
theorem dX6_tear_9 : decode cX6_tear 9 = .ok (.aload_n 0, 1) := by decide +kernel
theorem dX6_tear_10 : decode cX6_tear 10 = .ok (.getfield 7, 3) := by decide +kernel
theorem dX6_tear_13 : decode cX6_tear 13 = .ok (.iload_n 1, 1) := by decide +kernel
theorem dX6_tear_14 : decode cX6_tear 14 = .ok (.iaload, 1) := by decide +kernel
theorem dX6_tear_15 : decode cX6_tear 15 = .ok (.ifCond .ge 9, 3) := by decide +kernel
theorem dX6_tear_18 : decode cX6_tear 18 = .ok (.aload_n 0, 1) := by decide +kernel
theorem dX6_tear_19 : decode cX6_tear 19 = .ok (.iconst 1, 1) := by decide +kernel
theorem dX6_tear_20 : decode cX6_tear 20 = .ok (.invokevirtual 85, 3) := by decide +kernel
theorem dX6_tear_23 : decode cX6_tear 23 = .ok (.ireturn, 1) := by decide +kernel
theorem dX6_tear_24 : decode cX6_tear 24 = .ok (.aload_n 0, 1) := by decide +kernel
theorem dX6_tear_25 : decode cX6_tear 25 = .ok (.getfield 7, 3) := by decide +kernel
theorem dX6_tear_28 : decode cX6_tear 28 = .ok (.iload_n 1, 1) := by decide +kernel
theorem dX6_tear_29 : decode cX6_tear 29 = .ok (.iconst (-1), 1) := by decide +kernel
theorem dX6_tear_30 : decode cX6_tear 30 = .ok (.iastore, 1) := by decide +kernel
theorem dX6_tear_31 : decode cX6_tear 31 = .ok (.iconst 1, 1) := by decide +kernel
theorem dX6_tear_32 : decode cX6_tear 32 = .ok (.ireturn, 1) := by decide +kernel
set_option maxRecDepth 20000 in
theorem ggX6_copy_X6_isRow : GoodIn wsX6_copy wsX6_isRow := goodIn_r _ [6, 7, 8, 9, 5, 10] (by decide +kernel) (by decide +kernel)
set_option maxRecDepth 20000 in
theorem gX6_copy_X6_isRow : GoodIn wsX6_copy (va_wsS RX6 81 yX6_isRow wsX6_isRow) := goodIn_app (goodIn_of _ (by decide +kernel)) ggX6_copy_X6_isRow
set_option maxRecDepth 20000 in
theorem ggX6_copy_X6_found : GoodIn wsX6_copy wsX6_found := goodIn_r _ [14, 15, 16, 17, 18, 19, 20, 21, 22, 23, 24, 25, 26, 27, 28, 29, 30, 31, 32, 33, 34, 35, 36, 37, 38, 39, 40, 41, 42, 43] (by decide +kernel) (by decide +kernel)
set_option maxRecDepth 20000 in
theorem gX6_copy_X6_found : GoodIn wsX6_copy (wsV RX6 85 RX6 yX6_found wsX6_found) := goodIn_app (goodIn_of _ (by decide +kernel)) ggX6_copy_X6_found
theorem dX6_copy_0 : decode cX6_copy 0 = .ok (.iload_n 1, 1) := by decide +kernel
theorem dX6_copy_1 : decode cX6_copy 1 = .ok (.invokestatic 81, 3) := by decide +kernel
theorem dX6_copy_4 : decode cX6_copy 4 = .ok (.ifCond .eq 10, 3) := by decide +kernel
theorem dX6_copy_7 : decode cX6_copy 7 = .ok (.iload_n 3, 1) := by decide +kernel
theorem dX6_copy_8 : decode cX6_copy 8 = .ok (.invokestatic 81, 3) := by decide +kernel
theorem dX6_copy_11 : decode cX6_copy 11 = .ok (.ifCond .ne 5, 3) := by decide +kernel
theorem dX6_copy_14 : decode cX6_copy 14 = .ok (.iconst (-1), 1) := by decide +kernel
theorem dX6_copy_15 : decode cX6_copy 15 = .ok (.ireturn, 1) := by decide +kernel
theorem dX6_copy_16 : decode cX6_copy 16 = .ok (.iload 5, 2) := by decide +kernel
theorem dX6_copy_18 : decode cX6_copy 18 = .ok (.ifCond .ge 9, 3) := by decide +kernel
theorem dX6_copy_21 : decode cX6_copy 21 = .ok (.aload_n 0, 1) := by decide +kernel
theorem dX6_copy_22 : decode cX6_copy 22 = .ok (.iconst 5, 1) := by decide +kernel
theorem dX6_copy_23 : decode cX6_copy 23 = .ok (.invokevirtual 85, 3) := by decide +kernel
theorem dX6_copy_26 : decode cX6_copy 26 = .ok (.ireturn, 1) := by decide +kernel
theorem dX6_copy_27 : decode cX6_copy 27 = .ok (.aload_n 0, 1) := by decide +kernel
theorem dX6_copy_28 : decode cX6_copy 28 = .ok (.getfield 7, 3) := by decide +kernel
theorem dX6_copy_31 : decode cX6_copy 31 = .ok (.iload_n 1, 1) := by decide +kernel
theorem dX6_copy_32 : decode cX6_copy 32 = .ok (.iaload, 1) := by decide +kernel
theorem dX6_copy_33 : decode cX6_copy 33 = .ok (.ifCond .lt 12, 3) := by decide +kernel
theorem dX6_copy_36 : decode cX6_copy 36 = .ok (.aload_n 0, 1) := by decide +kernel
theorem dX6_copy_37 : decode cX6_copy 37 = .ok (.getfield 7, 3) := by decide +kernel
theorem dX6_copy_40 : decode cX6_copy 40 = .ok (.iload_n 3, 1) := by decide +kernel
theorem dX6_copy_41 : decode cX6_copy 41 = .ok (.iaload, 1) := by decide +kernel
theorem dX6_copy_42 : decode cX6_copy 42 = .ok (.ifCond .ge 9, 3) := by decide +kernel
theorem dX6_copy_45 : decode cX6_copy 45 = .ok (.aload_n 0, 1) := by decide +kernel
theorem dX6_copy_46 : decode cX6_copy 46 = .ok (.iconst 1, 1) := by decide +kernel
theorem dX6_copy_47 : decode cX6_copy 47 = .ok (.invokevirtual 85, 3) := by decide +kernel
theorem dX6_copy_50 : decode cX6_copy 50 = .ok (.ireturn, 1) := by decide +kernel
theorem dX6_copy_51 : decode cX6_copy 51 = .ok (.iload_n 2, 1) := by decide +kernel
theorem dX6_copy_52 : decode cX6_copy 52 = .ok (.ifCond .lt 43, 3) := by decide +kernel
theorem dX6_copy_55 : decode cX6_copy 55 = .ok (.iload 4, 2) := by decide +kernel
theorem dX6_copy_57 : decode cX6_copy 57 = .ok (.ifCond .lt 38, 3) := by decide +kernel
theorem dX6_copy_60 : decode cX6_copy 60 = .ok (.iload_n 2, 1) := by decide +kernel
theorem dX6_copy_61 : decode cX6_copy 61 = .ok (.i2l, 1) := by decide +kernel
theorem dX6_copy_62 : decode cX6_copy 62 = .ok (.iload 5, 2) := by decide +kernel
theorem dX6_copy_64 : decode cX6_copy 64 = .ok (.i2l, 1) := by decide +kernel
theorem dX6_copy_65 : decode cX6_copy 65 = .ok (.ladd, 1) := by decide +kernel
theorem dX6_copy_66 : decode cX6_copy 66 = .ok (.aload_n 0, 1) := by decide +kernel
theorem dX6_copy_67 : decode cX6_copy 67 = .ok (.getfield 7, 3) := by decide +kernel
theorem dX6_copy_70 : decode cX6_copy 70 = .ok (.iload_n 1, 1) := by decide +kernel
theorem dX6_copy_71 : decode cX6_copy 71 = .ok (.iaload, 1) := by decide +kernel
theorem dX6_copy_72 : decode cX6_copy 72 = .ok (.i2l, 1) := by decide +kernel
theorem dX6_copy_73 : decode cX6_copy 73 = .ok (.lcmp, 1) := by decide +kernel
theorem dX6_copy_74 : decode cX6_copy 74 = .ok (.ifCond .gt 21, 3) := by decide +kernel
theorem dX6_copy_77 : decode cX6_copy 77 = .ok (.iload 4, 2) := by decide +kernel
theorem dX6_copy_79 : decode cX6_copy 79 = .ok (.i2l, 1) := by decide +kernel
theorem dX6_copy_80 : decode cX6_copy 80 = .ok (.iload 5, 2) := by decide +kernel
theorem dX6_copy_82 : decode cX6_copy 82 = .ok (.i2l, 1) := by decide +kernel
theorem dX6_copy_83 : decode cX6_copy 83 = .ok (.ladd, 1) := by decide +kernel
theorem dX6_copy_84 : decode cX6_copy 84 = .ok (.aload_n 0, 1) := by decide +kernel
theorem dX6_copy_85 : decode cX6_copy 85 = .ok (.getfield 7, 3) := by decide +kernel
theorem dX6_copy_88 : decode cX6_copy 88 = .ok (.iload_n 3, 1) := by decide +kernel
theorem dX6_copy_89 : decode cX6_copy 89 = .ok (.iaload, 1) := by decide +kernel
theorem dX6_copy_90 : decode cX6_copy 90 = .ok (.i2l, 1) := by decide +kernel
theorem dX6_copy_91 : decode cX6_copy 91 = .ok (.lcmp, 1) := by decide +kernel
theorem dX6_copy_92 : decode cX6_copy 92 = .ok (.ifCond .le 9, 3) := by decide +kernel
theorem dX6_copy_95 : decode cX6_copy 95 = .ok (.aload_n 0, 1) := by decide +kernel
theorem dX6_copy_96 : decode cX6_copy 96 = .ok (.iconst 2, 1) := by decide +kernel
theorem dX6_copy_97 : decode cX6_copy 97 = .ok (.invokevirtual 85, 3) := by decide +kernel
theorem dX6_copy_100 : decode cX6_copy 100 = .ok (.ireturn, 1) := by decide +kernel
theorem dX6_copy_101 : decode cX6_copy 101 = .ok (.iconst 0, 1) := by decide +kernel
theorem dX6_copy_102 : decode cX6_copy 102 = .ok (.istore 6, 2) := by decide +kernel
theorem dX6_copy_104 : decode cX6_copy 104 = .ok (.iload 6, 2) := by decide +kernel
theorem dX6_copy_106 : decode cX6_copy 106 = .ok (.iload 5, 2) := by decide +kernel
theorem dX6_copy_108 : decode cX6_copy 108 = .ok (.if_icmp .ge 58, 3) := by decide +kernel
theorem dX6_copy_111 : decode cX6_copy 111 = .ok (.iload 4, 2) := by decide +kernel
theorem dX6_copy_113 : decode cX6_copy 113 = .ok (.iload_n 2, 1) := by decide +kernel
theorem dX6_copy_114 : decode cX6_copy 114 = .ok (.if_icmp .le 13, 3) := by decide +kernel
theorem dX6_copy_117 : decode cX6_copy 117 = .ok (.iload 5, 2) := by decide +kernel
theorem dX6_copy_119 : decode cX6_copy 119 = .ok (.iconst 1, 1) := by decide +kernel
theorem dX6_copy_120 : decode cX6_copy 120 = .ok (.isub, 1) := by decide +kernel
theorem dX6_copy_121 : decode cX6_copy 121 = .ok (.iload 6, 2) := by decide +kernel
theorem dX6_copy_123 : decode cX6_copy 123 = .ok (.isub, 1) := by decide +kernel
theorem dX6_copy_124 : decode cX6_copy 124 = .ok (.goto 5, 3) := by decide +kernel
theorem dX6_copy_127 : decode cX6_copy 127 = .ok (.iload 6, 2) := by decide +kernel
theorem dX6_copy_129 : decode cX6_copy 129 = .ok (.istore 7, 2) := by decide +kernel
theorem dX6_copy_131 : decode cX6_copy 131 = .ok (.aload_n 0, 1) := by decide +kernel
theorem dX6_copy_132 : decode cX6_copy 132 = .ok (.getfield 13, 3) := by decide +kernel
theorem dX6_copy_135 : decode cX6_copy 135 = .ok (.bipush 40, 2) := by decide +kernel
theorem dX6_copy_137 : decode cX6_copy 137 = .ok (.iload_n 3, 1) := by decide +kernel
theorem dX6_copy_138 : decode cX6_copy 138 = .ok (.imul, 1) := by decide +kernel
theorem dX6_copy_139 : decode cX6_copy 139 = .ok (.iload 4, 2) := by decide +kernel
theorem dX6_copy_141 : decode cX6_copy 141 = .ok (.iadd, 1) := by decide +kernel
theorem dX6_copy_142 : decode cX6_copy 142 = .ok (.iload 7, 2) := by decide +kernel
theorem dX6_copy_144 : decode cX6_copy 144 = .ok (.iadd, 1) := by decide +kernel
theorem dX6_copy_145 : decode cX6_copy 145 = .ok (.aload_n 0, 1) := by decide +kernel
theorem dX6_copy_146 : decode cX6_copy 146 = .ok (.getfield 13, 3) := by decide +kernel
theorem dX6_copy_149 : decode cX6_copy 149 = .ok (.bipush 40, 2) := by decide +kernel
theorem dX6_copy_151 : decode cX6_copy 151 = .ok (.iload_n 1, 1) := by decide +kernel
theorem dX6_copy_152 : decode cX6_copy 152 = .ok (.imul, 1) := by decide +kernel
theorem dX6_copy_153 : decode cX6_copy 153 = .ok (.iload_n 2, 1) := by decide +kernel
theorem dX6_copy_154 : decode cX6_copy 154 = .ok (.iadd, 1) := by decide +kernel
theorem dX6_copy_155 : decode cX6_copy 155 = .ok (.iload 7, 2) := by decide +kernel
theorem dX6_copy_157 : decode cX6_copy 157 = .ok (.iadd, 1) := by decide +kernel
theorem dX6_copy_158 : decode cX6_copy 158 = .ok (.iaload, 1) := by decide +kernel
theorem dX6_copy_159 : decode cX6_copy 159 = .ok (.iastore, 1) := by decide +kernel
theorem dX6_copy_160 : decode cX6_copy 160 = .ok (.iinc 6 1, 3) := by decide +kernel
theorem dX6_copy_163 : decode cX6_copy 163 = .ok (.goto (-59), 3) := by decide +kernel
theorem dX6_copy_166 : decode cX6_copy 166 = .ok (.iconst 1, 1) := by decide +kernel
theorem dX6_copy_167 : decode cX6_copy 167 = .ok (.ireturn, 1) := by decide +kernel
set_option maxRecDepth 20000 in
theorem ggX6_mean_X6_isRow : GoodIn wsX6_mean wsX6_isRow := goodIn_r _ [6, 7, 8, 9, 5, 10] (by decide +kernel) (by decide +kernel)
set_option maxRecDepth 20000 in
theorem gX6_mean_X6_isRow : GoodIn wsX6_mean (va_wsS RX6 81 yX6_isRow wsX6_isRow) := goodIn_app (goodIn_of _ (by decide +kernel)) ggX6_mean_X6_isRow
set_option maxRecDepth 20000 in
theorem ggX6_mean_X6_found : GoodIn wsX6_mean wsX6_found := goodIn_r _ [14, 15, 16, 22, 23, 24, 25, 26, 27, 28, 29, 30, 31, 32, 33, 34, 35, 36, 37, 38, 39, 40, 41, 42, 43, 44, 45, 46, 47, 48] (by decide +kernel) (by decide +kernel)
set_option maxRecDepth 20000 in
theorem gX6_mean_X6_found : GoodIn wsX6_mean (wsV RX6 85 RX6 yX6_found wsX6_found) := goodIn_app (goodIn_of _ (by decide +kernel)) ggX6_mean_X6_found
set_option maxRecDepth 20000 in
theorem ggX6_mean_X6_tell : GoodIn wsX6_mean wsX6_tell := goodIn_r _ [20, 21, 22, 23, 24, 25, 26, 27, 28, 29, 30, 31, 32, 33, 34, 35, 36, 37, 38, 39, 40, 41, 42, 43, 44, 45, 46, 47, 48] (by decide +kernel) (by decide +kernel)
set_option maxRecDepth 20000 in
theorem gX6_mean_X6_tell : GoodIn wsX6_mean (wsV RX6 89 RX6 yX6_tell wsX6_tell) := goodIn_app (goodIn_of _ (by decide +kernel)) ggX6_mean_X6_tell
theorem dX6_mean_0 : decode cX6_mean 0 = .ok (.iload_n 1, 1) := by decide +kernel
theorem dX6_mean_1 : decode cX6_mean 1 = .ok (.invokestatic 81, 3) := by decide +kernel
theorem dX6_mean_4 : decode cX6_mean 4 = .ok (.ifCond .ne 5, 3) := by decide +kernel
theorem dX6_mean_7 : decode cX6_mean 7 = .ok (.iconst (-1), 1) := by decide +kernel
theorem dX6_mean_8 : decode cX6_mean 8 = .ok (.ireturn, 1) := by decide +kernel
theorem dX6_mean_9 : decode cX6_mean 9 = .ok (.aload_n 0, 1) := by decide +kernel
theorem dX6_mean_10 : decode cX6_mean 10 = .ok (.getfield 7, 3) := by decide +kernel
theorem dX6_mean_13 : decode cX6_mean 13 = .ok (.iload_n 1, 1) := by decide +kernel
theorem dX6_mean_14 : decode cX6_mean 14 = .ok (.iaload, 1) := by decide +kernel
theorem dX6_mean_15 : decode cX6_mean 15 = .ok (.ifCond .ge 9, 3) := by decide +kernel
theorem dX6_mean_18 : decode cX6_mean 18 = .ok (.aload_n 0, 1) := by decide +kernel
theorem dX6_mean_19 : decode cX6_mean 19 = .ok (.iconst 1, 1) := by decide +kernel
theorem dX6_mean_20 : decode cX6_mean 20 = .ok (.invokevirtual 85, 3) := by decide +kernel
theorem dX6_mean_23 : decode cX6_mean 23 = .ok (.ireturn, 1) := by decide +kernel
theorem dX6_mean_24 : decode cX6_mean 24 = .ok (.aload_n 0, 1) := by decide +kernel
theorem dX6_mean_25 : decode cX6_mean 25 = .ok (.getfield 7, 3) := by decide +kernel
theorem dX6_mean_28 : decode cX6_mean 28 = .ok (.iload_n 1, 1) := by decide +kernel
theorem dX6_mean_29 : decode cX6_mean 29 = .ok (.iaload, 1) := by decide +kernel
theorem dX6_mean_30 : decode cX6_mean 30 = .ok (.ifCond .ne 9, 3) := by decide +kernel
theorem dX6_mean_33 : decode cX6_mean 33 = .ok (.aload_n 0, 1) := by decide +kernel
theorem dX6_mean_34 : decode cX6_mean 34 = .ok (.iconst 4, 1) := by decide +kernel
theorem dX6_mean_35 : decode cX6_mean 35 = .ok (.invokevirtual 85, 3) := by decide +kernel
theorem dX6_mean_38 : decode cX6_mean 38 = .ok (.ireturn, 1) := by decide +kernel
theorem dX6_mean_39 : decode cX6_mean 39 = .ok (.lconst 0, 1) := by decide +kernel
theorem dX6_mean_40 : decode cX6_mean 40 = .ok (.lstore_n 2, 1) := by decide +kernel
theorem dX6_mean_41 : decode cX6_mean 41 = .ok (.iconst 0, 1) := by decide +kernel
theorem dX6_mean_42 : decode cX6_mean 42 = .ok (.istore 4, 2) := by decide +kernel
theorem dX6_mean_44 : decode cX6_mean 44 = .ok (.iload 4, 2) := by decide +kernel
theorem dX6_mean_46 : decode cX6_mean 46 = .ok (.aload_n 0, 1) := by decide +kernel
theorem dX6_mean_47 : decode cX6_mean 47 = .ok (.getfield 7, 3) := by decide +kernel
theorem dX6_mean_50 : decode cX6_mean 50 = .ok (.iload_n 1, 1) := by decide +kernel
theorem dX6_mean_51 : decode cX6_mean 51 = .ok (.iaload, 1) := by decide +kernel
theorem dX6_mean_52 : decode cX6_mean 52 = .ok (.if_icmp .ge 25, 3) := by decide +kernel
theorem dX6_mean_55 : decode cX6_mean 55 = .ok (.lload_n 2, 1) := by decide +kernel
theorem dX6_mean_56 : decode cX6_mean 56 = .ok (.aload_n 0, 1) := by decide +kernel
theorem dX6_mean_57 : decode cX6_mean 57 = .ok (.getfield 13, 3) := by decide +kernel
theorem dX6_mean_60 : decode cX6_mean 60 = .ok (.bipush 40, 2) := by decide +kernel
theorem dX6_mean_62 : decode cX6_mean 62 = .ok (.iload_n 1, 1) := by decide +kernel
theorem dX6_mean_63 : decode cX6_mean 63 = .ok (.imul, 1) := by decide +kernel
theorem dX6_mean_64 : decode cX6_mean 64 = .ok (.iload 4, 2) := by decide +kernel
theorem dX6_mean_66 : decode cX6_mean 66 = .ok (.iadd, 1) := by decide +kernel
theorem dX6_mean_67 : decode cX6_mean 67 = .ok (.iaload, 1) := by decide +kernel
theorem dX6_mean_68 : decode cX6_mean 68 = .ok (.i2l, 1) := by decide +kernel
theorem dX6_mean_69 : decode cX6_mean 69 = .ok (.ladd, 1) := by decide +kernel
theorem dX6_mean_70 : decode cX6_mean 70 = .ok (.lstore_n 2, 1) := by decide +kernel
theorem dX6_mean_71 : decode cX6_mean 71 = .ok (.iinc 4 1, 3) := by decide +kernel
theorem dX6_mean_74 : decode cX6_mean 74 = .ok (.goto (-30), 3) := by decide +kernel
theorem dX6_mean_77 : decode cX6_mean 77 = .ok (.aload_n 0, 1) := by decide +kernel
theorem dX6_mean_78 : decode cX6_mean 78 = .ok (.lload_n 2, 1) := by decide +kernel
theorem dX6_mean_79 : decode cX6_mean 79 = .ok (.aload_n 0, 1) := by decide +kernel
theorem dX6_mean_80 : decode cX6_mean 80 = .ok (.getfield 7, 3) := by decide +kernel
theorem dX6_mean_83 : decode cX6_mean 83 = .ok (.iload_n 1, 1) := by decide +kernel
theorem dX6_mean_84 : decode cX6_mean 84 = .ok (.iaload, 1) := by decide +kernel
theorem dX6_mean_85 : decode cX6_mean 85 = .ok (.i2l, 1) := by decide +kernel
theorem dX6_mean_86 : decode cX6_mean 86 = .ok (.ldiv, 1) := by decide +kernel
theorem dX6_mean_87 : decode cX6_mean 87 = .ok (.l2i, 1) := by decide +kernel
theorem dX6_mean_88 : decode cX6_mean 88 = .ok (.invokevirtual 89, 3) := by decide +kernel
theorem dX6_mean_91 : decode cX6_mean 91 = .ok (.ireturn, 1) := by decide +kernel
set_option maxRecDepth 20000 in
theorem ggX6_text_X6_isText : GoodIn wsX6_text wsX6_isText := goodIn_r _ [6, 7, 8, 9, 5, 10] (by decide +kernel) (by decide +kernel)
set_option maxRecDepth 20000 in
theorem gX6_text_X6_isText : GoodIn wsX6_text (va_wsS RX6 92 yX6_isText wsX6_isText) := goodIn_app (goodIn_of _ (by decide +kernel)) ggX6_text_X6_isText
set_option maxRecDepth 20000 in
theorem ggX6_text_X6_found : GoodIn wsX6_text wsX6_found := goodIn_r _ [14, 15, 16, 17, 18, 19, 20, 21, 22, 23, 24, 25, 26, 27, 28, 29, 30, 31, 32, 33, 34, 35, 36, 37, 38, 39, 40, 41, 42, 43] (by decide +kernel) (by decide +kernel)
set_option maxRecDepth 20000 in
theorem gX6_text_X6_found : GoodIn wsX6_text (wsV RX6 85 RX6 yX6_found wsX6_found) := goodIn_app (goodIn_of _ (by decide +kernel)) ggX6_text_X6_found
theorem dX6_text_0 : decode cX6_text 0 = .ok (.iload_n 1, 1) := by decide +kernel
theorem dX6_text_1 : decode cX6_text 1 = .ok (.invokestatic 92, 3) := by decide +kernel
theorem dX6_text_4 : decode cX6_text 4 = .ok (.ifCond .eq 9, 3) := by decide +kernel
theorem dX6_text_7 : decode cX6_text 7 = .ok (.iload_n 2, 1) := by decide +kernel
theorem dX6_text_8 : decode cX6_text 8 = .ok (.bipush 80, 2) := by decide +kernel
theorem dX6_text_10 : decode cX6_text 10 = .ok (.if_icmp .le 5, 3) := by decide +kernel
theorem dX6_text_13 : decode cX6_text 13 = .ok (.iconst (-1), 1) := by decide +kernel
theorem dX6_text_14 : decode cX6_text 14 = .ok (.ireturn, 1) := by decide +kernel
theorem dX6_text_15 : decode cX6_text 15 = .ok (.iload_n 2, 1) := by decide +kernel
theorem dX6_text_16 : decode cX6_text 16 = .ok (.ifCond .ge 9, 3) := by decide +kernel
theorem dX6_text_19 : decode cX6_text 19 = .ok (.aload_n 0, 1) := by decide +kernel
theorem dX6_text_20 : decode cX6_text 20 = .ok (.iconst 5, 1) := by decide +kernel
theorem dX6_text_21 : decode cX6_text 21 = .ok (.invokevirtual 85, 3) := by decide +kernel
theorem dX6_text_24 : decode cX6_text 24 = .ok (.ireturn, 1) := by decide +kernel
theorem dX6_text_25 : decode cX6_text 25 = .ok (.aload_n 0, 1) := by decide +kernel
theorem dX6_text_26 : decode cX6_text 26 = .ok (.getfield 16, 3) := by decide +kernel
theorem dX6_text_29 : decode cX6_text 29 = .ok (.iload_n 1, 1) := by decide +kernel
theorem dX6_text_30 : decode cX6_text 30 = .ok (.iload_n 2, 1) := by decide +kernel
theorem dX6_text_31 : decode cX6_text 31 = .ok (.iastore, 1) := by decide +kernel
theorem dX6_text_32 : decode cX6_text 32 = .ok (.iconst 0, 1) := by decide +kernel
theorem dX6_text_33 : decode cX6_text 33 = .ok (.istore_n 3, 1) := by decide +kernel
theorem dX6_text_34 : decode cX6_text 34 = .ok (.iload_n 3, 1) := by decide +kernel
theorem dX6_text_35 : decode cX6_text 35 = .ok (.bipush 80, 2) := by decide +kernel
theorem dX6_text_37 : decode cX6_text 37 = .ok (.if_icmp .ge 22, 3) := by decide +kernel
theorem dX6_text_40 : decode cX6_text 40 = .ok (.aload_n 0, 1) := by decide +kernel
theorem dX6_text_41 : decode cX6_text 41 = .ok (.getfield 19, 3) := by decide +kernel
theorem dX6_text_44 : decode cX6_text 44 = .ok (.bipush 80, 2) := by decide +kernel
theorem dX6_text_46 : decode cX6_text 46 = .ok (.iload_n 1, 1) := by decide +kernel
theorem dX6_text_47 : decode cX6_text 47 = .ok (.imul, 1) := by decide +kernel
theorem dX6_text_48 : decode cX6_text 48 = .ok (.iload_n 3, 1) := by decide +kernel
theorem dX6_text_49 : decode cX6_text 49 = .ok (.iadd, 1) := by decide +kernel
theorem dX6_text_50 : decode cX6_text 50 = .ok (.bipush 32, 2) := by decide +kernel
theorem dX6_text_52 : decode cX6_text 52 = .ok (.iastore, 1) := by decide +kernel
theorem dX6_text_53 : decode cX6_text 53 = .ok (.iinc 3 1, 3) := by decide +kernel
theorem dX6_text_56 : decode cX6_text 56 = .ok (.goto (-22), 3) := by decide +kernel
theorem dX6_text_59 : decode cX6_text 59 = .ok (.iload_n 2, 1) := by decide +kernel
theorem dX6_text_60 : decode cX6_text 60 = .ok (.ireturn, 1) := by decide +kernel
set_option maxRecDepth 20000 in
theorem ggX6_put_X6_isText : GoodIn wsX6_put wsX6_isText := goodIn_r _ [6, 7, 8, 9, 5, 10] (by decide +kernel) (by decide +kernel)
set_option maxRecDepth 20000 in
theorem gX6_put_X6_isText : GoodIn wsX6_put (va_wsS RX6 92 yX6_isText wsX6_isText) := goodIn_app (goodIn_of _ (by decide +kernel)) ggX6_put_X6_isText
set_option maxRecDepth 20000 in
theorem ggX6_put_X6_found : GoodIn wsX6_put wsX6_found := goodIn_r _ [14, 15, 16, 17, 18, 19, 20, 21, 22, 23, 24, 25, 26, 27, 28, 29, 30, 31, 32, 33, 34, 35, 36, 37, 38, 39, 40, 41, 42, 43] (by decide +kernel) (by decide +kernel)
set_option maxRecDepth 20000 in
theorem gX6_put_X6_found : GoodIn wsX6_put (wsV RX6 85 RX6 yX6_found wsX6_found) := goodIn_app (goodIn_of _ (by decide +kernel)) ggX6_put_X6_found
set_option maxRecDepth 20000 in
theorem ggX6_put_X6_in : GoodIn wsX6_put wsX6_in := goodIn_r _ [10] (by decide +kernel) (by decide +kernel)
set_option maxRecDepth 20000 in
theorem gX6_put_X6_in : GoodIn wsX6_put (va_wsS RX6 75 yX6_in wsX6_in) := goodIn_app (goodIn_of _ (by decide +kernel)) ggX6_put_X6_in
theorem dX6_put_0 : decode cX6_put 0 = .ok (.iload_n 1, 1) := by decide +kernel
theorem dX6_put_1 : decode cX6_put 1 = .ok (.invokestatic 92, 3) := by decide +kernel
theorem dX6_put_4 : decode cX6_put 4 = .ok (.ifCond .ne 5, 3) := by decide +kernel
theorem dX6_put_7 : decode cX6_put 7 = .ok (.iconst (-1), 1) := by decide +kernel
theorem dX6_put_8 : decode cX6_put 8 = .ok (.ireturn, 1) := by decide +kernel
theorem dX6_put_9 : decode cX6_put 9 = .ok (.aload_n 0, 1) := by decide +kernel
theorem dX6_put_10 : decode cX6_put 10 = .ok (.getfield 16, 3) := by decide +kernel
theorem dX6_put_13 : decode cX6_put 13 = .ok (.iload_n 1, 1) := by decide +kernel
theorem dX6_put_14 : decode cX6_put 14 = .ok (.iaload, 1) := by decide +kernel
theorem dX6_put_15 : decode cX6_put 15 = .ok (.ifCond .ge 9, 3) := by decide +kernel
theorem dX6_put_18 : decode cX6_put 18 = .ok (.aload_n 0, 1) := by decide +kernel
theorem dX6_put_19 : decode cX6_put 19 = .ok (.iconst 1, 1) := by decide +kernel
theorem dX6_put_20 : decode cX6_put 20 = .ok (.invokevirtual 85, 3) := by decide +kernel
theorem dX6_put_23 : decode cX6_put 23 = .ok (.ireturn, 1) := by decide +kernel
theorem dX6_put_24 : decode cX6_put 24 = .ok (.iload_n 2, 1) := by decide +kernel
theorem dX6_put_25 : decode cX6_put 25 = .ok (.i2l, 1) := by decide +kernel
theorem dX6_put_26 : decode cX6_put 26 = .ok (.lconst 0, 1) := by decide +kernel
theorem dX6_put_27 : decode cX6_put 27 = .ok (.aload_n 0, 1) := by decide +kernel
theorem dX6_put_28 : decode cX6_put 28 = .ok (.getfield 16, 3) := by decide +kernel
theorem dX6_put_31 : decode cX6_put 31 = .ok (.iload_n 1, 1) := by decide +kernel
theorem dX6_put_32 : decode cX6_put 32 = .ok (.iaload, 1) := by decide +kernel
theorem dX6_put_33 : decode cX6_put 33 = .ok (.iconst 1, 1) := by decide +kernel
theorem dX6_put_34 : decode cX6_put 34 = .ok (.isub, 1) := by decide +kernel
theorem dX6_put_35 : decode cX6_put 35 = .ok (.i2l, 1) := by decide +kernel
theorem dX6_put_36 : decode cX6_put 36 = .ok (.invokestatic 75, 3) := by decide +kernel
theorem dX6_put_39 : decode cX6_put 39 = .ok (.ifCond .ne 9, 3) := by decide +kernel
theorem dX6_put_42 : decode cX6_put 42 = .ok (.aload_n 0, 1) := by decide +kernel
theorem dX6_put_43 : decode cX6_put 43 = .ok (.iconst 2, 1) := by decide +kernel
theorem dX6_put_44 : decode cX6_put 44 = .ok (.invokevirtual 85, 3) := by decide +kernel
theorem dX6_put_47 : decode cX6_put 47 = .ok (.ireturn, 1) := by decide +kernel
theorem dX6_put_48 : decode cX6_put 48 = .ok (.aload_n 0, 1) := by decide +kernel
theorem dX6_put_49 : decode cX6_put 49 = .ok (.getfield 19, 3) := by decide +kernel
theorem dX6_put_52 : decode cX6_put 52 = .ok (.bipush 80, 2) := by decide +kernel
theorem dX6_put_54 : decode cX6_put 54 = .ok (.iload_n 1, 1) := by decide +kernel
theorem dX6_put_55 : decode cX6_put 55 = .ok (.imul, 1) := by decide +kernel
theorem dX6_put_56 : decode cX6_put 56 = .ok (.iload_n 2, 1) := by decide +kernel
theorem dX6_put_57 : decode cX6_put 57 = .ok (.iadd, 1) := by decide +kernel
theorem dX6_put_58 : decode cX6_put 58 = .ok (.iaload, 1) := by decide +kernel
theorem dX6_put_59 : decode cX6_put 59 = .ok (.istore 4, 2) := by decide +kernel
theorem dX6_put_61 : decode cX6_put 61 = .ok (.aload_n 0, 1) := by decide +kernel
theorem dX6_put_62 : decode cX6_put 62 = .ok (.getfield 19, 3) := by decide +kernel
theorem dX6_put_65 : decode cX6_put 65 = .ok (.bipush 80, 2) := by decide +kernel
theorem dX6_put_67 : decode cX6_put 67 = .ok (.iload_n 1, 1) := by decide +kernel
theorem dX6_put_68 : decode cX6_put 68 = .ok (.imul, 1) := by decide +kernel
theorem dX6_put_69 : decode cX6_put 69 = .ok (.iload_n 2, 1) := by decide +kernel
theorem dX6_put_70 : decode cX6_put 70 = .ok (.iadd, 1) := by decide +kernel
theorem dX6_put_71 : decode cX6_put 71 = .ok (.iload_n 3, 1) := by decide +kernel
theorem dX6_put_72 : decode cX6_put 72 = .ok (.i2b, 1) := by decide +kernel
theorem dX6_put_73 : decode cX6_put 73 = .ok (.iastore, 1) := by decide +kernel
theorem dX6_put_74 : decode cX6_put 74 = .ok (.iload 4, 2) := by decide +kernel
theorem dX6_put_76 : decode cX6_put 76 = .ok (.sipush 1000, 3) := by decide +kernel
theorem dX6_put_79 : decode cX6_put 79 = .ok (.iadd, 1) := by decide +kernel
theorem dX6_put_80 : decode cX6_put 80 = .ok (.ireturn, 1) := by decide +kernel
theorem dX6_byteAt_0 : decode cX6_byteAt 0 = .ok (.aload_n 0, 1) := by decide +kernel
theorem dX6_byteAt_1 : decode cX6_byteAt 1 = .ok (.getfield 95, 3) := by decide +kernel
theorem dX6_byteAt_4 : decode cX6_byteAt 4 = .ok (.aload_n 0, 1) := by decide +kernel
theorem dX6_byteAt_5 : decode cX6_byteAt 5 = .ok (.getfield 16, 3) := by decide +kernel
theorem dX6_byteAt_8 : decode cX6_byteAt 8 = .ok (.iload_n 1, 1) := by decide +kernel
theorem dX6_byteAt_9 : decode cX6_byteAt 9 = .ok (.iaload, 1) := by decide +kernel
theorem dX6_byteAt_10 : decode cX6_byteAt 10 = .ok (.if_icmp .ge 20, 3) := by decide +kernel
theorem dX6_byteAt_13 : decode cX6_byteAt 13 = .ok (.aload_n 0, 1) := by decide +kernel
theorem dX6_byteAt_14 : decode cX6_byteAt 14 = .ok (.getfield 19, 3) := by decide +kernel
theorem dX6_byteAt_17 : decode cX6_byteAt 17 = .ok (.bipush 80, 2) := by decide +kernel
theorem dX6_byteAt_19 : decode cX6_byteAt 19 = .ok (.iload_n 1, 1) := by decide +kernel
theorem dX6_byteAt_20 : decode cX6_byteAt 20 = .ok (.imul, 1) := by decide +kernel
theorem dX6_byteAt_21 : decode cX6_byteAt 21 = .ok (.aload_n 0, 1) := by decide +kernel
theorem dX6_byteAt_22 : decode cX6_byteAt 22 = .ok (.getfield 95, 3) := by decide +kernel
theorem dX6_byteAt_25 : decode cX6_byteAt 25 = .ok (.iadd, 1) := by decide +kernel
theorem dX6_byteAt_26 : decode cX6_byteAt 26 = .ok (.iaload, 1) := by decide +kernel
theorem dX6_byteAt_27 : decode cX6_byteAt 27 = .ok (.goto 6, 3) := by decide +kernel
theorem dX6_byteAt_30 : decode cX6_byteAt 30 = .ok (.sipush (-1000), 3) := by decide +kernel
theorem dX6_byteAt_33 : decode cX6_byteAt 33 = .ok (.ireturn, 1) := by decide +kernel
set_option maxRecDepth 20000 in
theorem ggX6_takes_X6_byteAt : GoodIn wsX6_takes wsX6_byteAt := goodIn_r _ [7, 2, 8, 9, 13, 14, 15, 16, 17, 18, 19, 20, 21, 22, 23, 24, 25, 26, 27, 28, 29, 30, 31, 32, 33, 34, 35, 36, 37, 38, 39] (by decide +kernel) (by decide +kernel)
set_option maxRecDepth 20000 in
theorem gX6_takes_X6_byteAt : GoodIn wsX6_takes (wsV RX6 98 RX6 yX6_byteAt wsX6_byteAt) := goodIn_app (goodIn_of _ (by decide +kernel)) ggX6_takes_X6_byteAt
set_option maxRecDepth 20000 in
theorem ggX6_takes_X6_in : GoodIn wsX6_takes wsX6_in := goodIn_r _ [12] (by decide +kernel) (by decide +kernel)
set_option maxRecDepth 20000 in
theorem gX6_takes_X6_in : GoodIn wsX6_takes (va_wsS RX6 75 yX6_in wsX6_in) := goodIn_app (goodIn_of _ (by decide +kernel)) ggX6_takes_X6_in
theorem dX6_takes_0 : decode cX6_takes 0 = .ok (.aload_n 0, 1) := by decide +kernel
theorem dX6_takes_1 : decode cX6_takes 1 = .ok (.iload_n 1, 1) := by decide +kernel
theorem dX6_takes_2 : decode cX6_takes 2 = .ok (.invokevirtual 98, 3) := by decide +kernel
theorem dX6_takes_5 : decode cX6_takes 5 = .ok (.bipush 48, 2) := by decide +kernel
theorem dX6_takes_7 : decode cX6_takes 7 = .ok (.isub, 1) := by decide +kernel
theorem dX6_takes_8 : decode cX6_takes 8 = .ok (.istore 5, 2) := by decide +kernel
theorem dX6_takes_10 : decode cX6_takes 10 = .ok (.iload 5, 2) := by decide +kernel
theorem dX6_takes_12 : decode cX6_takes 12 = .ok (.i2l, 1) := by decide +kernel
theorem dX6_takes_13 : decode cX6_takes 13 = .ok (.iload_n 3, 1) := by decide +kernel
theorem dX6_takes_14 : decode cX6_takes 14 = .ok (.i2l, 1) := by decide +kernel
theorem dX6_takes_15 : decode cX6_takes 15 = .ok (.iload 4, 2) := by decide +kernel
theorem dX6_takes_17 : decode cX6_takes 17 = .ok (.i2l, 1) := by decide +kernel
theorem dX6_takes_18 : decode cX6_takes 18 = .ok (.invokestatic 75, 3) := by decide +kernel
theorem dX6_takes_21 : decode cX6_takes 21 = .ok (.ifCond .ne 5, 3) := by decide +kernel
theorem dX6_takes_24 : decode cX6_takes 24 = .ok (.iconst 0, 1) := by decide +kernel
theorem dX6_takes_25 : decode cX6_takes 25 = .ok (.ireturn, 1) := by decide +kernel
theorem dX6_takes_26 : decode cX6_takes 26 = .ok (.aload_n 0, 1) := by decide +kernel
theorem dX6_takes_27 : decode cX6_takes 27 = .ok (.getfield 51, 3) := by decide +kernel
theorem dX6_takes_30 : decode cX6_takes 30 = .ok (.iload_n 2, 1) := by decide +kernel
theorem dX6_takes_31 : decode cX6_takes 31 = .ok (.iload 5, 2) := by decide +kernel
theorem dX6_takes_33 : decode cX6_takes 33 = .ok (.iastore, 1) := by decide +kernel
theorem dX6_takes_34 : decode cX6_takes 34 = .ok (.aload_n 0, 1) := by decide +kernel
theorem dX6_takes_35 : decode cX6_takes 35 = .ok (.dup, 1) := by decide +kernel
theorem dX6_takes_36 : decode cX6_takes 36 = .ok (.getfield 95, 3) := by decide +kernel
theorem dX6_takes_39 : decode cX6_takes 39 = .ok (.iconst 1, 1) := by decide +kernel
theorem dX6_takes_40 : decode cX6_takes 40 = .ok (.iadd, 1) := by decide +kernel
theorem dX6_takes_41 : decode cX6_takes 41 = .ok (.putfield 95, 3) := by decide +kernel
theorem dX6_takes_44 : decode cX6_takes 44 = .ok (.iconst 1, 1) := by decide +kernel
theorem dX6_takes_45 : decode cX6_takes 45 = .ok (.ireturn, 1) := by decide +kernel
set_option maxRecDepth 20000 in
theorem ggX6_takesClause_X6_byteAt : GoodIn wsX6_takesClause wsX6_byteAt := goodIn_r _ [6, 1, 7, 8, 17, 18, 19, 20, 21, 22, 23, 24, 25, 26, 27, 28, 29, 30, 31, 32, 33, 34, 35, 36, 37, 38, 39, 40, 41, 42, 43] (by decide +kernel) (by decide +kernel)
set_option maxRecDepth 20000 in
theorem gX6_takesClause_X6_byteAt : GoodIn wsX6_takesClause (wsV RX6 98 RX6 yX6_byteAt wsX6_byteAt) := goodIn_app (goodIn_of _ (by decide +kernel)) ggX6_takesClause_X6_byteAt
set_option maxRecDepth 20000 in
theorem ggX6_takesClause_X6_takes : GoodIn wsX6_takesClause wsX6_takes := goodIn_r _ [12, 13, 1, 2, 3, 4, 5, 6, 7, 8, 14, 15, 16, 17, 18, 19, 20, 21, 22, 23, 24, 25, 26, 27, 28, 29, 30, 31, 32, 33, 34, 35, 36, 37, 38, 39, 40, 41, 42, 43] (by decide +kernel) (by decide +kernel)
set_option maxRecDepth 20000 in
theorem gX6_takesClause_X6_takes : GoodIn wsX6_takesClause (wsV RX6 101 RX6 yX6_takes wsX6_takes) := goodIn_app (goodIn_of _ (by decide +kernel)) ggX6_takesClause_X6_takes
theorem dX6_takesClause_0 : decode cX6_takesClause 0 = .ok (.aload_n 0, 1) := by decide +kernel
theorem dX6_takesClause_1 : decode cX6_takesClause 1 = .ok (.iload_n 1, 1) := by decide +kernel
theorem dX6_takesClause_2 : decode cX6_takesClause 2 = .ok (.invokevirtual 98, 3) := by decide +kernel
theorem dX6_takesClause_5 : decode cX6_takesClause 5 = .ok (.bipush 99, 2) := by decide +kernel
theorem dX6_takesClause_7 : decode cX6_takesClause 7 = .ok (.if_icmp .eq 5, 3) := by decide +kernel
theorem dX6_takesClause_10 : decode cX6_takesClause 10 = .ok (.iconst 0, 1) := by decide +kernel
theorem dX6_takesClause_11 : decode cX6_takesClause 11 = .ok (.ireturn, 1) := by decide +kernel
theorem dX6_takesClause_12 : decode cX6_takesClause 12 = .ok (.aload_n 0, 1) := by decide +kernel
theorem dX6_takesClause_13 : decode cX6_takesClause 13 = .ok (.dup, 1) := by decide +kernel
theorem dX6_takesClause_14 : decode cX6_takesClause 14 = .ok (.getfield 95, 3) := by decide +kernel
theorem dX6_takesClause_17 : decode cX6_takesClause 17 = .ok (.iconst 1, 1) := by decide +kernel
theorem dX6_takesClause_18 : decode cX6_takesClause 18 = .ok (.iadd, 1) := by decide +kernel
theorem dX6_takesClause_19 : decode cX6_takesClause 19 = .ok (.putfield 95, 3) := by decide +kernel
theorem dX6_takesClause_22 : decode cX6_takesClause 22 = .ok (.aload_n 0, 1) := by decide +kernel
theorem dX6_takesClause_23 : decode cX6_takesClause 23 = .ok (.iload_n 1, 1) := by decide +kernel
theorem dX6_takesClause_24 : decode cX6_takesClause 24 = .ok (.iconst 0, 1) := by decide +kernel
theorem dX6_takesClause_25 : decode cX6_takesClause 25 = .ok (.iconst 1, 1) := by decide +kernel
theorem dX6_takesClause_26 : decode cX6_takesClause 26 = .ok (.bipush 9, 2) := by decide +kernel
theorem dX6_takesClause_28 : decode cX6_takesClause 28 = .ok (.invokevirtual 101, 3) := by decide +kernel
theorem dX6_takesClause_31 : decode cX6_takesClause 31 = .ok (.istore_n 2, 1) := by decide +kernel
theorem dX6_takesClause_32 : decode cX6_takesClause 32 = .ok (.iconst 1, 1) := by decide +kernel
theorem dX6_takesClause_33 : decode cX6_takesClause 33 = .ok (.istore_n 3, 1) := by decide +kernel
theorem dX6_takesClause_34 : decode cX6_takesClause 34 = .ok (.iload_n 3, 1) := by decide +kernel
theorem dX6_takesClause_35 : decode cX6_takesClause 35 = .ok (.iconst 5, 1) := by decide +kernel
theorem dX6_takesClause_36 : decode cX6_takesClause 36 = .ok (.if_icmp .ge 31, 3) := by decide +kernel
theorem dX6_takesClause_39 : decode cX6_takesClause 39 = .ok (.iload_n 2, 1) := by decide +kernel
theorem dX6_takesClause_40 : decode cX6_takesClause 40 = .ok (.ifCond .eq 19, 3) := by decide +kernel
theorem dX6_takesClause_43 : decode cX6_takesClause 43 = .ok (.aload_n 0, 1) := by decide +kernel
theorem dX6_takesClause_44 : decode cX6_takesClause 44 = .ok (.iload_n 1, 1) := by decide +kernel
theorem dX6_takesClause_45 : decode cX6_takesClause 45 = .ok (.iload_n 3, 1) := by decide +kernel
theorem dX6_takesClause_46 : decode cX6_takesClause 46 = .ok (.iconst 0, 1) := by decide +kernel
theorem dX6_takesClause_47 : decode cX6_takesClause 47 = .ok (.bipush 9, 2) := by decide +kernel
theorem dX6_takesClause_49 : decode cX6_takesClause 49 = .ok (.invokevirtual 101, 3) := by decide +kernel
theorem dX6_takesClause_52 : decode cX6_takesClause 52 = .ok (.ifCond .eq 7, 3) := by decide +kernel
theorem dX6_takesClause_55 : decode cX6_takesClause 55 = .ok (.iconst 1, 1) := by decide +kernel
theorem dX6_takesClause_56 : decode cX6_takesClause 56 = .ok (.goto 4, 3) := by decide +kernel
theorem dX6_takesClause_59 : decode cX6_takesClause 59 = .ok (.iconst 0, 1) := by decide +kernel
theorem dX6_takesClause_60 : decode cX6_takesClause 60 = .ok (.istore_n 2, 1) := by decide +kernel
theorem dX6_takesClause_61 : decode cX6_takesClause 61 = .ok (.iinc 3 1, 3) := by decide +kernel
theorem dX6_takesClause_64 : decode cX6_takesClause 64 = .ok (.goto (-30), 3) := by decide +kernel
theorem dX6_takesClause_67 : decode cX6_takesClause 67 = .ok (.iload_n 2, 1) := by decide +kernel
theorem dX6_takesClause_68 : decode cX6_takesClause 68 = .ok (.ireturn, 1) := by decide +kernel
theorem dX6_kindOf_0 : decode cX6_kindOf 0 = .ok (.iload_n 0, 1) := by decide +kernel
theorem dX6_kindOf_1 : decode cX6_kindOf 1 = .ok (.bipush 103, 2) := by decide +kernel
theorem dX6_kindOf_3 : decode cX6_kindOf 3 = .ok (.if_icmp .ne 7, 3) := by decide +kernel
theorem dX6_kindOf_6 : decode cX6_kindOf 6 = .ok (.iconst 0, 1) := by decide +kernel
theorem dX6_kindOf_7 : decode cX6_kindOf 7 = .ok (.goto 54, 3) := by decide +kernel
theorem dX6_kindOf_10 : decode cX6_kindOf 10 = .ok (.iload_n 0, 1) := by decide +kernel
theorem dX6_kindOf_11 : decode cX6_kindOf 11 = .ok (.bipush 100, 2) := by decide +kernel
theorem dX6_kindOf_13 : decode cX6_kindOf 13 = .ok (.if_icmp .ne 7, 3) := by decide +kernel
theorem dX6_kindOf_16 : decode cX6_kindOf 16 = .ok (.iconst 1, 1) := by decide +kernel
theorem dX6_kindOf_17 : decode cX6_kindOf 17 = .ok (.goto 44, 3) := by decide +kernel
theorem dX6_kindOf_20 : decode cX6_kindOf 20 = .ok (.iload_n 0, 1) := by decide +kernel
theorem dX6_kindOf_21 : decode cX6_kindOf 21 = .ok (.bipush 115, 2) := by decide +kernel
theorem dX6_kindOf_23 : decode cX6_kindOf 23 = .ok (.if_icmp .ne 7, 3) := by decide +kernel
theorem dX6_kindOf_26 : decode cX6_kindOf 26 = .ok (.iconst 2, 1) := by decide +kernel
theorem dX6_kindOf_27 : decode cX6_kindOf 27 = .ok (.goto 34, 3) := by decide +kernel
theorem dX6_kindOf_30 : decode cX6_kindOf 30 = .ok (.iload_n 0, 1) := by decide +kernel
theorem dX6_kindOf_31 : decode cX6_kindOf 31 = .ok (.bipush 109, 2) := by decide +kernel
theorem dX6_kindOf_33 : decode cX6_kindOf 33 = .ok (.if_icmp .ne 7, 3) := by decide +kernel
theorem dX6_kindOf_36 : decode cX6_kindOf 36 = .ok (.iconst 3, 1) := by decide +kernel
theorem dX6_kindOf_37 : decode cX6_kindOf 37 = .ok (.goto 24, 3) := by decide +kernel
theorem dX6_kindOf_40 : decode cX6_kindOf 40 = .ok (.iload_n 0, 1) := by decide +kernel
theorem dX6_kindOf_41 : decode cX6_kindOf 41 = .ok (.bipush 117, 2) := by decide +kernel
theorem dX6_kindOf_43 : decode cX6_kindOf 43 = .ok (.if_icmp .ne 7, 3) := by decide +kernel
theorem dX6_kindOf_46 : decode cX6_kindOf 46 = .ok (.iconst 4, 1) := by decide +kernel
theorem dX6_kindOf_47 : decode cX6_kindOf 47 = .ok (.goto 14, 3) := by decide +kernel
theorem dX6_kindOf_50 : decode cX6_kindOf 50 = .ok (.iload_n 0, 1) := by decide +kernel
theorem dX6_kindOf_51 : decode cX6_kindOf 51 = .ok (.bipush 121, 2) := by decide +kernel
theorem dX6_kindOf_53 : decode cX6_kindOf 53 = .ok (.if_icmp .ne 7, 3) := by decide +kernel
theorem dX6_kindOf_56 : decode cX6_kindOf 56 = .ok (.iconst 5, 1) := by decide +kernel
theorem dX6_kindOf_57 : decode cX6_kindOf 57 = .ok (.goto 4, 3) := by decide +kernel
theorem dX6_kindOf_60 : decode cX6_kindOf 60 = .ok (.iconst (-1), 1) := by decide +kernel
theorem dX6_kindOf_61 : decode cX6_kindOf 61 = .ok (.ireturn, 1) := by decide +kernel
set_option maxRecDepth 20000 in
theorem ggX6_takesGuest_X6_byteAt : GoodIn wsX6_takesGuest wsX6_byteAt := goodIn_r _ [9, 3, 10, 11, 22, 23, 24, 25, 26, 27, 28, 29, 30, 31, 32, 33, 34, 35, 36, 37, 38, 39, 40, 41, 42, 43, 44, 45, 46, 47, 48] (by decide +kernel) (by decide +kernel)
set_option maxRecDepth 20000 in
theorem gX6_takesGuest_X6_byteAt : GoodIn wsX6_takesGuest (wsV RX6 98 RX6 yX6_byteAt wsX6_byteAt) := goodIn_app (goodIn_of _ (by decide +kernel)) ggX6_takesGuest_X6_byteAt
set_option maxRecDepth 20000 in
theorem ggX6_takesGuest_X6_kindOf : GoodIn wsX6_takesGuest wsX6_kindOf := goodIn_r _ [14] (by decide +kernel) (by decide +kernel)
set_option maxRecDepth 20000 in
theorem gX6_takesGuest_X6_kindOf : GoodIn wsX6_takesGuest (va_wsS RX6 105 yX6_kindOf wsX6_kindOf) := goodIn_app (goodIn_of _ (by decide +kernel)) ggX6_takesGuest_X6_kindOf
set_option maxRecDepth 20000 in
theorem ggX6_takesGuest_X6_takes : GoodIn wsX6_takesGuest wsX6_takes := goodIn_r _ [18, 4, 3, 5, 6, 7, 8, 9, 10, 11, 19, 20, 21, 22, 23, 24, 25, 26, 27, 28, 29, 30, 31, 32, 33, 34, 35, 36, 37, 38, 39, 40, 41, 42, 43, 44, 45, 46, 47, 48] (by decide +kernel) (by decide +kernel)
set_option maxRecDepth 20000 in
theorem gX6_takesGuest_X6_takes : GoodIn wsX6_takesGuest (wsV RX6 101 RX6 yX6_takes wsX6_takes) := goodIn_app (goodIn_of _ (by decide +kernel)) ggX6_takesGuest_X6_takes
theorem dX6_takesGuest_0 : decode cX6_takesGuest 0 = .ok (.aload_n 0, 1) := by decide +kernel
theorem dX6_takesGuest_1 : decode cX6_takesGuest 1 = .ok (.iload_n 1, 1) := by decide +kernel
theorem dX6_takesGuest_2 : decode cX6_takesGuest 2 = .ok (.invokevirtual 98, 3) := by decide +kernel
theorem dX6_takesGuest_5 : decode cX6_takesGuest 5 = .ok (.invokestatic 105, 3) := by decide +kernel
theorem dX6_takesGuest_8 : decode cX6_takesGuest 8 = .ok (.istore_n 2, 1) := by decide +kernel
theorem dX6_takesGuest_9 : decode cX6_takesGuest 9 = .ok (.iload_n 2, 1) := by decide +kernel
theorem dX6_takesGuest_10 : decode cX6_takesGuest 10 = .ok (.ifCond .lt 19, 3) := by decide +kernel
theorem dX6_takesGuest_13 : decode cX6_takesGuest 13 = .ok (.aload_n 0, 1) := by decide +kernel
theorem dX6_takesGuest_14 : decode cX6_takesGuest 14 = .ok (.getfield 108, 3) := by decide +kernel
theorem dX6_takesGuest_17 : decode cX6_takesGuest 17 = .ok (.bipush 6, 2) := by decide +kernel
theorem dX6_takesGuest_19 : decode cX6_takesGuest 19 = .ok (.if_icmp .eq 10, 3) := by decide +kernel
theorem dX6_takesGuest_22 : decode cX6_takesGuest 22 = .ok (.aload_n 0, 1) := by decide +kernel
theorem dX6_takesGuest_23 : decode cX6_takesGuest 23 = .ok (.getfield 111, 3) := by decide +kernel
theorem dX6_takesGuest_26 : decode cX6_takesGuest 26 = .ok (.ifCond .eq 5, 3) := by decide +kernel
theorem dX6_takesGuest_29 : decode cX6_takesGuest 29 = .ok (.iconst 0, 1) := by decide +kernel
theorem dX6_takesGuest_30 : decode cX6_takesGuest 30 = .ok (.ireturn, 1) := by decide +kernel
theorem dX6_takesGuest_31 : decode cX6_takesGuest 31 = .ok (.aload_n 0, 1) := by decide +kernel
theorem dX6_takesGuest_32 : decode cX6_takesGuest 32 = .ok (.dup, 1) := by decide +kernel
theorem dX6_takesGuest_33 : decode cX6_takesGuest 33 = .ok (.getfield 95, 3) := by decide +kernel
theorem dX6_takesGuest_36 : decode cX6_takesGuest 36 = .ok (.iconst 1, 1) := by decide +kernel
theorem dX6_takesGuest_37 : decode cX6_takesGuest 37 = .ok (.iadd, 1) := by decide +kernel
theorem dX6_takesGuest_38 : decode cX6_takesGuest 38 = .ok (.putfield 95, 3) := by decide +kernel
theorem dX6_takesGuest_41 : decode cX6_takesGuest 41 = .ok (.aload_n 0, 1) := by decide +kernel
theorem dX6_takesGuest_42 : decode cX6_takesGuest 42 = .ok (.getfield 51, 3) := by decide +kernel
theorem dX6_takesGuest_45 : decode cX6_takesGuest 45 = .ok (.iconst 5, 1) := by decide +kernel
theorem dX6_takesGuest_46 : decode cX6_takesGuest 46 = .ok (.aload_n 0, 1) := by decide +kernel
theorem dX6_takesGuest_47 : decode cX6_takesGuest 47 = .ok (.getfield 108, 3) := by decide +kernel
theorem dX6_takesGuest_50 : decode cX6_takesGuest 50 = .ok (.iadd, 1) := by decide +kernel
theorem dX6_takesGuest_51 : decode cX6_takesGuest 51 = .ok (.iload_n 2, 1) := by decide +kernel
theorem dX6_takesGuest_52 : decode cX6_takesGuest 52 = .ok (.iastore, 1) := by decide +kernel
theorem dX6_takesGuest_53 : decode cX6_takesGuest 53 = .ok (.aload_n 0, 1) := by decide +kernel
theorem dX6_takesGuest_54 : decode cX6_takesGuest 54 = .ok (.getfield 51, 3) := by decide +kernel
theorem dX6_takesGuest_57 : decode cX6_takesGuest 57 = .ok (.bipush 17, 2) := by decide +kernel
theorem dX6_takesGuest_59 : decode cX6_takesGuest 59 = .ok (.aload_n 0, 1) := by decide +kernel
theorem dX6_takesGuest_60 : decode cX6_takesGuest 60 = .ok (.getfield 108, 3) := by decide +kernel
theorem dX6_takesGuest_63 : decode cX6_takesGuest 63 = .ok (.iadd, 1) := by decide +kernel
theorem dX6_takesGuest_64 : decode cX6_takesGuest 64 = .ok (.iconst 0, 1) := by decide +kernel
theorem dX6_takesGuest_65 : decode cX6_takesGuest 65 = .ok (.iastore, 1) := by decide +kernel
theorem dX6_takesGuest_66 : decode cX6_takesGuest 66 = .ok (.aload_n 0, 1) := by decide +kernel
theorem dX6_takesGuest_67 : decode cX6_takesGuest 67 = .ok (.dup, 1) := by decide +kernel
theorem dX6_takesGuest_68 : decode cX6_takesGuest 68 = .ok (.getfield 108, 3) := by decide +kernel
theorem dX6_takesGuest_71 : decode cX6_takesGuest 71 = .ok (.iconst 1, 1) := by decide +kernel
theorem dX6_takesGuest_72 : decode cX6_takesGuest 72 = .ok (.iadd, 1) := by decide +kernel
theorem dX6_takesGuest_73 : decode cX6_takesGuest 73 = .ok (.putfield 108, 3) := by decide +kernel
theorem dX6_takesGuest_76 : decode cX6_takesGuest 76 = .ok (.aload_n 0, 1) := by decide +kernel
theorem dX6_takesGuest_77 : decode cX6_takesGuest 77 = .ok (.iload_n 1, 1) := by decide +kernel
theorem dX6_takesGuest_78 : decode cX6_takesGuest 78 = .ok (.bipush 10, 2) := by decide +kernel
theorem dX6_takesGuest_80 : decode cX6_takesGuest 80 = .ok (.aload_n 0, 1) := by decide +kernel
theorem dX6_takesGuest_81 : decode cX6_takesGuest 81 = .ok (.getfield 108, 3) := by decide +kernel
theorem dX6_takesGuest_84 : decode cX6_takesGuest 84 = .ok (.iadd, 1) := by decide +kernel
theorem dX6_takesGuest_85 : decode cX6_takesGuest 85 = .ok (.iconst 0, 1) := by decide +kernel
theorem dX6_takesGuest_86 : decode cX6_takesGuest 86 = .ok (.bipush 9, 2) := by decide +kernel
theorem dX6_takesGuest_88 : decode cX6_takesGuest 88 = .ok (.invokevirtual 101, 3) := by decide +kernel
theorem dX6_takesGuest_91 : decode cX6_takesGuest 91 = .ok (.ireturn, 1) := by decide +kernel
set_option maxRecDepth 20000 in
theorem ggX6_takesSight_X6_byteAt : GoodIn wsX6_takesSight wsX6_byteAt := goodIn_r _ [9, 2, 10, 11, 15, 16, 17, 18, 19, 20, 21, 22, 23, 24, 25, 26, 27, 28, 29, 30, 31, 32, 33, 34, 35, 36, 37, 38, 39, 40, 41] (by decide +kernel) (by decide +kernel)
set_option maxRecDepth 20000 in
theorem gX6_takesSight_X6_byteAt : GoodIn wsX6_takesSight (wsV RX6 98 RX6 yX6_byteAt wsX6_byteAt) := goodIn_app (goodIn_of _ (by decide +kernel)) ggX6_takesSight_X6_byteAt
set_option maxRecDepth 20000 in
theorem ggX6_takesSight_X6_in : GoodIn wsX6_takesSight wsX6_in := goodIn_r _ [14] (by decide +kernel) (by decide +kernel)
set_option maxRecDepth 20000 in
theorem gX6_takesSight_X6_in : GoodIn wsX6_takesSight (va_wsS RX6 75 yX6_in wsX6_in) := goodIn_app (goodIn_of _ (by decide +kernel)) ggX6_takesSight_X6_in
theorem dX6_takesSight_0 : decode cX6_takesSight 0 = .ok (.aload_n 0, 1) := by decide +kernel
theorem dX6_takesSight_1 : decode cX6_takesSight 1 = .ok (.getfield 108, 3) := by decide +kernel
theorem dX6_takesSight_4 : decode cX6_takesSight 4 = .ok (.ifCond .ne 5, 3) := by decide +kernel
theorem dX6_takesSight_7 : decode cX6_takesSight 7 = .ok (.iconst 0, 1) := by decide +kernel
theorem dX6_takesSight_8 : decode cX6_takesSight 8 = .ok (.ireturn, 1) := by decide +kernel
theorem dX6_takesSight_9 : decode cX6_takesSight 9 = .ok (.aload_n 0, 1) := by decide +kernel
theorem dX6_takesSight_10 : decode cX6_takesSight 10 = .ok (.dup, 1) := by decide +kernel
theorem dX6_takesSight_11 : decode cX6_takesSight 11 = .ok (.getfield 95, 3) := by decide +kernel
theorem dX6_takesSight_14 : decode cX6_takesSight 14 = .ok (.iconst 1, 1) := by decide +kernel
theorem dX6_takesSight_15 : decode cX6_takesSight 15 = .ok (.iadd, 1) := by decide +kernel
theorem dX6_takesSight_16 : decode cX6_takesSight 16 = .ok (.putfield 95, 3) := by decide +kernel
theorem dX6_takesSight_19 : decode cX6_takesSight 19 = .ok (.aload_n 0, 1) := by decide +kernel
theorem dX6_takesSight_20 : decode cX6_takesSight 20 = .ok (.iconst 1, 1) := by decide +kernel
theorem dX6_takesSight_21 : decode cX6_takesSight 21 = .ok (.putfield 111, 3) := by decide +kernel
theorem dX6_takesSight_24 : decode cX6_takesSight 24 = .ok (.aload_n 0, 1) := by decide +kernel
theorem dX6_takesSight_25 : decode cX6_takesSight 25 = .ok (.getfield 108, 3) := by decide +kernel
theorem dX6_takesSight_28 : decode cX6_takesSight 28 = .ok (.iconst 1, 1) := by decide +kernel
theorem dX6_takesSight_29 : decode cX6_takesSight 29 = .ok (.isub, 1) := by decide +kernel
theorem dX6_takesSight_30 : decode cX6_takesSight 30 = .ok (.istore_n 2, 1) := by decide +kernel
theorem dX6_takesSight_31 : decode cX6_takesSight 31 = .ok (.aload_n 0, 1) := by decide +kernel
theorem dX6_takesSight_32 : decode cX6_takesSight 32 = .ok (.iload_n 1, 1) := by decide +kernel
theorem dX6_takesSight_33 : decode cX6_takesSight 33 = .ok (.invokevirtual 98, 3) := by decide +kernel
theorem dX6_takesSight_36 : decode cX6_takesSight 36 = .ok (.bipush 48, 2) := by decide +kernel
theorem dX6_takesSight_38 : decode cX6_takesSight 38 = .ok (.isub, 1) := by decide +kernel
theorem dX6_takesSight_39 : decode cX6_takesSight 39 = .ok (.istore_n 3, 1) := by decide +kernel
theorem dX6_takesSight_40 : decode cX6_takesSight 40 = .ok (.iload_n 3, 1) := by decide +kernel
theorem dX6_takesSight_41 : decode cX6_takesSight 41 = .ok (.i2l, 1) := by decide +kernel
theorem dX6_takesSight_42 : decode cX6_takesSight 42 = .ok (.lconst 0, 1) := by decide +kernel
theorem dX6_takesSight_43 : decode cX6_takesSight 43 = .ok (.iload_n 2, 1) := by decide +kernel
theorem dX6_takesSight_44 : decode cX6_takesSight 44 = .ok (.i2l, 1) := by decide +kernel
theorem dX6_takesSight_45 : decode cX6_takesSight 45 = .ok (.invokestatic 75, 3) := by decide +kernel
theorem dX6_takesSight_48 : decode cX6_takesSight 48 = .ok (.ifCond .ne 5, 3) := by decide +kernel
theorem dX6_takesSight_51 : decode cX6_takesSight 51 = .ok (.iconst 0, 1) := by decide +kernel
theorem dX6_takesSight_52 : decode cX6_takesSight 52 = .ok (.ireturn, 1) := by decide +kernel
theorem dX6_takesSight_53 : decode cX6_takesSight 53 = .ok (.aload_n 0, 1) := by decide +kernel
theorem dX6_takesSight_54 : decode cX6_takesSight 54 = .ok (.dup, 1) := by decide +kernel
theorem dX6_takesSight_55 : decode cX6_takesSight 55 = .ok (.getfield 95, 3) := by decide +kernel
theorem dX6_takesSight_58 : decode cX6_takesSight 58 = .ok (.iconst 1, 1) := by decide +kernel
theorem dX6_takesSight_59 : decode cX6_takesSight 59 = .ok (.iadd, 1) := by decide +kernel
theorem dX6_takesSight_60 : decode cX6_takesSight 60 = .ok (.putfield 95, 3) := by decide +kernel
theorem dX6_takesSight_63 : decode cX6_takesSight 63 = .ok (.aload_n 0, 1) := by decide +kernel
theorem dX6_takesSight_64 : decode cX6_takesSight 64 = .ok (.iload_n 1, 1) := by decide +kernel
theorem dX6_takesSight_65 : decode cX6_takesSight 65 = .ok (.invokevirtual 98, 3) := by decide +kernel
theorem dX6_takesSight_68 : decode cX6_takesSight 68 = .ok (.bipush 48, 2) := by decide +kernel
theorem dX6_takesSight_70 : decode cX6_takesSight 70 = .ok (.isub, 1) := by decide +kernel
theorem dX6_takesSight_71 : decode cX6_takesSight 71 = .ok (.istore 4, 2) := by decide +kernel
theorem dX6_takesSight_73 : decode cX6_takesSight 73 = .ok (.iload 4, 2) := by decide +kernel
theorem dX6_takesSight_75 : decode cX6_takesSight 75 = .ok (.i2l, 1) := by decide +kernel
theorem dX6_takesSight_76 : decode cX6_takesSight 76 = .ok (.lconst 0, 1) := by decide +kernel
theorem dX6_takesSight_77 : decode cX6_takesSight 77 = .ok (.iload_n 2, 1) := by decide +kernel
theorem dX6_takesSight_78 : decode cX6_takesSight 78 = .ok (.i2l, 1) := by decide +kernel
theorem dX6_takesSight_79 : decode cX6_takesSight 79 = .ok (.invokestatic 75, 3) := by decide +kernel
theorem dX6_takesSight_82 : decode cX6_takesSight 82 = .ok (.ifCond .eq 27, 3) := by decide +kernel
theorem dX6_takesSight_85 : decode cX6_takesSight 85 = .ok (.iload_n 3, 1) := by decide +kernel
theorem dX6_takesSight_86 : decode cX6_takesSight 86 = .ok (.iload 4, 2) := by decide +kernel
theorem dX6_takesSight_88 : decode cX6_takesSight 88 = .ok (.if_icmp .eq 21, 3) := by decide +kernel
theorem dX6_takesSight_91 : decode cX6_takesSight 91 = .ok (.aload_n 0, 1) := by decide +kernel
theorem dX6_takesSight_92 : decode cX6_takesSight 92 = .ok (.getfield 51, 3) := by decide +kernel
theorem dX6_takesSight_95 : decode cX6_takesSight 95 = .ok (.bipush 17, 2) := by decide +kernel
theorem dX6_takesSight_97 : decode cX6_takesSight 97 = .ok (.iload_n 3, 1) := by decide +kernel
theorem dX6_takesSight_98 : decode cX6_takesSight 98 = .ok (.iadd, 1) := by decide +kernel
theorem dX6_takesSight_99 : decode cX6_takesSight 99 = .ok (.iaload, 1) := by decide +kernel
theorem dX6_takesSight_100 : decode cX6_takesSight 100 = .ok (.iload 4, 2) := by decide +kernel
theorem dX6_takesSight_102 : decode cX6_takesSight 102 = .ok (.ishr, 1) := by decide +kernel
theorem dX6_takesSight_103 : decode cX6_takesSight 103 = .ok (.iconst 1, 1) := by decide +kernel
theorem dX6_takesSight_104 : decode cX6_takesSight 104 = .ok (.iand, 1) := by decide +kernel
theorem dX6_takesSight_105 : decode cX6_takesSight 105 = .ok (.iconst 1, 1) := by decide +kernel
theorem dX6_takesSight_106 : decode cX6_takesSight 106 = .ok (.if_icmp .ne 5, 3) := by decide +kernel
theorem dX6_takesSight_109 : decode cX6_takesSight 109 = .ok (.iconst 0, 1) := by decide +kernel
theorem dX6_takesSight_110 : decode cX6_takesSight 110 = .ok (.ireturn, 1) := by decide +kernel
theorem dX6_takesSight_111 : decode cX6_takesSight 111 = .ok (.aload_n 0, 1) := by decide +kernel
theorem dX6_takesSight_112 : decode cX6_takesSight 112 = .ok (.dup, 1) := by decide +kernel
theorem dX6_takesSight_113 : decode cX6_takesSight 113 = .ok (.getfield 95, 3) := by decide +kernel
theorem dX6_takesSight_116 : decode cX6_takesSight 116 = .ok (.iconst 1, 1) := by decide +kernel
theorem dX6_takesSight_117 : decode cX6_takesSight 117 = .ok (.iadd, 1) := by decide +kernel
theorem dX6_takesSight_118 : decode cX6_takesSight 118 = .ok (.putfield 95, 3) := by decide +kernel
theorem dX6_takesSight_121 : decode cX6_takesSight 121 = .ok (.aload_n 0, 1) := by decide +kernel
theorem dX6_takesSight_122 : decode cX6_takesSight 122 = .ok (.getfield 51, 3) := by decide +kernel
theorem dX6_takesSight_125 : decode cX6_takesSight 125 = .ok (.bipush 17, 2) := by decide +kernel
theorem dX6_takesSight_127 : decode cX6_takesSight 127 = .ok (.iload_n 3, 1) := by decide +kernel
theorem dX6_takesSight_128 : decode cX6_takesSight 128 = .ok (.iadd, 1) := by decide +kernel
theorem dX6_takesSight_129 : decode cX6_takesSight 129 = .ok (.dup2, 1) := by decide +kernel
theorem dX6_takesSight_130 : decode cX6_takesSight 130 = .ok (.iaload, 1) := by decide +kernel
theorem dX6_takesSight_131 : decode cX6_takesSight 131 = .ok (.iconst 1, 1) := by decide +kernel
theorem dX6_takesSight_132 : decode cX6_takesSight 132 = .ok (.iload 4, 2) := by decide +kernel
theorem dX6_takesSight_134 : decode cX6_takesSight 134 = .ok (.ishl, 1) := by decide +kernel
theorem dX6_takesSight_135 : decode cX6_takesSight 135 = .ok (.ior, 1) := by decide +kernel
theorem dX6_takesSight_136 : decode cX6_takesSight 136 = .ok (.iastore, 1) := by decide +kernel
theorem dX6_takesSight_137 : decode cX6_takesSight 137 = .ok (.iconst 1, 1) := by decide +kernel
theorem dX6_takesSight_138 : decode cX6_takesSight 138 = .ok (.ireturn, 1) := by decide +kernel
set_option maxRecDepth 20000 in
theorem ggX6_blanks_X6_byteAt : GoodIn wsX6_blanks wsX6_byteAt := goodIn_r _ [6, 1, 7, 8, 9, 10, 11, 12, 13, 14, 15, 16, 17, 18, 19, 20, 21, 22, 23, 24, 25, 26, 27, 28, 29, 30, 31, 32, 33, 34, 35] (by decide +kernel) (by decide +kernel)
set_option maxRecDepth 20000 in
theorem gX6_blanks_X6_byteAt : GoodIn wsX6_blanks (wsV RX6 98 RX6 yX6_byteAt wsX6_byteAt) := goodIn_app (goodIn_of _ (by decide +kernel)) ggX6_blanks_X6_byteAt
theorem dX6_blanks_0 : decode cX6_blanks 0 = .ok (.aload_n 0, 1) := by decide +kernel
theorem dX6_blanks_1 : decode cX6_blanks 1 = .ok (.iload_n 1, 1) := by decide +kernel
theorem dX6_blanks_2 : decode cX6_blanks 2 = .ok (.invokevirtual 98, 3) := by decide +kernel
theorem dX6_blanks_5 : decode cX6_blanks 5 = .ok (.bipush 32, 2) := by decide +kernel
theorem dX6_blanks_7 : decode cX6_blanks 7 = .ok (.if_icmp .ne 16, 3) := by decide +kernel
theorem dX6_blanks_10 : decode cX6_blanks 10 = .ok (.aload_n 0, 1) := by decide +kernel
theorem dX6_blanks_11 : decode cX6_blanks 11 = .ok (.dup, 1) := by decide +kernel
theorem dX6_blanks_12 : decode cX6_blanks 12 = .ok (.getfield 95, 3) := by decide +kernel
theorem dX6_blanks_15 : decode cX6_blanks 15 = .ok (.iconst 1, 1) := by decide +kernel
theorem dX6_blanks_16 : decode cX6_blanks 16 = .ok (.iadd, 1) := by decide +kernel
theorem dX6_blanks_17 : decode cX6_blanks 17 = .ok (.putfield 95, 3) := by decide +kernel
theorem dX6_blanks_20 : decode cX6_blanks 20 = .ok (.goto (-20), 3) := by decide +kernel
theorem dX6_blanks_23 : decode cX6_blanks 23 = .ok (.return_, 1) := by decide +kernel
set_option maxRecDepth 20000 in
theorem ggX6_reads_X6_blanks : GoodIn wsX6_reads wsX6_blanks := goodIn_r _ [9, 3, 10, 11, 12, 8, 13, 4, 14, 38, 39, 40, 41, 42, 43, 44, 45, 46, 47, 48, 49, 50, 51, 52, 53, 54, 55, 56, 57, 58, 59, 60, 61, 62, 63, 64] (by decide +kernel) (by decide +kernel)
set_option maxRecDepth 20000 in
theorem gX6_reads_X6_blanks : GoodIn wsX6_reads (wsV RX6 115 RX6 yX6_blanks wsX6_blanks) := goodIn_app (goodIn_of _ (by decide +kernel)) ggX6_reads_X6_blanks
set_option maxRecDepth 20000 in
theorem ggX6_reads_X6_takesClause : GoodIn wsX6_reads wsX6_takesClause := goodIn_r _ [18, 3, 10, 11, 12, 8, 13, 4, 14, 19, 20, 21, 22, 23, 24, 25, 26, 38, 39, 40, 41, 42, 43, 44, 45, 46, 47, 48, 49, 50, 51, 52, 53, 54, 55, 56, 57, 58, 59, 60, 61, 62, 63, 64] (by decide +kernel) (by decide +kernel)
set_option maxRecDepth 20000 in
theorem gX6_reads_X6_takesClause : GoodIn wsX6_reads (wsV RX6 119 RX6 yX6_takesClause wsX6_takesClause) := goodIn_app (goodIn_of _ (by decide +kernel)) ggX6_reads_X6_takesClause
set_option maxRecDepth 20000 in
theorem ggX6_reads_X6_byteAt : GoodIn wsX6_reads wsX6_byteAt := goodIn_r _ [13, 3, 4, 14, 38, 39, 40, 41, 42, 43, 44, 45, 46, 47, 48, 49, 50, 51, 52, 53, 54, 55, 56, 57, 58, 59, 60, 61, 62, 63, 64] (by decide +kernel) (by decide +kernel)
set_option maxRecDepth 20000 in
theorem gX6_reads_X6_byteAt : GoodIn wsX6_reads (wsV RX6 98 RX6 yX6_byteAt wsX6_byteAt) := goodIn_app (goodIn_of _ (by decide +kernel)) ggX6_reads_X6_byteAt
set_option maxRecDepth 20000 in
theorem ggX6_reads_X6_takesSight : GoodIn wsX6_reads wsX6_takesSight := goodIn_r _ [30, 1, 3, 2, 23, 10, 11, 12, 8, 13, 4, 14, 24, 25, 26, 38, 39, 40, 41, 42, 43, 44, 45, 46, 47, 48, 49, 50, 51, 52, 53, 54, 55, 56, 57, 58, 59, 60, 61, 62, 63, 64] (by decide +kernel) (by decide +kernel)
set_option maxRecDepth 20000 in
theorem gX6_reads_X6_takesSight : GoodIn wsX6_reads (wsV RX6 122 RX6 yX6_takesSight wsX6_takesSight) := goodIn_app (goodIn_of _ (by decide +kernel)) ggX6_reads_X6_takesSight
set_option maxRecDepth 20000 in
theorem ggX6_reads_X6_takesGuest : GoodIn wsX6_reads wsX6_takesGuest := goodIn_r _ [34, 1, 2, 3, 23, 10, 11, 12, 8, 13, 4, 14, 35, 36, 37, 19, 20, 21, 22, 24, 25, 26, 38, 39, 40, 41, 42, 43, 44, 45, 46, 47, 48, 49, 50, 51, 52, 53, 54, 55, 56, 57, 58, 59, 60, 61, 62, 63, 64] (by decide +kernel) (by decide +kernel)
set_option maxRecDepth 20000 in
theorem gX6_reads_X6_takesGuest : GoodIn wsX6_reads (wsV RX6 125 RX6 yX6_takesGuest wsX6_takesGuest) := goodIn_app (goodIn_of _ (by decide +kernel)) ggX6_reads_X6_takesGuest
theorem dX6_reads_0 : decode cX6_reads 0 = .ok (.aload_n 0, 1) := by decide +kernel
theorem dX6_reads_1 : decode cX6_reads 1 = .ok (.iconst 0, 1) := by decide +kernel
theorem dX6_reads_2 : decode cX6_reads 2 = .ok (.putfield 108, 3) := by decide +kernel
theorem dX6_reads_5 : decode cX6_reads 5 = .ok (.aload_n 0, 1) := by decide +kernel
theorem dX6_reads_6 : decode cX6_reads 6 = .ok (.iconst 0, 1) := by decide +kernel
theorem dX6_reads_7 : decode cX6_reads 7 = .ok (.putfield 111, 3) := by decide +kernel
theorem dX6_reads_10 : decode cX6_reads 10 = .ok (.aload_n 0, 1) := by decide +kernel
theorem dX6_reads_11 : decode cX6_reads 11 = .ok (.iconst 0, 1) := by decide +kernel
theorem dX6_reads_12 : decode cX6_reads 12 = .ok (.putfield 95, 3) := by decide +kernel
theorem dX6_reads_15 : decode cX6_reads 15 = .ok (.aload_n 0, 1) := by decide +kernel
theorem dX6_reads_16 : decode cX6_reads 16 = .ok (.iload_n 1, 1) := by decide +kernel
theorem dX6_reads_17 : decode cX6_reads 17 = .ok (.invokevirtual 115, 3) := by decide +kernel
theorem dX6_reads_20 : decode cX6_reads 20 = .ok (.aload_n 0, 1) := by decide +kernel
theorem dX6_reads_21 : decode cX6_reads 21 = .ok (.iload_n 1, 1) := by decide +kernel
theorem dX6_reads_22 : decode cX6_reads 22 = .ok (.invokevirtual 119, 3) := by decide +kernel
theorem dX6_reads_25 : decode cX6_reads 25 = .ok (.ifCond .ne 8, 3) := by decide +kernel
theorem dX6_reads_28 : decode cX6_reads 28 = .ok (.aload_n 0, 1) := by decide +kernel
theorem dX6_reads_29 : decode cX6_reads 29 = .ok (.getfield 95, 3) := by decide +kernel
theorem dX6_reads_32 : decode cX6_reads 32 = .ok (.ireturn, 1) := by decide +kernel
theorem dX6_reads_33 : decode cX6_reads 33 = .ok (.aload_n 0, 1) := by decide +kernel
theorem dX6_reads_34 : decode cX6_reads 34 = .ok (.iload_n 1, 1) := by decide +kernel
theorem dX6_reads_35 : decode cX6_reads 35 = .ok (.invokevirtual 115, 3) := by decide +kernel
theorem dX6_reads_38 : decode cX6_reads 38 = .ok (.aload_n 0, 1) := by decide +kernel
theorem dX6_reads_39 : decode cX6_reads 39 = .ok (.getfield 95, 3) := by decide +kernel
theorem dX6_reads_42 : decode cX6_reads 42 = .ok (.aload_n 0, 1) := by decide +kernel
theorem dX6_reads_43 : decode cX6_reads 43 = .ok (.getfield 16, 3) := by decide +kernel
theorem dX6_reads_46 : decode cX6_reads 46 = .ok (.iload_n 1, 1) := by decide +kernel
theorem dX6_reads_47 : decode cX6_reads 47 = .ok (.iaload, 1) := by decide +kernel
theorem dX6_reads_48 : decode cX6_reads 48 = .ok (.if_icmp .ge 45, 3) := by decide +kernel
theorem dX6_reads_51 : decode cX6_reads 51 = .ok (.aload_n 0, 1) := by decide +kernel
theorem dX6_reads_52 : decode cX6_reads 52 = .ok (.iload_n 1, 1) := by decide +kernel
theorem dX6_reads_53 : decode cX6_reads 53 = .ok (.invokevirtual 98, 3) := by decide +kernel
theorem dX6_reads_56 : decode cX6_reads 56 = .ok (.bipush 120, 2) := by decide +kernel
theorem dX6_reads_58 : decode cX6_reads 58 = .ok (.if_icmp .ne 14, 3) := by decide +kernel
theorem dX6_reads_61 : decode cX6_reads 61 = .ok (.aload_n 0, 1) := by decide +kernel
theorem dX6_reads_62 : decode cX6_reads 62 = .ok (.iload_n 1, 1) := by decide +kernel
theorem dX6_reads_63 : decode cX6_reads 63 = .ok (.invokevirtual 122, 3) := by decide +kernel
theorem dX6_reads_66 : decode cX6_reads 66 = .ok (.ifCond .eq 14, 3) := by decide +kernel
theorem dX6_reads_69 : decode cX6_reads 69 = .ok (.goto 16, 3) := by decide +kernel
theorem dX6_reads_72 : decode cX6_reads 72 = .ok (.aload_n 0, 1) := by decide +kernel
theorem dX6_reads_73 : decode cX6_reads 73 = .ok (.iload_n 1, 1) := by decide +kernel
theorem dX6_reads_74 : decode cX6_reads 74 = .ok (.invokevirtual 125, 3) := by decide +kernel
theorem dX6_reads_77 : decode cX6_reads 77 = .ok (.ifCond .ne 8, 3) := by decide +kernel
theorem dX6_reads_80 : decode cX6_reads 80 = .ok (.aload_n 0, 1) := by decide +kernel
theorem dX6_reads_81 : decode cX6_reads 81 = .ok (.getfield 95, 3) := by decide +kernel
theorem dX6_reads_84 : decode cX6_reads 84 = .ok (.ireturn, 1) := by decide +kernel
theorem dX6_reads_85 : decode cX6_reads 85 = .ok (.aload_n 0, 1) := by decide +kernel
theorem dX6_reads_86 : decode cX6_reads 86 = .ok (.iload_n 1, 1) := by decide +kernel
theorem dX6_reads_87 : decode cX6_reads 87 = .ok (.invokevirtual 115, 3) := by decide +kernel
theorem dX6_reads_90 : decode cX6_reads 90 = .ok (.goto (-52), 3) := by decide +kernel
theorem dX6_reads_93 : decode cX6_reads 93 = .ok (.aload_n 0, 1) := by decide +kernel
theorem dX6_reads_94 : decode cX6_reads 94 = .ok (.getfield 108, 3) := by decide +kernel
theorem dX6_reads_97 : decode cX6_reads 97 = .ok (.ifCond .ne 10, 3) := by decide +kernel
theorem dX6_reads_100 : decode cX6_reads 100 = .ok (.aload_n 0, 1) := by decide +kernel
theorem dX6_reads_101 : decode cX6_reads 101 = .ok (.getfield 95, 3) := by decide +kernel
theorem dX6_reads_104 : decode cX6_reads 104 = .ok (.goto 5, 3) := by decide +kernel
theorem dX6_reads_107 : decode cX6_reads 107 = .ok (.bipush (-9), 2) := by decide +kernel
theorem dX6_reads_109 : decode cX6_reads 109 = .ok (.ireturn, 1) := by decide +kernel
set_option maxRecDepth 20000 in
theorem ggX6_fault_X6_isText : GoodIn wsX6_fault wsX6_isText := goodIn_r _ [5, 6, 7, 8, 4, 9] (by decide +kernel) (by decide +kernel)
set_option maxRecDepth 20000 in
theorem gX6_fault_X6_isText : GoodIn wsX6_fault (va_wsS RX6 92 yX6_isText wsX6_isText) := goodIn_app (goodIn_of _ (by decide +kernel)) ggX6_fault_X6_isText
set_option maxRecDepth 20000 in
theorem ggX6_fault_X6_found : GoodIn wsX6_fault wsX6_found := goodIn_r _ [13, 14, 15, 52, 53, 54, 55, 56, 57, 58, 59, 60, 61, 62, 63, 64, 65, 66, 67, 68, 69, 70, 71, 72, 73, 74, 75, 76, 77, 78] (by decide +kernel) (by decide +kernel)
set_option maxRecDepth 20000 in
theorem gX6_fault_X6_found : GoodIn wsX6_fault (wsV RX6 85 RX6 yX6_found wsX6_found) := goodIn_app (goodIn_of _ (by decide +kernel)) ggX6_fault_X6_found
set_option maxRecDepth 20000 in
theorem ggX6_fault_X6_reads : GoodIn wsX6_fault wsX6_reads := goodIn_r _ [19, 20, 21, 22, 1, 23, 24, 25, 4, 26, 27, 28, 29, 30, 31, 32, 33, 34, 35, 36, 37, 38, 39, 40, 7, 8, 9, 41, 42, 43, 44, 45, 46, 47, 48, 49, 50, 51, 52, 53, 54, 55, 56, 57, 58, 59, 60, 61, 62, 63, 64, 65, 66, 67, 68, 69, 70, 71, 72, 73, 74, 75, 76, 77, 78] (by decide +kernel) (by decide +kernel)
set_option maxRecDepth 20000 in
theorem gX6_fault_X6_reads : GoodIn wsX6_fault (wsV RX6 128 RX6 yX6_reads wsX6_reads) := goodIn_app (goodIn_of _ (by decide +kernel)) ggX6_fault_X6_reads
theorem dX6_fault_0 : decode cX6_fault 0 = .ok (.iload_n 1, 1) := by decide +kernel
theorem dX6_fault_1 : decode cX6_fault 1 = .ok (.invokestatic 92, 3) := by decide +kernel
theorem dX6_fault_4 : decode cX6_fault 4 = .ok (.ifCond .ne 5, 3) := by decide +kernel
theorem dX6_fault_7 : decode cX6_fault 7 = .ok (.iconst (-1), 1) := by decide +kernel
theorem dX6_fault_8 : decode cX6_fault 8 = .ok (.ireturn, 1) := by decide +kernel
theorem dX6_fault_9 : decode cX6_fault 9 = .ok (.aload_n 0, 1) := by decide +kernel
theorem dX6_fault_10 : decode cX6_fault 10 = .ok (.getfield 16, 3) := by decide +kernel
theorem dX6_fault_13 : decode cX6_fault 13 = .ok (.iload_n 1, 1) := by decide +kernel
theorem dX6_fault_14 : decode cX6_fault 14 = .ok (.iaload, 1) := by decide +kernel
theorem dX6_fault_15 : decode cX6_fault 15 = .ok (.ifCond .ge 11, 3) := by decide +kernel
theorem dX6_fault_18 : decode cX6_fault 18 = .ok (.aload_n 0, 1) := by decide +kernel
theorem dX6_fault_19 : decode cX6_fault 19 = .ok (.iconst 1, 1) := by decide +kernel
theorem dX6_fault_20 : decode cX6_fault 20 = .ok (.invokevirtual 85, 3) := by decide +kernel
theorem dX6_fault_23 : decode cX6_fault 23 = .ok (.goto 8, 3) := by decide +kernel
theorem dX6_fault_26 : decode cX6_fault 26 = .ok (.aload_n 0, 1) := by decide +kernel
theorem dX6_fault_27 : decode cX6_fault 27 = .ok (.iload_n 1, 1) := by decide +kernel
theorem dX6_fault_28 : decode cX6_fault 28 = .ok (.invokevirtual 128, 3) := by decide +kernel
theorem dX6_fault_31 : decode cX6_fault 31 = .ok (.ireturn, 1) := by decide +kernel
set_option maxRecDepth 20000 in
theorem ggX6_party_X6_isText : GoodIn wsX6_party wsX6_isText := goodIn_r _ [15, 16, 17, 18, 14, 19] (by decide +kernel) (by decide +kernel)
set_option maxRecDepth 20000 in
theorem gX6_party_X6_isText : GoodIn wsX6_party (va_wsS RX6 92 yX6_isText wsX6_isText) := goodIn_app (goodIn_of _ (by decide +kernel)) ggX6_party_X6_isText
set_option maxRecDepth 20000 in
theorem ggX6_party_X6_found : GoodIn wsX6_party wsX6_found := goodIn_r _ [23, 24, 25, 60, 61, 62, 63, 64, 65, 66, 67, 68, 69, 70, 71, 72, 73, 74, 75, 76, 77, 78, 79, 80, 81, 82, 83, 84, 85, 86] (by decide +kernel) (by decide +kernel)
set_option maxRecDepth 20000 in
theorem gX6_party_X6_found : GoodIn wsX6_party (wsV RX6 85 RX6 yX6_found wsX6_found) := goodIn_app (goodIn_of _ (by decide +kernel)) ggX6_party_X6_found
set_option maxRecDepth 20000 in
theorem ggX6_party_X6_reads : GoodIn wsX6_party wsX6_reads := goodIn_r _ [29, 2, 30, 31, 1, 32, 33, 34, 14, 35, 36, 37, 38, 39, 40, 41, 42, 43, 44, 45, 46, 47, 48, 4, 17, 18, 19, 49, 50, 51, 52, 53, 54, 55, 56, 57, 58, 59, 60, 61, 62, 63, 64, 65, 66, 67, 68, 69, 70, 71, 72, 73, 74, 75, 76, 77, 78, 79, 80, 81, 82, 83, 84, 85, 86] (by decide +kernel) (by decide +kernel)
set_option maxRecDepth 20000 in
theorem gX6_party_X6_reads : GoodIn wsX6_party (wsV RX6 128 RX6 yX6_reads wsX6_reads) := goodIn_app (goodIn_of _ (by decide +kernel)) ggX6_party_X6_reads
theorem dX6_party_0 : decode cX6_party 0 = .ok (.iload_n 1, 1) := by decide +kernel
theorem dX6_party_1 : decode cX6_party 1 = .ok (.invokestatic 92, 3) := by decide +kernel
theorem dX6_party_4 : decode cX6_party 4 = .ok (.ifCond .ne 5, 3) := by decide +kernel
theorem dX6_party_7 : decode cX6_party 7 = .ok (.iconst (-1), 1) := by decide +kernel
theorem dX6_party_8 : decode cX6_party 8 = .ok (.ireturn, 1) := by decide +kernel
theorem dX6_party_9 : decode cX6_party 9 = .ok (.aload_n 0, 1) := by decide +kernel
theorem dX6_party_10 : decode cX6_party 10 = .ok (.getfield 16, 3) := by decide +kernel
theorem dX6_party_13 : decode cX6_party 13 = .ok (.iload_n 1, 1) := by decide +kernel
theorem dX6_party_14 : decode cX6_party 14 = .ok (.iaload, 1) := by decide +kernel
theorem dX6_party_15 : decode cX6_party 15 = .ok (.ifCond .ge 9, 3) := by decide +kernel
theorem dX6_party_18 : decode cX6_party 18 = .ok (.aload_n 0, 1) := by decide +kernel
theorem dX6_party_19 : decode cX6_party 19 = .ok (.iconst 1, 1) := by decide +kernel
theorem dX6_party_20 : decode cX6_party 20 = .ok (.invokevirtual 85, 3) := by decide +kernel
theorem dX6_party_23 : decode cX6_party 23 = .ok (.ireturn, 1) := by decide +kernel
theorem dX6_party_24 : decode cX6_party 24 = .ok (.aload_n 0, 1) := by decide +kernel
theorem dX6_party_25 : decode cX6_party 25 = .ok (.iload_n 1, 1) := by decide +kernel
theorem dX6_party_26 : decode cX6_party 26 = .ok (.invokevirtual 128, 3) := by decide +kernel
theorem dX6_party_29 : decode cX6_party 29 = .ok (.bipush (-9), 2) := by decide +kernel
theorem dX6_party_31 : decode cX6_party 31 = .ok (.if_icmp .eq 6, 3) := by decide +kernel
theorem dX6_party_34 : decode cX6_party 34 = .ok (.bipush (-4), 2) := by decide +kernel
theorem dX6_party_36 : decode cX6_party 36 = .ok (.ireturn, 1) := by decide +kernel
theorem dX6_party_37 : decode cX6_party 37 = .ok (.aload_n 0, 1) := by decide +kernel
theorem dX6_party_38 : decode cX6_party 38 = .ok (.aload_n 0, 1) := by decide +kernel
theorem dX6_party_39 : decode cX6_party 39 = .ok (.getfield 108, 3) := by decide +kernel
theorem dX6_party_42 : decode cX6_party 42 = .ok (.putfield 131, 3) := by decide +kernel
theorem dX6_party_45 : decode cX6_party 45 = .ok (.aload_n 0, 1) := by decide +kernel
theorem dX6_party_46 : decode cX6_party 46 = .ok (.aload_n 0, 1) := by decide +kernel
theorem dX6_party_47 : decode cX6_party 47 = .ok (.getfield 51, 3) := by decide +kernel
theorem dX6_party_50 : decode cX6_party 50 = .ok (.iconst 0, 1) := by decide +kernel
theorem dX6_party_51 : decode cX6_party 51 = .ok (.iaload, 1) := by decide +kernel
theorem dX6_party_52 : decode cX6_party 52 = .ok (.putfield 134, 3) := by decide +kernel
theorem dX6_party_55 : decode cX6_party 55 = .ok (.iconst 0, 1) := by decide +kernel
theorem dX6_party_56 : decode cX6_party 56 = .ok (.istore_n 2, 1) := by decide +kernel
theorem dX6_party_57 : decode cX6_party 57 = .ok (.iload_n 2, 1) := by decide +kernel
theorem dX6_party_58 : decode cX6_party 58 = .ok (.iconst 4, 1) := by decide +kernel
theorem dX6_party_59 : decode cX6_party 59 = .ok (.if_icmp .ge 25, 3) := by decide +kernel
theorem dX6_party_62 : decode cX6_party 62 = .ok (.aload_n 0, 1) := by decide +kernel
theorem dX6_party_63 : decode cX6_party 63 = .ok (.getfield 22, 3) := by decide +kernel
theorem dX6_party_66 : decode cX6_party 66 = .ok (.iload_n 2, 1) := by decide +kernel
theorem dX6_party_67 : decode cX6_party 67 = .ok (.aload_n 0, 1) := by decide +kernel
theorem dX6_party_68 : decode cX6_party 68 = .ok (.getfield 51, 3) := by decide +kernel
theorem dX6_party_71 : decode cX6_party 71 = .ok (.iconst 1, 1) := by decide +kernel
theorem dX6_party_72 : decode cX6_party 72 = .ok (.iload_n 2, 1) := by decide +kernel
theorem dX6_party_73 : decode cX6_party 73 = .ok (.iadd, 1) := by decide +kernel
theorem dX6_party_74 : decode cX6_party 74 = .ok (.iaload, 1) := by decide +kernel
theorem dX6_party_75 : decode cX6_party 75 = .ok (.iconst 4, 1) := by decide +kernel
theorem dX6_party_76 : decode cX6_party 76 = .ok (.isub, 1) := by decide +kernel
theorem dX6_party_77 : decode cX6_party 77 = .ok (.iastore, 1) := by decide +kernel
theorem dX6_party_78 : decode cX6_party 78 = .ok (.iinc 2 1, 3) := by decide +kernel
theorem dX6_party_81 : decode cX6_party 81 = .ok (.goto (-24), 3) := by decide +kernel
theorem dX6_party_84 : decode cX6_party 84 = .ok (.iconst 0, 1) := by decide +kernel
theorem dX6_party_85 : decode cX6_party 85 = .ok (.istore_n 2, 1) := by decide +kernel
theorem dX6_party_86 : decode cX6_party 86 = .ok (.iload_n 2, 1) := by decide +kernel
theorem dX6_party_87 : decode cX6_party 87 = .ok (.bipush 6, 2) := by decide +kernel
theorem dX6_party_89 : decode cX6_party 89 = .ok (.if_icmp .ge 91, 3) := by decide +kernel
theorem dX6_party_92 : decode cX6_party 92 = .ok (.iload_n 2, 1) := by decide +kernel
theorem dX6_party_93 : decode cX6_party 93 = .ok (.aload_n 0, 1) := by decide +kernel
theorem dX6_party_94 : decode cX6_party 94 = .ok (.getfield 131, 3) := by decide +kernel
theorem dX6_party_97 : decode cX6_party 97 = .ok (.if_icmp .ge 7, 3) := by decide +kernel
theorem dX6_party_100 : decode cX6_party 100 = .ok (.iconst 1, 1) := by decide +kernel
theorem dX6_party_101 : decode cX6_party 101 = .ok (.goto 4, 3) := by decide +kernel
theorem dX6_party_104 : decode cX6_party 104 = .ok (.iconst 0, 1) := by decide +kernel
theorem dX6_party_105 : decode cX6_party 105 = .ok (.istore_n 3, 1) := by decide +kernel
theorem dX6_party_106 : decode cX6_party 106 = .ok (.aload_n 0, 1) := by decide +kernel
theorem dX6_party_107 : decode cX6_party 107 = .ok (.getfield 25, 3) := by decide +kernel
theorem dX6_party_110 : decode cX6_party 110 = .ok (.iload_n 2, 1) := by decide +kernel
theorem dX6_party_111 : decode cX6_party 111 = .ok (.iload_n 3, 1) := by decide +kernel
theorem dX6_party_112 : decode cX6_party 112 = .ok (.ifCond .eq 14, 3) := by decide +kernel
theorem dX6_party_115 : decode cX6_party 115 = .ok (.aload_n 0, 1) := by decide +kernel
theorem dX6_party_116 : decode cX6_party 116 = .ok (.getfield 51, 3) := by decide +kernel
theorem dX6_party_119 : decode cX6_party 119 = .ok (.iconst 5, 1) := by decide +kernel
theorem dX6_party_120 : decode cX6_party 120 = .ok (.iload_n 2, 1) := by decide +kernel
theorem dX6_party_121 : decode cX6_party 121 = .ok (.iadd, 1) := by decide +kernel
theorem dX6_party_122 : decode cX6_party 122 = .ok (.iaload, 1) := by decide +kernel
theorem dX6_party_123 : decode cX6_party 123 = .ok (.goto 4, 3) := by decide +kernel
theorem dX6_party_126 : decode cX6_party 126 = .ok (.iconst 0, 1) := by decide +kernel
theorem dX6_party_127 : decode cX6_party 127 = .ok (.iastore, 1) := by decide +kernel
theorem dX6_party_128 : decode cX6_party 128 = .ok (.aload_n 0, 1) := by decide +kernel
theorem dX6_party_129 : decode cX6_party 129 = .ok (.getfield 31, 3) := by decide +kernel
theorem dX6_party_132 : decode cX6_party 132 = .ok (.iload_n 2, 1) := by decide +kernel
theorem dX6_party_133 : decode cX6_party 133 = .ok (.iload_n 3, 1) := by decide +kernel
theorem dX6_party_134 : decode cX6_party 134 = .ok (.ifCond .eq 15, 3) := by decide +kernel
theorem dX6_party_137 : decode cX6_party 137 = .ok (.aload_n 0, 1) := by decide +kernel
theorem dX6_party_138 : decode cX6_party 138 = .ok (.getfield 51, 3) := by decide +kernel
theorem dX6_party_141 : decode cX6_party 141 = .ok (.bipush 11, 2) := by decide +kernel
theorem dX6_party_143 : decode cX6_party 143 = .ok (.iload_n 2, 1) := by decide +kernel
theorem dX6_party_144 : decode cX6_party 144 = .ok (.iadd, 1) := by decide +kernel
theorem dX6_party_145 : decode cX6_party 145 = .ok (.iaload, 1) := by decide +kernel
theorem dX6_party_146 : decode cX6_party 146 = .ok (.goto 4, 3) := by decide +kernel
theorem dX6_party_149 : decode cX6_party 149 = .ok (.iconst 0, 1) := by decide +kernel
theorem dX6_party_150 : decode cX6_party 150 = .ok (.iastore, 1) := by decide +kernel
theorem dX6_party_151 : decode cX6_party 151 = .ok (.aload_n 0, 1) := by decide +kernel
theorem dX6_party_152 : decode cX6_party 152 = .ok (.getfield 28, 3) := by decide +kernel
theorem dX6_party_155 : decode cX6_party 155 = .ok (.iload_n 2, 1) := by decide +kernel
theorem dX6_party_156 : decode cX6_party 156 = .ok (.iload_n 3, 1) := by decide +kernel
theorem dX6_party_157 : decode cX6_party 157 = .ok (.ifCond .eq 15, 3) := by decide +kernel
theorem dX6_party_160 : decode cX6_party 160 = .ok (.aload_n 0, 1) := by decide +kernel
theorem dX6_party_161 : decode cX6_party 161 = .ok (.getfield 51, 3) := by decide +kernel
theorem dX6_party_164 : decode cX6_party 164 = .ok (.bipush 17, 2) := by decide +kernel
theorem dX6_party_166 : decode cX6_party 166 = .ok (.iload_n 2, 1) := by decide +kernel
theorem dX6_party_167 : decode cX6_party 167 = .ok (.iadd, 1) := by decide +kernel
theorem dX6_party_168 : decode cX6_party 168 = .ok (.iaload, 1) := by decide +kernel
theorem dX6_party_169 : decode cX6_party 169 = .ok (.goto 4, 3) := by decide +kernel
theorem dX6_party_172 : decode cX6_party 172 = .ok (.iconst 0, 1) := by decide +kernel
theorem dX6_party_173 : decode cX6_party 173 = .ok (.iastore, 1) := by decide +kernel
theorem dX6_party_174 : decode cX6_party 174 = .ok (.iinc 2 1, 3) := by decide +kernel
theorem dX6_party_177 : decode cX6_party 177 = .ok (.goto (-91), 3) := by decide +kernel
theorem dX6_party_180 : decode cX6_party 180 = .ok (.aload_n 0, 1) := by decide +kernel
theorem dX6_party_181 : decode cX6_party 181 = .ok (.getfield 31, 3) := by decide +kernel
theorem dX6_party_184 : decode cX6_party 184 = .ok (.bipush 6, 2) := by decide +kernel
theorem dX6_party_186 : decode cX6_party 186 = .ok (.iconst 0, 1) := by decide +kernel
theorem dX6_party_187 : decode cX6_party 187 = .ok (.iastore, 1) := by decide +kernel
theorem dX6_party_188 : decode cX6_party 188 = .ok (.aload_n 0, 1) := by decide +kernel
theorem dX6_party_189 : decode cX6_party 189 = .ok (.iconst 0, 1) := by decide +kernel
theorem dX6_party_190 : decode cX6_party 190 = .ok (.putfield 137, 3) := by decide +kernel
theorem dX6_party_193 : decode cX6_party 193 = .ok (.iconst 0, 1) := by decide +kernel
theorem dX6_party_194 : decode cX6_party 194 = .ok (.istore_n 2, 1) := by decide +kernel
theorem dX6_party_195 : decode cX6_party 195 = .ok (.iload_n 2, 1) := by decide +kernel
theorem dX6_party_196 : decode cX6_party 196 = .ok (.iconst 3, 1) := by decide +kernel
theorem dX6_party_197 : decode cX6_party 197 = .ok (.if_icmp .ge 16, 3) := by decide +kernel
theorem dX6_party_200 : decode cX6_party 200 = .ok (.aload_n 0, 1) := by decide +kernel
theorem dX6_party_201 : decode cX6_party 201 = .ok (.getfield 40, 3) := by decide +kernel
theorem dX6_party_204 : decode cX6_party 204 = .ok (.iload_n 2, 1) := by decide +kernel
theorem dX6_party_205 : decode cX6_party 205 = .ok (.iconst 0, 1) := by decide +kernel
theorem dX6_party_206 : decode cX6_party 206 = .ok (.bastore, 1) := by decide +kernel
theorem dX6_party_207 : decode cX6_party 207 = .ok (.iinc 2 1, 3) := by decide +kernel
theorem dX6_party_210 : decode cX6_party 210 = .ok (.goto (-15), 3) := by decide +kernel
theorem dX6_party_213 : decode cX6_party 213 = .ok (.aload_n 0, 1) := by decide +kernel
theorem dX6_party_214 : decode cX6_party 214 = .ok (.getfield 131, 3) := by decide +kernel
theorem dX6_party_217 : decode cX6_party 217 = .ok (.ireturn, 1) := by decide +kernel
set_option maxRecDepth 20000 in
theorem ggX6_isGuest_X6_in : GoodIn wsX6_isGuest wsX6_in := goodIn_r _ [5] (by decide +kernel) (by decide +kernel)
set_option maxRecDepth 20000 in
theorem gX6_isGuest_X6_in : GoodIn wsX6_isGuest (va_wsS RX6 75 yX6_in wsX6_in) := goodIn_app (goodIn_of _ (by decide +kernel)) ggX6_isGuest_X6_in
theorem dX6_isGuest_0 : decode cX6_isGuest 0 = .ok (.iload_n 1, 1) := by decide +kernel
theorem dX6_isGuest_1 : decode cX6_isGuest 1 = .ok (.i2l, 1) := by decide +kernel
theorem dX6_isGuest_2 : decode cX6_isGuest 2 = .ok (.lconst 0, 1) := by decide +kernel
theorem dX6_isGuest_3 : decode cX6_isGuest 3 = .ok (.aload_n 0, 1) := by decide +kernel
theorem dX6_isGuest_4 : decode cX6_isGuest 4 = .ok (.getfield 131, 3) := by decide +kernel
theorem dX6_isGuest_7 : decode cX6_isGuest 7 = .ok (.iconst 1, 1) := by decide +kernel
theorem dX6_isGuest_8 : decode cX6_isGuest 8 = .ok (.isub, 1) := by decide +kernel
theorem dX6_isGuest_9 : decode cX6_isGuest 9 = .ok (.i2l, 1) := by decide +kernel
theorem dX6_isGuest_10 : decode cX6_isGuest 10 = .ok (.invokestatic 75, 3) := by decide +kernel
theorem dX6_isGuest_13 : decode cX6_isGuest 13 = .ok (.ireturn, 1) := by decide +kernel
set_option maxRecDepth 20000 in
theorem ggX6_isTune_X6_in : GoodIn wsX6_isTune wsX6_in := goodIn_r _ [5] (by decide +kernel) (by decide +kernel)
set_option maxRecDepth 20000 in
theorem gX6_isTune_X6_in : GoodIn wsX6_isTune (va_wsS RX6 75 yX6_in wsX6_in) := goodIn_app (goodIn_of _ (by decide +kernel)) ggX6_isTune_X6_in
theorem dX6_isTune_0 : decode cX6_isTune 0 = .ok (.iload_n 0, 1) := by decide +kernel
theorem dX6_isTune_1 : decode cX6_isTune 1 = .ok (.i2l, 1) := by decide +kernel
theorem dX6_isTune_2 : decode cX6_isTune 2 = .ok (.lconst 0, 1) := by decide +kernel
theorem dX6_isTune_3 : decode cX6_isTune 3 = .ok (.ldc2_w 79, 3) := by decide +kernel
theorem dX6_isTune_6 : decode cX6_isTune 6 = .ok (.invokestatic 75, 3) := by decide +kernel
theorem dX6_isTune_9 : decode cX6_isTune 9 = .ok (.ireturn, 1) := by decide +kernel
theorem dX6_has_0 : decode cX6_has 0 = .ok (.iload_n 0, 1) := by decide +kernel
theorem dX6_has_1 : decode cX6_has 1 = .ok (.iload_n 1, 1) := by decide +kernel
theorem dX6_has_2 : decode cX6_has 2 = .ok (.ishr, 1) := by decide +kernel
theorem dX6_has_3 : decode cX6_has 3 = .ok (.iconst 1, 1) := by decide +kernel
theorem dX6_has_4 : decode cX6_has 4 = .ok (.iand, 1) := by decide +kernel
theorem dX6_has_5 : decode cX6_has 5 = .ok (.iconst 1, 1) := by decide +kernel
theorem dX6_has_6 : decode cX6_has 6 = .ok (.if_icmp .ne 7, 3) := by decide +kernel
theorem dX6_has_9 : decode cX6_has 9 = .ok (.iconst 1, 1) := by decide +kernel
theorem dX6_has_10 : decode cX6_has 10 = .ok (.goto 4, 3) := by decide +kernel
theorem dX6_has_13 : decode cX6_has 13 = .ok (.iconst 0, 1) := by decide +kernel
theorem dX6_has_14 : decode cX6_has 14 = .ok (.ireturn, 1) := by decide +kernel
theorem dX6_bits_0 : decode cX6_bits 0 = .ok (.iconst 0, 1) := by decide +kernel
theorem dX6_bits_1 : decode cX6_bits 1 = .ok (.istore_n 1, 1) := by decide +kernel
theorem dX6_bits_2 : decode cX6_bits 2 = .ok (.iload_n 0, 1) := by decide +kernel
theorem dX6_bits_3 : decode cX6_bits 3 = .ok (.istore_n 2, 1) := by decide +kernel
theorem dX6_bits_4 : decode cX6_bits 4 = .ok (.iload_n 2, 1) := by decide +kernel
theorem dX6_bits_5 : decode cX6_bits 5 = .ok (.ifCond .eq 15, 3) := by decide +kernel
theorem dX6_bits_8 : decode cX6_bits 8 = .ok (.iinc 1 1, 3) := by decide +kernel
theorem dX6_bits_11 : decode cX6_bits 11 = .ok (.iload_n 2, 1) := by decide +kernel
theorem dX6_bits_12 : decode cX6_bits 12 = .ok (.iload_n 2, 1) := by decide +kernel
theorem dX6_bits_13 : decode cX6_bits 13 = .ok (.iconst 1, 1) := by decide +kernel
theorem dX6_bits_14 : decode cX6_bits 14 = .ok (.isub, 1) := by decide +kernel
theorem dX6_bits_15 : decode cX6_bits 15 = .ok (.iand, 1) := by decide +kernel
theorem dX6_bits_16 : decode cX6_bits 16 = .ok (.istore_n 2, 1) := by decide +kernel
theorem dX6_bits_17 : decode cX6_bits 17 = .ok (.goto (-13), 3) := by decide +kernel
theorem dX6_bits_20 : decode cX6_bits 20 = .ok (.iload_n 1, 1) := by decide +kernel
theorem dX6_bits_21 : decode cX6_bits 21 = .ok (.ireturn, 1) := by decide +kernel
theorem dX6_everybody_0 : decode cX6_everybody 0 = .ok (.iconst 1, 1) := by decide +kernel
theorem dX6_everybody_1 : decode cX6_everybody 1 = .ok (.aload_n 0, 1) := by decide +kernel
theorem dX6_everybody_2 : decode cX6_everybody 2 = .ok (.getfield 131, 3) := by decide +kernel
theorem dX6_everybody_5 : decode cX6_everybody 5 = .ok (.ishl, 1) := by decide +kernel
theorem dX6_everybody_6 : decode cX6_everybody 6 = .ok (.iconst 1, 1) := by decide +kernel
theorem dX6_everybody_7 : decode cX6_everybody 7 = .ok (.isub, 1) := by decide +kernel
theorem dX6_everybody_8 : decode cX6_everybody 8 = .ok (.ireturn, 1) := by decide +kernel
set_option maxRecDepth 20000 in
theorem ggX6_inside_X6_everybody : GoodIn wsX6_inside wsX6_everybody := goodIn_r _ [5, 6, 7, 8, 9, 10, 11, 12, 13, 14, 15, 16, 17, 18, 19, 20, 21, 22, 23, 24, 25, 26, 27, 28, 29, 30, 31, 32, 33] (by decide +kernel) (by decide +kernel)
set_option maxRecDepth 20000 in
theorem gX6_inside_X6_everybody : GoodIn wsX6_inside (wsV RX6 140 RX6 yX6_everybody wsX6_everybody) := goodIn_app (goodIn_of _ (by decide +kernel)) ggX6_inside_X6_everybody
theorem dX6_inside_0 : decode cX6_inside 0 = .ok (.aload_n 0, 1) := by decide +kernel
theorem dX6_inside_1 : decode cX6_inside 1 = .ok (.invokevirtual 140, 3) := by decide +kernel
theorem dX6_inside_4 : decode cX6_inside 4 = .ok (.aload_n 1, 1) := by decide +kernel
theorem dX6_inside_5 : decode cX6_inside 5 = .ok (.bipush 6, 2) := by decide +kernel
theorem dX6_inside_7 : decode cX6_inside 7 = .ok (.iaload, 1) := by decide +kernel
theorem dX6_inside_8 : decode cX6_inside 8 = .ok (.iconst (-1), 1) := by decide +kernel
theorem dX6_inside_9 : decode cX6_inside 9 = .ok (.ixor, 1) := by decide +kernel
theorem dX6_inside_10 : decode cX6_inside 10 = .ok (.iand, 1) := by decide +kernel
theorem dX6_inside_11 : decode cX6_inside 11 = .ok (.ireturn, 1) := by decide +kernel
theorem dX6_isOf_0 : decode cX6_isOf 0 = .ok (.iload_n 1, 1) := by decide +kernel
theorem dX6_isOf_1 : decode cX6_isOf 1 = .ok (.ifCond .eq 28, 3) := by decide +kernel
theorem dX6_isOf_4 : decode cX6_isOf 4 = .ok (.iload_n 0, 1) := by decide +kernel
theorem dX6_isOf_5 : decode cX6_isOf 5 = .ok (.iload_n 1, 1) := by decide +kernel
theorem dX6_isOf_6 : decode cX6_isOf 6 = .ok (.if_icmp .eq 23, 3) := by decide +kernel
theorem dX6_isOf_9 : decode cX6_isOf 9 = .ok (.iload_n 1, 1) := by decide +kernel
theorem dX6_isOf_10 : decode cX6_isOf 10 = .ok (.iconst 1, 1) := by decide +kernel
theorem dX6_isOf_11 : decode cX6_isOf 11 = .ok (.if_icmp .ne 8, 3) := by decide +kernel
theorem dX6_isOf_14 : decode cX6_isOf 14 = .ok (.iload_n 0, 1) := by decide +kernel
theorem dX6_isOf_15 : decode cX6_isOf 15 = .ok (.iconst 4, 1) := by decide +kernel
theorem dX6_isOf_16 : decode cX6_isOf 16 = .ok (.if_icmp .eq 13, 3) := by decide +kernel
theorem dX6_isOf_19 : decode cX6_isOf 19 = .ok (.iload_n 1, 1) := by decide +kernel
theorem dX6_isOf_20 : decode cX6_isOf 20 = .ok (.iconst 2, 1) := by decide +kernel
theorem dX6_isOf_21 : decode cX6_isOf 21 = .ok (.if_icmp .ne 12, 3) := by decide +kernel
theorem dX6_isOf_24 : decode cX6_isOf 24 = .ok (.iload_n 0, 1) := by decide +kernel
theorem dX6_isOf_25 : decode cX6_isOf 25 = .ok (.iconst 5, 1) := by decide +kernel
theorem dX6_isOf_26 : decode cX6_isOf 26 = .ok (.if_icmp .ne 7, 3) := by decide +kernel
theorem dX6_isOf_29 : decode cX6_isOf 29 = .ok (.iconst 1, 1) := by decide +kernel
theorem dX6_isOf_30 : decode cX6_isOf 30 = .ok (.goto 4, 3) := by decide +kernel
theorem dX6_isOf_33 : decode cX6_isOf 33 = .ok (.iconst 0, 1) := by decide +kernel
theorem dX6_isOf_34 : decode cX6_isOf 34 = .ok (.ireturn, 1) := by decide +kernel
theorem dX6_kept20_0 : decode cX6_kept20 0 = .ok (.iload_n 0, 1) := by decide +kernel
theorem dX6_kept20_1 : decode cX6_kept20 1 = .ok (.ifCond .ge 7, 3) := by decide +kernel
theorem dX6_kept20_4 : decode cX6_kept20 4 = .ok (.iconst 0, 1) := by decide +kernel
theorem dX6_kept20_5 : decode cX6_kept20 5 = .ok (.goto 15, 3) := by decide +kernel
theorem dX6_kept20_8 : decode cX6_kept20 8 = .ok (.iload_n 0, 1) := by decide +kernel
theorem dX6_kept20_9 : decode cX6_kept20 9 = .ok (.bipush 20, 2) := by decide +kernel
theorem dX6_kept20_11 : decode cX6_kept20 11 = .ok (.if_icmp .le 8, 3) := by decide +kernel
theorem dX6_kept20_14 : decode cX6_kept20 14 = .ok (.bipush 20, 2) := by decide +kernel
theorem dX6_kept20_16 : decode cX6_kept20 16 = .ok (.goto 4, 3) := by decide +kernel
theorem dX6_kept20_19 : decode cX6_kept20 19 = .ok (.iload_n 0, 1) := by decide +kernel
theorem dX6_kept20_20 : decode cX6_kept20 20 = .ok (.ireturn, 1) := by decide +kernel
set_option maxRecDepth 20000 in
theorem ggX6_griefBehind_X6_isOf : GoodIn wsX6_griefBehind wsX6_isOf := goodIn_r _ [4] (by decide +kernel) (by decide +kernel)
set_option maxRecDepth 20000 in
theorem gX6_griefBehind_X6_isOf : GoodIn wsX6_griefBehind (va_wsS RX6 144 yX6_isOf wsX6_isOf) := goodIn_app (goodIn_of _ (by decide +kernel)) ggX6_griefBehind_X6_isOf
set_option maxRecDepth 20000 in
theorem ggX6_griefBehind_X6_kept20 : GoodIn wsX6_griefBehind wsX6_kept20 := goodIn_r _ [7] (by decide +kernel) (by decide +kernel)
set_option maxRecDepth 20000 in
theorem gX6_griefBehind_X6_kept20 : GoodIn wsX6_griefBehind (va_wsS RX6 148 yX6_kept20 wsX6_kept20) := goodIn_app (goodIn_of _ (by decide +kernel)) ggX6_griefBehind_X6_kept20
theorem dX6_griefBehind_0 : decode cX6_griefBehind 0 = .ok (.iload_n 0, 1) := by decide +kernel
theorem dX6_griefBehind_1 : decode cX6_griefBehind 1 = .ok (.iconst 4, 1) := by decide +kernel
theorem dX6_griefBehind_2 : decode cX6_griefBehind 2 = .ok (.if_icmp .ne 10, 3) := by decide +kernel
theorem dX6_griefBehind_5 : decode cX6_griefBehind 5 = .ok (.iload_n 2, 1) := by decide +kernel
theorem dX6_griefBehind_6 : decode cX6_griefBehind 6 = .ok (.iconst 1, 1) := by decide +kernel
theorem dX6_griefBehind_7 : decode cX6_griefBehind 7 = .ok (.if_icmp .ne 5, 3) := by decide +kernel
theorem dX6_griefBehind_10 : decode cX6_griefBehind 10 = .ok (.iconst 0, 1) := by decide +kernel
theorem dX6_griefBehind_11 : decode cX6_griefBehind 11 = .ok (.ireturn, 1) := by decide +kernel
theorem dX6_griefBehind_12 : decode cX6_griefBehind 12 = .ok (.iload_n 3, 1) := by decide +kernel
theorem dX6_griefBehind_13 : decode cX6_griefBehind 13 = .ok (.istore 4, 2) := by decide +kernel
theorem dX6_griefBehind_15 : decode cX6_griefBehind 15 = .ok (.iload_n 0, 1) := by decide +kernel
theorem dX6_griefBehind_16 : decode cX6_griefBehind 16 = .ok (.iconst 1, 1) := by decide +kernel
theorem dX6_griefBehind_17 : decode cX6_griefBehind 17 = .ok (.invokestatic 144, 3) := by decide +kernel
theorem dX6_griefBehind_20 : decode cX6_griefBehind 20 = .ok (.ifCond .eq 26, 3) := by decide +kernel
theorem dX6_griefBehind_23 : decode cX6_griefBehind 23 = .ok (.iload 4, 2) := by decide +kernel
theorem dX6_griefBehind_25 : decode cX6_griefBehind 25 = .ok (.iload_n 2, 1) := by decide +kernel
theorem dX6_griefBehind_26 : decode cX6_griefBehind 26 = .ok (.iconst 1, 1) := by decide +kernel
theorem dX6_griefBehind_27 : decode cX6_griefBehind 27 = .ok (.if_icmp .eq 8, 3) := by decide +kernel
theorem dX6_griefBehind_30 : decode cX6_griefBehind 30 = .ok (.iload_n 2, 1) := by decide +kernel
theorem dX6_griefBehind_31 : decode cX6_griefBehind 31 = .ok (.iconst 2, 1) := by decide +kernel
theorem dX6_griefBehind_32 : decode cX6_griefBehind 32 = .ok (.if_icmp .ne 7, 3) := by decide +kernel
theorem dX6_griefBehind_35 : decode cX6_griefBehind 35 = .ok (.iconst 1, 1) := by decide +kernel
theorem dX6_griefBehind_36 : decode cX6_griefBehind 36 = .ok (.goto 4, 3) := by decide +kernel
theorem dX6_griefBehind_39 : decode cX6_griefBehind 39 = .ok (.iconst 0, 1) := by decide +kernel
theorem dX6_griefBehind_40 : decode cX6_griefBehind 40 = .ok (.isub, 1) := by decide +kernel
theorem dX6_griefBehind_41 : decode cX6_griefBehind 41 = .ok (.istore 4, 2) := by decide +kernel
theorem dX6_griefBehind_43 : decode cX6_griefBehind 43 = .ok (.goto 49, 3) := by decide +kernel
theorem dX6_griefBehind_46 : decode cX6_griefBehind 46 = .ok (.iload_n 0, 1) := by decide +kernel
theorem dX6_griefBehind_47 : decode cX6_griefBehind 47 = .ok (.iconst 2, 1) := by decide +kernel
theorem dX6_griefBehind_48 : decode cX6_griefBehind 48 = .ok (.invokestatic 144, 3) := by decide +kernel
theorem dX6_griefBehind_51 : decode cX6_griefBehind 51 = .ok (.ifCond .eq 20, 3) := by decide +kernel
theorem dX6_griefBehind_54 : decode cX6_griefBehind 54 = .ok (.iload 4, 2) := by decide +kernel
theorem dX6_griefBehind_56 : decode cX6_griefBehind 56 = .ok (.iconst 1, 1) := by decide +kernel
theorem dX6_griefBehind_57 : decode cX6_griefBehind 57 = .ok (.if_icmp .le 7, 3) := by decide +kernel
theorem dX6_griefBehind_60 : decode cX6_griefBehind 60 = .ok (.iconst 1, 1) := by decide +kernel
theorem dX6_griefBehind_61 : decode cX6_griefBehind 61 = .ok (.goto 5, 3) := by decide +kernel
theorem dX6_griefBehind_64 : decode cX6_griefBehind 64 = .ok (.iload 4, 2) := by decide +kernel
theorem dX6_griefBehind_66 : decode cX6_griefBehind 66 = .ok (.istore 4, 2) := by decide +kernel
theorem dX6_griefBehind_68 : decode cX6_griefBehind 68 = .ok (.goto 24, 3) := by decide +kernel
theorem dX6_griefBehind_71 : decode cX6_griefBehind 71 = .ok (.iload_n 0, 1) := by decide +kernel
theorem dX6_griefBehind_72 : decode cX6_griefBehind 72 = .ok (.iconst 3, 1) := by decide +kernel
theorem dX6_griefBehind_73 : decode cX6_griefBehind 73 = .ok (.if_icmp .ne 19, 3) := by decide +kernel
theorem dX6_griefBehind_76 : decode cX6_griefBehind 76 = .ok (.iload 4, 2) := by decide +kernel
theorem dX6_griefBehind_78 : decode cX6_griefBehind 78 = .ok (.ifCond .le 10, 3) := by decide +kernel
theorem dX6_griefBehind_81 : decode cX6_griefBehind 81 = .ok (.iconst 2, 1) := by decide +kernel
theorem dX6_griefBehind_82 : decode cX6_griefBehind 82 = .ok (.iload 4, 2) := by decide +kernel
theorem dX6_griefBehind_84 : decode cX6_griefBehind 84 = .ok (.imul, 1) := by decide +kernel
theorem dX6_griefBehind_85 : decode cX6_griefBehind 85 = .ok (.goto 5, 3) := by decide +kernel
theorem dX6_griefBehind_88 : decode cX6_griefBehind 88 = .ok (.iload 4, 2) := by decide +kernel
theorem dX6_griefBehind_90 : decode cX6_griefBehind 90 = .ok (.istore 4, 2) := by decide +kernel
theorem dX6_griefBehind_92 : decode cX6_griefBehind 92 = .ok (.iload_n 1, 1) := by decide +kernel
theorem dX6_griefBehind_93 : decode cX6_griefBehind 93 = .ok (.iload 4, 2) := by decide +kernel
theorem dX6_griefBehind_95 : decode cX6_griefBehind 95 = .ok (.iadd, 1) := by decide +kernel
theorem dX6_griefBehind_96 : decode cX6_griefBehind 96 = .ok (.invokestatic 148, 3) := by decide +kernel
theorem dX6_griefBehind_99 : decode cX6_griefBehind 99 = .ok (.ireturn, 1) := by decide +kernel
set_option maxRecDepth 20000 in
theorem ggX6_named_X6_isOf : GoodIn wsX6_named wsX6_isOf := goodIn_r _ [4] (by decide +kernel) (by decide +kernel)
set_option maxRecDepth 20000 in
theorem gX6_named_X6_isOf : GoodIn wsX6_named (va_wsS RX6 144 yX6_isOf wsX6_isOf) := goodIn_app (goodIn_of _ (by decide +kernel)) ggX6_named_X6_isOf
set_option maxRecDepth 20000 in
theorem ggX6_named_X6_kept20 : GoodIn wsX6_named wsX6_kept20 := goodIn_r _ [7] (by decide +kernel) (by decide +kernel)
set_option maxRecDepth 20000 in
theorem gX6_named_X6_kept20 : GoodIn wsX6_named (va_wsS RX6 148 yX6_kept20 wsX6_kept20) := goodIn_app (goodIn_of _ (by decide +kernel)) ggX6_named_X6_kept20
theorem dX6_named_0 : decode cX6_named 0 = .ok (.iload_n 1, 1) := by decide +kernel
theorem dX6_named_1 : decode cX6_named 1 = .ok (.iload_n 0, 1) := by decide +kernel
theorem dX6_named_2 : decode cX6_named 2 = .ok (.iconst 2, 1) := by decide +kernel
theorem dX6_named_3 : decode cX6_named 3 = .ok (.invokestatic 144, 3) := by decide +kernel
theorem dX6_named_6 : decode cX6_named 6 = .ok (.ifCond .eq 7, 3) := by decide +kernel
theorem dX6_named_9 : decode cX6_named 9 = .ok (.iconst 1, 1) := by decide +kernel
theorem dX6_named_10 : decode cX6_named 10 = .ok (.goto 13, 3) := by decide +kernel
theorem dX6_named_13 : decode cX6_named 13 = .ok (.iload_n 0, 1) := by decide +kernel
theorem dX6_named_14 : decode cX6_named 14 = .ok (.iconst 3, 1) := by decide +kernel
theorem dX6_named_15 : decode cX6_named 15 = .ok (.if_icmp .ne 7, 3) := by decide +kernel
theorem dX6_named_18 : decode cX6_named 18 = .ok (.iconst 4, 1) := by decide +kernel
theorem dX6_named_19 : decode cX6_named 19 = .ok (.goto 4, 3) := by decide +kernel
theorem dX6_named_22 : decode cX6_named 22 = .ok (.iconst 2, 1) := by decide +kernel
theorem dX6_named_23 : decode cX6_named 23 = .ok (.iadd, 1) := by decide +kernel
theorem dX6_named_24 : decode cX6_named 24 = .ok (.invokestatic 148, 3) := by decide +kernel
theorem dX6_named_27 : decode cX6_named 27 = .ok (.ireturn, 1) := by decide +kernel
set_option maxRecDepth 20000 in
theorem ggX6_isSeen_X6_has : GoodIn wsX6_isSeen wsX6_has := goodIn_r _ [6] (by decide +kernel) (by decide +kernel)
set_option maxRecDepth 20000 in
theorem gX6_isSeen_X6_has : GoodIn wsX6_isSeen (va_wsS RX6 151 yX6_has wsX6_has) := goodIn_app (goodIn_of _ (by decide +kernel)) ggX6_isSeen_X6_has
theorem dX6_isSeen_0 : decode cX6_isSeen 0 = .ok (.iconst 0, 1) := by decide +kernel
theorem dX6_isSeen_1 : decode cX6_isSeen 1 = .ok (.istore_n 3, 1) := by decide +kernel
theorem dX6_isSeen_2 : decode cX6_isSeen 2 = .ok (.iconst 0, 1) := by decide +kernel
theorem dX6_isSeen_3 : decode cX6_isSeen 3 = .ok (.istore 4, 2) := by decide +kernel
theorem dX6_isSeen_5 : decode cX6_isSeen 5 = .ok (.iload 4, 2) := by decide +kernel
theorem dX6_isSeen_7 : decode cX6_isSeen 7 = .ok (.aload_n 0, 1) := by decide +kernel
theorem dX6_isSeen_8 : decode cX6_isSeen 8 = .ok (.getfield 131, 3) := by decide +kernel
theorem dX6_isSeen_11 : decode cX6_isSeen 11 = .ok (.if_icmp .ge 42, 3) := by decide +kernel
theorem dX6_isSeen_14 : decode cX6_isSeen 14 = .ok (.iload_n 3, 1) := by decide +kernel
theorem dX6_isSeen_15 : decode cX6_isSeen 15 = .ok (.ifCond .ne 26, 3) := by decide +kernel
theorem dX6_isSeen_18 : decode cX6_isSeen 18 = .ok (.iload_n 2, 1) := by decide +kernel
theorem dX6_isSeen_19 : decode cX6_isSeen 19 = .ok (.iload 4, 2) := by decide +kernel
theorem dX6_isSeen_21 : decode cX6_isSeen 21 = .ok (.invokestatic 151, 3) := by decide +kernel
theorem dX6_isSeen_24 : decode cX6_isSeen 24 = .ok (.ifCond .eq 21, 3) := by decide +kernel
theorem dX6_isSeen_27 : decode cX6_isSeen 27 = .ok (.aload_n 0, 1) := by decide +kernel
theorem dX6_isSeen_28 : decode cX6_isSeen 28 = .ok (.getfield 28, 3) := by decide +kernel
theorem dX6_isSeen_31 : decode cX6_isSeen 31 = .ok (.iload 4, 2) := by decide +kernel
theorem dX6_isSeen_33 : decode cX6_isSeen 33 = .ok (.iaload, 1) := by decide +kernel
theorem dX6_isSeen_34 : decode cX6_isSeen 34 = .ok (.iload_n 1, 1) := by decide +kernel
theorem dX6_isSeen_35 : decode cX6_isSeen 35 = .ok (.invokestatic 151, 3) := by decide +kernel
theorem dX6_isSeen_38 : decode cX6_isSeen 38 = .ok (.ifCond .eq 7, 3) := by decide +kernel
theorem dX6_isSeen_41 : decode cX6_isSeen 41 = .ok (.iconst 1, 1) := by decide +kernel
theorem dX6_isSeen_42 : decode cX6_isSeen 42 = .ok (.goto 4, 3) := by decide +kernel
theorem dX6_isSeen_45 : decode cX6_isSeen 45 = .ok (.iconst 0, 1) := by decide +kernel
theorem dX6_isSeen_46 : decode cX6_isSeen 46 = .ok (.istore_n 3, 1) := by decide +kernel
theorem dX6_isSeen_47 : decode cX6_isSeen 47 = .ok (.iinc 4 1, 3) := by decide +kernel
theorem dX6_isSeen_50 : decode cX6_isSeen 50 = .ok (.goto (-45), 3) := by decide +kernel
theorem dX6_isSeen_53 : decode cX6_isSeen 53 = .ok (.iload_n 3, 1) := by decide +kernel
theorem dX6_isSeen_54 : decode cX6_isSeen 54 = .ok (.ireturn, 1) := by decide +kernel
set_option maxRecDepth 20000 in
theorem ggX6_looks_X6_inside : GoodIn wsX6_looks wsX6_inside := goodIn_r _ [8, 9, 10, 11, 7, 12, 1, 21, 22, 23, 24, 25, 26, 27, 28, 29, 30, 31, 32, 33, 34, 35, 36, 37, 38, 39, 40, 41, 42, 43, 44, 45, 46, 47] (by decide +kernel) (by decide +kernel)
set_option maxRecDepth 20000 in
theorem gX6_looks_X6_inside : GoodIn wsX6_looks (wsV RX6 154 RX6 yX6_inside wsX6_inside) := goodIn_app (goodIn_of _ (by decide +kernel)) ggX6_looks_X6_inside
set_option maxRecDepth 20000 in
theorem ggX6_looks_X6_has : GoodIn wsX6_looks wsX6_has := goodIn_r _ [15] (by decide +kernel) (by decide +kernel)
set_option maxRecDepth 20000 in
theorem gX6_looks_X6_has : GoodIn wsX6_looks (va_wsS RX6 151 yX6_has wsX6_has) := goodIn_app (goodIn_of _ (by decide +kernel)) ggX6_looks_X6_has
set_option maxRecDepth 20000 in
theorem ggX6_looks_X6_isSeen : GoodIn wsX6_looks wsX6_isSeen := goodIn_r _ [19, 1, 20, 13, 14, 7, 15, 21, 22, 23, 24, 25, 26, 27, 28, 29, 30, 31, 32, 33, 34, 35, 36, 37, 38, 39, 40, 41, 42, 43, 44, 45, 46, 47] (by decide +kernel) (by decide +kernel)
set_option maxRecDepth 20000 in
theorem gX6_looks_X6_isSeen : GoodIn wsX6_looks (wsV RX6 158 RX6 yX6_isSeen wsX6_isSeen) := goodIn_app (goodIn_of _ (by decide +kernel)) ggX6_looks_X6_isSeen
theorem dX6_looks_0 : decode cX6_looks 0 = .ok (.aload_n 0, 1) := by decide +kernel
theorem dX6_looks_1 : decode cX6_looks 1 = .ok (.aload_n 1, 1) := by decide +kernel
theorem dX6_looks_2 : decode cX6_looks 2 = .ok (.invokevirtual 154, 3) := by decide +kernel
theorem dX6_looks_5 : decode cX6_looks 5 = .ok (.istore_n 2, 1) := by decide +kernel
theorem dX6_looks_6 : decode cX6_looks 6 = .ok (.iconst 0, 1) := by decide +kernel
theorem dX6_looks_7 : decode cX6_looks 7 = .ok (.istore_n 3, 1) := by decide +kernel
theorem dX6_looks_8 : decode cX6_looks 8 = .ok (.iconst 0, 1) := by decide +kernel
theorem dX6_looks_9 : decode cX6_looks 9 = .ok (.istore 4, 2) := by decide +kernel
theorem dX6_looks_11 : decode cX6_looks 11 = .ok (.iload 4, 2) := by decide +kernel
theorem dX6_looks_13 : decode cX6_looks 13 = .ok (.aload_n 0, 1) := by decide +kernel
theorem dX6_looks_14 : decode cX6_looks 14 = .ok (.getfield 131, 3) := by decide +kernel
theorem dX6_looks_17 : decode cX6_looks 17 = .ok (.if_icmp .ge 73, 3) := by decide +kernel
theorem dX6_looks_20 : decode cX6_looks 20 = .ok (.iload_n 2, 1) := by decide +kernel
theorem dX6_looks_21 : decode cX6_looks 21 = .ok (.iload 4, 2) := by decide +kernel
theorem dX6_looks_23 : decode cX6_looks 23 = .ok (.invokestatic 151, 3) := by decide +kernel
theorem dX6_looks_26 : decode cX6_looks 26 = .ok (.ifCond .eq 39, 3) := by decide +kernel
theorem dX6_looks_29 : decode cX6_looks 29 = .ok (.aload_n 1, 1) := by decide +kernel
theorem dX6_looks_30 : decode cX6_looks 30 = .ok (.iload 4, 2) := by decide +kernel
theorem dX6_looks_32 : decode cX6_looks 32 = .ok (.iaload, 1) := by decide +kernel
theorem dX6_looks_33 : decode cX6_looks 33 = .ok (.aload_n 0, 1) := by decide +kernel
theorem dX6_looks_34 : decode cX6_looks 34 = .ok (.getfield 134, 3) := by decide +kernel
theorem dX6_looks_37 : decode cX6_looks 37 = .ok (.if_icmp .le 28, 3) := by decide +kernel
theorem dX6_looks_40 : decode cX6_looks 40 = .ok (.aload_n 0, 1) := by decide +kernel
theorem dX6_looks_41 : decode cX6_looks 41 = .ok (.getfield 25, 3) := by decide +kernel
theorem dX6_looks_44 : decode cX6_looks 44 = .ok (.iload 4, 2) := by decide +kernel
theorem dX6_looks_46 : decode cX6_looks 46 = .ok (.iaload, 1) := by decide +kernel
theorem dX6_looks_47 : decode cX6_looks 47 = .ok (.iconst 5, 1) := by decide +kernel
theorem dX6_looks_48 : decode cX6_looks 48 = .ok (.if_icmp .eq 17, 3) := by decide +kernel
theorem dX6_looks_51 : decode cX6_looks 51 = .ok (.aload_n 0, 1) := by decide +kernel
theorem dX6_looks_52 : decode cX6_looks 52 = .ok (.iload 4, 2) := by decide +kernel
theorem dX6_looks_54 : decode cX6_looks 54 = .ok (.iload_n 2, 1) := by decide +kernel
theorem dX6_looks_55 : decode cX6_looks 55 = .ok (.invokevirtual 158, 3) := by decide +kernel
theorem dX6_looks_58 : decode cX6_looks 58 = .ok (.ifCond .eq 7, 3) := by decide +kernel
theorem dX6_looks_61 : decode cX6_looks 61 = .ok (.iconst 1, 1) := by decide +kernel
theorem dX6_looks_62 : decode cX6_looks 62 = .ok (.goto 4, 3) := by decide +kernel
theorem dX6_looks_65 : decode cX6_looks 65 = .ok (.iconst 0, 1) := by decide +kernel
theorem dX6_looks_66 : decode cX6_looks 66 = .ok (.istore 5, 2) := by decide +kernel
theorem dX6_looks_68 : decode cX6_looks 68 = .ok (.iload_n 3, 1) := by decide +kernel
theorem dX6_looks_69 : decode cX6_looks 69 = .ok (.iload 5, 2) := by decide +kernel
theorem dX6_looks_71 : decode cX6_looks 71 = .ok (.ifCond .eq 10, 3) := by decide +kernel
theorem dX6_looks_74 : decode cX6_looks 74 = .ok (.iconst 1, 1) := by decide +kernel
theorem dX6_looks_75 : decode cX6_looks 75 = .ok (.iload 4, 2) := by decide +kernel
theorem dX6_looks_77 : decode cX6_looks 77 = .ok (.ishl, 1) := by decide +kernel
theorem dX6_looks_78 : decode cX6_looks 78 = .ok (.goto 4, 3) := by decide +kernel
theorem dX6_looks_81 : decode cX6_looks 81 = .ok (.iconst 0, 1) := by decide +kernel
theorem dX6_looks_82 : decode cX6_looks 82 = .ok (.ior, 1) := by decide +kernel
theorem dX6_looks_83 : decode cX6_looks 83 = .ok (.istore_n 3, 1) := by decide +kernel
theorem dX6_looks_84 : decode cX6_looks 84 = .ok (.iinc 4 1, 3) := by decide +kernel
theorem dX6_looks_87 : decode cX6_looks 87 = .ok (.goto (-76), 3) := by decide +kernel
theorem dX6_looks_90 : decode cX6_looks 90 = .ok (.iconst 0, 1) := by decide +kernel
theorem dX6_looks_91 : decode cX6_looks 91 = .ok (.istore 4, 2) := by decide +kernel
theorem dX6_looks_93 : decode cX6_looks 93 = .ok (.iload 4, 2) := by decide +kernel
theorem dX6_looks_95 : decode cX6_looks 95 = .ok (.aload_n 0, 1) := by decide +kernel
theorem dX6_looks_96 : decode cX6_looks 96 = .ok (.getfield 131, 3) := by decide +kernel
theorem dX6_looks_99 : decode cX6_looks 99 = .ok (.if_icmp .ge 30, 3) := by decide +kernel
theorem dX6_looks_102 : decode cX6_looks 102 = .ok (.aload_n 1, 1) := by decide +kernel
theorem dX6_looks_103 : decode cX6_looks 103 = .ok (.iload 4, 2) := by decide +kernel
theorem dX6_looks_105 : decode cX6_looks 105 = .ok (.iload_n 3, 1) := by decide +kernel
theorem dX6_looks_106 : decode cX6_looks 106 = .ok (.iload 4, 2) := by decide +kernel
theorem dX6_looks_108 : decode cX6_looks 108 = .ok (.invokestatic 151, 3) := by decide +kernel
theorem dX6_looks_111 : decode cX6_looks 111 = .ok (.ifCond .eq 7, 3) := by decide +kernel
theorem dX6_looks_114 : decode cX6_looks 114 = .ok (.iconst 0, 1) := by decide +kernel
theorem dX6_looks_115 : decode cX6_looks 115 = .ok (.goto 7, 3) := by decide +kernel
theorem dX6_looks_118 : decode cX6_looks 118 = .ok (.aload_n 1, 1) := by decide +kernel
theorem dX6_looks_119 : decode cX6_looks 119 = .ok (.iload 4, 2) := by decide +kernel
theorem dX6_looks_121 : decode cX6_looks 121 = .ok (.iaload, 1) := by decide +kernel
theorem dX6_looks_122 : decode cX6_looks 122 = .ok (.iastore, 1) := by decide +kernel
theorem dX6_looks_123 : decode cX6_looks 123 = .ok (.iinc 4 1, 3) := by decide +kernel
theorem dX6_looks_126 : decode cX6_looks 126 = .ok (.goto (-33), 3) := by decide +kernel
theorem dX6_looks_129 : decode cX6_looks 129 = .ok (.aload_n 1, 1) := by decide +kernel
theorem dX6_looks_130 : decode cX6_looks 130 = .ok (.bipush 6, 2) := by decide +kernel
theorem dX6_looks_132 : decode cX6_looks 132 = .ok (.dup2, 1) := by decide +kernel
theorem dX6_looks_133 : decode cX6_looks 133 = .ok (.iaload, 1) := by decide +kernel
theorem dX6_looks_134 : decode cX6_looks 134 = .ok (.iload_n 3, 1) := by decide +kernel
theorem dX6_looks_135 : decode cX6_looks 135 = .ok (.ior, 1) := by decide +kernel
theorem dX6_looks_136 : decode cX6_looks 136 = .ok (.iastore, 1) := by decide +kernel
theorem dX6_looks_137 : decode cX6_looks 137 = .ok (.iload_n 3, 1) := by decide +kernel
theorem dX6_looks_138 : decode cX6_looks 138 = .ok (.ireturn, 1) := by decide +kernel
set_option maxRecDepth 20000 in
theorem ggX6_plays_X6_has : GoodIn wsX6_plays wsX6_has := goodIn_r _ [7] (by decide +kernel) (by decide +kernel)
set_option maxRecDepth 20000 in
theorem gX6_plays_X6_has : GoodIn wsX6_plays (va_wsS RX6 151 yX6_has wsX6_has) := goodIn_app (goodIn_of _ (by decide +kernel)) ggX6_plays_X6_has
set_option maxRecDepth 20000 in
theorem ggX6_plays_X6_griefBehind : GoodIn wsX6_plays wsX6_griefBehind := goodIn_r _ [10, 11, 12, 6, 13, 14, 15, 16] (by decide +kernel) (by decide +kernel)
set_option maxRecDepth 20000 in
theorem gX6_plays_X6_griefBehind : GoodIn wsX6_plays (va_wsS RX6 161 yX6_griefBehind wsX6_griefBehind) := goodIn_app (goodIn_of _ (by decide +kernel)) ggX6_plays_X6_griefBehind
set_option maxRecDepth 20000 in
theorem ggX6_plays_X6_looks : GoodIn wsX6_plays wsX6_looks := goodIn_r _ [20, 1, 21, 2, 22, 23, 24, 6, 25, 26, 27, 28, 29, 4, 5, 7, 30, 31, 32, 33, 34, 35, 36, 37, 38, 39, 40, 41, 42, 43, 44, 45, 46, 47, 48, 49, 50, 51, 52, 53, 54, 55, 56, 57, 58, 59, 60, 61] (by decide +kernel) (by decide +kernel)
set_option maxRecDepth 20000 in
theorem gX6_plays_X6_looks : GoodIn wsX6_plays (wsV RX6 165 RX6 yX6_looks wsX6_looks) := goodIn_app (goodIn_of _ (by decide +kernel)) ggX6_plays_X6_looks
theorem dX6_plays_0 : decode cX6_plays 0 = .ok (.iconst 0, 1) := by decide +kernel
theorem dX6_plays_1 : decode cX6_plays 1 = .ok (.istore_n 3, 1) := by decide +kernel
theorem dX6_plays_2 : decode cX6_plays 2 = .ok (.iload_n 3, 1) := by decide +kernel
theorem dX6_plays_3 : decode cX6_plays 3 = .ok (.aload_n 0, 1) := by decide +kernel
theorem dX6_plays_4 : decode cX6_plays 4 = .ok (.getfield 131, 3) := by decide +kernel
theorem dX6_plays_7 : decode cX6_plays 7 = .ok (.if_icmp .ge 46, 3) := by decide +kernel
theorem dX6_plays_10 : decode cX6_plays 10 = .ok (.aload_n 1, 1) := by decide +kernel
theorem dX6_plays_11 : decode cX6_plays 11 = .ok (.iload_n 3, 1) := by decide +kernel
theorem dX6_plays_12 : decode cX6_plays 12 = .ok (.aload_n 1, 1) := by decide +kernel
theorem dX6_plays_13 : decode cX6_plays 13 = .ok (.bipush 6, 2) := by decide +kernel
theorem dX6_plays_15 : decode cX6_plays 15 = .ok (.iaload, 1) := by decide +kernel
theorem dX6_plays_16 : decode cX6_plays 16 = .ok (.iload_n 3, 1) := by decide +kernel
theorem dX6_plays_17 : decode cX6_plays 17 = .ok (.invokestatic 151, 3) := by decide +kernel
theorem dX6_plays_20 : decode cX6_plays 20 = .ok (.ifCond .eq 7, 3) := by decide +kernel
theorem dX6_plays_23 : decode cX6_plays 23 = .ok (.iconst 0, 1) := by decide +kernel
theorem dX6_plays_24 : decode cX6_plays 24 = .ok (.goto 22, 3) := by decide +kernel
theorem dX6_plays_27 : decode cX6_plays 27 = .ok (.aload_n 0, 1) := by decide +kernel
theorem dX6_plays_28 : decode cX6_plays 28 = .ok (.getfield 25, 3) := by decide +kernel
theorem dX6_plays_31 : decode cX6_plays 31 = .ok (.iload_n 3, 1) := by decide +kernel
theorem dX6_plays_32 : decode cX6_plays 32 = .ok (.iaload, 1) := by decide +kernel
theorem dX6_plays_33 : decode cX6_plays 33 = .ok (.aload_n 1, 1) := by decide +kernel
theorem dX6_plays_34 : decode cX6_plays 34 = .ok (.iload_n 3, 1) := by decide +kernel
theorem dX6_plays_35 : decode cX6_plays 35 = .ok (.iaload, 1) := by decide +kernel
theorem dX6_plays_36 : decode cX6_plays 36 = .ok (.iload_n 2, 1) := by decide +kernel
theorem dX6_plays_37 : decode cX6_plays 37 = .ok (.aload_n 0, 1) := by decide +kernel
theorem dX6_plays_38 : decode cX6_plays 38 = .ok (.getfield 22, 3) := by decide +kernel
theorem dX6_plays_41 : decode cX6_plays 41 = .ok (.iload_n 2, 1) := by decide +kernel
theorem dX6_plays_42 : decode cX6_plays 42 = .ok (.iaload, 1) := by decide +kernel
theorem dX6_plays_43 : decode cX6_plays 43 = .ok (.invokestatic 161, 3) := by decide +kernel
theorem dX6_plays_46 : decode cX6_plays 46 = .ok (.iastore, 1) := by decide +kernel
theorem dX6_plays_47 : decode cX6_plays 47 = .ok (.iinc 3 1, 3) := by decide +kernel
theorem dX6_plays_50 : decode cX6_plays 50 = .ok (.goto (-48), 3) := by decide +kernel
theorem dX6_plays_53 : decode cX6_plays 53 = .ok (.aload_n 0, 1) := by decide +kernel
theorem dX6_plays_54 : decode cX6_plays 54 = .ok (.aload_n 1, 1) := by decide +kernel
theorem dX6_plays_55 : decode cX6_plays 55 = .ok (.invokevirtual 165, 3) := by decide +kernel
theorem dX6_plays_58 : decode cX6_plays 58 = .ok (.ireturn, 1) := by decide +kernel
theorem dX6_sumOf_0 : decode cX6_sumOf 0 = .ok (.iconst 0, 1) := by decide +kernel
theorem dX6_sumOf_1 : decode cX6_sumOf 1 = .ok (.istore_n 1, 1) := by decide +kernel
theorem dX6_sumOf_2 : decode cX6_sumOf 2 = .ok (.iconst 0, 1) := by decide +kernel
theorem dX6_sumOf_3 : decode cX6_sumOf 3 = .ok (.istore_n 2, 1) := by decide +kernel
theorem dX6_sumOf_4 : decode cX6_sumOf 4 = .ok (.iload_n 2, 1) := by decide +kernel
theorem dX6_sumOf_5 : decode cX6_sumOf 5 = .ok (.bipush 6, 2) := by decide +kernel
theorem dX6_sumOf_7 : decode cX6_sumOf 7 = .ok (.if_icmp .ge 15, 3) := by decide +kernel
theorem dX6_sumOf_10 : decode cX6_sumOf 10 = .ok (.iload_n 1, 1) := by decide +kernel
theorem dX6_sumOf_11 : decode cX6_sumOf 11 = .ok (.aload_n 0, 1) := by decide +kernel
theorem dX6_sumOf_12 : decode cX6_sumOf 12 = .ok (.iload_n 2, 1) := by decide +kernel
theorem dX6_sumOf_13 : decode cX6_sumOf 13 = .ok (.iaload, 1) := by decide +kernel
theorem dX6_sumOf_14 : decode cX6_sumOf 14 = .ok (.iadd, 1) := by decide +kernel
theorem dX6_sumOf_15 : decode cX6_sumOf 15 = .ok (.istore_n 1, 1) := by decide +kernel
theorem dX6_sumOf_16 : decode cX6_sumOf 16 = .ok (.iinc 2 1, 3) := by decide +kernel
theorem dX6_sumOf_19 : decode cX6_sumOf 19 = .ok (.goto (-15), 3) := by decide +kernel
theorem dX6_sumOf_22 : decode cX6_sumOf 22 = .ok (.iload_n 1, 1) := by decide +kernel
theorem dX6_sumOf_23 : decode cX6_sumOf 23 = .ok (.ireturn, 1) := by decide +kernel
set_option maxRecDepth 20000 in
theorem ggX6_guest_X6_isGuest : GoodIn wsX6_guest wsX6_isGuest := goodIn_r _ [6, 7, 8, 9, 5, 10, 38, 39, 40, 41, 42, 43, 44, 45, 46, 47, 48, 49, 50, 51, 52, 53, 54, 55, 56, 57, 58, 59, 60, 61, 62, 63, 64] (by decide +kernel) (by decide +kernel)
set_option maxRecDepth 20000 in
theorem gX6_guest_X6_isGuest : GoodIn wsX6_guest (wsV RX6 168 RX6 yX6_isGuest wsX6_isGuest) := goodIn_app (goodIn_of _ (by decide +kernel)) ggX6_guest_X6_isGuest
set_option maxRecDepth 20000 in
theorem ggX6_guest_X6_in : GoodIn wsX6_guest wsX6_in := goodIn_r _ [10] (by decide +kernel) (by decide +kernel)
