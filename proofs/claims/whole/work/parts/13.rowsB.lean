theorem dX5_init_0 : decode cX5_init 0 = .ok (.aload_n 0, 1) := by decide +kernel
theorem dX5_init_1 : decode cX5_init 1 = .ok (.invokespecial 1, 3) := by decide +kernel
theorem dX5_init_4 : decode cX5_init 4 = .ok (.aload_n 0, 1) := by decide +kernel
theorem dX5_init_5 : decode cX5_init 5 = .ok (.bipush 6, 2) := by decide +kernel
theorem dX5_init_7 : decode cX5_init 7 = .ok (.bipush 40, 2) := by decide +kernel
theorem dX5_init_9 : decode cX5_init 9 = .ok (.multianewarray 9 2, 4) := by decide +kernel
theorem dX5_init_13 : decode cX5_init 13 = .ok (.putfield 11, 3) := by decide +kernel
theorem dX5_init_16 : decode cX5_init 16 = .ok (.aload_n 0, 1) := by decide +kernel
theorem dX5_init_17 : decode cX5_init 17 = .ok (.bipush 6, 2) := by decide +kernel
theorem dX5_init_19 : decode cX5_init 19 = .ok (.newarray .int, 2) := by decide +kernel
theorem dX5_init_21 : decode cX5_init 21 = .ok (.putfield 14, 3) := by decide +kernel
theorem dX5_init_24 : decode cX5_init 24 = .ok (.aload_n 0, 1) := by decide +kernel
theorem dX5_init_25 : decode cX5_init 25 = .ok (.iconst 4, 1) := by decide +kernel
theorem dX5_init_26 : decode cX5_init 26 = .ok (.bipush 80, 2) := by decide +kernel
theorem dX5_init_28 : decode cX5_init 28 = .ok (.multianewarray 18 2, 4) := by decide +kernel
theorem dX5_init_32 : decode cX5_init 32 = .ok (.putfield 20, 3) := by decide +kernel
theorem dX5_init_35 : decode cX5_init 35 = .ok (.aload_n 0, 1) := by decide +kernel
theorem dX5_init_36 : decode cX5_init 36 = .ok (.iconst 4, 1) := by decide +kernel
theorem dX5_init_37 : decode cX5_init 37 = .ok (.newarray .int, 2) := by decide +kernel
theorem dX5_init_39 : decode cX5_init 39 = .ok (.putfield 23, 3) := by decide +kernel
theorem dX5_init_42 : decode cX5_init 42 = .ok (.aload_n 0, 1) := by decide +kernel
theorem dX5_init_43 : decode cX5_init 43 = .ok (.new 26, 3) := by decide +kernel
theorem dX5_init_46 : decode cX5_init 46 = .ok (.dup, 1) := by decide +kernel
theorem dX5_init_47 : decode cX5_init 47 = .ok (.invokespecial 28, 3) := by decide +kernel
theorem dX5_init_50 : decode cX5_init 50 = .ok (.putfield 29, 3) := by decide +kernel
theorem dX5_init_53 : decode cX5_init 53 = .ok (.aload_n 0, 1) := by decide +kernel
theorem dX5_init_54 : decode cX5_init 54 = .ok (.new 33, 3) := by decide +kernel
theorem dX5_init_57 : decode cX5_init 57 = .ok (.dup, 1) := by decide +kernel
theorem dX5_init_58 : decode cX5_init 58 = .ok (.invokespecial 35, 3) := by decide +kernel
theorem dX5_init_61 : decode cX5_init 61 = .ok (.putfield 36, 3) := by decide +kernel
theorem dX5_init_64 : decode cX5_init 64 = .ok (.aload_n 0, 1) := by decide +kernel
theorem dX5_init_65 : decode cX5_init 65 = .ok (.new 33, 3) := by decide +kernel
theorem dX5_init_68 : decode cX5_init 68 = .ok (.dup, 1) := by decide +kernel
theorem dX5_init_69 : decode cX5_init 69 = .ok (.invokespecial 35, 3) := by decide +kernel
theorem dX5_init_72 : decode cX5_init 72 = .ok (.putfield 40, 3) := by decide +kernel
theorem dX5_init_75 : decode cX5_init 75 = .ok (.aload_n 0, 1) := by decide +kernel
theorem dX5_init_76 : decode cX5_init 76 = .ok (.new 43, 3) := by decide +kernel
theorem dX5_init_79 : decode cX5_init 79 = .ok (.dup, 1) := by decide +kernel
theorem dX5_init_80 : decode cX5_init 80 = .ok (.invokespecial 45, 3) := by decide +kernel
theorem dX5_init_83 : decode cX5_init 83 = .ok (.putfield 46, 3) := by decide +kernel
theorem dX5_init_86 : decode cX5_init 86 = .ok (.aload_n 0, 1) := by decide +kernel
theorem dX5_init_87 : decode cX5_init 87 = .ok (.iconst 3, 1) := by decide +kernel
theorem dX5_init_88 : decode cX5_init 88 = .ok (.anewarray 43, 3) := by decide +kernel
theorem dX5_init_91 : decode cX5_init 91 = .ok (.putfield 50, 3) := by decide +kernel
theorem dX5_init_94 : decode cX5_init 94 = .ok (.aload_n 0, 1) := by decide +kernel
theorem dX5_init_95 : decode cX5_init 95 = .ok (.bipush 6, 2) := by decide +kernel
theorem dX5_init_97 : decode cX5_init 97 = .ok (.newarray .int, 2) := by decide +kernel
theorem dX5_init_99 : decode cX5_init 99 = .ok (.putfield 54, 3) := by decide +kernel
theorem dX5_init_102 : decode cX5_init 102 = .ok (.aload_n 0, 1) := by decide +kernel
theorem dX5_init_103 : decode cX5_init 103 = .ok (.iconst 0, 1) := by decide +kernel
theorem dX5_init_104 : decode cX5_init 104 = .ok (.putfield 57, 3) := by decide +kernel
theorem dX5_init_107 : decode cX5_init 107 = .ok (.aload_n 0, 1) := by decide +kernel
theorem dX5_init_108 : decode cX5_init 108 = .ok (.iconst 0, 1) := by decide +kernel
theorem dX5_init_109 : decode cX5_init 109 = .ok (.putfield 61, 3) := by decide +kernel
theorem dX5_init_112 : decode cX5_init 112 = .ok (.aload_n 0, 1) := by decide +kernel
theorem dX5_init_113 : decode cX5_init 113 = .ok (.lconst 0, 1) := by decide +kernel
theorem dX5_init_114 : decode cX5_init 114 = .ok (.putfield 64, 3) := by decide +kernel
theorem dX5_init_117 : decode cX5_init 117 = .ok (.aload_n 0, 1) := by decide +kernel
theorem dX5_init_118 : decode cX5_init 118 = .ok (.lconst 1, 1) := by decide +kernel
theorem dX5_init_119 : decode cX5_init 119 = .ok (.putfield 68, 3) := by decide +kernel
theorem dX5_init_122 : decode cX5_init 122 = .ok (.iconst 0, 1) := by decide +kernel
theorem dX5_init_123 : decode cX5_init 123 = .ok (.istore_n 1, 1) := by decide +kernel
theorem dX5_init_124 : decode cX5_init 124 = .ok (.iload_n 1, 1) := by decide +kernel
theorem dX5_init_125 : decode cX5_init 125 = .ok (.bipush 6, 2) := by decide +kernel
theorem dX5_init_127 : decode cX5_init 127 = .ok (.if_icmp .ge 16, 3) := by decide +kernel
theorem dX5_init_130 : decode cX5_init 130 = .ok (.aload_n 0, 1) := by decide +kernel
theorem dX5_init_131 : decode cX5_init 131 = .ok (.getfield 14, 3) := by decide +kernel
theorem dX5_init_134 : decode cX5_init 134 = .ok (.iload_n 1, 1) := by decide +kernel
theorem dX5_init_135 : decode cX5_init 135 = .ok (.iconst (-1), 1) := by decide +kernel
theorem dX5_init_136 : decode cX5_init 136 = .ok (.iastore, 1) := by decide +kernel
theorem dX5_init_137 : decode cX5_init 137 = .ok (.iinc 1 1, 3) := by decide +kernel
theorem dX5_init_140 : decode cX5_init 140 = .ok (.goto (-16), 3) := by decide +kernel
theorem dX5_init_143 : decode cX5_init 143 = .ok (.iconst 0, 1) := by decide +kernel
theorem dX5_init_144 : decode cX5_init 144 = .ok (.istore_n 1, 1) := by decide +kernel
theorem dX5_init_145 : decode cX5_init 145 = .ok (.iload_n 1, 1) := by decide +kernel
theorem dX5_init_146 : decode cX5_init 146 = .ok (.iconst 4, 1) := by decide +kernel
theorem dX5_init_147 : decode cX5_init 147 = .ok (.if_icmp .ge 16, 3) := by decide +kernel
theorem dX5_init_150 : decode cX5_init 150 = .ok (.aload_n 0, 1) := by decide +kernel
theorem dX5_init_151 : decode cX5_init 151 = .ok (.getfield 23, 3) := by decide +kernel
theorem dX5_init_154 : decode cX5_init 154 = .ok (.iload_n 1, 1) := by decide +kernel
theorem dX5_init_155 : decode cX5_init 155 = .ok (.iconst (-1), 1) := by decide +kernel
theorem dX5_init_156 : decode cX5_init 156 = .ok (.iastore, 1) := by decide +kernel
theorem dX5_init_157 : decode cX5_init 157 = .ok (.iinc 1 1, 3) := by decide +kernel
theorem dX5_init_160 : decode cX5_init 160 = .ok (.goto (-15), 3) := by decide +kernel
theorem dX5_init_163 : decode cX5_init 163 = .ok (.iconst 0, 1) := by decide +kernel
theorem dX5_init_164 : decode cX5_init 164 = .ok (.istore_n 1, 1) := by decide +kernel
theorem dX5_init_165 : decode cX5_init 165 = .ok (.iload_n 1, 1) := by decide +kernel
theorem dX5_init_166 : decode cX5_init 166 = .ok (.iconst 3, 1) := by decide +kernel
theorem dX5_init_167 : decode cX5_init 167 = .ok (.if_icmp .ge 32, 3) := by decide +kernel
theorem dX5_init_170 : decode cX5_init 170 = .ok (.aload_n 0, 1) := by decide +kernel
theorem dX5_init_171 : decode cX5_init 171 = .ok (.getfield 50, 3) := by decide +kernel
theorem dX5_init_174 : decode cX5_init 174 = .ok (.iload_n 1, 1) := by decide +kernel
theorem dX5_init_175 : decode cX5_init 175 = .ok (.new 43, 3) := by decide +kernel
theorem dX5_init_178 : decode cX5_init 178 = .ok (.dup, 1) := by decide +kernel
theorem dX5_init_179 : decode cX5_init 179 = .ok (.invokespecial 45, 3) := by decide +kernel
theorem dX5_init_182 : decode cX5_init 182 = .ok (.aastore, 1) := by decide +kernel
theorem dX5_init_183 : decode cX5_init 183 = .ok (.aload_n 0, 1) := by decide +kernel
theorem dX5_init_184 : decode cX5_init 184 = .ok (.getfield 50, 3) := by decide +kernel
theorem dX5_init_187 : decode cX5_init 187 = .ok (.iload_n 1, 1) := by decide +kernel
theorem dX5_init_188 : decode cX5_init 188 = .ok (.aaload, 1) := by decide +kernel
theorem dX5_init_189 : decode cX5_init 189 = .ok (.iconst (-1), 1) := by decide +kernel
theorem dX5_init_190 : decode cX5_init 190 = .ok (.putfield 71, 3) := by decide +kernel
theorem dX5_init_193 : decode cX5_init 193 = .ok (.iinc 1 1, 3) := by decide +kernel
theorem dX5_init_196 : decode cX5_init 196 = .ok (.goto (-31), 3) := by decide +kernel
theorem dX5_init_199 : decode cX5_init 199 = .ok (.return_, 1) := by decide +kernel
set_option maxRecDepth 20000 in
theorem ggX5_row_X5_isRow : GoodIn wsX5_row wsX5_isRow := goodIn_r _ [4] (by decide +kernel) (by decide +kernel)
set_option maxRecDepth 20000 in
theorem gX5_row_X5_isRow : GoodIn wsX5_row (va_wsS RX5 74 yX5_isRow wsX5_isRow) := goodIn_app (goodIn_of _ (by decide +kernel)) ggX5_row_X5_isRow
set_option maxRecDepth 20000 in
theorem ggX5_row_X5_found : GoodIn wsX5_row wsX5_found := goodIn_r _ [8, 9, 10, 17, 18, 19, 20, 21, 22, 23, 24, 25, 26, 27, 28, 29, 30] (by decide +kernel) (by decide +kernel)
set_option maxRecDepth 20000 in
theorem gX5_row_X5_found : GoodIn wsX5_row (wsV RX5 78 RX5 yX5_found wsX5_found) := goodIn_app (goodIn_of _ (by decide +kernel)) ggX5_row_X5_found
set_option maxRecDepth 20000 in
theorem ggX5_row_X5_makeRow : GoodIn wsX5_row wsX5_makeRow := goodIn_r _ [14, 15, 16, 17, 18, 19, 20, 21, 22, 23, 24, 25, 26, 27, 28, 29, 30] (by decide +kernel) (by decide +kernel)
set_option maxRecDepth 20000 in
theorem gX5_row_X5_makeRow : GoodIn wsX5_row (wsV RX5 82 RX5 yX5_makeRow wsX5_makeRow) := goodIn_app (goodIn_of _ (by decide +kernel)) ggX5_row_X5_makeRow
theorem dX5_row_0 : decode cX5_row 0 = .ok (.iload_n 1, 1) := by decide +kernel
theorem dX5_row_1 : decode cX5_row 1 = .ok (.invokestatic 74, 3) := by decide +kernel
theorem dX5_row_4 : decode cX5_row 4 = .ok (.ifCond .eq 9, 3) := by decide +kernel
theorem dX5_row_7 : decode cX5_row 7 = .ok (.iload_n 2, 1) := by decide +kernel
theorem dX5_row_8 : decode cX5_row 8 = .ok (.bipush 40, 2) := by decide +kernel
theorem dX5_row_10 : decode cX5_row 10 = .ok (.if_icmp .le 5, 3) := by decide +kernel
theorem dX5_row_13 : decode cX5_row 13 = .ok (.iconst (-1), 1) := by decide +kernel
theorem dX5_row_14 : decode cX5_row 14 = .ok (.ireturn, 1) := by decide +kernel
theorem dX5_row_15 : decode cX5_row 15 = .ok (.iload_n 2, 1) := by decide +kernel
theorem dX5_row_16 : decode cX5_row 16 = .ok (.ifCond .ge 9, 3) := by decide +kernel
theorem dX5_row_19 : decode cX5_row 19 = .ok (.aload_n 0, 1) := by decide +kernel
theorem dX5_row_20 : decode cX5_row 20 = .ok (.iconst 5, 1) := by decide +kernel
theorem dX5_row_21 : decode cX5_row 21 = .ok (.invokevirtual 78, 3) := by decide +kernel
theorem dX5_row_24 : decode cX5_row 24 = .ok (.ireturn, 1) := by decide +kernel
theorem dX5_row_25 : decode cX5_row 25 = .ok (.aload_n 0, 1) := by decide +kernel
theorem dX5_row_26 : decode cX5_row 26 = .ok (.iload_n 1, 1) := by decide +kernel
theorem dX5_row_27 : decode cX5_row 27 = .ok (.iload_n 2, 1) := by decide +kernel
theorem dX5_row_28 : decode cX5_row 28 = .ok (.invokevirtual 82, 3) := by decide +kernel
theorem dX5_row_31 : decode cX5_row 31 = .ok (.iload_n 2, 1) := by decide +kernel
theorem dX5_row_32 : decode cX5_row 32 = .ok (.ireturn, 1) := by decide +kernel
set_option maxRecDepth 20000 in
theorem ggX5_lay_X5_isRow : GoodIn wsX5_lay wsX5_isRow := goodIn_r _ [6] (by decide +kernel) (by decide +kernel)
set_option maxRecDepth 20000 in
theorem gX5_lay_X5_isRow : GoodIn wsX5_lay (va_wsS RX5 74 yX5_isRow wsX5_isRow) := goodIn_app (goodIn_of _ (by decide +kernel)) ggX5_lay_X5_isRow
set_option maxRecDepth 20000 in
theorem ggX5_lay_X5_rowPlaceFinding : GoodIn wsX5_lay wsX5_rowPlaceFinding := goodIn_r _ [10, 11, 18, 19, 20, 21, 22, 23, 24, 25, 26, 27, 28, 29, 30, 31] (by decide +kernel) (by decide +kernel)
set_option maxRecDepth 20000 in
theorem gX5_lay_X5_rowPlaceFinding : GoodIn wsX5_lay (wsV RX5 86 RX5 yX5_rowPlaceFinding wsX5_rowPlaceFinding) := goodIn_app (goodIn_of _ (by decide +kernel)) ggX5_lay_X5_rowPlaceFinding
set_option maxRecDepth 20000 in
theorem ggX5_lay_X5_found : GoodIn wsX5_lay wsX5_found := goodIn_r _ [15, 16, 17, 18, 19, 20, 21, 22, 23, 24, 25, 26, 27, 28, 29, 30, 31] (by decide +kernel) (by decide +kernel)
set_option maxRecDepth 20000 in
theorem gX5_lay_X5_found : GoodIn wsX5_lay (wsV RX5 78 RX5 yX5_found wsX5_found) := goodIn_app (goodIn_of _ (by decide +kernel)) ggX5_lay_X5_found
theorem dX5_lay_0 : decode cX5_lay 0 = .ok (.iload_n 1, 1) := by decide +kernel
theorem dX5_lay_1 : decode cX5_lay 1 = .ok (.invokestatic 74, 3) := by decide +kernel
theorem dX5_lay_4 : decode cX5_lay 4 = .ok (.ifCond .ne 5, 3) := by decide +kernel
theorem dX5_lay_7 : decode cX5_lay 7 = .ok (.iconst (-1), 1) := by decide +kernel
theorem dX5_lay_8 : decode cX5_lay 8 = .ok (.ireturn, 1) := by decide +kernel
theorem dX5_lay_9 : decode cX5_lay 9 = .ok (.aload_n 0, 1) := by decide +kernel
theorem dX5_lay_10 : decode cX5_lay 10 = .ok (.iload_n 1, 1) := by decide +kernel
theorem dX5_lay_11 : decode cX5_lay 11 = .ok (.iload_n 2, 1) := by decide +kernel
theorem dX5_lay_12 : decode cX5_lay 12 = .ok (.invokevirtual 86, 3) := by decide +kernel
theorem dX5_lay_15 : decode cX5_lay 15 = .ok (.istore 4, 2) := by decide +kernel
theorem dX5_lay_17 : decode cX5_lay 17 = .ok (.iload 4, 2) := by decide +kernel
theorem dX5_lay_19 : decode cX5_lay 19 = .ok (.ifCond .eq 10, 3) := by decide +kernel
theorem dX5_lay_22 : decode cX5_lay 22 = .ok (.aload_n 0, 1) := by decide +kernel
theorem dX5_lay_23 : decode cX5_lay 23 = .ok (.iload 4, 2) := by decide +kernel
theorem dX5_lay_25 : decode cX5_lay 25 = .ok (.invokevirtual 78, 3) := by decide +kernel
theorem dX5_lay_28 : decode cX5_lay 28 = .ok (.ireturn, 1) := by decide +kernel
theorem dX5_lay_29 : decode cX5_lay 29 = .ok (.aload_n 0, 1) := by decide +kernel
theorem dX5_lay_30 : decode cX5_lay 30 = .ok (.aload_n 0, 1) := by decide +kernel
theorem dX5_lay_31 : decode cX5_lay 31 = .ok (.getfield 11, 3) := by decide +kernel
theorem dX5_lay_34 : decode cX5_lay 34 = .ok (.iload_n 1, 1) := by decide +kernel
theorem dX5_lay_35 : decode cX5_lay 35 = .ok (.aaload, 1) := by decide +kernel
theorem dX5_lay_36 : decode cX5_lay 36 = .ok (.iload_n 2, 1) := by decide +kernel
theorem dX5_lay_37 : decode cX5_lay 37 = .ok (.iaload, 1) := by decide +kernel
theorem dX5_lay_38 : decode cX5_lay 38 = .ok (.putfield 61, 3) := by decide +kernel
theorem dX5_lay_41 : decode cX5_lay 41 = .ok (.aload_n 0, 1) := by decide +kernel
theorem dX5_lay_42 : decode cX5_lay 42 = .ok (.getfield 11, 3) := by decide +kernel
theorem dX5_lay_45 : decode cX5_lay 45 = .ok (.iload_n 1, 1) := by decide +kernel
theorem dX5_lay_46 : decode cX5_lay 46 = .ok (.aaload, 1) := by decide +kernel
theorem dX5_lay_47 : decode cX5_lay 47 = .ok (.iload_n 2, 1) := by decide +kernel
theorem dX5_lay_48 : decode cX5_lay 48 = .ok (.iload_n 3, 1) := by decide +kernel
theorem dX5_lay_49 : decode cX5_lay 49 = .ok (.iastore, 1) := by decide +kernel
theorem dX5_lay_50 : decode cX5_lay 50 = .ok (.iconst 1, 1) := by decide +kernel
theorem dX5_lay_51 : decode cX5_lay 51 = .ok (.ireturn, 1) := by decide +kernel
set_option maxRecDepth 20000 in
theorem ggX5_at_X5_isRow : GoodIn wsX5_at wsX5_isRow := goodIn_r _ [6] (by decide +kernel) (by decide +kernel)
set_option maxRecDepth 20000 in
theorem gX5_at_X5_isRow : GoodIn wsX5_at (va_wsS RX5 74 yX5_isRow wsX5_isRow) := goodIn_app (goodIn_of _ (by decide +kernel)) ggX5_at_X5_isRow
set_option maxRecDepth 20000 in
theorem ggX5_at_X5_rowPlaceFinding : GoodIn wsX5_at wsX5_rowPlaceFinding := goodIn_r _ [10, 11, 18, 19, 20, 21, 22, 23, 24, 25, 26, 27, 28, 29, 30, 31] (by decide +kernel) (by decide +kernel)
set_option maxRecDepth 20000 in
theorem gX5_at_X5_rowPlaceFinding : GoodIn wsX5_at (wsV RX5 86 RX5 yX5_rowPlaceFinding wsX5_rowPlaceFinding) := goodIn_app (goodIn_of _ (by decide +kernel)) ggX5_at_X5_rowPlaceFinding
set_option maxRecDepth 20000 in
theorem ggX5_at_X5_found : GoodIn wsX5_at wsX5_found := goodIn_r _ [15, 16, 17, 18, 19, 20, 21, 22, 23, 24, 25, 26, 27, 28, 29, 30, 31] (by decide +kernel) (by decide +kernel)
set_option maxRecDepth 20000 in
theorem gX5_at_X5_found : GoodIn wsX5_at (wsV RX5 78 RX5 yX5_found wsX5_found) := goodIn_app (goodIn_of _ (by decide +kernel)) ggX5_at_X5_found
theorem dX5_at_0 : decode cX5_at 0 = .ok (.iload_n 1, 1) := by decide +kernel
theorem dX5_at_1 : decode cX5_at 1 = .ok (.invokestatic 74, 3) := by decide +kernel
theorem dX5_at_4 : decode cX5_at 4 = .ok (.ifCond .ne 5, 3) := by decide +kernel
theorem dX5_at_7 : decode cX5_at 7 = .ok (.iconst (-1), 1) := by decide +kernel
theorem dX5_at_8 : decode cX5_at 8 = .ok (.ireturn, 1) := by decide +kernel
theorem dX5_at_9 : decode cX5_at 9 = .ok (.aload_n 0, 1) := by decide +kernel
theorem dX5_at_10 : decode cX5_at 10 = .ok (.iload_n 1, 1) := by decide +kernel
theorem dX5_at_11 : decode cX5_at 11 = .ok (.iload_n 2, 1) := by decide +kernel
theorem dX5_at_12 : decode cX5_at 12 = .ok (.invokevirtual 86, 3) := by decide +kernel
theorem dX5_at_15 : decode cX5_at 15 = .ok (.istore_n 3, 1) := by decide +kernel
theorem dX5_at_16 : decode cX5_at 16 = .ok (.iload_n 3, 1) := by decide +kernel
theorem dX5_at_17 : decode cX5_at 17 = .ok (.ifCond .eq 9, 3) := by decide +kernel
theorem dX5_at_20 : decode cX5_at 20 = .ok (.aload_n 0, 1) := by decide +kernel
theorem dX5_at_21 : decode cX5_at 21 = .ok (.iload_n 3, 1) := by decide +kernel
theorem dX5_at_22 : decode cX5_at 22 = .ok (.invokevirtual 78, 3) := by decide +kernel
theorem dX5_at_25 : decode cX5_at 25 = .ok (.ireturn, 1) := by decide +kernel
theorem dX5_at_26 : decode cX5_at 26 = .ok (.aload_n 0, 1) := by decide +kernel
theorem dX5_at_27 : decode cX5_at 27 = .ok (.aload_n 0, 1) := by decide +kernel
theorem dX5_at_28 : decode cX5_at 28 = .ok (.getfield 11, 3) := by decide +kernel
theorem dX5_at_31 : decode cX5_at 31 = .ok (.iload_n 1, 1) := by decide +kernel
theorem dX5_at_32 : decode cX5_at 32 = .ok (.aaload, 1) := by decide +kernel
theorem dX5_at_33 : decode cX5_at 33 = .ok (.iload_n 2, 1) := by decide +kernel
theorem dX5_at_34 : decode cX5_at 34 = .ok (.iaload, 1) := by decide +kernel
theorem dX5_at_35 : decode cX5_at 35 = .ok (.putfield 61, 3) := by decide +kernel
theorem dX5_at_38 : decode cX5_at 38 = .ok (.iconst 1, 1) := by decide +kernel
theorem dX5_at_39 : decode cX5_at 39 = .ok (.ireturn, 1) := by decide +kernel
set_option maxRecDepth 20000 in
theorem ggX5_tear_X5_isRow : GoodIn wsX5_tear wsX5_isRow := goodIn_r _ [5] (by decide +kernel) (by decide +kernel)
set_option maxRecDepth 20000 in
theorem gX5_tear_X5_isRow : GoodIn wsX5_tear (va_wsS RX5 74 yX5_isRow wsX5_isRow) := goodIn_app (goodIn_of _ (by decide +kernel)) ggX5_tear_X5_isRow
set_option maxRecDepth 20000 in
theorem ggX5_tear_X5_found : GoodIn wsX5_tear wsX5_found := goodIn_r _ [9, 10, 11, 12, 13, 14, 15, 16, 17, 18, 19, 20, 21, 22, 23, 24, 25] (by decide +kernel) (by decide +kernel)
set_option maxRecDepth 20000 in
theorem gX5_tear_X5_found : GoodIn wsX5_tear (wsV RX5 78 RX5 yX5_found wsX5_found) := goodIn_app (goodIn_of _ (by decide +kernel)) ggX5_tear_X5_found
theorem dX5_tear_0 : decode cX5_tear 0 = .ok (.iload_n 1, 1) := by decide +kernel
theorem dX5_tear_1 : decode cX5_tear 1 = .ok (.invokestatic 74, 3) := by decide +kernel
theorem dX5_tear_4 : decode cX5_tear 4 = .ok (.ifCond .ne 5, 3) := by decide +kernel
theorem dX5_tear_7 : decode cX5_tear 7 = .ok (.iconst (-1), 1) := by decide +kernel
theorem dX5_tear_8 : decode cX5_tear 8 = .ok (.ireturn, 1) := by decide +kernel
theorem dX5_tear_9 : decode cX5_tear 9 = .ok (.aload_n 0, 1) := by decide +kernel
theorem dX5_tear_10 : decode cX5_tear 10 = .ok (.getfield 14, 3) := by decide +kernel
theorem dX5_tear_13 : decode cX5_tear 13 = .ok (.iload_n 1, 1) := by decide +kernel
theorem dX5_tear_14 : decode cX5_tear 14 = .ok (.iaload, 1) := by decide +kernel
theorem dX5_tear_15 : decode cX5_tear 15 = .ok (.iconst (-1), 1) := by decide +kernel
theorem dX5_tear_16 : decode cX5_tear 16 = .ok (.if_icmp .ne 9, 3) := by decide +kernel
theorem dX5_tear_19 : decode cX5_tear 19 = .ok (.aload_n 0, 1) := by decide +kernel
theorem dX5_tear_20 : decode cX5_tear 20 = .ok (.iconst 1, 1) := by decide +kernel
theorem dX5_tear_21 : decode cX5_tear 21 = .ok (.invokevirtual 78, 3) := by decide +kernel
theorem dX5_tear_24 : decode cX5_tear 24 = .ok (.ireturn, 1) := by decide +kernel
theorem dX5_tear_25 : decode cX5_tear 25 = .ok (.aload_n 0, 1) := by decide +kernel
theorem dX5_tear_26 : decode cX5_tear 26 = .ok (.getfield 14, 3) := by decide +kernel
theorem dX5_tear_29 : decode cX5_tear 29 = .ok (.iload_n 1, 1) := by decide +kernel
theorem dX5_tear_30 : decode cX5_tear 30 = .ok (.iconst (-1), 1) := by decide +kernel
theorem dX5_tear_31 : decode cX5_tear 31 = .ok (.iastore, 1) := by decide +kernel
theorem dX5_tear_32 : decode cX5_tear 32 = .ok (.iconst 1, 1) := by decide +kernel
theorem dX5_tear_33 : decode cX5_tear 33 = .ok (.ireturn, 1) := by decide +kernel
set_option maxRecDepth 20000 in
theorem ggX5_copy_X5_isRow : GoodIn wsX5_copy wsX5_isRow := goodIn_r _ [10] (by decide +kernel) (by decide +kernel)
set_option maxRecDepth 20000 in
theorem gX5_copy_X5_isRow : GoodIn wsX5_copy (va_wsS RX5 74 yX5_isRow wsX5_isRow) := goodIn_app (goodIn_of _ (by decide +kernel)) ggX5_copy_X5_isRow
set_option maxRecDepth 20000 in
theorem ggX5_copy_X5_found : GoodIn wsX5_copy wsX5_found := goodIn_r _ [14, 15, 16, 17, 18, 19, 20, 21, 22, 23, 24, 25, 26, 27, 28, 29, 30] (by decide +kernel) (by decide +kernel)
set_option maxRecDepth 20000 in
theorem gX5_copy_X5_found : GoodIn wsX5_copy (wsV RX5 78 RX5 yX5_found wsX5_found) := goodIn_app (goodIn_of _ (by decide +kernel)) ggX5_copy_X5_found
theorem dX5_copy_0 : decode cX5_copy 0 = .ok (.iload_n 1, 1) := by decide +kernel
theorem dX5_copy_1 : decode cX5_copy 1 = .ok (.invokestatic 74, 3) := by decide +kernel
theorem dX5_copy_4 : decode cX5_copy 4 = .ok (.ifCond .eq 10, 3) := by decide +kernel
theorem dX5_copy_7 : decode cX5_copy 7 = .ok (.iload_n 3, 1) := by decide +kernel
theorem dX5_copy_8 : decode cX5_copy 8 = .ok (.invokestatic 74, 3) := by decide +kernel
theorem dX5_copy_11 : decode cX5_copy 11 = .ok (.ifCond .ne 5, 3) := by decide +kernel
theorem dX5_copy_14 : decode cX5_copy 14 = .ok (.iconst (-1), 1) := by decide +kernel
theorem dX5_copy_15 : decode cX5_copy 15 = .ok (.ireturn, 1) := by decide +kernel
theorem dX5_copy_16 : decode cX5_copy 16 = .ok (.iload 5, 2) := by decide +kernel
theorem dX5_copy_18 : decode cX5_copy 18 = .ok (.ifCond .ge 9, 3) := by decide +kernel
theorem dX5_copy_21 : decode cX5_copy 21 = .ok (.aload_n 0, 1) := by decide +kernel
theorem dX5_copy_22 : decode cX5_copy 22 = .ok (.iconst 5, 1) := by decide +kernel
theorem dX5_copy_23 : decode cX5_copy 23 = .ok (.invokevirtual 78, 3) := by decide +kernel
theorem dX5_copy_26 : decode cX5_copy 26 = .ok (.ireturn, 1) := by decide +kernel
theorem dX5_copy_27 : decode cX5_copy 27 = .ok (.aload_n 0, 1) := by decide +kernel
theorem dX5_copy_28 : decode cX5_copy 28 = .ok (.getfield 14, 3) := by decide +kernel
theorem dX5_copy_31 : decode cX5_copy 31 = .ok (.iload_n 1, 1) := by decide +kernel
theorem dX5_copy_32 : decode cX5_copy 32 = .ok (.iaload, 1) := by decide +kernel
theorem dX5_copy_33 : decode cX5_copy 33 = .ok (.iconst (-1), 1) := by decide +kernel
theorem dX5_copy_34 : decode cX5_copy 34 = .ok (.if_icmp .eq 13, 3) := by decide +kernel
theorem dX5_copy_37 : decode cX5_copy 37 = .ok (.aload_n 0, 1) := by decide +kernel
theorem dX5_copy_38 : decode cX5_copy 38 = .ok (.getfield 14, 3) := by decide +kernel
theorem dX5_copy_41 : decode cX5_copy 41 = .ok (.iload_n 3, 1) := by decide +kernel
theorem dX5_copy_42 : decode cX5_copy 42 = .ok (.iaload, 1) := by decide +kernel
theorem dX5_copy_43 : decode cX5_copy 43 = .ok (.iconst (-1), 1) := by decide +kernel
theorem dX5_copy_44 : decode cX5_copy 44 = .ok (.if_icmp .ne 9, 3) := by decide +kernel
theorem dX5_copy_47 : decode cX5_copy 47 = .ok (.aload_n 0, 1) := by decide +kernel
theorem dX5_copy_48 : decode cX5_copy 48 = .ok (.iconst 1, 1) := by decide +kernel
theorem dX5_copy_49 : decode cX5_copy 49 = .ok (.invokevirtual 78, 3) := by decide +kernel
theorem dX5_copy_52 : decode cX5_copy 52 = .ok (.ireturn, 1) := by decide +kernel
theorem dX5_copy_53 : decode cX5_copy 53 = .ok (.iload_n 2, 1) := by decide +kernel
theorem dX5_copy_54 : decode cX5_copy 54 = .ok (.ifCond .lt 35, 3) := by decide +kernel
theorem dX5_copy_57 : decode cX5_copy 57 = .ok (.iload 4, 2) := by decide +kernel
theorem dX5_copy_59 : decode cX5_copy 59 = .ok (.ifCond .lt 30, 3) := by decide +kernel
theorem dX5_copy_62 : decode cX5_copy 62 = .ok (.iload_n 2, 1) := by decide +kernel
theorem dX5_copy_63 : decode cX5_copy 63 = .ok (.aload_n 0, 1) := by decide +kernel
theorem dX5_copy_64 : decode cX5_copy 64 = .ok (.getfield 14, 3) := by decide +kernel
theorem dX5_copy_67 : decode cX5_copy 67 = .ok (.iload_n 1, 1) := by decide +kernel
theorem dX5_copy_68 : decode cX5_copy 68 = .ok (.iaload, 1) := by decide +kernel
theorem dX5_copy_69 : decode cX5_copy 69 = .ok (.iload 5, 2) := by decide +kernel
theorem dX5_copy_71 : decode cX5_copy 71 = .ok (.isub, 1) := by decide +kernel
theorem dX5_copy_72 : decode cX5_copy 72 = .ok (.if_icmp .gt 17, 3) := by decide +kernel
theorem dX5_copy_75 : decode cX5_copy 75 = .ok (.iload 4, 2) := by decide +kernel
theorem dX5_copy_77 : decode cX5_copy 77 = .ok (.aload_n 0, 1) := by decide +kernel
theorem dX5_copy_78 : decode cX5_copy 78 = .ok (.getfield 14, 3) := by decide +kernel
theorem dX5_copy_81 : decode cX5_copy 81 = .ok (.iload_n 3, 1) := by decide +kernel
theorem dX5_copy_82 : decode cX5_copy 82 = .ok (.iaload, 1) := by decide +kernel
theorem dX5_copy_83 : decode cX5_copy 83 = .ok (.iload 5, 2) := by decide +kernel
theorem dX5_copy_85 : decode cX5_copy 85 = .ok (.isub, 1) := by decide +kernel
theorem dX5_copy_86 : decode cX5_copy 86 = .ok (.if_icmp .le 9, 3) := by decide +kernel
theorem dX5_copy_89 : decode cX5_copy 89 = .ok (.aload_n 0, 1) := by decide +kernel
theorem dX5_copy_90 : decode cX5_copy 90 = .ok (.iconst 2, 1) := by decide +kernel
theorem dX5_copy_91 : decode cX5_copy 91 = .ok (.invokevirtual 78, 3) := by decide +kernel
theorem dX5_copy_94 : decode cX5_copy 94 = .ok (.ireturn, 1) := by decide +kernel
theorem dX5_copy_95 : decode cX5_copy 95 = .ok (.aload_n 0, 1) := by decide +kernel
theorem dX5_copy_96 : decode cX5_copy 96 = .ok (.getfield 11, 3) := by decide +kernel
theorem dX5_copy_99 : decode cX5_copy 99 = .ok (.iload_n 1, 1) := by decide +kernel
theorem dX5_copy_100 : decode cX5_copy 100 = .ok (.aaload, 1) := by decide +kernel
theorem dX5_copy_101 : decode cX5_copy 101 = .ok (.iload_n 2, 1) := by decide +kernel
theorem dX5_copy_102 : decode cX5_copy 102 = .ok (.aload_n 0, 1) := by decide +kernel
theorem dX5_copy_103 : decode cX5_copy 103 = .ok (.getfield 11, 3) := by decide +kernel
theorem dX5_copy_106 : decode cX5_copy 106 = .ok (.iload_n 3, 1) := by decide +kernel
theorem dX5_copy_107 : decode cX5_copy 107 = .ok (.aaload, 1) := by decide +kernel
theorem dX5_copy_108 : decode cX5_copy 108 = .ok (.iload 4, 2) := by decide +kernel
theorem dX5_copy_110 : decode cX5_copy 110 = .ok (.iload 5, 2) := by decide +kernel
theorem dX5_copy_112 : decode cX5_copy 112 = .ok (.invokestatic 90, 3) := by decide +kernel
theorem dX5_copy_115 : decode cX5_copy 115 = .ok (.iconst 1, 1) := by decide +kernel
theorem dX5_copy_116 : decode cX5_copy 116 = .ok (.ireturn, 1) := by decide +kernel
set_option maxRecDepth 20000 in
theorem ggX5_mean_X5_isRow : GoodIn wsX5_mean wsX5_isRow := goodIn_r _ [7] (by decide +kernel) (by decide +kernel)
set_option maxRecDepth 20000 in
theorem gX5_mean_X5_isRow : GoodIn wsX5_mean (va_wsS RX5 74 yX5_isRow wsX5_isRow) := goodIn_app (goodIn_of _ (by decide +kernel)) ggX5_mean_X5_isRow
set_option maxRecDepth 20000 in
theorem ggX5_mean_X5_found : GoodIn wsX5_mean wsX5_found := goodIn_r _ [11, 12, 13, 14, 15, 16, 17, 18, 19, 20, 21, 22, 23, 24, 25, 26, 27] (by decide +kernel) (by decide +kernel)
set_option maxRecDepth 20000 in
theorem gX5_mean_X5_found : GoodIn wsX5_mean (wsV RX5 78 RX5 yX5_found wsX5_found) := goodIn_app (goodIn_of _ (by decide +kernel)) ggX5_mean_X5_found
theorem dX5_mean_0 : decode cX5_mean 0 = .ok (.iload_n 1, 1) := by decide +kernel
theorem dX5_mean_1 : decode cX5_mean 1 = .ok (.invokestatic 74, 3) := by decide +kernel
theorem dX5_mean_4 : decode cX5_mean 4 = .ok (.ifCond .ne 5, 3) := by decide +kernel
theorem dX5_mean_7 : decode cX5_mean 7 = .ok (.iconst (-1), 1) := by decide +kernel
theorem dX5_mean_8 : decode cX5_mean 8 = .ok (.ireturn, 1) := by decide +kernel
theorem dX5_mean_9 : decode cX5_mean 9 = .ok (.aload_n 0, 1) := by decide +kernel
theorem dX5_mean_10 : decode cX5_mean 10 = .ok (.getfield 14, 3) := by decide +kernel
theorem dX5_mean_13 : decode cX5_mean 13 = .ok (.iload_n 1, 1) := by decide +kernel
theorem dX5_mean_14 : decode cX5_mean 14 = .ok (.iaload, 1) := by decide +kernel
theorem dX5_mean_15 : decode cX5_mean 15 = .ok (.istore_n 2, 1) := by decide +kernel
theorem dX5_mean_16 : decode cX5_mean 16 = .ok (.iload_n 2, 1) := by decide +kernel
theorem dX5_mean_17 : decode cX5_mean 17 = .ok (.iconst (-1), 1) := by decide +kernel
theorem dX5_mean_18 : decode cX5_mean 18 = .ok (.if_icmp .ne 9, 3) := by decide +kernel
theorem dX5_mean_21 : decode cX5_mean 21 = .ok (.aload_n 0, 1) := by decide +kernel
theorem dX5_mean_22 : decode cX5_mean 22 = .ok (.iconst 1, 1) := by decide +kernel
theorem dX5_mean_23 : decode cX5_mean 23 = .ok (.invokevirtual 78, 3) := by decide +kernel
theorem dX5_mean_26 : decode cX5_mean 26 = .ok (.ireturn, 1) := by decide +kernel
theorem dX5_mean_27 : decode cX5_mean 27 = .ok (.iload_n 2, 1) := by decide +kernel
theorem dX5_mean_28 : decode cX5_mean 28 = .ok (.ifCond .gt 9, 3) := by decide +kernel
theorem dX5_mean_31 : decode cX5_mean 31 = .ok (.aload_n 0, 1) := by decide +kernel
theorem dX5_mean_32 : decode cX5_mean 32 = .ok (.iconst 4, 1) := by decide +kernel
theorem dX5_mean_33 : decode cX5_mean 33 = .ok (.invokevirtual 78, 3) := by decide +kernel
theorem dX5_mean_36 : decode cX5_mean 36 = .ok (.ireturn, 1) := by decide +kernel
theorem dX5_mean_37 : decode cX5_mean 37 = .ok (.lconst 0, 1) := by decide +kernel
theorem dX5_mean_38 : decode cX5_mean 38 = .ok (.lstore_n 3, 1) := by decide +kernel
theorem dX5_mean_39 : decode cX5_mean 39 = .ok (.iconst 0, 1) := by decide +kernel
theorem dX5_mean_40 : decode cX5_mean 40 = .ok (.istore 5, 2) := by decide +kernel
theorem dX5_mean_42 : decode cX5_mean 42 = .ok (.iload 5, 2) := by decide +kernel
theorem dX5_mean_44 : decode cX5_mean 44 = .ok (.iload_n 2, 1) := by decide +kernel
theorem dX5_mean_45 : decode cX5_mean 45 = .ok (.if_icmp .ge 22, 3) := by decide +kernel
theorem dX5_mean_48 : decode cX5_mean 48 = .ok (.lload_n 3, 1) := by decide +kernel
theorem dX5_mean_49 : decode cX5_mean 49 = .ok (.aload_n 0, 1) := by decide +kernel
theorem dX5_mean_50 : decode cX5_mean 50 = .ok (.getfield 11, 3) := by decide +kernel
theorem dX5_mean_53 : decode cX5_mean 53 = .ok (.iload_n 1, 1) := by decide +kernel
theorem dX5_mean_54 : decode cX5_mean 54 = .ok (.aaload, 1) := by decide +kernel
theorem dX5_mean_55 : decode cX5_mean 55 = .ok (.iload 5, 2) := by decide +kernel
theorem dX5_mean_57 : decode cX5_mean 57 = .ok (.iaload, 1) := by decide +kernel
theorem dX5_mean_58 : decode cX5_mean 58 = .ok (.i2l, 1) := by decide +kernel
theorem dX5_mean_59 : decode cX5_mean 59 = .ok (.ladd, 1) := by decide +kernel
theorem dX5_mean_60 : decode cX5_mean 60 = .ok (.lstore_n 3, 1) := by decide +kernel
theorem dX5_mean_61 : decode cX5_mean 61 = .ok (.iinc 5 1, 3) := by decide +kernel
theorem dX5_mean_64 : decode cX5_mean 64 = .ok (.goto (-22), 3) := by decide +kernel
theorem dX5_mean_67 : decode cX5_mean 67 = .ok (.aload_n 0, 1) := by decide +kernel
theorem dX5_mean_68 : decode cX5_mean 68 = .ok (.lload_n 3, 1) := by decide +kernel
theorem dX5_mean_69 : decode cX5_mean 69 = .ok (.iload_n 2, 1) := by decide +kernel
theorem dX5_mean_70 : decode cX5_mean 70 = .ok (.i2l, 1) := by decide +kernel
theorem dX5_mean_71 : decode cX5_mean 71 = .ok (.ldiv, 1) := by decide +kernel
theorem dX5_mean_72 : decode cX5_mean 72 = .ok (.l2i, 1) := by decide +kernel
theorem dX5_mean_73 : decode cX5_mean 73 = .ok (.putfield 61, 3) := by decide +kernel
theorem dX5_mean_76 : decode cX5_mean 76 = .ok (.iconst 1, 1) := by decide +kernel
theorem dX5_mean_77 : decode cX5_mean 77 = .ok (.ireturn, 1) := by decide +kernel
set_option maxRecDepth 20000 in
theorem ggX5_text_X5_isText : GoodIn wsX5_text wsX5_isText := goodIn_r _ [6] (by decide +kernel) (by decide +kernel)
set_option maxRecDepth 20000 in
theorem gX5_text_X5_isText : GoodIn wsX5_text (va_wsS RX5 96 yX5_isText wsX5_isText) := goodIn_app (goodIn_of _ (by decide +kernel)) ggX5_text_X5_isText
set_option maxRecDepth 20000 in
theorem ggX5_text_X5_found : GoodIn wsX5_text wsX5_found := goodIn_r _ [10, 11, 12, 13, 14, 15, 16, 17, 18, 19, 20, 21, 22, 23, 24, 25, 26] (by decide +kernel) (by decide +kernel)
set_option maxRecDepth 20000 in
theorem gX5_text_X5_found : GoodIn wsX5_text (wsV RX5 78 RX5 yX5_found wsX5_found) := goodIn_app (goodIn_of _ (by decide +kernel)) ggX5_text_X5_found
theorem dX5_text_0 : decode cX5_text 0 = .ok (.iload_n 1, 1) := by decide +kernel
theorem dX5_text_1 : decode cX5_text 1 = .ok (.invokestatic 96, 3) := by decide +kernel
theorem dX5_text_4 : decode cX5_text 4 = .ok (.ifCond .eq 9, 3) := by decide +kernel
theorem dX5_text_7 : decode cX5_text 7 = .ok (.iload_n 2, 1) := by decide +kernel
theorem dX5_text_8 : decode cX5_text 8 = .ok (.bipush 80, 2) := by decide +kernel
theorem dX5_text_10 : decode cX5_text 10 = .ok (.if_icmp .le 5, 3) := by decide +kernel
theorem dX5_text_13 : decode cX5_text 13 = .ok (.iconst (-1), 1) := by decide +kernel
theorem dX5_text_14 : decode cX5_text 14 = .ok (.ireturn, 1) := by decide +kernel
theorem dX5_text_15 : decode cX5_text 15 = .ok (.iload_n 2, 1) := by decide +kernel
theorem dX5_text_16 : decode cX5_text 16 = .ok (.ifCond .ge 9, 3) := by decide +kernel
theorem dX5_text_19 : decode cX5_text 19 = .ok (.aload_n 0, 1) := by decide +kernel
theorem dX5_text_20 : decode cX5_text 20 = .ok (.iconst 5, 1) := by decide +kernel
theorem dX5_text_21 : decode cX5_text 21 = .ok (.invokevirtual 78, 3) := by decide +kernel
theorem dX5_text_24 : decode cX5_text 24 = .ok (.ireturn, 1) := by decide +kernel
theorem dX5_text_25 : decode cX5_text 25 = .ok (.iconst 0, 1) := by decide +kernel
theorem dX5_text_26 : decode cX5_text 26 = .ok (.istore_n 3, 1) := by decide +kernel
theorem dX5_text_27 : decode cX5_text 27 = .ok (.iload_n 3, 1) := by decide +kernel
theorem dX5_text_28 : decode cX5_text 28 = .ok (.iload_n 2, 1) := by decide +kernel
theorem dX5_text_29 : decode cX5_text 29 = .ok (.if_icmp .ge 19, 3) := by decide +kernel
theorem dX5_text_32 : decode cX5_text 32 = .ok (.aload_n 0, 1) := by decide +kernel
theorem dX5_text_33 : decode cX5_text 33 = .ok (.getfield 20, 3) := by decide +kernel
theorem dX5_text_36 : decode cX5_text 36 = .ok (.iload_n 1, 1) := by decide +kernel
theorem dX5_text_37 : decode cX5_text 37 = .ok (.aaload, 1) := by decide +kernel
theorem dX5_text_38 : decode cX5_text 38 = .ok (.iload_n 3, 1) := by decide +kernel
theorem dX5_text_39 : decode cX5_text 39 = .ok (.bipush 32, 2) := by decide +kernel
theorem dX5_text_41 : decode cX5_text 41 = .ok (.bastore, 1) := by decide +kernel
theorem dX5_text_42 : decode cX5_text 42 = .ok (.iinc 3 1, 3) := by decide +kernel
theorem dX5_text_45 : decode cX5_text 45 = .ok (.goto (-18), 3) := by decide +kernel
theorem dX5_text_48 : decode cX5_text 48 = .ok (.aload_n 0, 1) := by decide +kernel
theorem dX5_text_49 : decode cX5_text 49 = .ok (.getfield 23, 3) := by decide +kernel
theorem dX5_text_52 : decode cX5_text 52 = .ok (.iload_n 1, 1) := by decide +kernel
theorem dX5_text_53 : decode cX5_text 53 = .ok (.iload_n 2, 1) := by decide +kernel
theorem dX5_text_54 : decode cX5_text 54 = .ok (.iastore, 1) := by decide +kernel
theorem dX5_text_55 : decode cX5_text 55 = .ok (.iload_n 2, 1) := by decide +kernel
theorem dX5_text_56 : decode cX5_text 56 = .ok (.ireturn, 1) := by decide +kernel
set_option maxRecDepth 20000 in
theorem ggX5_put_X5_isText : GoodIn wsX5_put wsX5_isText := goodIn_r _ [6] (by decide +kernel) (by decide +kernel)
set_option maxRecDepth 20000 in
theorem gX5_put_X5_isText : GoodIn wsX5_put (va_wsS RX5 96 yX5_isText wsX5_isText) := goodIn_app (goodIn_of _ (by decide +kernel)) ggX5_put_X5_isText
set_option maxRecDepth 20000 in
theorem ggX5_put_X5_found : GoodIn wsX5_put wsX5_found := goodIn_r _ [10, 11, 12, 13, 14, 15, 16, 17, 18, 19, 20, 21, 22, 23, 24, 25, 26] (by decide +kernel) (by decide +kernel)
set_option maxRecDepth 20000 in
theorem gX5_put_X5_found : GoodIn wsX5_put (wsV RX5 78 RX5 yX5_found wsX5_found) := goodIn_app (goodIn_of _ (by decide +kernel)) ggX5_put_X5_found
theorem dX5_put_0 : decode cX5_put 0 = .ok (.iload_n 1, 1) := by decide +kernel
theorem dX5_put_1 : decode cX5_put 1 = .ok (.invokestatic 96, 3) := by decide +kernel
theorem dX5_put_4 : decode cX5_put 4 = .ok (.ifCond .ne 5, 3) := by decide +kernel
theorem dX5_put_7 : decode cX5_put 7 = .ok (.iconst (-1), 1) := by decide +kernel
theorem dX5_put_8 : decode cX5_put 8 = .ok (.ireturn, 1) := by decide +kernel
theorem dX5_put_9 : decode cX5_put 9 = .ok (.aload_n 0, 1) := by decide +kernel
theorem dX5_put_10 : decode cX5_put 10 = .ok (.getfield 23, 3) := by decide +kernel
theorem dX5_put_13 : decode cX5_put 13 = .ok (.iload_n 1, 1) := by decide +kernel
theorem dX5_put_14 : decode cX5_put 14 = .ok (.iaload, 1) := by decide +kernel
theorem dX5_put_15 : decode cX5_put 15 = .ok (.iconst (-1), 1) := by decide +kernel
theorem dX5_put_16 : decode cX5_put 16 = .ok (.if_icmp .ne 9, 3) := by decide +kernel
theorem dX5_put_19 : decode cX5_put 19 = .ok (.aload_n 0, 1) := by decide +kernel
theorem dX5_put_20 : decode cX5_put 20 = .ok (.iconst 1, 1) := by decide +kernel
theorem dX5_put_21 : decode cX5_put 21 = .ok (.invokevirtual 78, 3) := by decide +kernel
theorem dX5_put_24 : decode cX5_put 24 = .ok (.ireturn, 1) := by decide +kernel
theorem dX5_put_25 : decode cX5_put 25 = .ok (.iload_n 2, 1) := by decide +kernel
theorem dX5_put_26 : decode cX5_put 26 = .ok (.ifCond .lt 13, 3) := by decide +kernel
theorem dX5_put_29 : decode cX5_put 29 = .ok (.iload_n 2, 1) := by decide +kernel
theorem dX5_put_30 : decode cX5_put 30 = .ok (.aload_n 0, 1) := by decide +kernel
theorem dX5_put_31 : decode cX5_put 31 = .ok (.getfield 23, 3) := by decide +kernel
theorem dX5_put_34 : decode cX5_put 34 = .ok (.iload_n 1, 1) := by decide +kernel
theorem dX5_put_35 : decode cX5_put 35 = .ok (.iaload, 1) := by decide +kernel
theorem dX5_put_36 : decode cX5_put 36 = .ok (.if_icmp .lt 9, 3) := by decide +kernel
theorem dX5_put_39 : decode cX5_put 39 = .ok (.aload_n 0, 1) := by decide +kernel
theorem dX5_put_40 : decode cX5_put 40 = .ok (.iconst 2, 1) := by decide +kernel
theorem dX5_put_41 : decode cX5_put 41 = .ok (.invokevirtual 78, 3) := by decide +kernel
theorem dX5_put_44 : decode cX5_put 44 = .ok (.ireturn, 1) := by decide +kernel
theorem dX5_put_45 : decode cX5_put 45 = .ok (.aload_n 0, 1) := by decide +kernel
theorem dX5_put_46 : decode cX5_put 46 = .ok (.getfield 20, 3) := by decide +kernel
theorem dX5_put_49 : decode cX5_put 49 = .ok (.iload_n 1, 1) := by decide +kernel
theorem dX5_put_50 : decode cX5_put 50 = .ok (.aaload, 1) := by decide +kernel
theorem dX5_put_51 : decode cX5_put 51 = .ok (.iload_n 2, 1) := by decide +kernel
theorem dX5_put_52 : decode cX5_put 52 = .ok (.baload, 1) := by decide +kernel
theorem dX5_put_53 : decode cX5_put 53 = .ok (.istore 4, 2) := by decide +kernel
theorem dX5_put_55 : decode cX5_put 55 = .ok (.aload_n 0, 1) := by decide +kernel
theorem dX5_put_56 : decode cX5_put 56 = .ok (.getfield 20, 3) := by decide +kernel
theorem dX5_put_59 : decode cX5_put 59 = .ok (.iload_n 1, 1) := by decide +kernel
theorem dX5_put_60 : decode cX5_put 60 = .ok (.aaload, 1) := by decide +kernel
theorem dX5_put_61 : decode cX5_put 61 = .ok (.iload_n 2, 1) := by decide +kernel
theorem dX5_put_62 : decode cX5_put 62 = .ok (.iload_n 3, 1) := by decide +kernel
theorem dX5_put_63 : decode cX5_put 63 = .ok (.i2b, 1) := by decide +kernel
theorem dX5_put_64 : decode cX5_put 64 = .ok (.bastore, 1) := by decide +kernel
theorem dX5_put_65 : decode cX5_put 65 = .ok (.iload 4, 2) := by decide +kernel
theorem dX5_put_67 : decode cX5_put 67 = .ok (.sipush 1000, 3) := by decide +kernel
theorem dX5_put_70 : decode cX5_put 70 = .ok (.iadd, 1) := by decide +kernel
theorem dX5_put_71 : decode cX5_put 71 = .ok (.ireturn, 1) := by decide +kernel
set_option maxRecDepth 20000 in
theorem ggX5_fault_X5_isText : GoodIn wsX5_fault wsX5_isText := goodIn_r _ [8] (by decide +kernel) (by decide +kernel)
set_option maxRecDepth 20000 in
theorem gX5_fault_X5_isText : GoodIn wsX5_fault (va_wsS RX5 96 yX5_isText wsX5_isText) := goodIn_app (goodIn_of _ (by decide +kernel)) ggX5_fault_X5_isText
set_option maxRecDepth 20000 in
theorem ggX5_fault_X5_found : GoodIn wsX5_fault wsX5_found := goodIn_r _ [12, 13, 14, 71, 72, 73, 74, 75, 76, 77, 78, 79, 80, 81, 82, 83, 84] (by decide +kernel) (by decide +kernel)
set_option maxRecDepth 20000 in
theorem gX5_fault_X5_found : GoodIn wsX5_fault (wsV RX5 78 RX5 yX5_found wsX5_found) := goodIn_app (goodIn_of _ (by decide +kernel)) ggX5_fault_X5_found
set_option maxRecDepth 20000 in
theorem ggX5_fault_X4_faultOf : GoodIn wsX5_fault wsX4_faultOf := goodIn_r _ [18, 19, 20, 21, 22, 23, 24, 25, 26, 27, 28, 29, 30, 31, 32, 16, 33, 34, 35, 36, 37, 38, 39, 40, 41, 42, 43, 44, 45, 46, 47, 48, 49, 7, 50, 51, 52, 53, 54, 55, 56, 57, 58, 59, 60, 61, 62, 63, 64, 65, 66, 67, 68, 69, 70, 85, 86, 87, 88, 89, 90, 91, 92, 93, 94, 95] (by decide +kernel) (by decide +kernel)
set_option maxRecDepth 20000 in
theorem gX5_fault_X4_faultOf_n99 : GoodIn wsX5_fault (wsX4_faultOf) := ggX5_fault_X4_faultOf
theorem dX5_fault_0 : decode cX5_fault 0 = .ok (.iload_n 1, 1) := by decide +kernel
theorem dX5_fault_1 : decode cX5_fault 1 = .ok (.invokestatic 96, 3) := by decide +kernel
theorem dX5_fault_4 : decode cX5_fault 4 = .ok (.ifCond .ne 5, 3) := by decide +kernel
theorem dX5_fault_7 : decode cX5_fault 7 = .ok (.iconst (-1), 1) := by decide +kernel
theorem dX5_fault_8 : decode cX5_fault 8 = .ok (.ireturn, 1) := by decide +kernel
theorem dX5_fault_9 : decode cX5_fault 9 = .ok (.aload_n 0, 1) := by decide +kernel
theorem dX5_fault_10 : decode cX5_fault 10 = .ok (.getfield 23, 3) := by decide +kernel
theorem dX5_fault_13 : decode cX5_fault 13 = .ok (.iload_n 1, 1) := by decide +kernel
theorem dX5_fault_14 : decode cX5_fault 14 = .ok (.iaload, 1) := by decide +kernel
theorem dX5_fault_15 : decode cX5_fault 15 = .ok (.iconst (-1), 1) := by decide +kernel
theorem dX5_fault_16 : decode cX5_fault 16 = .ok (.if_icmp .ne 9, 3) := by decide +kernel
theorem dX5_fault_19 : decode cX5_fault 19 = .ok (.aload_n 0, 1) := by decide +kernel
theorem dX5_fault_20 : decode cX5_fault 20 = .ok (.iconst 1, 1) := by decide +kernel
theorem dX5_fault_21 : decode cX5_fault 21 = .ok (.invokevirtual 78, 3) := by decide +kernel
theorem dX5_fault_24 : decode cX5_fault 24 = .ok (.ireturn, 1) := by decide +kernel
theorem dX5_fault_25 : decode cX5_fault 25 = .ok (.aload_n 0, 1) := by decide +kernel
theorem dX5_fault_26 : decode cX5_fault 26 = .ok (.getfield 29, 3) := by decide +kernel
theorem dX5_fault_29 : decode cX5_fault 29 = .ok (.aload_n 0, 1) := by decide +kernel
theorem dX5_fault_30 : decode cX5_fault 30 = .ok (.getfield 20, 3) := by decide +kernel
theorem dX5_fault_33 : decode cX5_fault 33 = .ok (.iload_n 1, 1) := by decide +kernel
theorem dX5_fault_34 : decode cX5_fault 34 = .ok (.aaload, 1) := by decide +kernel
theorem dX5_fault_35 : decode cX5_fault 35 = .ok (.aload_n 0, 1) := by decide +kernel
theorem dX5_fault_36 : decode cX5_fault 36 = .ok (.getfield 23, 3) := by decide +kernel
theorem dX5_fault_39 : decode cX5_fault 39 = .ok (.iload_n 1, 1) := by decide +kernel
theorem dX5_fault_40 : decode cX5_fault 40 = .ok (.iaload, 1) := by decide +kernel
theorem dX5_fault_41 : decode cX5_fault 41 = .ok (.aload_n 0, 1) := by decide +kernel
theorem dX5_fault_42 : decode cX5_fault 42 = .ok (.getfield 40, 3) := by decide +kernel
theorem dX5_fault_45 : decode cX5_fault 45 = .ok (.invokevirtual 99, 3) := by decide +kernel
theorem dX5_fault_48 : decode cX5_fault 48 = .ok (.ireturn, 1) := by decide +kernel
set_option maxRecDepth 20000 in
theorem ggX5_party_X5_isText : GoodIn wsX5_party wsX5_isText := goodIn_r _ [11] (by decide +kernel) (by decide +kernel)
set_option maxRecDepth 20000 in
theorem gX5_party_X5_isText : GoodIn wsX5_party (va_wsS RX5 96 yX5_isText wsX5_isText) := goodIn_app (goodIn_of _ (by decide +kernel)) ggX5_party_X5_isText
set_option maxRecDepth 20000 in
theorem ggX5_party_X5_found : GoodIn wsX5_party wsX5_found := goodIn_r _ [15, 16, 17, 92, 93, 94, 95, 96, 97, 98, 99, 100, 101, 102, 103, 104, 105] (by decide +kernel) (by decide +kernel)
set_option maxRecDepth 20000 in
theorem gX5_party_X5_found : GoodIn wsX5_party (wsV RX5 78 RX5 yX5_found wsX5_found) := goodIn_app (goodIn_of _ (by decide +kernel)) ggX5_party_X5_found
set_option maxRecDepth 20000 in
theorem ggX5_party_X4_faultOf : GoodIn wsX5_party wsX4_faultOf := goodIn_r _ [21, 22, 23, 24, 25, 26, 27, 28, 29, 30, 31, 32, 33, 34, 35, 19, 36, 37, 38, 39, 40, 41, 42, 43, 44, 45, 46, 47, 48, 49, 50, 51, 52, 10, 53, 54, 55, 56, 57, 58, 59, 60, 61, 62, 63, 64, 65, 66, 67, 68, 69, 70, 71, 72, 73, 116, 117, 118, 119, 109, 110, 111, 112, 113, 114, 115] (by decide +kernel) (by decide +kernel)
set_option maxRecDepth 20000 in
theorem gX5_party_X4_faultOf_n99 : GoodIn wsX5_party (wsX4_faultOf) := ggX5_party_X4_faultOf
set_option maxRecDepth 20000 in
theorem ggX5_party_X2_arrival : GoodIn wsX5_party wsX2_arrival := goodIn_r _ [76, 29, 77, 78, 79, 80, 81, 82, 83, 84, 85, 109, 110, 111, 112, 113, 114, 115] (by decide +kernel) (by decide +kernel)
set_option maxRecDepth 20000 in
theorem gX5_party_X2_arrival_n103 : GoodIn wsX5_party (wsX2_arrival) := ggX5_party_X2_arrival
set_option maxRecDepth 20000 in
theorem ggX5_party_X0_begin : GoodIn wsX5_party wsX0_begin := goodIn_r _ [89, 90, 91, 106, 107, 108] (by decide +kernel) (by decide +kernel)
set_option maxRecDepth 20000 in
theorem gX5_party_X0_begin_n107 : GoodIn wsX5_party (wsX0_begin) := ggX5_party_X0_begin
theorem dX5_party_0 : decode cX5_party 0 = .ok (.iload_n 1, 1) := by decide +kernel
theorem dX5_party_1 : decode cX5_party 1 = .ok (.invokestatic 96, 3) := by decide +kernel
theorem dX5_party_4 : decode cX5_party 4 = .ok (.ifCond .ne 5, 3) := by decide +kernel
theorem dX5_party_7 : decode cX5_party 7 = .ok (.iconst (-1), 1) := by decide +kernel
theorem dX5_party_8 : decode cX5_party 8 = .ok (.ireturn, 1) := by decide +kernel
theorem dX5_party_9 : decode cX5_party 9 = .ok (.aload_n 0, 1) := by decide +kernel
theorem dX5_party_10 : decode cX5_party 10 = .ok (.getfield 23, 3) := by decide +kernel
theorem dX5_party_13 : decode cX5_party 13 = .ok (.iload_n 1, 1) := by decide +kernel
theorem dX5_party_14 : decode cX5_party 14 = .ok (.iaload, 1) := by decide +kernel
theorem dX5_party_15 : decode cX5_party 15 = .ok (.iconst (-1), 1) := by decide +kernel
theorem dX5_party_16 : decode cX5_party 16 = .ok (.if_icmp .ne 9, 3) := by decide +kernel
theorem dX5_party_19 : decode cX5_party 19 = .ok (.aload_n 0, 1) := by decide +kernel
theorem dX5_party_20 : decode cX5_party 20 = .ok (.iconst 1, 1) := by decide +kernel
theorem dX5_party_21 : decode cX5_party 21 = .ok (.invokevirtual 78, 3) := by decide +kernel
theorem dX5_party_24 : decode cX5_party 24 = .ok (.ireturn, 1) := by decide +kernel
theorem dX5_party_25 : decode cX5_party 25 = .ok (.aload_n 0, 1) := by decide +kernel
theorem dX5_party_26 : decode cX5_party 26 = .ok (.getfield 29, 3) := by decide +kernel
theorem dX5_party_29 : decode cX5_party 29 = .ok (.aload_n 0, 1) := by decide +kernel
theorem dX5_party_30 : decode cX5_party 30 = .ok (.getfield 20, 3) := by decide +kernel
theorem dX5_party_33 : decode cX5_party 33 = .ok (.iload_n 1, 1) := by decide +kernel
theorem dX5_party_34 : decode cX5_party 34 = .ok (.aaload, 1) := by decide +kernel
theorem dX5_party_35 : decode cX5_party 35 = .ok (.aload_n 0, 1) := by decide +kernel
theorem dX5_party_36 : decode cX5_party 36 = .ok (.getfield 23, 3) := by decide +kernel
theorem dX5_party_39 : decode cX5_party 39 = .ok (.iload_n 1, 1) := by decide +kernel
theorem dX5_party_40 : decode cX5_party 40 = .ok (.iaload, 1) := by decide +kernel
theorem dX5_party_41 : decode cX5_party 41 = .ok (.aload_n 0, 1) := by decide +kernel
theorem dX5_party_42 : decode cX5_party 42 = .ok (.getfield 40, 3) := by decide +kernel
theorem dX5_party_45 : decode cX5_party 45 = .ok (.invokevirtual 99, 3) := by decide +kernel
theorem dX5_party_48 : decode cX5_party 48 = .ok (.bipush (-9), 2) := by decide +kernel
theorem dX5_party_50 : decode cX5_party 50 = .ok (.if_icmp .eq 6, 3) := by decide +kernel
theorem dX5_party_53 : decode cX5_party 53 = .ok (.bipush (-4), 2) := by decide +kernel
theorem dX5_party_55 : decode cX5_party 55 = .ok (.ireturn, 1) := by decide +kernel
theorem dX5_party_56 : decode cX5_party 56 = .ok (.aload_n 0, 1) := by decide +kernel
theorem dX5_party_57 : decode cX5_party 57 = .ok (.getfield 40, 3) := by decide +kernel
theorem dX5_party_60 : decode cX5_party 60 = .ok (.astore_n 2, 1) := by decide +kernel
theorem dX5_party_61 : decode cX5_party 61 = .ok (.aload_n 0, 1) := by decide +kernel
theorem dX5_party_62 : decode cX5_party 62 = .ok (.aload_n 0, 1) := by decide +kernel
theorem dX5_party_63 : decode cX5_party 63 = .ok (.getfield 36, 3) := by decide +kernel
theorem dX5_party_66 : decode cX5_party 66 = .ok (.putfield 40, 3) := by decide +kernel
theorem dX5_party_69 : decode cX5_party 69 = .ok (.aload_n 0, 1) := by decide +kernel
theorem dX5_party_70 : decode cX5_party 70 = .ok (.aload_n 2, 1) := by decide +kernel
theorem dX5_party_71 : decode cX5_party 71 = .ok (.putfield 36, 3) := by decide +kernel
theorem dX5_party_74 : decode cX5_party 74 = .ok (.aload_n 0, 1) := by decide +kernel
theorem dX5_party_75 : decode cX5_party 75 = .ok (.getfield 46, 3) := by decide +kernel
theorem dX5_party_78 : decode cX5_party 78 = .ok (.aload_n 0, 1) := by decide +kernel
theorem dX5_party_79 : decode cX5_party 79 = .ok (.getfield 36, 3) := by decide +kernel
theorem dX5_party_82 : decode cX5_party 82 = .ok (.invokevirtual 103, 3) := by decide +kernel
theorem dX5_party_85 : decode cX5_party 85 = .ok (.invokevirtual 107, 3) := by decide +kernel
theorem dX5_party_88 : decode cX5_party 88 = .ok (.iconst 0, 1) := by decide +kernel
theorem dX5_party_89 : decode cX5_party 89 = .ok (.istore_n 3, 1) := by decide +kernel
theorem dX5_party_90 : decode cX5_party 90 = .ok (.iload_n 3, 1) := by decide +kernel
theorem dX5_party_91 : decode cX5_party 91 = .ok (.iconst 3, 1) := by decide +kernel
theorem dX5_party_92 : decode cX5_party 92 = .ok (.if_icmp .ge 19, 3) := by decide +kernel
theorem dX5_party_95 : decode cX5_party 95 = .ok (.aload_n 0, 1) := by decide +kernel
theorem dX5_party_96 : decode cX5_party 96 = .ok (.getfield 50, 3) := by decide +kernel
theorem dX5_party_99 : decode cX5_party 99 = .ok (.iload_n 3, 1) := by decide +kernel
theorem dX5_party_100 : decode cX5_party 100 = .ok (.aaload, 1) := by decide +kernel
theorem dX5_party_101 : decode cX5_party 101 = .ok (.iconst (-1), 1) := by decide +kernel
theorem dX5_party_102 : decode cX5_party 102 = .ok (.putfield 71, 3) := by decide +kernel
theorem dX5_party_105 : decode cX5_party 105 = .ok (.iinc 3 1, 3) := by decide +kernel
theorem dX5_party_108 : decode cX5_party 108 = .ok (.goto (-18), 3) := by decide +kernel
theorem dX5_party_111 : decode cX5_party 111 = .ok (.aload_n 0, 1) := by decide +kernel
theorem dX5_party_112 : decode cX5_party 112 = .ok (.getfield 36, 3) := by decide +kernel
theorem dX5_party_115 : decode cX5_party 115 = .ok (.getfield 111, 3) := by decide +kernel
theorem dX5_party_118 : decode cX5_party 118 = .ok (.ireturn, 1) := by decide +kernel
set_option maxRecDepth 20000 in
theorem ggX5_guest_X5_isGuest : GoodIn wsX5_guest wsX5_isGuest := goodIn_r _ [6, 7, 26, 27, 28, 29, 30, 31, 32, 33, 34, 35, 36, 37, 38, 39, 40, 41, 42, 43, 44, 45, 46] (by decide +kernel) (by decide +kernel)
set_option maxRecDepth 20000 in
theorem gX5_guest_X5_isGuest : GoodIn wsX5_guest (wsV RX5 114 RX5 yX5_isGuest wsX5_isGuest) := goodIn_app (goodIn_of _ (by decide +kernel)) ggX5_guest_X5_isGuest
set_option maxRecDepth 20000 in
theorem ggX5_guest_X5_guestTells : GoodIn wsX5_guest wsX5_guestTells := goodIn_r _ [11, 7, 12, 13, 14, 15, 16, 17, 18, 19, 20, 21, 22, 23, 24, 25, 26, 27, 28, 29, 30, 31, 32, 33, 34, 35, 36, 37, 38, 39, 40, 41, 42, 43, 44, 45, 46, 47, 48, 49] (by decide +kernel) (by decide +kernel)
set_option maxRecDepth 20000 in
theorem gX5_guest_X5_guestTells : GoodIn wsX5_guest (wsV RX5 117 RX5 yX5_guestTells wsX5_guestTells) := goodIn_app (goodIn_of _ (by decide +kernel)) ggX5_guest_X5_guestTells
theorem dX5_guest_0 : decode cX5_guest 0 = .ok (.aload_n 0, 1) := by decide +kernel
theorem dX5_guest_1 : decode cX5_guest 1 = .ok (.iload_n 1, 1) := by decide +kernel
theorem dX5_guest_2 : decode cX5_guest 2 = .ok (.invokevirtual 114, 3) := by decide +kernel
theorem dX5_guest_5 : decode cX5_guest 5 = .ok (.ifCond .eq 12, 3) := by decide +kernel
theorem dX5_guest_8 : decode cX5_guest 8 = .ok (.iload_n 2, 1) := by decide +kernel
theorem dX5_guest_9 : decode cX5_guest 9 = .ok (.ifCond .lt 8, 3) := by decide +kernel
theorem dX5_guest_12 : decode cX5_guest 12 = .ok (.iload_n 2, 1) := by decide +kernel
theorem dX5_guest_13 : decode cX5_guest 13 = .ok (.iconst 4, 1) := by decide +kernel
theorem dX5_guest_14 : decode cX5_guest 14 = .ok (.if_icmp .le 5, 3) := by decide +kernel
theorem dX5_guest_17 : decode cX5_guest 17 = .ok (.iconst (-1), 1) := by decide +kernel
theorem dX5_guest_18 : decode cX5_guest 18 = .ok (.ireturn, 1) := by decide +kernel
theorem dX5_guest_19 : decode cX5_guest 19 = .ok (.aload_n 0, 1) := by decide +kernel
theorem dX5_guest_20 : decode cX5_guest 20 = .ok (.aload_n 0, 1) := by decide +kernel
theorem dX5_guest_21 : decode cX5_guest 21 = .ok (.iload_n 1, 1) := by decide +kernel
theorem dX5_guest_22 : decode cX5_guest 22 = .ok (.iload_n 2, 1) := by decide +kernel
theorem dX5_guest_23 : decode cX5_guest 23 = .ok (.invokevirtual 117, 3) := by decide +kernel
theorem dX5_guest_26 : decode cX5_guest 26 = .ok (.putfield 61, 3) := by decide +kernel
theorem dX5_guest_29 : decode cX5_guest 29 = .ok (.iconst 1, 1) := by decide +kernel
theorem dX5_guest_30 : decode cX5_guest 30 = .ok (.ireturn, 1) := by decide +kernel
set_option maxRecDepth 20000 in
theorem ggX5_mark_X5_isGuest : GoodIn wsX5_mark wsX5_isGuest := goodIn_r _ [7, 1, 63, 64, 65, 66, 67, 68, 69, 70, 71, 72, 73, 74, 75, 76, 77, 78, 79, 80, 81, 82, 83] (by decide +kernel) (by decide +kernel)
set_option maxRecDepth 20000 in
theorem gX5_mark_X5_isGuest : GoodIn wsX5_mark (wsV RX5 114 RX5 yX5_isGuest wsX5_isGuest) := goodIn_app (goodIn_of _ (by decide +kernel)) ggX5_mark_X5_isGuest
set_option maxRecDepth 20000 in
theorem ggX5_mark_X5_isOfKind : GoodIn wsX5_mark wsX5_isOfKind := goodIn_r _ [10] (by decide +kernel) (by decide +kernel)
set_option maxRecDepth 20000 in
theorem gX5_mark_X5_isOfKind : GoodIn wsX5_mark (va_wsS RX5 123 yX5_isOfKind wsX5_isOfKind) := goodIn_app (goodIn_of _ (by decide +kernel)) ggX5_mark_X5_isOfKind
set_option maxRecDepth 20000 in
theorem ggX5_mark_X5_found : GoodIn wsX5_mark wsX5_found := goodIn_r _ [14, 15, 16, 63, 64, 65, 66, 67, 68, 69, 70, 71, 72, 73, 74, 75, 76] (by decide +kernel) (by decide +kernel)
set_option maxRecDepth 20000 in
theorem gX5_mark_X5_found : GoodIn wsX5_mark (wsV RX5 78 RX5 yX5_found wsX5_found) := goodIn_app (goodIn_of _ (by decide +kernel)) ggX5_mark_X5_found
set_option maxRecDepth 20000 in
theorem ggX5_mark_X1_isIn : GoodIn wsX5_mark wsX1_isIn := goodIn_r _ [19] (by decide +kernel) (by decide +kernel)
set_option maxRecDepth 20000 in
theorem gX5_mark_X1_isIn_n130 : GoodIn wsX5_mark (wsX1_isIn) := ggX5_mark_X1_isIn
set_option maxRecDepth 20000 in
theorem ggX5_mark_X2_tunesThatCheer : GoodIn wsX5_mark wsX2_tunesThatCheer := goodIn_r _ [23, 24, 25, 26, 18, 27, 28, 29, 30, 21, 31, 32, 33, 34, 35, 36, 37, 38, 39, 40, 41, 42, 43, 44, 45, 46, 47, 77, 78, 79, 80, 81, 82, 83] (by decide +kernel) (by decide +kernel)
set_option maxRecDepth 20000 in
theorem gX5_mark_X2_tunesThatCheer_n136 : GoodIn wsX5_mark (wsX2_tunesThatCheer) := ggX5_mark_X2_tunesThatCheer
set_option maxRecDepth 20000 in
theorem ggX5_mark_X2_steepestRise : GoodIn wsX5_mark wsX2_steepestRise := goodIn_r _ [50, 24, 25, 45, 46, 37, 47, 26, 18, 27, 28, 29, 30, 21, 31, 32, 33, 34, 35, 36, 38, 39, 40, 41, 42, 43, 44, 77, 78, 79, 80, 81, 82, 83] (by decide +kernel) (by decide +kernel)
set_option maxRecDepth 20000 in
theorem gX5_mark_X2_steepestRise_n140 : GoodIn wsX5_mark (wsX2_steepestRise) := ggX5_mark_X2_steepestRise
set_option maxRecDepth 20000 in
theorem ggX5_mark_X2_namesAMournerBears : GoodIn wsX5_mark wsX2_namesAMournerBears := goodIn_r _ [53, 54, 45, 46, 37, 47, 26, 18, 27, 28, 77, 78, 79, 80, 81, 82, 83] (by decide +kernel) (by decide +kernel)
set_option maxRecDepth 20000 in
theorem gX5_mark_X2_namesAMournerBears_n143 : GoodIn wsX5_mark (wsX2_namesAMournerBears) := ggX5_mark_X2_namesAMournerBears
set_option maxRecDepth 20000 in
theorem ggX5_mark_X2_sadderThan : GoodIn wsX5_mark wsX2_sadderThan := goodIn_r _ [57, 58, 26, 18, 27, 28, 77, 78, 79, 80, 81, 82, 83] (by decide +kernel) (by decide +kernel)
set_option maxRecDepth 20000 in
theorem gX5_mark_X2_sadderThan_n146 : GoodIn wsX5_mark (wsX2_sadderThan) := ggX5_mark_X2_sadderThan
set_option maxRecDepth 20000 in
theorem ggX5_mark_X2_suspects : GoodIn wsX5_mark wsX2_suspects := goodIn_r _ [61, 58, 62, 54, 26, 18, 27, 28, 77, 78, 79, 80, 81, 82, 83] (by decide +kernel) (by decide +kernel)
set_option maxRecDepth 20000 in
theorem gX5_mark_X2_suspects_n149 : GoodIn wsX5_mark (wsX2_suspects) := ggX5_mark_X2_suspects
theorem dX5_mark_0 : decode cX5_mark 0 = .ok (.aload_n 0, 1) := by decide +kernel
theorem dX5_mark_1 : decode cX5_mark 1 = .ok (.iload_n 1, 1) := by decide +kernel
theorem dX5_mark_2 : decode cX5_mark 2 = .ok (.invokevirtual 114, 3) := by decide +kernel
theorem dX5_mark_5 : decode cX5_mark 5 = .ok (.ifCond .eq 13, 3) := by decide +kernel
theorem dX5_mark_8 : decode cX5_mark 8 = .ok (.iload_n 2, 1) := by decide +kernel
theorem dX5_mark_9 : decode cX5_mark 9 = .ok (.ifCond .le 9, 3) := by decide +kernel
theorem dX5_mark_12 : decode cX5_mark 12 = .ok (.iload_n 2, 1) := by decide +kernel
theorem dX5_mark_13 : decode cX5_mark 13 = .ok (.bipush 6, 2) := by decide +kernel
theorem dX5_mark_15 : decode cX5_mark 15 = .ok (.if_icmp .lt 5, 3) := by decide +kernel
theorem dX5_mark_18 : decode cX5_mark 18 = .ok (.iconst (-1), 1) := by decide +kernel
theorem dX5_mark_19 : decode cX5_mark 19 = .ok (.ireturn, 1) := by decide +kernel
theorem dX5_mark_20 : decode cX5_mark 20 = .ok (.aload_n 0, 1) := by decide +kernel
theorem dX5_mark_21 : decode cX5_mark 21 = .ok (.getfield 36, 3) := by decide +kernel
theorem dX5_mark_24 : decode cX5_mark 24 = .ok (.getfield 120, 3) := by decide +kernel
theorem dX5_mark_27 : decode cX5_mark 27 = .ok (.iload_n 1, 1) := by decide +kernel
theorem dX5_mark_28 : decode cX5_mark 28 = .ok (.iaload, 1) := by decide +kernel
theorem dX5_mark_29 : decode cX5_mark 29 = .ok (.iload_n 2, 1) := by decide +kernel
theorem dX5_mark_30 : decode cX5_mark 30 = .ok (.invokestatic 123, 3) := by decide +kernel
theorem dX5_mark_33 : decode cX5_mark 33 = .ok (.ifCond .ne 9, 3) := by decide +kernel
theorem dX5_mark_36 : decode cX5_mark 36 = .ok (.aload_n 0, 1) := by decide +kernel
theorem dX5_mark_37 : decode cX5_mark 37 = .ok (.iconst 3, 1) := by decide +kernel
theorem dX5_mark_38 : decode cX5_mark 38 = .ok (.invokevirtual 78, 3) := by decide +kernel
theorem dX5_mark_41 : decode cX5_mark 41 = .ok (.ireturn, 1) := by decide +kernel
theorem dX5_mark_42 : decode cX5_mark 42 = .ok (.aload_n 0, 1) := by decide +kernel
theorem dX5_mark_43 : decode cX5_mark 43 = .ok (.getfield 46, 3) := by decide +kernel
theorem dX5_mark_46 : decode cX5_mark 46 = .ok (.getfield 127, 3) := by decide +kernel
theorem dX5_mark_49 : decode cX5_mark 49 = .ok (.iload_n 1, 1) := by decide +kernel
theorem dX5_mark_50 : decode cX5_mark 50 = .ok (.invokestatic 130, 3) := by decide +kernel
theorem dX5_mark_53 : decode cX5_mark 53 = .ok (.ifCond .ne 5, 3) := by decide +kernel
theorem dX5_mark_56 : decode cX5_mark 56 = .ok (.iconst 0, 1) := by decide +kernel
theorem dX5_mark_57 : decode cX5_mark 57 = .ok (.ireturn, 1) := by decide +kernel
theorem dX5_mark_58 : decode cX5_mark 58 = .ok (.iload_n 2, 1) := by decide +kernel
theorem dX5_mark_59 : decode cX5_mark 59 = .ok (.tableswitch 93 1 4 #[29, 45, 61, 77], 29) := by decide +kernel
theorem dX5_mark_88 : decode cX5_mark 88 = .ok (.aload_n 0, 1) := by decide +kernel
theorem dX5_mark_89 : decode cX5_mark 89 = .ok (.getfield 36, 3) := by decide +kernel
theorem dX5_mark_92 : decode cX5_mark 92 = .ok (.aload_n 0, 1) := by decide +kernel
theorem dX5_mark_93 : decode cX5_mark 93 = .ok (.getfield 46, 3) := by decide +kernel
theorem dX5_mark_96 : decode cX5_mark 96 = .ok (.getfield 127, 3) := by decide +kernel
theorem dX5_mark_99 : decode cX5_mark 99 = .ok (.iload_n 1, 1) := by decide +kernel
theorem dX5_mark_100 : decode cX5_mark 100 = .ok (.invokevirtual 136, 3) := by decide +kernel
theorem dX5_mark_103 : decode cX5_mark 103 = .ok (.ireturn, 1) := by decide +kernel
theorem dX5_mark_104 : decode cX5_mark 104 = .ok (.aload_n 0, 1) := by decide +kernel
theorem dX5_mark_105 : decode cX5_mark 105 = .ok (.getfield 36, 3) := by decide +kernel
theorem dX5_mark_108 : decode cX5_mark 108 = .ok (.aload_n 0, 1) := by decide +kernel
theorem dX5_mark_109 : decode cX5_mark 109 = .ok (.getfield 46, 3) := by decide +kernel
theorem dX5_mark_112 : decode cX5_mark 112 = .ok (.getfield 127, 3) := by decide +kernel
theorem dX5_mark_115 : decode cX5_mark 115 = .ok (.iload_n 1, 1) := by decide +kernel
theorem dX5_mark_116 : decode cX5_mark 116 = .ok (.invokevirtual 140, 3) := by decide +kernel
theorem dX5_mark_119 : decode cX5_mark 119 = .ok (.ireturn, 1) := by decide +kernel
theorem dX5_mark_120 : decode cX5_mark 120 = .ok (.aload_n 0, 1) := by decide +kernel
theorem dX5_mark_121 : decode cX5_mark 121 = .ok (.getfield 36, 3) := by decide +kernel
theorem dX5_mark_124 : decode cX5_mark 124 = .ok (.aload_n 0, 1) := by decide +kernel
theorem dX5_mark_125 : decode cX5_mark 125 = .ok (.getfield 46, 3) := by decide +kernel
theorem dX5_mark_128 : decode cX5_mark 128 = .ok (.getfield 127, 3) := by decide +kernel
theorem dX5_mark_131 : decode cX5_mark 131 = .ok (.iload_n 1, 1) := by decide +kernel
theorem dX5_mark_132 : decode cX5_mark 132 = .ok (.invokevirtual 143, 3) := by decide +kernel
theorem dX5_mark_135 : decode cX5_mark 135 = .ok (.ireturn, 1) := by decide +kernel
theorem dX5_mark_136 : decode cX5_mark 136 = .ok (.aload_n 0, 1) := by decide +kernel
theorem dX5_mark_137 : decode cX5_mark 137 = .ok (.getfield 36, 3) := by decide +kernel
theorem dX5_mark_140 : decode cX5_mark 140 = .ok (.aload_n 0, 1) := by decide +kernel
theorem dX5_mark_141 : decode cX5_mark 141 = .ok (.getfield 46, 3) := by decide +kernel
theorem dX5_mark_144 : decode cX5_mark 144 = .ok (.getfield 127, 3) := by decide +kernel
theorem dX5_mark_147 : decode cX5_mark 147 = .ok (.iload_n 1, 1) := by decide +kernel
theorem dX5_mark_148 : decode cX5_mark 148 = .ok (.invokevirtual 146, 3) := by decide +kernel
theorem dX5_mark_151 : decode cX5_mark 151 = .ok (.ireturn, 1) := by decide +kernel
theorem dX5_mark_152 : decode cX5_mark 152 = .ok (.aload_n 0, 1) := by decide +kernel
theorem dX5_mark_153 : decode cX5_mark 153 = .ok (.getfield 36, 3) := by decide +kernel
theorem dX5_mark_156 : decode cX5_mark 156 = .ok (.aload_n 0, 1) := by decide +kernel
theorem dX5_mark_157 : decode cX5_mark 157 = .ok (.getfield 46, 3) := by decide +kernel
theorem dX5_mark_160 : decode cX5_mark 160 = .ok (.getfield 127, 3) := by decide +kernel
theorem dX5_mark_163 : decode cX5_mark 163 = .ok (.iload_n 1, 1) := by decide +kernel
theorem dX5_mark_164 : decode cX5_mark 164 = .ok (.invokevirtual 149, 3) := by decide +kernel
theorem dX5_mark_167 : decode cX5_mark 167 = .ok (.ireturn, 1) := by decide +kernel
set_option maxRecDepth 20000 in
theorem ggX5_does_X5_isTune : GoodIn wsX5_does wsX5_isTune := goodIn_r _ [5] (by decide +kernel) (by decide +kernel)
set_option maxRecDepth 20000 in
theorem gX5_does_X5_isTune : GoodIn wsX5_does (va_wsS RX5 152 yX5_isTune wsX5_isTune) := goodIn_app (goodIn_of _ (by decide +kernel)) ggX5_does_X5_isTune
theorem dX5_does_0 : decode cX5_does 0 = .ok (.iload_n 1, 1) := by decide +kernel
theorem dX5_does_1 : decode cX5_does 1 = .ok (.invokestatic 152, 3) := by decide +kernel
theorem dX5_does_4 : decode cX5_does 4 = .ok (.ifCond .eq 14, 3) := by decide +kernel
theorem dX5_does_7 : decode cX5_does 7 = .ok (.iload_n 2, 1) := by decide +kernel
theorem dX5_does_8 : decode cX5_does 8 = .ok (.bipush (-4), 2) := by decide +kernel
theorem dX5_does_10 : decode cX5_does 10 = .ok (.if_icmp .lt 8, 3) := by decide +kernel
theorem dX5_does_13 : decode cX5_does 13 = .ok (.iload_n 2, 1) := by decide +kernel
theorem dX5_does_14 : decode cX5_does 14 = .ok (.iconst 5, 1) := by decide +kernel
theorem dX5_does_15 : decode cX5_does 15 = .ok (.if_icmp .le 5, 3) := by decide +kernel
theorem dX5_does_18 : decode cX5_does 18 = .ok (.iconst (-1), 1) := by decide +kernel
theorem dX5_does_19 : decode cX5_does 19 = .ok (.ireturn, 1) := by decide +kernel
theorem dX5_does_20 : decode cX5_does 20 = .ok (.aload_n 0, 1) := by decide +kernel
theorem dX5_does_21 : decode cX5_does 21 = .ok (.getfield 36, 3) := by decide +kernel
theorem dX5_does_24 : decode cX5_does 24 = .ok (.getfield 111, 3) := by decide +kernel
theorem dX5_does_27 : decode cX5_does 27 = .ok (.ifCond .ne 6, 3) := by decide +kernel
theorem dX5_does_30 : decode cX5_does 30 = .ok (.bipush (-4), 2) := by decide +kernel
theorem dX5_does_32 : decode cX5_does 32 = .ok (.ireturn, 1) := by decide +kernel
theorem dX5_does_33 : decode cX5_does 33 = .ok (.aload_n 0, 1) := by decide +kernel
theorem dX5_does_34 : decode cX5_does 34 = .ok (.getfield 36, 3) := by decide +kernel
theorem dX5_does_37 : decode cX5_does 37 = .ok (.getfield 155, 3) := by decide +kernel
theorem dX5_does_40 : decode cX5_does 40 = .ok (.iload_n 1, 1) := by decide +kernel
theorem dX5_does_41 : decode cX5_does 41 = .ok (.iaload, 1) := by decide +kernel
theorem dX5_does_42 : decode cX5_does 42 = .ok (.istore_n 3, 1) := by decide +kernel
theorem dX5_does_43 : decode cX5_does 43 = .ok (.aload_n 0, 1) := by decide +kernel
theorem dX5_does_44 : decode cX5_does 44 = .ok (.getfield 36, 3) := by decide +kernel
theorem dX5_does_47 : decode cX5_does 47 = .ok (.getfield 155, 3) := by decide +kernel
theorem dX5_does_50 : decode cX5_does 50 = .ok (.iload_n 1, 1) := by decide +kernel
theorem dX5_does_51 : decode cX5_does 51 = .ok (.iload_n 2, 1) := by decide +kernel
theorem dX5_does_52 : decode cX5_does 52 = .ok (.iastore, 1) := by decide +kernel
theorem dX5_does_53 : decode cX5_does 53 = .ok (.iload_n 3, 1) := by decide +kernel
theorem dX5_does_54 : decode cX5_does 54 = .ok (.ireturn, 1) := by decide +kernel
set_option maxRecDepth 20000 in
theorem ggX5_tune_X5_isTune : GoodIn wsX5_tune wsX5_isTune := goodIn_r _ [6] (by decide +kernel) (by decide +kernel)
set_option maxRecDepth 20000 in
theorem gX5_tune_X5_isTune : GoodIn wsX5_tune (va_wsS RX5 152 yX5_isTune wsX5_isTune) := goodIn_app (goodIn_of _ (by decide +kernel)) ggX5_tune_X5_isTune
set_option maxRecDepth 20000 in
theorem ggX5_tune_X1_insiders : GoodIn wsX5_tune wsX1_insiders := goodIn_r _ [9] (by decide +kernel) (by decide +kernel)
set_option maxRecDepth 20000 in
theorem gX5_tune_X1_insiders_n158 : GoodIn wsX5_tune (wsX1_insiders) := ggX5_tune_X1_insiders
set_option maxRecDepth 20000 in
theorem ggX5_tune_X2_afterTune : GoodIn wsX5_tune wsX2_afterTune := goodIn_r _ [13, 14, 15, 16, 17, 8, 18, 19, 20, 21, 22, 23, 11, 24, 25, 26, 27, 28, 29, 30, 31, 32, 33, 34, 35, 36, 37, 38, 39, 40, 41, 42, 43, 44, 45, 46, 47, 48, 7, 9, 49, 50, 51, 52, 53, 54, 55, 56, 78, 79, 80, 81, 82, 83, 84] (by decide +kernel) (by decide +kernel)
set_option maxRecDepth 20000 in
theorem gX5_tune_X2_afterTune_n162 : GoodIn wsX5_tune (wsX2_afterTune) := ggX5_tune_X2_afterTune
set_option maxRecDepth 20000 in
theorem ggX5_tune_X0_goOn : GoodIn wsX5_tune wsX0_goOn := goodIn_r _ [60, 61, 62, 63, 85, 86, 87] (by decide +kernel) (by decide +kernel)
set_option maxRecDepth 20000 in
theorem gX5_tune_X0_goOn_n166 : GoodIn wsX5_tune (wsX0_goOn) := ggX5_tune_X0_goOn
theorem dX5_tune_0 : decode cX5_tune 0 = .ok (.iload_n 1, 1) := by decide +kernel
theorem dX5_tune_1 : decode cX5_tune 1 = .ok (.invokestatic 152, 3) := by decide +kernel
theorem dX5_tune_4 : decode cX5_tune 4 = .ok (.ifCond .ne 5, 3) := by decide +kernel
theorem dX5_tune_7 : decode cX5_tune 7 = .ok (.iconst (-1), 1) := by decide +kernel
theorem dX5_tune_8 : decode cX5_tune 8 = .ok (.ireturn, 1) := by decide +kernel
theorem dX5_tune_9 : decode cX5_tune 9 = .ok (.aload_n 0, 1) := by decide +kernel
theorem dX5_tune_10 : decode cX5_tune 10 = .ok (.getfield 36, 3) := by decide +kernel
theorem dX5_tune_13 : decode cX5_tune 13 = .ok (.getfield 111, 3) := by decide +kernel
theorem dX5_tune_16 : decode cX5_tune 16 = .ok (.ifCond .ne 6, 3) := by decide +kernel
theorem dX5_tune_19 : decode cX5_tune 19 = .ok (.bipush (-4), 2) := by decide +kernel
theorem dX5_tune_21 : decode cX5_tune 21 = .ok (.ireturn, 1) := by decide +kernel
theorem dX5_tune_22 : decode cX5_tune 22 = .ok (.aload_n 0, 1) := by decide +kernel
theorem dX5_tune_23 : decode cX5_tune 23 = .ok (.getfield 46, 3) := by decide +kernel
theorem dX5_tune_26 : decode cX5_tune 26 = .ok (.getfield 71, 3) := by decide +kernel
theorem dX5_tune_29 : decode cX5_tune 29 = .ok (.bipush 40, 2) := by decide +kernel
theorem dX5_tune_31 : decode cX5_tune 31 = .ok (.if_icmp .lt 6, 3) := by decide +kernel
theorem dX5_tune_34 : decode cX5_tune 34 = .ok (.bipush (-2), 2) := by decide +kernel
theorem dX5_tune_36 : decode cX5_tune 36 = .ok (.ireturn, 1) := by decide +kernel
theorem dX5_tune_37 : decode cX5_tune 37 = .ok (.aload_n 0, 1) := by decide +kernel
theorem dX5_tune_38 : decode cX5_tune 38 = .ok (.getfield 46, 3) := by decide +kernel
theorem dX5_tune_41 : decode cX5_tune 41 = .ok (.getfield 127, 3) := by decide +kernel
theorem dX5_tune_44 : decode cX5_tune 44 = .ok (.invokestatic 158, 3) := by decide +kernel
theorem dX5_tune_47 : decode cX5_tune 47 = .ok (.istore_n 2, 1) := by decide +kernel
theorem dX5_tune_48 : decode cX5_tune 48 = .ok (.aload_n 0, 1) := by decide +kernel
theorem dX5_tune_49 : decode cX5_tune 49 = .ok (.getfield 46, 3) := by decide +kernel
theorem dX5_tune_52 : decode cX5_tune 52 = .ok (.aload_n 0, 1) := by decide +kernel
theorem dX5_tune_53 : decode cX5_tune 53 = .ok (.getfield 36, 3) := by decide +kernel
theorem dX5_tune_56 : decode cX5_tune 56 = .ok (.aload_n 0, 1) := by decide +kernel
theorem dX5_tune_57 : decode cX5_tune 57 = .ok (.getfield 46, 3) := by decide +kernel
theorem dX5_tune_60 : decode cX5_tune 60 = .ok (.getfield 127, 3) := by decide +kernel
theorem dX5_tune_63 : decode cX5_tune 63 = .ok (.iload_n 1, 1) := by decide +kernel
theorem dX5_tune_64 : decode cX5_tune 64 = .ok (.invokevirtual 162, 3) := by decide +kernel
theorem dX5_tune_67 : decode cX5_tune 67 = .ok (.invokevirtual 166, 3) := by decide +kernel
theorem dX5_tune_70 : decode cX5_tune 70 = .ok (.iload_n 2, 1) := by decide +kernel
theorem dX5_tune_71 : decode cX5_tune 71 = .ok (.aload_n 0, 1) := by decide +kernel
theorem dX5_tune_72 : decode cX5_tune 72 = .ok (.getfield 46, 3) := by decide +kernel
theorem dX5_tune_75 : decode cX5_tune 75 = .ok (.getfield 127, 3) := by decide +kernel
theorem dX5_tune_78 : decode cX5_tune 78 = .ok (.invokestatic 158, 3) := by decide +kernel
theorem dX5_tune_81 : decode cX5_tune 81 = .ok (.iconst (-1), 1) := by decide +kernel
theorem dX5_tune_82 : decode cX5_tune 82 = .ok (.ixor, 1) := by decide +kernel
theorem dX5_tune_83 : decode cX5_tune 83 = .ok (.iand, 1) := by decide +kernel
theorem dX5_tune_84 : decode cX5_tune 84 = .ok (.ireturn, 1) := by decide +kernel
set_option maxRecDepth 20000 in
theorem ggX5_say_X5_deedRefusal : GoodIn wsX5_say wsX5_deedRefusal := goodIn_r _ [7, 1, 8, 9, 10, 6, 11, 2, 12, 13, 14, 62, 63, 64, 65, 66, 67, 68, 69, 70, 71, 72, 73, 74, 75, 76, 77, 78, 79, 80, 81, 82, 83, 84, 85] (by decide +kernel) (by decide +kernel)
set_option maxRecDepth 20000 in
theorem gX5_say_X5_deedRefusal : GoodIn wsX5_say (wsV RX5 169 RX5 yX5_deedRefusal wsX5_deedRefusal) := goodIn_app (goodIn_of _ (by decide +kernel)) ggX5_say_X5_deedRefusal
set_option maxRecDepth 20000 in
theorem ggX5_say_X2_afterName : GoodIn wsX5_say wsX2_afterName := goodIn_r _ [18, 19, 20, 13, 21, 22, 23, 24, 16, 25, 26, 27, 28, 29, 30, 31, 32, 33, 34, 35, 36, 37, 38, 39, 40, 41, 42, 43, 44, 45, 46, 47, 48, 49, 50, 51, 52, 53, 54, 79, 80, 81, 82, 83, 84, 85] (by decide +kernel) (by decide +kernel)
set_option maxRecDepth 20000 in
theorem gX5_say_X2_afterName_n172 : GoodIn wsX5_say (wsX2_afterName) := ggX5_say_X2_afterName
set_option maxRecDepth 20000 in
theorem ggX5_say_X0_goOn : GoodIn wsX5_say wsX0_goOn := goodIn_r _ [58, 59, 60, 61, 76, 77, 78] (by decide +kernel) (by decide +kernel)
set_option maxRecDepth 20000 in
theorem gX5_say_X0_goOn_n166 : GoodIn wsX5_say (wsX0_goOn) := ggX5_say_X0_goOn
set_option maxRecDepth 20000 in
theorem ggX5_say_X1_griefOf : GoodIn wsX5_say wsX1_griefOf := goodIn_r _ [21, 22] (by decide +kernel) (by decide +kernel)
set_option maxRecDepth 20000 in
theorem gX5_say_X1_griefOf_n175 : GoodIn wsX5_say (wsX1_griefOf) := ggX5_say_X1_griefOf
theorem dX5_say_0 : decode cX5_say 0 = .ok (.aload_n 0, 1) := by decide +kernel
theorem dX5_say_1 : decode cX5_say 1 = .ok (.iload_n 1, 1) := by decide +kernel
theorem dX5_say_2 : decode cX5_say 2 = .ok (.invokevirtual 169, 3) := by decide +kernel
theorem dX5_say_5 : decode cX5_say 5 = .ok (.istore_n 2, 1) := by decide +kernel
theorem dX5_say_6 : decode cX5_say 6 = .ok (.iload_n 2, 1) := by decide +kernel
theorem dX5_say_7 : decode cX5_say 7 = .ok (.ifCond .eq 5, 3) := by decide +kernel
theorem dX5_say_10 : decode cX5_say 10 = .ok (.iload_n 2, 1) := by decide +kernel
theorem dX5_say_11 : decode cX5_say 11 = .ok (.ireturn, 1) := by decide +kernel
theorem dX5_say_12 : decode cX5_say 12 = .ok (.aload_n 0, 1) := by decide +kernel
theorem dX5_say_13 : decode cX5_say 13 = .ok (.getfield 46, 3) := by decide +kernel
theorem dX5_say_16 : decode cX5_say 16 = .ok (.aload_n 0, 1) := by decide +kernel
theorem dX5_say_17 : decode cX5_say 17 = .ok (.getfield 36, 3) := by decide +kernel
theorem dX5_say_20 : decode cX5_say 20 = .ok (.aload_n 0, 1) := by decide +kernel
theorem dX5_say_21 : decode cX5_say 21 = .ok (.getfield 46, 3) := by decide +kernel
theorem dX5_say_24 : decode cX5_say 24 = .ok (.getfield 127, 3) := by decide +kernel
theorem dX5_say_27 : decode cX5_say 27 = .ok (.iload_n 1, 1) := by decide +kernel
theorem dX5_say_28 : decode cX5_say 28 = .ok (.invokevirtual 172, 3) := by decide +kernel
theorem dX5_say_31 : decode cX5_say 31 = .ok (.invokevirtual 166, 3) := by decide +kernel
theorem dX5_say_34 : decode cX5_say 34 = .ok (.aload_n 0, 1) := by decide +kernel
theorem dX5_say_35 : decode cX5_say 35 = .ok (.getfield 46, 3) := by decide +kernel
theorem dX5_say_38 : decode cX5_say 38 = .ok (.getfield 127, 3) := by decide +kernel
theorem dX5_say_41 : decode cX5_say 41 = .ok (.iload_n 1, 1) := by decide +kernel
theorem dX5_say_42 : decode cX5_say 42 = .ok (.invokestatic 175, 3) := by decide +kernel
theorem dX5_say_45 : decode cX5_say 45 = .ok (.ireturn, 1) := by decide +kernel
set_option maxRecDepth 20000 in
theorem ggX5_ice_X5_deedRefusal : GoodIn wsX5_ice wsX5_deedRefusal := goodIn_r _ [7, 1, 8, 9, 10, 6, 11, 2, 12, 13, 14, 59, 60, 61, 62, 63, 64, 65, 66, 67, 68, 69, 70, 71, 72, 73, 74, 75, 76, 77, 78, 79, 80, 81, 82] (by decide +kernel) (by decide +kernel)
set_option maxRecDepth 20000 in
theorem gX5_ice_X5_deedRefusal : GoodIn wsX5_ice (wsV RX5 169 RX5 yX5_deedRefusal wsX5_deedRefusal) := goodIn_app (goodIn_of _ (by decide +kernel)) ggX5_ice_X5_deedRefusal
set_option maxRecDepth 20000 in
theorem ggX5_ice_X2_afterIce : GoodIn wsX5_ice wsX2_afterIce := goodIn_r _ [18, 19, 13, 20, 21, 22, 23, 16, 24, 25, 26, 27, 28, 29, 30, 31, 32, 33, 34, 35, 36, 37, 38, 39, 40, 41, 42, 43, 44, 45, 46, 47, 48, 49, 50, 51, 76, 77, 78, 79, 80, 81, 82] (by decide +kernel) (by decide +kernel)
set_option maxRecDepth 20000 in
theorem gX5_ice_X2_afterIce_n178 : GoodIn wsX5_ice (wsX2_afterIce) := ggX5_ice_X2_afterIce
set_option maxRecDepth 20000 in
theorem ggX5_ice_X0_goOn : GoodIn wsX5_ice wsX0_goOn := goodIn_r _ [55, 56, 57, 58, 73, 74, 75] (by decide +kernel) (by decide +kernel)
set_option maxRecDepth 20000 in
theorem gX5_ice_X0_goOn_n166 : GoodIn wsX5_ice (wsX0_goOn) := ggX5_ice_X0_goOn
set_option maxRecDepth 20000 in
theorem ggX5_ice_X1_griefOf : GoodIn wsX5_ice wsX1_griefOf := goodIn_r _ [20, 21] (by decide +kernel) (by decide +kernel)
set_option maxRecDepth 20000 in
theorem gX5_ice_X1_griefOf_n175 : GoodIn wsX5_ice (wsX1_griefOf) := ggX5_ice_X1_griefOf
theorem dX5_ice_0 : decode cX5_ice 0 = .ok (.aload_n 0, 1) := by decide +kernel
theorem dX5_ice_1 : decode cX5_ice 1 = .ok (.iload_n 1, 1) := by decide +kernel
theorem dX5_ice_2 : decode cX5_ice 2 = .ok (.invokevirtual 169, 3) := by decide +kernel
theorem dX5_ice_5 : decode cX5_ice 5 = .ok (.istore_n 2, 1) := by decide +kernel
theorem dX5_ice_6 : decode cX5_ice 6 = .ok (.iload_n 2, 1) := by decide +kernel
theorem dX5_ice_7 : decode cX5_ice 7 = .ok (.ifCond .eq 5, 3) := by decide +kernel
theorem dX5_ice_10 : decode cX5_ice 10 = .ok (.iload_n 2, 1) := by decide +kernel
theorem dX5_ice_11 : decode cX5_ice 11 = .ok (.ireturn, 1) := by decide +kernel
theorem dX5_ice_12 : decode cX5_ice 12 = .ok (.aload_n 0, 1) := by decide +kernel
theorem dX5_ice_13 : decode cX5_ice 13 = .ok (.getfield 46, 3) := by decide +kernel
theorem dX5_ice_16 : decode cX5_ice 16 = .ok (.aload_n 0, 1) := by decide +kernel
theorem dX5_ice_17 : decode cX5_ice 17 = .ok (.getfield 36, 3) := by decide +kernel
theorem dX5_ice_20 : decode cX5_ice 20 = .ok (.aload_n 0, 1) := by decide +kernel
theorem dX5_ice_21 : decode cX5_ice 21 = .ok (.getfield 46, 3) := by decide +kernel
theorem dX5_ice_24 : decode cX5_ice 24 = .ok (.getfield 127, 3) := by decide +kernel
theorem dX5_ice_27 : decode cX5_ice 27 = .ok (.iload_n 1, 1) := by decide +kernel
theorem dX5_ice_28 : decode cX5_ice 28 = .ok (.invokevirtual 178, 3) := by decide +kernel
theorem dX5_ice_31 : decode cX5_ice 31 = .ok (.invokevirtual 166, 3) := by decide +kernel
theorem dX5_ice_34 : decode cX5_ice 34 = .ok (.aload_n 0, 1) := by decide +kernel
theorem dX5_ice_35 : decode cX5_ice 35 = .ok (.getfield 46, 3) := by decide +kernel
theorem dX5_ice_38 : decode cX5_ice 38 = .ok (.getfield 127, 3) := by decide +kernel
theorem dX5_ice_41 : decode cX5_ice 41 = .ok (.iload_n 1, 1) := by decide +kernel
theorem dX5_ice_42 : decode cX5_ice 42 = .ok (.invokestatic 175, 3) := by decide +kernel
theorem dX5_ice_45 : decode cX5_ice 45 = .ok (.ireturn, 1) := by decide +kernel
set_option maxRecDepth 20000 in
theorem ggX5_undo_X0_goBackTo : GoodIn wsX5_undo wsX0_goBackTo := goodIn_r _ [5, 6, 7, 8, 23, 24, 25] (by decide +kernel) (by decide +kernel)
set_option maxRecDepth 20000 in
theorem gX5_undo_X0_goBackTo_n181 : GoodIn wsX5_undo (wsX0_goBackTo) := ggX5_undo_X0_goBackTo
theorem dX5_undo_0 : decode cX5_undo 0 = .ok (.iload_n 1, 1) := by decide +kernel
theorem dX5_undo_1 : decode cX5_undo 1 = .ok (.ifCond .lt 14, 3) := by decide +kernel
theorem dX5_undo_4 : decode cX5_undo 4 = .ok (.iload_n 1, 1) := by decide +kernel
theorem dX5_undo_5 : decode cX5_undo 5 = .ok (.aload_n 0, 1) := by decide +kernel
theorem dX5_undo_6 : decode cX5_undo 6 = .ok (.getfield 46, 3) := by decide +kernel
theorem dX5_undo_9 : decode cX5_undo 9 = .ok (.getfield 71, 3) := by decide +kernel
theorem dX5_undo_12 : decode cX5_undo 12 = .ok (.if_icmp .le 5, 3) := by decide +kernel
theorem dX5_undo_15 : decode cX5_undo 15 = .ok (.iconst (-1), 1) := by decide +kernel
theorem dX5_undo_16 : decode cX5_undo 16 = .ok (.ireturn, 1) := by decide +kernel
theorem dX5_undo_17 : decode cX5_undo 17 = .ok (.aload_n 0, 1) := by decide +kernel
theorem dX5_undo_18 : decode cX5_undo 18 = .ok (.getfield 46, 3) := by decide +kernel
theorem dX5_undo_21 : decode cX5_undo 21 = .ok (.getfield 71, 3) := by decide +kernel
theorem dX5_undo_24 : decode cX5_undo 24 = .ok (.iload_n 1, 1) := by decide +kernel
theorem dX5_undo_25 : decode cX5_undo 25 = .ok (.isub, 1) := by decide +kernel
theorem dX5_undo_26 : decode cX5_undo 26 = .ok (.istore_n 2, 1) := by decide +kernel
theorem dX5_undo_27 : decode cX5_undo 27 = .ok (.aload_n 0, 1) := by decide +kernel
theorem dX5_undo_28 : decode cX5_undo 28 = .ok (.getfield 46, 3) := by decide +kernel
theorem dX5_undo_31 : decode cX5_undo 31 = .ok (.iload_n 1, 1) := by decide +kernel
theorem dX5_undo_32 : decode cX5_undo 32 = .ok (.invokevirtual 181, 3) := by decide +kernel
theorem dX5_undo_35 : decode cX5_undo 35 = .ok (.iload_n 2, 1) := by decide +kernel
theorem dX5_undo_36 : decode cX5_undo 36 = .ok (.ireturn, 1) := by decide +kernel
set_option maxRecDepth 20000 in
theorem ggX5_keep_X5_isKeepingPlace : GoodIn wsX5_keep wsX5_isKeepingPlace := goodIn_r _ [7] (by decide +kernel) (by decide +kernel)
set_option maxRecDepth 20000 in
theorem gX5_keep_X5_isKeepingPlace : GoodIn wsX5_keep (va_wsS RX5 185 yX5_isKeepingPlace wsX5_isKeepingPlace) := goodIn_app (goodIn_of _ (by decide +kernel)) ggX5_keep_X5_isKeepingPlace
set_option maxRecDepth 20000 in
theorem ggX5_keep_X0_takeAll : GoodIn wsX5_keep wsX0_takeAll := goodIn_r _ [11, 12, 13, 14, 15, 16, 17, 18, 40, 41, 42] (by decide +kernel) (by decide +kernel)
set_option maxRecDepth 20000 in
theorem gX5_keep_X0_takeAll_n188 : GoodIn wsX5_keep (wsX0_takeAll) := ggX5_keep_X0_takeAll
theorem dX5_keep_0 : decode cX5_keep 0 = .ok (.iload_n 1, 1) := by decide +kernel
theorem dX5_keep_1 : decode cX5_keep 1 = .ok (.invokestatic 185, 3) := by decide +kernel
theorem dX5_keep_4 : decode cX5_keep 4 = .ok (.ifCond .ne 5, 3) := by decide +kernel
theorem dX5_keep_7 : decode cX5_keep 7 = .ok (.iconst (-1), 1) := by decide +kernel
theorem dX5_keep_8 : decode cX5_keep 8 = .ok (.ireturn, 1) := by decide +kernel
theorem dX5_keep_9 : decode cX5_keep 9 = .ok (.aload_n 0, 1) := by decide +kernel
theorem dX5_keep_10 : decode cX5_keep 10 = .ok (.getfield 36, 3) := by decide +kernel
theorem dX5_keep_13 : decode cX5_keep 13 = .ok (.getfield 111, 3) := by decide +kernel
theorem dX5_keep_16 : decode cX5_keep 16 = .ok (.ifCond .ne 6, 3) := by decide +kernel
theorem dX5_keep_19 : decode cX5_keep 19 = .ok (.bipush (-4), 2) := by decide +kernel
theorem dX5_keep_21 : decode cX5_keep 21 = .ok (.ireturn, 1) := by decide +kernel
theorem dX5_keep_22 : decode cX5_keep 22 = .ok (.aload_n 0, 1) := by decide +kernel
theorem dX5_keep_23 : decode cX5_keep 23 = .ok (.getfield 50, 3) := by decide +kernel
theorem dX5_keep_26 : decode cX5_keep 26 = .ok (.iload_n 1, 1) := by decide +kernel
theorem dX5_keep_27 : decode cX5_keep 27 = .ok (.aaload, 1) := by decide +kernel
theorem dX5_keep_28 : decode cX5_keep 28 = .ok (.aload_n 0, 1) := by decide +kernel
theorem dX5_keep_29 : decode cX5_keep 29 = .ok (.getfield 46, 3) := by decide +kernel
theorem dX5_keep_32 : decode cX5_keep 32 = .ok (.invokevirtual 188, 3) := by decide +kernel
theorem dX5_keep_35 : decode cX5_keep 35 = .ok (.aload_n 0, 1) := by decide +kernel
theorem dX5_keep_36 : decode cX5_keep 36 = .ok (.getfield 46, 3) := by decide +kernel
theorem dX5_keep_39 : decode cX5_keep 39 = .ok (.getfield 71, 3) := by decide +kernel
theorem dX5_keep_42 : decode cX5_keep 42 = .ok (.ireturn, 1) := by decide +kernel
set_option maxRecDepth 20000 in
theorem ggX5_on_X5_isKeepingPlace : GoodIn wsX5_on wsX5_isKeepingPlace := goodIn_r _ [6] (by decide +kernel) (by decide +kernel)
set_option maxRecDepth 20000 in
theorem gX5_on_X5_isKeepingPlace : GoodIn wsX5_on (va_wsS RX5 185 yX5_isKeepingPlace wsX5_isKeepingPlace) := goodIn_app (goodIn_of _ (by decide +kernel)) ggX5_on_X5_isKeepingPlace
set_option maxRecDepth 20000 in
theorem ggX5_on_X5_found : GoodIn wsX5_on wsX5_found := goodIn_r _ [10, 11, 12, 24, 25, 26, 27, 28, 29, 30, 31, 32, 33, 34, 35, 36, 37] (by decide +kernel) (by decide +kernel)
set_option maxRecDepth 20000 in
theorem gX5_on_X5_found : GoodIn wsX5_on (wsV RX5 78 RX5 yX5_found wsX5_found) := goodIn_app (goodIn_of _ (by decide +kernel)) ggX5_on_X5_found
set_option maxRecDepth 20000 in
theorem ggX5_on_X0_takeAll : GoodIn wsX5_on wsX0_takeAll := goodIn_r _ [16, 17, 18, 19, 20, 21, 22, 23, 38, 39, 40] (by decide +kernel) (by decide +kernel)
set_option maxRecDepth 20000 in
theorem gX5_on_X0_takeAll_n188 : GoodIn wsX5_on (wsX0_takeAll) := ggX5_on_X0_takeAll
theorem dX5_on_0 : decode cX5_on 0 = .ok (.iload_n 1, 1) := by decide +kernel
theorem dX5_on_1 : decode cX5_on 1 = .ok (.invokestatic 185, 3) := by decide +kernel
theorem dX5_on_4 : decode cX5_on 4 = .ok (.ifCond .ne 5, 3) := by decide +kernel
theorem dX5_on_7 : decode cX5_on 7 = .ok (.iconst (-1), 1) := by decide +kernel
theorem dX5_on_8 : decode cX5_on 8 = .ok (.ireturn, 1) := by decide +kernel
theorem dX5_on_9 : decode cX5_on 9 = .ok (.aload_n 0, 1) := by decide +kernel
theorem dX5_on_10 : decode cX5_on 10 = .ok (.getfield 50, 3) := by decide +kernel
theorem dX5_on_13 : decode cX5_on 13 = .ok (.iload_n 1, 1) := by decide +kernel
theorem dX5_on_14 : decode cX5_on 14 = .ok (.aaload, 1) := by decide +kernel
theorem dX5_on_15 : decode cX5_on 15 = .ok (.getfield 71, 3) := by decide +kernel
theorem dX5_on_18 : decode cX5_on 18 = .ok (.iconst (-1), 1) := by decide +kernel
theorem dX5_on_19 : decode cX5_on 19 = .ok (.if_icmp .ne 9, 3) := by decide +kernel
theorem dX5_on_22 : decode cX5_on 22 = .ok (.aload_n 0, 1) := by decide +kernel
theorem dX5_on_23 : decode cX5_on 23 = .ok (.iconst 1, 1) := by decide +kernel
theorem dX5_on_24 : decode cX5_on 24 = .ok (.invokevirtual 78, 3) := by decide +kernel
theorem dX5_on_27 : decode cX5_on 27 = .ok (.ireturn, 1) := by decide +kernel
theorem dX5_on_28 : decode cX5_on 28 = .ok (.aload_n 0, 1) := by decide +kernel
theorem dX5_on_29 : decode cX5_on 29 = .ok (.getfield 46, 3) := by decide +kernel
theorem dX5_on_32 : decode cX5_on 32 = .ok (.aload_n 0, 1) := by decide +kernel
theorem dX5_on_33 : decode cX5_on 33 = .ok (.getfield 50, 3) := by decide +kernel
theorem dX5_on_36 : decode cX5_on 36 = .ok (.iload_n 1, 1) := by decide +kernel
theorem dX5_on_37 : decode cX5_on 37 = .ok (.aaload, 1) := by decide +kernel
theorem dX5_on_38 : decode cX5_on 38 = .ok (.invokevirtual 188, 3) := by decide +kernel
theorem dX5_on_41 : decode cX5_on 41 = .ok (.aload_n 0, 1) := by decide +kernel
theorem dX5_on_42 : decode cX5_on 42 = .ok (.getfield 46, 3) := by decide +kernel
theorem dX5_on_45 : decode cX5_on 45 = .ok (.getfield 71, 3) := by decide +kernel
theorem dX5_on_48 : decode cX5_on 48 = .ok (.ireturn, 1) := by decide +kernel
set_option maxRecDepth 20000 in
theorem ggX5_out_X5_isTune : GoodIn wsX5_out wsX5_isTune := goodIn_r _ [7] (by decide +kernel) (by decide +kernel)
set_option maxRecDepth 20000 in
theorem gX5_out_X5_isTune : GoodIn wsX5_out (va_wsS RX5 152 yX5_isTune wsX5_isTune) := goodIn_app (goodIn_of _ (by decide +kernel)) ggX5_out_X5_isTune
set_option maxRecDepth 20000 in
theorem ggX5_out_X2_afterTune : GoodIn wsX5_out wsX2_afterTune := goodIn_r _ [11, 12, 13, 14, 15, 16, 17, 18, 19, 20, 21, 22, 9, 23, 24, 25, 26, 27, 28, 29, 30, 31, 32, 33, 34, 35, 36, 37, 38, 39, 40, 41, 42, 43, 44, 45, 46, 47, 48, 49, 50, 51, 52, 53, 54, 55, 56, 57, 78, 79, 80, 81, 82, 83, 84] (by decide +kernel) (by decide +kernel)
set_option maxRecDepth 20000 in
theorem gX5_out_X2_afterTune_n162 : GoodIn wsX5_out (wsX2_afterTune) := ggX5_out_X2_afterTune
set_option maxRecDepth 20000 in
theorem ggX5_out_X1_griefOfAll : GoodIn wsX5_out wsX1_griefOfAll := goodIn_r _ [59, 60, 18, 16, 19, 20] (by decide +kernel) (by decide +kernel)
set_option maxRecDepth 20000 in
theorem gX5_out_X1_griefOfAll_n192 : GoodIn wsX5_out (wsX1_griefOfAll) := ggX5_out_X1_griefOfAll
set_option maxRecDepth 20000 in
theorem ggX5_out_X1_insiders : GoodIn wsX5_out wsX1_insiders := goodIn_r _ [49] (by decide +kernel) (by decide +kernel)
set_option maxRecDepth 20000 in
theorem gX5_out_X1_insiders_n158 : GoodIn wsX5_out (wsX1_insiders) := ggX5_out_X1_insiders
theorem dX5_out_0 : decode cX5_out 0 = .ok (.iload_n 1, 1) := by decide +kernel
theorem dX5_out_1 : decode cX5_out 1 = .ok (.invokestatic 152, 3) := by decide +kernel
theorem dX5_out_4 : decode cX5_out 4 = .ok (.ifCond .ne 5, 3) := by decide +kernel
theorem dX5_out_7 : decode cX5_out 7 = .ok (.iconst (-1), 1) := by decide +kernel
theorem dX5_out_8 : decode cX5_out 8 = .ok (.ireturn, 1) := by decide +kernel
theorem dX5_out_9 : decode cX5_out 9 = .ok (.aload_n 0, 1) := by decide +kernel
theorem dX5_out_10 : decode cX5_out 10 = .ok (.getfield 36, 3) := by decide +kernel
theorem dX5_out_13 : decode cX5_out 13 = .ok (.aload_n 0, 1) := by decide +kernel
theorem dX5_out_14 : decode cX5_out 14 = .ok (.getfield 46, 3) := by decide +kernel
theorem dX5_out_17 : decode cX5_out 17 = .ok (.getfield 127, 3) := by decide +kernel
theorem dX5_out_20 : decode cX5_out 20 = .ok (.iload_n 1, 1) := by decide +kernel
theorem dX5_out_21 : decode cX5_out 21 = .ok (.invokevirtual 162, 3) := by decide +kernel
theorem dX5_out_24 : decode cX5_out 24 = .ok (.lstore_n 2, 1) := by decide +kernel
theorem dX5_out_25 : decode cX5_out 25 = .ok (.aload_n 0, 1) := by decide +kernel
theorem dX5_out_26 : decode cX5_out 26 = .ok (.lload_n 2, 1) := by decide +kernel
theorem dX5_out_27 : decode cX5_out 27 = .ok (.invokestatic 192, 3) := by decide +kernel
theorem dX5_out_30 : decode cX5_out 30 = .ok (.putfield 61, 3) := by decide +kernel
theorem dX5_out_33 : decode cX5_out 33 = .ok (.aload_n 0, 1) := by decide +kernel
theorem dX5_out_34 : decode cX5_out 34 = .ok (.getfield 46, 3) := by decide +kernel
theorem dX5_out_37 : decode cX5_out 37 = .ok (.getfield 127, 3) := by decide +kernel
theorem dX5_out_40 : decode cX5_out 40 = .ok (.invokestatic 158, 3) := by decide +kernel
theorem dX5_out_43 : decode cX5_out 43 = .ok (.lload_n 2, 1) := by decide +kernel
theorem dX5_out_44 : decode cX5_out 44 = .ok (.invokestatic 158, 3) := by decide +kernel
theorem dX5_out_47 : decode cX5_out 47 = .ok (.iconst (-1), 1) := by decide +kernel
theorem dX5_out_48 : decode cX5_out 48 = .ok (.ixor, 1) := by decide +kernel
theorem dX5_out_49 : decode cX5_out 49 = .ok (.iand, 1) := by decide +kernel
theorem dX5_out_50 : decode cX5_out 50 = .ok (.ireturn, 1) := by decide +kernel
set_option maxRecDepth 20000 in
theorem ggX5_safe_X2_afterTune : GoodIn wsX5_safe wsX2_afterTune := goodIn_r _ [6, 7, 8, 9, 10, 11, 12, 13, 14, 15, 16, 17, 4, 18, 19, 20, 21, 22, 23, 24, 25, 26, 27, 28, 29, 30, 31, 32, 33, 34, 35, 36, 37, 38, 39, 40, 41, 42, 43, 44, 45, 46, 47, 48, 49, 50, 51, 52, 67, 68, 69, 70, 71, 72, 73] (by decide +kernel) (by decide +kernel)
set_option maxRecDepth 20000 in
theorem gX5_safe_X2_afterTune_n162 : GoodIn wsX5_safe (wsX2_afterTune) := ggX5_safe_X2_afterTune
set_option maxRecDepth 20000 in
theorem ggX5_safe_X1_insiders : GoodIn wsX5_safe wsX1_insiders := goodIn_r _ [44] (by decide +kernel) (by decide +kernel)
set_option maxRecDepth 20000 in
theorem gX5_safe_X1_insiders_n158 : GoodIn wsX5_safe (wsX1_insiders) := ggX5_safe_X1_insiders
theorem dX5_safe_0 : decode cX5_safe 0 = .ok (.aload_n 0, 1) := by decide +kernel
theorem dX5_safe_1 : decode cX5_safe 1 = .ok (.getfield 36, 3) := by decide +kernel
theorem dX5_safe_4 : decode cX5_safe 4 = .ok (.getfield 111, 3) := by decide +kernel
theorem dX5_safe_7 : decode cX5_safe 7 = .ok (.ifCond .ne 6, 3) := by decide +kernel
theorem dX5_safe_10 : decode cX5_safe 10 = .ok (.bipush (-4), 2) := by decide +kernel
theorem dX5_safe_12 : decode cX5_safe 12 = .ok (.ireturn, 1) := by decide +kernel
theorem dX5_safe_13 : decode cX5_safe 13 = .ok (.iconst 0, 1) := by decide +kernel
theorem dX5_safe_14 : decode cX5_safe 14 = .ok (.istore_n 1, 1) := by decide +kernel
theorem dX5_safe_15 : decode cX5_safe 15 = .ok (.iconst 0, 1) := by decide +kernel
theorem dX5_safe_16 : decode cX5_safe 16 = .ok (.istore_n 2, 1) := by decide +kernel
theorem dX5_safe_17 : decode cX5_safe 17 = .ok (.iload_n 2, 1) := by decide +kernel
theorem dX5_safe_18 : decode cX5_safe 18 = .ok (.iconst 4, 1) := by decide +kernel
theorem dX5_safe_19 : decode cX5_safe 19 = .ok (.if_icmp .ge 46, 3) := by decide +kernel
theorem dX5_safe_22 : decode cX5_safe 22 = .ok (.aload_n 0, 1) := by decide +kernel
theorem dX5_safe_23 : decode cX5_safe 23 = .ok (.getfield 36, 3) := by decide +kernel
theorem dX5_safe_26 : decode cX5_safe 26 = .ok (.aload_n 0, 1) := by decide +kernel
theorem dX5_safe_27 : decode cX5_safe 27 = .ok (.getfield 46, 3) := by decide +kernel
theorem dX5_safe_30 : decode cX5_safe 30 = .ok (.getfield 127, 3) := by decide +kernel
theorem dX5_safe_33 : decode cX5_safe 33 = .ok (.iload_n 2, 1) := by decide +kernel
theorem dX5_safe_34 : decode cX5_safe 34 = .ok (.invokevirtual 162, 3) := by decide +kernel
theorem dX5_safe_37 : decode cX5_safe 37 = .ok (.invokestatic 158, 3) := by decide +kernel
theorem dX5_safe_40 : decode cX5_safe 40 = .ok (.aload_n 0, 1) := by decide +kernel
theorem dX5_safe_41 : decode cX5_safe 41 = .ok (.getfield 46, 3) := by decide +kernel
theorem dX5_safe_44 : decode cX5_safe 44 = .ok (.getfield 127, 3) := by decide +kernel
theorem dX5_safe_47 : decode cX5_safe 47 = .ok (.invokestatic 158, 3) := by decide +kernel
theorem dX5_safe_50 : decode cX5_safe 50 = .ok (.if_icmp .ne 9, 3) := by decide +kernel
theorem dX5_safe_53 : decode cX5_safe 53 = .ok (.iload_n 1, 1) := by decide +kernel
theorem dX5_safe_54 : decode cX5_safe 54 = .ok (.iconst 1, 1) := by decide +kernel
theorem dX5_safe_55 : decode cX5_safe 55 = .ok (.iload_n 2, 1) := by decide +kernel
theorem dX5_safe_56 : decode cX5_safe 56 = .ok (.ishl, 1) := by decide +kernel
theorem dX5_safe_57 : decode cX5_safe 57 = .ok (.ior, 1) := by decide +kernel
theorem dX5_safe_58 : decode cX5_safe 58 = .ok (.istore_n 1, 1) := by decide +kernel
theorem dX5_safe_59 : decode cX5_safe 59 = .ok (.iinc 2 1, 3) := by decide +kernel
theorem dX5_safe_62 : decode cX5_safe 62 = .ok (.goto (-45), 3) := by decide +kernel
theorem dX5_safe_65 : decode cX5_safe 65 = .ok (.iload_n 1, 1) := by decide +kernel
theorem dX5_safe_66 : decode cX5_safe 66 = .ok (.ireturn, 1) := by decide +kernel
set_option maxRecDepth 20000 in
theorem ggX5_falls_X5_isRow : GoodIn wsX5_falls wsX5_isRow := goodIn_r _ [9] (by decide +kernel) (by decide +kernel)
set_option maxRecDepth 20000 in
theorem gX5_falls_X5_isRow : GoodIn wsX5_falls (va_wsS RX5 74 yX5_isRow wsX5_isRow) := goodIn_app (goodIn_of _ (by decide +kernel)) ggX5_falls_X5_isRow
set_option maxRecDepth 20000 in
theorem ggX5_falls_X5_programmeFinding : GoodIn wsX5_falls wsX5_programmeFinding := goodIn_r _ [13, 2, 4, 14, 15, 8, 16, 73, 74, 75, 76, 77, 78, 79, 80, 81, 82, 83, 84, 85, 86] (by decide +kernel) (by decide +kernel)
set_option maxRecDepth 20000 in
theorem gX5_falls_X5_programmeFinding : GoodIn wsX5_falls (wsV RX5 195 RX5 yX5_programmeFinding wsX5_programmeFinding) := goodIn_app (goodIn_of _ (by decide +kernel)) ggX5_falls_X5_programmeFinding
set_option maxRecDepth 20000 in
theorem ggX5_falls_X5_found : GoodIn wsX5_falls wsX5_found := goodIn_r _ [20, 21, 22, 73, 74, 75, 76, 77, 78, 79, 80, 81, 82, 83, 84, 85, 86] (by decide +kernel) (by decide +kernel)
set_option maxRecDepth 20000 in
theorem gX5_falls_X5_found : GoodIn wsX5_falls (wsV RX5 78 RX5 yX5_found wsX5_found) := goodIn_app (goodIn_of _ (by decide +kernel)) ggX5_falls_X5_found
set_option maxRecDepth 20000 in
theorem ggX5_falls_X2_afterTune : GoodIn wsX5_falls wsX2_afterTune := goodIn_r _ [26, 27, 28, 29, 30, 31, 32, 33, 34, 35, 36, 37, 24, 38, 39, 40, 41, 42, 43, 44, 45, 46, 47, 48, 49, 50, 51, 52, 53, 54, 55, 56, 57, 58, 59, 60, 61, 62, 63, 64, 65, 66, 67, 68, 69, 70, 71, 72, 90, 91, 92, 93, 94, 95, 96] (by decide +kernel) (by decide +kernel)
set_option maxRecDepth 20000 in
theorem gX5_falls_X2_afterTune_n162 : GoodIn wsX5_falls (wsX2_afterTune) := ggX5_falls_X2_afterTune
set_option maxRecDepth 20000 in
theorem ggX5_falls_X1_insiders : GoodIn wsX5_falls wsX1_insiders := goodIn_r _ [64] (by decide +kernel) (by decide +kernel)
set_option maxRecDepth 20000 in
theorem gX5_falls_X1_insiders_n158 : GoodIn wsX5_falls (wsX1_insiders) := ggX5_falls_X1_insiders
theorem dX5_falls_0 : decode cX5_falls 0 = .ok (.iload_n 1, 1) := by decide +kernel
theorem dX5_falls_1 : decode cX5_falls 1 = .ok (.invokestatic 74, 3) := by decide +kernel
theorem dX5_falls_4 : decode cX5_falls 4 = .ok (.ifCond .ne 5, 3) := by decide +kernel
theorem dX5_falls_7 : decode cX5_falls 7 = .ok (.iconst (-1), 1) := by decide +kernel
theorem dX5_falls_8 : decode cX5_falls 8 = .ok (.ireturn, 1) := by decide +kernel
theorem dX5_falls_9 : decode cX5_falls 9 = .ok (.aload_n 0, 1) := by decide +kernel
theorem dX5_falls_10 : decode cX5_falls 10 = .ok (.iload_n 1, 1) := by decide +kernel
theorem dX5_falls_11 : decode cX5_falls 11 = .ok (.invokevirtual 195, 3) := by decide +kernel
theorem dX5_falls_14 : decode cX5_falls 14 = .ok (.istore_n 2, 1) := by decide +kernel
theorem dX5_falls_15 : decode cX5_falls 15 = .ok (.iload_n 2, 1) := by decide +kernel
theorem dX5_falls_16 : decode cX5_falls 16 = .ok (.ifCond .eq 9, 3) := by decide +kernel
theorem dX5_falls_19 : decode cX5_falls 19 = .ok (.aload_n 0, 1) := by decide +kernel
theorem dX5_falls_20 : decode cX5_falls 20 = .ok (.iload_n 2, 1) := by decide +kernel
theorem dX5_falls_21 : decode cX5_falls 21 = .ok (.invokevirtual 78, 3) := by decide +kernel
theorem dX5_falls_24 : decode cX5_falls 24 = .ok (.ireturn, 1) := by decide +kernel
theorem dX5_falls_25 : decode cX5_falls 25 = .ok (.aload_n 0, 1) := by decide +kernel
theorem dX5_falls_26 : decode cX5_falls 26 = .ok (.getfield 46, 3) := by decide +kernel
theorem dX5_falls_29 : decode cX5_falls 29 = .ok (.getfield 127, 3) := by decide +kernel
theorem dX5_falls_32 : decode cX5_falls 32 = .ok (.lstore_n 3, 1) := by decide +kernel
theorem dX5_falls_33 : decode cX5_falls 33 = .ok (.iconst 0, 1) := by decide +kernel
theorem dX5_falls_34 : decode cX5_falls 34 = .ok (.istore 5, 2) := by decide +kernel
theorem dX5_falls_36 : decode cX5_falls 36 = .ok (.iload 5, 2) := by decide +kernel
theorem dX5_falls_38 : decode cX5_falls 38 = .ok (.aload_n 0, 1) := by decide +kernel
theorem dX5_falls_39 : decode cX5_falls 39 = .ok (.getfield 14, 3) := by decide +kernel
theorem dX5_falls_42 : decode cX5_falls 42 = .ok (.iload_n 1, 1) := by decide +kernel
theorem dX5_falls_43 : decode cX5_falls 43 = .ok (.iaload, 1) := by decide +kernel
theorem dX5_falls_44 : decode cX5_falls 44 = .ok (.if_icmp .ge 62, 3) := by decide +kernel
theorem dX5_falls_47 : decode cX5_falls 47 = .ok (.aload_n 0, 1) := by decide +kernel
theorem dX5_falls_48 : decode cX5_falls 48 = .ok (.getfield 36, 3) := by decide +kernel
theorem dX5_falls_51 : decode cX5_falls 51 = .ok (.lload_n 3, 1) := by decide +kernel
theorem dX5_falls_52 : decode cX5_falls 52 = .ok (.aload_n 0, 1) := by decide +kernel
theorem dX5_falls_53 : decode cX5_falls 53 = .ok (.getfield 11, 3) := by decide +kernel
theorem dX5_falls_56 : decode cX5_falls 56 = .ok (.iload_n 1, 1) := by decide +kernel
theorem dX5_falls_57 : decode cX5_falls 57 = .ok (.aaload, 1) := by decide +kernel
theorem dX5_falls_58 : decode cX5_falls 58 = .ok (.iload 5, 2) := by decide +kernel
theorem dX5_falls_60 : decode cX5_falls 60 = .ok (.iaload, 1) := by decide +kernel
theorem dX5_falls_61 : decode cX5_falls 61 = .ok (.invokevirtual 162, 3) := by decide +kernel
theorem dX5_falls_64 : decode cX5_falls 64 = .ok (.lstore 6, 2) := by decide +kernel
theorem dX5_falls_66 : decode cX5_falls 66 = .ok (.lload 6, 2) := by decide +kernel
theorem dX5_falls_68 : decode cX5_falls 68 = .ok (.invokestatic 158, 3) := by decide +kernel
theorem dX5_falls_71 : decode cX5_falls 71 = .ok (.lload_n 3, 1) := by decide +kernel
theorem dX5_falls_72 : decode cX5_falls 72 = .ok (.invokestatic 158, 3) := by decide +kernel
theorem dX5_falls_75 : decode cX5_falls 75 = .ok (.if_icmp .eq 22, 3) := by decide +kernel
theorem dX5_falls_78 : decode cX5_falls 78 = .ok (.aload_n 0, 1) := by decide +kernel
theorem dX5_falls_79 : decode cX5_falls 79 = .ok (.lload_n 3, 1) := by decide +kernel
theorem dX5_falls_80 : decode cX5_falls 80 = .ok (.invokestatic 158, 3) := by decide +kernel
theorem dX5_falls_83 : decode cX5_falls 83 = .ok (.lload 6, 2) := by decide +kernel
theorem dX5_falls_85 : decode cX5_falls 85 = .ok (.invokestatic 158, 3) := by decide +kernel
theorem dX5_falls_88 : decode cX5_falls 88 = .ok (.iconst (-1), 1) := by decide +kernel
theorem dX5_falls_89 : decode cX5_falls 89 = .ok (.ixor, 1) := by decide +kernel
theorem dX5_falls_90 : decode cX5_falls 90 = .ok (.iand, 1) := by decide +kernel
theorem dX5_falls_91 : decode cX5_falls 91 = .ok (.putfield 61, 3) := by decide +kernel
theorem dX5_falls_94 : decode cX5_falls 94 = .ok (.iload 5, 2) := by decide +kernel
theorem dX5_falls_96 : decode cX5_falls 96 = .ok (.ireturn, 1) := by decide +kernel
theorem dX5_falls_97 : decode cX5_falls 97 = .ok (.lload 6, 2) := by decide +kernel
theorem dX5_falls_99 : decode cX5_falls 99 = .ok (.lstore_n 3, 1) := by decide +kernel
theorem dX5_falls_100 : decode cX5_falls 100 = .ok (.iinc 5 1, 3) := by decide +kernel
theorem dX5_falls_103 : decode cX5_falls 103 = .ok (.goto (-67), 3) := by decide +kernel
theorem dX5_falls_106 : decode cX5_falls 106 = .ok (.aload_n 0, 1) := by decide +kernel
theorem dX5_falls_107 : decode cX5_falls 107 = .ok (.iconst 0, 1) := by decide +kernel
theorem dX5_falls_108 : decode cX5_falls 108 = .ok (.putfield 61, 3) := by decide +kernel
theorem dX5_falls_111 : decode cX5_falls 111 = .ok (.bipush (-9), 2) := by decide +kernel
theorem dX5_falls_113 : decode cX5_falls 113 = .ok (.ireturn, 1) := by decide +kernel
set_option maxRecDepth 20000 in
theorem ggX5_grief_X5_isGuest : GoodIn wsX5_grief wsX5_isGuest := goodIn_r _ [9, 3, 76, 77, 78, 79, 80, 81, 82, 83, 84, 85, 86, 87, 88, 89, 93, 94, 95, 96, 97, 98, 99] (by decide +kernel) (by decide +kernel)
set_option maxRecDepth 20000 in
theorem gX5_grief_X5_isGuest : GoodIn wsX5_grief (wsV RX5 114 RX5 yX5_isGuest wsX5_isGuest) := goodIn_app (goodIn_of _ (by decide +kernel)) ggX5_grief_X5_isGuest
set_option maxRecDepth 20000 in
theorem ggX5_grief_X5_isRow : GoodIn wsX5_grief wsX5_isRow := goodIn_r _ [12] (by decide +kernel) (by decide +kernel)
set_option maxRecDepth 20000 in
theorem gX5_grief_X5_isRow : GoodIn wsX5_grief (va_wsS RX5 74 yX5_isRow wsX5_isRow) := goodIn_app (goodIn_of _ (by decide +kernel)) ggX5_grief_X5_isRow
set_option maxRecDepth 20000 in
theorem ggX5_grief_X5_programmeFinding : GoodIn wsX5_grief wsX5_programmeFinding := goodIn_r _ [16, 2, 4, 17, 18, 8, 19, 76, 77, 78, 79, 80, 81, 82, 83, 84, 85, 86, 87, 88, 89] (by decide +kernel) (by decide +kernel)
set_option maxRecDepth 20000 in
theorem gX5_grief_X5_programmeFinding : GoodIn wsX5_grief (wsV RX5 195 RX5 yX5_programmeFinding wsX5_programmeFinding) := goodIn_app (goodIn_of _ (by decide +kernel)) ggX5_grief_X5_programmeFinding
set_option maxRecDepth 20000 in
theorem ggX5_grief_X5_found : GoodIn wsX5_grief wsX5_found := goodIn_r _ [23, 24, 25, 76, 77, 78, 79, 80, 81, 82, 83, 84, 85, 86, 87, 88, 89] (by decide +kernel) (by decide +kernel)
set_option maxRecDepth 20000 in
theorem gX5_grief_X5_found : GoodIn wsX5_grief (wsV RX5 78 RX5 yX5_found wsX5_found) := goodIn_app (goodIn_of _ (by decide +kernel)) ggX5_grief_X5_found
set_option maxRecDepth 20000 in
theorem ggX5_grief_X2_afterTune : GoodIn wsX5_grief wsX2_afterTune := goodIn_r _ [29, 30, 31, 32, 33, 34, 35, 36, 37, 38, 39, 40, 27, 41, 42, 43, 44, 45, 46, 47, 48, 49, 50, 51, 52, 53, 54, 55, 56, 57, 58, 59, 60, 61, 62, 63, 64, 65, 66, 67, 68, 69, 70, 71, 72, 73, 74, 75, 93, 94, 95, 96, 97, 98, 99] (by decide +kernel) (by decide +kernel)
set_option maxRecDepth 20000 in
theorem gX5_grief_X2_afterTune_n162 : GoodIn wsX5_grief (wsX2_afterTune) := ggX5_grief_X2_afterTune
set_option maxRecDepth 20000 in
theorem ggX5_grief_X1_griefOf : GoodIn wsX5_grief wsX1_griefOf := goodIn_r _ [37, 38] (by decide +kernel) (by decide +kernel)
set_option maxRecDepth 20000 in
theorem gX5_grief_X1_griefOf_n175 : GoodIn wsX5_grief (wsX1_griefOf) := ggX5_grief_X1_griefOf
theorem dX5_grief_0 : decode cX5_grief 0 = .ok (.aload_n 0, 1) := by decide +kernel
theorem dX5_grief_1 : decode cX5_grief 1 = .ok (.iload_n 1, 1) := by decide +kernel
theorem dX5_grief_2 : decode cX5_grief 2 = .ok (.invokevirtual 114, 3) := by decide +kernel
theorem dX5_grief_5 : decode cX5_grief 5 = .ok (.ifCond .eq 10, 3) := by decide +kernel
theorem dX5_grief_8 : decode cX5_grief 8 = .ok (.iload_n 2, 1) := by decide +kernel
theorem dX5_grief_9 : decode cX5_grief 9 = .ok (.invokestatic 74, 3) := by decide +kernel
theorem dX5_grief_12 : decode cX5_grief 12 = .ok (.ifCond .ne 5, 3) := by decide +kernel
theorem dX5_grief_15 : decode cX5_grief 15 = .ok (.iconst (-1), 1) := by decide +kernel
theorem dX5_grief_16 : decode cX5_grief 16 = .ok (.ireturn, 1) := by decide +kernel
theorem dX5_grief_17 : decode cX5_grief 17 = .ok (.aload_n 0, 1) := by decide +kernel
theorem dX5_grief_18 : decode cX5_grief 18 = .ok (.iload_n 2, 1) := by decide +kernel
theorem dX5_grief_19 : decode cX5_grief 19 = .ok (.invokevirtual 195, 3) := by decide +kernel
theorem dX5_grief_22 : decode cX5_grief 22 = .ok (.istore_n 3, 1) := by decide +kernel
theorem dX5_grief_23 : decode cX5_grief 23 = .ok (.iload_n 3, 1) := by decide +kernel
theorem dX5_grief_24 : decode cX5_grief 24 = .ok (.ifCond .eq 9, 3) := by decide +kernel
theorem dX5_grief_27 : decode cX5_grief 27 = .ok (.aload_n 0, 1) := by decide +kernel
theorem dX5_grief_28 : decode cX5_grief 28 = .ok (.iload_n 3, 1) := by decide +kernel
theorem dX5_grief_29 : decode cX5_grief 29 = .ok (.invokevirtual 78, 3) := by decide +kernel
theorem dX5_grief_32 : decode cX5_grief 32 = .ok (.ireturn, 1) := by decide +kernel
theorem dX5_grief_33 : decode cX5_grief 33 = .ok (.aload_n 0, 1) := by decide +kernel
theorem dX5_grief_34 : decode cX5_grief 34 = .ok (.getfield 46, 3) := by decide +kernel
theorem dX5_grief_37 : decode cX5_grief 37 = .ok (.getfield 127, 3) := by decide +kernel
theorem dX5_grief_40 : decode cX5_grief 40 = .ok (.lstore 4, 2) := by decide +kernel
theorem dX5_grief_42 : decode cX5_grief 42 = .ok (.iconst 0, 1) := by decide +kernel
theorem dX5_grief_43 : decode cX5_grief 43 = .ok (.istore 6, 2) := by decide +kernel
theorem dX5_grief_45 : decode cX5_grief 45 = .ok (.iload 6, 2) := by decide +kernel
theorem dX5_grief_47 : decode cX5_grief 47 = .ok (.aload_n 0, 1) := by decide +kernel
theorem dX5_grief_48 : decode cX5_grief 48 = .ok (.getfield 14, 3) := by decide +kernel
theorem dX5_grief_51 : decode cX5_grief 51 = .ok (.iload_n 2, 1) := by decide +kernel
theorem dX5_grief_52 : decode cX5_grief 52 = .ok (.iaload, 1) := by decide +kernel
theorem dX5_grief_53 : decode cX5_grief 53 = .ok (.if_icmp .ge 29, 3) := by decide +kernel
theorem dX5_grief_56 : decode cX5_grief 56 = .ok (.aload_n 0, 1) := by decide +kernel
theorem dX5_grief_57 : decode cX5_grief 57 = .ok (.getfield 36, 3) := by decide +kernel
theorem dX5_grief_60 : decode cX5_grief 60 = .ok (.lload 4, 2) := by decide +kernel
theorem dX5_grief_62 : decode cX5_grief 62 = .ok (.aload_n 0, 1) := by decide +kernel
theorem dX5_grief_63 : decode cX5_grief 63 = .ok (.getfield 11, 3) := by decide +kernel
theorem dX5_grief_66 : decode cX5_grief 66 = .ok (.iload_n 2, 1) := by decide +kernel
theorem dX5_grief_67 : decode cX5_grief 67 = .ok (.aaload, 1) := by decide +kernel
theorem dX5_grief_68 : decode cX5_grief 68 = .ok (.iload 6, 2) := by decide +kernel
theorem dX5_grief_70 : decode cX5_grief 70 = .ok (.iaload, 1) := by decide +kernel
theorem dX5_grief_71 : decode cX5_grief 71 = .ok (.invokevirtual 162, 3) := by decide +kernel
theorem dX5_grief_74 : decode cX5_grief 74 = .ok (.lstore 4, 2) := by decide +kernel
theorem dX5_grief_76 : decode cX5_grief 76 = .ok (.iinc 6 1, 3) := by decide +kernel
theorem dX5_grief_79 : decode cX5_grief 79 = .ok (.goto (-34), 3) := by decide +kernel
theorem dX5_grief_82 : decode cX5_grief 82 = .ok (.lload 4, 2) := by decide +kernel
theorem dX5_grief_84 : decode cX5_grief 84 = .ok (.iload_n 1, 1) := by decide +kernel
theorem dX5_grief_85 : decode cX5_grief 85 = .ok (.invokestatic 175, 3) := by decide +kernel
theorem dX5_grief_88 : decode cX5_grief 88 = .ok (.ireturn, 1) := by decide +kernel
set_option maxRecDepth 20000 in
theorem ggX5_stay_X5_searchRefusal : GoodIn wsX5_stay wsX5_searchRefusal := goodIn_r _ [10, 1, 68, 69, 70, 71, 72, 73, 74, 75, 76, 77, 78, 79, 80, 81, 85, 86, 87, 88, 89, 90, 91] (by decide +kernel) (by decide +kernel)
set_option maxRecDepth 20000 in
theorem gX5_stay_X5_searchRefusal : GoodIn wsX5_stay (wsV RX5 198 RX5 yX5_searchRefusal wsX5_searchRefusal) := goodIn_app (goodIn_of _ (by decide +kernel)) ggX5_stay_X5_searchRefusal
set_option maxRecDepth 20000 in
theorem ggX5_stay_X3_stayingBehind : GoodIn wsX5_stay wsX3_stayingBehind := goodIn_r _ [13, 14, 15, 16, 17, 18, 19, 20, 21, 22, 23, 24, 25, 26, 27, 28, 29, 30, 31, 32, 33, 34, 35, 36, 37, 38, 39, 40, 41, 42, 43, 44, 45, 46, 47, 48, 49, 50, 51, 52, 53, 54, 55, 56, 57, 58, 59, 60, 61, 62, 63, 64, 65, 12, 66, 67, 11, 85, 86, 87, 88, 89, 90, 91] (by decide +kernel) (by decide +kernel)
set_option maxRecDepth 20000 in
theorem gX5_stay_X3_stayingBehind_n201 : GoodIn wsX5_stay (wsX3_stayingBehind) := ggX5_stay_X3_stayingBehind
theorem dX5_stay_0 : decode cX5_stay 0 = .ok (.aload_n 0, 1) := by decide +kernel
theorem dX5_stay_1 : decode cX5_stay 1 = .ok (.iload_n 1, 1) := by decide +kernel
theorem dX5_stay_2 : decode cX5_stay 2 = .ok (.invokevirtual 198, 3) := by decide +kernel
theorem dX5_stay_5 : decode cX5_stay 5 = .ok (.istore_n 2, 1) := by decide +kernel
theorem dX5_stay_6 : decode cX5_stay 6 = .ok (.iload_n 2, 1) := by decide +kernel
theorem dX5_stay_7 : decode cX5_stay 7 = .ok (.ifCond .eq 5, 3) := by decide +kernel
theorem dX5_stay_10 : decode cX5_stay 10 = .ok (.iload_n 2, 1) := by decide +kernel
theorem dX5_stay_11 : decode cX5_stay 11 = .ok (.ireturn, 1) := by decide +kernel
theorem dX5_stay_12 : decode cX5_stay 12 = .ok (.iload_n 1, 1) := by decide +kernel
theorem dX5_stay_13 : decode cX5_stay 13 = .ok (.ifCond .ne 7, 3) := by decide +kernel
theorem dX5_stay_16 : decode cX5_stay 16 = .ok (.lconst 1, 1) := by decide +kernel
theorem dX5_stay_17 : decode cX5_stay 17 = .ok (.goto 4, 3) := by decide +kernel
theorem dX5_stay_20 : decode cX5_stay 20 = .ok (.lconst 0, 1) := by decide +kernel
theorem dX5_stay_21 : decode cX5_stay 21 = .ok (.lstore_n 3, 1) := by decide +kernel
theorem dX5_stay_22 : decode cX5_stay 22 = .ok (.iconst 0, 1) := by decide +kernel
theorem dX5_stay_23 : decode cX5_stay 23 = .ok (.istore 5, 2) := by decide +kernel
theorem dX5_stay_25 : decode cX5_stay 25 = .ok (.iconst 0, 1) := by decide +kernel
theorem dX5_stay_26 : decode cX5_stay 26 = .ok (.istore 6, 2) := by decide +kernel
theorem dX5_stay_28 : decode cX5_stay 28 = .ok (.iload 6, 2) := by decide +kernel
theorem dX5_stay_30 : decode cX5_stay 30 = .ok (.iconst 4, 1) := by decide +kernel
theorem dX5_stay_31 : decode cX5_stay 31 = .ok (.if_icmp .ge 55, 3) := by decide +kernel
theorem dX5_stay_34 : decode cX5_stay 34 = .ok (.iload_n 1, 1) := by decide +kernel
theorem dX5_stay_35 : decode cX5_stay 35 = .ok (.ifCond .le 51, 3) := by decide +kernel
theorem dX5_stay_38 : decode cX5_stay 38 = .ok (.aload_n 0, 1) := by decide +kernel
theorem dX5_stay_39 : decode cX5_stay 39 = .ok (.getfield 36, 3) := by decide +kernel
theorem dX5_stay_42 : decode cX5_stay 42 = .ok (.aload_n 0, 1) := by decide +kernel
theorem dX5_stay_43 : decode cX5_stay 43 = .ok (.getfield 46, 3) := by decide +kernel
theorem dX5_stay_46 : decode cX5_stay 46 = .ok (.getfield 127, 3) := by decide +kernel
theorem dX5_stay_49 : decode cX5_stay 49 = .ok (.iload 6, 2) := by decide +kernel
theorem dX5_stay_51 : decode cX5_stay 51 = .ok (.iload_n 1, 1) := by decide +kernel
theorem dX5_stay_52 : decode cX5_stay 52 = .ok (.iconst 1, 1) := by decide +kernel
theorem dX5_stay_53 : decode cX5_stay 53 = .ok (.isub, 1) := by decide +kernel
theorem dX5_stay_54 : decode cX5_stay 54 = .ok (.invokestatic 201, 3) := by decide +kernel
theorem dX5_stay_57 : decode cX5_stay 57 = .ok (.lstore 7, 2) := by decide +kernel
theorem dX5_stay_59 : decode cX5_stay 59 = .ok (.lload_n 3, 1) := by decide +kernel
theorem dX5_stay_60 : decode cX5_stay 60 = .ok (.lload 7, 2) := by decide +kernel
theorem dX5_stay_62 : decode cX5_stay 62 = .ok (.ladd, 1) := by decide +kernel
theorem dX5_stay_63 : decode cX5_stay 63 = .ok (.lstore_n 3, 1) := by decide +kernel
theorem dX5_stay_64 : decode cX5_stay 64 = .ok (.lload 7, 2) := by decide +kernel
theorem dX5_stay_66 : decode cX5_stay 66 = .ok (.lconst 0, 1) := by decide +kernel
theorem dX5_stay_67 : decode cX5_stay 67 = .ok (.lcmp, 1) := by decide +kernel
theorem dX5_stay_68 : decode cX5_stay 68 = .ok (.ifCond .le 12, 3) := by decide +kernel
theorem dX5_stay_71 : decode cX5_stay 71 = .ok (.iload 5, 2) := by decide +kernel
theorem dX5_stay_73 : decode cX5_stay 73 = .ok (.iconst 1, 1) := by decide +kernel
theorem dX5_stay_74 : decode cX5_stay 74 = .ok (.iload 6, 2) := by decide +kernel
theorem dX5_stay_76 : decode cX5_stay 76 = .ok (.ishl, 1) := by decide +kernel
theorem dX5_stay_77 : decode cX5_stay 77 = .ok (.ior, 1) := by decide +kernel
theorem dX5_stay_78 : decode cX5_stay 78 = .ok (.istore 5, 2) := by decide +kernel
theorem dX5_stay_80 : decode cX5_stay 80 = .ok (.iinc 6 1, 3) := by decide +kernel
theorem dX5_stay_83 : decode cX5_stay 83 = .ok (.goto (-55), 3) := by decide +kernel
theorem dX5_stay_86 : decode cX5_stay 86 = .ok (.aload_n 0, 1) := by decide +kernel
theorem dX5_stay_87 : decode cX5_stay 87 = .ok (.iload 5, 2) := by decide +kernel
theorem dX5_stay_89 : decode cX5_stay 89 = .ok (.putfield 61, 3) := by decide +kernel
theorem dX5_stay_92 : decode cX5_stay 92 = .ok (.aload_n 0, 1) := by decide +kernel
theorem dX5_stay_93 : decode cX5_stay 93 = .ok (.lload_n 3, 1) := by decide +kernel
theorem dX5_stay_94 : decode cX5_stay 94 = .ok (.putfield 64, 3) := by decide +kernel
theorem dX5_stay_97 : decode cX5_stay 97 = .ok (.aload_n 0, 1) := by decide +kernel
theorem dX5_stay_98 : decode cX5_stay 98 = .ok (.lconst 1, 1) := by decide +kernel
theorem dX5_stay_99 : decode cX5_stay 99 = .ok (.putfield 68, 3) := by decide +kernel
theorem dX5_stay_102 : decode cX5_stay 102 = .ok (.iconst 1, 1) := by decide +kernel
theorem dX5_stay_103 : decode cX5_stay 103 = .ok (.ireturn, 1) := by decide +kernel
