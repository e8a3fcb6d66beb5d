theorem dX5_init_143 : decode cX5_init 143 = .ok (.iconst 0, 1) := by decide +kernel
theorem dX5_init_144 : decode cX5_init 144 = .ok (.istore_n 1, 1) := by decide +kernel
theorem dX5_init_145 : decode cX5_init 145 = .ok (.iload_n 1, 1) := by decide +kernel
theorem dX5_init_146 : decode cX5_init 146 = .ok (.iconst 4, 1) := by decide +kernel
theorem dX5_init_147 : decode cX5_init 147 = .ok (.if_icmp .ge 16, 3) := by decide +kernel
theorem dX5_init_150 : decode cX5_init 150 = .ok (.aload_n 0, 1) := by decide +kernel
theorem dX5_init_151 : decode cX5_init 151 = .ok (.getfield 23, 3) := by decide +kernel
theorem dX5_init_154 : decode cX5_init 154 = .ok (.iload_n 1, 1) := by decide +kernel
theorem dX5_init_155 : decode cX5_init 155 = .ok (.iconst (-1), 1) := by decide +kernel
theorem dX5_init_156 : decode cX5_init 156 = .ok (.iastore, 1) := by decide +kernel
theorem dX5_init_157 : decode cX5_init 157 = .ok (.iinc 1 1, 3) := by decide +kernel
theorem dX5_init_160 : decode cX5_init 160 = .ok (.goto (-15), 3) := by decide +kernel
theorem dX5_init_163 : decode cX5_init 163 = .ok (.iconst 0, 1) := by decide +kernel
theorem dX5_init_164 : decode cX5_init 164 = .ok (.istore_n 1, 1) := by decide +kernel
theorem dX5_init_165 : decode cX5_init 165 = .ok (.iload_n 1, 1) := by decide +kernel
theorem dX5_init_166 : decode cX5_init 166 = .ok (.iconst 3, 1) := by decide +kernel
theorem dX5_init_167 : decode cX5_init 167 = .ok (.if_icmp .ge 32, 3) := by decide +kernel
theorem dX5_init_170 : decode cX5_init 170 = .ok (.aload_n 0, 1) := by decide +kernel
theorem dX5_init_171 : decode cX5_init 171 = .ok (.getfield 50, 3) := by decide +kernel
theorem dX5_init_174 : decode cX5_init 174 = .ok (.iload_n 1, 1) := by decide +kernel
theorem dX5_init_175 : decode cX5_init 175 = .ok (.new 43, 3) := by decide +kernel
theorem dX5_init_178 : decode cX5_init 178 = .ok (.dup, 1) := by decide +kernel
theorem dX5_init_179 : decode cX5_init 179 = .ok (.invokespecial 45, 3) := by decide +kernel
theorem dX5_init_182 : decode cX5_init 182 = .ok (.aastore, 1) := by decide +kernel
theorem dX5_init_183 : decode cX5_init 183 = .ok (.aload_n 0, 1) := by decide +kernel
theorem dX5_init_184 : decode cX5_init 184 = .ok (.getfield 50, 3) := by decide +kernel
theorem dX5_init_187 : decode cX5_init 187 = .ok (.iload_n 1, 1) := by decide +kernel
theorem dX5_init_188 : decode cX5_init 188 = .ok (.aaload, 1) := by decide +kernel
theorem dX5_init_189 : decode cX5_init 189 = .ok (.iconst (-1), 1) := by decide +kernel
theorem dX5_init_190 : decode cX5_init 190 = .ok (.putfield 71, 3) := by decide +kernel
theorem dX5_init_193 : decode cX5_init 193 = .ok (.iinc 1 1, 3) := by decide +kernel
theorem dX5_init_196 : decode cX5_init 196 = .ok (.goto (-31), 3) := by decide +kernel
theorem dX5_init_199 : decode cX5_init 199 = .ok (.return_, 1) := by decide +kernel
set_option maxRecDepth 20000 in
theorem ggX5_row_X5_isRow : GoodIn wsX5_row wsX5_isRow := goodIn_r _ [4] (by decide +kernel) (by decide +kernel)
set_option maxRecDepth 20000 in
theorem gX5_row_X5_isRow : GoodIn wsX5_row (va_wsS RX5 74 yX5_isRow wsX5_isRow) := goodIn_app (goodIn_of _ (by decide +kernel)) ggX5_row_X5_isRow
set_option maxRecDepth 20000 in
theorem ggX5_row_X5_found : GoodIn wsX5_row wsX5_found := goodIn_r _ [8, 9, 10, 17, 18, 19, 20, 21, 22, 23, 24, 25, 26, 27, 28, 29, 30] (by decide +kernel) (by decide +kernel)
set_option maxRecDepth 20000 in
theorem gX5_row_X5_found : GoodIn wsX5_row (wsV RX5 78 RX5 yX5_found wsX5_found) := goodIn_app (goodIn_of _ (by decide +kernel)) ggX5_row_X5_found
set_option maxRecDepth 20000 in
theorem ggX5_row_X5_makeRow : GoodIn wsX5_row wsX5_makeRow := goodIn_r _ [14, 15, 16, 17, 18, 19, 20, 21, 22, 23, 24, 25, 26, 27, 28, 29, 30] (by decide +kernel) (by decide +kernel)
set_option maxRecDepth 20000 in
theorem gX5_row_X5_makeRow : GoodIn wsX5_row (wsV RX5 82 RX5 yX5_makeRow wsX5_makeRow) := goodIn_app (goodIn_of _ (by decide +kernel)) ggX5_row_X5_makeRow
theorem dX5_row_0 : decode cX5_row 0 = .ok (.iload_n 1, 1) := by decide +kernel
theorem dX5_row_1 : decode cX5_row 1 = .ok (.invokestatic 74, 3) := by decide +kernel
theorem dX5_row_4 : decode cX5_row 4 = .ok (.ifCond .eq 9, 3) := by decide +kernel
theorem dX5_row_7 : decode cX5_row 7 = .ok (.iload_n 2, 1) := by decide +kernel
theorem dX5_row_8 : decode cX5_row 8 = .ok (.bipush 40, 2) := by decide +kernel
theorem dX5_row_10 : decode cX5_row 10 = .ok (.if_icmp .le 5, 3) := by decide +kernel
theorem dX5_row_13 : decode cX5_row 13 = .ok (.iconst (-1), 1) := by decide +kernel
theorem dX5_row_14 : decode cX5_row 14 = .ok (.ireturn, 1) := by decide +kernel
theorem dX5_row_15 : decode cX5_row 15 = .ok (.iload_n 2, 1) := by decide +kernel
theorem dX5_row_16 : decode cX5_row 16 = .ok (.ifCond .ge 9, 3) := by decide +kernel
theorem dX5_row_19 : decode cX5_row 19 = .ok (.aload_n 0, 1) := by decide +kernel
theorem dX5_row_20 : decode cX5_row 20 = .ok (.iconst 5, 1) := by decide +kernel
theorem dX5_row_21 : decode cX5_row 21 = .ok (.invokevirtual 78, 3) := by decide +kernel
theorem dX5_row_24 : decode cX5_row 24 = .ok (.ireturn, 1) := by decide +kernel
theorem dX5_row_25 : decode cX5_row 25 = .ok (.aload_n 0, 1) := by decide +kernel
theorem dX5_row_26 : decode cX5_row 26 = .ok (.iload_n 1, 1) := by decide +kernel
theorem dX5_row_27 : decode cX5_row 27 = .ok (.iload_n 2, 1) := by decide +kernel
theorem dX5_row_28 : decode cX5_row 28 = .ok (.invokevirtual 82, 3) := by decide +kernel
theorem dX5_row_31 : decode cX5_row 31 = .ok (.iload_n 2, 1) := by decide +kernel
theorem dX5_row_32 : decode cX5_row 32 = .ok (.ireturn, 1) := by decide +kernel
set_option maxRecDepth 20000 in
theorem ggX5_lay_X5_isRow : GoodIn wsX5_lay wsX5_isRow := goodIn_r _ [6] (by decide +kernel) (by decide +kernel)
set_option maxRecDepth 20000 in
theorem gX5_lay_X5_isRow : GoodIn wsX5_lay (va_wsS RX5 74 yX5_isRow wsX5_isRow) := goodIn_app (goodIn_of _ (by decide +kernel)) ggX5_lay_X5_isRow
set_option maxRecDepth 20000 in
theorem ggX5_lay_X5_rowPlaceFinding : GoodIn wsX5_lay wsX5_rowPlaceFinding := goodIn_r _ [10, 11, 18, 19, 20, 21, 22, 23, 24, 25, 26, 27, 28, 29, 30, 31] (by decide +kernel) (by decide +kernel)
set_option maxRecDepth 20000 in
theorem gX5_lay_X5_rowPlaceFinding : GoodIn wsX5_lay (wsV RX5 86 RX5 yX5_rowPlaceFinding wsX5_rowPlaceFinding) := goodIn_app (goodIn_of _ (by decide +kernel)) ggX5_lay_X5_rowPlaceFinding
set_option maxRecDepth 20000 in
theorem ggX5_lay_X5_found : GoodIn wsX5_lay wsX5_found := goodIn_r _ [15, 16, 17, 18, 19, 20, 21, 22, 23, 24, 25, 26, 27, 28, 29, 30, 31] (by decide +kernel) (by decide +kernel)
set_option maxRecDepth 20000 in
theorem gX5_lay_X5_found : GoodIn wsX5_lay (wsV RX5 78 RX5 yX5_found wsX5_found) := goodIn_app (goodIn_of _ (by decide +kernel)) ggX5_lay_X5_found
theorem dX5_lay_0 : decode cX5_lay 0 = .ok (.iload_n 1, 1) := by decide +kernel
theorem dX5_lay_1 : decode cX5_lay 1 = .ok (.invokestatic 74, 3) := by decide +kernel
theorem dX5_lay_4 : decode cX5_lay 4 = .ok (.ifCond .ne 5, 3) := by decide +kernel
theorem dX5_lay_7 : decode cX5_lay 7 = .ok (.iconst (-1), 1) := by decide +kernel
theorem dX5_lay_8 : decode cX5_lay 8 = .ok (.ireturn, 1) := by decide +kernel
theorem dX5_lay_9 : decode cX5_lay 9 = .ok (.aload_n 0, 1) := by decide +kernel
theorem dX5_lay_10 : decode cX5_lay 10 = .ok (.iload_n 1, 1) := by decide +kernel
theorem dX5_lay_11 : decode cX5_lay 11 = .ok (.iload_n 2, 1) := by decide +kernel
theorem dX5_lay_12 : decode cX5_lay 12 = .ok (.invokevirtual 86, 3) := by decide +kernel
theorem dX5_lay_15 : decode cX5_lay 15 = .ok (.istore 4, 2) := by decide +kernel
theorem dX5_lay_17 : decode cX5_lay 17 = .ok (.iload 4, 2) := by decide +kernel
theorem dX5_lay_19 : decode cX5_lay 19 = .ok (.ifCond .eq 10, 3) := by decide +kernel
theorem dX5_lay_22 : decode cX5_lay 22 = .ok (.aload_n 0, 1) := by decide +kernel
theorem dX5_lay_23 : decode cX5_lay 23 = .ok (.iload 4, 2) := by decide +kernel
theorem dX5_lay_25 : decode cX5_lay 25 = .ok (.invokevirtual 78, 3) := by decide +kernel
theorem dX5_lay_28 : decode cX5_lay 28 = .ok (.ireturn, 1) := by decide +kernel
theorem dX5_lay_29 : decode cX5_lay 29 = .ok (.aload_n 0, 1) := by decide +kernel
theorem dX5_lay_30 : decode cX5_lay 30 = .ok (.aload_n 0, 1) := by decide +kernel
theorem dX5_lay_31 : decode cX5_lay 31 = .ok (.getfield 11, 3) := by decide +kernel
theorem dX5_lay_34 : decode cX5_lay 34 = .ok (.iload_n 1, 1) := by decide +kernel
theorem dX5_lay_35 : decode cX5_lay 35 = .ok (.aaload, 1) := by decide +kernel
theorem dX5_lay_36 : decode cX5_lay 36 = .ok (.iload_n 2, 1) := by decide +kernel
theorem dX5_lay_37 : decode cX5_lay 37 = .ok (.iaload, 1) := by decide +kernel
theorem dX5_lay_38 : decode cX5_lay 38 = .ok (.putfield 61, 3) := by decide +kernel
theorem dX5_lay_41 : decode cX5_lay 41 = .ok (.aload_n 0, 1) := by decide +kernel
theorem dX5_lay_42 : decode cX5_lay 42 = .ok (.getfield 11, 3) := by decide +kernel
theorem dX5_lay_45 : decode cX5_lay 45 = .ok (.iload_n 1, 1) := by decide +kernel
theorem dX5_lay_46 : decode cX5_lay 46 = .ok (.aaload, 1) := by decide +kernel
theorem dX5_lay_47 : decode cX5_lay 47 = .ok (.iload_n 2, 1) := by decide +kernel
theorem dX5_lay_48 : decode cX5_lay 48 = .ok (.iload_n 3, 1) := by decide +kernel
theorem dX5_lay_49 : decode cX5_lay 49 = .ok (.iastore, 1) := by decide +kernel
theorem dX5_lay_50 : decode cX5_lay 50 = .ok (.iconst 1, 1) := by decide +kernel
theorem dX5_lay_51 : decode cX5_lay 51 = .ok (.ireturn, 1) := by decide +kernel
set_option maxRecDepth 20000 in
theorem ggX5_at_X5_isRow : GoodIn wsX5_at wsX5_isRow := goodIn_r _ [6] (by decide +kernel) (by decide +kernel)
set_option maxRecDepth 20000 in
theorem gX5_at_X5_isRow : GoodIn wsX5_at (va_wsS RX5 74 yX5_isRow wsX5_isRow) := goodIn_app (goodIn_of _ (by decide +kernel)) ggX5_at_X5_isRow
set_option maxRecDepth 20000 in
theorem ggX5_at_X5_rowPlaceFinding : GoodIn wsX5_at wsX5_rowPlaceFinding := goodIn_r _ [10, 11, 18, 19, 20, 21, 22, 23, 24, 25, 26, 27, 28, 29, 30, 31] (by decide +kernel) (by decide +kernel)
set_option maxRecDepth 20000 in
theorem gX5_at_X5_rowPlaceFinding : GoodIn wsX5_at (wsV RX5 86 RX5 yX5_rowPlaceFinding wsX5_rowPlaceFinding) := goodIn_app (goodIn_of _ (by decide +kernel)) ggX5_at_X5_rowPlaceFinding
set_option maxRecDepth 20000 in
theorem ggX5_at_X5_found : GoodIn wsX5_at wsX5_found := goodIn_r _ [15, 16, 17, 18, 19, 20, 21, 22, 23, 24, 25, 26, 27, 28, 29, 30, 31] (by decide +kernel) (by decide +kernel)
set_option maxRecDepth 20000 in
theorem gX5_at_X5_found : GoodIn wsX5_at (wsV RX5 78 RX5 yX5_found wsX5_found) := goodIn_app (goodIn_of _ (by decide +kernel)) ggX5_at_X5_found
theorem dX5_at_0 : decode cX5_at 0 = .ok (.iload_n 1, 1) := by decide +kernel
theorem dX5_at_1 : decode cX5_at 1 = .ok (.invokestatic 74, 3) := by decide +kernel
theorem dX5_at_4 : decode cX5_at 4 = .ok (.ifCond .ne 5, 3) := by decide +kernel
theorem dX5_at_7 : decode cX5_at 7 = .ok (.iconst (-1), 1) := by decide +kernel
theorem dX5_at_8 : decode cX5_at 8 = .ok (.ireturn, 1) := by decide +kernel
theorem dX5_at_9 : decode cX5_at 9 = .ok (.aload_n 0, 1) := by decide +kernel
theorem dX5_at_10 : decode cX5_at 10 = .ok (.iload_n 1, 1) := by decide +kernel
theorem dX5_at_11 : decode cX5_at 11 = .ok (.iload_n 2, 1) := by decide +kernel
theorem dX5_at_12 : decode cX5_at 12 = .ok (.invokevirtual 86, 3) := by decide +kernel
theorem dX5_at_15 : decode cX5_at 15 = .ok (.istore_n 3, 1) := by decide +kernel
theorem dX5_at_16 : decode cX5_at 16 = .ok (.iload_n 3, 1) := by decide +kernel
theorem dX5_at_17 : decode cX5_at 17 = .ok (.ifCond .eq 9, 3) := by decide +kernel
theorem dX5_at_20 : decode cX5_at 20 = .ok (.aload_n 0, 1) := by decide +kernel
theorem dX5_at_21 : decode cX5_at 21 = .ok (.iload_n 3, 1) := by decide +kernel
theorem dX5_at_22 : decode cX5_at 22 = .ok (.invokevirtual 78, 3) := by decide +kernel
theorem dX5_at_25 : decode cX5_at 25 = .ok (.ireturn, 1) := by decide +kernel
theorem dX5_at_26 : decode cX5_at 26 = .ok (.aload_n 0, 1) := by decide +kernel
theorem dX5_at_27 : decode cX5_at 27 = .ok (.aload_n 0, 1) := by decide +kernel
theorem dX5_at_28 : decode cX5_at 28 = .ok (.getfield 11, 3) := by decide +kernel
theorem dX5_at_31 : decode cX5_at 31 = .ok (.iload_n 1, 1) := by decide +kernel
theorem dX5_at_32 : decode cX5_at 32 = .ok (.aaload, 1) := by decide +kernel
theorem dX5_at_33 : decode cX5_at 33 = .ok (.iload_n 2, 1) := by decide +kernel
theorem dX5_at_34 : decode cX5_at 34 = .ok (.iaload, 1) := by decide +kernel
theorem dX5_at_35 : decode cX5_at 35 = .ok (.putfield 61, 3) := by decide +kernel
theorem dX5_at_38 : decode cX5_at 38 = .ok (.iconst 1, 1) := by decide +kernel
theorem dX5_at_39 : decode cX5_at 39 = .ok (.ireturn, 1) := by decide +kernel
set_option maxRecDepth 20000 in
theorem ggX5_text_X5_isText : GoodIn wsX5_text wsX5_isText := goodIn_r _ [6] (by decide +kernel) (by decide +kernel)
set_option maxRecDepth 20000 in
theorem gX5_text_X5_isText : GoodIn wsX5_text (va_wsS RX5 96 yX5_isText wsX5_isText) := goodIn_app (goodIn_of _ (by decide +kernel)) ggX5_text_X5_isText
set_option maxRecDepth 20000 in
theorem ggX5_text_X5_found : GoodIn wsX5_text wsX5_found := goodIn_r _ [10, 11, 12, 13, 14, 15, 16, 17, 18, 19, 20, 21, 22, 23, 24, 25, 26] (by decide +kernel) (by decide +kernel)
set_option maxRecDepth 20000 in
theorem gX5_text_X5_found : GoodIn wsX5_text (wsV RX5 78 RX5 yX5_found wsX5_found) := goodIn_app (goodIn_of _ (by decide +kernel)) ggX5_text_X5_found
theorem dX5_text_0 : decode cX5_text 0 = .ok (.iload_n 1, 1) := by decide +kernel
theorem dX5_text_1 : decode cX5_text 1 = .ok (.invokestatic 96, 3) := by decide +kernel
theorem dX5_text_4 : decode cX5_text 4 = .ok (.ifCond .eq 9, 3) := by decide +kernel
theorem dX5_text_7 : decode cX5_text 7 = .ok (.iload_n 2, 1) := by decide +kernel
theorem dX5_text_8 : decode cX5_text 8 = .ok (.bipush 80, 2) := by decide +kernel
theorem dX5_text_10 : decode cX5_text 10 = .ok (.if_icmp .le 5, 3) := by decide +kernel
theorem dX5_text_13 : decode cX5_text 13 = .ok (.iconst (-1), 1) := by decide +kernel
theorem dX5_text_14 : decode cX5_text 14 = .ok (.ireturn, 1) := by decide +kernel
theorem dX5_text_15 : decode cX5_text 15 = .ok (.iload_n 2, 1) := by decide +kernel
theorem dX5_text_16 : decode cX5_text 16 = .ok (.ifCond .ge 9, 3) := by decide +kernel
theorem dX5_text_19 : decode cX5_text 19 = .ok (.aload_n 0, 1) := by decide +kernel
theorem dX5_text_20 : decode cX5_text 20 = .ok (.iconst 5, 1) := by decide +kernel
theorem dX5_text_21 : decode cX5_text 21 = .ok (.invokevirtual 78, 3) := by decide +kernel
theorem dX5_text_24 : decode cX5_text 24 = .ok (.ireturn, 1) := by decide +kernel
theorem dX5_text_25 : decode cX5_text 25 = .ok (.iconst 0, 1) := by decide +kernel
theorem dX5_text_26 : decode cX5_text 26 = .ok (.istore_n 3, 1) := by decide +kernel
theorem dX5_text_27 : decode cX5_text 27 = .ok (.iload_n 3, 1) := by decide +kernel
theorem dX5_text_28 : decode cX5_text 28 = .ok (.iload_n 2, 1) := by decide +kernel
theorem dX5_text_29 : decode cX5_text 29 = .ok (.if_icmp .ge 19, 3) := by decide +kernel
theorem dX5_text_32 : decode cX5_text 32 = .ok (.aload_n 0, 1) := by decide +kernel
theorem dX5_text_33 : decode cX5_text 33 = .ok (.getfield 20, 3) := by decide +kernel
theorem dX5_text_36 : decode cX5_text 36 = .ok (.iload_n 1, 1) := by decide +kernel
theorem dX5_text_37 : decode cX5_text 37 = .ok (.aaload, 1) := by decide +kernel
theorem dX5_text_38 : decode cX5_text 38 = .ok (.iload_n 3, 1) := by decide +kernel
theorem dX5_text_39 : decode cX5_text 39 = .ok (.bipush 32, 2) := by decide +kernel
theorem dX5_text_41 : decode cX5_text 41 = .ok (.bastore, 1) := by decide +kernel
theorem dX5_text_42 : decode cX5_text 42 = .ok (.iinc 3 1, 3) := by decide +kernel
theorem dX5_text_45 : decode cX5_text 45 = .ok (.goto (-18), 3) := by decide +kernel
theorem dX5_text_48 : decode cX5_text 48 = .ok (.aload_n 0, 1) := by decide +kernel
theorem dX5_text_49 : decode cX5_text 49 = .ok (.getfield 23, 3) := by decide +kernel
theorem dX5_text_52 : decode cX5_text 52 = .ok (.iload_n 1, 1) := by decide +kernel
theorem dX5_text_53 : decode cX5_text 53 = .ok (.iload_n 2, 1) := by decide +kernel
theorem dX5_text_54 : decode cX5_text 54 = .ok (.iastore, 1) := by decide +kernel
theorem dX5_text_55 : decode cX5_text 55 = .ok (.iload_n 2, 1) := by decide +kernel
theorem dX5_text_56 : decode cX5_text 56 = .ok (.ireturn, 1) := by decide +kernel
set_option maxRecDepth 20000 in
theorem ggX5_put_X5_isText : GoodIn wsX5_put wsX5_isText := goodIn_r _ [6] (by decide +kernel) (by decide +kernel)
set_option maxRecDepth 20000 in
theorem gX5_put_X5_isText : GoodIn wsX5_put (va_wsS RX5 96 yX5_isText wsX5_isText) := goodIn_app (goodIn_of _ (by decide +kernel)) ggX5_put_X5_isText
set_option maxRecDepth 20000 in
theorem ggX5_put_X5_found : GoodIn wsX5_put wsX5_found := goodIn_r _ [10, 11, 12, 13, 14, 15, 16, 17, 18, 19, 20, 21, 22, 23, 24, 25, 26] (by decide +kernel) (by decide +kernel)
set_option maxRecDepth 20000 in
theorem gX5_put_X5_found : GoodIn wsX5_put (wsV RX5 78 RX5 yX5_found wsX5_found) := goodIn_app (goodIn_of _ (by decide +kernel)) ggX5_put_X5_found
theorem dX5_put_0 : decode cX5_put 0 = .ok (.iload_n 1, 1) := by decide +kernel
theorem dX5_put_1 : decode cX5_put 1 = .ok (.invokestatic 96, 3) := by decide +kernel
theorem dX5_put_4 : decode cX5_put 4 = .ok (.ifCond .ne 5, 3) := by decide +kernel
theorem dX5_put_7 : decode cX5_put 7 = .ok (.iconst (-1), 1) := by decide +kernel
theorem dX5_put_8 : decode cX5_put 8 = .ok (.ireturn, 1) := by decide +kernel
theorem dX5_put_9 : decode cX5_put 9 = .ok (.aload_n 0, 1) := by decide +kernel
theorem dX5_put_10 : decode cX5_put 10 = .ok (.getfield 23, 3) := by decide +kernel
theorem dX5_put_13 : decode cX5_put 13 = .ok (.iload_n 1, 1) := by decide +kernel
theorem dX5_put_14 : decode cX5_put 14 = .ok (.iaload, 1) := by decide +kernel
theorem dX5_put_15 : decode cX5_put 15 = .ok (.iconst (-1), 1) := by decide +kernel
theorem dX5_put_16 : decode cX5_put 16 = .ok (.if_icmp .ne 9, 3) := by decide +kernel
theorem dX5_put_19 : decode cX5_put 19 = .ok (.aload_n 0, 1) := by decide +kernel
theorem dX5_put_20 : decode cX5_put 20 = .ok (.iconst 1, 1) := by decide +kernel
theorem dX5_put_21 : decode cX5_put 21 = .ok (.invokevirtual 78, 3) := by decide +kernel
theorem dX5_put_24 : decode cX5_put 24 = .ok (.ireturn, 1) := by decide +kernel
theorem dX5_put_25 : decode cX5_put 25 = .ok (.iload_n 2, 1) := by decide +kernel
theorem dX5_put_26 : decode cX5_put 26 = .ok (.ifCond .lt 13, 3) := by decide +kernel
theorem dX5_put_29 : decode cX5_put 29 = .ok (.iload_n 2, 1) := by decide +kernel
theorem dX5_put_30 : decode cX5_put 30 = .ok (.aload_n 0, 1) := by decide +kernel
theorem dX5_put_31 : decode cX5_put 31 = .ok (.getfield 23, 3) := by decide +kernel
theorem dX5_put_34 : decode cX5_put 34 = .ok (.iload_n 1, 1) := by decide +kernel
theorem dX5_put_35 : decode cX5_put 35 = .ok (.iaload, 1) := by decide +kernel
theorem dX5_put_36 : decode cX5_put 36 = .ok (.if_icmp .lt 9, 3) := by decide +kernel
theorem dX5_put_39 : decode cX5_put 39 = .ok (.aload_n 0, 1) := by decide +kernel
theorem dX5_put_40 : decode cX5_put 40 = .ok (.iconst 2, 1) := by decide +kernel
theorem dX5_put_41 : decode cX5_put 41 = .ok (.invokevirtual 78, 3) := by decide +kernel
theorem dX5_put_44 : decode cX5_put 44 = .ok (.ireturn, 1) := by decide +kernel
theorem dX5_put_45 : decode cX5_put 45 = .ok (.aload_n 0, 1) := by decide +kernel
theorem dX5_put_46 : decode cX5_put 46 = .ok (.getfield 20, 3) := by decide +kernel
theorem dX5_put_49 : decode cX5_put 49 = .ok (.iload_n 1, 1) := by decide +kernel
theorem dX5_put_50 : decode cX5_put 50 = .ok (.aaload, 1) := by decide +kernel
theorem dX5_put_51 : decode cX5_put 51 = .ok (.iload_n 2, 1) := by decide +kernel
theorem dX5_put_52 : decode cX5_put 52 = .ok (.baload, 1) := by decide +kernel
theorem dX5_put_53 : decode cX5_put 53 = .ok (.istore 4, 2) := by decide +kernel
theorem dX5_put_55 : decode cX5_put 55 = .ok (.aload_n 0, 1) := by decide +kernel
theorem dX5_put_56 : decode cX5_put 56 = .ok (.getfield 20, 3) := by decide +kernel
theorem dX5_put_59 : decode cX5_put 59 = .ok (.iload_n 1, 1) := by decide +kernel
theorem dX5_put_60 : decode cX5_put 60 = .ok (.aaload, 1) := by decide +kernel
theorem dX5_put_61 : decode cX5_put 61 = .ok (.iload_n 2, 1) := by decide +kernel
theorem dX5_put_62 : decode cX5_put 62 = .ok (.iload_n 3, 1) := by decide +kernel
theorem dX5_put_63 : decode cX5_put 63 = .ok (.i2b, 1) := by decide +kernel
theorem dX5_put_64 : decode cX5_put 64 = .ok (.bastore, 1) := by decide +kernel
theorem dX5_put_65 : decode cX5_put 65 = .ok (.iload 4, 2) := by decide +kernel
theorem dX5_put_67 : decode cX5_put 67 = .ok (.sipush 1000, 3) := by decide +kernel
theorem dX5_put_70 : decode cX5_put 70 = .ok (.iadd, 1) := by decide +kernel
theorem dX5_put_71 : decode cX5_put 71 = .ok (.ireturn, 1) := by decide +kernel
set_option maxRecDepth 20000 in
theorem ggX5_party_X5_isText : GoodIn wsX5_party wsX5_isText := goodIn_r _ [11] (by decide +kernel) (by decide +kernel)
set_option maxRecDepth 20000 in
theorem gX5_party_X5_isText : GoodIn wsX5_party (va_wsS RX5 96 yX5_isText wsX5_isText) := goodIn_app (goodIn_of _ (by decide +kernel)) ggX5_party_X5_isText
set_option maxRecDepth 20000 in
theorem ggX5_party_X5_found : GoodIn wsX5_party wsX5_found := goodIn_r _ [15, 16, 17, 92, 93, 94, 95, 96, 97, 98, 99, 100, 101, 102, 103, 104, 105] (by decide +kernel) (by decide +kernel)
set_option maxRecDepth 20000 in
theorem gX5_party_X5_found : GoodIn wsX5_party (wsV RX5 78 RX5 yX5_found wsX5_found) := goodIn_app (goodIn_of _ (by decide +kernel)) ggX5_party_X5_found
set_option maxRecDepth 20000 in
theorem ggX5_party_X4_faultOf : GoodIn wsX5_party wsX4_faultOf := goodIn_r _ [21, 22, 23, 24, 25, 26, 27, 28, 29, 30, 31, 32, 33, 34, 35, 19, 36, 37, 38, 39, 40, 41, 42, 43, 44, 45, 46, 47, 48, 49, 50, 51, 52, 10, 53, 54, 55, 56, 57, 58, 59, 60, 61, 62, 63, 64, 65, 66, 67, 68, 69, 70, 71, 72, 73, 116, 117, 118, 119, 109, 110, 111, 112, 113, 114, 115] (by decide +kernel) (by decide +kernel)
set_option maxRecDepth 20000 in
theorem gX5_party_X4_faultOf_n99 : GoodIn wsX5_party (wsX4_faultOf) := ggX5_party_X4_faultOf
set_option maxRecDepth 20000 in
theorem ggX5_party_X2_arrival : GoodIn wsX5_party wsX2_arrival := goodIn_r _ [76, 29, 77, 78, 79, 80, 81, 82, 83, 84, 85, 109, 110, 111, 112, 113, 114, 115] (by decide +kernel) (by decide +kernel)
set_option maxRecDepth 20000 in
theorem gX5_party_X2_arrival_n103 : GoodIn wsX5_party (wsX2_arrival) := ggX5_party_X2_arrival
set_option maxRecDepth 20000 in
theorem ggX5_party_X0_begin : GoodIn wsX5_party wsX0_begin := goodIn_r _ [89, 90, 91, 106, 107, 108] (by decide +kernel) (by decide +kernel)
set_option maxRecDepth 20000 in
theorem gX5_party_X0_begin_n107 : GoodIn wsX5_party (wsX0_begin) := ggX5_party_X0_begin
theorem dX5_party_0 : decode cX5_party 0 = .ok (.iload_n 1, 1) := by decide +kernel
theorem dX5_party_1 : decode cX5_party 1 = .ok (.invokestatic 96, 3) := by decide +kernel
theorem dX5_party_4 : decode cX5_party 4 = .ok (.ifCond .ne 5, 3) := by decide +kernel
theorem dX5_party_7 : decode cX5_party 7 = .ok (.iconst (-1), 1) := by decide +kernel
theorem dX5_party_8 : decode cX5_party 8 = .ok (.ireturn, 1) := by decide +kernel
theorem dX5_party_9 : decode cX5_party 9 = .ok (.aload_n 0, 1) := by decide +kernel
theorem dX5_party_10 : decode cX5_party 10 = .ok (.getfield 23, 3) := by decide +kernel
theorem dX5_party_13 : decode cX5_party 13 = .ok (.iload_n 1, 1) := by decide +kernel
theorem dX5_party_14 : decode cX5_party 14 = .ok (.iaload, 1) := by decide +kernel
theorem dX5_party_15 : decode cX5_party 15 = .ok (.iconst (-1), 1) := by decide +kernel
theorem dX5_party_16 : decode cX5_party 16 = .ok (.if_icmp .ne 9, 3) := by decide +kernel
theorem dX5_party_19 : decode cX5_party 19 = .ok (.aload_n 0, 1) := by decide +kernel
theorem dX5_party_20 : decode cX5_party 20 = .ok (.iconst 1, 1) := by decide +kernel
theorem dX5_party_21 : decode cX5_party 21 = .ok (.invokevirtual 78, 3) := by decide +kernel
theorem dX5_party_24 : decode cX5_party 24 = .ok (.ireturn, 1) := by decide +kernel
theorem dX5_party_25 : decode cX5_party 25 = .ok (.aload_n 0, 1) := by decide +kernel
theorem dX5_party_26 : decode cX5_party 26 = .ok (.getfield 29, 3) := by decide +kernel
theorem dX5_party_29 : decode cX5_party 29 = .ok (.aload_n 0, 1) := by decide +kernel
theorem dX5_party_30 : decode cX5_party 30 = .ok (.getfield 20, 3) := by decide +kernel
theorem dX5_party_33 : decode cX5_party 33 = .ok (.iload_n 1, 1) := by decide +kernel
theorem dX5_party_34 : decode cX5_party 34 = .ok (.aaload, 1) := by decide +kernel
theorem dX5_party_35 : decode cX5_party 35 = .ok (.aload_n 0, 1) := by decide +kernel
theorem dX5_party_36 : decode cX5_party 36 = .ok (.getfield 23, 3) := by decide +kernel
theorem dX5_party_39 : decode cX5_party 39 = .ok (.iload_n 1, 1) := by decide +kernel
theorem dX5_party_40 : decode cX5_party 40 = .ok (.iaload, 1) := by decide +kernel
theorem dX5_party_41 : decode cX5_party 41 = .ok (.aload_n 0, 1) := by decide +kernel
theorem dX5_party_42 : decode cX5_party 42 = .ok (.getfield 40, 3) := by decide +kernel
theorem dX5_party_45 : decode cX5_party 45 = .ok (.invokevirtual 99, 3) := by decide +kernel
theorem dX5_party_48 : decode cX5_party 48 = .ok (.bipush (-9), 2) := by decide +kernel
theorem dX5_party_50 : decode cX5_party 50 = .ok (.if_icmp .eq 6, 3) := by decide +kernel
theorem dX5_party_53 : decode cX5_party 53 = .ok (.bipush (-4), 2) := by decide +kernel
theorem dX5_party_55 : decode cX5_party 55 = .ok (.ireturn, 1) := by decide +kernel
theorem dX5_party_56 : decode cX5_party 56 = .ok (.aload_n 0, 1) := by decide +kernel
theorem dX5_party_57 : decode cX5_party 57 = .ok (.getfield 40, 3) := by decide +kernel
theorem dX5_party_60 : decode cX5_party 60 = .ok (.astore_n 2, 1) := by decide +kernel
theorem dX5_party_61 : decode cX5_party 61 = .ok (.aload_n 0, 1) := by decide +kernel
theorem dX5_party_62 : decode cX5_party 62 = .ok (.aload_n 0, 1) := by decide +kernel
theorem dX5_party_63 : decode cX5_party 63 = .ok (.getfield 36, 3) := by decide +kernel
theorem dX5_party_66 : decode cX5_party 66 = .ok (.putfield 40, 3) := by decide +kernel
theorem dX5_party_69 : decode cX5_party 69 = .ok (.aload_n 0, 1) := by decide +kernel
theorem dX5_party_70 : decode cX5_party 70 = .ok (.aload_n 2, 1) := by decide +kernel
theorem dX5_party_71 : decode cX5_party 71 = .ok (.putfield 36, 3) := by decide +kernel
theorem dX5_party_74 : decode cX5_party 74 = .ok (.aload_n 0, 1) := by decide +kernel
theorem dX5_party_75 : decode cX5_party 75 = .ok (.getfield 46, 3) := by decide +kernel
theorem dX5_party_78 : decode cX5_party 78 = .ok (.aload_n 0, 1) := by decide +kernel
theorem dX5_party_79 : decode cX5_party 79 = .ok (.getfield 36, 3) := by decide +kernel
theorem dX5_party_82 : decode cX5_party 82 = .ok (.invokevirtual 103, 3) := by decide +kernel
theorem dX5_party_85 : decode cX5_party 85 = .ok (.invokevirtual 107, 3) := by decide +kernel
theorem dX5_party_88 : decode cX5_party 88 = .ok (.iconst 0, 1) := by decide +kernel
theorem dX5_party_89 : decode cX5_party 89 = .ok (.istore_n 3, 1) := by decide +kernel
theorem dX5_party_90 : decode cX5_party 90 = .ok (.iload_n 3, 1) := by decide +kernel
theorem dX5_party_91 : decode cX5_party 91 = .ok (.iconst 3, 1) := by decide +kernel
theorem dX5_party_92 : decode cX5_party 92 = .ok (.if_icmp .ge 19, 3) := by decide +kernel
theorem dX5_party_95 : decode cX5_party 95 = .ok (.aload_n 0, 1) := by decide +kernel
theorem dX5_party_96 : decode cX5_party 96 = .ok (.getfield 50, 3) := by decide +kernel
theorem dX5_party_99 : decode cX5_party 99 = .ok (.iload_n 3, 1) := by decide +kernel
theorem dX5_party_100 : decode cX5_party 100 = .ok (.aaload, 1) := by decide +kernel
theorem dX5_party_101 : decode cX5_party 101 = .ok (.iconst (-1), 1) := by decide +kernel
theorem dX5_party_102 : decode cX5_party 102 = .ok (.putfield 71, 3) := by decide +kernel
theorem dX5_party_105 : decode cX5_party 105 = .ok (.iinc 3 1, 3) := by decide +kernel
theorem dX5_party_108 : decode cX5_party 108 = .ok (.goto (-18), 3) := by decide +kernel
theorem dX5_party_111 : decode cX5_party 111 = .ok (.aload_n 0, 1) := by decide +kernel
theorem dX5_party_112 : decode cX5_party 112 = .ok (.getfield 36, 3) := by decide +kernel
theorem dX5_party_115 : decode cX5_party 115 = .ok (.getfield 111, 3) := by decide +kernel
theorem dX5_party_118 : decode cX5_party 118 = .ok (.ireturn, 1) := by decide +kernel
set_option maxRecDepth 20000 in
theorem ggX5_guest_X5_isGuest : GoodIn wsX5_guest wsX5_isGuest := goodIn_r _ [6, 7, 26, 27, 28, 29, 30, 31, 32, 33, 34, 35, 36, 37, 38, 39, 40, 41, 42, 43, 44, 45, 46] (by decide +kernel) (by decide +kernel)
set_option maxRecDepth 20000 in
theorem gX5_guest_X5_isGuest : GoodIn wsX5_guest (wsV RX5 114 RX5 yX5_isGuest wsX5_isGuest) := goodIn_app (goodIn_of _ (by decide +kernel)) ggX5_guest_X5_isGuest
set_option maxRecDepth 20000 in
theorem ggX5_guest_X5_guestTells : GoodIn wsX5_guest wsX5_guestTells := goodIn_r _ [11, 7, 12, 13, 14, 15, 16, 17, 18, 19, 20, 21, 22, 23, 24, 25, 26, 27, 28, 29, 30, 31, 32, 33, 34, 35, 36, 37, 38, 39, 40, 41, 42, 43, 44, 45, 46, 47, 48, 49] (by decide +kernel) (by decide +kernel)
set_option maxRecDepth 20000 in
theorem gX5_guest_X5_guestTells : GoodIn wsX5_guest (wsV RX5 117 RX5 yX5_guestTells wsX5_guestTells) := goodIn_app (goodIn_of _ (by decide +kernel)) ggX5_guest_X5_guestTells
theorem dX5_guest_0 : decode cX5_guest 0 = .ok (.aload_n 0, 1) := by decide +kernel
theorem dX5_guest_1 : decode cX5_guest 1 = .ok (.iload_n 1, 1) := by decide +kernel
theorem dX5_guest_2 : decode cX5_guest 2 = .ok (.invokevirtual 114, 3) := by decide +kernel
theorem dX5_guest_5 : decode cX5_guest 5 = .ok (.ifCond .eq 12, 3) := by decide +kernel
theorem dX5_guest_8 : decode cX5_guest 8 = .ok (.iload_n 2, 1) := by decide +kernel
theorem dX5_guest_9 : decode cX5_guest 9 = .ok (.ifCond .lt 8, 3) := by decide +kernel
theorem dX5_guest_12 : decode cX5_guest 12 = .ok (.iload_n 2, 1) := by decide +kernel
theorem dX5_guest_13 : decode cX5_guest 13 = .ok (.iconst 4, 1) := by decide +kernel
theorem dX5_guest_14 : decode cX5_guest 14 = .ok (.if_icmp .le 5, 3) := by decide +kernel
theorem dX5_guest_17 : decode cX5_guest 17 = .ok (.iconst (-1), 1) := by decide +kernel
theorem dX5_guest_18 : decode cX5_guest 18 = .ok (.ireturn, 1) := by decide +kernel
theorem dX5_guest_19 : decode cX5_guest 19 = .ok (.aload_n 0, 1) := by decide +kernel
theorem dX5_guest_20 : decode cX5_guest 20 = .ok (.aload_n 0, 1) := by decide +kernel
theorem dX5_guest_21 : decode cX5_guest 21 = .ok (.iload_n 1, 1) := by decide +kernel
theorem dX5_guest_22 : decode cX5_guest 22 = .ok (.iload_n 2, 1) := by decide +kernel
theorem dX5_guest_23 : decode cX5_guest 23 = .ok (.invokevirtual 117, 3) := by decide +kernel
theorem dX5_guest_26 : decode cX5_guest 26 = .ok (.putfield 61, 3) := by decide +kernel
theorem dX5_guest_29 : decode cX5_guest 29 = .ok (.iconst 1, 1) := by decide +kernel
theorem dX5_guest_30 : decode cX5_guest 30 = .ok (.ireturn, 1) := by decide +kernel
set_option maxRecDepth 20000 in
theorem ggX5_tune_X5_isTune : GoodIn wsX5_tune wsX5_isTune := goodIn_r _ [6] (by decide +kernel) (by decide +kernel)
set_option maxRecDepth 20000 in
theorem gX5_tune_X5_isTune : GoodIn wsX5_tune (va_wsS RX5 152 yX5_isTune wsX5_isTune) := goodIn_app (goodIn_of _ (by decide +kernel)) ggX5_tune_X5_isTune
set_option maxRecDepth 20000 in
theorem ggX5_tune_X1_insiders : GoodIn wsX5_tune wsX1_insiders := goodIn_r _ [9] (by decide +kernel) (by decide +kernel)
set_option maxRecDepth 20000 in
theorem gX5_tune_X1_insiders_n158 : GoodIn wsX5_tune (wsX1_insiders) := ggX5_tune_X1_insiders
set_option maxRecDepth 20000 in
theorem ggX5_tune_X2_afterTune : GoodIn wsX5_tune wsX2_afterTune := goodIn_r _ [13, 14, 15, 16, 17, 8, 18, 19, 20, 21, 22, 23, 11, 24, 25, 26, 27, 28, 29, 30, 31, 32, 33, 34, 35, 36, 37, 38, 39, 40, 41, 42, 43, 44, 45, 46, 47, 48, 7, 9, 49, 50, 51, 52, 53, 54, 55, 56, 78, 79, 80, 81, 82, 83, 84] (by decide +kernel) (by decide +kernel)
set_option maxRecDepth 20000 in
theorem gX5_tune_X2_afterTune_n162 : GoodIn wsX5_tune (wsX2_afterTune) := ggX5_tune_X2_afterTune
set_option maxRecDepth 20000 in
theorem ggX5_tune_X0_goOn : GoodIn wsX5_tune wsX0_goOn := goodIn_r _ [60, 61, 62, 63, 85, 86, 87] (by decide +kernel) (by decide +kernel)
set_option maxRecDepth 20000 in
theorem gX5_tune_X0_goOn_n166 : GoodIn wsX5_tune (wsX0_goOn) := ggX5_tune_X0_goOn
theorem dX5_tune_0 : decode cX5_tune 0 = .ok (.iload_n 1, 1) := by decide +kernel
theorem dX5_tune_1 : decode cX5_tune 1 = .ok (.invokestatic 152, 3) := by decide +kernel
theorem dX5_tune_4 : decode cX5_tune 4 = .ok (.ifCond .ne 5, 3) := by decide +kernel
theorem dX5_tune_7 : decode cX5_tune 7 = .ok (.iconst (-1), 1) := by decide +kernel
theorem dX5_tune_8 : decode cX5_tune 8 = .ok (.ireturn, 1) := by decide +kernel
theorem dX5_tune_9 : decode cX5_tune 9 = .ok (.aload_n 0, 1) := by decide +kernel
theorem dX5_tune_10 : decode cX5_tune 10 = .ok (.getfield 36, 3) := by decide +kernel
theorem dX5_tune_13 : decode cX5_tune 13 = .ok (.getfield 111, 3) := by decide +kernel
theorem dX5_tune_16 : decode cX5_tune 16 = .ok (.ifCond .ne 6, 3) := by decide +kernel
theorem dX5_tune_19 : decode cX5_tune 19 = .ok (.bipush (-4), 2) := by decide +kernel
theorem dX5_tune_21 : decode cX5_tune 21 = .ok (.ireturn, 1) := by decide +kernel
theorem dX5_tune_22 : decode cX5_tune 22 = .ok (.aload_n 0, 1) := by decide +kernel
theorem dX5_tune_23 : decode cX5_tune 23 = .ok (.getfield 46, 3) := by decide +kernel
theorem dX5_tune_26 : decode cX5_tune 26 = .ok (.getfield 71, 3) := by decide +kernel
theorem dX5_tune_29 : decode cX5_tune 29 = .ok (.bipush 40, 2) := by decide +kernel
theorem dX5_tune_31 : decode cX5_tune 31 = .ok (.if_icmp .lt 6, 3) := by decide +kernel
theorem dX5_tune_34 : decode cX5_tune 34 = .ok (.bipush (-2), 2) := by decide +kernel
theorem dX5_tune_36 : decode cX5_tune 36 = .ok (.ireturn, 1) := by decide +kernel
theorem dX5_tune_37 : decode cX5_tune 37 = .ok (.aload_n 0, 1) := by decide +kernel
theorem dX5_tune_38 : decode cX5_tune 38 = .ok (.getfield 46, 3) := by decide +kernel
theorem dX5_tune_41 : decode cX5_tune 41 = .ok (.getfield 127, 3) := by decide +kernel
theorem dX5_tune_44 : decode cX5_tune 44 = .ok (.invokestatic 158, 3) := by decide +kernel
theorem dX5_tune_47 : decode cX5_tune 47 = .ok (.istore_n 2, 1) := by decide +kernel
theorem dX5_tune_48 : decode cX5_tune 48 = .ok (.aload_n 0, 1) := by decide +kernel
theorem dX5_tune_49 : decode cX5_tune 49 = .ok (.getfield 46, 3) := by decide +kernel
theorem dX5_tune_52 : decode cX5_tune 52 = .ok (.aload_n 0, 1) := by decide +kernel
theorem dX5_tune_53 : decode cX5_tune 53 = .ok (.getfield 36, 3) := by decide +kernel
theorem dX5_tune_56 : decode cX5_tune 56 = .ok (.aload_n 0, 1) := by decide +kernel
theorem dX5_tune_57 : decode cX5_tune 57 = .ok (.getfield 46, 3) := by decide +kernel
theorem dX5_tune_60 : decode cX5_tune 60 = .ok (.getfield 127, 3) := by decide +kernel
theorem dX5_tune_63 : decode cX5_tune 63 = .ok (.iload_n 1, 1) := by decide +kernel
theorem dX5_tune_64 : decode cX5_tune 64 = .ok (.invokevirtual 162, 3) := by decide +kernel
theorem dX5_tune_67 : decode cX5_tune 67 = .ok (.invokevirtual 166, 3) := by decide +kernel
theorem dX5_tune_70 : decode cX5_tune 70 = .ok (.iload_n 2, 1) := by decide +kernel
theorem dX5_tune_71 : decode cX5_tune 71 = .ok (.aload_n 0, 1) := by decide +kernel
theorem dX5_tune_72 : decode cX5_tune 72 = .ok (.getfield 46, 3) := by decide +kernel
theorem dX5_tune_75 : decode cX5_tune 75 = .ok (.getfield 127, 3) := by decide +kernel
theorem dX5_tune_78 : decode cX5_tune 78 = .ok (.invokestatic 158, 3) := by decide +kernel
theorem dX5_tune_81 : decode cX5_tune 81 = .ok (.iconst (-1), 1) := by decide +kernel
theorem dX5_tune_82 : decode cX5_tune 82 = .ok (.ixor, 1) := by decide +kernel
theorem dX5_tune_83 : decode cX5_tune 83 = .ok (.iand, 1) := by decide +kernel
theorem dX5_tune_84 : decode cX5_tune 84 = .ok (.ireturn, 1) := by decide +kernel
set_option maxRecDepth 20000 in
theorem ggX5_say_X5_deedRefusal : GoodIn wsX5_say wsX5_deedRefusal := goodIn_r _ [7, 1, 8, 9, 10, 6, 11, 2, 12, 13, 14, 62, 63, 64, 65, 66, 67, 68, 69, 70, 71, 72, 73, 74, 75, 76, 77, 78, 79, 80, 81, 82, 83, 84, 85] (by decide +kernel) (by decide +kernel)
set_option maxRecDepth 20000 in
theorem gX5_say_X5_deedRefusal : GoodIn wsX5_say (wsV RX5 169 RX5 yX5_deedRefusal wsX5_deedRefusal) := goodIn_app (goodIn_of _ (by decide +kernel)) ggX5_say_X5_deedRefusal
set_option maxRecDepth 20000 in
theorem ggX5_say_X2_afterName : GoodIn wsX5_say wsX2_afterName := goodIn_r _ [18, 19, 20, 13, 21, 22, 23, 24, 16, 25, 26, 27, 28, 29, 30, 31, 32, 33, 34, 35, 36, 37, 38, 39, 40, 41, 42, 43, 44, 45, 46, 47, 48, 49, 50, 51, 52, 53, 54, 79, 80, 81, 82, 83, 84, 85] (by decide +kernel) (by decide +kernel)
set_option maxRecDepth 20000 in
theorem gX5_say_X2_afterName_n172 : GoodIn wsX5_say (wsX2_afterName) := ggX5_say_X2_afterName
set_option maxRecDepth 20000 in
theorem ggX5_say_X0_goOn : GoodIn wsX5_say wsX0_goOn := goodIn_r _ [58, 59, 60, 61, 76, 77, 78] (by decide +kernel) (by decide +kernel)
set_option maxRecDepth 20000 in
theorem gX5_say_X0_goOn_n166 : GoodIn wsX5_say (wsX0_goOn) := ggX5_say_X0_goOn
set_option maxRecDepth 20000 in
theorem ggX5_say_X1_griefOf : GoodIn wsX5_say wsX1_griefOf := goodIn_r _ [21, 22] (by decide +kernel) (by decide +kernel)
set_option maxRecDepth 20000 in
theorem gX5_say_X1_griefOf_n175 : GoodIn wsX5_say (wsX1_griefOf) := ggX5_say_X1_griefOf
theorem dX5_say_0 : decode cX5_say 0 = .ok (.aload_n 0, 1) := by decide +kernel
theorem dX5_say_1 : decode cX5_say 1 = .ok (.iload_n 1, 1) := by decide +kernel
theorem dX5_say_2 : decode cX5_say 2 = .ok (.invokevirtual 169, 3) := by decide +kernel
theorem dX5_say_5 : decode cX5_say 5 = .ok (.istore_n 2, 1) := by decide +kernel
theorem dX5_say_6 : decode cX5_say 6 = .ok (.iload_n 2, 1) := by decide +kernel
theorem dX5_say_7 : decode cX5_say 7 = .ok (.ifCond .eq 5, 3) := by decide +kernel
theorem dX5_say_10 : decode cX5_say 10 = .ok (.iload_n 2, 1) := by decide +kernel
theorem dX5_say_11 : decode cX5_say 11 = .ok (.ireturn, 1) := by decide +kernel
theorem dX5_say_12 : decode cX5_say 12 = .ok (.aload_n 0, 1) := by decide +kernel
theorem dX5_say_13 : decode cX5_say 13 = .ok (.getfield 46, 3) := by decide +kernel
theorem dX5_say_16 : decode cX5_say 16 = .ok (.aload_n 0, 1) := by decide +kernel
theorem dX5_say_17 : decode cX5_say 17 = .ok (.getfield 36, 3) := by decide +kernel
theorem dX5_say_20 : decode cX5_say 20 = .ok (.aload_n 0, 1) := by decide +kernel
theorem dX5_say_21 : decode cX5_say 21 = .ok (.getfield 46, 3) := by decide +kernel
theorem dX5_say_24 : decode cX5_say 24 = .ok (.getfield 127, 3) := by decide +kernel
theorem dX5_say_27 : decode cX5_say 27 = .ok (.iload_n 1, 1) := by decide +kernel
theorem dX5_say_28 : decode cX5_say 28 = .ok (.invokevirtual 172, 3) := by decide +kernel
theorem dX5_say_31 : decode cX5_say 31 = .ok (.invokevirtual 166, 3) := by decide +kernel
theorem dX5_say_34 : decode cX5_say 34 = .ok (.aload_n 0, 1) := by decide +kernel
theorem dX5_say_35 : decode cX5_say 35 = .ok (.getfield 46, 3) := by decide +kernel
theorem dX5_say_38 : decode cX5_say 38 = .ok (.getfield 127, 3) := by decide +kernel
theorem dX5_say_41 : decode cX5_say 41 = .ok (.iload_n 1, 1) := by decide +kernel
theorem dX5_say_42 : decode cX5_say 42 = .ok (.invokestatic 175, 3) := by decide +kernel
theorem dX5_say_45 : decode cX5_say 45 = .ok (.ireturn, 1) := by decide +kernel
set_option maxRecDepth 20000 in
theorem ggX5_ice_X5_deedRefusal : GoodIn wsX5_ice wsX5_deedRefusal := goodIn_r _ [7, 1, 8, 9, 10, 6, 11, 2, 12, 13, 14, 59, 60, 61, 62, 63, 64, 65, 66, 67, 68, 69, 70, 71, 72, 73, 74, 75, 76, 77, 78, 79, 80, 81, 82] (by decide +kernel) (by decide +kernel)
set_option maxRecDepth 20000 in
theorem gX5_ice_X5_deedRefusal : GoodIn wsX5_ice (wsV RX5 169 RX5 yX5_deedRefusal wsX5_deedRefusal) := goodIn_app (goodIn_of _ (by decide +kernel)) ggX5_ice_X5_deedRefusal
set_option maxRecDepth 20000 in
theorem ggX5_ice_X2_afterIce : GoodIn wsX5_ice wsX2_afterIce := goodIn_r _ [18, 19, 13, 20, 21, 22, 23, 16, 24, 25, 26, 27, 28, 29, 30, 31, 32, 33, 34, 35, 36, 37, 38, 39, 40, 41, 42, 43, 44, 45, 46, 47, 48, 49, 50, 51, 76, 77, 78, 79, 80, 81, 82] (by decide +kernel) (by decide +kernel)
set_option maxRecDepth 20000 in
theorem gX5_ice_X2_afterIce_n178 : GoodIn wsX5_ice (wsX2_afterIce) := ggX5_ice_X2_afterIce
set_option maxRecDepth 20000 in
theorem ggX5_ice_X0_goOn : GoodIn wsX5_ice wsX0_goOn := goodIn_r _ [55, 56, 57, 58, 73, 74, 75] (by decide +kernel) (by decide +kernel)
set_option maxRecDepth 20000 in
theorem gX5_ice_X0_goOn_n166 : GoodIn wsX5_ice (wsX0_goOn) := ggX5_ice_X0_goOn
set_option maxRecDepth 20000 in
theorem ggX5_ice_X1_griefOf : GoodIn wsX5_ice wsX1_griefOf := goodIn_r _ [20, 21] (by decide +kernel) (by decide +kernel)
set_option maxRecDepth 20000 in
theorem gX5_ice_X1_griefOf_n175 : GoodIn wsX5_ice (wsX1_griefOf) := ggX5_ice_X1_griefOf
theorem dX5_ice_0 : decode cX5_ice 0 = .ok (.aload_n 0, 1) := by decide +kernel
theorem dX5_ice_1 : decode cX5_ice 1 = .ok (.iload_n 1, 1) := by decide +kernel
theorem dX5_ice_2 : decode cX5_ice 2 = .ok (.invokevirtual 169, 3) := by decide +kernel
theorem dX5_ice_5 : decode cX5_ice 5 = .ok (.istore_n 2, 1) := by decide +kernel
theorem dX5_ice_6 : decode cX5_ice 6 = .ok (.iload_n 2, 1) := by decide +kernel
theorem dX5_ice_7 : decode cX5_ice 7 = .ok (.ifCond .eq 5, 3) := by decide +kernel
theorem dX5_ice_10 : decode cX5_ice 10 = .ok (.iload_n 2, 1) := by decide +kernel
theorem dX5_ice_11 : decode cX5_ice 11 = .ok (.ireturn, 1) := by decide +kernel
theorem dX5_ice_12 : decode cX5_ice 12 = .ok (.aload_n 0, 1) := by decide +kernel
theorem dX5_ice_13 : decode cX5_ice 13 = .ok (.getfield 46, 3) := by decide +kernel
theorem dX5_ice_16 : decode cX5_ice 16 = .ok (.aload_n 0, 1) := by decide +kernel
theorem dX5_ice_17 : decode cX5_ice 17 = .ok (.getfield 36, 3) := by decide +kernel
theorem dX5_ice_20 : decode cX5_ice 20 = .ok (.aload_n 0, 1) := by decide +kernel
theorem dX5_ice_21 : decode cX5_ice 21 = .ok (.getfield 46, 3) := by decide +kernel
theorem dX5_ice_24 : decode cX5_ice 24 = .ok (.getfield 127, 3) := by decide +kernel
theorem dX5_ice_27 : decode cX5_ice 27 = .ok (.iload_n 1, 1) := by decide +kernel
theorem dX5_ice_28 : decode cX5_ice 28 = .ok (.invokevirtual 178, 3) := by decide +kernel
theorem dX5_ice_31 : decode cX5_ice 31 = .ok (.invokevirtual 166, 3) := by decide +kernel
theorem dX5_ice_34 : decode cX5_ice 34 = .ok (.aload_n 0, 1) := by decide +kernel
theorem dX5_ice_35 : decode cX5_ice 35 = .ok (.getfield 46, 3) := by decide +kernel
theorem dX5_ice_38 : decode cX5_ice 38 = .ok (.getfield 127, 3) := by decide +kernel
theorem dX5_ice_41 : decode cX5_ice 41 = .ok (.iload_n 1, 1) := by decide +kernel
theorem dX5_ice_42 : decode cX5_ice 42 = .ok (.invokestatic 175, 3) := by decide +kernel
theorem dX5_ice_45 : decode cX5_ice 45 = .ok (.ireturn, 1) := by decide +kernel
set_option maxRecDepth 20000 in
theorem ggX5_undo_X0_goBackTo : GoodIn wsX5_undo wsX0_goBackTo := goodIn_r _ [5, 6, 7, 8, 23, 24, 25] (by decide +kernel) (by decide +kernel)
set_option maxRecDepth 20000 in
theorem gX5_undo_X0_goBackTo_n181 : GoodIn wsX5_undo (wsX0_goBackTo) := ggX5_undo_X0_goBackTo
theorem dX5_undo_0 : decode cX5_undo 0 = .ok (.iload_n 1, 1) := by decide +kernel
theorem dX5_undo_1 : decode cX5_undo 1 = .ok (.ifCond .lt 14, 3) := by decide +kernel
theorem dX5_undo_4 : decode cX5_undo 4 = .ok (.iload_n 1, 1) := by decide +kernel
theorem dX5_undo_5 : decode cX5_undo 5 = .ok (.aload_n 0, 1) := by decide +kernel
theorem dX5_undo_6 : decode cX5_undo 6 = .ok (.getfield 46, 3) := by decide +kernel
theorem dX5_undo_9 : decode cX5_undo 9 = .ok (.getfield 71, 3) := by decide +kernel
theorem dX5_undo_12 : decode cX5_undo 12 = .ok (.if_icmp .le 5, 3) := by decide +kernel
theorem dX5_undo_15 : decode cX5_undo 15 = .ok (.iconst (-1), 1) := by decide +kernel
theorem dX5_undo_16 : decode cX5_undo 16 = .ok (.ireturn, 1) := by decide +kernel
theorem dX5_undo_17 : decode cX5_undo 17 = .ok (.aload_n 0, 1) := by decide +kernel
theorem dX5_undo_18 : decode cX5_undo 18 = .ok (.getfield 46, 3) := by decide +kernel
theorem dX5_undo_21 : decode cX5_undo 21 = .ok (.getfield 71, 3) := by decide +kernel
theorem dX5_undo_24 : decode cX5_undo 24 = .ok (.iload_n 1, 1) := by decide +kernel
theorem dX5_undo_25 : decode cX5_undo 25 = .ok (.isub, 1) := by decide +kernel
theorem dX5_undo_26 : decode cX5_undo 26 = .ok (.istore_n 2, 1) := by decide +kernel
theorem dX5_undo_27 : decode cX5_undo 27 = .ok (.aload_n 0, 1) := by decide +kernel
theorem dX5_undo_28 : decode cX5_undo 28 = .ok (.getfield 46, 3) := by decide +kernel
theorem dX5_undo_31 : decode cX5_undo 31 = .ok (.iload_n 1, 1) := by decide +kernel
theorem dX5_undo_32 : decode cX5_undo 32 = .ok (.invokevirtual 181, 3) := by decide +kernel
theorem dX5_undo_35 : decode cX5_undo 35 = .ok (.iload_n 2, 1) := by decide +kernel
theorem dX5_undo_36 : decode cX5_undo 36 = .ok (.ireturn, 1) := by decide +kernel
set_option maxRecDepth 20000 in
theorem ggX5_keep_X5_isKeepingPlace : GoodIn wsX5_keep wsX5_isKeepingPlace := goodIn_r _ [7] (by decide +kernel) (by decide +kernel)
set_option maxRecDepth 20000 in
theorem gX5_keep_X5_isKeepingPlace : GoodIn wsX5_keep (va_wsS RX5 185 yX5_isKeepingPlace wsX5_isKeepingPlace) := goodIn_app (goodIn_of _ (by decide +kernel)) ggX5_keep_X5_isKeepingPlace
set_option maxRecDepth 20000 in
theorem ggX5_keep_X0_takeAll : GoodIn wsX5_keep wsX0_takeAll := goodIn_r _ [11, 12, 13, 14, 15, 16, 17, 18, 40, 41, 42] (by decide +kernel) (by decide +kernel)
set_option maxRecDepth 20000 in
theorem gX5_keep_X0_takeAll_n188 : GoodIn wsX5_keep (wsX0_takeAll) := ggX5_keep_X0_takeAll
theorem dX5_keep_0 : decode cX5_keep 0 = .ok (.iload_n 1, 1) := by decide +kernel
theorem dX5_keep_1 : decode cX5_keep 1 = .ok (.invokestatic 185, 3) := by decide +kernel
theorem dX5_keep_4 : decode cX5_keep 4 = .ok (.ifCond .ne 5, 3) := by decide +kernel
theorem dX5_keep_7 : decode cX5_keep 7 = .ok (.iconst (-1), 1) := by decide +kernel
theorem dX5_keep_8 : decode cX5_keep 8 = .ok (.ireturn, 1) := by decide +kernel
theorem dX5_keep_9 : decode cX5_keep 9 = .ok (.aload_n 0, 1) := by decide +kernel
theorem dX5_keep_10 : decode cX5_keep 10 = .ok (.getfield 36, 3) := by decide +kernel
theorem dX5_keep_13 : decode cX5_keep 13 = .ok (.getfield 111, 3) := by decide +kernel
theorem dX5_keep_16 : decode cX5_keep 16 = .ok (.ifCond .ne 6, 3) := by decide +kernel
theorem dX5_keep_19 : decode cX5_keep 19 = .ok (.bipush (-4), 2) := by decide +kernel
theorem dX5_keep_21 : decode cX5_keep 21 = .ok (.ireturn, 1) := by decide +kernel
theorem dX5_keep_22 : decode cX5_keep 22 = .ok (.aload_n 0, 1) := by decide +kernel
theorem dX5_keep_23 : decode cX5_keep 23 = .ok (.getfield 50, 3) := by decide +kernel
theorem dX5_keep_26 : decode cX5_keep 26 = .ok (.iload_n 1, 1) := by decide +kernel
theorem dX5_keep_27 : decode cX5_keep 27 = .ok (.aaload, 1) := by decide +kernel
theorem dX5_keep_28 : decode cX5_keep 28 = .ok (.aload_n 0, 1) := by decide +kernel
theorem dX5_keep_29 : decode cX5_keep 29 = .ok (.getfield 46, 3) := by decide +kernel
theorem dX5_keep_32 : decode cX5_keep 32 = .ok (.invokevirtual 188, 3) := by decide +kernel
theorem dX5_keep_35 : decode cX5_keep 35 = .ok (.aload_n 0, 1) := by decide +kernel
theorem dX5_keep_36 : decode cX5_keep 36 = .ok (.getfield 46, 3) := by decide +kernel
theorem dX5_keep_39 : decode cX5_keep 39 = .ok (.getfield 71, 3) := by decide +kernel
theorem dX5_keep_42 : decode cX5_keep 42 = .ok (.ireturn, 1) := by decide +kernel
set_option maxRecDepth 20000 in
theorem ggX5_on_X5_isKeepingPlace : GoodIn wsX5_on wsX5_isKeepingPlace := goodIn_r _ [6] (by decide +kernel) (by decide +kernel)
set_option maxRecDepth 20000 in
theorem gX5_on_X5_isKeepingPlace : GoodIn wsX5_on (va_wsS RX5 185 yX5_isKeepingPlace wsX5_isKeepingPlace) := goodIn_app (goodIn_of _ (by decide +kernel)) ggX5_on_X5_isKeepingPlace
set_option maxRecDepth 20000 in
theorem ggX5_on_X5_found : GoodIn wsX5_on wsX5_found := goodIn_r _ [10, 11, 12, 24, 25, 26, 27, 28, 29, 30, 31, 32, 33, 34, 35, 36, 37] (by decide +kernel) (by decide +kernel)
set_option maxRecDepth 20000 in
theorem gX5_on_X5_found : GoodIn wsX5_on (wsV RX5 78 RX5 yX5_found wsX5_found) := goodIn_app (goodIn_of _ (by decide +kernel)) ggX5_on_X5_found
set_option maxRecDepth 20000 in
theorem ggX5_on_X0_takeAll : GoodIn wsX5_on wsX0_takeAll := goodIn_r _ [16, 17, 18, 19, 20, 21, 22, 23, 38, 39, 40] (by decide +kernel) (by decide +kernel)
set_option maxRecDepth 20000 in
theorem gX5_on_X0_takeAll_n188 : GoodIn wsX5_on (wsX0_takeAll) := ggX5_on_X0_takeAll
theorem dX5_on_0 : decode cX5_on 0 = .ok (.iload_n 1, 1) := by decide +kernel
theorem dX5_on_1 : decode cX5_on 1 = .ok (.invokestatic 185, 3) := by decide +kernel
theorem dX5_on_4 : decode cX5_on 4 = .ok (.ifCond .ne 5, 3) := by decide +kernel
theorem dX5_on_7 : decode cX5_on 7 = .ok (.iconst (-1), 1) := by decide +kernel
theorem dX5_on_8 : decode cX5_on 8 = .ok (.ireturn, 1) := by decide +kernel
theorem dX5_on_9 : decode cX5_on 9 = .ok (.aload_n 0, 1) := by decide +kernel
theorem dX5_on_10 : decode cX5_on 10 = .ok (.getfield 50, 3) := by decide +kernel
theorem dX5_on_13 : decode cX5_on 13 = .ok (.iload_n 1, 1) := by decide +kernel
theorem dX5_on_14 : decode cX5_on 14 = .ok (.aaload, 1) := by decide +kernel
theorem dX5_on_15 : decode cX5_on 15 = .ok (.getfield 71, 3) := by decide +kernel
theorem dX5_on_18 : decode cX5_on 18 = .ok (.iconst (-1), 1) := by decide +kernel
theorem dX5_on_19 : decode cX5_on 19 = .ok (.if_icmp .ne 9, 3) := by decide +kernel
theorem dX5_on_22 : decode cX5_on 22 = .ok (.aload_n 0, 1) := by decide +kernel
theorem dX5_on_23 : decode cX5_on 23 = .ok (.iconst 1, 1) := by decide +kernel
theorem dX5_on_24 : decode cX5_on 24 = .ok (.invokevirtual 78, 3) := by decide +kernel
theorem dX5_on_27 : decode cX5_on 27 = .ok (.ireturn, 1) := by decide +kernel
theorem dX5_on_28 : decode cX5_on 28 = .ok (.aload_n 0, 1) := by decide +kernel
theorem dX5_on_29 : decode cX5_on 29 = .ok (.getfield 46, 3) := by decide +kernel
theorem dX5_on_32 : decode cX5_on 32 = .ok (.aload_n 0, 1) := by decide +kernel
theorem dX5_on_33 : decode cX5_on 33 = .ok (.getfield 50, 3) := by decide +kernel
theorem dX5_on_36 : decode cX5_on 36 = .ok (.iload_n 1, 1) := by decide +kernel
theorem dX5_on_37 : decode cX5_on 37 = .ok (.aaload, 1) := by decide +kernel
theorem dX5_on_38 : decode cX5_on 38 = .ok (.invokevirtual 188, 3) := by decide +kernel
theorem dX5_on_41 : decode cX5_on 41 = .ok (.aload_n 0, 1) := by decide +kernel
theorem dX5_on_42 : decode cX5_on 42 = .ok (.getfield 46, 3) := by decide +kernel
theorem dX5_on_45 : decode cX5_on 45 = .ok (.getfield 71, 3) := by decide +kernel
theorem dX5_on_48 : decode cX5_on 48 = .ok (.ireturn, 1) := by decide +kernel
set_option maxRecDepth 20000 in
theorem ggX5_out_X5_isTune : GoodIn wsX5_out wsX5_isTune := goodIn_r _ [7] (by decide +kernel) (by decide +kernel)
set_option maxRecDepth 20000 in
theorem gX5_out_X5_isTune : GoodIn wsX5_out (va_wsS RX5 152 yX5_isTune wsX5_isTune) := goodIn_app (goodIn_of _ (by decide +kernel)) ggX5_out_X5_isTune
set_option maxRecDepth 20000 in
theorem ggX5_out_X2_afterTune : GoodIn wsX5_out wsX2_afterTune := goodIn_r _ [11, 12, 13, 14, 15, 16, 17, 18, 19, 20, 21, 22, 9, 23, 24, 25, 26, 27, 28, 29, 30, 31, 32, 33, 34, 35, 36, 37, 38, 39, 40, 41, 42, 43, 44, 45, 46, 47, 48, 49, 50, 51, 52, 53, 54, 55, 56, 57, 78, 79, 80, 81, 82, 83, 84] (by decide +kernel) (by decide +kernel)
set_option maxRecDepth 20000 in
theorem gX5_out_X2_afterTune_n162 : GoodIn wsX5_out (wsX2_afterTune) := ggX5_out_X2_afterTune
set_option maxRecDepth 20000 in
theorem ggX5_out_X1_griefOfAll : GoodIn wsX5_out wsX1_griefOfAll := goodIn_r _ [59, 60, 18, 16, 19, 20] (by decide +kernel) (by decide +kernel)
set_option maxRecDepth 20000 in
theorem gX5_out_X1_griefOfAll_n192 : GoodIn wsX5_out (wsX1_griefOfAll) := ggX5_out_X1_griefOfAll
set_option maxRecDepth 20000 in
theorem ggX5_out_X1_insiders : GoodIn wsX5_out wsX1_insiders := goodIn_r _ [49] (by decide +kernel) (by decide +kernel)
set_option maxRecDepth 20000 in
theorem gX5_out_X1_insiders_n158 : GoodIn wsX5_out (wsX1_insiders) := ggX5_out_X1_insiders
theorem dX5_out_0 : decode cX5_out 0 = .ok (.iload_n 1, 1) := by decide +kernel
theorem dX5_out_1 : decode cX5_out 1 = .ok (.invokestatic 152, 3) := by decide +kernel
theorem dX5_out_4 : decode cX5_out 4 = .ok (.ifCond .ne 5, 3) := by decide +kernel
theorem dX5_out_7 : decode cX5_out 7 = .ok (.iconst (-1), 1) := by decide +kernel
theorem dX5_out_8 : decode cX5_out 8 = .ok (.ireturn, 1) := by decide +kernel
theorem dX5_out_9 : decode cX5_out 9 = .ok (.aload_n 0, 1) := by decide +kernel
theorem dX5_out_10 : decode cX5_out 10 = .ok (.getfield 36, 3) := by decide +kernel
theorem dX5_out_13 : decode cX5_out 13 = .ok (.aload_n 0, 1) := by decide +kernel
theorem dX5_out_14 : decode cX5_out 14 = .ok (.getfield 46, 3) := by decide +kernel
theorem dX5_out_17 : decode cX5_out 17 = .ok (.getfield 127, 3) := by decide +kernel
theorem dX5_out_20 : decode cX5_out 20 = .ok (.iload_n 1, 1) := by decide +kernel
theorem dX5_out_21 : decode cX5_out 21 = .ok (.invokevirtual 162, 3) := by decide +kernel
theorem dX5_out_24 : decode cX5_out 24 = .ok (.lstore_n 2, 1) := by decide +kernel
theorem dX5_out_25 : decode cX5_out 25 = .ok (.aload_n 0, 1) := by decide +kernel
theorem dX5_out_26 : decode cX5_out 26 = .ok (.lload_n 2, 1) := by decide +kernel
theorem dX5_out_27 : decode cX5_out 27 = .ok (.invokestatic 192, 3) := by decide +kernel
theorem dX5_out_30 : decode cX5_out 30 = .ok (.putfield 61, 3) := by decide +kernel
theorem dX5_out_33 : decode cX5_out 33 = .ok (.aload_n 0, 1) := by decide +kernel
theorem dX5_out_34 : decode cX5_out 34 = .ok (.getfield 46, 3) := by decide +kernel
theorem dX5_out_37 : decode cX5_out 37 = .ok (.getfield 127, 3) := by decide +kernel
theorem dX5_out_40 : decode cX5_out 40 = .ok (.invokestatic 158, 3) := by decide +kernel
theorem dX5_out_43 : decode cX5_out 43 = .ok (.lload_n 2, 1) := by decide +kernel
theorem dX5_out_44 : decode cX5_out 44 = .ok (.invokestatic 158, 3) := by decide +kernel
theorem dX5_out_47 : decode cX5_out 47 = .ok (.iconst (-1), 1) := by decide +kernel
theorem dX5_out_48 : decode cX5_out 48 = .ok (.ixor, 1) := by decide +kernel
theorem dX5_out_49 : decode cX5_out 49 = .ok (.iand, 1) := by decide +kernel
theorem dX5_out_50 : decode cX5_out 50 = .ok (.ireturn, 1) := by decide +kernel
set_option maxRecDepth 20000 in
theorem ggX5_safe_X2_afterTune : GoodIn wsX5_safe wsX2_afterTune := goodIn_r _ [6, 7, 8, 9, 10, 11, 12, 13, 14, 15, 16, 17, 4, 18, 19, 20, 21, 22, 23, 24, 25, 26, 27, 28, 29, 30, 31, 32, 33, 34, 35, 36, 37, 38, 39, 40, 41, 42, 43, 44, 45, 46, 47, 48, 49, 50, 51, 52, 67, 68, 69, 70, 71, 72, 73] (by decide +kernel) (by decide +kernel)
set_option maxRecDepth 20000 in
theorem gX5_safe_X2_afterTune_n162 : GoodIn wsX5_safe (wsX2_afterTune) := ggX5_safe_X2_afterTune
set_option maxRecDepth 20000 in
theorem ggX5_safe_X1_insiders : GoodIn wsX5_safe wsX1_insiders := goodIn_r _ [44] (by decide +kernel) (by decide +kernel)
set_option maxRecDepth 20000 in
theorem gX5_safe_X1_insiders_n158 : GoodIn wsX5_safe (wsX1_insiders) := ggX5_safe_X1_insiders
theorem dX5_safe_0 : decode cX5_safe 0 = .ok (.aload_n 0, 1) := by decide +kernel
theorem dX5_safe_1 : decode cX5_safe 1 = .ok (.getfield 36, 3) := by decide +kernel
theorem dX5_safe_4 : decode cX5_safe 4 = .ok (.getfield 111, 3) := by decide +kernel
theorem dX5_safe_7 : decode cX5_safe 7 = .ok (.ifCond .ne 6, 3) := by decide +kernel
theorem dX5_safe_10 : decode cX5_safe 10 = .ok (.bipush (-4), 2) := by decide +kernel
theorem dX5_safe_12 : decode cX5_safe 12 = .ok (.ireturn, 1) := by decide +kernel
theorem dX5_safe_13 : decode cX5_safe 13 = .ok (.iconst 0, 1) := by decide +kernel
theorem dX5_safe_14 : decode cX5_safe 14 = .ok (.istore_n 1, 1) := by decide +kernel
theorem dX5_safe_15 : decode cX5_safe 15 = .ok (.iconst 0, 1) := by decide +kernel
theorem dX5_safe_16 : decode cX5_safe 16 = .ok (.istore_n 2, 1) := by decide +kernel
theorem dX5_safe_17 : decode cX5_safe 17 = .ok (.iload_n 2, 1) := by decide +kernel
theorem dX5_safe_18 : decode cX5_safe 18 = .ok (.iconst 4, 1) := by decide +kernel
theorem dX5_safe_19 : decode cX5_safe 19 = .ok (.if_icmp .ge 46, 3) := by decide +kernel
theorem dX5_safe_22 : decode cX5_safe 22 = .ok (.aload_n 0, 1) := by decide +kernel
theorem dX5_safe_23 : decode cX5_safe 23 = .ok (.getfield 36, 3) := by decide +kernel
theorem dX5_safe_26 : decode cX5_safe 26 = .ok (.aload_n 0, 1) := by decide +kernel
theorem dX5_safe_27 : decode cX5_safe 27 = .ok (.getfield 46, 3) := by decide +kernel
theorem dX5_safe_30 : decode cX5_safe 30 = .ok (.getfield 127, 3) := by decide +kernel
theorem dX5_safe_33 : decode cX5_safe 33 = .ok (.iload_n 2, 1) := by decide +kernel
theorem dX5_safe_34 : decode cX5_safe 34 = .ok (.invokevirtual 162, 3) := by decide +kernel
theorem dX5_safe_37 : decode cX5_safe 37 = .ok (.invokestatic 158, 3) := by decide +kernel
theorem dX5_safe_40 : decode cX5_safe 40 = .ok (.aload_n 0, 1) := by decide +kernel
theorem dX5_safe_41 : decode cX5_safe 41 = .ok (.getfield 46, 3) := by decide +kernel
theorem dX5_safe_44 : decode cX5_safe 44 = .ok (.getfield 127, 3) := by decide +kernel
theorem dX5_safe_47 : decode cX5_safe 47 = .ok (.invokestatic 158, 3) := by decide +kernel
theorem dX5_safe_50 : decode cX5_safe 50 = .ok (.if_icmp .ne 9, 3) := by decide +kernel
theorem dX5_safe_53 : decode cX5_safe 53 = .ok (.iload_n 1, 1) := by decide +kernel
theorem dX5_safe_54 : decode cX5_safe 54 = .ok (.iconst 1, 1) := by decide +kernel
theorem dX5_safe_55 : decode cX5_safe 55 = .ok (.iload_n 2, 1) := by decide +kernel
theorem dX5_safe_56 : decode cX5_safe 56 = .ok (.ishl, 1) := by decide +kernel
theorem dX5_safe_57 : decode cX5_safe 57 = .ok (.ior, 1) := by decide +kernel
theorem dX5_safe_58 : decode cX5_safe 58 = .ok (.istore_n 1, 1) := by decide +kernel
theorem dX5_safe_59 : decode cX5_safe 59 = .ok (.iinc 2 1, 3) := by decide +kernel
theorem dX5_safe_62 : decode cX5_safe 62 = .ok (.goto (-45), 3) := by decide +kernel
theorem dX5_safe_65 : decode cX5_safe 65 = .ok (.iload_n 1, 1) := by decide +kernel
theorem dX5_safe_66 : decode cX5_safe 66 = .ok (.ireturn, 1) := by decide +kernel
set_option maxRecDepth 20000 in
theorem ggX5_falls_X5_isRow : GoodIn wsX5_falls wsX5_isRow := goodIn_r _ [9] (by decide +kernel) (by decide +kernel)
set_option maxRecDepth 20000 in
theorem gX5_falls_X5_isRow : GoodIn wsX5_falls (va_wsS RX5 74 yX5_isRow wsX5_isRow) := goodIn_app (goodIn_of _ (by decide +kernel)) ggX5_falls_X5_isRow
set_option maxRecDepth 20000 in
theorem ggX5_falls_X5_programmeFinding : GoodIn wsX5_falls wsX5_programmeFinding := goodIn_r _ [13, 2, 4, 14, 15, 8, 16, 73, 74, 75, 76, 77, 78, 79, 80, 81, 82, 83, 84, 85, 86] (by decide +kernel) (by decide +kernel)
set_option maxRecDepth 20000 in
theorem gX5_falls_X5_programmeFinding : GoodIn wsX5_falls (wsV RX5 195 RX5 yX5_programmeFinding wsX5_programmeFinding) := goodIn_app (goodIn_of _ (by decide +kernel)) ggX5_falls_X5_programmeFinding
set_option maxRecDepth 20000 in
theorem ggX5_falls_X5_found : GoodIn wsX5_falls wsX5_found := goodIn_r _ [20, 21, 22, 73, 74, 75, 76, 77, 78, 79, 80, 81, 82, 83, 84, 85, 86] (by decide +kernel) (by decide +kernel)
set_option maxRecDepth 20000 in
theorem gX5_falls_X5_found : GoodIn wsX5_falls (wsV RX5 78 RX5 yX5_found wsX5_found) := goodIn_app (goodIn_of _ (by decide +kernel)) ggX5_falls_X5_found
set_option maxRecDepth 20000 in
theorem ggX5_falls_X2_afterTune : GoodIn wsX5_falls wsX2_afterTune := goodIn_r _ [26, 27, 28, 29, 30, 31, 32, 33, 34, 35, 36, 37, 24, 38, 39, 40, 41, 42, 43, 44, 45, 46, 47, 48, 49, 50, 51, 52, 53, 54, 55, 56, 57, 58, 59, 60, 61, 62, 63, 64, 65, 66, 67, 68, 69, 70, 71, 72, 90, 91, 92, 93, 94, 95, 96] (by decide +kernel) (by decide +kernel)
set_option maxRecDepth 20000 in
theorem gX5_falls_X2_afterTune_n162 : GoodIn wsX5_falls (wsX2_afterTune) := ggX5_falls_X2_afterTune
set_option maxRecDepth 20000 in
theorem ggX5_falls_X1_insiders : GoodIn wsX5_falls wsX1_insiders := goodIn_r _ [64] (by decide +kernel) (by decide +kernel)
set_option maxRecDepth 20000 in
theorem gX5_falls_X1_insiders_n158 : GoodIn wsX5_falls (wsX1_insiders) := ggX5_falls_X1_insiders
theorem dX5_falls_0 : decode cX5_falls 0 = .ok (.iload_n 1, 1) := by decide +kernel
theorem dX5_falls_1 : decode cX5_falls 1 = .ok (.invokestatic 74, 3) := by decide +kernel
theorem dX5_falls_4 : decode cX5_falls 4 = .ok (.ifCond .ne 5, 3) := by decide +kernel
theorem dX5_falls_7 : decode cX5_falls 7 = .ok (.iconst (-1), 1) := by decide +kernel
theorem dX5_falls_8 : decode cX5_falls 8 = .ok (.ireturn, 1) := by decide +kernel
theorem dX5_falls_9 : decode cX5_falls 9 = .ok (.aload_n 0, 1) := by decide +kernel
theorem dX5_falls_10 : decode cX5_falls 10 = .ok (.iload_n 1, 1) := by decide +kernel
theorem dX5_falls_11 : decode cX5_falls 11 = .ok (.invokevirtual 195, 3) := by decide +kernel
theorem dX5_falls_14 : decode cX5_falls 14 = .ok (.istore_n 2, 1) := by decide +kernel
theorem dX5_falls_15 : decode cX5_falls 15 = .ok (.iload_n 2, 1) := by decide +kernel
theorem dX5_falls_16 : decode cX5_falls 16 = .ok (.ifCond .eq 9, 3) := by decide +kernel
theorem dX5_falls_19 : decode cX5_falls 19 = .ok (.aload_n 0, 1) := by decide +kernel
theorem dX5_falls_20 : decode cX5_falls 20 = .ok (.iload_n 2, 1) := by decide +kernel
theorem dX5_falls_21 : decode cX5_falls 21 = .ok (.invokevirtual 78, 3) := by decide +kernel
theorem dX5_falls_24 : decode cX5_falls 24 = .ok (.ireturn, 1) := by decide +kernel
theorem dX5_falls_25 : decode cX5_falls 25 = .ok (.aload_n 0, 1) := by decide +kernel
theorem dX5_falls_26 : decode cX5_falls 26 = .ok (.getfield 46, 3) := by decide +kernel
theorem dX5_falls_29 : decode cX5_falls 29 = .ok (.getfield 127, 3) := by decide +kernel
theorem dX5_falls_32 : decode cX5_falls 32 = .ok (.lstore_n 3, 1) := by decide +kernel
theorem dX5_falls_33 : decode cX5_falls 33 = .ok (.iconst 0, 1) := by decide +kernel
theorem dX5_falls_34 : decode cX5_falls 34 = .ok (.istore 5, 2) := by decide +kernel
theorem dX5_falls_36 : decode cX5_falls 36 = .ok (.iload 5, 2) := by decide +kernel
theorem dX5_falls_38 : decode cX5_falls 38 = .ok (.aload_n 0, 1) := by decide +kernel
theorem dX5_falls_39 : decode cX5_falls 39 = .ok (.getfield 14, 3) := by decide +kernel
theorem dX5_falls_42 : decode cX5_falls 42 = .ok (.iload_n 1, 1) := by decide +kernel
theorem dX5_falls_43 : decode cX5_falls 43 = .ok (.iaload, 1) := by decide +kernel
theorem dX5_falls_44 : decode cX5_falls 44 = .ok (.if_icmp .ge 62, 3) := by decide +kernel
theorem dX5_falls_47 : decode cX5_falls 47 = .ok (.aload_n 0, 1) := by decide +kernel
theorem dX5_falls_48 : decode cX5_falls 48 = .ok (.getfield 36, 3) := by decide +kernel
theorem dX5_falls_51 : decode cX5_falls 51 = .ok (.lload_n 3, 1) := by decide +kernel
theorem dX5_falls_52 : decode cX5_falls 52 = .ok (.aload_n 0, 1) := by decide +kernel
theorem dX5_falls_53 : decode cX5_falls 53 = .ok (.getfield 11, 3) := by decide +kernel
theorem dX5_falls_56 : decode cX5_falls 56 = .ok (.iload_n 1, 1) := by decide +kernel
theorem dX5_falls_57 : decode cX5_falls 57 = .ok (.aaload, 1) := by decide +kernel
theorem dX5_falls_58 : decode cX5_falls 58 = .ok (.iload 5, 2) := by decide +kernel
theorem dX5_falls_60 : decode cX5_falls 60 = .ok (.iaload, 1) := by decide +kernel
theorem dX5_falls_61 : decode cX5_falls 61 = .ok (.invokevirtual 162, 3) := by decide +kernel
theorem dX5_falls_64 : decode cX5_falls 64 = .ok (.lstore 6, 2) := by decide +kernel
theorem dX5_falls_66 : decode cX5_falls 66 = .ok (.lload 6, 2) := by decide +kernel
theorem dX5_falls_68 : decode cX5_falls 68 = .ok (.invokestatic 158, 3) := by decide +kernel
theorem dX5_falls_71 : decode cX5_falls 71 = .ok (.lload_n 3, 1) := by decide +kernel
theorem dX5_falls_72 : decode cX5_falls 72 = .ok (.invokestatic 158, 3) := by decide +kernel
theorem dX5_falls_75 : decode cX5_falls 75 = .ok (.if_icmp .eq 22, 3) := by decide +kernel
theorem dX5_falls_78 : decode cX5_falls 78 = .ok (.aload_n 0, 1) := by decide +kernel
theorem dX5_falls_79 : decode cX5_falls 79 = .ok (.lload_n 3, 1) := by decide +kernel
theorem dX5_falls_80 : decode cX5_falls 80 = .ok (.invokestatic 158, 3) := by decide +kernel
theorem dX5_falls_83 : decode cX5_falls 83 = .ok (.lload 6, 2) := by decide +kernel
theorem dX5_falls_85 : decode cX5_falls 85 = .ok (.invokestatic 158, 3) := by decide +kernel
theorem dX5_falls_88 : decode cX5_falls 88 = .ok (.iconst (-1), 1) := by decide +kernel
theorem dX5_falls_89 : decode cX5_falls 89 = .ok (.ixor, 1) := by decide +kernel
theorem dX5_falls_90 : decode cX5_falls 90 = .ok (.iand, 1) := by decide +kernel
theorem dX5_falls_91 : decode cX5_falls 91 = .ok (.putfield 61, 3) := by decide +kernel
theorem dX5_falls_94 : decode cX5_falls 94 = .ok (.iload 5, 2) := by decide +kernel
theorem dX5_falls_96 : decode cX5_falls 96 = .ok (.ireturn, 1) := by decide +kernel
theorem dX5_falls_97 : decode cX5_falls 97 = .ok (.lload 6, 2) := by decide +kernel
theorem dX5_falls_99 : decode cX5_falls 99 = .ok (.lstore_n 3, 1) := by decide +kernel
theorem dX5_falls_100 : decode cX5_falls 100 = .ok (.iinc 5 1, 3) := by decide +kernel
theorem dX5_falls_103 : decode cX5_falls 103 = .ok (.goto (-67), 3) := by decide +kernel
theorem dX5_falls_106 : decode cX5_falls 106 = .ok (.aload_n 0, 1) := by decide +kernel
theorem dX5_falls_107 : decode cX5_falls 107 = .ok (.iconst 0, 1) := by decide +kernel
theorem dX5_falls_108 : decode cX5_falls 108 = .ok (.putfield 61, 3) := by decide +kernel
theorem dX5_falls_111 : decode cX5_falls 111 = .ok (.bipush (-9), 2) := by decide +kernel
theorem dX5_falls_113 : decode cX5_falls 113 = .ok (.ireturn, 1) := by decide +kernel
set_option maxRecDepth 20000 in
theorem ggX5_grief_X5_isGuest : GoodIn wsX5_grief wsX5_isGuest := goodIn_r _ [9, 3, 76, 77, 78, 79, 80, 81, 82, 83, 84, 85, 86, 87, 88, 89, 93, 94, 95, 96, 97, 98, 99] (by decide +kernel) (by decide +kernel)
set_option maxRecDepth 20000 in
theorem gX5_grief_X5_isGuest : GoodIn wsX5_grief (wsV RX5 114 RX5 yX5_isGuest wsX5_isGuest) := goodIn_app (goodIn_of _ (by decide +kernel)) ggX5_grief_X5_isGuest
set_option maxRecDepth 20000 in
theorem ggX5_grief_X5_isRow : GoodIn wsX5_grief wsX5_isRow := goodIn_r _ [12] (by decide +kernel) (by decide +kernel)
set_option maxRecDepth 20000 in
theorem gX5_grief_X5_isRow : GoodIn wsX5_grief (va_wsS RX5 74 yX5_isRow wsX5_isRow) := goodIn_app (goodIn_of _ (by decide +kernel)) ggX5_grief_X5_isRow
set_option maxRecDepth 20000 in
theorem ggX5_grief_X5_programmeFinding : GoodIn wsX5_grief wsX5_programmeFinding := goodIn_r _ [16, 2, 4, 17, 18, 8, 19, 76, 77, 78, 79, 80, 81, 82, 83, 84, 85, 86, 87, 88, 89] (by decide +kernel) (by decide +kernel)
set_option maxRecDepth 20000 in
theorem gX5_grief_X5_programmeFinding : GoodIn wsX5_grief (wsV RX5 195 RX5 yX5_programmeFinding wsX5_programmeFinding) := goodIn_app (goodIn_of _ (by decide +kernel)) ggX5_grief_X5_programmeFinding
set_option maxRecDepth 20000 in
theorem ggX5_grief_X5_found : GoodIn wsX5_grief wsX5_found := goodIn_r _ [23, 24, 25, 76, 77, 78, 79, 80, 81, 82, 83, 84, 85, 86, 87, 88, 89] (by decide +kernel) (by decide +kernel)
set_option maxRecDepth 20000 in
theorem gX5_grief_X5_found : GoodIn wsX5_grief (wsV RX5 78 RX5 yX5_found wsX5_found) := goodIn_app (goodIn_of _ (by decide +kernel)) ggX5_grief_X5_found
set_option maxRecDepth 20000 in
theorem ggX5_grief_X2_afterTune : GoodIn wsX5_grief wsX2_afterTune := goodIn_r _ [29, 30, 31, 32, 33, 34, 35, 36, 37, 38, 39, 40, 27, 41, 42, 43, 44, 45, 46, 47, 48, 49, 50, 51, 52, 53, 54, 55, 56, 57, 58, 59, 60, 61, 62, 63, 64, 65, 66, 67, 68, 69, 70, 71, 72, 73, 74, 75, 93, 94, 95, 96, 97, 98, 99] (by decide +kernel) (by decide +kernel)
set_option maxRecDepth 20000 in
theorem gX5_grief_X2_afterTune_n162 : GoodIn wsX5_grief (wsX2_afterTune) := ggX5_grief_X2_afterTune
set_option maxRecDepth 20000 in
theorem ggX5_grief_X1_griefOf : GoodIn wsX5_grief wsX1_griefOf := goodIn_r _ [37, 38] (by decide +kernel) (by decide +kernel)
set_option maxRecDepth 20000 in
theorem gX5_grief_X1_griefOf_n175 : GoodIn wsX5_grief (wsX1_griefOf) := ggX5_grief_X1_griefOf
theorem dX5_grief_0 : decode cX5_grief 0 = .ok (.aload_n 0, 1) := by decide +kernel
theorem dX5_grief_1 : decode cX5_grief 1 = .ok (.iload_n 1, 1) := by decide +kernel
theorem dX5_grief_2 : decode cX5_grief 2 = .ok (.invokevirtual 114, 3) := by decide +kernel
theorem dX5_grief_5 : decode cX5_grief 5 = .ok (.ifCond .eq 10, 3) := by decide +kernel
theorem dX5_grief_8 : decode cX5_grief 8 = .ok (.iload_n 2, 1) := by decide +kernel
theorem dX5_grief_9 : decode cX5_grief 9 = .ok (.invokestatic 74, 3) := by decide +kernel
theorem dX5_grief_12 : decode cX5_grief 12 = .ok (.ifCond .ne 5, 3) := by decide +kernel
theorem dX5_grief_15 : decode cX5_grief 15 = .ok (.iconst (-1), 1) := by decide +kernel
theorem dX5_grief_16 : decode cX5_grief 16 = .ok (.ireturn, 1) := by decide +kernel
theorem dX5_grief_17 : decode cX5_grief 17 = .ok (.aload_n 0, 1) := by decide +kernel
theorem dX5_grief_18 : decode cX5_grief 18 = .ok (.iload_n 2, 1) := by decide +kernel
theorem dX5_grief_19 : decode cX5_grief 19 = .ok (.invokevirtual 195, 3) := by decide +kernel
theorem dX5_grief_22 : decode cX5_grief 22 = .ok (.istore_n 3, 1) := by decide +kernel
theorem dX5_grief_23 : decode cX5_grief 23 = .ok (.iload_n 3, 1) := by decide +kernel
theorem dX5_grief_24 : decode cX5_grief 24 = .ok (.ifCond .eq 9, 3) := by decide +kernel
theorem dX5_grief_27 : decode cX5_grief 27 = .ok (.aload_n 0, 1) := by decide +kernel
theorem dX5_grief_28 : decode cX5_grief 28 = .ok (.iload_n 3, 1) := by decide +kernel
theorem dX5_grief_29 : decode cX5_grief 29 = .ok (.invokevirtual 78, 3) := by decide +kernel
theorem dX5_grief_32 : decode cX5_grief 32 = .ok (.ireturn, 1) := by decide +kernel
theorem dX5_grief_33 : decode cX5_grief 33 = .ok (.aload_n 0, 1) := by decide +kernel
theorem dX5_grief_34 : decode cX5_grief 34 = .ok (.getfield 46, 3) := by decide +kernel
theorem dX5_grief_37 : decode cX5_grief 37 = .ok (.getfield 127, 3) := by decide +kernel
theorem dX5_grief_40 : decode cX5_grief 40 = .ok (.lstore 4, 2) := by decide +kernel
theorem dX5_grief_42 : decode cX5_grief 42 = .ok (.iconst 0, 1) := by decide +kernel
theorem dX5_grief_43 : decode cX5_grief 43 = .ok (.istore 6, 2) := by decide +kernel
theorem dX5_grief_45 : decode cX5_grief 45 = .ok (.iload 6, 2) := by decide +kernel
theorem dX5_grief_47 : decode cX5_grief 47 = .ok (.aload_n 0, 1) := by decide +kernel
theorem dX5_grief_48 : decode cX5_grief 48 = .ok (.getfield 14, 3) := by decide +kernel
theorem dX5_grief_51 : decode cX5_grief 51 = .ok (.iload_n 2, 1) := by decide +kernel
theorem dX5_grief_52 : decode cX5_grief 52 = .ok (.iaload, 1) := by decide +kernel
theorem dX5_grief_53 : decode cX5_grief 53 = .ok (.if_icmp .ge 29, 3) := by decide +kernel
theorem dX5_grief_56 : decode cX5_grief 56 = .ok (.aload_n 0, 1) := by decide +kernel
theorem dX5_grief_57 : decode cX5_grief 57 = .ok (.getfield 36, 3) := by decide +kernel
theorem dX5_grief_60 : decode cX5_grief 60 = .ok (.lload 4, 2) := by decide +kernel
theorem dX5_grief_62 : decode cX5_grief 62 = .ok (.aload_n 0, 1) := by decide +kernel
theorem dX5_grief_63 : decode cX5_grief 63 = .ok (.getfield 11, 3) := by decide +kernel
theorem dX5_grief_66 : decode cX5_grief 66 = .ok (.iload_n 2, 1) := by decide +kernel
theorem dX5_grief_67 : decode cX5_grief 67 = .ok (.aaload, 1) := by decide +kernel
theorem dX5_grief_68 : decode cX5_grief 68 = .ok (.iload 6, 2) := by decide +kernel
theorem dX5_grief_70 : decode cX5_grief 70 = .ok (.iaload, 1) := by decide +kernel
theorem dX5_grief_71 : decode cX5_grief 71 = .ok (.invokevirtual 162, 3) := by decide +kernel
theorem dX5_grief_74 : decode cX5_grief 74 = .ok (.lstore 4, 2) := by decide +kernel
theorem dX5_grief_76 : decode cX5_grief 76 = .ok (.iinc 6 1, 3) := by decide +kernel
theorem dX5_grief_79 : decode cX5_grief 79 = .ok (.goto (-34), 3) := by decide +kernel
theorem dX5_grief_82 : decode cX5_grief 82 = .ok (.lload 4, 2) := by decide +kernel
theorem dX5_grief_84 : decode cX5_grief 84 = .ok (.iload_n 1, 1) := by decide +kernel
theorem dX5_grief_85 : decode cX5_grief 85 = .ok (.invokestatic 175, 3) := by decide +kernel
theorem dX5_grief_88 : decode cX5_grief 88 = .ok (.ireturn, 1) := by decide +kernel
set_option maxRecDepth 20000 in
theorem ggX5_stay_X5_searchRefusal : GoodIn wsX5_stay wsX5_searchRefusal := goodIn_r _ [10, 1, 68, 69, 70, 71, 72, 73, 74, 75, 76, 77, 78, 79, 80, 81, 85, 86, 87, 88, 89, 90, 91] (by decide +kernel) (by decide +kernel)
set_option maxRecDepth 20000 in
theorem gX5_stay_X5_searchRefusal : GoodIn wsX5_stay (wsV RX5 198 RX5 yX5_searchRefusal wsX5_searchRefusal) := goodIn_app (goodIn_of _ (by decide +kernel)) ggX5_stay_X5_searchRefusal
set_option maxRecDepth 20000 in
theorem ggX5_stay_X3_stayingBehind : GoodIn wsX5_stay wsX3_stayingBehind := goodIn_r _ [13, 14, 15, 16, 17, 18, 19, 20, 21, 22, 23, 24, 25, 26, 27, 28, 29, 30, 31, 32, 33, 34, 35, 36, 37, 38, 39, 40, 41, 42, 43, 44, 45, 46, 47, 48, 49, 50, 51, 52, 53, 54, 55, 56, 57, 58, 59, 60, 61, 62, 63, 64, 65, 12, 66, 67, 11, 85, 86, 87, 88, 89, 90, 91] (by decide +kernel) (by decide +kernel)
set_option maxRecDepth 20000 in
theorem gX5_stay_X3_stayingBehind_n201 : GoodIn wsX5_stay (wsX3_stayingBehind) := ggX5_stay_X3_stayingBehind
theorem dX5_stay_0 : decode cX5_stay 0 = .ok (.aload_n 0, 1) := by decide +kernel
theorem dX5_stay_1 : decode cX5_stay 1 = .ok (.iload_n 1, 1) := by decide +kernel
theorem dX5_stay_2 : decode cX5_stay 2 = .ok (.invokevirtual 198, 3) := by decide +kernel
theorem dX5_stay_5 : decode cX5_stay 5 = .ok (.istore_n 2, 1) := by decide +kernel
theorem dX5_stay_6 : decode cX5_stay 6 = .ok (.iload_n 2, 1) := by decide +kernel
theorem dX5_stay_7 : decode cX5_stay 7 = .ok (.ifCond .eq 5, 3) := by decide +kernel
theorem dX5_stay_10 : decode cX5_stay 10 = .ok (.iload_n 2, 1) := by decide +kernel
theorem dX5_stay_11 : decode cX5_stay 11 = .ok (.ireturn, 1) := by decide +kernel
theorem dX5_stay_12 : decode cX5_stay 12 = .ok (.iload_n 1, 1) := by decide +kernel
theorem dX5_stay_13 : decode cX5_stay 13 = .ok (.ifCond .ne 7, 3) := by decide +kernel
theorem dX5_stay_16 : decode cX5_stay 16 = .ok (.lconst 1, 1) := by decide +kernel
theorem dX5_stay_17 : decode cX5_stay 17 = .ok (.goto 4, 3) := by decide +kernel
theorem dX5_stay_20 : decode cX5_stay 20 = .ok (.lconst 0, 1) := by decide +kernel
theorem dX5_stay_21 : decode cX5_stay 21 = .ok (.lstore_n 3, 1) := by decide +kernel
theorem dX5_stay_22 : decode cX5_stay 22 = .ok (.iconst 0, 1) := by decide +kernel
theorem dX5_stay_23 : decode cX5_stay 23 = .ok (.istore 5, 2) := by decide +kernel
theorem dX5_stay_25 : decode cX5_stay 25 = .ok (.iconst 0, 1) := by decide +kernel
theorem dX5_stay_26 : decode cX5_stay 26 = .ok (.istore 6, 2) := by decide +kernel
theorem dX5_stay_28 : decode cX5_stay 28 = .ok (.iload 6, 2) := by decide +kernel
theorem dX5_stay_30 : decode cX5_stay 30 = .ok (.iconst 4, 1) := by decide +kernel
theorem dX5_stay_31 : decode cX5_stay 31 = .ok (.if_icmp .ge 55, 3) := by decide +kernel
theorem dX5_stay_34 : decode cX5_stay 34 = .ok (.iload_n 1, 1) := by decide +kernel
theorem dX5_stay_35 : decode cX5_stay 35 = .ok (.ifCond .le 51, 3) := by decide +kernel
theorem dX5_stay_38 : decode cX5_stay 38 = .ok (.aload_n 0, 1) := by decide +kernel
theorem dX5_stay_39 : decode cX5_stay 39 = .ok (.getfield 36, 3) := by decide +kernel
theorem dX5_stay_42 : decode cX5_stay 42 = .ok (.aload_n 0, 1) := by decide +kernel
theorem dX5_stay_43 : decode cX5_stay 43 = .ok (.getfield 46, 3) := by decide +kernel
theorem dX5_stay_46 : decode cX5_stay 46 = .ok (.getfield 127, 3) := by decide +kernel
theorem dX5_stay_49 : decode cX5_stay 49 = .ok (.iload 6, 2) := by decide +kernel
theorem dX5_stay_51 : decode cX5_stay 51 = .ok (.iload_n 1, 1) := by decide +kernel
theorem dX5_stay_52 : decode cX5_stay 52 = .ok (.iconst 1, 1) := by decide +kernel
theorem dX5_stay_53 : decode cX5_stay 53 = .ok (.isub, 1) := by decide +kernel
theorem dX5_stay_54 : decode cX5_stay 54 = .ok (.invokestatic 201, 3) := by decide +kernel
theorem dX5_stay_57 : decode cX5_stay 57 = .ok (.lstore 7, 2) := by decide +kernel
theorem dX5_stay_59 : decode cX5_stay 59 = .ok (.lload_n 3, 1) := by decide +kernel
theorem dX5_stay_60 : decode cX5_stay 60 = .ok (.lload 7, 2) := by decide +kernel
theorem dX5_stay_62 : decode cX5_stay 62 = .ok (.ladd, 1) := by decide +kernel
theorem dX5_stay_63 : decode cX5_stay 63 = .ok (.lstore_n 3, 1) := by decide +kernel
theorem dX5_stay_64 : decode cX5_stay 64 = .ok (.lload 7, 2) := by decide +kernel
theorem dX5_stay_66 : decode cX5_stay 66 = .ok (.lconst 0, 1) := by decide +kernel
theorem dX5_stay_67 : decode cX5_stay 67 = .ok (.lcmp, 1) := by decide +kernel
theorem dX5_stay_68 : decode cX5_stay 68 = .ok (.ifCond .le 12, 3) := by decide +kernel
theorem dX5_stay_71 : decode cX5_stay 71 = .ok (.iload 5, 2) := by decide +kernel
theorem dX5_stay_73 : decode cX5_stay 73 = .ok (.iconst 1, 1) := by decide +kernel
theorem dX5_stay_74 : decode cX5_stay 74 = .ok (.iload 6, 2) := by decide +kernel
theorem dX5_stay_76 : decode cX5_stay 76 = .ok (.ishl, 1) := by decide +kernel
theorem dX5_stay_77 : decode cX5_stay 77 = .ok (.ior, 1) := by decide +kernel
theorem dX5_stay_78 : decode cX5_stay 78 = .ok (.istore 5, 2) := by decide +kernel
theorem dX5_stay_80 : decode cX5_stay 80 = .ok (.iinc 6 1, 3) := by decide +kernel
theorem dX5_stay_83 : decode cX5_stay 83 = .ok (.goto (-55), 3) := by decide +kernel
theorem dX5_stay_86 : decode cX5_stay 86 = .ok (.aload_n 0, 1) := by decide +kernel
theorem dX5_stay_87 : decode cX5_stay 87 = .ok (.iload 5, 2) := by decide +kernel
theorem dX5_stay_89 : decode cX5_stay 89 = .ok (.putfield 61, 3) := by decide +kernel
theorem dX5_stay_92 : decode cX5_stay 92 = .ok (.aload_n 0, 1) := by decide +kernel
theorem dX5_stay_93 : decode cX5_stay 93 = .ok (.lload_n 3, 1) := by decide +kernel
theorem dX5_stay_94 : decode cX5_stay 94 = .ok (.putfield 64, 3) := by decide +kernel
theorem dX5_stay_97 : decode cX5_stay 97 = .ok (.aload_n 0, 1) := by decide +kernel
theorem dX5_stay_98 : decode cX5_stay 98 = .ok (.lconst 1, 1) := by decide +kernel
theorem dX5_stay_99 : decode cX5_stay 99 = .ok (.putfield 68, 3) := by decide +kernel
theorem dX5_stay_102 : decode cX5_stay 102 = .ok (.iconst 1, 1) := by decide +kernel
theorem dX5_stay_103 : decode cX5_stay 103 = .ok (.ireturn, 1) := by decide +kernel
set_option maxRecDepth 20000 in
theorem ggX5_first_X5_isRow : GoodIn wsX5_first wsX5_isRow := goodIn_r _ [6] (by decide +kernel) (by decide +kernel)
set_option maxRecDepth 20000 in
theorem gX5_first_X5_isRow : GoodIn wsX5_first (va_wsS RX5 74 yX5_isRow wsX5_isRow) := goodIn_app (goodIn_of _ (by decide +kernel)) ggX5_first_X5_isRow
set_option maxRecDepth 20000 in
theorem ggX5_first_X5_searchRefusal : GoodIn wsX5_first wsX5_searchRefusal := goodIn_r _ [10, 1, 85, 86, 87, 88, 89, 90, 91, 92, 93, 94, 95, 96, 97, 98, 102, 103, 104, 105, 106, 107, 108] (by decide +kernel) (by decide +kernel)
set_option maxRecDepth 20000 in
theorem gX5_first_X5_searchRefusal : GoodIn wsX5_first (wsV RX5 198 RX5 yX5_searchRefusal wsX5_searchRefusal) := goodIn_app (goodIn_of _ (by decide +kernel)) ggX5_first_X5_searchRefusal
set_option maxRecDepth 20000 in
theorem ggX5_first_X1_howManyIn : GoodIn wsX5_first wsX1_howManyIn := goodIn_r _ [13, 14, 15, 12, 16, 17, 18, 19, 20, 21, 22, 23] (by decide +kernel) (by decide +kernel)
set_option maxRecDepth 20000 in
theorem gX5_first_X1_howManyIn_n207 : GoodIn wsX5_first (wsX1_howManyIn) := ggX5_first_X1_howManyIn
set_option maxRecDepth 20000 in
theorem ggX5_first_X3_firstLeaving : GoodIn wsX5_first wsX3_firstLeaving := goodIn_r _ [26, 11, 12, 13, 14, 15, 16, 17, 18, 19, 20, 21, 22, 23, 27, 28, 29, 30, 31, 32, 33, 34, 35, 36, 37, 38, 39, 40, 41, 42, 43, 44, 45, 46, 47, 48, 49, 50, 51, 52, 53, 54, 55, 56, 57, 58, 59, 60, 61, 62, 63, 64, 65, 66, 67, 68, 69, 70, 71, 72, 73, 74, 24, 25, 102, 103, 104, 105, 106, 107, 108] (by decide +kernel) (by decide +kernel)
set_option maxRecDepth 20000 in
theorem gX5_first_X3_firstLeaving_n210 : GoodIn wsX5_first (wsX3_firstLeaving) := ggX5_first_X3_firstLeaving
set_option maxRecDepth 20000 in
theorem ggX5_first_X5_makeProgramme : GoodIn wsX5_first wsX5_makeProgramme := goodIn_r _ [78, 79, 80, 81, 82, 5, 83, 84, 85, 86, 87, 88, 89, 90, 91, 92, 93, 94, 95, 96, 97, 98] (by decide +kernel) (by decide +kernel)
set_option maxRecDepth 20000 in
theorem gX5_first_X5_makeProgramme : GoodIn wsX5_first (wsV RX5 214 RX5 yX5_makeProgramme wsX5_makeProgramme) := goodIn_app (goodIn_of _ (by decide +kernel)) ggX5_first_X5_makeProgramme
theorem dX5_first_0 : decode cX5_first 0 = .ok (.iload_n 2, 1) := by decide +kernel
theorem dX5_first_1 : decode cX5_first 1 = .ok (.invokestatic 74, 3) := by decide +kernel
theorem dX5_first_4 : decode cX5_first 4 = .ok (.ifCond .eq 11, 3) := by decide +kernel
theorem dX5_first_7 : decode cX5_first 7 = .ok (.aload_n 0, 1) := by decide +kernel
theorem dX5_first_8 : decode cX5_first 8 = .ok (.iload_n 1, 1) := by decide +kernel
theorem dX5_first_9 : decode cX5_first 9 = .ok (.invokevirtual 198, 3) := by decide +kernel
theorem dX5_first_12 : decode cX5_first 12 = .ok (.goto 4, 3) := by decide +kernel
theorem dX5_first_15 : decode cX5_first 15 = .ok (.iconst (-1), 1) := by decide +kernel
theorem dX5_first_16 : decode cX5_first 16 = .ok (.istore_n 3, 1) := by decide +kernel
theorem dX5_first_17 : decode cX5_first 17 = .ok (.iload_n 3, 1) := by decide +kernel
theorem dX5_first_18 : decode cX5_first 18 = .ok (.ifCond .eq 5, 3) := by decide +kernel
theorem dX5_first_21 : decode cX5_first 21 = .ok (.iload_n 3, 1) := by decide +kernel
theorem dX5_first_22 : decode cX5_first 22 = .ok (.ireturn, 1) := by decide +kernel
theorem dX5_first_23 : decode cX5_first 23 = .ok (.aload_n 0, 1) := by decide +kernel
theorem dX5_first_24 : decode cX5_first 24 = .ok (.getfield 36, 3) := by decide +kernel
theorem dX5_first_27 : decode cX5_first 27 = .ok (.aload_n 0, 1) := by decide +kernel
theorem dX5_first_28 : decode cX5_first 28 = .ok (.getfield 46, 3) := by decide +kernel
theorem dX5_first_31 : decode cX5_first 31 = .ok (.getfield 127, 3) := by decide +kernel
theorem dX5_first_34 : decode cX5_first 34 = .ok (.iload_n 1, 1) := by decide +kernel
theorem dX5_first_35 : decode cX5_first 35 = .ok (.aload_n 0, 1) := by decide +kernel
theorem dX5_first_36 : decode cX5_first 36 = .ok (.getfield 46, 3) := by decide +kernel
theorem dX5_first_39 : decode cX5_first 39 = .ok (.getfield 127, 3) := by decide +kernel
theorem dX5_first_42 : decode cX5_first 42 = .ok (.invokestatic 207, 3) := by decide +kernel
theorem dX5_first_45 : decode cX5_first 45 = .ok (.iconst 0, 1) := by decide +kernel
theorem dX5_first_46 : decode cX5_first 46 = .ok (.invokestatic 210, 3) := by decide +kernel
theorem dX5_first_49 : decode cX5_first 49 = .ok (.istore 4, 2) := by decide +kernel
theorem dX5_first_51 : decode cX5_first 51 = .ok (.iload 4, 2) := by decide +kernel
theorem dX5_first_53 : decode cX5_first 53 = .ok (.bipush (-9), 2) := by decide +kernel
theorem dX5_first_55 : decode cX5_first 55 = .ok (.if_icmp .ne 6, 3) := by decide +kernel
theorem dX5_first_58 : decode cX5_first 58 = .ok (.bipush (-9), 2) := by decide +kernel
theorem dX5_first_60 : decode cX5_first 60 = .ok (.ireturn, 1) := by decide +kernel
theorem dX5_first_61 : decode cX5_first 61 = .ok (.aload_n 0, 1) := by decide +kernel
theorem dX5_first_62 : decode cX5_first 62 = .ok (.iload_n 2, 1) := by decide +kernel
theorem dX5_first_63 : decode cX5_first 63 = .ok (.iload_n 1, 1) := by decide +kernel
theorem dX5_first_64 : decode cX5_first 64 = .ok (.iload 4, 2) := by decide +kernel
theorem dX5_first_66 : decode cX5_first 66 = .ok (.invokevirtual 214, 3) := by decide +kernel
theorem dX5_first_69 : decode cX5_first 69 = .ok (.iload_n 1, 1) := by decide +kernel
theorem dX5_first_70 : decode cX5_first 70 = .ok (.ireturn, 1) := by decide +kernel
set_option maxRecDepth 20000 in
theorem ggX5_fewest_X5_isRow : GoodIn wsX5_fewest wsX5_isRow := goodIn_r _ [6] (by decide +kernel) (by decide +kernel)
set_option maxRecDepth 20000 in
theorem gX5_fewest_X5_isRow : GoodIn wsX5_fewest (va_wsS RX5 74 yX5_isRow wsX5_isRow) := goodIn_app (goodIn_of _ (by decide +kernel)) ggX5_fewest_X5_isRow
set_option maxRecDepth 20000 in
theorem ggX5_fewest_X5_searchRefusal : GoodIn wsX5_fewest wsX5_searchRefusal := goodIn_r _ [10, 1, 89, 90, 91, 92, 93, 94, 95, 96, 97, 98, 99, 100, 101, 102, 106, 107, 108, 109, 110, 111, 112] (by decide +kernel) (by decide +kernel)
set_option maxRecDepth 20000 in
theorem gX5_fewest_X5_searchRefusal : GoodIn wsX5_fewest (wsV RX5 198 RX5 yX5_searchRefusal wsX5_searchRefusal) := goodIn_app (goodIn_of _ (by decide +kernel)) ggX5_fewest_X5_searchRefusal
set_option maxRecDepth 20000 in
theorem ggX5_fewest_X3_mostLeft : GoodIn wsX5_fewest wsX3_mostLeft := goodIn_r _ [13, 14, 15, 16, 17, 18, 19, 20, 21, 22, 23, 24, 25, 26, 27, 28, 29, 30, 31, 32, 33, 34, 35, 36, 37, 38, 39, 40, 41, 42, 43, 44, 45, 46, 47, 48, 49, 50, 51, 52, 53, 54, 55, 56, 57, 58, 59, 60, 61, 62, 63, 64, 65, 66, 67, 68, 69, 70, 71, 72, 73, 74, 75, 11, 12, 106, 107, 108, 109, 110, 111, 112] (by decide +kernel) (by decide +kernel)
set_option maxRecDepth 20000 in
theorem gX5_fewest_X3_mostLeft_n218 : GoodIn wsX5_fewest (wsX3_mostLeft) := ggX5_fewest_X3_mostLeft
set_option maxRecDepth 20000 in
theorem ggX5_fewest_X3_firstLeaving : GoodIn wsX5_fewest wsX3_firstLeaving := goodIn_r _ [77, 18, 19, 20, 21, 22, 23, 24, 25, 26, 27, 28, 29, 30, 31, 32, 33, 34, 35, 36, 37, 38, 39, 40, 41, 42, 43, 44, 45, 46, 47, 48, 49, 50, 16, 51, 52, 53, 54, 55, 56, 57, 58, 15, 17, 59, 60, 61, 62, 63, 64, 65, 66, 67, 68, 69, 70, 71, 72, 73, 74, 78, 76, 12, 106, 107, 108, 109, 110, 111, 112] (by decide +kernel) (by decide +kernel)
set_option maxRecDepth 20000 in
theorem gX5_fewest_X3_firstLeaving_n210 : GoodIn wsX5_fewest (wsX3_firstLeaving) := ggX5_fewest_X3_firstLeaving
set_option maxRecDepth 20000 in
theorem ggX5_fewest_X5_makeProgramme : GoodIn wsX5_fewest wsX5_makeProgramme := goodIn_r _ [82, 83, 84, 85, 86, 5, 87, 88, 89, 90, 91, 92, 93, 94, 95, 96, 97, 98, 99, 100, 101, 102] (by decide +kernel) (by decide +kernel)
set_option maxRecDepth 20000 in
theorem gX5_fewest_X5_makeProgramme : GoodIn wsX5_fewest (wsV RX5 214 RX5 yX5_makeProgramme wsX5_makeProgramme) := goodIn_app (goodIn_of _ (by decide +kernel)) ggX5_fewest_X5_makeProgramme
set_option maxRecDepth 20000 in
theorem ggX5_fewest_X1_howManyIn : GoodIn wsX5_fewest wsX1_howManyIn := goodIn_r _ [20, 21, 22, 19, 23, 24, 25, 26, 27, 28, 29, 30] (by decide +kernel) (by decide +kernel)
set_option maxRecDepth 20000 in
theorem gX5_fewest_X1_howManyIn_n207 : GoodIn wsX5_fewest (wsX1_howManyIn) := ggX5_fewest_X1_howManyIn
theorem dX5_fewest_0 : decode cX5_fewest 0 = .ok (.iload_n 2, 1) := by decide +kernel
theorem dX5_fewest_1 : decode cX5_fewest 1 = .ok (.invokestatic 74, 3) := by decide +kernel
theorem dX5_fewest_4 : decode cX5_fewest 4 = .ok (.ifCond .eq 11, 3) := by decide +kernel
theorem dX5_fewest_7 : decode cX5_fewest 7 = .ok (.aload_n 0, 1) := by decide +kernel
theorem dX5_fewest_8 : decode cX5_fewest 8 = .ok (.iload_n 1, 1) := by decide +kernel
theorem dX5_fewest_9 : decode cX5_fewest 9 = .ok (.invokevirtual 198, 3) := by decide +kernel
theorem dX5_fewest_12 : decode cX5_fewest 12 = .ok (.goto 4, 3) := by decide +kernel
theorem dX5_fewest_15 : decode cX5_fewest 15 = .ok (.iconst (-1), 1) := by decide +kernel
theorem dX5_fewest_16 : decode cX5_fewest 16 = .ok (.istore_n 3, 1) := by decide +kernel
theorem dX5_fewest_17 : decode cX5_fewest 17 = .ok (.iload_n 3, 1) := by decide +kernel
theorem dX5_fewest_18 : decode cX5_fewest 18 = .ok (.ifCond .eq 5, 3) := by decide +kernel
theorem dX5_fewest_21 : decode cX5_fewest 21 = .ok (.iload_n 3, 1) := by decide +kernel
theorem dX5_fewest_22 : decode cX5_fewest 22 = .ok (.ireturn, 1) := by decide +kernel
theorem dX5_fewest_23 : decode cX5_fewest 23 = .ok (.aload_n 0, 1) := by decide +kernel
theorem dX5_fewest_24 : decode cX5_fewest 24 = .ok (.getfield 36, 3) := by decide +kernel
theorem dX5_fewest_27 : decode cX5_fewest 27 = .ok (.aload_n 0, 1) := by decide +kernel
theorem dX5_fewest_28 : decode cX5_fewest 28 = .ok (.getfield 46, 3) := by decide +kernel
theorem dX5_fewest_31 : decode cX5_fewest 31 = .ok (.getfield 127, 3) := by decide +kernel
theorem dX5_fewest_34 : decode cX5_fewest 34 = .ok (.iload_n 1, 1) := by decide +kernel
theorem dX5_fewest_35 : decode cX5_fewest 35 = .ok (.invokestatic 218, 3) := by decide +kernel
theorem dX5_fewest_38 : decode cX5_fewest 38 = .ok (.istore 4, 2) := by decide +kernel
theorem dX5_fewest_40 : decode cX5_fewest 40 = .ok (.aload_n 0, 1) := by decide +kernel
theorem dX5_fewest_41 : decode cX5_fewest 41 = .ok (.iload_n 2, 1) := by decide +kernel
theorem dX5_fewest_42 : decode cX5_fewest 42 = .ok (.iload_n 1, 1) := by decide +kernel
theorem dX5_fewest_43 : decode cX5_fewest 43 = .ok (.aload_n 0, 1) := by decide +kernel
theorem dX5_fewest_44 : decode cX5_fewest 44 = .ok (.getfield 36, 3) := by decide +kernel
theorem dX5_fewest_47 : decode cX5_fewest 47 = .ok (.aload_n 0, 1) := by decide +kernel
theorem dX5_fewest_48 : decode cX5_fewest 48 = .ok (.getfield 46, 3) := by decide +kernel
theorem dX5_fewest_51 : decode cX5_fewest 51 = .ok (.getfield 127, 3) := by decide +kernel
theorem dX5_fewest_54 : decode cX5_fewest 54 = .ok (.iload_n 1, 1) := by decide +kernel
theorem dX5_fewest_55 : decode cX5_fewest 55 = .ok (.iload 4, 2) := by decide +kernel
theorem dX5_fewest_57 : decode cX5_fewest 57 = .ok (.iconst 0, 1) := by decide +kernel
theorem dX5_fewest_58 : decode cX5_fewest 58 = .ok (.invokestatic 210, 3) := by decide +kernel
theorem dX5_fewest_61 : decode cX5_fewest 61 = .ok (.invokevirtual 214, 3) := by decide +kernel
theorem dX5_fewest_64 : decode cX5_fewest 64 = .ok (.aload_n 0, 1) := by decide +kernel
theorem dX5_fewest_65 : decode cX5_fewest 65 = .ok (.getfield 46, 3) := by decide +kernel
theorem dX5_fewest_68 : decode cX5_fewest 68 = .ok (.getfield 127, 3) := by decide +kernel
theorem dX5_fewest_71 : decode cX5_fewest 71 = .ok (.invokestatic 207, 3) := by decide +kernel
theorem dX5_fewest_74 : decode cX5_fewest 74 = .ok (.iload 4, 2) := by decide +kernel
theorem dX5_fewest_76 : decode cX5_fewest 76 = .ok (.isub, 1) := by decide +kernel
theorem dX5_fewest_77 : decode cX5_fewest 77 = .ok (.ireturn, 1) := by decide +kernel
set_option maxRecDepth 20000 in
theorem ggX5_gay_X3_canCheerAll : GoodIn wsX5_gay wsX3_canCheerAll := goodIn_r _ [5, 6, 7, 8, 9, 10, 11, 12, 13, 14, 15, 16, 17, 18, 19, 20, 21, 22, 23, 24, 25, 26, 27, 28, 29, 30, 31, 32, 33, 34, 35, 36, 37, 38, 39, 40, 41, 42, 43, 44, 45, 46, 47, 48, 49, 50, 51, 52, 53, 54, 55, 56, 57, 58, 59, 3, 4, 74, 75, 76, 77, 78, 79, 80] (by decide +kernel) (by decide +kernel)
set_option maxRecDepth 20000 in
theorem gX5_gay_X3_canCheerAll_n222 : GoodIn wsX5_gay (wsX3_canCheerAll) := ggX5_gay_X3_canCheerAll
theorem dX5_gay_0 : decode cX5_gay 0 = .ok (.aload_n 0, 1) := by decide +kernel
theorem dX5_gay_1 : decode cX5_gay 1 = .ok (.getfield 36, 3) := by decide +kernel
theorem dX5_gay_4 : decode cX5_gay 4 = .ok (.getfield 111, 3) := by decide +kernel
theorem dX5_gay_7 : decode cX5_gay 7 = .ok (.ifCond .ne 6, 3) := by decide +kernel
theorem dX5_gay_10 : decode cX5_gay 10 = .ok (.bipush (-4), 2) := by decide +kernel
theorem dX5_gay_12 : decode cX5_gay 12 = .ok (.ireturn, 1) := by decide +kernel
theorem dX5_gay_13 : decode cX5_gay 13 = .ok (.iconst 0, 1) := by decide +kernel
theorem dX5_gay_14 : decode cX5_gay 14 = .ok (.istore_n 1, 1) := by decide +kernel
theorem dX5_gay_15 : decode cX5_gay 15 = .ok (.iload_n 1, 1) := by decide +kernel
theorem dX5_gay_16 : decode cX5_gay 16 = .ok (.bipush 6, 2) := by decide +kernel
theorem dX5_gay_18 : decode cX5_gay 18 = .ok (.if_icmp .gt 29, 3) := by decide +kernel
theorem dX5_gay_21 : decode cX5_gay 21 = .ok (.aload_n 0, 1) := by decide +kernel
theorem dX5_gay_22 : decode cX5_gay 22 = .ok (.getfield 36, 3) := by decide +kernel
theorem dX5_gay_25 : decode cX5_gay 25 = .ok (.aload_n 0, 1) := by decide +kernel
theorem dX5_gay_26 : decode cX5_gay 26 = .ok (.getfield 46, 3) := by decide +kernel
theorem dX5_gay_29 : decode cX5_gay 29 = .ok (.getfield 127, 3) := by decide +kernel
theorem dX5_gay_32 : decode cX5_gay 32 = .ok (.iload_n 1, 1) := by decide +kernel
theorem dX5_gay_33 : decode cX5_gay 33 = .ok (.invokestatic 222, 3) := by decide +kernel
theorem dX5_gay_36 : decode cX5_gay 36 = .ok (.ifCond .eq 5, 3) := by decide +kernel
theorem dX5_gay_39 : decode cX5_gay 39 = .ok (.iload_n 1, 1) := by decide +kernel
theorem dX5_gay_40 : decode cX5_gay 40 = .ok (.ireturn, 1) := by decide +kernel
theorem dX5_gay_41 : decode cX5_gay 41 = .ok (.iinc 1 1, 3) := by decide +kernel
theorem dX5_gay_44 : decode cX5_gay 44 = .ok (.goto (-29), 3) := by decide +kernel
theorem dX5_gay_47 : decode cX5_gay 47 = .ok (.bipush (-9), 2) := by decide +kernel
theorem dX5_gay_49 : decode cX5_gay 49 = .ok (.ireturn, 1) := by decide +kernel
set_option maxRecDepth 20000 in
theorem ggX5_ices_X5_isRow : GoodIn wsX5_ices wsX5_isRow := goodIn_r _ [5] (by decide +kernel) (by decide +kernel)
set_option maxRecDepth 20000 in
theorem gX5_ices_X5_isRow : GoodIn wsX5_ices (va_wsS RX5 74 yX5_isRow wsX5_isRow) := goodIn_app (goodIn_of _ (by decide +kernel)) ggX5_ices_X5_isRow
set_option maxRecDepth 20000 in
theorem ggX5_ices_X5_programmeFinding : GoodIn wsX5_ices wsX5_programmeFinding := goodIn_r _ [9, 10, 11, 12, 13, 4, 14, 62, 63, 64, 65, 66, 67, 68, 69, 70, 71, 72, 73, 74, 75] (by decide +kernel) (by decide +kernel)
set_option maxRecDepth 20000 in
theorem gX5_ices_X5_programmeFinding : GoodIn wsX5_ices (wsV RX5 195 RX5 yX5_programmeFinding wsX5_programmeFinding) := goodIn_app (goodIn_of _ (by decide +kernel)) ggX5_ices_X5_programmeFinding
set_option maxRecDepth 20000 in
theorem ggX5_ices_X5_found : GoodIn wsX5_ices wsX5_found := goodIn_r _ [18, 19, 20, 62, 63, 64, 65, 66, 67, 68, 69, 70, 71, 72, 73, 74, 75] (by decide +kernel) (by decide +kernel)
set_option maxRecDepth 20000 in
theorem gX5_ices_X5_found : GoodIn wsX5_ices (wsV RX5 78 RX5 yX5_found wsX5_found) := goodIn_app (goodIn_of _ (by decide +kernel)) ggX5_ices_X5_found
set_option maxRecDepth 20000 in
theorem ggX5_ices_X5_icesNeededBy : GoodIn wsX5_ices wsX5_icesNeededBy := goodIn_r _ [24, 1, 25, 11, 10, 26, 27, 28, 29, 30, 31, 32, 33, 34, 35, 36, 37, 38, 39, 40, 41, 42, 43, 44, 45, 46, 47, 48, 49, 50, 51, 52, 53, 54, 55, 56, 57, 58, 59, 60, 61, 62, 63, 64, 65, 66, 67, 68, 69, 70, 71, 72, 73, 74, 75, 83, 84, 85, 76, 77, 78, 79, 80, 81, 82] (by decide +kernel) (by decide +kernel)
set_option maxRecDepth 20000 in
theorem gX5_ices_X5_icesNeededBy : GoodIn wsX5_ices (wsV RX5 226 RX5 yX5_icesNeededBy wsX5_icesNeededBy) := goodIn_app (goodIn_of _ (by decide +kernel)) ggX5_ices_X5_icesNeededBy
theorem dX5_ices_0 : decode cX5_ices 0 = .ok (.iload_n 1, 1) := by decide +kernel
theorem dX5_ices_1 : decode cX5_ices 1 = .ok (.invokestatic 74, 3) := by decide +kernel
theorem dX5_ices_4 : decode cX5_ices 4 = .ok (.ifCond .ne 5, 3) := by decide +kernel
theorem dX5_ices_7 : decode cX5_ices 7 = .ok (.iconst (-1), 1) := by decide +kernel
theorem dX5_ices_8 : decode cX5_ices 8 = .ok (.ireturn, 1) := by decide +kernel
theorem dX5_ices_9 : decode cX5_ices 9 = .ok (.aload_n 0, 1) := by decide +kernel
theorem dX5_ices_10 : decode cX5_ices 10 = .ok (.getfield 36, 3) := by decide +kernel
theorem dX5_ices_13 : decode cX5_ices 13 = .ok (.getfield 111, 3) := by decide +kernel
theorem dX5_ices_16 : decode cX5_ices 16 = .ok (.ifCond .ne 6, 3) := by decide +kernel
theorem dX5_ices_19 : decode cX5_ices 19 = .ok (.bipush (-4), 2) := by decide +kernel
theorem dX5_ices_21 : decode cX5_ices 21 = .ok (.ireturn, 1) := by decide +kernel
theorem dX5_ices_22 : decode cX5_ices 22 = .ok (.aload_n 0, 1) := by decide +kernel
theorem dX5_ices_23 : decode cX5_ices 23 = .ok (.iload_n 1, 1) := by decide +kernel
theorem dX5_ices_24 : decode cX5_ices 24 = .ok (.invokevirtual 195, 3) := by decide +kernel
theorem dX5_ices_27 : decode cX5_ices 27 = .ok (.istore_n 2, 1) := by decide +kernel
theorem dX5_ices_28 : decode cX5_ices 28 = .ok (.iload_n 2, 1) := by decide +kernel
theorem dX5_ices_29 : decode cX5_ices 29 = .ok (.ifCond .eq 9, 3) := by decide +kernel
theorem dX5_ices_32 : decode cX5_ices 32 = .ok (.aload_n 0, 1) := by decide +kernel
theorem dX5_ices_33 : decode cX5_ices 33 = .ok (.iload_n 2, 1) := by decide +kernel
theorem dX5_ices_34 : decode cX5_ices 34 = .ok (.invokevirtual 78, 3) := by decide +kernel
theorem dX5_ices_37 : decode cX5_ices 37 = .ok (.ireturn, 1) := by decide +kernel
theorem dX5_ices_38 : decode cX5_ices 38 = .ok (.iconst 0, 1) := by decide +kernel
theorem dX5_ices_39 : decode cX5_ices 39 = .ok (.istore_n 3, 1) := by decide +kernel
theorem dX5_ices_40 : decode cX5_ices 40 = .ok (.iconst 0, 1) := by decide +kernel
theorem dX5_ices_41 : decode cX5_ices 41 = .ok (.istore 4, 2) := by decide +kernel
theorem dX5_ices_43 : decode cX5_ices 43 = .ok (.iload 4, 2) := by decide +kernel
theorem dX5_ices_45 : decode cX5_ices 45 = .ok (.aload_n 0, 1) := by decide +kernel
theorem dX5_ices_46 : decode cX5_ices 46 = .ok (.getfield 36, 3) := by decide +kernel
theorem dX5_ices_49 : decode cX5_ices 49 = .ok (.getfield 111, 3) := by decide +kernel
theorem dX5_ices_52 : decode cX5_ices 52 = .ok (.if_icmp .ge 33, 3) := by decide +kernel
theorem dX5_ices_55 : decode cX5_ices 55 = .ok (.aload_n 0, 1) := by decide +kernel
theorem dX5_ices_56 : decode cX5_ices 56 = .ok (.iload 4, 2) := by decide +kernel
theorem dX5_ices_58 : decode cX5_ices 58 = .ok (.iload_n 1, 1) := by decide +kernel
theorem dX5_ices_59 : decode cX5_ices 59 = .ok (.invokevirtual 226, 3) := by decide +kernel
theorem dX5_ices_62 : decode cX5_ices 62 = .ok (.istore 5, 2) := by decide +kernel
theorem dX5_ices_64 : decode cX5_ices 64 = .ok (.iload 5, 2) := by decide +kernel
theorem dX5_ices_66 : decode cX5_ices 66 = .ok (.bipush (-9), 2) := by decide +kernel
theorem dX5_ices_68 : decode cX5_ices 68 = .ok (.if_icmp .ne 6, 3) := by decide +kernel
theorem dX5_ices_71 : decode cX5_ices 71 = .ok (.bipush (-9), 2) := by decide +kernel
theorem dX5_ices_73 : decode cX5_ices 73 = .ok (.ireturn, 1) := by decide +kernel
theorem dX5_ices_74 : decode cX5_ices 74 = .ok (.iload_n 3, 1) := by decide +kernel
theorem dX5_ices_75 : decode cX5_ices 75 = .ok (.iload 5, 2) := by decide +kernel
theorem dX5_ices_77 : decode cX5_ices 77 = .ok (.iadd, 1) := by decide +kernel
theorem dX5_ices_78 : decode cX5_ices 78 = .ok (.istore_n 3, 1) := by decide +kernel
theorem dX5_ices_79 : decode cX5_ices 79 = .ok (.iinc 4 1, 3) := by decide +kernel
theorem dX5_ices_82 : decode cX5_ices 82 = .ok (.goto (-39), 3) := by decide +kernel
theorem dX5_ices_85 : decode cX5_ices 85 = .ok (.iload_n 3, 1) := by decide +kernel
theorem dX5_ices_86 : decode cX5_ices 86 = .ok (.ireturn, 1) := by decide +kernel
set_option maxRecDepth 20000 in
theorem ggX5_aunt_X1_howManyIn : GoodIn wsX5_aunt wsX1_howManyIn := goodIn_r _ [5, 6, 7, 4, 8, 9, 10, 11, 12, 13, 14, 15] (by decide +kernel) (by decide +kernel)
set_option maxRecDepth 20000 in
theorem gX5_aunt_X1_howManyIn_n207 : GoodIn wsX5_aunt (wsX1_howManyIn) := ggX5_aunt_X1_howManyIn
set_option maxRecDepth 20000 in
theorem ggX5_aunt_X3_leftAtBandsTurn : GoodIn wsX5_aunt wsX3_leftAtBandsTurn := goodIn_r _ [18, 19, 20, 21, 22, 3, 4, 5, 6, 7, 8, 9, 10, 11, 12, 13, 14, 15, 23, 24, 25, 26, 27, 28, 29, 30, 31, 32, 33, 34, 35, 36, 37, 38, 39, 40, 41, 42, 43, 44, 45, 46, 47, 48, 49, 50, 51, 52, 53, 54, 55, 56, 57, 58, 59, 60, 61, 62, 63, 64, 65, 66, 67, 68, 17, 69, 70, 71, 72, 73, 74, 75, 76, 77, 16, 92, 93, 94, 95, 96, 97, 98] (by decide +kernel) (by decide +kernel)
set_option maxRecDepth 20000 in
theorem gX5_aunt_X3_leftAtBandsTurn_n229 : GoodIn wsX5_aunt (wsX3_leftAtBandsTurn) := ggX5_aunt_X3_leftAtBandsTurn
theorem dX5_aunt_0 : decode cX5_aunt 0 = .ok (.iload_n 1, 1) := by decide +kernel
theorem dX5_aunt_1 : decode cX5_aunt 1 = .ok (.ifCond .lt 8, 3) := by decide +kernel
theorem dX5_aunt_4 : decode cX5_aunt 4 = .ok (.iload_n 1, 1) := by decide +kernel
theorem dX5_aunt_5 : decode cX5_aunt 5 = .ok (.iconst 3, 1) := by decide +kernel
theorem dX5_aunt_6 : decode cX5_aunt 6 = .ok (.if_icmp .le 5, 3) := by decide +kernel
theorem dX5_aunt_9 : decode cX5_aunt 9 = .ok (.iconst (-1), 1) := by decide +kernel
theorem dX5_aunt_10 : decode cX5_aunt 10 = .ok (.ireturn, 1) := by decide +kernel
theorem dX5_aunt_11 : decode cX5_aunt 11 = .ok (.aload_n 0, 1) := by decide +kernel
theorem dX5_aunt_12 : decode cX5_aunt 12 = .ok (.getfield 36, 3) := by decide +kernel
theorem dX5_aunt_15 : decode cX5_aunt 15 = .ok (.getfield 111, 3) := by decide +kernel
theorem dX5_aunt_18 : decode cX5_aunt 18 = .ok (.ifCond .ne 6, 3) := by decide +kernel
theorem dX5_aunt_21 : decode cX5_aunt 21 = .ok (.bipush (-4), 2) := by decide +kernel
theorem dX5_aunt_23 : decode cX5_aunt 23 = .ok (.ireturn, 1) := by decide +kernel
theorem dX5_aunt_24 : decode cX5_aunt 24 = .ok (.aload_n 0, 1) := by decide +kernel
theorem dX5_aunt_25 : decode cX5_aunt 25 = .ok (.getfield 46, 3) := by decide +kernel
theorem dX5_aunt_28 : decode cX5_aunt 28 = .ok (.getfield 127, 3) := by decide +kernel
theorem dX5_aunt_31 : decode cX5_aunt 31 = .ok (.invokestatic 207, 3) := by decide +kernel
theorem dX5_aunt_34 : decode cX5_aunt 34 = .ok (.aload_n 0, 1) := by decide +kernel
theorem dX5_aunt_35 : decode cX5_aunt 35 = .ok (.getfield 36, 3) := by decide +kernel
theorem dX5_aunt_38 : decode cX5_aunt 38 = .ok (.aload_n 0, 1) := by decide +kernel
theorem dX5_aunt_39 : decode cX5_aunt 39 = .ok (.getfield 46, 3) := by decide +kernel
theorem dX5_aunt_42 : decode cX5_aunt 42 = .ok (.getfield 127, 3) := by decide +kernel
theorem dX5_aunt_45 : decode cX5_aunt 45 = .ok (.iload_n 1, 1) := by decide +kernel
theorem dX5_aunt_46 : decode cX5_aunt 46 = .ok (.invokestatic 229, 3) := by decide +kernel
theorem dX5_aunt_49 : decode cX5_aunt 49 = .ok (.isub, 1) := by decide +kernel
theorem dX5_aunt_50 : decode cX5_aunt 50 = .ok (.ireturn, 1) := by decide +kernel
set_option maxRecDepth 20000 in
theorem ggX5_kinds_X5_eveningRefusal : GoodIn wsX5_kinds wsX5_eveningRefusal := goodIn_r _ [9, 1, 10, 11, 12, 8, 13, 2, 14, 15, 16, 17, 18, 19, 20, 21, 22, 23, 4, 3, 24, 25, 26, 27, 28, 29, 30, 31, 32, 33, 34, 35, 63, 64, 65, 66, 67, 68, 69, 70, 71, 72, 73, 74, 75, 76, 77, 78, 79, 80, 81, 82, 83, 84, 85, 86] (by decide +kernel) (by decide +kernel)
set_option maxRecDepth 20000 in
theorem gX5_kinds_X5_eveningRefusal : GoodIn wsX5_kinds (wsV RX5 232 RX5 yX5_eveningRefusal wsX5_eveningRefusal) := goodIn_app (goodIn_of _ (by decide +kernel)) ggX5_kinds_X5_eveningRefusal
set_option maxRecDepth 20000 in
theorem ggX5_kinds_X1_griefOf : GoodIn wsX5_kinds wsX1_griefOf := goodIn_r _ [37, 38] (by decide +kernel) (by decide +kernel)
set_option maxRecDepth 20000 in
theorem gX5_kinds_X1_griefOf_n175 : GoodIn wsX5_kinds (wsX1_griefOf) := ggX5_kinds_X1_griefOf
set_option maxRecDepth 20000 in
theorem ggX5_kinds_X2_wentSo : GoodIn wsX5_kinds wsX2_wentSo := goodIn_r _ [42, 43, 44, 45, 40, 46, 47, 48, 49, 50, 51, 52, 53, 54, 55, 56, 57, 58, 59, 60, 61, 62, 80, 81, 82, 83, 84, 85, 86] (by decide +kernel) (by decide +kernel)
set_option maxRecDepth 20000 in
theorem gX5_kinds_X2_wentSo_n235 : GoodIn wsX5_kinds (wsX2_wentSo) := ggX5_kinds_X2_wentSo
theorem dX5_kinds_0 : decode cX5_kinds 0 = .ok (.aload_n 0, 1) := by decide +kernel
theorem dX5_kinds_1 : decode cX5_kinds 1 = .ok (.iload_n 1, 1) := by decide +kernel
theorem dX5_kinds_2 : decode cX5_kinds 2 = .ok (.iload_n 2, 1) := by decide +kernel
theorem dX5_kinds_3 : decode cX5_kinds 3 = .ok (.invokevirtual 232, 3) := by decide +kernel
theorem dX5_kinds_6 : decode cX5_kinds 6 = .ok (.istore_n 3, 1) := by decide +kernel
theorem dX5_kinds_7 : decode cX5_kinds 7 = .ok (.iload_n 3, 1) := by decide +kernel
theorem dX5_kinds_8 : decode cX5_kinds 8 = .ok (.ifCond .eq 5, 3) := by decide +kernel
theorem dX5_kinds_11 : decode cX5_kinds 11 = .ok (.iload_n 3, 1) := by decide +kernel
theorem dX5_kinds_12 : decode cX5_kinds 12 = .ok (.ireturn, 1) := by decide +kernel
theorem dX5_kinds_13 : decode cX5_kinds 13 = .ok (.aload_n 0, 1) := by decide +kernel
theorem dX5_kinds_14 : decode cX5_kinds 14 = .ok (.getfield 46, 3) := by decide +kernel
theorem dX5_kinds_17 : decode cX5_kinds 17 = .ok (.getfield 127, 3) := by decide +kernel
theorem dX5_kinds_20 : decode cX5_kinds 20 = .ok (.iload_n 1, 1) := by decide +kernel
theorem dX5_kinds_21 : decode cX5_kinds 21 = .ok (.invokestatic 175, 3) := by decide +kernel
theorem dX5_kinds_24 : decode cX5_kinds 24 = .ok (.istore 4, 2) := by decide +kernel
theorem dX5_kinds_26 : decode cX5_kinds 26 = .ok (.iconst 0, 1) := by decide +kernel
theorem dX5_kinds_27 : decode cX5_kinds 27 = .ok (.istore 5, 2) := by decide +kernel
theorem dX5_kinds_29 : decode cX5_kinds 29 = .ok (.iconst 0, 1) := by decide +kernel
theorem dX5_kinds_30 : decode cX5_kinds 30 = .ok (.istore 6, 2) := by decide +kernel
theorem dX5_kinds_32 : decode cX5_kinds 32 = .ok (.iload 6, 2) := by decide +kernel
theorem dX5_kinds_34 : decode cX5_kinds 34 = .ok (.bipush 6, 2) := by decide +kernel
theorem dX5_kinds_36 : decode cX5_kinds 36 = .ok (.if_icmp .ge 44, 3) := by decide +kernel
theorem dX5_kinds_39 : decode cX5_kinds 39 = .ok (.aload_n 0, 1) := by decide +kernel
theorem dX5_kinds_40 : decode cX5_kinds 40 = .ok (.getfield 36, 3) := by decide +kernel
theorem dX5_kinds_43 : decode cX5_kinds 43 = .ok (.iload 6, 2) := by decide +kernel
theorem dX5_kinds_45 : decode cX5_kinds 45 = .ok (.iload 4, 2) := by decide +kernel
theorem dX5_kinds_47 : decode cX5_kinds 47 = .ok (.aload_n 0, 1) := by decide +kernel
theorem dX5_kinds_48 : decode cX5_kinds 48 = .ok (.getfield 11, 3) := by decide +kernel
theorem dX5_kinds_51 : decode cX5_kinds 51 = .ok (.iload_n 2, 1) := by decide +kernel
theorem dX5_kinds_52 : decode cX5_kinds 52 = .ok (.aaload, 1) := by decide +kernel
theorem dX5_kinds_53 : decode cX5_kinds 53 = .ok (.aload_n 0, 1) := by decide +kernel
theorem dX5_kinds_54 : decode cX5_kinds 54 = .ok (.getfield 14, 3) := by decide +kernel
theorem dX5_kinds_57 : decode cX5_kinds 57 = .ok (.iload_n 2, 1) := by decide +kernel
theorem dX5_kinds_58 : decode cX5_kinds 58 = .ok (.iaload, 1) := by decide +kernel
theorem dX5_kinds_59 : decode cX5_kinds 59 = .ok (.invokevirtual 235, 3) := by decide +kernel
theorem dX5_kinds_62 : decode cX5_kinds 62 = .ok (.ifCond .eq 12, 3) := by decide +kernel
theorem dX5_kinds_65 : decode cX5_kinds 65 = .ok (.iload 5, 2) := by decide +kernel
theorem dX5_kinds_67 : decode cX5_kinds 67 = .ok (.iconst 1, 1) := by decide +kernel
theorem dX5_kinds_68 : decode cX5_kinds 68 = .ok (.iload 6, 2) := by decide +kernel
theorem dX5_kinds_70 : decode cX5_kinds 70 = .ok (.ishl, 1) := by decide +kernel
theorem dX5_kinds_71 : decode cX5_kinds 71 = .ok (.ior, 1) := by decide +kernel
theorem dX5_kinds_72 : decode cX5_kinds 72 = .ok (.istore 5, 2) := by decide +kernel
theorem dX5_kinds_74 : decode cX5_kinds 74 = .ok (.iinc 6 1, 3) := by decide +kernel
theorem dX5_kinds_77 : decode cX5_kinds 77 = .ok (.goto (-45), 3) := by decide +kernel
theorem dX5_kinds_80 : decode cX5_kinds 80 = .ok (.iload 5, 2) := by decide +kernel
theorem dX5_kinds_82 : decode cX5_kinds 82 = .ok (.ireturn, 1) := by decide +kernel
set_option maxRecDepth 20000 in
theorem ggX5_came_X5_eveningRefusal : GoodIn wsX5_came wsX5_eveningRefusal := goodIn_r _ [8, 9, 10, 11, 12, 7, 13, 1, 14, 15, 16, 17, 18, 19, 20, 21, 22, 23, 3, 2, 24, 25, 26, 27, 28, 29, 30, 31, 32, 33, 34, 35, 60, 61, 62, 63, 64, 65, 66, 67, 68, 69, 70, 71, 72, 73, 81, 82, 83, 74, 75, 76, 77, 78, 79, 80] (by decide +kernel) (by decide +kernel)
set_option maxRecDepth 20000 in
theorem gX5_came_X5_eveningRefusal : GoodIn wsX5_came (wsV RX5 232 RX5 yX5_eveningRefusal wsX5_eveningRefusal) := goodIn_app (goodIn_of _ (by decide +kernel)) ggX5_came_X5_eveningRefusal
set_option maxRecDepth 20000 in
theorem ggX5_came_X2_wentSo : GoodIn wsX5_came wsX2_wentSo := goodIn_r _ [39, 40, 41, 42, 37, 43, 44, 45, 46, 47, 48, 49, 50, 51, 52, 53, 54, 55, 56, 57, 58, 59, 74, 75, 76, 77, 78, 79, 80] (by decide +kernel) (by decide +kernel)
set_option maxRecDepth 20000 in
theorem gX5_came_X2_wentSo_n235 : GoodIn wsX5_came (wsX2_wentSo) := ggX5_came_X2_wentSo
theorem dX5_came_0 : decode cX5_came 0 = .ok (.aload_n 0, 1) := by decide +kernel
theorem dX5_came_1 : decode cX5_came 1 = .ok (.iload_n 1, 1) := by decide +kernel
theorem dX5_came_2 : decode cX5_came 2 = .ok (.iload_n 2, 1) := by decide +kernel
theorem dX5_came_3 : decode cX5_came 3 = .ok (.invokevirtual 232, 3) := by decide +kernel
theorem dX5_came_6 : decode cX5_came 6 = .ok (.istore_n 3, 1) := by decide +kernel
theorem dX5_came_7 : decode cX5_came 7 = .ok (.iload_n 3, 1) := by decide +kernel
theorem dX5_came_8 : decode cX5_came 8 = .ok (.ifCond .eq 5, 3) := by decide +kernel
theorem dX5_came_11 : decode cX5_came 11 = .ok (.iload_n 3, 1) := by decide +kernel
theorem dX5_came_12 : decode cX5_came 12 = .ok (.ireturn, 1) := by decide +kernel
theorem dX5_came_13 : decode cX5_came 13 = .ok (.iconst 0, 1) := by decide +kernel
theorem dX5_came_14 : decode cX5_came 14 = .ok (.istore 4, 2) := by decide +kernel
theorem dX5_came_16 : decode cX5_came 16 = .ok (.iconst 0, 1) := by decide +kernel
theorem dX5_came_17 : decode cX5_came 17 = .ok (.istore 5, 2) := by decide +kernel
theorem dX5_came_19 : decode cX5_came 19 = .ok (.iload 5, 2) := by decide +kernel
theorem dX5_came_21 : decode cX5_came 21 = .ok (.bipush 20, 2) := by decide +kernel
theorem dX5_came_23 : decode cX5_came 23 = .ok (.if_icmp .gt 51, 3) := by decide +kernel
theorem dX5_came_26 : decode cX5_came 26 = .ok (.aload_n 0, 1) := by decide +kernel
theorem dX5_came_27 : decode cX5_came 27 = .ok (.getfield 36, 3) := by decide +kernel
theorem dX5_came_30 : decode cX5_came 30 = .ok (.aload_n 0, 1) := by decide +kernel
theorem dX5_came_31 : decode cX5_came 31 = .ok (.getfield 36, 3) := by decide +kernel
theorem dX5_came_34 : decode cX5_came 34 = .ok (.getfield 120, 3) := by decide +kernel
theorem dX5_came_37 : decode cX5_came 37 = .ok (.iload_n 1, 1) := by decide +kernel
theorem dX5_came_38 : decode cX5_came 38 = .ok (.iaload, 1) := by decide +kernel
theorem dX5_came_39 : decode cX5_came 39 = .ok (.iload 5, 2) := by decide +kernel
theorem dX5_came_41 : decode cX5_came 41 = .ok (.aload_n 0, 1) := by decide +kernel
theorem dX5_came_42 : decode cX5_came 42 = .ok (.getfield 11, 3) := by decide +kernel
theorem dX5_came_45 : decode cX5_came 45 = .ok (.iload_n 2, 1) := by decide +kernel
theorem dX5_came_46 : decode cX5_came 46 = .ok (.aaload, 1) := by decide +kernel
theorem dX5_came_47 : decode cX5_came 47 = .ok (.aload_n 0, 1) := by decide +kernel
theorem dX5_came_48 : decode cX5_came 48 = .ok (.getfield 14, 3) := by decide +kernel
theorem dX5_came_51 : decode cX5_came 51 = .ok (.iload_n 2, 1) := by decide +kernel
theorem dX5_came_52 : decode cX5_came 52 = .ok (.iaload, 1) := by decide +kernel
theorem dX5_came_53 : decode cX5_came 53 = .ok (.invokevirtual 235, 3) := by decide +kernel
theorem dX5_came_56 : decode cX5_came 56 = .ok (.ifCond .eq 12, 3) := by decide +kernel
theorem dX5_came_59 : decode cX5_came 59 = .ok (.iload 4, 2) := by decide +kernel
theorem dX5_came_61 : decode cX5_came 61 = .ok (.iconst 1, 1) := by decide +kernel
theorem dX5_came_62 : decode cX5_came 62 = .ok (.iload 5, 2) := by decide +kernel
theorem dX5_came_64 : decode cX5_came 64 = .ok (.ishl, 1) := by decide +kernel
theorem dX5_came_65 : decode cX5_came 65 = .ok (.ior, 1) := by decide +kernel
theorem dX5_came_66 : decode cX5_came 66 = .ok (.istore 4, 2) := by decide +kernel
theorem dX5_came_68 : decode cX5_came 68 = .ok (.iinc 5 1, 3) := by decide +kernel
theorem dX5_came_71 : decode cX5_came 71 = .ok (.goto (-52), 3) := by decide +kernel
theorem dX5_came_74 : decode cX5_came 74 = .ok (.iload 4, 2) := by decide +kernel
theorem dX5_came_76 : decode cX5_came 76 = .ok (.ireturn, 1) := by decide +kernel
set_option maxRecDepth 20000 in
theorem ggX5_did_X5_isGuest : GoodIn wsX5_did wsX5_isGuest := goodIn_r _ [6, 1, 32, 33, 34, 35, 36, 37, 38, 39, 40, 41, 42, 43, 44, 45, 46, 47, 48, 49, 50, 51, 52] (by decide +kernel) (by decide +kernel)
set_option maxRecDepth 20000 in
theorem gX5_did_X5_isGuest : GoodIn wsX5_did (wsV RX5 114 RX5 yX5_isGuest wsX5_isGuest) := goodIn_app (goodIn_of _ (by decide +kernel)) ggX5_did_X5_isGuest
set_option maxRecDepth 20000 in
theorem ggX5_did_X5_isTune : GoodIn wsX5_did wsX5_isTune := goodIn_r _ [9] (by decide +kernel) (by decide +kernel)
set_option maxRecDepth 20000 in
theorem gX5_did_X5_isTune : GoodIn wsX5_did (va_wsS RX5 152 yX5_isTune wsX5_isTune) := goodIn_app (goodIn_of _ (by decide +kernel)) ggX5_did_X5_isTune
set_option maxRecDepth 20000 in
theorem ggX5_did_X5_isGrief : GoodIn wsX5_did wsX5_isGrief := goodIn_r _ [12] (by decide +kernel) (by decide +kernel)
set_option maxRecDepth 20000 in
theorem gX5_did_X5_isGrief : GoodIn wsX5_did (va_wsS RX5 239 yX5_isGrief wsX5_isGrief) := goodIn_app (goodIn_of _ (by decide +kernel)) ggX5_did_X5_isGrief
set_option maxRecDepth 20000 in
theorem ggX5_did_X2_griefBehind : GoodIn wsX5_did wsX2_griefBehind := goodIn_r _ [15, 16, 17, 14, 18, 19, 20, 21, 22, 23, 24, 25, 26, 27, 28, 29, 30, 31] (by decide +kernel) (by decide +kernel)
set_option maxRecDepth 20000 in
theorem gX5_did_X2_griefBehind_n242 : GoodIn wsX5_did (wsX2_griefBehind) := ggX5_did_X2_griefBehind
theorem dX5_did_0 : decode cX5_did 0 = .ok (.aload_n 0, 1) := by decide +kernel
theorem dX5_did_1 : decode cX5_did 1 = .ok (.iload_n 1, 1) := by decide +kernel
theorem dX5_did_2 : decode cX5_did 2 = .ok (.invokevirtual 114, 3) := by decide +kernel
theorem dX5_did_5 : decode cX5_did 5 = .ok (.ifCond .eq 25, 3) := by decide +kernel
theorem dX5_did_8 : decode cX5_did 8 = .ok (.iload_n 2, 1) := by decide +kernel
theorem dX5_did_9 : decode cX5_did 9 = .ok (.invokestatic 152, 3) := by decide +kernel
theorem dX5_did_12 : decode cX5_did 12 = .ok (.ifCond .eq 18, 3) := by decide +kernel
theorem dX5_did_15 : decode cX5_did 15 = .ok (.iload_n 3, 1) := by decide +kernel
theorem dX5_did_16 : decode cX5_did 16 = .ok (.invokestatic 239, 3) := by decide +kernel
theorem dX5_did_19 : decode cX5_did 19 = .ok (.ifCond .eq 11, 3) := by decide +kernel
theorem dX5_did_22 : decode cX5_did 22 = .ok (.iload 4, 2) := by decide +kernel
theorem dX5_did_24 : decode cX5_did 24 = .ok (.invokestatic 239, 3) := by decide +kernel
theorem dX5_did_27 : decode cX5_did 27 = .ok (.ifCond .ne 5, 3) := by decide +kernel
theorem dX5_did_30 : decode cX5_did 30 = .ok (.iconst (-1), 1) := by decide +kernel
theorem dX5_did_31 : decode cX5_did 31 = .ok (.ireturn, 1) := by decide +kernel
theorem dX5_did_32 : decode cX5_did 32 = .ok (.iconst 0, 1) := by decide +kernel
theorem dX5_did_33 : decode cX5_did 33 = .ok (.istore 5, 2) := by decide +kernel
theorem dX5_did_35 : decode cX5_did 35 = .ok (.bipush (-4), 2) := by decide +kernel
theorem dX5_did_37 : decode cX5_did 37 = .ok (.istore 6, 2) := by decide +kernel
theorem dX5_did_39 : decode cX5_did 39 = .ok (.iload 6, 2) := by decide +kernel
theorem dX5_did_41 : decode cX5_did 41 = .ok (.iconst 5, 1) := by decide +kernel
theorem dX5_did_42 : decode cX5_did 42 = .ok (.if_icmp .gt 42, 3) := by decide +kernel
theorem dX5_did_45 : decode cX5_did 45 = .ok (.aload_n 0, 1) := by decide +kernel
theorem dX5_did_46 : decode cX5_did 46 = .ok (.getfield 36, 3) := by decide +kernel
theorem dX5_did_49 : decode cX5_did 49 = .ok (.getfield 120, 3) := by decide +kernel
theorem dX5_did_52 : decode cX5_did 52 = .ok (.iload_n 1, 1) := by decide +kernel
theorem dX5_did_53 : decode cX5_did 53 = .ok (.iaload, 1) := by decide +kernel
theorem dX5_did_54 : decode cX5_did 54 = .ok (.iload_n 2, 1) := by decide +kernel
theorem dX5_did_55 : decode cX5_did 55 = .ok (.iload 6, 2) := by decide +kernel
theorem dX5_did_57 : decode cX5_did 57 = .ok (.iload_n 3, 1) := by decide +kernel
theorem dX5_did_58 : decode cX5_did 58 = .ok (.invokestatic 242, 3) := by decide +kernel
theorem dX5_did_61 : decode cX5_did 61 = .ok (.iload 4, 2) := by decide +kernel
theorem dX5_did_63 : decode cX5_did 63 = .ok (.if_icmp .ne 15, 3) := by decide +kernel
theorem dX5_did_66 : decode cX5_did 66 = .ok (.iload 5, 2) := by decide +kernel
theorem dX5_did_68 : decode cX5_did 68 = .ok (.iconst 1, 1) := by decide +kernel
theorem dX5_did_69 : decode cX5_did 69 = .ok (.iload 6, 2) := by decide +kernel
theorem dX5_did_71 : decode cX5_did 71 = .ok (.bipush (-4), 2) := by decide +kernel
theorem dX5_did_73 : decode cX5_did 73 = .ok (.isub, 1) := by decide +kernel
theorem dX5_did_74 : decode cX5_did 74 = .ok (.ishl, 1) := by decide +kernel
theorem dX5_did_75 : decode cX5_did 75 = .ok (.ior, 1) := by decide +kernel
theorem dX5_did_76 : decode cX5_did 76 = .ok (.istore 5, 2) := by decide +kernel
theorem dX5_did_78 : decode cX5_did 78 = .ok (.iinc 6 1, 3) := by decide +kernel
theorem dX5_did_81 : decode cX5_did 81 = .ok (.goto (-42), 3) := by decide +kernel
theorem dX5_did_84 : decode cX5_did 84 = .ok (.iload 5, 2) := by decide +kernel
theorem dX5_did_86 : decode cX5_did 86 = .ok (.ireturn, 1) := by decide +kernel
set_option maxRecDepth 20000 in
theorem ggX5_wept_X2_watchers : GoodIn wsX5_wept wsX2_watchers := goodIn_r _ [6, 7, 8, 9, 10, 27, 28, 29, 30, 31, 32, 33] (by decide +kernel) (by decide +kernel)
set_option maxRecDepth 20000 in
theorem gX5_wept_X2_watchers_n246 : GoodIn wsX5_wept (wsX2_watchers) := ggX5_wept_X2_watchers
set_option maxRecDepth 20000 in
theorem ggX5_wept_X1_isIn : GoodIn wsX5_wept wsX1_isIn := goodIn_r _ [12] (by decide +kernel) (by decide +kernel)
set_option maxRecDepth 20000 in
theorem gX5_wept_X1_isIn_n130 : GoodIn wsX5_wept (wsX1_isIn) := ggX5_wept_X1_isIn
theorem dX5_wept_0 : decode cX5_wept 0 = .ok (.iload_n 1, 1) := by decide +kernel
theorem dX5_wept_1 : decode cX5_wept 1 = .ok (.ifCond .lt 16, 3) := by decide +kernel
theorem dX5_wept_4 : decode cX5_wept 4 = .ok (.iload_n 1, 1) := by decide +kernel
theorem dX5_wept_5 : decode cX5_wept 5 = .ok (.iconst 1, 1) := by decide +kernel
theorem dX5_wept_6 : decode cX5_wept 6 = .ok (.aload_n 0, 1) := by decide +kernel
theorem dX5_wept_7 : decode cX5_wept 7 = .ok (.getfield 36, 3) := by decide +kernel
theorem dX5_wept_10 : decode cX5_wept 10 = .ok (.getfield 111, 3) := by decide +kernel
theorem dX5_wept_13 : decode cX5_wept 13 = .ok (.ishl, 1) := by decide +kernel
theorem dX5_wept_14 : decode cX5_wept 14 = .ok (.if_icmp .lt 5, 3) := by decide +kernel
theorem dX5_wept_17 : decode cX5_wept 17 = .ok (.iconst (-1), 1) := by decide +kernel
theorem dX5_wept_18 : decode cX5_wept 18 = .ok (.ireturn, 1) := by decide +kernel
theorem dX5_wept_19 : decode cX5_wept 19 = .ok (.iconst 0, 1) := by decide +kernel
theorem dX5_wept_20 : decode cX5_wept 20 = .ok (.istore_n 2, 1) := by decide +kernel
theorem dX5_wept_21 : decode cX5_wept 21 = .ok (.iconst 0, 1) := by decide +kernel
theorem dX5_wept_22 : decode cX5_wept 22 = .ok (.istore_n 3, 1) := by decide +kernel
theorem dX5_wept_23 : decode cX5_wept 23 = .ok (.iload_n 3, 1) := by decide +kernel
theorem dX5_wept_24 : decode cX5_wept 24 = .ok (.aload_n 0, 1) := by decide +kernel
theorem dX5_wept_25 : decode cX5_wept 25 = .ok (.getfield 36, 3) := by decide +kernel
theorem dX5_wept_28 : decode cX5_wept 28 = .ok (.getfield 111, 3) := by decide +kernel
theorem dX5_wept_31 : decode cX5_wept 31 = .ok (.if_icmp .ge 60, 3) := by decide +kernel
theorem dX5_wept_34 : decode cX5_wept 34 = .ok (.aload_n 0, 1) := by decide +kernel
theorem dX5_wept_35 : decode cX5_wept 35 = .ok (.getfield 36, 3) := by decide +kernel
theorem dX5_wept_38 : decode cX5_wept 38 = .ok (.aload_n 0, 1) := by decide +kernel
theorem dX5_wept_39 : decode cX5_wept 39 = .ok (.getfield 46, 3) := by decide +kernel
theorem dX5_wept_42 : decode cX5_wept 42 = .ok (.getfield 127, 3) := by decide +kernel
theorem dX5_wept_45 : decode cX5_wept 45 = .ok (.iload_n 3, 1) := by decide +kernel
theorem dX5_wept_46 : decode cX5_wept 46 = .ok (.invokevirtual 246, 3) := by decide +kernel
theorem dX5_wept_49 : decode cX5_wept 49 = .ok (.istore 4, 2) := by decide +kernel
theorem dX5_wept_51 : decode cX5_wept 51 = .ok (.aload_n 0, 1) := by decide +kernel
theorem dX5_wept_52 : decode cX5_wept 52 = .ok (.getfield 46, 3) := by decide +kernel
theorem dX5_wept_55 : decode cX5_wept 55 = .ok (.getfield 127, 3) := by decide +kernel
theorem dX5_wept_58 : decode cX5_wept 58 = .ok (.iload_n 3, 1) := by decide +kernel
theorem dX5_wept_59 : decode cX5_wept 59 = .ok (.invokestatic 130, 3) := by decide +kernel
theorem dX5_wept_62 : decode cX5_wept 62 = .ok (.ifCond .eq 23, 3) := by decide +kernel
theorem dX5_wept_65 : decode cX5_wept 65 = .ok (.iload 4, 2) := by decide +kernel
theorem dX5_wept_67 : decode cX5_wept 67 = .ok (.ifCond .eq 18, 3) := by decide +kernel
theorem dX5_wept_70 : decode cX5_wept 70 = .ok (.iload 4, 2) := by decide +kernel
theorem dX5_wept_72 : decode cX5_wept 72 = .ok (.iload_n 1, 1) := by decide +kernel
theorem dX5_wept_73 : decode cX5_wept 73 = .ok (.iconst (-1), 1) := by decide +kernel
theorem dX5_wept_74 : decode cX5_wept 74 = .ok (.ixor, 1) := by decide +kernel
theorem dX5_wept_75 : decode cX5_wept 75 = .ok (.iand, 1) := by decide +kernel
theorem dX5_wept_76 : decode cX5_wept 76 = .ok (.ifCond .ne 9, 3) := by decide +kernel
theorem dX5_wept_79 : decode cX5_wept 79 = .ok (.iload_n 2, 1) := by decide +kernel
theorem dX5_wept_80 : decode cX5_wept 80 = .ok (.iconst 1, 1) := by decide +kernel
theorem dX5_wept_81 : decode cX5_wept 81 = .ok (.iload_n 3, 1) := by decide +kernel
theorem dX5_wept_82 : decode cX5_wept 82 = .ok (.ishl, 1) := by decide +kernel
theorem dX5_wept_83 : decode cX5_wept 83 = .ok (.ior, 1) := by decide +kernel
theorem dX5_wept_84 : decode cX5_wept 84 = .ok (.istore_n 2, 1) := by decide +kernel
theorem dX5_wept_85 : decode cX5_wept 85 = .ok (.iinc 3 1, 3) := by decide +kernel
theorem dX5_wept_88 : decode cX5_wept 88 = .ok (.goto (-65), 3) := by decide +kernel
theorem dX5_wept_91 : decode cX5_wept 91 = .ok (.iload_n 2, 1) := by decide +kernel
theorem dX5_wept_92 : decode cX5_wept 92 = .ok (.ireturn, 1) := by decide +kernel
set_option maxRecDepth 20000 in
theorem ggX5_gets_X5_isGuest : GoodIn wsX5_gets wsX5_isGuest := goodIn_r _ [6, 7, 24, 25, 26, 27, 28, 29, 30, 31, 32, 33, 34, 35, 36, 37, 41, 42, 43, 44, 45, 46, 47] (by decide +kernel) (by decide +kernel)
set_option maxRecDepth 20000 in
theorem gX5_gets_X5_isGuest : GoodIn wsX5_gets (wsV RX5 114 RX5 yX5_isGuest wsX5_isGuest) := goodIn_app (goodIn_of _ (by decide +kernel)) ggX5_gets_X5_isGuest
set_option maxRecDepth 20000 in
theorem ggX5_gets_X1_howManyIn : GoodIn wsX5_gets wsX1_howManyIn := goodIn_r _ [10, 11, 12, 9, 13, 14, 15, 16, 17, 18, 19, 20] (by decide +kernel) (by decide +kernel)
set_option maxRecDepth 20000 in
theorem gX5_gets_X1_howManyIn_n207 : GoodIn wsX5_gets (wsX1_howManyIn) := ggX5_gets_X1_howManyIn
set_option maxRecDepth 20000 in
theorem ggX5_gets_X1_isIn : GoodIn wsX5_gets wsX1_isIn := goodIn_r _ [22] (by decide +kernel) (by decide +kernel)
set_option maxRecDepth 20000 in
theorem gX5_gets_X1_isIn_n130 : GoodIn wsX5_gets (wsX1_isIn) := ggX5_gets_X1_isIn
set_option maxRecDepth 20000 in
theorem ggX5_gets_X1_insiders : GoodIn wsX5_gets wsX1_insiders := goodIn_r _ [13] (by decide +kernel) (by decide +kernel)
set_option maxRecDepth 20000 in
theorem gX5_gets_X1_insiders_n158 : GoodIn wsX5_gets (wsX1_insiders) := ggX5_gets_X1_insiders
set_option maxRecDepth 20000 in
theorem ggX5_gets_J6_bitCount_0f7a4 : GoodIn wsX5_gets wsJ6_bitCount_0f7a4 := goodIn_r _ [17, 18, 19, 20] (by decide +kernel) (by decide +kernel)
set_option maxRecDepth 20000 in
theorem gX5_gets_J6_bitCount_0f7a4 : GoodIn wsX5_gets (va_wsS RX5 249 yJ6_bitCount_0f7a4 wsJ6_bitCount_0f7a4) := goodIn_app (goodIn_of _ (by decide +kernel)) ggX5_gets_J6_bitCount_0f7a4
theorem dX5_gets_0 : decode cX5_gets 0 = .ok (.aload_n 0, 1) := by decide +kernel
theorem dX5_gets_1 : decode cX5_gets 1 = .ok (.iload_n 1, 1) := by decide +kernel
theorem dX5_gets_2 : decode cX5_gets 2 = .ok (.invokevirtual 114, 3) := by decide +kernel
theorem dX5_gets_5 : decode cX5_gets 5 = .ok (.ifCond .eq 15, 3) := by decide +kernel
theorem dX5_gets_8 : decode cX5_gets 8 = .ok (.iload_n 2, 1) := by decide +kernel
theorem dX5_gets_9 : decode cX5_gets 9 = .ok (.iconst 1, 1) := by decide +kernel
theorem dX5_gets_10 : decode cX5_gets 10 = .ok (.if_icmp .lt 10, 3) := by decide +kernel
theorem dX5_gets_13 : decode cX5_gets 13 = .ok (.iload_n 2, 1) := by decide +kernel
theorem dX5_gets_14 : decode cX5_gets 14 = .ok (.sipush 999, 3) := by decide +kernel
theorem dX5_gets_17 : decode cX5_gets 17 = .ok (.if_icmp .le 5, 3) := by decide +kernel
theorem dX5_gets_20 : decode cX5_gets 20 = .ok (.iconst (-1), 1) := by decide +kernel
theorem dX5_gets_21 : decode cX5_gets 21 = .ok (.ireturn, 1) := by decide +kernel
theorem dX5_gets_22 : decode cX5_gets 22 = .ok (.aload_n 0, 1) := by decide +kernel
theorem dX5_gets_23 : decode cX5_gets 23 = .ok (.getfield 46, 3) := by decide +kernel
theorem dX5_gets_26 : decode cX5_gets 26 = .ok (.getfield 127, 3) := by decide +kernel
theorem dX5_gets_29 : decode cX5_gets 29 = .ok (.invokestatic 207, 3) := by decide +kernel
theorem dX5_gets_32 : decode cX5_gets 32 = .ok (.istore_n 3, 1) := by decide +kernel
theorem dX5_gets_33 : decode cX5_gets 33 = .ok (.aload_n 0, 1) := by decide +kernel
theorem dX5_gets_34 : decode cX5_gets 34 = .ok (.getfield 46, 3) := by decide +kernel
theorem dX5_gets_37 : decode cX5_gets 37 = .ok (.getfield 127, 3) := by decide +kernel
theorem dX5_gets_40 : decode cX5_gets 40 = .ok (.iload_n 1, 1) := by decide +kernel
theorem dX5_gets_41 : decode cX5_gets 41 = .ok (.invokestatic 130, 3) := by decide +kernel
theorem dX5_gets_44 : decode cX5_gets 44 = .ok (.ifCond .eq 7, 3) := by decide +kernel
theorem dX5_gets_47 : decode cX5_gets 47 = .ok (.iload_n 3, 1) := by decide +kernel
theorem dX5_gets_48 : decode cX5_gets 48 = .ok (.ifCond .gt 5, 3) := by decide +kernel
theorem dX5_gets_51 : decode cX5_gets 51 = .ok (.iconst 0, 1) := by decide +kernel
theorem dX5_gets_52 : decode cX5_gets 52 = .ok (.ireturn, 1) := by decide +kernel
theorem dX5_gets_53 : decode cX5_gets 53 = .ok (.aload_n 0, 1) := by decide +kernel
theorem dX5_gets_54 : decode cX5_gets 54 = .ok (.getfield 46, 3) := by decide +kernel
theorem dX5_gets_57 : decode cX5_gets 57 = .ok (.getfield 127, 3) := by decide +kernel
theorem dX5_gets_60 : decode cX5_gets 60 = .ok (.invokestatic 158, 3) := by decide +kernel
theorem dX5_gets_63 : decode cX5_gets 63 = .ok (.iconst 1, 1) := by decide +kernel
theorem dX5_gets_64 : decode cX5_gets 64 = .ok (.iload_n 1, 1) := by decide +kernel
theorem dX5_gets_65 : decode cX5_gets 65 = .ok (.ishl, 1) := by decide +kernel
theorem dX5_gets_66 : decode cX5_gets 66 = .ok (.iconst 1, 1) := by decide +kernel
theorem dX5_gets_67 : decode cX5_gets 67 = .ok (.isub, 1) := by decide +kernel
theorem dX5_gets_68 : decode cX5_gets 68 = .ok (.iand, 1) := by decide +kernel
theorem dX5_gets_69 : decode cX5_gets 69 = .ok (.invokestatic 249, 3) := by decide +kernel
theorem dX5_gets_72 : decode cX5_gets 72 = .ok (.istore 4, 2) := by decide +kernel
theorem dX5_gets_74 : decode cX5_gets 74 = .ok (.iload_n 2, 1) := by decide +kernel
theorem dX5_gets_75 : decode cX5_gets 75 = .ok (.iload_n 3, 1) := by decide +kernel
theorem dX5_gets_76 : decode cX5_gets 76 = .ok (.idiv, 1) := by decide +kernel
theorem dX5_gets_77 : decode cX5_gets 77 = .ok (.iload 4, 2) := by decide +kernel
theorem dX5_gets_79 : decode cX5_gets 79 = .ok (.iload_n 2, 1) := by decide +kernel
theorem dX5_gets_80 : decode cX5_gets 80 = .ok (.iload_n 3, 1) := by decide +kernel
theorem dX5_gets_81 : decode cX5_gets 81 = .ok (.irem, 1) := by decide +kernel
theorem dX5_gets_82 : decode cX5_gets 82 = .ok (.if_icmp .ge 7, 3) := by decide +kernel
theorem dX5_gets_85 : decode cX5_gets 85 = .ok (.iconst 1, 1) := by decide +kernel
theorem dX5_gets_86 : decode cX5_gets 86 = .ok (.goto 4, 3) := by decide +kernel
