theorem dX0_init_0 : decode cX0_init 0 = .ok (.aload_n 0, 1) := by decide +kernel
theorem dX0_init_1 : decode cX0_init 1 = .ok (.invokespecial 3, 3) := by decide +kernel
theorem dX0_init_4 : decode cX0_init 4 = .ok (.aload_n 0, 1) := by decide +kernel
theorem dX0_init_5 : decode cX0_init 5 = .ok (.iconst 0, 1) := by decide +kernel
theorem dX0_init_6 : decode cX0_init 6 = .ok (.putfield 9, 3) := by decide +kernel
theorem dX0_init_9 : decode cX0_init 9 = .ok (.aload_n 0, 1) := by decide +kernel
theorem dX0_init_10 : decode cX0_init 10 = .ok (.lconst 0, 1) := by decide +kernel
theorem dX0_init_11 : decode cX0_init 11 = .ok (.putfield 15, 3) := by decide +kernel
theorem dX0_init_14 : decode cX0_init 14 = .ok (.aload_n 0, 1) := by decide +kernel
theorem dX0_init_15 : decode cX0_init 15 = .ok (.bipush 40, 2) := by decide +kernel
theorem dX0_init_17 : decode cX0_init 17 = .ok (.newarray .long, 2) := by decide +kernel
theorem dX0_init_19 : decode cX0_init 19 = .ok (.putfield 19, 3) := by decide +kernel
theorem dX0_init_22 : decode cX0_init 22 = .ok (.return_, 1) := by decide +kernel
theorem dX0_begin_0 : decode cX0_begin 0 = .ok (.aload_n 0, 1) := by decide +kernel
theorem dX0_begin_1 : decode cX0_begin 1 = .ok (.iconst 0, 1) := by decide +kernel
theorem dX0_begin_2 : decode cX0_begin 2 = .ok (.putfield 9, 3) := by decide +kernel
theorem dX0_begin_5 : decode cX0_begin 5 = .ok (.aload_n 0, 1) := by decide +kernel
theorem dX0_begin_6 : decode cX0_begin 6 = .ok (.lload_n 1, 1) := by decide +kernel
theorem dX0_begin_7 : decode cX0_begin 7 = .ok (.putfield 15, 3) := by decide +kernel
theorem dX0_begin_10 : decode cX0_begin 10 = .ok (.return_, 1) := by decide +kernel
theorem dX0_goOn_0 : decode cX0_goOn 0 = .ok (.aload_n 0, 1) := by decide +kernel
theorem dX0_goOn_1 : decode cX0_goOn 1 = .ok (.getfield 9, 3) := by decide +kernel
theorem dX0_goOn_4 : decode cX0_goOn 4 = .ok (.ifCond .lt 40, 3) := by decide +kernel
theorem dX0_goOn_7 : decode cX0_goOn 7 = .ok (.aload_n 0, 1) := by decide +kernel
theorem dX0_goOn_8 : decode cX0_goOn 8 = .ok (.getfield 9, 3) := by decide +kernel
theorem dX0_goOn_11 : decode cX0_goOn 11 = .ok (.bipush 40, 2) := by decide +kernel
theorem dX0_goOn_13 : decode cX0_goOn 13 = .ok (.if_icmp .ge 31, 3) := by decide +kernel
theorem dX0_goOn_16 : decode cX0_goOn 16 = .ok (.aload_n 0, 1) := by decide +kernel
theorem dX0_goOn_17 : decode cX0_goOn 17 = .ok (.getfield 19, 3) := by decide +kernel
theorem dX0_goOn_20 : decode cX0_goOn 20 = .ok (.aload_n 0, 1) := by decide +kernel
theorem dX0_goOn_21 : decode cX0_goOn 21 = .ok (.getfield 9, 3) := by decide +kernel
theorem dX0_goOn_24 : decode cX0_goOn 24 = .ok (.aload_n 0, 1) := by decide +kernel
theorem dX0_goOn_25 : decode cX0_goOn 25 = .ok (.getfield 15, 3) := by decide +kernel
theorem dX0_goOn_28 : decode cX0_goOn 28 = .ok (.lastore, 1) := by decide +kernel
theorem dX0_goOn_29 : decode cX0_goOn 29 = .ok (.aload_n 0, 1) := by decide +kernel
theorem dX0_goOn_30 : decode cX0_goOn 30 = .ok (.dup, 1) := by decide +kernel
theorem dX0_goOn_31 : decode cX0_goOn 31 = .ok (.getfield 9, 3) := by decide +kernel
theorem dX0_goOn_34 : decode cX0_goOn 34 = .ok (.iconst 1, 1) := by decide +kernel
theorem dX0_goOn_35 : decode cX0_goOn 35 = .ok (.iadd, 1) := by decide +kernel
theorem dX0_goOn_36 : decode cX0_goOn 36 = .ok (.putfield 9, 3) := by decide +kernel
theorem dX0_goOn_39 : decode cX0_goOn 39 = .ok (.aload_n 0, 1) := by decide +kernel
theorem dX0_goOn_40 : decode cX0_goOn 40 = .ok (.lload_n 1, 1) := by decide +kernel
theorem dX0_goOn_41 : decode cX0_goOn 41 = .ok (.putfield 15, 3) := by decide +kernel
theorem dX0_goOn_44 : decode cX0_goOn 44 = .ok (.return_, 1) := by decide +kernel
theorem dX0_goBackTo_0 : decode cX0_goBackTo 0 = .ok (.iload_n 1, 1) := by decide +kernel
theorem dX0_goBackTo_1 : decode cX0_goBackTo 1 = .ok (.ifCond .lt 26, 3) := by decide +kernel
theorem dX0_goBackTo_4 : decode cX0_goBackTo 4 = .ok (.iload_n 1, 1) := by decide +kernel
theorem dX0_goBackTo_5 : decode cX0_goBackTo 5 = .ok (.aload_n 0, 1) := by decide +kernel
theorem dX0_goBackTo_6 : decode cX0_goBackTo 6 = .ok (.getfield 9, 3) := by decide +kernel
theorem dX0_goBackTo_9 : decode cX0_goBackTo 9 = .ok (.if_icmp .ge 18, 3) := by decide +kernel
theorem dX0_goBackTo_12 : decode cX0_goBackTo 12 = .ok (.aload_n 0, 1) := by decide +kernel
theorem dX0_goBackTo_13 : decode cX0_goBackTo 13 = .ok (.aload_n 0, 1) := by decide +kernel
theorem dX0_goBackTo_14 : decode cX0_goBackTo 14 = .ok (.getfield 19, 3) := by decide +kernel
theorem dX0_goBackTo_17 : decode cX0_goBackTo 17 = .ok (.iload_n 1, 1) := by decide +kernel
theorem dX0_goBackTo_18 : decode cX0_goBackTo 18 = .ok (.laload, 1) := by decide +kernel
theorem dX0_goBackTo_19 : decode cX0_goBackTo 19 = .ok (.putfield 15, 3) := by decide +kernel
theorem dX0_goBackTo_22 : decode cX0_goBackTo 22 = .ok (.aload_n 0, 1) := by decide +kernel
theorem dX0_goBackTo_23 : decode cX0_goBackTo 23 = .ok (.iload_n 1, 1) := by decide +kernel
theorem dX0_goBackTo_24 : decode cX0_goBackTo 24 = .ok (.putfield 9, 3) := by decide +kernel
theorem dX0_goBackTo_27 : decode cX0_goBackTo 27 = .ok (.return_, 1) := by decide +kernel
theorem dX0_takeAll_0 : decode cX0_takeAll 0 = .ok (.aload_n 0, 1) := by decide +kernel
theorem dX0_takeAll_1 : decode cX0_takeAll 1 = .ok (.aload_n 1, 1) := by decide +kernel
theorem dX0_takeAll_2 : decode cX0_takeAll 2 = .ok (.getfield 9, 3) := by decide +kernel
theorem dX0_takeAll_5 : decode cX0_takeAll 5 = .ok (.putfield 9, 3) := by decide +kernel
theorem dX0_takeAll_8 : decode cX0_takeAll 8 = .ok (.aload_n 0, 1) := by decide +kernel
theorem dX0_takeAll_9 : decode cX0_takeAll 9 = .ok (.aload_n 1, 1) := by decide +kernel
theorem dX0_takeAll_10 : decode cX0_takeAll 10 = .ok (.getfield 15, 3) := by decide +kernel
theorem dX0_takeAll_13 : decode cX0_takeAll 13 = .ok (.putfield 15, 3) := by decide +kernel
theorem dX0_takeAll_16 : decode cX0_takeAll 16 = .ok (.aload_n 1, 1) := by decide +kernel
theorem dX0_takeAll_17 : decode cX0_takeAll 17 = .ok (.getfield 19, 3) := by decide +kernel
theorem dX0_takeAll_20 : decode cX0_takeAll 20 = .ok (.iconst 0, 1) := by decide +kernel
theorem dX0_takeAll_21 : decode cX0_takeAll 21 = .ok (.aload_n 0, 1) := by decide +kernel
theorem dX0_takeAll_22 : decode cX0_takeAll 22 = .ok (.getfield 19, 3) := by decide +kernel
theorem dX0_takeAll_25 : decode cX0_takeAll 25 = .ok (.iconst 0, 1) := by decide +kernel
theorem dX0_takeAll_26 : decode cX0_takeAll 26 = .ok (.bipush 40, 2) := by decide +kernel
theorem dX0_takeAll_28 : decode cX0_takeAll 28 = .ok (.invokestatic 23, 3) := by decide +kernel
theorem dX0_takeAll_31 : decode cX0_takeAll 31 = .ok (.return_, 1) := by decide +kernel
theorem dX1_griefOf_0 : decode cX1_griefOf 0 = .ok (.lload_n 0, 1) := by decide +kernel
theorem dX1_griefOf_1 : decode cX1_griefOf 1 = .ok (.iconst 5, 1) := by decide +kernel
theorem dX1_griefOf_2 : decode cX1_griefOf 2 = .ok (.iload_n 2, 1) := by decide +kernel
theorem dX1_griefOf_3 : decode cX1_griefOf 3 = .ok (.imul, 1) := by decide +kernel
theorem dX1_griefOf_4 : decode cX1_griefOf 4 = .ok (.lshr, 1) := by decide +kernel
theorem dX1_griefOf_5 : decode cX1_griefOf 5 = .ok (.ldc2_w 11, 3) := by decide +kernel
theorem dX1_griefOf_8 : decode cX1_griefOf 8 = .ok (.land, 1) := by decide +kernel
theorem dX1_griefOf_9 : decode cX1_griefOf 9 = .ok (.l2i, 1) := by decide +kernel
theorem dX1_griefOf_10 : decode cX1_griefOf 10 = .ok (.ireturn, 1) := by decide +kernel
set_option maxRecDepth 20000 in
theorem ggX1_griefOfAll_X1_griefOf : GoodIn wsX1_griefOfAll wsX1_griefOf := goodIn_r _ [4, 5] (by decide +kernel) (by decide +kernel)
set_option maxRecDepth 20000 in
theorem gX1_griefOfAll_X1_griefOf : GoodIn wsX1_griefOfAll (va_wsS RX1 13 yX1_griefOf wsX1_griefOf) := goodIn_app (goodIn_of _ (by decide +kernel)) ggX1_griefOfAll_X1_griefOf
theorem dX1_griefOfAll_0 : decode cX1_griefOfAll 0 = .ok (.iconst 0, 1) := by decide +kernel
theorem dX1_griefOfAll_1 : decode cX1_griefOfAll 1 = .ok (.istore_n 2, 1) := by decide +kernel
theorem dX1_griefOfAll_2 : decode cX1_griefOfAll 2 = .ok (.iconst 0, 1) := by decide +kernel
theorem dX1_griefOfAll_3 : decode cX1_griefOfAll 3 = .ok (.istore_n 3, 1) := by decide +kernel
theorem dX1_griefOfAll_4 : decode cX1_griefOfAll 4 = .ok (.iload_n 3, 1) := by decide +kernel
theorem dX1_griefOfAll_5 : decode cX1_griefOfAll 5 = .ok (.bipush 6, 2) := by decide +kernel
theorem dX1_griefOfAll_7 : decode cX1_griefOfAll 7 = .ok (.if_icmp .ge 17, 3) := by decide +kernel
theorem dX1_griefOfAll_10 : decode cX1_griefOfAll 10 = .ok (.iload_n 2, 1) := by decide +kernel
theorem dX1_griefOfAll_11 : decode cX1_griefOfAll 11 = .ok (.lload_n 0, 1) := by decide +kernel
theorem dX1_griefOfAll_12 : decode cX1_griefOfAll 12 = .ok (.iload_n 3, 1) := by decide +kernel
theorem dX1_griefOfAll_13 : decode cX1_griefOfAll 13 = .ok (.invokestatic 13, 3) := by decide +kernel
theorem dX1_griefOfAll_16 : decode cX1_griefOfAll 16 = .ok (.iadd, 1) := by decide +kernel
theorem dX1_griefOfAll_17 : decode cX1_griefOfAll 17 = .ok (.istore_n 2, 1) := by decide +kernel
theorem dX1_griefOfAll_18 : decode cX1_griefOfAll 18 = .ok (.iinc 3 1, 3) := by decide +kernel
theorem dX1_griefOfAll_21 : decode cX1_griefOfAll 21 = .ok (.goto (-17), 3) := by decide +kernel
theorem dX1_griefOfAll_24 : decode cX1_griefOfAll 24 = .ok (.iload_n 2, 1) := by decide +kernel
theorem dX1_griefOfAll_25 : decode cX1_griefOfAll 25 = .ok (.ireturn, 1) := by decide +kernel
theorem dX1_isIn_0 : decode cX1_isIn 0 = .ok (.lload_n 0, 1) := by decide +kernel
theorem dX1_isIn_1 : decode cX1_isIn 1 = .ok (.bipush 30, 2) := by decide +kernel
theorem dX1_isIn_3 : decode cX1_isIn 3 = .ok (.iload_n 2, 1) := by decide +kernel
theorem dX1_isIn_4 : decode cX1_isIn 4 = .ok (.iadd, 1) := by decide +kernel
theorem dX1_isIn_5 : decode cX1_isIn 5 = .ok (.lshr, 1) := by decide +kernel
theorem dX1_isIn_6 : decode cX1_isIn 6 = .ok (.lconst 1, 1) := by decide +kernel
theorem dX1_isIn_7 : decode cX1_isIn 7 = .ok (.land, 1) := by decide +kernel
theorem dX1_isIn_8 : decode cX1_isIn 8 = .ok (.lconst 0, 1) := by decide +kernel
theorem dX1_isIn_9 : decode cX1_isIn 9 = .ok (.lcmp, 1) := by decide +kernel
theorem dX1_isIn_10 : decode cX1_isIn 10 = .ok (.ifCond .eq 7, 3) := by decide +kernel
theorem dX1_isIn_13 : decode cX1_isIn 13 = .ok (.iconst 1, 1) := by decide +kernel
theorem dX1_isIn_14 : decode cX1_isIn 14 = .ok (.goto 4, 3) := by decide +kernel
theorem dX1_isIn_17 : decode cX1_isIn 17 = .ok (.iconst 0, 1) := by decide +kernel
theorem dX1_isIn_18 : decode cX1_isIn 18 = .ok (.ireturn, 1) := by decide +kernel
theorem dX1_insiders_0 : decode cX1_insiders 0 = .ok (.lload_n 0, 1) := by decide +kernel
theorem dX1_insiders_1 : decode cX1_insiders 1 = .ok (.bipush 30, 2) := by decide +kernel
theorem dX1_insiders_3 : decode cX1_insiders 3 = .ok (.lshr, 1) := by decide +kernel
theorem dX1_insiders_4 : decode cX1_insiders 4 = .ok (.l2i, 1) := by decide +kernel
theorem dX1_insiders_5 : decode cX1_insiders 5 = .ok (.ireturn, 1) := by decide +kernel
set_option maxRecDepth 20000 in
theorem ggX1_howManyIn_X1_insiders : GoodIn wsX1_howManyIn wsX1_insiders := goodIn_r _ [4] (by decide +kernel) (by decide +kernel)
set_option maxRecDepth 20000 in
theorem gX1_howManyIn_X1_insiders : GoodIn wsX1_howManyIn (va_wsS RX1 17 yX1_insiders wsX1_insiders) := goodIn_app (goodIn_of _ (by decide +kernel)) ggX1_howManyIn_X1_insiders
set_option maxRecDepth 20000 in
theorem ggX1_howManyIn_J6_bitCount_0f7a4 : GoodIn wsX1_howManyIn wsJ6_bitCount_0f7a4 := goodIn_r _ [8, 9, 10, 11] (by decide +kernel) (by decide +kernel)
set_option maxRecDepth 20000 in
theorem gX1_howManyIn_J6_bitCount_0f7a4 : GoodIn wsX1_howManyIn (va_wsS RX1 21 yJ6_bitCount_0f7a4 wsJ6_bitCount_0f7a4) := goodIn_app (goodIn_of _ (by decide +kernel)) ggX1_howManyIn_J6_bitCount_0f7a4
theorem dX1_howManyIn_0 : decode cX1_howManyIn 0 = .ok (.lload_n 0, 1) := by decide +kernel
theorem dX1_howManyIn_1 : decode cX1_howManyIn 1 = .ok (.invokestatic 17, 3) := by decide +kernel
theorem dX1_howManyIn_4 : decode cX1_howManyIn 4 = .ok (.invokestatic 21, 3) := by decide +kernel
theorem dX1_howManyIn_7 : decode cX1_howManyIn 7 = .ok (.ireturn, 1) := by decide +kernel
theorem dX1_withGrief_0 : decode cX1_withGrief 0 = .ok (.iconst 5, 1) := by decide +kernel
theorem dX1_withGrief_1 : decode cX1_withGrief 1 = .ok (.iload_n 2, 1) := by decide +kernel
theorem dX1_withGrief_2 : decode cX1_withGrief 2 = .ok (.imul, 1) := by decide +kernel
theorem dX1_withGrief_3 : decode cX1_withGrief 3 = .ok (.istore 4, 2) := by decide +kernel
theorem dX1_withGrief_5 : decode cX1_withGrief 5 = .ok (.lload_n 0, 1) := by decide +kernel
theorem dX1_withGrief_6 : decode cX1_withGrief 6 = .ok (.ldc2_w 11, 3) := by decide +kernel
theorem dX1_withGrief_9 : decode cX1_withGrief 9 = .ok (.iload 4, 2) := by decide +kernel
theorem dX1_withGrief_11 : decode cX1_withGrief 11 = .ok (.lshl, 1) := by decide +kernel
theorem dX1_withGrief_12 : decode cX1_withGrief 12 = .ok (.ldc2_w 27, 3) := by decide +kernel
theorem dX1_withGrief_15 : decode cX1_withGrief 15 = .ok (.lxor, 1) := by decide +kernel
theorem dX1_withGrief_16 : decode cX1_withGrief 16 = .ok (.land, 1) := by decide +kernel
theorem dX1_withGrief_17 : decode cX1_withGrief 17 = .ok (.iload_n 3, 1) := by decide +kernel
theorem dX1_withGrief_18 : decode cX1_withGrief 18 = .ok (.i2l, 1) := by decide +kernel
theorem dX1_withGrief_19 : decode cX1_withGrief 19 = .ok (.iload 4, 2) := by decide +kernel
theorem dX1_withGrief_21 : decode cX1_withGrief 21 = .ok (.lshl, 1) := by decide +kernel
theorem dX1_withGrief_22 : decode cX1_withGrief 22 = .ok (.lor, 1) := by decide +kernel
theorem dX1_withGrief_23 : decode cX1_withGrief 23 = .ok (.lreturn, 1) := by decide +kernel
set_option maxRecDepth 20000 in
theorem ggX1_withNew_X1_withGrief : GoodIn wsX1_withNew wsX1_withGrief := goodIn_r _ [4, 5, 6] (by decide +kernel) (by decide +kernel)
set_option maxRecDepth 20000 in
theorem gX1_withNew_X1_withGrief : GoodIn wsX1_withNew (va_wsS RX1 29 yX1_withGrief wsX1_withGrief) := goodIn_app (goodIn_of _ (by decide +kernel)) ggX1_withNew_X1_withGrief
theorem dX1_withNew_0 : decode cX1_withNew 0 = .ok (.lload_n 0, 1) := by decide +kernel
theorem dX1_withNew_1 : decode cX1_withNew 1 = .ok (.iload_n 2, 1) := by decide +kernel
theorem dX1_withNew_2 : decode cX1_withNew 2 = .ok (.iload_n 3, 1) := by decide +kernel
theorem dX1_withNew_3 : decode cX1_withNew 3 = .ok (.invokestatic 29, 3) := by decide +kernel
theorem dX1_withNew_6 : decode cX1_withNew 6 = .ok (.lconst 1, 1) := by decide +kernel
theorem dX1_withNew_7 : decode cX1_withNew 7 = .ok (.bipush 30, 2) := by decide +kernel
theorem dX1_withNew_9 : decode cX1_withNew 9 = .ok (.iload_n 2, 1) := by decide +kernel
theorem dX1_withNew_10 : decode cX1_withNew 10 = .ok (.iadd, 1) := by decide +kernel
theorem dX1_withNew_11 : decode cX1_withNew 11 = .ok (.lshl, 1) := by decide +kernel
theorem dX1_withNew_12 : decode cX1_withNew 12 = .ok (.lor, 1) := by decide +kernel
theorem dX1_withNew_13 : decode cX1_withNew 13 = .ok (.lreturn, 1) := by decide +kernel
set_option maxRecDepth 20000 in
theorem ggX1_without_X1_withGrief : GoodIn wsX1_without wsX1_withGrief := goodIn_r _ [5, 6, 1] (by decide +kernel) (by decide +kernel)
set_option maxRecDepth 20000 in
theorem gX1_without_X1_withGrief : GoodIn wsX1_without (va_wsS RX1 29 yX1_withGrief wsX1_withGrief) := goodIn_app (goodIn_of _ (by decide +kernel)) ggX1_without_X1_withGrief
theorem dX1_without_0 : decode cX1_without 0 = .ok (.lload_n 0, 1) := by decide +kernel
theorem dX1_without_1 : decode cX1_without 1 = .ok (.iload_n 2, 1) := by decide +kernel
theorem dX1_without_2 : decode cX1_without 2 = .ok (.iconst 0, 1) := by decide +kernel
theorem dX1_without_3 : decode cX1_without 3 = .ok (.invokestatic 29, 3) := by decide +kernel
theorem dX1_without_6 : decode cX1_without 6 = .ok (.lconst 1, 1) := by decide +kernel
theorem dX1_without_7 : decode cX1_without 7 = .ok (.bipush 30, 2) := by decide +kernel
theorem dX1_without_9 : decode cX1_without 9 = .ok (.iload_n 2, 1) := by decide +kernel
theorem dX1_without_10 : decode cX1_without 10 = .ok (.iadd, 1) := by decide +kernel
theorem dX1_without_11 : decode cX1_without 11 = .ok (.lshl, 1) := by decide +kernel
theorem dX1_without_12 : decode cX1_without 12 = .ok (.ldc2_w 27, 3) := by decide +kernel
theorem dX1_without_15 : decode cX1_without 15 = .ok (.lxor, 1) := by decide +kernel
theorem dX1_without_16 : decode cX1_without 16 = .ok (.land, 1) := by decide +kernel
theorem dX1_without_17 : decode cX1_without 17 = .ok (.lreturn, 1) := by decide +kernel
theorem dX2_init_0 : decode cX2_init 0 = .ok (.aload_n 0, 1) := by decide +kernel
theorem dX2_init_1 : decode cX2_init 1 = .ok (.invokespecial 3, 3) := by decide +kernel
theorem dX2_init_4 : decode cX2_init 4 = .ok (.aload_n 0, 1) := by decide +kernel
theorem dX2_init_5 : decode cX2_init 5 = .ok (.iconst 0, 1) := by decide +kernel
theorem dX2_init_6 : decode cX2_init 6 = .ok (.putfield 9, 3) := by decide +kernel
theorem dX2_init_9 : decode cX2_init 9 = .ok (.aload_n 0, 1) := by decide +kernel
theorem dX2_init_10 : decode cX2_init 10 = .ok (.iconst 0, 1) := by decide +kernel
theorem dX2_init_11 : decode cX2_init 11 = .ok (.putfield 15, 3) := by decide +kernel
theorem dX2_init_14 : decode cX2_init 14 = .ok (.aload_n 0, 1) := by decide +kernel
theorem dX2_init_15 : decode cX2_init 15 = .ok (.iconst 4, 1) := by decide +kernel
theorem dX2_init_16 : decode cX2_init 16 = .ok (.newarray .int, 2) := by decide +kernel
theorem dX2_init_18 : decode cX2_init 18 = .ok (.putfield 18, 3) := by decide +kernel
theorem dX2_init_21 : decode cX2_init 21 = .ok (.aload_n 0, 1) := by decide +kernel
theorem dX2_init_22 : decode cX2_init 22 = .ok (.bipush 6, 2) := by decide +kernel
theorem dX2_init_24 : decode cX2_init 24 = .ok (.newarray .int, 2) := by decide +kernel
theorem dX2_init_26 : decode cX2_init 26 = .ok (.putfield 22, 3) := by decide +kernel
theorem dX2_init_29 : decode cX2_init 29 = .ok (.aload_n 0, 1) := by decide +kernel
theorem dX2_init_30 : decode cX2_init 30 = .ok (.bipush 6, 2) := by decide +kernel
theorem dX2_init_32 : decode cX2_init 32 = .ok (.newarray .int, 2) := by decide +kernel
theorem dX2_init_34 : decode cX2_init 34 = .ok (.putfield 25, 3) := by decide +kernel
theorem dX2_init_37 : decode cX2_init 37 = .ok (.aload_n 0, 1) := by decide +kernel
theorem dX2_init_38 : decode cX2_init 38 = .ok (.bipush 6, 2) := by decide +kernel
theorem dX2_init_40 : decode cX2_init 40 = .ok (.newarray .int, 2) := by decide +kernel
theorem dX2_init_42 : decode cX2_init 42 = .ok (.putfield 28, 3) := by decide +kernel
theorem dX2_init_45 : decode cX2_init 45 = .ok (.aload_n 0, 1) := by decide +kernel
theorem dX2_init_46 : decode cX2_init 46 = .ok (.bipush 6, 2) := by decide +kernel
theorem dX2_init_48 : decode cX2_init 48 = .ok (.newarray .int, 2) := by decide +kernel
theorem dX2_init_50 : decode cX2_init 50 = .ok (.putfield 31, 3) := by decide +kernel
theorem dX2_init_53 : decode cX2_init 53 = .ok (.return_, 1) := by decide +kernel
theorem dX2_clear_0 : decode cX2_clear 0 = .ok (.aload_n 0, 1) := by decide +kernel
theorem dX2_clear_1 : decode cX2_clear 1 = .ok (.iconst 0, 1) := by decide +kernel
theorem dX2_clear_2 : decode cX2_clear 2 = .ok (.putfield 9, 3) := by decide +kernel
theorem dX2_clear_5 : decode cX2_clear 5 = .ok (.aload_n 0, 1) := by decide +kernel
theorem dX2_clear_6 : decode cX2_clear 6 = .ok (.iconst 0, 1) := by decide +kernel
theorem dX2_clear_7 : decode cX2_clear 7 = .ok (.putfield 15, 3) := by decide +kernel
theorem dX2_clear_10 : decode cX2_clear 10 = .ok (.iconst 0, 1) := by decide +kernel
theorem dX2_clear_11 : decode cX2_clear 11 = .ok (.istore_n 1, 1) := by decide +kernel
theorem dX2_clear_12 : decode cX2_clear 12 = .ok (.iload_n 1, 1) := by decide +kernel
theorem dX2_clear_13 : decode cX2_clear 13 = .ok (.bipush 6, 2) := by decide +kernel
theorem dX2_clear_15 : decode cX2_clear 15 = .ok (.if_icmp .ge 23, 3) := by decide +kernel
theorem dX2_clear_18 : decode cX2_clear 18 = .ok (.aload_n 0, 1) := by decide +kernel
theorem dX2_clear_19 : decode cX2_clear 19 = .ok (.getfield 28, 3) := by decide +kernel
theorem dX2_clear_22 : decode cX2_clear 22 = .ok (.iload_n 1, 1) := by decide +kernel
theorem dX2_clear_23 : decode cX2_clear 23 = .ok (.iconst 0, 1) := by decide +kernel
theorem dX2_clear_24 : decode cX2_clear 24 = .ok (.iastore, 1) := by decide +kernel
theorem dX2_clear_25 : decode cX2_clear 25 = .ok (.aload_n 0, 1) := by decide +kernel
theorem dX2_clear_26 : decode cX2_clear 26 = .ok (.getfield 31, 3) := by decide +kernel
theorem dX2_clear_29 : decode cX2_clear 29 = .ok (.iload_n 1, 1) := by decide +kernel
theorem dX2_clear_30 : decode cX2_clear 30 = .ok (.iconst 0, 1) := by decide +kernel
theorem dX2_clear_31 : decode cX2_clear 31 = .ok (.iastore, 1) := by decide +kernel
theorem dX2_clear_32 : decode cX2_clear 32 = .ok (.iinc 1 1, 3) := by decide +kernel
theorem dX2_clear_35 : decode cX2_clear 35 = .ok (.goto (-23), 3) := by decide +kernel
theorem dX2_clear_38 : decode cX2_clear 38 = .ok (.return_, 1) := by decide +kernel
set_option maxRecDepth 20000 in
theorem ggX2_arrival_X1_withNew : GoodIn wsX2_arrival wsX1_withNew := goodIn_r _ [5, 6, 7, 4, 8, 9, 10] (by decide +kernel) (by decide +kernel)
set_option maxRecDepth 20000 in
theorem gX2_arrival_X1_withNew_n34 : GoodIn wsX2_arrival (wsX1_withNew) := ggX2_arrival_X1_withNew
theorem dX2_arrival_0 : decode cX2_arrival 0 = .ok (.lconst 0, 1) := by decide +kernel
theorem dX2_arrival_1 : decode cX2_arrival 1 = .ok (.lstore_n 1, 1) := by decide +kernel
theorem dX2_arrival_2 : decode cX2_arrival 2 = .ok (.iconst 0, 1) := by decide +kernel
theorem dX2_arrival_3 : decode cX2_arrival 3 = .ok (.istore_n 3, 1) := by decide +kernel
theorem dX2_arrival_4 : decode cX2_arrival 4 = .ok (.iload_n 3, 1) := by decide +kernel
theorem dX2_arrival_5 : decode cX2_arrival 5 = .ok (.aload_n 0, 1) := by decide +kernel
theorem dX2_arrival_6 : decode cX2_arrival 6 = .ok (.getfield 9, 3) := by decide +kernel
theorem dX2_arrival_9 : decode cX2_arrival 9 = .ok (.if_icmp .ge 21, 3) := by decide +kernel
theorem dX2_arrival_12 : decode cX2_arrival 12 = .ok (.lload_n 1, 1) := by decide +kernel
theorem dX2_arrival_13 : decode cX2_arrival 13 = .ok (.iload_n 3, 1) := by decide +kernel
theorem dX2_arrival_14 : decode cX2_arrival 14 = .ok (.aload_n 0, 1) := by decide +kernel
theorem dX2_arrival_15 : decode cX2_arrival 15 = .ok (.getfield 25, 3) := by decide +kernel
theorem dX2_arrival_18 : decode cX2_arrival 18 = .ok (.iload_n 3, 1) := by decide +kernel
theorem dX2_arrival_19 : decode cX2_arrival 19 = .ok (.iaload, 1) := by decide +kernel
theorem dX2_arrival_20 : decode cX2_arrival 20 = .ok (.invokestatic 34, 3) := by decide +kernel
theorem dX2_arrival_23 : decode cX2_arrival 23 = .ok (.lstore_n 1, 1) := by decide +kernel
theorem dX2_arrival_24 : decode cX2_arrival 24 = .ok (.iinc 3 1, 3) := by decide +kernel
theorem dX2_arrival_27 : decode cX2_arrival 27 = .ok (.goto (-23), 3) := by decide +kernel
theorem dX2_arrival_30 : decode cX2_arrival 30 = .ok (.lload_n 1, 1) := by decide +kernel
theorem dX2_arrival_31 : decode cX2_arrival 31 = .ok (.lreturn, 1) := by decide +kernel
theorem dX2_bounded_0 : decode cX2_bounded 0 = .ok (.iconst 0, 1) := by decide +kernel
theorem dX2_bounded_1 : decode cX2_bounded 1 = .ok (.bipush 20, 2) := by decide +kernel
theorem dX2_bounded_3 : decode cX2_bounded 3 = .ok (.iload_n 0, 1) := by decide +kernel
theorem dX2_bounded_4 : decode cX2_bounded 4 = .ok (.invokestatic 40, 3) := by decide +kernel
theorem dX2_bounded_7 : decode cX2_bounded 7 = .ok (.invokestatic 46, 3) := by decide +kernel
theorem dX2_bounded_10 : decode cX2_bounded 10 = .ok (.ireturn, 1) := by decide +kernel
set_option maxRecDepth 20000 in
theorem ggX2_riseByTune_X2_riseOfDancer : GoodIn wsX2_riseByTune wsX2_riseOfDancer := goodIn_r _ [8] (by decide +kernel) (by decide +kernel)
set_option maxRecDepth 20000 in
theorem gX2_riseByTune_X2_riseOfDancer : GoodIn wsX2_riseByTune (va_wsS RX2 49 yX2_riseOfDancer wsX2_riseOfDancer) := goodIn_app (goodIn_of _ (by decide +kernel)) ggX2_riseByTune_X2_riseOfDancer
theorem dX2_riseByTune_0 : decode cX2_riseByTune 0 = .ok (.iload_n 0, 1) := by decide +kernel
theorem dX2_riseByTune_1 : decode cX2_riseByTune 1 = .ok (.tableswitch 75 1 5 #[35, 57, 63, 41, 57], 35) := by decide +kernel
theorem dX2_riseByTune_36 : decode cX2_riseByTune 36 = .ok (.iload_n 1, 1) := by decide +kernel
theorem dX2_riseByTune_37 : decode cX2_riseByTune 37 = .ok (.iload_n 2, 1) := by decide +kernel
theorem dX2_riseByTune_38 : decode cX2_riseByTune 38 = .ok (.invokestatic 49, 3) := by decide +kernel
theorem dX2_riseByTune_41 : decode cX2_riseByTune 41 = .ok (.ireturn, 1) := by decide +kernel
theorem dX2_riseByTune_42 : decode cX2_riseByTune 42 = .ok (.iload_n 1, 1) := by decide +kernel
theorem dX2_riseByTune_43 : decode cX2_riseByTune 43 = .ok (.iconst 1, 1) := by decide +kernel
theorem dX2_riseByTune_44 : decode cX2_riseByTune 44 = .ok (.if_icmp .ne 8, 3) := by decide +kernel
theorem dX2_riseByTune_47 : decode cX2_riseByTune 47 = .ok (.bipush (-20), 2) := by decide +kernel
theorem dX2_riseByTune_49 : decode cX2_riseByTune 49 = .ok (.goto 8, 3) := by decide +kernel
theorem dX2_riseByTune_52 : decode cX2_riseByTune 52 = .ok (.iload_n 1, 1) := by decide +kernel
theorem dX2_riseByTune_53 : decode cX2_riseByTune 53 = .ok (.iload_n 2, 1) := by decide +kernel
theorem dX2_riseByTune_54 : decode cX2_riseByTune 54 = .ok (.invokestatic 49, 3) := by decide +kernel
theorem dX2_riseByTune_57 : decode cX2_riseByTune 57 = .ok (.ireturn, 1) := by decide +kernel
theorem dX2_riseByTune_58 : decode cX2_riseByTune 58 = .ok (.iload_n 2, 1) := by decide +kernel
theorem dX2_riseByTune_59 : decode cX2_riseByTune 59 = .ok (.iconst 1, 1) := by decide +kernel
theorem dX2_riseByTune_60 : decode cX2_riseByTune 60 = .ok (.invokestatic 40, 3) := by decide +kernel
theorem dX2_riseByTune_63 : decode cX2_riseByTune 63 = .ok (.ireturn, 1) := by decide +kernel
theorem dX2_riseByTune_64 : decode cX2_riseByTune 64 = .ok (.iload_n 2, 1) := by decide +kernel
theorem dX2_riseByTune_65 : decode cX2_riseByTune 65 = .ok (.ifCond .le 9, 3) := by decide +kernel
theorem dX2_riseByTune_68 : decode cX2_riseByTune 68 = .ok (.iconst 2, 1) := by decide +kernel
theorem dX2_riseByTune_69 : decode cX2_riseByTune 69 = .ok (.iload_n 2, 1) := by decide +kernel
theorem dX2_riseByTune_70 : decode cX2_riseByTune 70 = .ok (.imul, 1) := by decide +kernel
theorem dX2_riseByTune_71 : decode cX2_riseByTune 71 = .ok (.goto 4, 3) := by decide +kernel
theorem dX2_riseByTune_74 : decode cX2_riseByTune 74 = .ok (.iload_n 2, 1) := by decide +kernel
theorem dX2_riseByTune_75 : decode cX2_riseByTune 75 = .ok (.ireturn, 1) := by decide +kernel
theorem dX2_riseByTune_76 : decode cX2_riseByTune 76 = .ok (.iload_n 2, 1) := by decide +kernel
theorem dX2_riseByTune_77 : decode cX2_riseByTune 77 = .ok (.ireturn, 1) := by decide +kernel
theorem dX2_riseOfDancer_0 : decode cX2_riseOfDancer 0 = .ok (.iload_n 0, 1) := by decide +kernel
theorem dX2_riseOfDancer_1 : decode cX2_riseOfDancer 1 = .ok (.iconst 1, 1) := by decide +kernel
theorem dX2_riseOfDancer_2 : decode cX2_riseOfDancer 2 = .ok (.if_icmp .eq 8, 3) := by decide +kernel
theorem dX2_riseOfDancer_5 : decode cX2_riseOfDancer 5 = .ok (.iload_n 0, 1) := by decide +kernel
theorem dX2_riseOfDancer_6 : decode cX2_riseOfDancer 6 = .ok (.iconst 2, 1) := by decide +kernel
theorem dX2_riseOfDancer_7 : decode cX2_riseOfDancer 7 = .ok (.if_icmp .ne 9, 3) := by decide +kernel
theorem dX2_riseOfDancer_10 : decode cX2_riseOfDancer 10 = .ok (.iload_n 1, 1) := by decide +kernel
theorem dX2_riseOfDancer_11 : decode cX2_riseOfDancer 11 = .ok (.iconst 1, 1) := by decide +kernel
theorem dX2_riseOfDancer_12 : decode cX2_riseOfDancer 12 = .ok (.isub, 1) := by decide +kernel
theorem dX2_riseOfDancer_13 : decode cX2_riseOfDancer 13 = .ok (.goto 4, 3) := by decide +kernel
theorem dX2_riseOfDancer_16 : decode cX2_riseOfDancer 16 = .ok (.iload_n 1, 1) := by decide +kernel
theorem dX2_riseOfDancer_17 : decode cX2_riseOfDancer 17 = .ok (.ireturn, 1) := by decide +kernel
theorem dX2_riseByName_0 : decode cX2_riseByName 0 = .ok (.iload_n 0, 1) := by decide +kernel
theorem dX2_riseByName_1 : decode cX2_riseByName 1 = .ok (.tableswitch 35 2 5 #[31, 33, 35, 31], 31) := by decide +kernel
theorem dX2_riseByName_32 : decode cX2_riseByName 32 = .ok (.iconst 1, 1) := by decide +kernel
theorem dX2_riseByName_33 : decode cX2_riseByName 33 = .ok (.ireturn, 1) := by decide +kernel
theorem dX2_riseByName_34 : decode cX2_riseByName 34 = .ok (.iconst 4, 1) := by decide +kernel
theorem dX2_riseByName_35 : decode cX2_riseByName 35 = .ok (.ireturn, 1) := by decide +kernel
theorem dX2_riseByName_36 : decode cX2_riseByName 36 = .ok (.iconst 2, 1) := by decide +kernel
theorem dX2_riseByName_37 : decode cX2_riseByName 37 = .ok (.ireturn, 1) := by decide +kernel
set_option maxRecDepth 20000 in
theorem ggX2_griefBehind_X2_riseByTune : GoodIn wsX2_griefBehind wsX2_riseByTune := goodIn_r _ [4, 5, 6, 7, 8, 9, 10, 3, 11] (by decide +kernel) (by decide +kernel)
set_option maxRecDepth 20000 in
theorem gX2_griefBehind_X2_riseByTune : GoodIn wsX2_griefBehind (va_wsS RX2 52 yX2_riseByTune wsX2_riseByTune) := goodIn_app (goodIn_of _ (by decide +kernel)) ggX2_griefBehind_X2_riseByTune
set_option maxRecDepth 20000 in
theorem ggX2_griefBehind_X2_bounded : GoodIn wsX2_griefBehind wsX2_bounded := goodIn_r _ [14, 5, 6, 7, 8, 15, 16, 17] (by decide +kernel) (by decide +kernel)
set_option maxRecDepth 20000 in
theorem gX2_griefBehind_X2_bounded : GoodIn wsX2_griefBehind (va_wsS RX2 56 yX2_bounded wsX2_bounded) := goodIn_app (goodIn_of _ (by decide +kernel)) ggX2_griefBehind_X2_bounded
theorem dX2_griefBehind_0 : decode cX2_griefBehind 0 = .ok (.iload_n 3, 1) := by decide +kernel
theorem dX2_griefBehind_1 : decode cX2_griefBehind 1 = .ok (.iload_n 0, 1) := by decide +kernel
theorem dX2_griefBehind_2 : decode cX2_griefBehind 2 = .ok (.iload_n 1, 1) := by decide +kernel
theorem dX2_griefBehind_3 : decode cX2_griefBehind 3 = .ok (.iload_n 2, 1) := by decide +kernel
theorem dX2_griefBehind_4 : decode cX2_griefBehind 4 = .ok (.invokestatic 52, 3) := by decide +kernel
theorem dX2_griefBehind_7 : decode cX2_griefBehind 7 = .ok (.iadd, 1) := by decide +kernel
theorem dX2_griefBehind_8 : decode cX2_griefBehind 8 = .ok (.invokestatic 56, 3) := by decide +kernel
theorem dX2_griefBehind_11 : decode cX2_griefBehind 11 = .ok (.ireturn, 1) := by decide +kernel
set_option maxRecDepth 20000 in
theorem ggX2_afterTune_X1_isIn : GoodIn wsX2_afterTune wsX1_isIn := goodIn_r _ [6] (by decide +kernel) (by decide +kernel)
set_option maxRecDepth 20000 in
theorem gX2_afterTune_X1_isIn_n60 : GoodIn wsX2_afterTune (wsX1_isIn) := ggX2_afterTune_X1_isIn
set_option maxRecDepth 20000 in
theorem ggX2_afterTune_X1_griefOf : GoodIn wsX2_afterTune wsX1_griefOf := goodIn_r _ [8, 9] (by decide +kernel) (by decide +kernel)
set_option maxRecDepth 20000 in
theorem gX2_afterTune_X1_griefOf_n64 : GoodIn wsX2_afterTune (wsX1_griefOf) := ggX2_afterTune_X1_griefOf
set_option maxRecDepth 20000 in
theorem ggX2_afterTune_X2_griefBehind : GoodIn wsX2_afterTune wsX2_griefBehind := goodIn_r _ [13, 14, 15, 12, 16, 17, 18, 19, 20, 21, 22, 23, 24, 25, 26, 27, 28, 29] (by decide +kernel) (by decide +kernel)
set_option maxRecDepth 20000 in
theorem gX2_afterTune_X2_griefBehind : GoodIn wsX2_afterTune (va_wsS RX2 68 yX2_griefBehind wsX2_griefBehind) := goodIn_app (goodIn_of _ (by decide +kernel)) ggX2_afterTune_X2_griefBehind
set_option maxRecDepth 20000 in
theorem ggX2_afterTune_X1_withGrief : GoodIn wsX2_afterTune wsX1_withGrief := goodIn_r _ [31, 9, 32] (by decide +kernel) (by decide +kernel)
set_option maxRecDepth 20000 in
theorem gX2_afterTune_X1_withGrief_n72 : GoodIn wsX2_afterTune (wsX1_withGrief) := ggX2_afterTune_X1_withGrief
set_option maxRecDepth 20000 in
theorem ggX2_afterTune_X2_withoutTheSeen : GoodIn wsX2_afterTune wsX2_withoutTheSeen := goodIn_r _ [36, 1, 37, 38, 5, 39, 7, 8, 9, 40, 41, 42, 12, 43, 2, 44, 45, 46, 32, 47, 30, 31, 48, 49, 50, 51, 52, 53, 54] (by decide +kernel) (by decide +kernel)
set_option maxRecDepth 20000 in
theorem gX2_afterTune_X2_withoutTheSeen : GoodIn wsX2_afterTune (wsV RX2 75 RX2 yX2_withoutTheSeen wsX2_withoutTheSeen) := goodIn_app (goodIn_of _ (by decide +kernel)) ggX2_afterTune_X2_withoutTheSeen
theorem dX2_afterTune_0 : decode cX2_afterTune 0 = .ok (.lload_n 1, 1) := by decide +kernel
theorem dX2_afterTune_1 : decode cX2_afterTune 1 = .ok (.lstore 4, 2) := by decide +kernel
theorem dX2_afterTune_3 : decode cX2_afterTune 3 = .ok (.iconst 0, 1) := by decide +kernel
theorem dX2_afterTune_4 : decode cX2_afterTune 4 = .ok (.istore 6, 2) := by decide +kernel
theorem dX2_afterTune_6 : decode cX2_afterTune 6 = .ok (.iload 6, 2) := by decide +kernel
theorem dX2_afterTune_8 : decode cX2_afterTune 8 = .ok (.aload_n 0, 1) := by decide +kernel
theorem dX2_afterTune_9 : decode cX2_afterTune 9 = .ok (.getfield 9, 3) := by decide +kernel
theorem dX2_afterTune_12 : decode cX2_afterTune 12 = .ok (.if_icmp .ge 54, 3) := by decide +kernel
theorem dX2_afterTune_15 : decode cX2_afterTune 15 = .ok (.lload_n 1, 1) := by decide +kernel
theorem dX2_afterTune_16 : decode cX2_afterTune 16 = .ok (.iload 6, 2) := by decide +kernel
theorem dX2_afterTune_18 : decode cX2_afterTune 18 = .ok (.invokestatic 60, 3) := by decide +kernel
theorem dX2_afterTune_21 : decode cX2_afterTune 21 = .ok (.ifCond .eq 39, 3) := by decide +kernel
theorem dX2_afterTune_24 : decode cX2_afterTune 24 = .ok (.aload_n 0, 1) := by decide +kernel
theorem dX2_afterTune_25 : decode cX2_afterTune 25 = .ok (.getfield 22, 3) := by decide +kernel
theorem dX2_afterTune_28 : decode cX2_afterTune 28 = .ok (.iload 6, 2) := by decide +kernel
theorem dX2_afterTune_30 : decode cX2_afterTune 30 = .ok (.iaload, 1) := by decide +kernel
theorem dX2_afterTune_31 : decode cX2_afterTune 31 = .ok (.iload_n 3, 1) := by decide +kernel
theorem dX2_afterTune_32 : decode cX2_afterTune 32 = .ok (.aload_n 0, 1) := by decide +kernel
theorem dX2_afterTune_33 : decode cX2_afterTune 33 = .ok (.getfield 18, 3) := by decide +kernel
theorem dX2_afterTune_36 : decode cX2_afterTune 36 = .ok (.iload_n 3, 1) := by decide +kernel
theorem dX2_afterTune_37 : decode cX2_afterTune 37 = .ok (.iaload, 1) := by decide +kernel
theorem dX2_afterTune_38 : decode cX2_afterTune 38 = .ok (.lload_n 1, 1) := by decide +kernel
theorem dX2_afterTune_39 : decode cX2_afterTune 39 = .ok (.iload 6, 2) := by decide +kernel
theorem dX2_afterTune_41 : decode cX2_afterTune 41 = .ok (.invokestatic 64, 3) := by decide +kernel
theorem dX2_afterTune_44 : decode cX2_afterTune 44 = .ok (.invokestatic 68, 3) := by decide +kernel
theorem dX2_afterTune_47 : decode cX2_afterTune 47 = .ok (.istore 7, 2) := by decide +kernel
theorem dX2_afterTune_49 : decode cX2_afterTune 49 = .ok (.lload 4, 2) := by decide +kernel
theorem dX2_afterTune_51 : decode cX2_afterTune 51 = .ok (.iload 6, 2) := by decide +kernel
theorem dX2_afterTune_53 : decode cX2_afterTune 53 = .ok (.iload 7, 2) := by decide +kernel
theorem dX2_afterTune_55 : decode cX2_afterTune 55 = .ok (.invokestatic 72, 3) := by decide +kernel
theorem dX2_afterTune_58 : decode cX2_afterTune 58 = .ok (.lstore 4, 2) := by decide +kernel
theorem dX2_afterTune_60 : decode cX2_afterTune 60 = .ok (.iinc 6 1, 3) := by decide +kernel
theorem dX2_afterTune_63 : decode cX2_afterTune 63 = .ok (.goto (-57), 3) := by decide +kernel
theorem dX2_afterTune_66 : decode cX2_afterTune 66 = .ok (.aload_n 0, 1) := by decide +kernel
theorem dX2_afterTune_67 : decode cX2_afterTune 67 = .ok (.lload 4, 2) := by decide +kernel
theorem dX2_afterTune_69 : decode cX2_afterTune 69 = .ok (.invokevirtual 75, 3) := by decide +kernel
theorem dX2_afterTune_72 : decode cX2_afterTune 72 = .ok (.lreturn, 1) := by decide +kernel
set_option maxRecDepth 20000 in
theorem ggX2_afterName_X1_griefOf : GoodIn wsX2_afterName wsX1_griefOf := goodIn_r _ [4, 5] (by decide +kernel) (by decide +kernel)
set_option maxRecDepth 20000 in
theorem gX2_afterName_X1_griefOf_n64 : GoodIn wsX2_afterName (wsX1_griefOf) := ggX2_afterName_X1_griefOf
set_option maxRecDepth 20000 in
theorem ggX2_afterName_X2_riseByName : GoodIn wsX2_afterName wsX2_riseByName := goodIn_r _ [9] (by decide +kernel) (by decide +kernel)
set_option maxRecDepth 20000 in
theorem gX2_afterName_X2_riseByName : GoodIn wsX2_afterName (va_wsS RX2 79 yX2_riseByName wsX2_riseByName) := goodIn_app (goodIn_of _ (by decide +kernel)) ggX2_afterName_X2_riseByName
set_option maxRecDepth 20000 in
theorem ggX2_afterName_X2_bounded : GoodIn wsX2_afterName wsX2_bounded := goodIn_r _ [12, 13, 14, 15, 16, 17, 18, 19] (by decide +kernel) (by decide +kernel)
set_option maxRecDepth 20000 in
theorem gX2_afterName_X2_bounded : GoodIn wsX2_afterName (va_wsS RX2 56 yX2_bounded wsX2_bounded) := goodIn_app (goodIn_of _ (by decide +kernel)) ggX2_afterName_X2_bounded
set_option maxRecDepth 20000 in
theorem ggX2_afterName_X1_withGrief : GoodIn wsX2_afterName wsX1_withGrief := goodIn_r _ [21, 5, 22] (by decide +kernel) (by decide +kernel)
set_option maxRecDepth 20000 in
theorem gX2_afterName_X1_withGrief_n72 : GoodIn wsX2_afterName (wsX1_withGrief) := ggX2_afterName_X1_withGrief
set_option maxRecDepth 20000 in
theorem ggX2_afterName_X2_withoutTheSeen : GoodIn wsX2_afterName wsX2_withoutTheSeen := goodIn_r _ [26, 27, 28, 29, 3, 30, 2, 4, 5, 31, 32, 33, 8, 34, 1, 35, 36, 37, 22, 38, 20, 21, 39, 40, 41, 42, 43, 44, 45] (by decide +kernel) (by decide +kernel)
set_option maxRecDepth 20000 in
theorem gX2_afterName_X2_withoutTheSeen : GoodIn wsX2_afterName (wsV RX2 75 RX2 yX2_withoutTheSeen wsX2_withoutTheSeen) := goodIn_app (goodIn_of _ (by decide +kernel)) ggX2_afterName_X2_withoutTheSeen
theorem dX2_afterName_0 : decode cX2_afterName 0 = .ok (.lload_n 1, 1) := by decide +kernel
theorem dX2_afterName_1 : decode cX2_afterName 1 = .ok (.iload_n 3, 1) := by decide +kernel
theorem dX2_afterName_2 : decode cX2_afterName 2 = .ok (.invokestatic 64, 3) := by decide +kernel
theorem dX2_afterName_5 : decode cX2_afterName 5 = .ok (.aload_n 0, 1) := by decide +kernel
theorem dX2_afterName_6 : decode cX2_afterName 6 = .ok (.getfield 22, 3) := by decide +kernel
theorem dX2_afterName_9 : decode cX2_afterName 9 = .ok (.iload_n 3, 1) := by decide +kernel
theorem dX2_afterName_10 : decode cX2_afterName 10 = .ok (.iaload, 1) := by decide +kernel
theorem dX2_afterName_11 : decode cX2_afterName 11 = .ok (.invokestatic 79, 3) := by decide +kernel
theorem dX2_afterName_14 : decode cX2_afterName 14 = .ok (.iadd, 1) := by decide +kernel
theorem dX2_afterName_15 : decode cX2_afterName 15 = .ok (.invokestatic 56, 3) := by decide +kernel
theorem dX2_afterName_18 : decode cX2_afterName 18 = .ok (.istore 4, 2) := by decide +kernel
theorem dX2_afterName_20 : decode cX2_afterName 20 = .ok (.aload_n 0, 1) := by decide +kernel
theorem dX2_afterName_21 : decode cX2_afterName 21 = .ok (.lload_n 1, 1) := by decide +kernel
theorem dX2_afterName_22 : decode cX2_afterName 22 = .ok (.iload_n 3, 1) := by decide +kernel
theorem dX2_afterName_23 : decode cX2_afterName 23 = .ok (.iload 4, 2) := by decide +kernel
theorem dX2_afterName_25 : decode cX2_afterName 25 = .ok (.invokestatic 72, 3) := by decide +kernel
theorem dX2_afterName_28 : decode cX2_afterName 28 = .ok (.invokevirtual 75, 3) := by decide +kernel
theorem dX2_afterName_31 : decode cX2_afterName 31 = .ok (.lreturn, 1) := by decide +kernel
set_option maxRecDepth 20000 in
theorem ggX2_afterIce_X1_griefOf : GoodIn wsX2_afterIce wsX1_griefOf := goodIn_r _ [3, 4] (by decide +kernel) (by decide +kernel)
set_option maxRecDepth 20000 in
theorem gX2_afterIce_X1_griefOf_n64 : GoodIn wsX2_afterIce (wsX1_griefOf) := ggX2_afterIce_X1_griefOf
set_option maxRecDepth 20000 in
theorem ggX2_afterIce_X2_bounded : GoodIn wsX2_afterIce wsX2_bounded := goodIn_r _ [8, 9, 10, 11, 12, 13, 14, 15] (by decide +kernel) (by decide +kernel)
set_option maxRecDepth 20000 in
theorem gX2_afterIce_X2_bounded : GoodIn wsX2_afterIce (va_wsS RX2 56 yX2_bounded wsX2_bounded) := goodIn_app (goodIn_of _ (by decide +kernel)) ggX2_afterIce_X2_bounded
set_option maxRecDepth 20000 in
theorem ggX2_afterIce_X1_withGrief : GoodIn wsX2_afterIce wsX1_withGrief := goodIn_r _ [17, 4, 18] (by decide +kernel) (by decide +kernel)
set_option maxRecDepth 20000 in
theorem gX2_afterIce_X1_withGrief_n72 : GoodIn wsX2_afterIce (wsX1_withGrief) := ggX2_afterIce_X1_withGrief
set_option maxRecDepth 20000 in
theorem ggX2_afterIce_X2_withoutTheSeen : GoodIn wsX2_afterIce wsX2_withoutTheSeen := goodIn_r _ [22, 23, 24, 25, 2, 26, 1, 3, 4, 27, 28, 29, 7, 30, 31, 32, 33, 34, 18, 35, 16, 17, 36, 37, 38, 39, 40, 41, 42] (by decide +kernel) (by decide +kernel)
set_option maxRecDepth 20000 in
theorem gX2_afterIce_X2_withoutTheSeen : GoodIn wsX2_afterIce (wsV RX2 75 RX2 yX2_withoutTheSeen wsX2_withoutTheSeen) := goodIn_app (goodIn_of _ (by decide +kernel)) ggX2_afterIce_X2_withoutTheSeen
theorem dX2_afterIce_0 : decode cX2_afterIce 0 = .ok (.lload_n 1, 1) := by decide +kernel
theorem dX2_afterIce_1 : decode cX2_afterIce 1 = .ok (.iload_n 3, 1) := by decide +kernel
theorem dX2_afterIce_2 : decode cX2_afterIce 2 = .ok (.invokestatic 64, 3) := by decide +kernel
theorem dX2_afterIce_5 : decode cX2_afterIce 5 = .ok (.iconst 3, 1) := by decide +kernel
theorem dX2_afterIce_6 : decode cX2_afterIce 6 = .ok (.isub, 1) := by decide +kernel
theorem dX2_afterIce_7 : decode cX2_afterIce 7 = .ok (.invokestatic 56, 3) := by decide +kernel
theorem dX2_afterIce_10 : decode cX2_afterIce 10 = .ok (.istore 4, 2) := by decide +kernel
theorem dX2_afterIce_12 : decode cX2_afterIce 12 = .ok (.aload_n 0, 1) := by decide +kernel
theorem dX2_afterIce_13 : decode cX2_afterIce 13 = .ok (.lload_n 1, 1) := by decide +kernel
theorem dX2_afterIce_14 : decode cX2_afterIce 14 = .ok (.iload_n 3, 1) := by decide +kernel
theorem dX2_afterIce_15 : decode cX2_afterIce 15 = .ok (.iload 4, 2) := by decide +kernel
theorem dX2_afterIce_17 : decode cX2_afterIce 17 = .ok (.invokestatic 72, 3) := by decide +kernel
theorem dX2_afterIce_20 : decode cX2_afterIce 20 = .ok (.invokevirtual 75, 3) := by decide +kernel
theorem dX2_afterIce_23 : decode cX2_afterIce 23 = .ok (.lreturn, 1) := by decide +kernel
set_option maxRecDepth 20000 in
theorem ggX2_withoutTheSeen_X1_insiders : GoodIn wsX2_withoutTheSeen wsX1_insiders := goodIn_r _ [5] (by decide +kernel) (by decide +kernel)
set_option maxRecDepth 20000 in
theorem gX2_withoutTheSeen_X1_insiders_n82 : GoodIn wsX2_withoutTheSeen (wsX1_insiders) := ggX2_withoutTheSeen_X1_insiders
set_option maxRecDepth 20000 in
theorem ggX2_withoutTheSeen_X1_griefOf : GoodIn wsX2_withoutTheSeen wsX1_griefOf := goodIn_r _ [7, 8] (by decide +kernel) (by decide +kernel)
set_option maxRecDepth 20000 in
theorem gX2_withoutTheSeen_X1_griefOf_n64 : GoodIn wsX2_withoutTheSeen (wsX1_griefOf) := ggX2_withoutTheSeen_X1_griefOf
set_option maxRecDepth 20000 in
theorem ggX2_withoutTheSeen_X2_canFall : GoodIn wsX2_withoutTheSeen wsX2_canFall := goodIn_r _ [13, 14, 15, 22, 23, 24, 25, 26, 27, 28] (by decide +kernel) (by decide +kernel)
set_option maxRecDepth 20000 in
theorem gX2_withoutTheSeen_X2_canFall : GoodIn wsX2_withoutTheSeen (wsV RX2 86 RX2 yX2_canFall wsX2_canFall) := goodIn_app (goodIn_of _ (by decide +kernel)) ggX2_withoutTheSeen_X2_canFall
set_option maxRecDepth 20000 in
theorem ggX2_withoutTheSeen_X1_without : GoodIn wsX2_withoutTheSeen wsX1_without := goodIn_r _ [17, 18, 19, 20, 4, 21, 8] (by decide +kernel) (by decide +kernel)
set_option maxRecDepth 20000 in
theorem gX2_withoutTheSeen_X1_without_n90 : GoodIn wsX2_withoutTheSeen (wsX1_without) := ggX2_withoutTheSeen_X1_without
theorem dX2_withoutTheSeen_0 : decode cX2_withoutTheSeen 0 = .ok (.lload_n 1, 1) := by decide +kernel
theorem dX2_withoutTheSeen_1 : decode cX2_withoutTheSeen 1 = .ok (.invokestatic 82, 3) := by decide +kernel
theorem dX2_withoutTheSeen_4 : decode cX2_withoutTheSeen 4 = .ok (.istore_n 3, 1) := by decide +kernel
theorem dX2_withoutTheSeen_5 : decode cX2_withoutTheSeen 5 = .ok (.lload_n 1, 1) := by decide +kernel
theorem dX2_withoutTheSeen_6 : decode cX2_withoutTheSeen 6 = .ok (.lstore 4, 2) := by decide +kernel
theorem dX2_withoutTheSeen_8 : decode cX2_withoutTheSeen 8 = .ok (.iconst 0, 1) := by decide +kernel
theorem dX2_withoutTheSeen_9 : decode cX2_withoutTheSeen 9 = .ok (.istore 6, 2) := by decide +kernel
theorem dX2_withoutTheSeen_11 : decode cX2_withoutTheSeen 11 = .ok (.iload 6, 2) := by decide +kernel
theorem dX2_withoutTheSeen_13 : decode cX2_withoutTheSeen 13 = .ok (.aload_n 0, 1) := by decide +kernel
theorem dX2_withoutTheSeen_14 : decode cX2_withoutTheSeen 14 = .ok (.getfield 9, 3) := by decide +kernel
theorem dX2_withoutTheSeen_17 : decode cX2_withoutTheSeen 17 = .ok (.if_icmp .ge 41, 3) := by decide +kernel
theorem dX2_withoutTheSeen_20 : decode cX2_withoutTheSeen 20 = .ok (.lload_n 1, 1) := by decide +kernel
theorem dX2_withoutTheSeen_21 : decode cX2_withoutTheSeen 21 = .ok (.iload 6, 2) := by decide +kernel
theorem dX2_withoutTheSeen_23 : decode cX2_withoutTheSeen 23 = .ok (.invokestatic 64, 3) := by decide +kernel
theorem dX2_withoutTheSeen_26 : decode cX2_withoutTheSeen 26 = .ok (.aload_n 0, 1) := by decide +kernel
theorem dX2_withoutTheSeen_27 : decode cX2_withoutTheSeen 27 = .ok (.getfield 15, 3) := by decide +kernel
theorem dX2_withoutTheSeen_30 : decode cX2_withoutTheSeen 30 = .ok (.if_icmp .le 22, 3) := by decide +kernel
theorem dX2_withoutTheSeen_33 : decode cX2_withoutTheSeen 33 = .ok (.aload_n 0, 1) := by decide +kernel
theorem dX2_withoutTheSeen_34 : decode cX2_withoutTheSeen 34 = .ok (.iload_n 3, 1) := by decide +kernel
theorem dX2_withoutTheSeen_35 : decode cX2_withoutTheSeen 35 = .ok (.iload 6, 2) := by decide +kernel
theorem dX2_withoutTheSeen_37 : decode cX2_withoutTheSeen 37 = .ok (.invokevirtual 86, 3) := by decide +kernel
theorem dX2_withoutTheSeen_40 : decode cX2_withoutTheSeen 40 = .ok (.ifCond .eq 12, 3) := by decide +kernel
theorem dX2_withoutTheSeen_43 : decode cX2_withoutTheSeen 43 = .ok (.lload 4, 2) := by decide +kernel
theorem dX2_withoutTheSeen_45 : decode cX2_withoutTheSeen 45 = .ok (.iload 6, 2) := by decide +kernel
theorem dX2_withoutTheSeen_47 : decode cX2_withoutTheSeen 47 = .ok (.invokestatic 90, 3) := by decide +kernel
theorem dX2_withoutTheSeen_50 : decode cX2_withoutTheSeen 50 = .ok (.lstore 4, 2) := by decide +kernel
theorem dX2_withoutTheSeen_52 : decode cX2_withoutTheSeen 52 = .ok (.iinc 6 1, 3) := by decide +kernel
theorem dX2_withoutTheSeen_55 : decode cX2_withoutTheSeen 55 = .ok (.goto (-44), 3) := by decide +kernel
theorem dX2_withoutTheSeen_58 : decode cX2_withoutTheSeen 58 = .ok (.lload 4, 2) := by decide +kernel
theorem dX2_withoutTheSeen_60 : decode cX2_withoutTheSeen 60 = .ok (.lreturn, 1) := by decide +kernel
theorem dX2_canFall_0 : decode cX2_canFall 0 = .ok (.iload_n 1, 1) := by decide +kernel
theorem dX2_canFall_1 : decode cX2_canFall 1 = .ok (.iload_n 2, 1) := by decide +kernel
theorem dX2_canFall_2 : decode cX2_canFall 2 = .ok (.ishr, 1) := by decide +kernel
theorem dX2_canFall_3 : decode cX2_canFall 3 = .ok (.iconst 1, 1) := by decide +kernel
theorem dX2_canFall_4 : decode cX2_canFall 4 = .ok (.iand, 1) := by decide +kernel
theorem dX2_canFall_5 : decode cX2_canFall 5 = .ok (.ifCond .eq 28, 3) := by decide +kernel
theorem dX2_canFall_8 : decode cX2_canFall 8 = .ok (.aload_n 0, 1) := by decide +kernel
theorem dX2_canFall_9 : decode cX2_canFall 9 = .ok (.getfield 22, 3) := by decide +kernel
theorem dX2_canFall_12 : decode cX2_canFall 12 = .ok (.iload_n 2, 1) := by decide +kernel
theorem dX2_canFall_13 : decode cX2_canFall 13 = .ok (.iaload, 1) := by decide +kernel
theorem dX2_canFall_14 : decode cX2_canFall 14 = .ok (.iconst 5, 1) := by decide +kernel
theorem dX2_canFall_15 : decode cX2_canFall 15 = .ok (.if_icmp .eq 18, 3) := by decide +kernel
theorem dX2_canFall_18 : decode cX2_canFall 18 = .ok (.aload_n 0, 1) := by decide +kernel
theorem dX2_canFall_19 : decode cX2_canFall 19 = .ok (.getfield 31, 3) := by decide +kernel
theorem dX2_canFall_22 : decode cX2_canFall 22 = .ok (.iload_n 2, 1) := by decide +kernel
theorem dX2_canFall_23 : decode cX2_canFall 23 = .ok (.iaload, 1) := by decide +kernel
theorem dX2_canFall_24 : decode cX2_canFall 24 = .ok (.iload_n 1, 1) := by decide +kernel
theorem dX2_canFall_25 : decode cX2_canFall 25 = .ok (.iand, 1) := by decide +kernel
theorem dX2_canFall_26 : decode cX2_canFall 26 = .ok (.ifCond .eq 7, 3) := by decide +kernel
theorem dX2_canFall_29 : decode cX2_canFall 29 = .ok (.iconst 1, 1) := by decide +kernel
theorem dX2_canFall_30 : decode cX2_canFall 30 = .ok (.goto 4, 3) := by decide +kernel
theorem dX2_canFall_33 : decode cX2_canFall 33 = .ok (.iconst 0, 1) := by decide +kernel
theorem dX2_canFall_34 : decode cX2_canFall 34 = .ok (.ireturn, 1) := by decide +kernel
set_option maxRecDepth 20000 in
theorem ggX2_watchers_X1_insiders : GoodIn wsX2_watchers wsX1_insiders := goodIn_r _ [4] (by decide +kernel) (by decide +kernel)
set_option maxRecDepth 20000 in
theorem gX2_watchers_X1_insiders_n82 : GoodIn wsX2_watchers (wsX1_insiders) := ggX2_watchers_X1_insiders
theorem dX2_watchers_0 : decode cX2_watchers 0 = .ok (.aload_n 0, 1) := by decide +kernel
theorem dX2_watchers_1 : decode cX2_watchers 1 = .ok (.getfield 31, 3) := by decide +kernel
theorem dX2_watchers_4 : decode cX2_watchers 4 = .ok (.iload_n 3, 1) := by decide +kernel
theorem dX2_watchers_5 : decode cX2_watchers 5 = .ok (.iaload, 1) := by decide +kernel
theorem dX2_watchers_6 : decode cX2_watchers 6 = .ok (.lload_n 1, 1) := by decide +kernel
theorem dX2_watchers_7 : decode cX2_watchers 7 = .ok (.invokestatic 82, 3) := by decide +kernel
theorem dX2_watchers_10 : decode cX2_watchers 10 = .ok (.iand, 1) := by decide +kernel
theorem dX2_watchers_11 : decode cX2_watchers 11 = .ok (.ireturn, 1) := by decide +kernel
set_option maxRecDepth 20000 in
theorem ggX2_keepsTheClause_X2_griefBehind : GoodIn wsX2_keepsTheClause wsX2_griefBehind := goodIn_r _ [7, 8, 9, 6, 10, 11, 12, 13, 14, 15, 16, 17, 18, 19, 20, 21, 22, 23] (by decide +kernel) (by decide +kernel)
set_option maxRecDepth 20000 in
theorem gX2_keepsTheClause_X2_griefBehind : GoodIn wsX2_keepsTheClause (va_wsS RX2 68 yX2_griefBehind wsX2_griefBehind) := goodIn_app (goodIn_of _ (by decide +kernel)) ggX2_keepsTheClause_X2_griefBehind
theorem dX2_keepsTheClause_0 : decode cX2_keepsTheClause 0 = .ok (.iload_n 2, 1) := by decide +kernel
theorem dX2_keepsTheClause_1 : decode cX2_keepsTheClause 1 = .ok (.istore 5, 2) := by decide +kernel
theorem dX2_keepsTheClause_3 : decode cX2_keepsTheClause 3 = .ok (.iconst 0, 1) := by decide +kernel
theorem dX2_keepsTheClause_4 : decode cX2_keepsTheClause 4 = .ok (.istore 6, 2) := by decide +kernel
theorem dX2_keepsTheClause_6 : decode cX2_keepsTheClause 6 = .ok (.iload 6, 2) := by decide +kernel
theorem dX2_keepsTheClause_8 : decode cX2_keepsTheClause 8 = .ok (.iload 4, 2) := by decide +kernel
theorem dX2_keepsTheClause_10 : decode cX2_keepsTheClause 10 = .ok (.if_icmp .ge 46, 3) := by decide +kernel
theorem dX2_keepsTheClause_13 : decode cX2_keepsTheClause 13 = .ok (.aload_n 0, 1) := by decide +kernel
theorem dX2_keepsTheClause_14 : decode cX2_keepsTheClause 14 = .ok (.getfield 22, 3) := by decide +kernel
theorem dX2_keepsTheClause_17 : decode cX2_keepsTheClause 17 = .ok (.iload_n 1, 1) := by decide +kernel
theorem dX2_keepsTheClause_18 : decode cX2_keepsTheClause 18 = .ok (.iaload, 1) := by decide +kernel
theorem dX2_keepsTheClause_19 : decode cX2_keepsTheClause 19 = .ok (.aload_n 3, 1) := by decide +kernel
theorem dX2_keepsTheClause_20 : decode cX2_keepsTheClause 20 = .ok (.iload 6, 2) := by decide +kernel
theorem dX2_keepsTheClause_22 : decode cX2_keepsTheClause 22 = .ok (.iaload, 1) := by decide +kernel
theorem dX2_keepsTheClause_23 : decode cX2_keepsTheClause 23 = .ok (.aload_n 0, 1) := by decide +kernel
theorem dX2_keepsTheClause_24 : decode cX2_keepsTheClause 24 = .ok (.getfield 18, 3) := by decide +kernel
theorem dX2_keepsTheClause_27 : decode cX2_keepsTheClause 27 = .ok (.aload_n 3, 1) := by decide +kernel
theorem dX2_keepsTheClause_28 : decode cX2_keepsTheClause 28 = .ok (.iload 6, 2) := by decide +kernel
theorem dX2_keepsTheClause_30 : decode cX2_keepsTheClause 30 = .ok (.iaload, 1) := by decide +kernel
theorem dX2_keepsTheClause_31 : decode cX2_keepsTheClause 31 = .ok (.iaload, 1) := by decide +kernel
theorem dX2_keepsTheClause_32 : decode cX2_keepsTheClause 32 = .ok (.iload 5, 2) := by decide +kernel
theorem dX2_keepsTheClause_34 : decode cX2_keepsTheClause 34 = .ok (.invokestatic 68, 3) := by decide +kernel
theorem dX2_keepsTheClause_37 : decode cX2_keepsTheClause 37 = .ok (.istore 5, 2) := by decide +kernel
theorem dX2_keepsTheClause_39 : decode cX2_keepsTheClause 39 = .ok (.iload 5, 2) := by decide +kernel
theorem dX2_keepsTheClause_41 : decode cX2_keepsTheClause 41 = .ok (.aload_n 0, 1) := by decide +kernel
theorem dX2_keepsTheClause_42 : decode cX2_keepsTheClause 42 = .ok (.getfield 15, 3) := by decide +kernel
theorem dX2_keepsTheClause_45 : decode cX2_keepsTheClause 45 = .ok (.if_icmp .le 5, 3) := by decide +kernel
theorem dX2_keepsTheClause_48 : decode cX2_keepsTheClause 48 = .ok (.iconst 0, 1) := by decide +kernel
theorem dX2_keepsTheClause_49 : decode cX2_keepsTheClause 49 = .ok (.ireturn, 1) := by decide +kernel
theorem dX2_keepsTheClause_50 : decode cX2_keepsTheClause 50 = .ok (.iinc 6 1, 3) := by decide +kernel
theorem dX2_keepsTheClause_53 : decode cX2_keepsTheClause 53 = .ok (.goto (-47), 3) := by decide +kernel
theorem dX2_keepsTheClause_56 : decode cX2_keepsTheClause 56 = .ok (.iconst 1, 1) := by decide +kernel
theorem dX2_keepsTheClause_57 : decode cX2_keepsTheClause 57 = .ok (.ireturn, 1) := by decide +kernel
set_option maxRecDepth 20000 in
theorem ggX2_wentSo_X2_griefBehind : GoodIn wsX2_wentSo wsX2_griefBehind := goodIn_r _ [5, 6, 7, 4, 8, 9, 10, 11, 12, 13, 14, 15, 16, 17, 18, 19, 20, 21] (by decide +kernel) (by decide +kernel)
set_option maxRecDepth 20000 in
theorem gX2_wentSo_X2_griefBehind : GoodIn wsX2_wentSo (va_wsS RX2 68 yX2_griefBehind wsX2_griefBehind) := goodIn_app (goodIn_of _ (by decide +kernel)) ggX2_wentSo_X2_griefBehind
theorem dX2_wentSo_0 : decode cX2_wentSo 0 = .ok (.iload_n 2, 1) := by decide +kernel
theorem dX2_wentSo_1 : decode cX2_wentSo 1 = .ok (.istore 5, 2) := by decide +kernel
theorem dX2_wentSo_3 : decode cX2_wentSo 3 = .ok (.iconst 0, 1) := by decide +kernel
theorem dX2_wentSo_4 : decode cX2_wentSo 4 = .ok (.istore 6, 2) := by decide +kernel
theorem dX2_wentSo_6 : decode cX2_wentSo 6 = .ok (.iload 6, 2) := by decide +kernel
theorem dX2_wentSo_8 : decode cX2_wentSo 8 = .ok (.iconst 1, 1) := by decide +kernel
theorem dX2_wentSo_9 : decode cX2_wentSo 9 = .ok (.iadd, 1) := by decide +kernel
theorem dX2_wentSo_10 : decode cX2_wentSo 10 = .ok (.iload 4, 2) := by decide +kernel
theorem dX2_wentSo_12 : decode cX2_wentSo 12 = .ok (.if_icmp .ge 43, 3) := by decide +kernel
theorem dX2_wentSo_15 : decode cX2_wentSo 15 = .ok (.iload_n 1, 1) := by decide +kernel
theorem dX2_wentSo_16 : decode cX2_wentSo 16 = .ok (.aload_n 3, 1) := by decide +kernel
theorem dX2_wentSo_17 : decode cX2_wentSo 17 = .ok (.iload 6, 2) := by decide +kernel
theorem dX2_wentSo_19 : decode cX2_wentSo 19 = .ok (.iaload, 1) := by decide +kernel
theorem dX2_wentSo_20 : decode cX2_wentSo 20 = .ok (.aload_n 0, 1) := by decide +kernel
theorem dX2_wentSo_21 : decode cX2_wentSo 21 = .ok (.getfield 18, 3) := by decide +kernel
theorem dX2_wentSo_24 : decode cX2_wentSo 24 = .ok (.aload_n 3, 1) := by decide +kernel
theorem dX2_wentSo_25 : decode cX2_wentSo 25 = .ok (.iload 6, 2) := by decide +kernel
theorem dX2_wentSo_27 : decode cX2_wentSo 27 = .ok (.iaload, 1) := by decide +kernel
theorem dX2_wentSo_28 : decode cX2_wentSo 28 = .ok (.iaload, 1) := by decide +kernel
theorem dX2_wentSo_29 : decode cX2_wentSo 29 = .ok (.iload 5, 2) := by decide +kernel
theorem dX2_wentSo_31 : decode cX2_wentSo 31 = .ok (.invokestatic 68, 3) := by decide +kernel
theorem dX2_wentSo_34 : decode cX2_wentSo 34 = .ok (.istore 5, 2) := by decide +kernel
theorem dX2_wentSo_36 : decode cX2_wentSo 36 = .ok (.iload 5, 2) := by decide +kernel
theorem dX2_wentSo_38 : decode cX2_wentSo 38 = .ok (.aload_n 3, 1) := by decide +kernel
theorem dX2_wentSo_39 : decode cX2_wentSo 39 = .ok (.iload 6, 2) := by decide +kernel
theorem dX2_wentSo_41 : decode cX2_wentSo 41 = .ok (.iconst 1, 1) := by decide +kernel
theorem dX2_wentSo_42 : decode cX2_wentSo 42 = .ok (.iadd, 1) := by decide +kernel
theorem dX2_wentSo_43 : decode cX2_wentSo 43 = .ok (.iaload, 1) := by decide +kernel
theorem dX2_wentSo_44 : decode cX2_wentSo 44 = .ok (.if_icmp .eq 5, 3) := by decide +kernel
theorem dX2_wentSo_47 : decode cX2_wentSo 47 = .ok (.iconst 0, 1) := by decide +kernel
theorem dX2_wentSo_48 : decode cX2_wentSo 48 = .ok (.ireturn, 1) := by decide +kernel
theorem dX2_wentSo_49 : decode cX2_wentSo 49 = .ok (.iinc 6 2, 3) := by decide +kernel
theorem dX2_wentSo_52 : decode cX2_wentSo 52 = .ok (.goto (-46), 3) := by decide +kernel
theorem dX2_wentSo_55 : decode cX2_wentSo 55 = .ok (.iconst 1, 1) := by decide +kernel
theorem dX2_wentSo_56 : decode cX2_wentSo 56 = .ok (.ireturn, 1) := by decide +kernel
set_option maxRecDepth 20000 in
theorem ggX2_howManyAre_X5_isOfKind : GoodIn wsX2_howManyAre wsX5_isOfKind := goodIn_r _ [5] (by decide +kernel) (by decide +kernel)
set_option maxRecDepth 20000 in
theorem gX2_howManyAre_X5_isOfKind_n94 : GoodIn wsX2_howManyAre (wsX5_isOfKind) := ggX2_howManyAre_X5_isOfKind
theorem dX2_howManyAre_0 : decode cX2_howManyAre 0 = .ok (.iconst 0, 1) := by decide +kernel
theorem dX2_howManyAre_1 : decode cX2_howManyAre 1 = .ok (.istore_n 2, 1) := by decide +kernel
theorem dX2_howManyAre_2 : decode cX2_howManyAre 2 = .ok (.iconst 0, 1) := by decide +kernel
theorem dX2_howManyAre_3 : decode cX2_howManyAre 3 = .ok (.istore_n 3, 1) := by decide +kernel
theorem dX2_howManyAre_4 : decode cX2_howManyAre 4 = .ok (.iload_n 3, 1) := by decide +kernel
theorem dX2_howManyAre_5 : decode cX2_howManyAre 5 = .ok (.aload_n 0, 1) := by decide +kernel
theorem dX2_howManyAre_6 : decode cX2_howManyAre 6 = .ok (.getfield 9, 3) := by decide +kernel
theorem dX2_howManyAre_9 : decode cX2_howManyAre 9 = .ok (.if_icmp .ge 25, 3) := by decide +kernel
theorem dX2_howManyAre_12 : decode cX2_howManyAre 12 = .ok (.aload_n 0, 1) := by decide +kernel
theorem dX2_howManyAre_13 : decode cX2_howManyAre 13 = .ok (.getfield 22, 3) := by decide +kernel
theorem dX2_howManyAre_16 : decode cX2_howManyAre 16 = .ok (.iload_n 3, 1) := by decide +kernel
theorem dX2_howManyAre_17 : decode cX2_howManyAre 17 = .ok (.iaload, 1) := by decide +kernel
theorem dX2_howManyAre_18 : decode cX2_howManyAre 18 = .ok (.iload_n 1, 1) := by decide +kernel
theorem dX2_howManyAre_19 : decode cX2_howManyAre 19 = .ok (.invokestatic 94, 3) := by decide +kernel
theorem dX2_howManyAre_22 : decode cX2_howManyAre 22 = .ok (.ifCond .eq 6, 3) := by decide +kernel
theorem dX2_howManyAre_25 : decode cX2_howManyAre 25 = .ok (.iinc 2 1, 3) := by decide +kernel
theorem dX2_howManyAre_28 : decode cX2_howManyAre 28 = .ok (.iinc 3 1, 3) := by decide +kernel
theorem dX2_howManyAre_31 : decode cX2_howManyAre 31 = .ok (.goto (-27), 3) := by decide +kernel
theorem dX2_howManyAre_34 : decode cX2_howManyAre 34 = .ok (.iload_n 2, 1) := by decide +kernel
theorem dX2_howManyAre_35 : decode cX2_howManyAre 35 = .ok (.ireturn, 1) := by decide +kernel
set_option maxRecDepth 20000 in
theorem ggX3_staying_X3_stayingBehind : GoodIn wsX3_staying wsX3_stayingBehind := goodIn_r _ [4, 5, 6, 7, 8, 9, 10, 11, 12, 13, 14, 15, 16, 17, 18, 19, 20, 21, 22, 23, 24, 25, 26, 27, 28, 29, 30, 31, 32, 33, 34, 35, 36, 37, 38, 39, 40, 41, 42, 43, 44, 45, 46, 47, 48, 49, 50, 51, 52, 53, 54, 55, 56, 3, 0, 1, 2, 57, 58, 59, 60, 61, 62, 63] (by decide +kernel) (by decide +kernel)
set_option maxRecDepth 20000 in
theorem gX3_staying_X3_stayingBehind : GoodIn wsX3_staying (va_wsS RX3 9 yX3_stayingBehind wsX3_stayingBehind) := goodIn_app (goodIn_of _ (by decide +kernel)) ggX3_staying_X3_stayingBehind
theorem dX3_staying_0 : decode cX3_staying 0 = .ok (.iload_n 3, 1) := by decide +kernel
theorem dX3_staying_1 : decode cX3_staying 1 = .ok (.ifCond .gt 5, 3) := by decide +kernel
theorem dX3_staying_4 : decode cX3_staying 4 = .ok (.lconst 1, 1) := by decide +kernel
theorem dX3_staying_5 : decode cX3_staying 5 = .ok (.lreturn, 1) := by decide +kernel
theorem dX3_staying_6 : decode cX3_staying 6 = .ok (.lconst 0, 1) := by decide +kernel
theorem dX3_staying_7 : decode cX3_staying 7 = .ok (.lstore 4, 2) := by decide +kernel
theorem dX3_staying_9 : decode cX3_staying 9 = .ok (.iconst 0, 1) := by decide +kernel
theorem dX3_staying_10 : decode cX3_staying 10 = .ok (.istore 6, 2) := by decide +kernel
theorem dX3_staying_12 : decode cX3_staying 12 = .ok (.iload 6, 2) := by decide +kernel
theorem dX3_staying_14 : decode cX3_staying 14 = .ok (.iconst 4, 1) := by decide +kernel
theorem dX3_staying_15 : decode cX3_staying 15 = .ok (.if_icmp .ge 24, 3) := by decide +kernel
theorem dX3_staying_18 : decode cX3_staying 18 = .ok (.lload 4, 2) := by decide +kernel
theorem dX3_staying_20 : decode cX3_staying 20 = .ok (.aload_n 0, 1) := by decide +kernel
theorem dX3_staying_21 : decode cX3_staying 21 = .ok (.lload_n 1, 1) := by decide +kernel
theorem dX3_staying_22 : decode cX3_staying 22 = .ok (.iload 6, 2) := by decide +kernel
theorem dX3_staying_24 : decode cX3_staying 24 = .ok (.iload_n 3, 1) := by decide +kernel
theorem dX3_staying_25 : decode cX3_staying 25 = .ok (.iconst 1, 1) := by decide +kernel
theorem dX3_staying_26 : decode cX3_staying 26 = .ok (.isub, 1) := by decide +kernel
theorem dX3_staying_27 : decode cX3_staying 27 = .ok (.invokestatic 9, 3) := by decide +kernel
theorem dX3_staying_30 : decode cX3_staying 30 = .ok (.ladd, 1) := by decide +kernel
theorem dX3_staying_31 : decode cX3_staying 31 = .ok (.lstore 4, 2) := by decide +kernel
theorem dX3_staying_33 : decode cX3_staying 33 = .ok (.iinc 6 1, 3) := by decide +kernel
theorem dX3_staying_36 : decode cX3_staying 36 = .ok (.goto (-24), 3) := by decide +kernel
theorem dX3_staying_39 : decode cX3_staying 39 = .ok (.lload 4, 2) := by decide +kernel
theorem dX3_staying_41 : decode cX3_staying 41 = .ok (.lreturn, 1) := by decide +kernel
set_option maxRecDepth 20000 in
theorem ggX3_stayingBehind_X2_afterTune : GoodIn wsX3_stayingBehind wsX2_afterTune := goodIn_r _ [4, 5, 6, 7, 8, 9, 10, 11, 12, 13, 14, 15, 2, 16, 17, 18, 19, 20, 21, 22, 23, 24, 25, 26, 27, 28, 29, 30, 31, 32, 33, 34, 35, 36, 37, 38, 39, 40, 41, 42, 43, 44, 45, 46, 47, 48, 49, 50, 57, 58, 59, 60, 61, 62, 63] (by decide +kernel) (by decide +kernel)
set_option maxRecDepth 20000 in
theorem gX3_stayingBehind_X2_afterTune_n15 : GoodIn wsX3_stayingBehind (wsX2_afterTune) := ggX3_stayingBehind_X2_afterTune
set_option maxRecDepth 20000 in
theorem ggX3_stayingBehind_X1_insiders : GoodIn wsX3_stayingBehind wsX1_insiders := goodIn_r _ [42] (by decide +kernel) (by decide +kernel)
set_option maxRecDepth 20000 in
theorem gX3_stayingBehind_X1_insiders_n21 : GoodIn wsX3_stayingBehind (wsX1_insiders) := ggX3_stayingBehind_X1_insiders
set_option maxRecDepth 20000 in
theorem ggX3_stayingBehind_X3_staying : GoodIn wsX3_stayingBehind wsX3_staying := goodIn_r _ [54, 55, 56, 53, 0, 1, 2, 3, 4, 5, 6, 7, 8, 9, 10, 11, 12, 13, 14, 15, 16, 17, 18, 19, 20, 21, 22, 23, 24, 25, 26, 27, 28, 29, 30, 31, 32, 33, 34, 35, 36, 37, 38, 39, 40, 41, 42, 43, 44, 45, 46, 47, 48, 49, 50, 51, 52, 57, 58, 59, 60, 61, 62, 63] (by decide +kernel) (by decide +kernel)
set_option maxRecDepth 20000 in
theorem gX3_stayingBehind_X3_staying : GoodIn wsX3_stayingBehind (va_wsS RX3 27 yX3_staying wsX3_staying) := goodIn_app (goodIn_of _ (by decide +kernel)) ggX3_stayingBehind_X3_staying
theorem dX3_stayingBehind_0 : decode cX3_stayingBehind 0 = .ok (.aload_n 0, 1) := by decide +kernel
theorem dX3_stayingBehind_1 : decode cX3_stayingBehind 1 = .ok (.lload_n 1, 1) := by decide +kernel
theorem dX3_stayingBehind_2 : decode cX3_stayingBehind 2 = .ok (.iload_n 3, 1) := by decide +kernel
theorem dX3_stayingBehind_3 : decode cX3_stayingBehind 3 = .ok (.invokevirtual 15, 3) := by decide +kernel
theorem dX3_stayingBehind_6 : decode cX3_stayingBehind 6 = .ok (.lstore 5, 2) := by decide +kernel
theorem dX3_stayingBehind_8 : decode cX3_stayingBehind 8 = .ok (.lload 5, 2) := by decide +kernel
theorem dX3_stayingBehind_10 : decode cX3_stayingBehind 10 = .ok (.invokestatic 21, 3) := by decide +kernel
theorem dX3_stayingBehind_13 : decode cX3_stayingBehind 13 = .ok (.lload_n 1, 1) := by decide +kernel
theorem dX3_stayingBehind_14 : decode cX3_stayingBehind 14 = .ok (.invokestatic 21, 3) := by decide +kernel
theorem dX3_stayingBehind_17 : decode cX3_stayingBehind 17 = .ok (.if_icmp .ne 14, 3) := by decide +kernel
theorem dX3_stayingBehind_20 : decode cX3_stayingBehind 20 = .ok (.aload_n 0, 1) := by decide +kernel
theorem dX3_stayingBehind_21 : decode cX3_stayingBehind 21 = .ok (.lload 5, 2) := by decide +kernel
theorem dX3_stayingBehind_23 : decode cX3_stayingBehind 23 = .ok (.iload 4, 2) := by decide +kernel
theorem dX3_stayingBehind_25 : decode cX3_stayingBehind 25 = .ok (.invokestatic 27, 3) := by decide +kernel
theorem dX3_stayingBehind_28 : decode cX3_stayingBehind 28 = .ok (.goto 4, 3) := by decide +kernel
theorem dX3_stayingBehind_31 : decode cX3_stayingBehind 31 = .ok (.lconst 0, 1) := by decide +kernel
theorem dX3_stayingBehind_32 : decode cX3_stayingBehind 32 = .ok (.lreturn, 1) := by decide +kernel
set_option maxRecDepth 20000 in
theorem ggX3_firstLeaving_X1_howManyIn : GoodIn wsX3_firstLeaving wsX1_howManyIn := goodIn_r _ [3, 4, 5, 2, 6, 7, 8, 9, 10, 11, 12, 13] (by decide +kernel) (by decide +kernel)
set_option maxRecDepth 20000 in
theorem gX3_firstLeaving_X1_howManyIn_n31 : GoodIn wsX3_firstLeaving (wsX1_howManyIn) := ggX3_firstLeaving_X1_howManyIn
set_option maxRecDepth 20000 in
theorem ggX3_firstLeaving_X2_afterTune : GoodIn wsX3_firstLeaving wsX2_afterTune := goodIn_r _ [17, 18, 19, 20, 21, 2, 22, 23, 24, 25, 26, 27, 15, 28, 29, 30, 31, 32, 33, 34, 35, 36, 37, 38, 39, 40, 41, 42, 43, 44, 45, 46, 47, 48, 49, 50, 51, 52, 5, 6, 53, 54, 55, 56, 57, 58, 59, 60, 64, 65, 66, 67, 68, 69, 70] (by decide +kernel) (by decide +kernel)
set_option maxRecDepth 20000 in
theorem gX3_firstLeaving_X2_afterTune_n15 : GoodIn wsX3_firstLeaving (wsX2_afterTune) := ggX3_firstLeaving_X2_afterTune
set_option maxRecDepth 20000 in
theorem ggX3_firstLeaving_X3_firstLeaving : GoodIn wsX3_firstLeaving wsX3_firstLeaving := goodIn_r _ [0, 1, 2, 3, 4, 5, 6, 7, 8, 9, 10, 11, 12, 13, 14, 15, 16, 17, 18, 19, 20, 21, 22, 23, 24, 25, 26, 27, 28, 29, 30, 31, 32, 33, 34, 35, 36, 37, 38, 39, 40, 41, 42, 43, 44, 45, 46, 47, 48, 49, 50, 51, 52, 53, 54, 55, 56, 57, 58, 59, 60, 61, 62, 63, 64, 65, 66, 67, 68, 69, 70] (by decide +kernel) (by decide +kernel)
set_option maxRecDepth 20000 in
theorem gX3_firstLeaving_X3_firstLeaving : GoodIn wsX3_firstLeaving (va_wsS RX3 34 yX3_firstLeaving wsX3_firstLeaving) := goodIn_app (goodIn_of _ (by decide +kernel)) ggX3_firstLeaving_X3_firstLeaving
theorem dX3_firstLeaving_0 : decode cX3_firstLeaving 0 = .ok (.lload_n 1, 1) := by decide +kernel
theorem dX3_firstLeaving_1 : decode cX3_firstLeaving 1 = .ok (.invokestatic 31, 3) := by decide +kernel
theorem dX3_firstLeaving_4 : decode cX3_firstLeaving 4 = .ok (.iload 4, 2) := by decide +kernel
theorem dX3_firstLeaving_6 : decode cX3_firstLeaving 6 = .ok (.if_icmp .ge 6, 3) := by decide +kernel
theorem dX3_firstLeaving_9 : decode cX3_firstLeaving 9 = .ok (.bipush (-9), 2) := by decide +kernel
theorem dX3_firstLeaving_11 : decode cX3_firstLeaving 11 = .ok (.ireturn, 1) := by decide +kernel
theorem dX3_firstLeaving_12 : decode cX3_firstLeaving 12 = .ok (.iload_n 3, 1) := by decide +kernel
theorem dX3_firstLeaving_13 : decode cX3_firstLeaving 13 = .ok (.ifCond .gt 6, 3) := by decide +kernel
theorem dX3_firstLeaving_16 : decode cX3_firstLeaving 16 = .ok (.iload 5, 2) := by decide +kernel
theorem dX3_firstLeaving_18 : decode cX3_firstLeaving 18 = .ok (.ireturn, 1) := by decide +kernel
theorem dX3_firstLeaving_19 : decode cX3_firstLeaving 19 = .ok (.bipush (-9), 2) := by decide +kernel
theorem dX3_firstLeaving_21 : decode cX3_firstLeaving 21 = .ok (.istore 6, 2) := by decide +kernel
theorem dX3_firstLeaving_23 : decode cX3_firstLeaving 23 = .ok (.iconst 0, 1) := by decide +kernel
theorem dX3_firstLeaving_24 : decode cX3_firstLeaving 24 = .ok (.istore 7, 2) := by decide +kernel
theorem dX3_firstLeaving_26 : decode cX3_firstLeaving 26 = .ok (.iload 7, 2) := by decide +kernel
theorem dX3_firstLeaving_28 : decode cX3_firstLeaving 28 = .ok (.iconst 4, 1) := by decide +kernel
theorem dX3_firstLeaving_29 : decode cX3_firstLeaving 29 = .ok (.if_icmp .ge 41, 3) := by decide +kernel
theorem dX3_firstLeaving_32 : decode cX3_firstLeaving 32 = .ok (.iload 6, 2) := by decide +kernel
theorem dX3_firstLeaving_34 : decode cX3_firstLeaving 34 = .ok (.bipush (-9), 2) := by decide +kernel
theorem dX3_firstLeaving_36 : decode cX3_firstLeaving 36 = .ok (.if_icmp .ne 34, 3) := by decide +kernel
theorem dX3_firstLeaving_39 : decode cX3_firstLeaving 39 = .ok (.aload_n 0, 1) := by decide +kernel
theorem dX3_firstLeaving_40 : decode cX3_firstLeaving 40 = .ok (.aload_n 0, 1) := by decide +kernel
theorem dX3_firstLeaving_41 : decode cX3_firstLeaving 41 = .ok (.lload_n 1, 1) := by decide +kernel
theorem dX3_firstLeaving_42 : decode cX3_firstLeaving 42 = .ok (.iload 7, 2) := by decide +kernel
theorem dX3_firstLeaving_44 : decode cX3_firstLeaving 44 = .ok (.invokevirtual 15, 3) := by decide +kernel
theorem dX3_firstLeaving_47 : decode cX3_firstLeaving 47 = .ok (.iload_n 3, 1) := by decide +kernel
theorem dX3_firstLeaving_48 : decode cX3_firstLeaving 48 = .ok (.iconst 1, 1) := by decide +kernel
theorem dX3_firstLeaving_49 : decode cX3_firstLeaving 49 = .ok (.isub, 1) := by decide +kernel
theorem dX3_firstLeaving_50 : decode cX3_firstLeaving 50 = .ok (.iload 4, 2) := by decide +kernel
theorem dX3_firstLeaving_52 : decode cX3_firstLeaving 52 = .ok (.iconst 4, 1) := by decide +kernel
theorem dX3_firstLeaving_53 : decode cX3_firstLeaving 53 = .ok (.iload 5, 2) := by decide +kernel
theorem dX3_firstLeaving_55 : decode cX3_firstLeaving 55 = .ok (.imul, 1) := by decide +kernel
theorem dX3_firstLeaving_56 : decode cX3_firstLeaving 56 = .ok (.iload 7, 2) := by decide +kernel
theorem dX3_firstLeaving_58 : decode cX3_firstLeaving 58 = .ok (.iadd, 1) := by decide +kernel
theorem dX3_firstLeaving_59 : decode cX3_firstLeaving 59 = .ok (.invokestatic 34, 3) := by decide +kernel
theorem dX3_firstLeaving_62 : decode cX3_firstLeaving 62 = .ok (.istore 6, 2) := by decide +kernel
theorem dX3_firstLeaving_64 : decode cX3_firstLeaving 64 = .ok (.iinc 7 1, 3) := by decide +kernel
theorem dX3_firstLeaving_67 : decode cX3_firstLeaving 67 = .ok (.goto (-41), 3) := by decide +kernel
theorem dX3_firstLeaving_70 : decode cX3_firstLeaving 70 = .ok (.iload 6, 2) := by decide +kernel
theorem dX3_firstLeaving_72 : decode cX3_firstLeaving 72 = .ok (.ireturn, 1) := by decide +kernel
set_option maxRecDepth 20000 in
theorem ggX3_mostLeft_X1_howManyIn : GoodIn wsX3_mostLeft wsX1_howManyIn := goodIn_r _ [7, 8, 9, 6, 10, 11, 12, 13, 14, 15, 16, 17] (by decide +kernel) (by decide +kernel)
set_option maxRecDepth 20000 in
theorem gX3_mostLeft_X1_howManyIn_n31 : GoodIn wsX3_mostLeft (wsX1_howManyIn) := ggX3_mostLeft_X1_howManyIn
set_option maxRecDepth 20000 in
theorem ggX3_mostLeft_X2_afterTune : GoodIn wsX3_mostLeft wsX2_afterTune := goodIn_r _ [21, 22, 23, 24, 25, 6, 26, 27, 28, 29, 30, 31, 19, 32, 33, 34, 35, 36, 37, 3, 38, 39, 40, 41, 42, 43, 44, 45, 2, 4, 46, 47, 48, 49, 50, 51, 52, 53, 9, 10, 54, 55, 56, 57, 58, 59, 60, 61, 65, 66, 67, 68, 69, 70, 71] (by decide +kernel) (by decide +kernel)
set_option maxRecDepth 20000 in
theorem gX3_mostLeft_X2_afterTune_n15 : GoodIn wsX3_mostLeft (wsX2_afterTune) := ggX3_mostLeft_X2_afterTune
set_option maxRecDepth 20000 in
theorem ggX3_mostLeft_X3_mostLeft : GoodIn wsX3_mostLeft wsX3_mostLeft := goodIn_r _ [0, 1, 2, 3, 4, 5, 6, 7, 8, 9, 10, 11, 12, 13, 14, 15, 16, 17, 18, 19, 20, 21, 22, 23, 24, 25, 26, 27, 28, 29, 30, 31, 32, 33, 34, 35, 36, 37, 38, 39, 40, 41, 42, 43, 44, 45, 46, 47, 48, 49, 50, 51, 52, 53, 54, 55, 56, 57, 58, 59, 60, 61, 62, 63, 64, 65, 66, 67, 68, 69, 70, 71] (by decide +kernel) (by decide +kernel)
set_option maxRecDepth 20000 in
theorem gX3_mostLeft_X3_mostLeft : GoodIn wsX3_mostLeft (va_wsS RX3 38 yX3_mostLeft wsX3_mostLeft) := goodIn_app (goodIn_of _ (by decide +kernel)) ggX3_mostLeft_X3_mostLeft
theorem dX3_mostLeft_0 : decode cX3_mostLeft 0 = .ok (.iload_n 3, 1) := by decide +kernel
theorem dX3_mostLeft_1 : decode cX3_mostLeft 1 = .ok (.ifCond .gt 8, 3) := by decide +kernel
theorem dX3_mostLeft_4 : decode cX3_mostLeft 4 = .ok (.lload_n 1, 1) := by decide +kernel
theorem dX3_mostLeft_5 : decode cX3_mostLeft 5 = .ok (.invokestatic 31, 3) := by decide +kernel
theorem dX3_mostLeft_8 : decode cX3_mostLeft 8 = .ok (.ireturn, 1) := by decide +kernel
theorem dX3_mostLeft_9 : decode cX3_mostLeft 9 = .ok (.iconst 0, 1) := by decide +kernel
theorem dX3_mostLeft_10 : decode cX3_mostLeft 10 = .ok (.istore 4, 2) := by decide +kernel
theorem dX3_mostLeft_12 : decode cX3_mostLeft 12 = .ok (.iconst 0, 1) := by decide +kernel
theorem dX3_mostLeft_13 : decode cX3_mostLeft 13 = .ok (.istore 5, 2) := by decide +kernel
theorem dX3_mostLeft_15 : decode cX3_mostLeft 15 = .ok (.iload 5, 2) := by decide +kernel
theorem dX3_mostLeft_17 : decode cX3_mostLeft 17 = .ok (.iconst 4, 1) := by decide +kernel
theorem dX3_mostLeft_18 : decode cX3_mostLeft 18 = .ok (.if_icmp .ge 39, 3) := by decide +kernel
theorem dX3_mostLeft_21 : decode cX3_mostLeft 21 = .ok (.iload 4, 2) := by decide +kernel
theorem dX3_mostLeft_23 : decode cX3_mostLeft 23 = .ok (.lload_n 1, 1) := by decide +kernel
theorem dX3_mostLeft_24 : decode cX3_mostLeft 24 = .ok (.invokestatic 31, 3) := by decide +kernel
theorem dX3_mostLeft_27 : decode cX3_mostLeft 27 = .ok (.if_icmp .ge 30, 3) := by decide +kernel
theorem dX3_mostLeft_30 : decode cX3_mostLeft 30 = .ok (.iload 4, 2) := by decide +kernel
theorem dX3_mostLeft_32 : decode cX3_mostLeft 32 = .ok (.aload_n 0, 1) := by decide +kernel
theorem dX3_mostLeft_33 : decode cX3_mostLeft 33 = .ok (.aload_n 0, 1) := by decide +kernel
theorem dX3_mostLeft_34 : decode cX3_mostLeft 34 = .ok (.lload_n 1, 1) := by decide +kernel
theorem dX3_mostLeft_35 : decode cX3_mostLeft 35 = .ok (.iload 5, 2) := by decide +kernel
theorem dX3_mostLeft_37 : decode cX3_mostLeft 37 = .ok (.invokevirtual 15, 3) := by decide +kernel
theorem dX3_mostLeft_40 : decode cX3_mostLeft 40 = .ok (.iload_n 3, 1) := by decide +kernel
theorem dX3_mostLeft_41 : decode cX3_mostLeft 41 = .ok (.iconst 1, 1) := by decide +kernel
theorem dX3_mostLeft_42 : decode cX3_mostLeft 42 = .ok (.isub, 1) := by decide +kernel
theorem dX3_mostLeft_43 : decode cX3_mostLeft 43 = .ok (.invokestatic 38, 3) := by decide +kernel
theorem dX3_mostLeft_46 : decode cX3_mostLeft 46 = .ok (.invokestatic 42, 3) := by decide +kernel
theorem dX3_mostLeft_49 : decode cX3_mostLeft 49 = .ok (.istore 4, 2) := by decide +kernel
theorem dX3_mostLeft_51 : decode cX3_mostLeft 51 = .ok (.iinc 5 1, 3) := by decide +kernel
theorem dX3_mostLeft_54 : decode cX3_mostLeft 54 = .ok (.goto (-39), 3) := by decide +kernel
theorem dX3_mostLeft_57 : decode cX3_mostLeft 57 = .ok (.iload 4, 2) := by decide +kernel
theorem dX3_mostLeft_59 : decode cX3_mostLeft 59 = .ok (.ireturn, 1) := by decide +kernel
set_option maxRecDepth 20000 in
theorem ggX3_leftByAll_X1_howManyIn : GoodIn wsX3_leftByAll wsX1_howManyIn := goodIn_r _ [3, 4, 5, 2, 6, 7, 8, 9, 10, 11, 12, 13] (by decide +kernel) (by decide +kernel)
set_option maxRecDepth 20000 in
theorem gX3_leftByAll_X1_howManyIn_n31 : GoodIn wsX3_leftByAll (wsX1_howManyIn) := ggX3_leftByAll_X1_howManyIn
set_option maxRecDepth 20000 in
theorem ggX3_leftByAll_X2_afterTune : GoodIn wsX3_leftByAll wsX2_afterTune := goodIn_r _ [17, 18, 19, 20, 21, 2, 22, 23, 24, 25, 26, 27, 15, 28, 29, 30, 31, 32, 33, 34, 35, 36, 37, 38, 39, 40, 41, 42, 43, 44, 45, 46, 47, 48, 49, 50, 51, 52, 5, 6, 53, 54, 55, 56, 57, 58, 59, 60, 64, 65, 66, 67, 68, 69, 70] (by decide +kernel) (by decide +kernel)
set_option maxRecDepth 20000 in
theorem gX3_leftByAll_X2_afterTune_n15 : GoodIn wsX3_leftByAll (wsX2_afterTune) := ggX3_leftByAll_X2_afterTune
set_option maxRecDepth 20000 in
theorem ggX3_leftByAll_X3_leftByAll : GoodIn wsX3_leftByAll wsX3_leftByAll := goodIn_r _ [0, 1, 2, 3, 4, 5, 6, 7, 8, 9, 10, 11, 12, 13, 14, 15, 16, 17, 18, 19, 20, 21, 22, 23, 24, 25, 26, 27, 28, 29, 30, 31, 32, 33, 34, 35, 36, 37, 38, 39, 40, 41, 42, 43, 44, 45, 46, 47, 48, 49, 50, 51, 52, 53, 54, 55, 56, 57, 58, 59, 60, 61, 62, 63, 64, 65, 66, 67, 68, 69, 70] (by decide +kernel) (by decide +kernel)
set_option maxRecDepth 20000 in
theorem gX3_leftByAll_X3_leftByAll : GoodIn wsX3_leftByAll (va_wsS RX3 48 yX3_leftByAll wsX3_leftByAll) := goodIn_app (goodIn_of _ (by decide +kernel)) ggX3_leftByAll_X3_leftByAll
theorem dX3_leftByAll_0 : decode cX3_leftByAll 0 = .ok (.iload_n 3, 1) := by decide +kernel
theorem dX3_leftByAll_1 : decode cX3_leftByAll 1 = .ok (.ifCond .gt 9, 3) := by decide +kernel
theorem dX3_leftByAll_4 : decode cX3_leftByAll 4 = .ok (.lload_n 1, 1) := by decide +kernel
theorem dX3_leftByAll_5 : decode cX3_leftByAll 5 = .ok (.invokestatic 31, 3) := by decide +kernel
theorem dX3_leftByAll_8 : decode cX3_leftByAll 8 = .ok (.i2l, 1) := by decide +kernel
theorem dX3_leftByAll_9 : decode cX3_leftByAll 9 = .ok (.lreturn, 1) := by decide +kernel
theorem dX3_leftByAll_10 : decode cX3_leftByAll 10 = .ok (.lconst 0, 1) := by decide +kernel
theorem dX3_leftByAll_11 : decode cX3_leftByAll 11 = .ok (.lstore 4, 2) := by decide +kernel
theorem dX3_leftByAll_13 : decode cX3_leftByAll 13 = .ok (.iconst 0, 1) := by decide +kernel
theorem dX3_leftByAll_14 : decode cX3_leftByAll 14 = .ok (.istore 6, 2) := by decide +kernel
theorem dX3_leftByAll_16 : decode cX3_leftByAll 16 = .ok (.iload 6, 2) := by decide +kernel
theorem dX3_leftByAll_18 : decode cX3_leftByAll 18 = .ok (.iconst 4, 1) := by decide +kernel
theorem dX3_leftByAll_19 : decode cX3_leftByAll 19 = .ok (.if_icmp .ge 28, 3) := by decide +kernel
theorem dX3_leftByAll_22 : decode cX3_leftByAll 22 = .ok (.lload 4, 2) := by decide +kernel
theorem dX3_leftByAll_24 : decode cX3_leftByAll 24 = .ok (.aload_n 0, 1) := by decide +kernel
theorem dX3_leftByAll_25 : decode cX3_leftByAll 25 = .ok (.aload_n 0, 1) := by decide +kernel
theorem dX3_leftByAll_26 : decode cX3_leftByAll 26 = .ok (.lload_n 1, 1) := by decide +kernel
theorem dX3_leftByAll_27 : decode cX3_leftByAll 27 = .ok (.iload 6, 2) := by decide +kernel
theorem dX3_leftByAll_29 : decode cX3_leftByAll 29 = .ok (.invokevirtual 15, 3) := by decide +kernel
theorem dX3_leftByAll_32 : decode cX3_leftByAll 32 = .ok (.iload_n 3, 1) := by decide +kernel
theorem dX3_leftByAll_33 : decode cX3_leftByAll 33 = .ok (.iconst 1, 1) := by decide +kernel
theorem dX3_leftByAll_34 : decode cX3_leftByAll 34 = .ok (.isub, 1) := by decide +kernel
theorem dX3_leftByAll_35 : decode cX3_leftByAll 35 = .ok (.invokestatic 48, 3) := by decide +kernel
theorem dX3_leftByAll_38 : decode cX3_leftByAll 38 = .ok (.ladd, 1) := by decide +kernel
theorem dX3_leftByAll_39 : decode cX3_leftByAll 39 = .ok (.lstore 4, 2) := by decide +kernel
theorem dX3_leftByAll_41 : decode cX3_leftByAll 41 = .ok (.iinc 6 1, 3) := by decide +kernel
theorem dX3_leftByAll_44 : decode cX3_leftByAll 44 = .ok (.goto (-28), 3) := by decide +kernel
theorem dX3_leftByAll_47 : decode cX3_leftByAll 47 = .ok (.lload 4, 2) := by decide +kernel
theorem dX3_leftByAll_49 : decode cX3_leftByAll 49 = .ok (.lreturn, 1) := by decide +kernel
set_option maxRecDepth 20000 in
theorem ggX3_canCheerAll_X1_griefOfAll : GoodIn wsX3_canCheerAll wsX1_griefOfAll := goodIn_r _ [3, 4, 5, 2, 6, 7] (by decide +kernel) (by decide +kernel)
set_option maxRecDepth 20000 in
theorem gX3_canCheerAll_X1_griefOfAll_n51 : GoodIn wsX3_canCheerAll (wsX1_griefOfAll) := ggX3_canCheerAll_X1_griefOfAll
set_option maxRecDepth 20000 in
theorem ggX3_canCheerAll_X2_afterTune : GoodIn wsX3_canCheerAll wsX2_afterTune := goodIn_r _ [11, 12, 13, 14, 15, 2, 16, 5, 6, 7, 17, 18, 9, 19, 20, 21, 22, 23, 24, 25, 26, 27, 28, 29, 30, 31, 32, 33, 34, 35, 36, 37, 38, 39, 40, 41, 42, 43, 44, 45, 46, 47, 48, 49, 50, 51, 52, 53, 57, 58, 59, 60, 61, 62, 63] (by decide +kernel) (by decide +kernel)
set_option maxRecDepth 20000 in
theorem gX3_canCheerAll_X2_afterTune_n15 : GoodIn wsX3_canCheerAll (wsX2_afterTune) := ggX3_canCheerAll_X2_afterTune
set_option maxRecDepth 20000 in
theorem ggX3_canCheerAll_X1_insiders : GoodIn wsX3_canCheerAll wsX1_insiders := goodIn_r _ [45] (by decide +kernel) (by decide +kernel)
set_option maxRecDepth 20000 in
theorem gX3_canCheerAll_X1_insiders_n21 : GoodIn wsX3_canCheerAll (wsX1_insiders) := ggX3_canCheerAll_X1_insiders
set_option maxRecDepth 20000 in
theorem ggX3_canCheerAll_X3_canCheerAll : GoodIn wsX3_canCheerAll wsX3_canCheerAll := goodIn_r _ [0, 1, 2, 3, 4, 5, 6, 7, 8, 9, 10, 11, 12, 13, 14, 15, 16, 17, 18, 19, 20, 21, 22, 23, 24, 25, 26, 27, 28, 29, 30, 31, 32, 33, 34, 35, 36, 37, 38, 39, 40, 41, 42, 43, 44, 45, 46, 47, 48, 49, 50, 51, 52, 53, 54, 55, 56, 57, 58, 59, 60, 61, 62, 63] (by decide +kernel) (by decide +kernel)
set_option maxRecDepth 20000 in
theorem gX3_canCheerAll_X3_canCheerAll : GoodIn wsX3_canCheerAll (va_wsS RX3 54 yX3_canCheerAll wsX3_canCheerAll) := goodIn_app (goodIn_of _ (by decide +kernel)) ggX3_canCheerAll_X3_canCheerAll
theorem dX3_canCheerAll_0 : decode cX3_canCheerAll 0 = .ok (.iload_n 3, 1) := by decide +kernel
theorem dX3_canCheerAll_1 : decode cX3_canCheerAll 1 = .ok (.ifCond .gt 16, 3) := by decide +kernel
theorem dX3_canCheerAll_4 : decode cX3_canCheerAll 4 = .ok (.lload_n 1, 1) := by decide +kernel
theorem dX3_canCheerAll_5 : decode cX3_canCheerAll 5 = .ok (.invokestatic 51, 3) := by decide +kernel
theorem dX3_canCheerAll_8 : decode cX3_canCheerAll 8 = .ok (.ifCond .ne 7, 3) := by decide +kernel
theorem dX3_canCheerAll_11 : decode cX3_canCheerAll 11 = .ok (.iconst 1, 1) := by decide +kernel
theorem dX3_canCheerAll_12 : decode cX3_canCheerAll 12 = .ok (.goto 4, 3) := by decide +kernel
theorem dX3_canCheerAll_15 : decode cX3_canCheerAll 15 = .ok (.iconst 0, 1) := by decide +kernel
theorem dX3_canCheerAll_16 : decode cX3_canCheerAll 16 = .ok (.ireturn, 1) := by decide +kernel
theorem dX3_canCheerAll_17 : decode cX3_canCheerAll 17 = .ok (.iconst 0, 1) := by decide +kernel
theorem dX3_canCheerAll_18 : decode cX3_canCheerAll 18 = .ok (.istore 4, 2) := by decide +kernel
theorem dX3_canCheerAll_20 : decode cX3_canCheerAll 20 = .ok (.iload 4, 2) := by decide +kernel
theorem dX3_canCheerAll_22 : decode cX3_canCheerAll 22 = .ok (.iconst 4, 1) := by decide +kernel
theorem dX3_canCheerAll_23 : decode cX3_canCheerAll 23 = .ok (.if_icmp .ge 44, 3) := by decide +kernel
theorem dX3_canCheerAll_26 : decode cX3_canCheerAll 26 = .ok (.aload_n 0, 1) := by decide +kernel
theorem dX3_canCheerAll_27 : decode cX3_canCheerAll 27 = .ok (.lload_n 1, 1) := by decide +kernel
theorem dX3_canCheerAll_28 : decode cX3_canCheerAll 28 = .ok (.iload 4, 2) := by decide +kernel
theorem dX3_canCheerAll_30 : decode cX3_canCheerAll 30 = .ok (.invokevirtual 15, 3) := by decide +kernel
theorem dX3_canCheerAll_33 : decode cX3_canCheerAll 33 = .ok (.lstore 5, 2) := by decide +kernel
theorem dX3_canCheerAll_35 : decode cX3_canCheerAll 35 = .ok (.lload 5, 2) := by decide +kernel
theorem dX3_canCheerAll_37 : decode cX3_canCheerAll 37 = .ok (.invokestatic 21, 3) := by decide +kernel
theorem dX3_canCheerAll_40 : decode cX3_canCheerAll 40 = .ok (.lload_n 1, 1) := by decide +kernel
theorem dX3_canCheerAll_41 : decode cX3_canCheerAll 41 = .ok (.invokestatic 21, 3) := by decide +kernel
theorem dX3_canCheerAll_44 : decode cX3_canCheerAll 44 = .ok (.if_icmp .ne 17, 3) := by decide +kernel
theorem dX3_canCheerAll_47 : decode cX3_canCheerAll 47 = .ok (.aload_n 0, 1) := by decide +kernel
theorem dX3_canCheerAll_48 : decode cX3_canCheerAll 48 = .ok (.lload 5, 2) := by decide +kernel
theorem dX3_canCheerAll_50 : decode cX3_canCheerAll 50 = .ok (.iload_n 3, 1) := by decide +kernel
theorem dX3_canCheerAll_51 : decode cX3_canCheerAll 51 = .ok (.iconst 1, 1) := by decide +kernel
theorem dX3_canCheerAll_52 : decode cX3_canCheerAll 52 = .ok (.isub, 1) := by decide +kernel
theorem dX3_canCheerAll_53 : decode cX3_canCheerAll 53 = .ok (.invokestatic 54, 3) := by decide +kernel
theorem dX3_canCheerAll_56 : decode cX3_canCheerAll 56 = .ok (.ifCond .eq 5, 3) := by decide +kernel
theorem dX3_canCheerAll_59 : decode cX3_canCheerAll 59 = .ok (.iconst 1, 1) := by decide +kernel
theorem dX3_canCheerAll_60 : decode cX3_canCheerAll 60 = .ok (.ireturn, 1) := by decide +kernel
theorem dX3_canCheerAll_61 : decode cX3_canCheerAll 61 = .ok (.iinc 4 1, 3) := by decide +kernel
theorem dX3_canCheerAll_64 : decode cX3_canCheerAll 64 = .ok (.goto (-44), 3) := by decide +kernel
theorem dX3_canCheerAll_67 : decode cX3_canCheerAll 67 = .ok (.iconst 0, 1) := by decide +kernel
theorem dX3_canCheerAll_68 : decode cX3_canCheerAll 68 = .ok (.ireturn, 1) := by decide +kernel
set_option maxRecDepth 20000 in
theorem ggX3_leftAtBandsTurn_X1_howManyIn : GoodIn wsX3_leftAtBandsTurn wsX1_howManyIn := goodIn_r _ [7, 8, 9, 6, 10, 11, 12, 13, 14, 15, 16, 17] (by decide +kernel) (by decide +kernel)
set_option maxRecDepth 20000 in
theorem gX3_leftAtBandsTurn_X1_howManyIn_n31 : GoodIn wsX3_leftAtBandsTurn (wsX1_howManyIn) := ggX3_leftAtBandsTurn_X1_howManyIn
set_option maxRecDepth 20000 in
theorem ggX3_leftAtBandsTurn_X2_afterTune : GoodIn wsX3_leftAtBandsTurn wsX2_afterTune := goodIn_r _ [21, 22, 23, 24, 25, 6, 26, 27, 28, 29, 30, 31, 19, 32, 33, 34, 35, 36, 37, 3, 38, 39, 40, 41, 42, 43, 44, 45, 2, 4, 46, 47, 48, 49, 50, 51, 52, 53, 9, 10, 54, 55, 56, 57, 58, 59, 60, 61, 75, 76, 77, 78, 79, 80, 81] (by decide +kernel) (by decide +kernel)
set_option maxRecDepth 20000 in
theorem gX3_leftAtBandsTurn_X2_afterTune_n15 : GoodIn wsX3_leftAtBandsTurn (wsX2_afterTune) := ggX3_leftAtBandsTurn_X2_afterTune
set_option maxRecDepth 20000 in
theorem ggX3_leftAtBandsTurn_X3_leftAtAuntsTurn : GoodIn wsX3_leftAtBandsTurn wsX3_leftAtAuntsTurn := goodIn_r _ [65, 66, 37, 3, 38, 5, 6, 7, 8, 9, 10, 11, 12, 13, 14, 15, 16, 17, 25, 26, 67, 19, 68, 69, 23, 27, 28, 29, 70, 71, 72, 42, 43, 44, 36, 45, 2, 4, 46, 47, 48, 49, 50, 51, 52, 22, 53, 54, 55, 56, 57, 58, 59, 60, 61, 73, 74, 64, 0, 1, 18, 20, 21, 24, 30, 31, 32, 33, 34, 35, 39, 40, 41, 62, 63, 75, 76, 77, 78, 79, 80, 81] (by decide +kernel) (by decide +kernel)
set_option maxRecDepth 20000 in
theorem gX3_leftAtBandsTurn_X3_leftAtAuntsTurn : GoodIn wsX3_leftAtBandsTurn (va_wsS RX3 58 yX3_leftAtAuntsTurn wsX3_leftAtAuntsTurn) := goodIn_app (goodIn_of _ (by decide +kernel)) ggX3_leftAtBandsTurn_X3_leftAtAuntsTurn
theorem dX3_leftAtBandsTurn_0 : decode cX3_leftAtBandsTurn 0 = .ok (.iload_n 3, 1) := by decide +kernel
theorem dX3_leftAtBandsTurn_1 : decode cX3_leftAtBandsTurn 1 = .ok (.ifCond .gt 8, 3) := by decide +kernel
theorem dX3_leftAtBandsTurn_4 : decode cX3_leftAtBandsTurn 4 = .ok (.lload_n 1, 1) := by decide +kernel
theorem dX3_leftAtBandsTurn_5 : decode cX3_leftAtBandsTurn 5 = .ok (.invokestatic 31, 3) := by decide +kernel
theorem dX3_leftAtBandsTurn_8 : decode cX3_leftAtBandsTurn 8 = .ok (.ireturn, 1) := by decide +kernel
theorem dX3_leftAtBandsTurn_9 : decode cX3_leftAtBandsTurn 9 = .ok (.iconst 0, 1) := by decide +kernel
theorem dX3_leftAtBandsTurn_10 : decode cX3_leftAtBandsTurn 10 = .ok (.istore 4, 2) := by decide +kernel
theorem dX3_leftAtBandsTurn_12 : decode cX3_leftAtBandsTurn 12 = .ok (.iconst 0, 1) := by decide +kernel
theorem dX3_leftAtBandsTurn_13 : decode cX3_leftAtBandsTurn 13 = .ok (.istore 5, 2) := by decide +kernel
theorem dX3_leftAtBandsTurn_15 : decode cX3_leftAtBandsTurn 15 = .ok (.iload 5, 2) := by decide +kernel
theorem dX3_leftAtBandsTurn_17 : decode cX3_leftAtBandsTurn 17 = .ok (.iconst 4, 1) := by decide +kernel
theorem dX3_leftAtBandsTurn_18 : decode cX3_leftAtBandsTurn 18 = .ok (.if_icmp .ge 28, 3) := by decide +kernel
theorem dX3_leftAtBandsTurn_21 : decode cX3_leftAtBandsTurn 21 = .ok (.iload 4, 2) := by decide +kernel
theorem dX3_leftAtBandsTurn_23 : decode cX3_leftAtBandsTurn 23 = .ok (.aload_n 0, 1) := by decide +kernel
theorem dX3_leftAtBandsTurn_24 : decode cX3_leftAtBandsTurn 24 = .ok (.aload_n 0, 1) := by decide +kernel
theorem dX3_leftAtBandsTurn_25 : decode cX3_leftAtBandsTurn 25 = .ok (.lload_n 1, 1) := by decide +kernel
theorem dX3_leftAtBandsTurn_26 : decode cX3_leftAtBandsTurn 26 = .ok (.iload 5, 2) := by decide +kernel
theorem dX3_leftAtBandsTurn_28 : decode cX3_leftAtBandsTurn 28 = .ok (.invokevirtual 15, 3) := by decide +kernel
theorem dX3_leftAtBandsTurn_31 : decode cX3_leftAtBandsTurn 31 = .ok (.iload_n 3, 1) := by decide +kernel
theorem dX3_leftAtBandsTurn_32 : decode cX3_leftAtBandsTurn 32 = .ok (.invokestatic 58, 3) := by decide +kernel
theorem dX3_leftAtBandsTurn_35 : decode cX3_leftAtBandsTurn 35 = .ok (.invokestatic 42, 3) := by decide +kernel
theorem dX3_leftAtBandsTurn_38 : decode cX3_leftAtBandsTurn 38 = .ok (.istore 4, 2) := by decide +kernel
theorem dX3_leftAtBandsTurn_40 : decode cX3_leftAtBandsTurn 40 = .ok (.iinc 5 1, 3) := by decide +kernel
theorem dX3_leftAtBandsTurn_43 : decode cX3_leftAtBandsTurn 43 = .ok (.goto (-28), 3) := by decide +kernel
theorem dX3_leftAtBandsTurn_46 : decode cX3_leftAtBandsTurn 46 = .ok (.iload 4, 2) := by decide +kernel
theorem dX3_leftAtBandsTurn_48 : decode cX3_leftAtBandsTurn 48 = .ok (.ireturn, 1) := by decide +kernel
set_option maxRecDepth 20000 in
theorem ggX3_leftAtAuntsTurn_X1_howManyIn : GoodIn wsX3_leftAtAuntsTurn wsX1_howManyIn := goodIn_r _ [7, 8, 9, 6, 10, 11, 12, 13, 14, 15, 16, 17] (by decide +kernel) (by decide +kernel)
set_option maxRecDepth 20000 in
theorem gX3_leftAtAuntsTurn_X1_howManyIn_n31 : GoodIn wsX3_leftAtAuntsTurn (wsX1_howManyIn) := ggX3_leftAtAuntsTurn_X1_howManyIn
set_option maxRecDepth 20000 in
theorem ggX3_leftAtAuntsTurn_X1_isIn : GoodIn wsX3_leftAtAuntsTurn wsX1_isIn := goodIn_r _ [19] (by decide +kernel) (by decide +kernel)
set_option maxRecDepth 20000 in
theorem gX3_leftAtAuntsTurn_X1_isIn_n65 : GoodIn wsX3_leftAtAuntsTurn (wsX1_isIn) := ggX3_leftAtAuntsTurn_X1_isIn
set_option maxRecDepth 20000 in
theorem ggX3_leftAtAuntsTurn_X2_afterName : GoodIn wsX3_leftAtAuntsTurn wsX2_afterName := goodIn_r _ [23, 24, 25, 6, 26, 27, 28, 29, 21, 30, 31, 32, 33, 34, 2, 3, 4, 35, 36, 37, 38, 39, 40, 41, 42, 43, 44, 45, 46, 9, 10, 47, 48, 49, 50, 51, 52, 53, 54, 75, 76, 77, 78, 79, 80, 81] (by decide +kernel) (by decide +kernel)
set_option maxRecDepth 20000 in
theorem gX3_leftAtAuntsTurn_X2_afterName_n69 : GoodIn wsX3_leftAtAuntsTurn (wsX2_afterName) := ggX3_leftAtAuntsTurn_X2_afterName
set_option maxRecDepth 20000 in
theorem ggX3_leftAtAuntsTurn_X3_leftAtBandsTurn : GoodIn wsX3_leftAtAuntsTurn wsX3_leftAtBandsTurn := goodIn_r _ [58, 59, 36, 3, 37, 5, 6, 7, 8, 9, 10, 11, 12, 13, 14, 15, 16, 17, 60, 21, 61, 62, 45, 24, 63, 18, 19, 25, 26, 27, 64, 65, 66, 67, 68, 69, 34, 2, 4, 70, 71, 72, 31, 32, 33, 35, 38, 39, 40, 41, 42, 43, 44, 46, 47, 48, 49, 50, 51, 52, 53, 54, 73, 74, 57, 0, 1, 20, 22, 23, 28, 29, 30, 55, 56, 75, 76, 77, 78, 79, 80, 81] (by decide +kernel) (by decide +kernel)
set_option maxRecDepth 20000 in
theorem gX3_leftAtAuntsTurn_X3_leftAtBandsTurn : GoodIn wsX3_leftAtAuntsTurn (va_wsS RX3 72 yX3_leftAtBandsTurn wsX3_leftAtBandsTurn) := goodIn_app (goodIn_of _ (by decide +kernel)) ggX3_leftAtAuntsTurn_X3_leftAtBandsTurn
theorem dX3_leftAtAuntsTurn_0 : decode cX3_leftAtAuntsTurn 0 = .ok (.lload_n 1, 1) := by decide +kernel
theorem dX3_leftAtAuntsTurn_1 : decode cX3_leftAtAuntsTurn 1 = .ok (.invokestatic 31, 3) := by decide +kernel
theorem dX3_leftAtAuntsTurn_4 : decode cX3_leftAtAuntsTurn 4 = .ok (.istore 4, 2) := by decide +kernel
theorem dX3_leftAtAuntsTurn_6 : decode cX3_leftAtAuntsTurn 6 = .ok (.iconst 0, 1) := by decide +kernel
theorem dX3_leftAtAuntsTurn_7 : decode cX3_leftAtAuntsTurn 7 = .ok (.istore 5, 2) := by decide +kernel
theorem dX3_leftAtAuntsTurn_9 : decode cX3_leftAtAuntsTurn 9 = .ok (.iload 5, 2) := by decide +kernel
theorem dX3_leftAtAuntsTurn_11 : decode cX3_leftAtAuntsTurn 11 = .ok (.aload_n 0, 1) := by decide +kernel
theorem dX3_leftAtAuntsTurn_12 : decode cX3_leftAtAuntsTurn 12 = .ok (.getfield 61, 3) := by decide +kernel
theorem dX3_leftAtAuntsTurn_15 : decode cX3_leftAtAuntsTurn 15 = .ok (.if_icmp .ge 39, 3) := by decide +kernel
theorem dX3_leftAtAuntsTurn_18 : decode cX3_leftAtAuntsTurn 18 = .ok (.lload_n 1, 1) := by decide +kernel
theorem dX3_leftAtAuntsTurn_19 : decode cX3_leftAtAuntsTurn 19 = .ok (.iload 5, 2) := by decide +kernel
theorem dX3_leftAtAuntsTurn_21 : decode cX3_leftAtAuntsTurn 21 = .ok (.invokestatic 65, 3) := by decide +kernel
theorem dX3_leftAtAuntsTurn_24 : decode cX3_leftAtAuntsTurn 24 = .ok (.ifCond .eq 24, 3) := by decide +kernel
theorem dX3_leftAtAuntsTurn_27 : decode cX3_leftAtAuntsTurn 27 = .ok (.iload 4, 2) := by decide +kernel
theorem dX3_leftAtAuntsTurn_29 : decode cX3_leftAtAuntsTurn 29 = .ok (.aload_n 0, 1) := by decide +kernel
theorem dX3_leftAtAuntsTurn_30 : decode cX3_leftAtAuntsTurn 30 = .ok (.aload_n 0, 1) := by decide +kernel
theorem dX3_leftAtAuntsTurn_31 : decode cX3_leftAtAuntsTurn 31 = .ok (.lload_n 1, 1) := by decide +kernel
theorem dX3_leftAtAuntsTurn_32 : decode cX3_leftAtAuntsTurn 32 = .ok (.iload 5, 2) := by decide +kernel
theorem dX3_leftAtAuntsTurn_34 : decode cX3_leftAtAuntsTurn 34 = .ok (.invokevirtual 69, 3) := by decide +kernel
theorem dX3_leftAtAuntsTurn_37 : decode cX3_leftAtAuntsTurn 37 = .ok (.iload_n 3, 1) := by decide +kernel
theorem dX3_leftAtAuntsTurn_38 : decode cX3_leftAtAuntsTurn 38 = .ok (.iconst 1, 1) := by decide +kernel
theorem dX3_leftAtAuntsTurn_39 : decode cX3_leftAtAuntsTurn 39 = .ok (.isub, 1) := by decide +kernel
theorem dX3_leftAtAuntsTurn_40 : decode cX3_leftAtAuntsTurn 40 = .ok (.invokestatic 72, 3) := by decide +kernel
theorem dX3_leftAtAuntsTurn_43 : decode cX3_leftAtAuntsTurn 43 = .ok (.invokestatic 75, 3) := by decide +kernel
theorem dX3_leftAtAuntsTurn_46 : decode cX3_leftAtAuntsTurn 46 = .ok (.istore 4, 2) := by decide +kernel
theorem dX3_leftAtAuntsTurn_48 : decode cX3_leftAtAuntsTurn 48 = .ok (.iinc 5 1, 3) := by decide +kernel
theorem dX3_leftAtAuntsTurn_51 : decode cX3_leftAtAuntsTurn 51 = .ok (.goto (-42), 3) := by decide +kernel
theorem dX3_leftAtAuntsTurn_54 : decode cX3_leftAtAuntsTurn 54 = .ok (.iload 4, 2) := by decide +kernel
theorem dX3_leftAtAuntsTurn_56 : decode cX3_leftAtAuntsTurn 56 = .ok (.ireturn, 1) := by decide +kernel
theorem dX4_init_0 : decode cX4_init 0 = .ok (.aload_n 0, 1) := by decide +kernel
theorem dX4_init_1 : decode cX4_init 1 = .ok (.invokespecial 3, 3) := by decide +kernel
theorem dX4_init_4 : decode cX4_init 4 = .ok (.aload_n 0, 1) := by decide +kernel
theorem dX4_init_5 : decode cX4_init 5 = .ok (.iconst 0, 1) := by decide +kernel
theorem dX4_init_6 : decode cX4_init 6 = .ok (.putfield 11, 3) := by decide +kernel
theorem dX4_init_9 : decode cX4_init 9 = .ok (.aload_n 0, 1) := by decide +kernel
theorem dX4_init_10 : decode cX4_init 10 = .ok (.iconst 0, 1) := by decide +kernel
theorem dX4_init_11 : decode cX4_init 11 = .ok (.putfield 15, 3) := by decide +kernel
theorem dX4_init_14 : decode cX4_init 14 = .ok (.aload_n 0, 1) := by decide +kernel
theorem dX4_init_15 : decode cX4_init 15 = .ok (.iconst 0, 1) := by decide +kernel
theorem dX4_init_16 : decode cX4_init 16 = .ok (.putfield 18, 3) := by decide +kernel
theorem dX4_init_19 : decode cX4_init 19 = .ok (.aload_n 0, 1) := by decide +kernel
theorem dX4_init_20 : decode cX4_init 20 = .ok (.iconst 0, 1) := by decide +kernel
theorem dX4_init_21 : decode cX4_init 21 = .ok (.putfield 21, 3) := by decide +kernel
theorem dX4_init_24 : decode cX4_init 24 = .ok (.return_, 1) := by decide +kernel
set_option maxRecDepth 20000 in
theorem ggX4_faultOf_X2_clear : GoodIn wsX4_faultOf wsX2_clear := goodIn_r _ [7, 8, 9, 10, 11, 59, 60, 61, 62, 63, 64, 65] (by decide +kernel) (by decide +kernel)
set_option maxRecDepth 20000 in
theorem gX4_faultOf_X2_clear_n25 : GoodIn wsX4_faultOf (wsX2_clear) := ggX4_faultOf_X2_clear
set_option maxRecDepth 20000 in
theorem ggX4_faultOf_X4_takes : GoodIn wsX4_faultOf wsX4_takes := goodIn_r _ [16, 1, 17, 18, 19, 15, 20, 21, 22, 23, 24, 25, 26, 27, 28, 2, 29, 30, 31, 32, 33, 34, 35, 36, 37, 38, 3, 39, 40, 41, 42, 43, 44, 45, 46, 47, 48, 49, 50, 51, 52, 53, 54, 55, 56, 57, 58, 59, 60, 61, 62, 63, 64, 65] (by decide +kernel) (by decide +kernel)
set_option maxRecDepth 20000 in
theorem gX4_faultOf_X4_takes : GoodIn wsX4_faultOf (wsV RX4 30 RX4 yX4_takes wsX4_takes) := goodIn_app (goodIn_of _ (by decide +kernel)) ggX4_faultOf_X4_takes
theorem dX4_faultOf_0 : decode cX4_faultOf 0 = .ok (.aload_n 0, 1) := by decide +kernel
theorem dX4_faultOf_1 : decode cX4_faultOf 1 = .ok (.iconst 0, 1) := by decide +kernel
theorem dX4_faultOf_2 : decode cX4_faultOf 2 = .ok (.putfield 11, 3) := by decide +kernel
theorem dX4_faultOf_5 : decode cX4_faultOf 5 = .ok (.aload_n 0, 1) := by decide +kernel
theorem dX4_faultOf_6 : decode cX4_faultOf 6 = .ok (.iconst 0, 1) := by decide +kernel
theorem dX4_faultOf_7 : decode cX4_faultOf 7 = .ok (.putfield 15, 3) := by decide +kernel
theorem dX4_faultOf_10 : decode cX4_faultOf 10 = .ok (.aload_n 0, 1) := by decide +kernel
theorem dX4_faultOf_11 : decode cX4_faultOf 11 = .ok (.iconst 0, 1) := by decide +kernel
theorem dX4_faultOf_12 : decode cX4_faultOf 12 = .ok (.putfield 21, 3) := by decide +kernel
theorem dX4_faultOf_15 : decode cX4_faultOf 15 = .ok (.aload_n 3, 1) := by decide +kernel
theorem dX4_faultOf_16 : decode cX4_faultOf 16 = .ok (.invokevirtual 25, 3) := by decide +kernel
theorem dX4_faultOf_19 : decode cX4_faultOf 19 = .ok (.iconst 0, 1) := by decide +kernel
theorem dX4_faultOf_20 : decode cX4_faultOf 20 = .ok (.istore 4, 2) := by decide +kernel
theorem dX4_faultOf_22 : decode cX4_faultOf 22 = .ok (.iload 4, 2) := by decide +kernel
theorem dX4_faultOf_24 : decode cX4_faultOf 24 = .ok (.iload_n 2, 1) := by decide +kernel
theorem dX4_faultOf_25 : decode cX4_faultOf 25 = .ok (.if_icmp .ge 24, 3) := by decide +kernel
theorem dX4_faultOf_28 : decode cX4_faultOf 28 = .ok (.aload_n 0, 1) := by decide +kernel
theorem dX4_faultOf_29 : decode cX4_faultOf 29 = .ok (.aload_n 1, 1) := by decide +kernel
theorem dX4_faultOf_30 : decode cX4_faultOf 30 = .ok (.iload 4, 2) := by decide +kernel
theorem dX4_faultOf_32 : decode cX4_faultOf 32 = .ok (.baload, 1) := by decide +kernel
theorem dX4_faultOf_33 : decode cX4_faultOf 33 = .ok (.aload_n 3, 1) := by decide +kernel
theorem dX4_faultOf_34 : decode cX4_faultOf 34 = .ok (.invokevirtual 30, 3) := by decide +kernel
theorem dX4_faultOf_37 : decode cX4_faultOf 37 = .ok (.ifCond .ne 6, 3) := by decide +kernel
theorem dX4_faultOf_40 : decode cX4_faultOf 40 = .ok (.iload 4, 2) := by decide +kernel
theorem dX4_faultOf_42 : decode cX4_faultOf 42 = .ok (.ireturn, 1) := by decide +kernel
theorem dX4_faultOf_43 : decode cX4_faultOf 43 = .ok (.iinc 4 1, 3) := by decide +kernel
theorem dX4_faultOf_46 : decode cX4_faultOf 46 = .ok (.goto (-24), 3) := by decide +kernel
theorem dX4_faultOf_49 : decode cX4_faultOf 49 = .ok (.aload_n 0, 1) := by decide +kernel
theorem dX4_faultOf_50 : decode cX4_faultOf 50 = .ok (.getfield 11, 3) := by decide +kernel
theorem dX4_faultOf_53 : decode cX4_faultOf 53 = .ok (.iconst 3, 1) := by decide +kernel
theorem dX4_faultOf_54 : decode cX4_faultOf 54 = .ok (.if_icmp .ne 15, 3) := by decide +kernel
theorem dX4_faultOf_57 : decode cX4_faultOf 57 = .ok (.aload_n 3, 1) := by decide +kernel
theorem dX4_faultOf_58 : decode cX4_faultOf 58 = .ok (.getfield 34, 3) := by decide +kernel
theorem dX4_faultOf_61 : decode cX4_faultOf 61 = .ok (.ifCond .le 8, 3) := by decide +kernel
theorem dX4_faultOf_64 : decode cX4_faultOf 64 = .ok (.bipush (-9), 2) := by decide +kernel
theorem dX4_faultOf_66 : decode cX4_faultOf 66 = .ok (.goto 4, 3) := by decide +kernel
theorem dX4_faultOf_69 : decode cX4_faultOf 69 = .ok (.iload_n 2, 1) := by decide +kernel
theorem dX4_faultOf_70 : decode cX4_faultOf 70 = .ok (.ireturn, 1) := by decide +kernel
set_option maxRecDepth 20000 in
theorem ggX4_takes_X4_takesOpening : GoodIn wsX4_takes wsX4_takesOpening := goodIn_r _ [6, 1, 43, 44, 45, 46] (by decide +kernel) (by decide +kernel)
set_option maxRecDepth 20000 in
theorem gX4_takes_X4_takesOpening : GoodIn wsX4_takes (wsV RX4 37 RX4 yX4_takesOpening wsX4_takesOpening) := goodIn_app (goodIn_of _ (by decide +kernel)) ggX4_takes_X4_takesOpening
set_option maxRecDepth 20000 in
theorem ggX4_takes_X4_takesClause : GoodIn wsX4_takes wsX4_takesClause := goodIn_r _ [10, 1, 47, 48, 49, 50, 51, 52, 53, 43, 44, 45, 46] (by decide +kernel) (by decide +kernel)
set_option maxRecDepth 20000 in
theorem gX4_takes_X4_takesClause : GoodIn wsX4_takes (wsV RX4 41 RX4 yX4_takesClause wsX4_takesClause) := goodIn_app (goodIn_of _ (by decide +kernel)) ggX4_takes_X4_takesClause
set_option maxRecDepth 20000 in
theorem ggX4_takes_X4_takesEffect : GoodIn wsX4_takes wsX4_takesEffect := goodIn_r _ [14, 15, 1, 16, 17, 5, 18, 19, 20, 21, 43, 44, 45, 46, 47, 48, 49, 50, 51, 52, 53] (by decide +kernel) (by decide +kernel)
set_option maxRecDepth 20000 in
theorem gX4_takes_X4_takesEffect : GoodIn wsX4_takes (wsV RX4 44 RX4 yX4_takesEffect wsX4_takesEffect) := goodIn_app (goodIn_of _ (by decide +kernel)) ggX4_takes_X4_takesEffect
set_option maxRecDepth 20000 in
theorem ggX4_takes_X4_takesLetter : GoodIn wsX4_takes wsX4_takesLetter := goodIn_r _ [25, 26, 1, 27, 28, 5, 29, 43, 44, 45, 46, 47, 48, 49, 50, 51, 52, 53] (by decide +kernel) (by decide +kernel)
set_option maxRecDepth 20000 in
theorem gX4_takes_X4_takesLetter : GoodIn wsX4_takes (wsV RX4 47 RX4 yX4_takesLetter wsX4_takesLetter) := goodIn_app (goodIn_of _ (by decide +kernel)) ggX4_takes_X4_takesLetter
set_option maxRecDepth 20000 in
theorem ggX4_takes_X4_takesGrief : GoodIn wsX4_takes wsX4_takesGrief := goodIn_r _ [33, 1, 16, 17, 5, 18, 47, 48, 49, 50, 51, 52, 53, 43, 44, 45, 46] (by decide +kernel) (by decide +kernel)
set_option maxRecDepth 20000 in
theorem gX4_takes_X4_takesGrief : GoodIn wsX4_takes (wsV RX4 50 RX4 yX4_takesGrief wsX4_takesGrief) := goodIn_app (goodIn_of _ (by decide +kernel)) ggX4_takes_X4_takesGrief
set_option maxRecDepth 20000 in
theorem ggX4_takes_X4_takesSeer : GoodIn wsX4_takes wsX4_takesSeer := goodIn_r _ [37, 38, 1, 43, 44, 45, 46, 47, 48, 49, 50, 51, 52, 53] (by decide +kernel) (by decide +kernel)
set_option maxRecDepth 20000 in
theorem gX4_takes_X4_takesSeer : GoodIn wsX4_takes (wsV RX4 53 RX4 yX4_takesSeer wsX4_takesSeer) := goodIn_app (goodIn_of _ (by decide +kernel)) ggX4_takes_X4_takesSeer
set_option maxRecDepth 20000 in
theorem ggX4_takes_X4_takesSeen : GoodIn wsX4_takes wsX4_takesSeen := goodIn_r _ [42, 38, 1, 47, 48, 49, 50, 51, 52, 53, 43, 44, 45, 46] (by decide +kernel) (by decide +kernel)
set_option maxRecDepth 20000 in
theorem gX4_takes_X4_takesSeen : GoodIn wsX4_takes (wsV RX4 56 RX4 yX4_takesSeen wsX4_takesSeen) := goodIn_app (goodIn_of _ (by decide +kernel)) ggX4_takes_X4_takesSeen
theorem dX4_takes_0 : decode cX4_takes 0 = .ok (.iload_n 1, 1) := by decide +kernel
theorem dX4_takes_1 : decode cX4_takes 1 = .ok (.bipush 32, 2) := by decide +kernel
theorem dX4_takes_3 : decode cX4_takes 3 = .ok (.if_icmp .ne 24, 3) := by decide +kernel
theorem dX4_takes_6 : decode cX4_takes 6 = .ok (.aload_n 0, 1) := by decide +kernel
theorem dX4_takes_7 : decode cX4_takes 7 = .ok (.getfield 11, 3) := by decide +kernel
theorem dX4_takes_10 : decode cX4_takes 10 = .ok (.ifCond .eq 11, 3) := by decide +kernel
theorem dX4_takes_13 : decode cX4_takes 13 = .ok (.aload_n 0, 1) := by decide +kernel
theorem dX4_takes_14 : decode cX4_takes 14 = .ok (.getfield 11, 3) := by decide +kernel
theorem dX4_takes_17 : decode cX4_takes 17 = .ok (.iconst 3, 1) := by decide +kernel
theorem dX4_takes_18 : decode cX4_takes 18 = .ok (.if_icmp .ne 7, 3) := by decide +kernel
theorem dX4_takes_21 : decode cX4_takes 21 = .ok (.iconst 1, 1) := by decide +kernel
theorem dX4_takes_22 : decode cX4_takes 22 = .ok (.goto 4, 3) := by decide +kernel
theorem dX4_takes_25 : decode cX4_takes 25 = .ok (.iconst 0, 1) := by decide +kernel
theorem dX4_takes_26 : decode cX4_takes 26 = .ok (.ireturn, 1) := by decide +kernel
theorem dX4_takes_27 : decode cX4_takes 27 = .ok (.aload_n 0, 1) := by decide +kernel
theorem dX4_takes_28 : decode cX4_takes 28 = .ok (.getfield 11, 3) := by decide +kernel
theorem dX4_takes_31 : decode cX4_takes 31 = .ok (.tableswitch 90 0 5 #[37, 43, 53, 63, 70, 80], 37) := by decide +kernel
theorem dX4_takes_68 : decode cX4_takes 68 = .ok (.aload_n 0, 1) := by decide +kernel
theorem dX4_takes_69 : decode cX4_takes 69 = .ok (.iload_n 1, 1) := by decide +kernel
theorem dX4_takes_70 : decode cX4_takes 70 = .ok (.invokevirtual 37, 3) := by decide +kernel
theorem dX4_takes_73 : decode cX4_takes 73 = .ok (.ireturn, 1) := by decide +kernel
theorem dX4_takes_74 : decode cX4_takes 74 = .ok (.aload_n 0, 1) := by decide +kernel
theorem dX4_takes_75 : decode cX4_takes 75 = .ok (.iload_n 1, 1) := by decide +kernel
theorem dX4_takes_76 : decode cX4_takes 76 = .ok (.bipush 48, 2) := by decide +kernel
theorem dX4_takes_78 : decode cX4_takes 78 = .ok (.isub, 1) := by decide +kernel
theorem dX4_takes_79 : decode cX4_takes 79 = .ok (.aload_n 2, 1) := by decide +kernel
theorem dX4_takes_80 : decode cX4_takes 80 = .ok (.invokevirtual 41, 3) := by decide +kernel
theorem dX4_takes_83 : decode cX4_takes 83 = .ok (.ireturn, 1) := by decide +kernel
theorem dX4_takes_84 : decode cX4_takes 84 = .ok (.aload_n 0, 1) := by decide +kernel
theorem dX4_takes_85 : decode cX4_takes 85 = .ok (.iload_n 1, 1) := by decide +kernel
theorem dX4_takes_86 : decode cX4_takes 86 = .ok (.bipush 48, 2) := by decide +kernel
theorem dX4_takes_88 : decode cX4_takes 88 = .ok (.isub, 1) := by decide +kernel
theorem dX4_takes_89 : decode cX4_takes 89 = .ok (.aload_n 2, 1) := by decide +kernel
theorem dX4_takes_90 : decode cX4_takes 90 = .ok (.invokevirtual 44, 3) := by decide +kernel
theorem dX4_takes_93 : decode cX4_takes 93 = .ok (.ireturn, 1) := by decide +kernel
theorem dX4_takes_94 : decode cX4_takes 94 = .ok (.aload_n 0, 1) := by decide +kernel
theorem dX4_takes_95 : decode cX4_takes 95 = .ok (.iload_n 1, 1) := by decide +kernel
theorem dX4_takes_96 : decode cX4_takes 96 = .ok (.aload_n 2, 1) := by decide +kernel
theorem dX4_takes_97 : decode cX4_takes 97 = .ok (.invokevirtual 47, 3) := by decide +kernel
theorem dX4_takes_100 : decode cX4_takes 100 = .ok (.ireturn, 1) := by decide +kernel
theorem dX4_takes_101 : decode cX4_takes 101 = .ok (.aload_n 0, 1) := by decide +kernel
theorem dX4_takes_102 : decode cX4_takes 102 = .ok (.iload_n 1, 1) := by decide +kernel
theorem dX4_takes_103 : decode cX4_takes 103 = .ok (.bipush 48, 2) := by decide +kernel
theorem dX4_takes_105 : decode cX4_takes 105 = .ok (.isub, 1) := by decide +kernel
theorem dX4_takes_106 : decode cX4_takes 106 = .ok (.aload_n 2, 1) := by decide +kernel
theorem dX4_takes_107 : decode cX4_takes 107 = .ok (.invokevirtual 50, 3) := by decide +kernel
theorem dX4_takes_110 : decode cX4_takes 110 = .ok (.ireturn, 1) := by decide +kernel
theorem dX4_takes_111 : decode cX4_takes 111 = .ok (.aload_n 0, 1) := by decide +kernel
theorem dX4_takes_112 : decode cX4_takes 112 = .ok (.iload_n 1, 1) := by decide +kernel
theorem dX4_takes_113 : decode cX4_takes 113 = .ok (.bipush 48, 2) := by decide +kernel
theorem dX4_takes_115 : decode cX4_takes 115 = .ok (.isub, 1) := by decide +kernel
theorem dX4_takes_116 : decode cX4_takes 116 = .ok (.aload_n 2, 1) := by decide +kernel
theorem dX4_takes_117 : decode cX4_takes 117 = .ok (.invokevirtual 53, 3) := by decide +kernel
theorem dX4_takes_120 : decode cX4_takes 120 = .ok (.ireturn, 1) := by decide +kernel
theorem dX4_takes_121 : decode cX4_takes 121 = .ok (.aload_n 0, 1) := by decide +kernel
theorem dX4_takes_122 : decode cX4_takes 122 = .ok (.iload_n 1, 1) := by decide +kernel
theorem dX4_takes_123 : decode cX4_takes 123 = .ok (.bipush 48, 2) := by decide +kernel
theorem dX4_takes_125 : decode cX4_takes 125 = .ok (.isub, 1) := by decide +kernel
theorem dX4_takes_126 : decode cX4_takes 126 = .ok (.aload_n 2, 1) := by decide +kernel
theorem dX4_takes_127 : decode cX4_takes 127 = .ok (.invokevirtual 56, 3) := by decide +kernel
theorem dX4_takes_130 : decode cX4_takes 130 = .ok (.ireturn, 1) := by decide +kernel
theorem dX4_takesOpening_0 : decode cX4_takesOpening 0 = .ok (.aload_n 0, 1) := by decide +kernel
theorem dX4_takesOpening_1 : decode cX4_takesOpening 1 = .ok (.iconst 1, 1) := by decide +kernel
theorem dX4_takesOpening_2 : decode cX4_takesOpening 2 = .ok (.putfield 11, 3) := by decide +kernel
theorem dX4_takesOpening_5 : decode cX4_takesOpening 5 = .ok (.iload_n 1, 1) := by decide +kernel
theorem dX4_takesOpening_6 : decode cX4_takesOpening 6 = .ok (.bipush 99, 2) := by decide +kernel
theorem dX4_takesOpening_8 : decode cX4_takesOpening 8 = .ok (.if_icmp .ne 7, 3) := by decide +kernel
theorem dX4_takesOpening_11 : decode cX4_takesOpening 11 = .ok (.iconst 1, 1) := by decide +kernel
theorem dX4_takesOpening_12 : decode cX4_takesOpening 12 = .ok (.goto 4, 3) := by decide +kernel
theorem dX4_takesOpening_15 : decode cX4_takesOpening 15 = .ok (.iconst 0, 1) := by decide +kernel
theorem dX4_takesOpening_16 : decode cX4_takesOpening 16 = .ok (.ireturn, 1) := by decide +kernel
theorem dX4_takesClause_0 : decode cX4_takesClause 0 = .ok (.aload_n 2, 1) := by decide +kernel
theorem dX4_takesClause_1 : decode cX4_takesClause 1 = .ok (.iload_n 1, 1) := by decide +kernel
theorem dX4_takesClause_2 : decode cX4_takesClause 2 = .ok (.putfield 59, 3) := by decide +kernel
theorem dX4_takesClause_5 : decode cX4_takesClause 5 = .ok (.aload_n 0, 1) := by decide +kernel
theorem dX4_takesClause_6 : decode cX4_takesClause 6 = .ok (.iconst 2, 1) := by decide +kernel
theorem dX4_takesClause_7 : decode cX4_takesClause 7 = .ok (.putfield 11, 3) := by decide +kernel
theorem dX4_takesClause_10 : decode cX4_takesClause 10 = .ok (.iload_n 1, 1) := by decide +kernel
theorem dX4_takesClause_11 : decode cX4_takesClause 11 = .ok (.iconst 1, 1) := by decide +kernel
theorem dX4_takesClause_12 : decode cX4_takesClause 12 = .ok (.if_icmp .lt 13, 3) := by decide +kernel
theorem dX4_takesClause_15 : decode cX4_takesClause 15 = .ok (.iload_n 1, 1) := by decide +kernel
theorem dX4_takesClause_16 : decode cX4_takesClause 16 = .ok (.bipush 9, 2) := by decide +kernel
theorem dX4_takesClause_18 : decode cX4_takesClause 18 = .ok (.if_icmp .gt 7, 3) := by decide +kernel
theorem dX4_takesClause_21 : decode cX4_takesClause 21 = .ok (.iconst 1, 1) := by decide +kernel
theorem dX4_takesClause_22 : decode cX4_takesClause 22 = .ok (.goto 4, 3) := by decide +kernel
theorem dX4_takesClause_25 : decode cX4_takesClause 25 = .ok (.iconst 0, 1) := by decide +kernel
theorem dX4_takesClause_26 : decode cX4_takesClause 26 = .ok (.ireturn, 1) := by decide +kernel
set_option maxRecDepth 20000 in
theorem ggX4_takesEffect_X4_isFigure : GoodIn wsX4_takesEffect wsX4_isFigure := goodIn_r _ [6] (by decide +kernel) (by decide +kernel)
set_option maxRecDepth 20000 in
theorem gX4_takesEffect_X4_isFigure : GoodIn wsX4_takesEffect (va_wsS RX4 62 yX4_isFigure wsX4_isFigure) := goodIn_app (goodIn_of _ (by decide +kernel)) ggX4_takesEffect_X4_isFigure
set_option maxRecDepth 20000 in
theorem ggX4_takesEffect_X5_isTune : GoodIn wsX4_takesEffect wsX5_isTune := goodIn_r _ [9] (by decide +kernel) (by decide +kernel)
set_option maxRecDepth 20000 in
theorem gX4_takesEffect_X5_isTune_n65 : GoodIn wsX4_takesEffect (wsX5_isTune) := ggX4_takesEffect_X5_isTune
theorem dX4_takesEffect_0 : decode cX4_takesEffect 0 = .ok (.iload_n 1, 1) := by decide +kernel
theorem dX4_takesEffect_1 : decode cX4_takesEffect 1 = .ok (.invokestatic 62, 3) := by decide +kernel
theorem dX4_takesEffect_4 : decode cX4_takesEffect 4 = .ok (.ifCond .eq 13, 3) := by decide +kernel
theorem dX4_takesEffect_7 : decode cX4_takesEffect 7 = .ok (.aload_n 0, 1) := by decide +kernel
theorem dX4_takesEffect_8 : decode cX4_takesEffect 8 = .ok (.getfield 15, 3) := by decide +kernel
theorem dX4_takesEffect_11 : decode cX4_takesEffect 11 = .ok (.invokestatic 65, 3) := by decide +kernel
theorem dX4_takesEffect_14 : decode cX4_takesEffect 14 = .ok (.ifCond .ne 5, 3) := by decide +kernel
theorem dX4_takesEffect_17 : decode cX4_takesEffect 17 = .ok (.iconst 0, 1) := by decide +kernel
theorem dX4_takesEffect_18 : decode cX4_takesEffect 18 = .ok (.ireturn, 1) := by decide +kernel
theorem dX4_takesEffect_19 : decode cX4_takesEffect 19 = .ok (.aload_n 2, 1) := by decide +kernel
theorem dX4_takesEffect_20 : decode cX4_takesEffect 20 = .ok (.getfield 68, 3) := by decide +kernel
theorem dX4_takesEffect_23 : decode cX4_takesEffect 23 = .ok (.aload_n 0, 1) := by decide +kernel
theorem dX4_takesEffect_24 : decode cX4_takesEffect 24 = .ok (.getfield 15, 3) := by decide +kernel
theorem dX4_takesEffect_27 : decode cX4_takesEffect 27 = .ok (.iload_n 1, 1) := by decide +kernel
theorem dX4_takesEffect_28 : decode cX4_takesEffect 28 = .ok (.bipush (-4), 2) := by decide +kernel
theorem dX4_takesEffect_30 : decode cX4_takesEffect 30 = .ok (.iadd, 1) := by decide +kernel
theorem dX4_takesEffect_31 : decode cX4_takesEffect 31 = .ok (.iastore, 1) := by decide +kernel
theorem dX4_takesEffect_32 : decode cX4_takesEffect 32 = .ok (.aload_n 0, 1) := by decide +kernel
theorem dX4_takesEffect_33 : decode cX4_takesEffect 33 = .ok (.dup, 1) := by decide +kernel
theorem dX4_takesEffect_34 : decode cX4_takesEffect 34 = .ok (.getfield 15, 3) := by decide +kernel
theorem dX4_takesEffect_37 : decode cX4_takesEffect 37 = .ok (.iconst 1, 1) := by decide +kernel
theorem dX4_takesEffect_38 : decode cX4_takesEffect 38 = .ok (.iadd, 1) := by decide +kernel
theorem dX4_takesEffect_39 : decode cX4_takesEffect 39 = .ok (.putfield 15, 3) := by decide +kernel
theorem dX4_takesEffect_42 : decode cX4_takesEffect 42 = .ok (.aload_n 0, 1) := by decide +kernel
theorem dX4_takesEffect_43 : decode cX4_takesEffect 43 = .ok (.aload_n 0, 1) := by decide +kernel
theorem dX4_takesEffect_44 : decode cX4_takesEffect 44 = .ok (.getfield 15, 3) := by decide +kernel
theorem dX4_takesEffect_47 : decode cX4_takesEffect 47 = .ok (.iconst 4, 1) := by decide +kernel
theorem dX4_takesEffect_48 : decode cX4_takesEffect 48 = .ok (.if_icmp .ge 7, 3) := by decide +kernel
theorem dX4_takesEffect_51 : decode cX4_takesEffect 51 = .ok (.iconst 2, 1) := by decide +kernel
theorem dX4_takesEffect_52 : decode cX4_takesEffect 52 = .ok (.goto 4, 3) := by decide +kernel
theorem dX4_takesEffect_55 : decode cX4_takesEffect 55 = .ok (.iconst 3, 1) := by decide +kernel
theorem dX4_takesEffect_56 : decode cX4_takesEffect 56 = .ok (.putfield 11, 3) := by decide +kernel
theorem dX4_takesEffect_59 : decode cX4_takesEffect 59 = .ok (.iconst 1, 1) := by decide +kernel
theorem dX4_takesEffect_60 : decode cX4_takesEffect 60 = .ok (.ireturn, 1) := by decide +kernel
set_option maxRecDepth 20000 in
theorem ggX4_takesLetter_X4_kindByLetter : GoodIn wsX4_takesLetter wsX4_kindByLetter := goodIn_r _ [6] (by decide +kernel) (by decide +kernel)
set_option maxRecDepth 20000 in
theorem gX4_takesLetter_X4_kindByLetter : GoodIn wsX4_takesLetter (va_wsS RX4 72 yX4_kindByLetter wsX4_kindByLetter) := goodIn_app (goodIn_of _ (by decide +kernel)) ggX4_takesLetter_X4_kindByLetter
theorem dX4_takesLetter_0 : decode cX4_takesLetter 0 = .ok (.iload_n 1, 1) := by decide +kernel
theorem dX4_takesLetter_1 : decode cX4_takesLetter 1 = .ok (.bipush 120, 2) := by decide +kernel
theorem dX4_takesLetter_3 : decode cX4_takesLetter 3 = .ok (.if_icmp .ne 26, 3) := by decide +kernel
theorem dX4_takesLetter_6 : decode cX4_takesLetter 6 = .ok (.aload_n 0, 1) := by decide +kernel
theorem dX4_takesLetter_7 : decode cX4_takesLetter 7 = .ok (.iconst 1, 1) := by decide +kernel
theorem dX4_takesLetter_8 : decode cX4_takesLetter 8 = .ok (.putfield 21, 3) := by decide +kernel
theorem dX4_takesLetter_11 : decode cX4_takesLetter 11 = .ok (.aload_n 0, 1) := by decide +kernel
theorem dX4_takesLetter_12 : decode cX4_takesLetter 12 = .ok (.iconst 5, 1) := by decide +kernel
theorem dX4_takesLetter_13 : decode cX4_takesLetter 13 = .ok (.putfield 11, 3) := by decide +kernel
theorem dX4_takesLetter_16 : decode cX4_takesLetter 16 = .ok (.aload_n 2, 1) := by decide +kernel
theorem dX4_takesLetter_17 : decode cX4_takesLetter 17 = .ok (.getfield 34, 3) := by decide +kernel
theorem dX4_takesLetter_20 : decode cX4_takesLetter 20 = .ok (.ifCond .le 7, 3) := by decide +kernel
theorem dX4_takesLetter_23 : decode cX4_takesLetter 23 = .ok (.iconst 1, 1) := by decide +kernel
theorem dX4_takesLetter_24 : decode cX4_takesLetter 24 = .ok (.goto 4, 3) := by decide +kernel
theorem dX4_takesLetter_27 : decode cX4_takesLetter 27 = .ok (.iconst 0, 1) := by decide +kernel
theorem dX4_takesLetter_28 : decode cX4_takesLetter 28 = .ok (.ireturn, 1) := by decide +kernel
theorem dX4_takesLetter_29 : decode cX4_takesLetter 29 = .ok (.iload_n 1, 1) := by decide +kernel
theorem dX4_takesLetter_30 : decode cX4_takesLetter 30 = .ok (.invokestatic 72, 3) := by decide +kernel
theorem dX4_takesLetter_33 : decode cX4_takesLetter 33 = .ok (.istore_n 3, 1) := by decide +kernel
theorem dX4_takesLetter_34 : decode cX4_takesLetter 34 = .ok (.iload_n 3, 1) := by decide +kernel
theorem dX4_takesLetter_35 : decode cX4_takesLetter 35 = .ok (.bipush (-9), 2) := by decide +kernel
theorem dX4_takesLetter_37 : decode cX4_takesLetter 37 = .ok (.if_icmp .eq 19, 3) := by decide +kernel
theorem dX4_takesLetter_40 : decode cX4_takesLetter 40 = .ok (.aload_n 0, 1) := by decide +kernel
theorem dX4_takesLetter_41 : decode cX4_takesLetter 41 = .ok (.getfield 21, 3) := by decide +kernel
theorem dX4_takesLetter_44 : decode cX4_takesLetter 44 = .ok (.ifCond .ne 12, 3) := by decide +kernel
theorem dX4_takesLetter_47 : decode cX4_takesLetter 47 = .ok (.aload_n 2, 1) := by decide +kernel
theorem dX4_takesLetter_48 : decode cX4_takesLetter 48 = .ok (.getfield 34, 3) := by decide +kernel
theorem dX4_takesLetter_51 : decode cX4_takesLetter 51 = .ok (.bipush 6, 2) := by decide +kernel
theorem dX4_takesLetter_53 : decode cX4_takesLetter 53 = .ok (.if_icmp .lt 5, 3) := by decide +kernel
theorem dX4_takesLetter_56 : decode cX4_takesLetter 56 = .ok (.iconst 0, 1) := by decide +kernel
theorem dX4_takesLetter_57 : decode cX4_takesLetter 57 = .ok (.ireturn, 1) := by decide +kernel
theorem dX4_takesLetter_58 : decode cX4_takesLetter 58 = .ok (.aload_n 2, 1) := by decide +kernel
theorem dX4_takesLetter_59 : decode cX4_takesLetter 59 = .ok (.getfield 76, 3) := by decide +kernel
theorem dX4_takesLetter_62 : decode cX4_takesLetter 62 = .ok (.aload_n 2, 1) := by decide +kernel
theorem dX4_takesLetter_63 : decode cX4_takesLetter 63 = .ok (.getfield 34, 3) := by decide +kernel
theorem dX4_takesLetter_66 : decode cX4_takesLetter 66 = .ok (.iload_n 3, 1) := by decide +kernel
theorem dX4_takesLetter_67 : decode cX4_takesLetter 67 = .ok (.iastore, 1) := by decide +kernel
theorem dX4_takesLetter_68 : decode cX4_takesLetter 68 = .ok (.aload_n 0, 1) := by decide +kernel
theorem dX4_takesLetter_69 : decode cX4_takesLetter 69 = .ok (.iconst 4, 1) := by decide +kernel
theorem dX4_takesLetter_70 : decode cX4_takesLetter 70 = .ok (.putfield 11, 3) := by decide +kernel
theorem dX4_takesLetter_73 : decode cX4_takesLetter 73 = .ok (.iconst 1, 1) := by decide +kernel
theorem dX4_takesLetter_74 : decode cX4_takesLetter 74 = .ok (.ireturn, 1) := by decide +kernel
set_option maxRecDepth 20000 in
theorem ggX4_takesGrief_X4_isFigure : GoodIn wsX4_takesGrief wsX4_isFigure := goodIn_r _ [5] (by decide +kernel) (by decide +kernel)
set_option maxRecDepth 20000 in
theorem gX4_takesGrief_X4_isFigure : GoodIn wsX4_takesGrief (va_wsS RX4 62 yX4_isFigure wsX4_isFigure) := goodIn_app (goodIn_of _ (by decide +kernel)) ggX4_takesGrief_X4_isFigure
theorem dX4_takesGrief_0 : decode cX4_takesGrief 0 = .ok (.iload_n 1, 1) := by decide +kernel
theorem dX4_takesGrief_1 : decode cX4_takesGrief 1 = .ok (.invokestatic 62, 3) := by decide +kernel
theorem dX4_takesGrief_4 : decode cX4_takesGrief 4 = .ok (.ifCond .eq 12, 3) := by decide +kernel
theorem dX4_takesGrief_7 : decode cX4_takesGrief 7 = .ok (.aload_n 2, 1) := by decide +kernel
theorem dX4_takesGrief_8 : decode cX4_takesGrief 8 = .ok (.getfield 34, 3) := by decide +kernel
theorem dX4_takesGrief_11 : decode cX4_takesGrief 11 = .ok (.bipush 6, 2) := by decide +kernel
theorem dX4_takesGrief_13 : decode cX4_takesGrief 13 = .ok (.if_icmp .lt 5, 3) := by decide +kernel
theorem dX4_takesGrief_16 : decode cX4_takesGrief 16 = .ok (.iconst 0, 1) := by decide +kernel
theorem dX4_takesGrief_17 : decode cX4_takesGrief 17 = .ok (.ireturn, 1) := by decide +kernel
theorem dX4_takesGrief_18 : decode cX4_takesGrief 18 = .ok (.aload_n 2, 1) := by decide +kernel
theorem dX4_takesGrief_19 : decode cX4_takesGrief 19 = .ok (.getfield 79, 3) := by decide +kernel
theorem dX4_takesGrief_22 : decode cX4_takesGrief 22 = .ok (.aload_n 2, 1) := by decide +kernel
theorem dX4_takesGrief_23 : decode cX4_takesGrief 23 = .ok (.getfield 34, 3) := by decide +kernel
theorem dX4_takesGrief_26 : decode cX4_takesGrief 26 = .ok (.iload_n 1, 1) := by decide +kernel
theorem dX4_takesGrief_27 : decode cX4_takesGrief 27 = .ok (.iastore, 1) := by decide +kernel
theorem dX4_takesGrief_28 : decode cX4_takesGrief 28 = .ok (.aload_n 2, 1) := by decide +kernel
theorem dX4_takesGrief_29 : decode cX4_takesGrief 29 = .ok (.dup, 1) := by decide +kernel
theorem dX4_takesGrief_30 : decode cX4_takesGrief 30 = .ok (.getfield 34, 3) := by decide +kernel
theorem dX4_takesGrief_33 : decode cX4_takesGrief 33 = .ok (.iconst 1, 1) := by decide +kernel
theorem dX4_takesGrief_34 : decode cX4_takesGrief 34 = .ok (.iadd, 1) := by decide +kernel
theorem dX4_takesGrief_35 : decode cX4_takesGrief 35 = .ok (.putfield 34, 3) := by decide +kernel
theorem dX4_takesGrief_38 : decode cX4_takesGrief 38 = .ok (.aload_n 0, 1) := by decide +kernel
theorem dX4_takesGrief_39 : decode cX4_takesGrief 39 = .ok (.iconst 3, 1) := by decide +kernel
theorem dX4_takesGrief_40 : decode cX4_takesGrief 40 = .ok (.putfield 11, 3) := by decide +kernel
theorem dX4_takesGrief_43 : decode cX4_takesGrief 43 = .ok (.iconst 1, 1) := by decide +kernel
theorem dX4_takesGrief_44 : decode cX4_takesGrief 44 = .ok (.ireturn, 1) := by decide +kernel
theorem dX4_takesSeer_0 : decode cX4_takesSeer 0 = .ok (.aload_n 0, 1) := by decide +kernel
theorem dX4_takesSeer_1 : decode cX4_takesSeer 1 = .ok (.iload_n 1, 1) := by decide +kernel
theorem dX4_takesSeer_2 : decode cX4_takesSeer 2 = .ok (.putfield 18, 3) := by decide +kernel
theorem dX4_takesSeer_5 : decode cX4_takesSeer 5 = .ok (.aload_n 0, 1) := by decide +kernel
theorem dX4_takesSeer_6 : decode cX4_takesSeer 6 = .ok (.bipush 6, 2) := by decide +kernel
theorem dX4_takesSeer_8 : decode cX4_takesSeer 8 = .ok (.putfield 11, 3) := by decide +kernel
theorem dX4_takesSeer_11 : decode cX4_takesSeer 11 = .ok (.iload_n 1, 1) := by decide +kernel
theorem dX4_takesSeer_12 : decode cX4_takesSeer 12 = .ok (.ifCond .lt 15, 3) := by decide +kernel
theorem dX4_takesSeer_15 : decode cX4_takesSeer 15 = .ok (.iload_n 1, 1) := by decide +kernel
theorem dX4_takesSeer_16 : decode cX4_takesSeer 16 = .ok (.aload_n 2, 1) := by decide +kernel
theorem dX4_takesSeer_17 : decode cX4_takesSeer 17 = .ok (.getfield 34, 3) := by decide +kernel
theorem dX4_takesSeer_20 : decode cX4_takesSeer 20 = .ok (.if_icmp .ge 7, 3) := by decide +kernel
theorem dX4_takesSeer_23 : decode cX4_takesSeer 23 = .ok (.iconst 1, 1) := by decide +kernel
theorem dX4_takesSeer_24 : decode cX4_takesSeer 24 = .ok (.goto 4, 3) := by decide +kernel
theorem dX4_takesSeer_27 : decode cX4_takesSeer 27 = .ok (.iconst 0, 1) := by decide +kernel
theorem dX4_takesSeer_28 : decode cX4_takesSeer 28 = .ok (.ireturn, 1) := by decide +kernel
theorem dX4_takesSeen_0 : decode cX4_takesSeen 0 = .ok (.iload_n 1, 1) := by decide +kernel
theorem dX4_takesSeen_1 : decode cX4_takesSeen 1 = .ok (.ifCond .lt 23, 3) := by decide +kernel
theorem dX4_takesSeen_4 : decode cX4_takesSeen 4 = .ok (.iload_n 1, 1) := by decide +kernel
theorem dX4_takesSeen_5 : decode cX4_takesSeen 5 = .ok (.aload_n 2, 1) := by decide +kernel
theorem dX4_takesSeen_6 : decode cX4_takesSeen 6 = .ok (.getfield 34, 3) := by decide +kernel
theorem dX4_takesSeen_9 : decode cX4_takesSeen 9 = .ok (.if_icmp .ge 15, 3) := by decide +kernel
theorem dX4_takesSeen_12 : decode cX4_takesSeen 12 = .ok (.iload_n 1, 1) := by decide +kernel
theorem dX4_takesSeen_13 : decode cX4_takesSeen 13 = .ok (.aload_n 0, 1) := by decide +kernel
theorem dX4_takesSeen_14 : decode cX4_takesSeen 14 = .ok (.getfield 18, 3) := by decide +kernel
theorem dX4_takesSeen_17 : decode cX4_takesSeen 17 = .ok (.if_icmp .eq 7, 3) := by decide +kernel
theorem dX4_takesSeen_20 : decode cX4_takesSeen 20 = .ok (.iconst 1, 1) := by decide +kernel
theorem dX4_takesSeen_21 : decode cX4_takesSeen 21 = .ok (.goto 4, 3) := by decide +kernel
theorem dX4_takesSeen_24 : decode cX4_takesSeen 24 = .ok (.iconst 0, 1) := by decide +kernel
theorem dX4_takesSeen_25 : decode cX4_takesSeen 25 = .ok (.istore_n 3, 1) := by decide +kernel
theorem dX4_takesSeen_26 : decode cX4_takesSeen 26 = .ok (.iload_n 3, 1) := by decide +kernel
theorem dX4_takesSeen_27 : decode cX4_takesSeen 27 = .ok (.ifCond .eq 19, 3) := by decide +kernel
theorem dX4_takesSeen_30 : decode cX4_takesSeen 30 = .ok (.aload_n 2, 1) := by decide +kernel
theorem dX4_takesSeen_31 : decode cX4_takesSeen 31 = .ok (.getfield 82, 3) := by decide +kernel
theorem dX4_takesSeen_34 : decode cX4_takesSeen 34 = .ok (.aload_n 0, 1) := by decide +kernel
theorem dX4_takesSeen_35 : decode cX4_takesSeen 35 = .ok (.getfield 18, 3) := by decide +kernel
theorem dX4_takesSeen_38 : decode cX4_takesSeen 38 = .ok (.iaload, 1) := by decide +kernel
theorem dX4_takesSeen_39 : decode cX4_takesSeen 39 = .ok (.iload_n 1, 1) := by decide +kernel
theorem dX4_takesSeen_40 : decode cX4_takesSeen 40 = .ok (.ishr, 1) := by decide +kernel
theorem dX4_takesSeen_41 : decode cX4_takesSeen 41 = .ok (.iconst 1, 1) := by decide +kernel
theorem dX4_takesSeen_42 : decode cX4_takesSeen 42 = .ok (.iand, 1) := by decide +kernel
theorem dX4_takesSeen_43 : decode cX4_takesSeen 43 = .ok (.ifCond .eq 5, 3) := by decide +kernel
theorem dX4_takesSeen_46 : decode cX4_takesSeen 46 = .ok (.iconst 0, 1) := by decide +kernel
theorem dX4_takesSeen_47 : decode cX4_takesSeen 47 = .ok (.ireturn, 1) := by decide +kernel
theorem dX4_takesSeen_48 : decode cX4_takesSeen 48 = .ok (.aload_n 2, 1) := by decide +kernel
theorem dX4_takesSeen_49 : decode cX4_takesSeen 49 = .ok (.getfield 82, 3) := by decide +kernel
theorem dX4_takesSeen_52 : decode cX4_takesSeen 52 = .ok (.aload_n 0, 1) := by decide +kernel
theorem dX4_takesSeen_53 : decode cX4_takesSeen 53 = .ok (.getfield 18, 3) := by decide +kernel
theorem dX4_takesSeen_56 : decode cX4_takesSeen 56 = .ok (.dup2, 1) := by decide +kernel
theorem dX4_takesSeen_57 : decode cX4_takesSeen 57 = .ok (.iaload, 1) := by decide +kernel
theorem dX4_takesSeen_58 : decode cX4_takesSeen 58 = .ok (.iconst 1, 1) := by decide +kernel
theorem dX4_takesSeen_59 : decode cX4_takesSeen 59 = .ok (.iload_n 1, 1) := by decide +kernel
theorem dX4_takesSeen_60 : decode cX4_takesSeen 60 = .ok (.ishl, 1) := by decide +kernel
theorem dX4_takesSeen_61 : decode cX4_takesSeen 61 = .ok (.ior, 1) := by decide +kernel
theorem dX4_takesSeen_62 : decode cX4_takesSeen 62 = .ok (.iastore, 1) := by decide +kernel
theorem dX4_takesSeen_63 : decode cX4_takesSeen 63 = .ok (.aload_n 2, 1) := by decide +kernel
theorem dX4_takesSeen_64 : decode cX4_takesSeen 64 = .ok (.getfield 85, 3) := by decide +kernel
theorem dX4_takesSeen_67 : decode cX4_takesSeen 67 = .ok (.iload_n 1, 1) := by decide +kernel
theorem dX4_takesSeen_68 : decode cX4_takesSeen 68 = .ok (.dup2, 1) := by decide +kernel
theorem dX4_takesSeen_69 : decode cX4_takesSeen 69 = .ok (.iaload, 1) := by decide +kernel
theorem dX4_takesSeen_70 : decode cX4_takesSeen 70 = .ok (.iconst 1, 1) := by decide +kernel
theorem dX4_takesSeen_71 : decode cX4_takesSeen 71 = .ok (.aload_n 0, 1) := by decide +kernel
theorem dX4_takesSeen_72 : decode cX4_takesSeen 72 = .ok (.getfield 18, 3) := by decide +kernel
theorem dX4_takesSeen_75 : decode cX4_takesSeen 75 = .ok (.ishl, 1) := by decide +kernel
theorem dX4_takesSeen_76 : decode cX4_takesSeen 76 = .ok (.ior, 1) := by decide +kernel
theorem dX4_takesSeen_77 : decode cX4_takesSeen 77 = .ok (.iastore, 1) := by decide +kernel
theorem dX4_takesSeen_78 : decode cX4_takesSeen 78 = .ok (.aload_n 0, 1) := by decide +kernel
theorem dX4_takesSeen_79 : decode cX4_takesSeen 79 = .ok (.iconst 3, 1) := by decide +kernel
theorem dX4_takesSeen_80 : decode cX4_takesSeen 80 = .ok (.putfield 11, 3) := by decide +kernel
theorem dX4_takesSeen_83 : decode cX4_takesSeen 83 = .ok (.iconst 1, 1) := by decide +kernel
theorem dX4_takesSeen_84 : decode cX4_takesSeen 84 = .ok (.ireturn, 1) := by decide +kernel
theorem dX4_isFigure_0 : decode cX4_isFigure 0 = .ok (.iload_n 0, 1) := by decide +kernel
theorem dX4_isFigure_1 : decode cX4_isFigure 1 = .ok (.ifCond .lt 13, 3) := by decide +kernel
theorem dX4_isFigure_4 : decode cX4_isFigure 4 = .ok (.iload_n 0, 1) := by decide +kernel
theorem dX4_isFigure_5 : decode cX4_isFigure 5 = .ok (.bipush 9, 2) := by decide +kernel
theorem dX4_isFigure_7 : decode cX4_isFigure 7 = .ok (.if_icmp .gt 7, 3) := by decide +kernel
theorem dX4_isFigure_10 : decode cX4_isFigure 10 = .ok (.iconst 1, 1) := by decide +kernel
theorem dX4_isFigure_11 : decode cX4_isFigure 11 = .ok (.goto 4, 3) := by decide +kernel
theorem dX4_isFigure_14 : decode cX4_isFigure 14 = .ok (.iconst 0, 1) := by decide +kernel
theorem dX4_isFigure_15 : decode cX4_isFigure 15 = .ok (.ireturn, 1) := by decide +kernel
theorem dX4_kindByLetter_0 : decode cX4_kindByLetter 0 = .ok (.iload_n 0, 1) := by decide +kernel
theorem dX4_kindByLetter_1 : decode cX4_kindByLetter 1 = .ok (.lookupswitch 71 #[(100, 61), (103, 59), (109, 65), (115, 63), (117, 67), (121, 69)], 59) := by decide +kernel
theorem dX4_kindByLetter_60 : decode cX4_kindByLetter 60 = .ok (.iconst 0, 1) := by decide +kernel
theorem dX4_kindByLetter_61 : decode cX4_kindByLetter 61 = .ok (.ireturn, 1) := by decide +kernel
theorem dX4_kindByLetter_62 : decode cX4_kindByLetter 62 = .ok (.iconst 1, 1) := by decide +kernel
theorem dX4_kindByLetter_63 : decode cX4_kindByLetter 63 = .ok (.ireturn, 1) := by decide +kernel
theorem dX4_kindByLetter_64 : decode cX4_kindByLetter 64 = .ok (.iconst 2, 1) := by decide +kernel
theorem dX4_kindByLetter_65 : decode cX4_kindByLetter 65 = .ok (.ireturn, 1) := by decide +kernel
theorem dX4_kindByLetter_66 : decode cX4_kindByLetter 66 = .ok (.iconst 3, 1) := by decide +kernel
theorem dX4_kindByLetter_67 : decode cX4_kindByLetter 67 = .ok (.ireturn, 1) := by decide +kernel
theorem dX4_kindByLetter_68 : decode cX4_kindByLetter 68 = .ok (.iconst 4, 1) := by decide +kernel
theorem dX4_kindByLetter_69 : decode cX4_kindByLetter 69 = .ok (.ireturn, 1) := by decide +kernel
theorem dX4_kindByLetter_70 : decode cX4_kindByLetter 70 = .ok (.iconst 5, 1) := by decide +kernel
theorem dX4_kindByLetter_71 : decode cX4_kindByLetter 71 = .ok (.ireturn, 1) := by decide +kernel
theorem dX4_kindByLetter_72 : decode cX4_kindByLetter 72 = .ok (.bipush (-9), 2) := by decide +kernel
theorem dX4_kindByLetter_74 : decode cX4_kindByLetter 74 = .ok (.ireturn, 1) := by decide +kernel
set_option maxRecDepth 20000 in
theorem ggX5_init_X4_init : GoodIn wsX5_init wsX4_init := goodIn_r _ [32, 33, 2, 3, 34, 35, 36, 37, 69, 70, 71, 72] (by decide +kernel) (by decide +kernel)
set_option maxRecDepth 20000 in
theorem gX5_init_X4_init_n28 : GoodIn wsX5_init (wsX4_init) := ggX5_init_X4_init
set_option maxRecDepth 20000 in
theorem ggX5_init_X2_init : GoodIn wsX5_init wsX2_init := goodIn_r _ [39, 40, 2, 3, 41, 42, 5, 43, 44, 45, 46, 47, 73, 74, 75, 76, 77, 78, 79] (by decide +kernel) (by decide +kernel)
set_option maxRecDepth 20000 in
theorem gX5_init_X2_init_n35 : GoodIn wsX5_init (wsX2_init) := ggX5_init_X2_init
set_option maxRecDepth 20000 in
theorem ggX5_init_X0_init : GoodIn wsX5_init wsX0_init := goodIn_r _ [49, 50, 2, 3, 51, 52, 53, 54, 80, 81, 82] (by decide +kernel) (by decide +kernel)
set_option maxRecDepth 20000 in
theorem gX5_init_X0_init_n45 : GoodIn wsX5_init (wsX0_init) := ggX5_init_X0_init
theorem dX5_init_0 : decode cX5_init 0 = .ok (.aload_n 0, 1) := by decide +kernel
theorem dX5_init_1 : decode cX5_init 1 = .ok (.invokespecial 1, 3) := by decide +kernel
theorem dX5_init_4 : decode cX5_init 4 = .ok (.aload_n 0, 1) := by decide +kernel
theorem dX5_init_5 : decode cX5_init 5 = .ok (.bipush 6, 2) := by decide +kernel
theorem dX5_init_7 : decode cX5_init 7 = .ok (.bipush 40, 2) := by decide +kernel
theorem dX5_init_9 : decode cX5_init 9 = .ok (.multianewarray 9 2, 4) := by decide +kernel
theorem dX5_init_13 : decode cX5_init 13 = .ok (.putfield 11, 3) := by decide +kernel
theorem dX5_init_16 : decode cX5_init 16 = .ok (.aload_n 0, 1) := by decide +kernel
theorem dX5_init_17 : decode cX5_init 17 = .ok (.bipush 6, 2) := by decide +kernel
theorem dX5_init_19 : decode cX5_init 19 = .ok (.newarray .int, 2) := by decide +kernel
theorem dX5_init_21 : decode cX5_init 21 = .ok (.putfield 14, 3) := by decide +kernel
theorem dX5_init_24 : decode cX5_init 24 = .ok (.aload_n 0, 1) := by decide +kernel
theorem dX5_init_25 : decode cX5_init 25 = .ok (.iconst 4, 1) := by decide +kernel
theorem dX5_init_26 : decode cX5_init 26 = .ok (.bipush 80, 2) := by decide +kernel
theorem dX5_init_28 : decode cX5_init 28 = .ok (.multianewarray 18 2, 4) := by decide +kernel
theorem dX5_init_32 : decode cX5_init 32 = .ok (.putfield 20, 3) := by decide +kernel
theorem dX5_init_35 : decode cX5_init 35 = .ok (.aload_n 0, 1) := by decide +kernel
theorem dX5_init_36 : decode cX5_init 36 = .ok (.iconst 4, 1) := by decide +kernel
theorem dX5_init_37 : decode cX5_init 37 = .ok (.newarray .int, 2) := by decide +kernel
theorem dX5_init_39 : decode cX5_init 39 = .ok (.putfield 23, 3) := by decide +kernel
theorem dX5_init_42 : decode cX5_init 42 = .ok (.aload_n 0, 1) := by decide +kernel
theorem dX5_init_43 : decode cX5_init 43 = .ok (.new 26, 3) := by decide +kernel
theorem dX5_init_46 : decode cX5_init 46 = .ok (.dup, 1) := by decide +kernel
theorem dX5_init_47 : decode cX5_init 47 = .ok (.invokespecial 28, 3) := by decide +kernel
theorem dX5_init_50 : decode cX5_init 50 = .ok (.putfield 29, 3) := by decide +kernel
theorem dX5_init_53 : decode cX5_init 53 = .ok (.aload_n 0, 1) := by decide +kernel
theorem dX5_init_54 : decode cX5_init 54 = .ok (.new 33, 3) := by decide +kernel
theorem dX5_init_57 : decode cX5_init 57 = .ok (.dup, 1) := by decide +kernel
theorem dX5_init_58 : decode cX5_init 58 = .ok (.invokespecial 35, 3) := by decide +kernel
theorem dX5_init_61 : decode cX5_init 61 = .ok (.putfield 36, 3) := by decide +kernel
theorem dX5_init_64 : decode cX5_init 64 = .ok (.aload_n 0, 1) := by decide +kernel
theorem dX5_init_65 : decode cX5_init 65 = .ok (.new 33, 3) := by decide +kernel
theorem dX5_init_68 : decode cX5_init 68 = .ok (.dup, 1) := by decide +kernel
theorem dX5_init_69 : decode cX5_init 69 = .ok (.invokespecial 35, 3) := by decide +kernel
theorem dX5_init_72 : decode cX5_init 72 = .ok (.putfield 40, 3) := by decide +kernel
theorem dX5_init_75 : decode cX5_init 75 = .ok (.aload_n 0, 1) := by decide +kernel
theorem dX5_init_76 : decode cX5_init 76 = .ok (.new 43, 3) := by decide +kernel
theorem dX5_init_79 : decode cX5_init 79 = .ok (.dup, 1) := by decide +kernel
theorem dX5_init_80 : decode cX5_init 80 = .ok (.invokespecial 45, 3) := by decide +kernel
theorem dX5_init_83 : decode cX5_init 83 = .ok (.putfield 46, 3) := by decide +kernel
theorem dX5_init_86 : decode cX5_init 86 = .ok (.aload_n 0, 1) := by decide +kernel
theorem dX5_init_87 : decode cX5_init 87 = .ok (.iconst 3, 1) := by decide +kernel
theorem dX5_init_88 : decode cX5_init 88 = .ok (.anewarray 43, 3) := by decide +kernel
theorem dX5_init_91 : decode cX5_init 91 = .ok (.putfield 50, 3) := by decide +kernel
theorem dX5_init_94 : decode cX5_init 94 = .ok (.aload_n 0, 1) := by decide +kernel
theorem dX5_init_95 : decode cX5_init 95 = .ok (.bipush 6, 2) := by decide +kernel
theorem dX5_init_97 : decode cX5_init 97 = .ok (.newarray .int, 2) := by decide +kernel
theorem dX5_init_99 : decode cX5_init 99 = .ok (.putfield 54, 3) := by decide +kernel
theorem dX5_init_102 : decode cX5_init 102 = .ok (.aload_n 0, 1) := by decide +kernel
theorem dX5_init_103 : decode cX5_init 103 = .ok (.iconst 0, 1) := by decide +kernel
theorem dX5_init_104 : decode cX5_init 104 = .ok (.putfield 57, 3) := by decide +kernel
theorem dX5_init_107 : decode cX5_init 107 = .ok (.aload_n 0, 1) := by decide +kernel
theorem dX5_init_108 : decode cX5_init 108 = .ok (.iconst 0, 1) := by decide +kernel
theorem dX5_init_109 : decode cX5_init 109 = .ok (.putfield 61, 3) := by decide +kernel
theorem dX5_init_112 : decode cX5_init 112 = .ok (.aload_n 0, 1) := by decide +kernel
theorem dX5_init_113 : decode cX5_init 113 = .ok (.lconst 0, 1) := by decide +kernel
theorem dX5_init_114 : decode cX5_init 114 = .ok (.putfield 64, 3) := by decide +kernel
theorem dX5_init_117 : decode cX5_init 117 = .ok (.aload_n 0, 1) := by decide +kernel
theorem dX5_init_118 : decode cX5_init 118 = .ok (.lconst 1, 1) := by decide +kernel
theorem dX5_init_119 : decode cX5_init 119 = .ok (.putfield 68, 3) := by decide +kernel
theorem dX5_init_122 : decode cX5_init 122 = .ok (.iconst 0, 1) := by decide +kernel
theorem dX5_init_123 : decode cX5_init 123 = .ok (.istore_n 1, 1) := by decide +kernel
theorem dX5_init_124 : decode cX5_init 124 = .ok (.iload_n 1, 1) := by decide +kernel
theorem dX5_init_125 : decode cX5_init 125 = .ok (.bipush 6, 2) := by decide +kernel
theorem dX5_init_127 : decode cX5_init 127 = .ok (.if_icmp .ge 16, 3) := by decide +kernel
theorem dX5_init_130 : decode cX5_init 130 = .ok (.aload_n 0, 1) := by decide +kernel
theorem dX5_init_131 : decode cX5_init 131 = .ok (.getfield 14, 3) := by decide +kernel
theorem dX5_init_134 : decode cX5_init 134 = .ok (.iload_n 1, 1) := by decide +kernel
theorem dX5_init_135 : decode cX5_init 135 = .ok (.iconst (-1), 1) := by decide +kernel
theorem dX5_init_136 : decode cX5_init 136 = .ok (.iastore, 1) := by decide +kernel
theorem dX5_init_137 : decode cX5_init 137 = .ok (.iinc 1 1, 3) := by decide +kernel
theorem dX5_init_140 : decode cX5_init 140 = .ok (.goto (-16), 3) := by decide +kernel
