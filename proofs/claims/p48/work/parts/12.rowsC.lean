theorem dX5_gets_89 : decode cX5_gets 89 = .ok (.iconst 0, 1) := by decide +kernel
theorem dX5_gets_90 : decode cX5_gets 90 = .ok (.iadd, 1) := by decide +kernel
theorem dX5_gets_91 : decode cX5_gets 91 = .ok (.ireturn, 1) := by decide +kernel
set_option maxRecDepth 20000 in
theorem ggX5_stops_J6_bitCount_0f7a4 : GoodIn wsX5_stops wsJ6_bitCount_0f7a4 := goodIn_r _ [6, 7, 8, 9] (by decide +kernel) (by decide +kernel)
set_option maxRecDepth 20000 in
theorem gX5_stops_J6_bitCount_0f7a4 : GoodIn wsX5_stops (va_wsS RX5 249 yJ6_bitCount_0f7a4 wsJ6_bitCount_0f7a4) := goodIn_app (goodIn_of _ (by decide +kernel)) ggX5_stops_J6_bitCount_0f7a4
set_option maxRecDepth 20000 in
theorem ggX5_stops_X1_insiders : GoodIn wsX5_stops wsX1_insiders := goodIn_r _ [12] (by decide +kernel) (by decide +kernel)
set_option maxRecDepth 20000 in
theorem gX5_stops_X1_insiders_n158 : GoodIn wsX5_stops (wsX1_insiders) := ggX5_stops_X1_insiders
set_option maxRecDepth 20000 in
theorem ggX5_stops_X5_griefOfSet : GoodIn wsX5_stops wsX5_griefOfSet := goodIn_r _ [17, 1, 2, 18, 11, 19, 20, 21, 22, 23, 24, 25, 26, 27, 28, 29, 30, 31, 32, 33, 34, 35, 36, 37, 38, 39, 40, 41, 42, 43, 44] (by decide +kernel) (by decide +kernel)
set_option maxRecDepth 20000 in
theorem gX5_stops_X5_griefOfSet : GoodIn wsX5_stops (wsV RX5 254 RX5 yX5_griefOfSet wsX5_griefOfSet) := goodIn_app (goodIn_of _ (by decide +kernel)) ggX5_stops_X5_griefOfSet
theorem dX5_stops_0 : decode cX5_stops 0 = .ok (.bipush (-9), 2) := by decide +kernel
theorem dX5_stops_2 : decode cX5_stops 2 = .ok (.istore_n 1, 1) := by decide +kernel
theorem dX5_stops_3 : decode cX5_stops 3 = .ok (.bipush 7, 2) := by decide +kernel
theorem dX5_stops_5 : decode cX5_stops 5 = .ok (.istore_n 2, 1) := by decide +kernel
theorem dX5_stops_6 : decode cX5_stops 6 = .ok (.iconst 1, 1) := by decide +kernel
theorem dX5_stops_7 : decode cX5_stops 7 = .ok (.istore_n 3, 1) := by decide +kernel
theorem dX5_stops_8 : decode cX5_stops 8 = .ok (.iload_n 3, 1) := by decide +kernel
theorem dX5_stops_9 : decode cX5_stops 9 = .ok (.iconst 1, 1) := by decide +kernel
theorem dX5_stops_10 : decode cX5_stops 10 = .ok (.aload_n 0, 1) := by decide +kernel
theorem dX5_stops_11 : decode cX5_stops 11 = .ok (.getfield 36, 3) := by decide +kernel
theorem dX5_stops_14 : decode cX5_stops 14 = .ok (.getfield 111, 3) := by decide +kernel
theorem dX5_stops_17 : decode cX5_stops 17 = .ok (.ishl, 1) := by decide +kernel
theorem dX5_stops_18 : decode cX5_stops 18 = .ok (.if_icmp .ge 81, 3) := by decide +kernel
theorem dX5_stops_21 : decode cX5_stops 21 = .ok (.iload_n 3, 1) := by decide +kernel
theorem dX5_stops_22 : decode cX5_stops 22 = .ok (.invokestatic 249, 3) := by decide +kernel
theorem dX5_stops_25 : decode cX5_stops 25 = .ok (.istore 4, 2) := by decide +kernel
theorem dX5_stops_27 : decode cX5_stops 27 = .ok (.iload_n 3, 1) := by decide +kernel
theorem dX5_stops_28 : decode cX5_stops 28 = .ok (.aload_n 0, 1) := by decide +kernel
theorem dX5_stops_29 : decode cX5_stops 29 = .ok (.getfield 46, 3) := by decide +kernel
theorem dX5_stops_32 : decode cX5_stops 32 = .ok (.getfield 127, 3) := by decide +kernel
theorem dX5_stops_35 : decode cX5_stops 35 = .ok (.invokestatic 158, 3) := by decide +kernel
theorem dX5_stops_38 : decode cX5_stops 38 = .ok (.iconst (-1), 1) := by decide +kernel
theorem dX5_stops_39 : decode cX5_stops 39 = .ok (.ixor, 1) := by decide +kernel
theorem dX5_stops_40 : decode cX5_stops 40 = .ok (.iand, 1) := by decide +kernel
theorem dX5_stops_41 : decode cX5_stops 41 = .ok (.ifCond .ne 7, 3) := by decide +kernel
theorem dX5_stops_44 : decode cX5_stops 44 = .ok (.iconst 1, 1) := by decide +kernel
theorem dX5_stops_45 : decode cX5_stops 45 = .ok (.goto 4, 3) := by decide +kernel
theorem dX5_stops_48 : decode cX5_stops 48 = .ok (.iconst 0, 1) := by decide +kernel
theorem dX5_stops_49 : decode cX5_stops 49 = .ok (.istore 5, 2) := by decide +kernel
theorem dX5_stops_51 : decode cX5_stops 51 = .ok (.iload 5, 2) := by decide +kernel
theorem dX5_stops_53 : decode cX5_stops 53 = .ok (.ifCond .eq 40, 3) := by decide +kernel
theorem dX5_stops_56 : decode cX5_stops 56 = .ok (.iload 4, 2) := by decide +kernel
theorem dX5_stops_58 : decode cX5_stops 58 = .ok (.iconst 2, 1) := by decide +kernel
theorem dX5_stops_59 : decode cX5_stops 59 = .ok (.if_icmp .lt 34, 3) := by decide +kernel
theorem dX5_stops_62 : decode cX5_stops 62 = .ok (.iload 4, 2) := by decide +kernel
theorem dX5_stops_64 : decode cX5_stops 64 = .ok (.iload_n 2, 1) := by decide +kernel
theorem dX5_stops_65 : decode cX5_stops 65 = .ok (.if_icmp .ge 28, 3) := by decide +kernel
theorem dX5_stops_68 : decode cX5_stops 68 = .ok (.aload_n 0, 1) := by decide +kernel
theorem dX5_stops_69 : decode cX5_stops 69 = .ok (.iload_n 3, 1) := by decide +kernel
theorem dX5_stops_70 : decode cX5_stops 70 = .ok (.invokevirtual 254, 3) := by decide +kernel
theorem dX5_stops_73 : decode cX5_stops 73 = .ok (.aload_n 0, 1) := by decide +kernel
theorem dX5_stops_74 : decode cX5_stops 74 = .ok (.getfield 36, 3) := by decide +kernel
theorem dX5_stops_77 : decode cX5_stops 77 = .ok (.getfield 257, 3) := by decide +kernel
theorem dX5_stops_80 : decode cX5_stops 80 = .ok (.iload 4, 2) := by decide +kernel
theorem dX5_stops_82 : decode cX5_stops 82 = .ok (.iconst 1, 1) := by decide +kernel
theorem dX5_stops_83 : decode cX5_stops 83 = .ok (.isub, 1) := by decide +kernel
theorem dX5_stops_84 : decode cX5_stops 84 = .ok (.imul, 1) := by decide +kernel
theorem dX5_stops_85 : decode cX5_stops 85 = .ok (.if_icmp .ge 8, 3) := by decide +kernel
theorem dX5_stops_88 : decode cX5_stops 88 = .ok (.iload_n 3, 1) := by decide +kernel
theorem dX5_stops_89 : decode cX5_stops 89 = .ok (.istore_n 1, 1) := by decide +kernel
theorem dX5_stops_90 : decode cX5_stops 90 = .ok (.iload 4, 2) := by decide +kernel
theorem dX5_stops_92 : decode cX5_stops 92 = .ok (.istore_n 2, 1) := by decide +kernel
theorem dX5_stops_93 : decode cX5_stops 93 = .ok (.iinc 3 1, 3) := by decide +kernel
theorem dX5_stops_96 : decode cX5_stops 96 = .ok (.goto (-88), 3) := by decide +kernel
theorem dX5_stops_99 : decode cX5_stops 99 = .ok (.iload_n 1, 1) := by decide +kernel
theorem dX5_stops_100 : decode cX5_stops 100 = .ok (.ireturn, 1) := by decide +kernel
set_option maxRecDepth 20000 in
theorem ggX5_odds_X5_searchRefusal : GoodIn wsX5_odds wsX5_searchRefusal := goodIn_r _ [7, 1, 72, 73, 74, 75, 76, 77, 78, 79, 80, 81, 82, 83, 84, 85, 89, 90, 91, 92, 93, 94, 95] (by decide +kernel) (by decide +kernel)
set_option maxRecDepth 20000 in
theorem gX5_odds_X5_searchRefusal : GoodIn wsX5_odds (wsV RX5 198 RX5 yX5_searchRefusal wsX5_searchRefusal) := goodIn_app (goodIn_of _ (by decide +kernel)) ggX5_odds_X5_searchRefusal
set_option maxRecDepth 20000 in
theorem ggX5_odds_X3_staying : GoodIn wsX5_odds wsX3_staying := goodIn_r _ [10, 11, 12, 9, 13, 14, 15, 16, 17, 18, 19, 20, 21, 22, 23, 24, 25, 26, 27, 28, 29, 30, 31, 32, 33, 34, 35, 36, 37, 38, 39, 40, 41, 42, 43, 44, 45, 46, 47, 48, 49, 50, 51, 52, 53, 54, 55, 56, 57, 58, 59, 60, 61, 62, 63, 64, 8, 89, 90, 91, 92, 93, 94, 95] (by decide +kernel) (by decide +kernel)
set_option maxRecDepth 20000 in
theorem gX5_odds_X3_staying_n260 : GoodIn wsX5_odds (wsX3_staying) := ggX5_odds_X3_staying
set_option maxRecDepth 20000 in
theorem ggX5_odds_X5_tellShare : GoodIn wsX5_odds wsX5_tellShare := goodIn_r _ [68, 69, 70, 71, 72, 73, 74, 75, 76, 77, 78, 79, 80, 81, 82, 83, 84, 85] (by decide +kernel) (by decide +kernel)
set_option maxRecDepth 20000 in
theorem gX5_odds_X5_tellShare : GoodIn wsX5_odds (wsV RX5 264 RX5 yX5_tellShare wsX5_tellShare) := goodIn_app (goodIn_of _ (by decide +kernel)) ggX5_odds_X5_tellShare
theorem dX5_odds_0 : decode cX5_odds 0 = .ok (.aload_n 0, 1) := by decide +kernel
theorem dX5_odds_1 : decode cX5_odds 1 = .ok (.iload_n 1, 1) := by decide +kernel
theorem dX5_odds_2 : decode cX5_odds 2 = .ok (.invokevirtual 198, 3) := by decide +kernel
theorem dX5_odds_5 : decode cX5_odds 5 = .ok (.istore_n 2, 1) := by decide +kernel
theorem dX5_odds_6 : decode cX5_odds 6 = .ok (.iload_n 2, 1) := by decide +kernel
theorem dX5_odds_7 : decode cX5_odds 7 = .ok (.ifCond .eq 5, 3) := by decide +kernel
theorem dX5_odds_10 : decode cX5_odds 10 = .ok (.iload_n 2, 1) := by decide +kernel
theorem dX5_odds_11 : decode cX5_odds 11 = .ok (.ireturn, 1) := by decide +kernel
theorem dX5_odds_12 : decode cX5_odds 12 = .ok (.aload_n 0, 1) := by decide +kernel
theorem dX5_odds_13 : decode cX5_odds 13 = .ok (.aload_n 0, 1) := by decide +kernel
theorem dX5_odds_14 : decode cX5_odds 14 = .ok (.getfield 36, 3) := by decide +kernel
theorem dX5_odds_17 : decode cX5_odds 17 = .ok (.aload_n 0, 1) := by decide +kernel
theorem dX5_odds_18 : decode cX5_odds 18 = .ok (.getfield 46, 3) := by decide +kernel
theorem dX5_odds_21 : decode cX5_odds 21 = .ok (.getfield 127, 3) := by decide +kernel
theorem dX5_odds_24 : decode cX5_odds 24 = .ok (.iload_n 1, 1) := by decide +kernel
theorem dX5_odds_25 : decode cX5_odds 25 = .ok (.invokestatic 260, 3) := by decide +kernel
theorem dX5_odds_28 : decode cX5_odds 28 = .ok (.iload_n 1, 1) := by decide +kernel
theorem dX5_odds_29 : decode cX5_odds 29 = .ok (.invokevirtual 264, 3) := by decide +kernel
theorem dX5_odds_32 : decode cX5_odds 32 = .ok (.iconst 1, 1) := by decide +kernel
theorem dX5_odds_33 : decode cX5_odds 33 = .ok (.ireturn, 1) := by decide +kernel
set_option maxRecDepth 20000 in
theorem ggX5_mid_X5_searchRefusal : GoodIn wsX5_mid wsX5_searchRefusal := goodIn_r _ [7, 2, 79, 80, 81, 82, 83, 84, 85, 86, 87, 88, 89, 90, 91, 92, 96, 97, 98, 99, 100, 101, 102] (by decide +kernel) (by decide +kernel)
set_option maxRecDepth 20000 in
theorem gX5_mid_X5_searchRefusal : GoodIn wsX5_mid (wsV RX5 198 RX5 yX5_searchRefusal wsX5_searchRefusal) := goodIn_app (goodIn_of _ (by decide +kernel)) ggX5_mid_X5_searchRefusal
set_option maxRecDepth 20000 in
theorem ggX5_mid_X1_howManyIn : GoodIn wsX5_mid wsX1_howManyIn := goodIn_r _ [10, 11, 12, 9, 13, 14, 15, 16, 17, 18, 19, 20] (by decide +kernel) (by decide +kernel)
set_option maxRecDepth 20000 in
theorem gX5_mid_X1_howManyIn_n207 : GoodIn wsX5_mid (wsX1_howManyIn) := ggX5_mid_X1_howManyIn
set_option maxRecDepth 20000 in
theorem ggX5_mid_X3_leftByAll : GoodIn wsX5_mid wsX3_leftByAll := goodIn_r _ [23, 8, 9, 10, 11, 12, 13, 14, 15, 16, 17, 18, 19, 20, 24, 25, 26, 27, 28, 29, 30, 31, 32, 33, 34, 35, 36, 37, 38, 39, 40, 41, 42, 43, 44, 45, 46, 47, 48, 49, 50, 51, 52, 53, 54, 55, 56, 57, 58, 59, 60, 61, 62, 63, 64, 65, 66, 67, 68, 69, 70, 71, 21, 22, 96, 97, 98, 99, 100, 101, 102] (by decide +kernel) (by decide +kernel)
set_option maxRecDepth 20000 in
theorem gX5_mid_X3_leftByAll_n268 : GoodIn wsX5_mid (wsX3_leftByAll) := ggX5_mid_X3_leftByAll
set_option maxRecDepth 20000 in
theorem ggX5_mid_X5_tellShare : GoodIn wsX5_mid wsX5_tellShare := goodIn_r _ [75, 76, 77, 78, 79, 80, 81, 82, 83, 84, 85, 86, 87, 88, 89, 90, 91, 92] (by decide +kernel) (by decide +kernel)
set_option maxRecDepth 20000 in
theorem gX5_mid_X5_tellShare : GoodIn wsX5_mid (wsV RX5 264 RX5 yX5_tellShare wsX5_tellShare) := goodIn_app (goodIn_of _ (by decide +kernel)) ggX5_mid_X5_tellShare
theorem dX5_mid_0 : decode cX5_mid 0 = .ok (.aload_n 0, 1) := by decide +kernel
theorem dX5_mid_1 : decode cX5_mid 1 = .ok (.iload_n 1, 1) := by decide +kernel
theorem dX5_mid_2 : decode cX5_mid 2 = .ok (.invokevirtual 198, 3) := by decide +kernel
theorem dX5_mid_5 : decode cX5_mid 5 = .ok (.istore_n 2, 1) := by decide +kernel
theorem dX5_mid_6 : decode cX5_mid 6 = .ok (.iload_n 2, 1) := by decide +kernel
theorem dX5_mid_7 : decode cX5_mid 7 = .ok (.ifCond .eq 5, 3) := by decide +kernel
theorem dX5_mid_10 : decode cX5_mid 10 = .ok (.iload_n 2, 1) := by decide +kernel
theorem dX5_mid_11 : decode cX5_mid 11 = .ok (.ireturn, 1) := by decide +kernel
theorem dX5_mid_12 : decode cX5_mid 12 = .ok (.aload_n 0, 1) := by decide +kernel
theorem dX5_mid_13 : decode cX5_mid 13 = .ok (.getfield 46, 3) := by decide +kernel
theorem dX5_mid_16 : decode cX5_mid 16 = .ok (.getfield 127, 3) := by decide +kernel
theorem dX5_mid_19 : decode cX5_mid 19 = .ok (.invokestatic 207, 3) := by decide +kernel
theorem dX5_mid_22 : decode cX5_mid 22 = .ok (.i2l, 1) := by decide +kernel
theorem dX5_mid_23 : decode cX5_mid 23 = .ok (.iconst 2, 1) := by decide +kernel
theorem dX5_mid_24 : decode cX5_mid 24 = .ok (.iload_n 1, 1) := by decide +kernel
theorem dX5_mid_25 : decode cX5_mid 25 = .ok (.imul, 1) := by decide +kernel
theorem dX5_mid_26 : decode cX5_mid 26 = .ok (.lshl, 1) := by decide +kernel
theorem dX5_mid_27 : decode cX5_mid 27 = .ok (.lstore_n 3, 1) := by decide +kernel
theorem dX5_mid_28 : decode cX5_mid 28 = .ok (.aload_n 0, 1) := by decide +kernel
theorem dX5_mid_29 : decode cX5_mid 29 = .ok (.lload_n 3, 1) := by decide +kernel
theorem dX5_mid_30 : decode cX5_mid 30 = .ok (.aload_n 0, 1) := by decide +kernel
theorem dX5_mid_31 : decode cX5_mid 31 = .ok (.getfield 36, 3) := by decide +kernel
theorem dX5_mid_34 : decode cX5_mid 34 = .ok (.aload_n 0, 1) := by decide +kernel
theorem dX5_mid_35 : decode cX5_mid 35 = .ok (.getfield 46, 3) := by decide +kernel
theorem dX5_mid_38 : decode cX5_mid 38 = .ok (.getfield 127, 3) := by decide +kernel
theorem dX5_mid_41 : decode cX5_mid 41 = .ok (.iload_n 1, 1) := by decide +kernel
theorem dX5_mid_42 : decode cX5_mid 42 = .ok (.invokestatic 268, 3) := by decide +kernel
theorem dX5_mid_45 : decode cX5_mid 45 = .ok (.lsub, 1) := by decide +kernel
theorem dX5_mid_46 : decode cX5_mid 46 = .ok (.iload_n 1, 1) := by decide +kernel
theorem dX5_mid_47 : decode cX5_mid 47 = .ok (.invokevirtual 264, 3) := by decide +kernel
theorem dX5_mid_50 : decode cX5_mid 50 = .ok (.iconst 1, 1) := by decide +kernel
theorem dX5_mid_51 : decode cX5_mid 51 = .ok (.ireturn, 1) := by decide +kernel
set_option maxRecDepth 20000 in
theorem ggX5_lots_X1_howManyIn : GoodIn wsX5_lots wsX1_howManyIn := goodIn_r _ [9, 10, 11, 8, 12, 13, 14, 15, 16, 17, 18, 19] (by decide +kernel) (by decide +kernel)
set_option maxRecDepth 20000 in
theorem gX5_lots_X1_howManyIn_n207 : GoodIn wsX5_lots (wsX1_howManyIn) := ggX5_lots_X1_howManyIn
set_option maxRecDepth 20000 in
theorem ggX5_lots_X2_afterTune : GoodIn wsX5_lots wsX2_afterTune := goodIn_r _ [23, 24, 25, 26, 27, 8, 28, 29, 30, 31, 32, 33, 21, 34, 35, 36, 37, 38, 39, 40, 41, 42, 43, 44, 45, 46, 47, 48, 49, 50, 51, 52, 53, 54, 55, 56, 57, 58, 11, 12, 59, 60, 61, 62, 63, 64, 65, 66, 88, 89, 90, 91, 92, 93, 94] (by decide +kernel) (by decide +kernel)
set_option maxRecDepth 20000 in
theorem gX5_lots_X2_afterTune_n162 : GoodIn wsX5_lots (wsX2_afterTune) := ggX5_lots_X2_afterTune
set_option maxRecDepth 20000 in
theorem ggX5_lots_X0_goOn : GoodIn wsX5_lots wsX0_goOn := goodIn_r _ [70, 71, 72, 73, 95, 96, 97] (by decide +kernel) (by decide +kernel)
set_option maxRecDepth 20000 in
theorem gX5_lots_X0_goOn_n166 : GoodIn wsX5_lots (wsX0_goOn) := ggX5_lots_X0_goOn
theorem dX5_lots_0 : decode cX5_lots 0 = .ok (.iload_n 1, 1) := by decide +kernel
theorem dX5_lots_1 : decode cX5_lots 1 = .ok (.iconst 1, 1) := by decide +kernel
theorem dX5_lots_2 : decode cX5_lots 2 = .ok (.if_icmp .lt 23, 3) := by decide +kernel
theorem dX5_lots_5 : decode cX5_lots 5 = .ok (.iload_n 1, 1) := by decide +kernel
theorem dX5_lots_6 : decode cX5_lots 6 = .ok (.bipush 20, 2) := by decide +kernel
theorem dX5_lots_8 : decode cX5_lots 8 = .ok (.if_icmp .gt 17, 3) := by decide +kernel
theorem dX5_lots_11 : decode cX5_lots 11 = .ok (.iload_n 2, 1) := by decide +kernel
theorem dX5_lots_12 : decode cX5_lots 12 = .ok (.iconst 1, 1) := by decide +kernel
theorem dX5_lots_13 : decode cX5_lots 13 = .ok (.if_icmp .lt 12, 3) := by decide +kernel
theorem dX5_lots_16 : decode cX5_lots 16 = .ok (.iload_n 2, 1) := by decide +kernel
theorem dX5_lots_17 : decode cX5_lots 17 = .ok (.i2l, 1) := by decide +kernel
theorem dX5_lots_18 : decode cX5_lots 18 = .ok (.ldc2_w 271, 3) := by decide +kernel
theorem dX5_lots_21 : decode cX5_lots 21 = .ok (.lcmp, 1) := by decide +kernel
theorem dX5_lots_22 : decode cX5_lots 22 = .ok (.ifCond .lt 5, 3) := by decide +kernel
theorem dX5_lots_25 : decode cX5_lots 25 = .ok (.iconst (-1), 1) := by decide +kernel
theorem dX5_lots_26 : decode cX5_lots 26 = .ok (.ireturn, 1) := by decide +kernel
theorem dX5_lots_27 : decode cX5_lots 27 = .ok (.aload_n 0, 1) := by decide +kernel
theorem dX5_lots_28 : decode cX5_lots 28 = .ok (.getfield 36, 3) := by decide +kernel
theorem dX5_lots_31 : decode cX5_lots 31 = .ok (.getfield 111, 3) := by decide +kernel
theorem dX5_lots_34 : decode cX5_lots 34 = .ok (.ifCond .ne 6, 3) := by decide +kernel
theorem dX5_lots_37 : decode cX5_lots 37 = .ok (.bipush (-4), 2) := by decide +kernel
theorem dX5_lots_39 : decode cX5_lots 39 = .ok (.ireturn, 1) := by decide +kernel
theorem dX5_lots_40 : decode cX5_lots 40 = .ok (.aload_n 0, 1) := by decide +kernel
theorem dX5_lots_41 : decode cX5_lots 41 = .ok (.getfield 46, 3) := by decide +kernel
theorem dX5_lots_44 : decode cX5_lots 44 = .ok (.getfield 71, 3) := by decide +kernel
theorem dX5_lots_47 : decode cX5_lots 47 = .ok (.iload_n 1, 1) := by decide +kernel
theorem dX5_lots_48 : decode cX5_lots 48 = .ok (.iadd, 1) := by decide +kernel
theorem dX5_lots_49 : decode cX5_lots 49 = .ok (.bipush 40, 2) := by decide +kernel
theorem dX5_lots_51 : decode cX5_lots 51 = .ok (.if_icmp .le 6, 3) := by decide +kernel
theorem dX5_lots_54 : decode cX5_lots 54 = .ok (.bipush (-2), 2) := by decide +kernel
theorem dX5_lots_56 : decode cX5_lots 56 = .ok (.ireturn, 1) := by decide +kernel
theorem dX5_lots_57 : decode cX5_lots 57 = .ok (.aload_n 0, 1) := by decide +kernel
theorem dX5_lots_58 : decode cX5_lots 58 = .ok (.getfield 46, 3) := by decide +kernel
theorem dX5_lots_61 : decode cX5_lots 61 = .ok (.getfield 127, 3) := by decide +kernel
theorem dX5_lots_64 : decode cX5_lots 64 = .ok (.invokestatic 207, 3) := by decide +kernel
theorem dX5_lots_67 : decode cX5_lots 67 = .ok (.istore_n 3, 1) := by decide +kernel
theorem dX5_lots_68 : decode cX5_lots 68 = .ok (.iload_n 2, 1) := by decide +kernel
theorem dX5_lots_69 : decode cX5_lots 69 = .ok (.i2l, 1) := by decide +kernel
theorem dX5_lots_70 : decode cX5_lots 70 = .ok (.lstore 4, 2) := by decide +kernel
theorem dX5_lots_72 : decode cX5_lots 72 = .ok (.iconst 0, 1) := by decide +kernel
theorem dX5_lots_73 : decode cX5_lots 73 = .ok (.istore 6, 2) := by decide +kernel
theorem dX5_lots_75 : decode cX5_lots 75 = .ok (.iload 6, 2) := by decide +kernel
theorem dX5_lots_77 : decode cX5_lots 77 = .ok (.iload_n 1, 1) := by decide +kernel
theorem dX5_lots_78 : decode cX5_lots 78 = .ok (.if_icmp .ge 53, 3) := by decide +kernel
theorem dX5_lots_81 : decode cX5_lots 81 = .ok (.lload 4, 2) := by decide +kernel
theorem dX5_lots_83 : decode cX5_lots 83 = .ok (.ldc2_w 273, 3) := by decide +kernel
theorem dX5_lots_86 : decode cX5_lots 86 = .ok (.lmul, 1) := by decide +kernel
theorem dX5_lots_87 : decode cX5_lots 87 = .ok (.ldc2_w 271, 3) := by decide +kernel
theorem dX5_lots_90 : decode cX5_lots 90 = .ok (.lrem, 1) := by decide +kernel
theorem dX5_lots_91 : decode cX5_lots 91 = .ok (.lstore 4, 2) := by decide +kernel
theorem dX5_lots_93 : decode cX5_lots 93 = .ok (.aload_n 0, 1) := by decide +kernel
theorem dX5_lots_94 : decode cX5_lots 94 = .ok (.getfield 46, 3) := by decide +kernel
theorem dX5_lots_97 : decode cX5_lots 97 = .ok (.aload_n 0, 1) := by decide +kernel
theorem dX5_lots_98 : decode cX5_lots 98 = .ok (.getfield 36, 3) := by decide +kernel
theorem dX5_lots_101 : decode cX5_lots 101 = .ok (.aload_n 0, 1) := by decide +kernel
theorem dX5_lots_102 : decode cX5_lots 102 = .ok (.getfield 46, 3) := by decide +kernel
theorem dX5_lots_105 : decode cX5_lots 105 = .ok (.getfield 127, 3) := by decide +kernel
theorem dX5_lots_108 : decode cX5_lots 108 = .ok (.lload 4, 2) := by decide +kernel
theorem dX5_lots_110 : decode cX5_lots 110 = .ok (.ldc2_w 275, 3) := by decide +kernel
theorem dX5_lots_113 : decode cX5_lots 113 = .ok (.ldiv, 1) := by decide +kernel
theorem dX5_lots_114 : decode cX5_lots 114 = .ok (.ldc2_w 277, 3) := by decide +kernel
theorem dX5_lots_117 : decode cX5_lots 117 = .ok (.lrem, 1) := by decide +kernel
theorem dX5_lots_118 : decode cX5_lots 118 = .ok (.l2i, 1) := by decide +kernel
theorem dX5_lots_119 : decode cX5_lots 119 = .ok (.invokevirtual 162, 3) := by decide +kernel
theorem dX5_lots_122 : decode cX5_lots 122 = .ok (.invokevirtual 166, 3) := by decide +kernel
theorem dX5_lots_125 : decode cX5_lots 125 = .ok (.iinc 6 1, 3) := by decide +kernel
theorem dX5_lots_128 : decode cX5_lots 128 = .ok (.goto (-53), 3) := by decide +kernel
theorem dX5_lots_131 : decode cX5_lots 131 = .ok (.iload_n 3, 1) := by decide +kernel
theorem dX5_lots_132 : decode cX5_lots 132 = .ok (.aload_n 0, 1) := by decide +kernel
theorem dX5_lots_133 : decode cX5_lots 133 = .ok (.getfield 46, 3) := by decide +kernel
theorem dX5_lots_136 : decode cX5_lots 136 = .ok (.getfield 127, 3) := by decide +kernel
theorem dX5_lots_139 : decode cX5_lots 139 = .ok (.invokestatic 207, 3) := by decide +kernel
theorem dX5_lots_142 : decode cX5_lots 142 = .ok (.isub, 1) := by decide +kernel
theorem dX5_lots_143 : decode cX5_lots 143 = .ok (.ireturn, 1) := by decide +kernel
theorem dX5_asked_0 : decode cX5_asked 0 = .ok (.aload_n 0, 1) := by decide +kernel
theorem dX5_asked_1 : decode cX5_asked 1 = .ok (.getfield 61, 3) := by decide +kernel
theorem dX5_asked_4 : decode cX5_asked 4 = .ok (.ireturn, 1) := by decide +kernel
theorem dX5_upper_0 : decode cX5_upper 0 = .ok (.aload_n 0, 1) := by decide +kernel
theorem dX5_upper_1 : decode cX5_upper 1 = .ok (.getfield 64, 3) := by decide +kernel
theorem dX5_upper_4 : decode cX5_upper 4 = .ok (.lreturn, 1) := by decide +kernel
theorem dX5_lower_0 : decode cX5_lower 0 = .ok (.aload_n 0, 1) := by decide +kernel
theorem dX5_lower_1 : decode cX5_lower 1 = .ok (.getfield 68, 3) := by decide +kernel
theorem dX5_lower_4 : decode cX5_lower 4 = .ok (.lreturn, 1) := by decide +kernel
set_option maxRecDepth 20000 in
theorem ggX5_count_X1_howManyIn : GoodIn wsX5_count wsX1_howManyIn := goodIn_r _ [7, 8, 9, 6, 10, 11, 12, 13, 14, 15, 16, 17] (by decide +kernel) (by decide +kernel)
set_option maxRecDepth 20000 in
theorem gX5_count_X1_howManyIn_n207 : GoodIn wsX5_count (wsX1_howManyIn) := ggX5_count_X1_howManyIn
set_option maxRecDepth 20000 in
theorem ggX5_count_X1_griefOfAll : GoodIn wsX5_count wsX1_griefOfAll := goodIn_r _ [19, 20, 21, 6, 22, 23] (by decide +kernel) (by decide +kernel)
set_option maxRecDepth 20000 in
theorem gX5_count_X1_griefOfAll_n192 : GoodIn wsX5_count (wsX1_griefOfAll) := ggX5_count_X1_griefOfAll
set_option maxRecDepth 20000 in
theorem ggX5_count_X2_howManyAre : GoodIn wsX5_count wsX2_howManyAre := goodIn_r _ [27, 28, 29, 30, 31, 32, 55, 56, 57, 58, 59, 60, 61] (by decide +kernel) (by decide +kernel)
set_option maxRecDepth 20000 in
theorem gX5_count_X2_howManyAre_n279 : GoodIn wsX5_count (wsX2_howManyAre) := ggX5_count_X2_howManyAre
set_option maxRecDepth 20000 in
theorem ggX5_count_X5_howManyThere : GoodIn wsX5_count wsX5_howManyThere := goodIn_r _ [35] (by decide +kernel) (by decide +kernel)
set_option maxRecDepth 20000 in
theorem gX5_count_X5_howManyThere : GoodIn wsX5_count (va_wsS RX5 282 yX5_howManyThere wsX5_howManyThere) := goodIn_app (goodIn_of _ (by decide +kernel)) ggX5_count_X5_howManyThere
set_option maxRecDepth 20000 in
theorem ggX5_count_X5_howManyKept : GoodIn wsX5_count wsX5_howManyKept := goodIn_r _ [39, 40, 41, 42, 43, 44, 45, 46, 47, 48, 49, 50, 51, 52, 53, 54, 62, 63, 64] (by decide +kernel) (by decide +kernel)
set_option maxRecDepth 20000 in
theorem gX5_count_X5_howManyKept : GoodIn wsX5_count (wsV RX5 286 RX5 yX5_howManyKept wsX5_howManyKept) := goodIn_app (goodIn_of _ (by decide +kernel)) ggX5_count_X5_howManyKept
theorem dX5_count_0 : decode cX5_count 0 = .ok (.iload_n 1, 1) := by decide +kernel
theorem dX5_count_1 : decode cX5_count 1 = .ok (.tableswitch 140 0 9 #[55, 63, 71, 79, 90, 101, 110, 119, 127, 135], 55) := by decide +kernel
theorem dX5_count_56 : decode cX5_count 56 = .ok (.aload_n 0, 1) := by decide +kernel
theorem dX5_count_57 : decode cX5_count 57 = .ok (.getfield 36, 3) := by decide +kernel
theorem dX5_count_60 : decode cX5_count 60 = .ok (.getfield 111, 3) := by decide +kernel
theorem dX5_count_63 : decode cX5_count 63 = .ok (.ireturn, 1) := by decide +kernel
theorem dX5_count_64 : decode cX5_count 64 = .ok (.aload_n 0, 1) := by decide +kernel
theorem dX5_count_65 : decode cX5_count 65 = .ok (.getfield 36, 3) := by decide +kernel
theorem dX5_count_68 : decode cX5_count 68 = .ok (.getfield 257, 3) := by decide +kernel
theorem dX5_count_71 : decode cX5_count 71 = .ok (.ireturn, 1) := by decide +kernel
theorem dX5_count_72 : decode cX5_count 72 = .ok (.aload_n 0, 1) := by decide +kernel
theorem dX5_count_73 : decode cX5_count 73 = .ok (.getfield 46, 3) := by decide +kernel
theorem dX5_count_76 : decode cX5_count 76 = .ok (.getfield 71, 3) := by decide +kernel
theorem dX5_count_79 : decode cX5_count 79 = .ok (.ireturn, 1) := by decide +kernel
theorem dX5_count_80 : decode cX5_count 80 = .ok (.aload_n 0, 1) := by decide +kernel
theorem dX5_count_81 : decode cX5_count 81 = .ok (.getfield 46, 3) := by decide +kernel
theorem dX5_count_84 : decode cX5_count 84 = .ok (.getfield 127, 3) := by decide +kernel
theorem dX5_count_87 : decode cX5_count 87 = .ok (.invokestatic 207, 3) := by decide +kernel
theorem dX5_count_90 : decode cX5_count 90 = .ok (.ireturn, 1) := by decide +kernel
theorem dX5_count_91 : decode cX5_count 91 = .ok (.aload_n 0, 1) := by decide +kernel
theorem dX5_count_92 : decode cX5_count 92 = .ok (.getfield 46, 3) := by decide +kernel
theorem dX5_count_95 : decode cX5_count 95 = .ok (.getfield 127, 3) := by decide +kernel
theorem dX5_count_98 : decode cX5_count 98 = .ok (.invokestatic 192, 3) := by decide +kernel
theorem dX5_count_101 : decode cX5_count 101 = .ok (.ireturn, 1) := by decide +kernel
theorem dX5_count_102 : decode cX5_count 102 = .ok (.aload_n 0, 1) := by decide +kernel
theorem dX5_count_103 : decode cX5_count 103 = .ok (.getfield 36, 3) := by decide +kernel
theorem dX5_count_106 : decode cX5_count 106 = .ok (.iconst 1, 1) := by decide +kernel
theorem dX5_count_107 : decode cX5_count 107 = .ok (.invokevirtual 279, 3) := by decide +kernel
theorem dX5_count_110 : decode cX5_count 110 = .ok (.ireturn, 1) := by decide +kernel
theorem dX5_count_111 : decode cX5_count 111 = .ok (.aload_n 0, 1) := by decide +kernel
theorem dX5_count_112 : decode cX5_count 112 = .ok (.getfield 36, 3) := by decide +kernel
theorem dX5_count_115 : decode cX5_count 115 = .ok (.iconst 2, 1) := by decide +kernel
theorem dX5_count_116 : decode cX5_count 116 = .ok (.invokevirtual 279, 3) := by decide +kernel
theorem dX5_count_119 : decode cX5_count 119 = .ok (.ireturn, 1) := by decide +kernel
theorem dX5_count_120 : decode cX5_count 120 = .ok (.aload_n 0, 1) := by decide +kernel
theorem dX5_count_121 : decode cX5_count 121 = .ok (.getfield 14, 3) := by decide +kernel
theorem dX5_count_124 : decode cX5_count 124 = .ok (.invokestatic 282, 3) := by decide +kernel
theorem dX5_count_127 : decode cX5_count 127 = .ok (.ireturn, 1) := by decide +kernel
theorem dX5_count_128 : decode cX5_count 128 = .ok (.aload_n 0, 1) := by decide +kernel
theorem dX5_count_129 : decode cX5_count 129 = .ok (.getfield 23, 3) := by decide +kernel
theorem dX5_count_132 : decode cX5_count 132 = .ok (.invokestatic 282, 3) := by decide +kernel
theorem dX5_count_135 : decode cX5_count 135 = .ok (.ireturn, 1) := by decide +kernel
theorem dX5_count_136 : decode cX5_count 136 = .ok (.aload_n 0, 1) := by decide +kernel
theorem dX5_count_137 : decode cX5_count 137 = .ok (.invokevirtual 286, 3) := by decide +kernel
theorem dX5_count_140 : decode cX5_count 140 = .ok (.ireturn, 1) := by decide +kernel
theorem dX5_count_141 : decode cX5_count 141 = .ok (.iconst (-1), 1) := by decide +kernel
theorem dX5_count_142 : decode cX5_count 142 = .ok (.ireturn, 1) := by decide +kernel
theorem dX5_found_0 : decode cX5_found 0 = .ok (.aload_n 0, 1) := by decide +kernel
theorem dX5_found_1 : decode cX5_found 1 = .ok (.iload_n 1, 1) := by decide +kernel
theorem dX5_found_2 : decode cX5_found 2 = .ok (.putfield 57, 3) := by decide +kernel
theorem dX5_found_5 : decode cX5_found 5 = .ok (.aload_n 0, 1) := by decide +kernel
theorem dX5_found_6 : decode cX5_found 6 = .ok (.getfield 54, 3) := by decide +kernel
theorem dX5_found_9 : decode cX5_found 9 = .ok (.iload_n 1, 1) := by decide +kernel
theorem dX5_found_10 : decode cX5_found 10 = .ok (.dup2, 1) := by decide +kernel
theorem dX5_found_11 : decode cX5_found 11 = .ok (.iaload, 1) := by decide +kernel
theorem dX5_found_12 : decode cX5_found 12 = .ok (.iconst 1, 1) := by decide +kernel
theorem dX5_found_13 : decode cX5_found 13 = .ok (.iadd, 1) := by decide +kernel
theorem dX5_found_14 : decode cX5_found 14 = .ok (.iastore, 1) := by decide +kernel
theorem dX5_found_15 : decode cX5_found 15 = .ok (.bipush (-3), 2) := by decide +kernel
theorem dX5_found_17 : decode cX5_found 17 = .ok (.ireturn, 1) := by decide +kernel
theorem dX5_isRow_0 : decode cX5_isRow 0 = .ok (.iload_n 0, 1) := by decide +kernel
theorem dX5_isRow_1 : decode cX5_isRow 1 = .ok (.ifCond .lt 13, 3) := by decide +kernel
theorem dX5_isRow_4 : decode cX5_isRow 4 = .ok (.iload_n 0, 1) := by decide +kernel
theorem dX5_isRow_5 : decode cX5_isRow 5 = .ok (.bipush 6, 2) := by decide +kernel
theorem dX5_isRow_7 : decode cX5_isRow 7 = .ok (.if_icmp .ge 7, 3) := by decide +kernel
theorem dX5_isRow_10 : decode cX5_isRow 10 = .ok (.iconst 1, 1) := by decide +kernel
theorem dX5_isRow_11 : decode cX5_isRow 11 = .ok (.goto 4, 3) := by decide +kernel
theorem dX5_isRow_14 : decode cX5_isRow 14 = .ok (.iconst 0, 1) := by decide +kernel
theorem dX5_isRow_15 : decode cX5_isRow 15 = .ok (.ireturn, 1) := by decide +kernel
theorem dX5_isText_0 : decode cX5_isText 0 = .ok (.iload_n 0, 1) := by decide +kernel
theorem dX5_isText_1 : decode cX5_isText 1 = .ok (.ifCond .lt 12, 3) := by decide +kernel
theorem dX5_isText_4 : decode cX5_isText 4 = .ok (.iload_n 0, 1) := by decide +kernel
theorem dX5_isText_5 : decode cX5_isText 5 = .ok (.iconst 4, 1) := by decide +kernel
theorem dX5_isText_6 : decode cX5_isText 6 = .ok (.if_icmp .ge 7, 3) := by decide +kernel
theorem dX5_isText_9 : decode cX5_isText 9 = .ok (.iconst 1, 1) := by decide +kernel
theorem dX5_isText_10 : decode cX5_isText 10 = .ok (.goto 4, 3) := by decide +kernel
theorem dX5_isText_13 : decode cX5_isText 13 = .ok (.iconst 0, 1) := by decide +kernel
theorem dX5_isText_14 : decode cX5_isText 14 = .ok (.ireturn, 1) := by decide +kernel
theorem dX5_isKeepingPlace_0 : decode cX5_isKeepingPlace 0 = .ok (.iload_n 0, 1) := by decide +kernel
theorem dX5_isKeepingPlace_1 : decode cX5_isKeepingPlace 1 = .ok (.ifCond .lt 12, 3) := by decide +kernel
theorem dX5_isKeepingPlace_4 : decode cX5_isKeepingPlace 4 = .ok (.iload_n 0, 1) := by decide +kernel
theorem dX5_isKeepingPlace_5 : decode cX5_isKeepingPlace 5 = .ok (.iconst 3, 1) := by decide +kernel
theorem dX5_isKeepingPlace_6 : decode cX5_isKeepingPlace 6 = .ok (.if_icmp .ge 7, 3) := by decide +kernel
theorem dX5_isKeepingPlace_9 : decode cX5_isKeepingPlace 9 = .ok (.iconst 1, 1) := by decide +kernel
theorem dX5_isKeepingPlace_10 : decode cX5_isKeepingPlace 10 = .ok (.goto 4, 3) := by decide +kernel
theorem dX5_isKeepingPlace_13 : decode cX5_isKeepingPlace 13 = .ok (.iconst 0, 1) := by decide +kernel
theorem dX5_isKeepingPlace_14 : decode cX5_isKeepingPlace 14 = .ok (.ireturn, 1) := by decide +kernel
theorem dX5_isTune_0 : decode cX5_isTune 0 = .ok (.iload_n 0, 1) := by decide +kernel
theorem dX5_isTune_1 : decode cX5_isTune 1 = .ok (.ifCond .lt 12, 3) := by decide +kernel
theorem dX5_isTune_4 : decode cX5_isTune 4 = .ok (.iload_n 0, 1) := by decide +kernel
theorem dX5_isTune_5 : decode cX5_isTune 5 = .ok (.iconst 4, 1) := by decide +kernel
theorem dX5_isTune_6 : decode cX5_isTune 6 = .ok (.if_icmp .ge 7, 3) := by decide +kernel
theorem dX5_isTune_9 : decode cX5_isTune 9 = .ok (.iconst 1, 1) := by decide +kernel
theorem dX5_isTune_10 : decode cX5_isTune 10 = .ok (.goto 4, 3) := by decide +kernel
theorem dX5_isTune_13 : decode cX5_isTune 13 = .ok (.iconst 0, 1) := by decide +kernel
theorem dX5_isTune_14 : decode cX5_isTune 14 = .ok (.ireturn, 1) := by decide +kernel
theorem dX5_isGrief_0 : decode cX5_isGrief 0 = .ok (.iload_n 0, 1) := by decide +kernel
theorem dX5_isGrief_1 : decode cX5_isGrief 1 = .ok (.ifCond .lt 13, 3) := by decide +kernel
theorem dX5_isGrief_4 : decode cX5_isGrief 4 = .ok (.iload_n 0, 1) := by decide +kernel
theorem dX5_isGrief_5 : decode cX5_isGrief 5 = .ok (.bipush 20, 2) := by decide +kernel
theorem dX5_isGrief_7 : decode cX5_isGrief 7 = .ok (.if_icmp .gt 7, 3) := by decide +kernel
theorem dX5_isGrief_10 : decode cX5_isGrief 10 = .ok (.iconst 1, 1) := by decide +kernel
theorem dX5_isGrief_11 : decode cX5_isGrief 11 = .ok (.goto 4, 3) := by decide +kernel
theorem dX5_isGrief_14 : decode cX5_isGrief 14 = .ok (.iconst 0, 1) := by decide +kernel
theorem dX5_isGrief_15 : decode cX5_isGrief 15 = .ok (.ireturn, 1) := by decide +kernel
theorem dX5_isGuest_0 : decode cX5_isGuest 0 = .ok (.iload_n 1, 1) := by decide +kernel
theorem dX5_isGuest_1 : decode cX5_isGuest 1 = .ok (.ifCond .lt 18, 3) := by decide +kernel
theorem dX5_isGuest_4 : decode cX5_isGuest 4 = .ok (.iload_n 1, 1) := by decide +kernel
theorem dX5_isGuest_5 : decode cX5_isGuest 5 = .ok (.aload_n 0, 1) := by decide +kernel
theorem dX5_isGuest_6 : decode cX5_isGuest 6 = .ok (.getfield 36, 3) := by decide +kernel
theorem dX5_isGuest_9 : decode cX5_isGuest 9 = .ok (.getfield 111, 3) := by decide +kernel
theorem dX5_isGuest_12 : decode cX5_isGuest 12 = .ok (.if_icmp .ge 7, 3) := by decide +kernel
theorem dX5_isGuest_15 : decode cX5_isGuest 15 = .ok (.iconst 1, 1) := by decide +kernel
theorem dX5_isGuest_16 : decode cX5_isGuest 16 = .ok (.goto 4, 3) := by decide +kernel
theorem dX5_isGuest_19 : decode cX5_isGuest 19 = .ok (.iconst 0, 1) := by decide +kernel
theorem dX5_isGuest_20 : decode cX5_isGuest 20 = .ok (.ireturn, 1) := by decide +kernel
theorem dX5_isOfKind_0 : decode cX5_isOfKind 0 = .ok (.iload_n 0, 1) := by decide +kernel
theorem dX5_isOfKind_1 : decode cX5_isOfKind 1 = .ok (.iload_n 1, 1) := by decide +kernel
theorem dX5_isOfKind_2 : decode cX5_isOfKind 2 = .ok (.if_icmp .eq 23, 3) := by decide +kernel
theorem dX5_isOfKind_5 : decode cX5_isOfKind 5 = .ok (.iload_n 0, 1) := by decide +kernel
theorem dX5_isOfKind_6 : decode cX5_isOfKind 6 = .ok (.iconst 4, 1) := by decide +kernel
theorem dX5_isOfKind_7 : decode cX5_isOfKind 7 = .ok (.if_icmp .ne 8, 3) := by decide +kernel
theorem dX5_isOfKind_10 : decode cX5_isOfKind 10 = .ok (.iload_n 1, 1) := by decide +kernel
theorem dX5_isOfKind_11 : decode cX5_isOfKind 11 = .ok (.iconst 1, 1) := by decide +kernel
theorem dX5_isOfKind_12 : decode cX5_isOfKind 12 = .ok (.if_icmp .eq 13, 3) := by decide +kernel
theorem dX5_isOfKind_15 : decode cX5_isOfKind 15 = .ok (.iload_n 0, 1) := by decide +kernel
theorem dX5_isOfKind_16 : decode cX5_isOfKind 16 = .ok (.iconst 5, 1) := by decide +kernel
theorem dX5_isOfKind_17 : decode cX5_isOfKind 17 = .ok (.if_icmp .ne 12, 3) := by decide +kernel
theorem dX5_isOfKind_20 : decode cX5_isOfKind 20 = .ok (.iload_n 1, 1) := by decide +kernel
theorem dX5_isOfKind_21 : decode cX5_isOfKind 21 = .ok (.iconst 2, 1) := by decide +kernel
theorem dX5_isOfKind_22 : decode cX5_isOfKind 22 = .ok (.if_icmp .ne 7, 3) := by decide +kernel
theorem dX5_isOfKind_25 : decode cX5_isOfKind 25 = .ok (.iconst 1, 1) := by decide +kernel
theorem dX5_isOfKind_26 : decode cX5_isOfKind 26 = .ok (.goto 4, 3) := by decide +kernel
theorem dX5_isOfKind_29 : decode cX5_isOfKind 29 = .ok (.iconst 0, 1) := by decide +kernel
theorem dX5_isOfKind_30 : decode cX5_isOfKind 30 = .ok (.ireturn, 1) := by decide +kernel
theorem dX5_makeRow_0 : decode cX5_makeRow 0 = .ok (.iconst 0, 1) := by decide +kernel
theorem dX5_makeRow_1 : decode cX5_makeRow 1 = .ok (.istore_n 3, 1) := by decide +kernel
theorem dX5_makeRow_2 : decode cX5_makeRow 2 = .ok (.iload_n 3, 1) := by decide +kernel
theorem dX5_makeRow_3 : decode cX5_makeRow 3 = .ok (.iload_n 2, 1) := by decide +kernel
theorem dX5_makeRow_4 : decode cX5_makeRow 4 = .ok (.if_icmp .ge 18, 3) := by decide +kernel
theorem dX5_makeRow_7 : decode cX5_makeRow 7 = .ok (.aload_n 0, 1) := by decide +kernel
theorem dX5_makeRow_8 : decode cX5_makeRow 8 = .ok (.getfield 11, 3) := by decide +kernel
theorem dX5_makeRow_11 : decode cX5_makeRow 11 = .ok (.iload_n 1, 1) := by decide +kernel
theorem dX5_makeRow_12 : decode cX5_makeRow 12 = .ok (.aaload, 1) := by decide +kernel
theorem dX5_makeRow_13 : decode cX5_makeRow 13 = .ok (.iload_n 3, 1) := by decide +kernel
theorem dX5_makeRow_14 : decode cX5_makeRow 14 = .ok (.iconst 0, 1) := by decide +kernel
theorem dX5_makeRow_15 : decode cX5_makeRow 15 = .ok (.iastore, 1) := by decide +kernel
theorem dX5_makeRow_16 : decode cX5_makeRow 16 = .ok (.iinc 3 1, 3) := by decide +kernel
theorem dX5_makeRow_19 : decode cX5_makeRow 19 = .ok (.goto (-17), 3) := by decide +kernel
theorem dX5_makeRow_22 : decode cX5_makeRow 22 = .ok (.aload_n 0, 1) := by decide +kernel
theorem dX5_makeRow_23 : decode cX5_makeRow 23 = .ok (.getfield 14, 3) := by decide +kernel
theorem dX5_makeRow_26 : decode cX5_makeRow 26 = .ok (.iload_n 1, 1) := by decide +kernel
theorem dX5_makeRow_27 : decode cX5_makeRow 27 = .ok (.iload_n 2, 1) := by decide +kernel
theorem dX5_makeRow_28 : decode cX5_makeRow 28 = .ok (.iastore, 1) := by decide +kernel
theorem dX5_makeRow_29 : decode cX5_makeRow 29 = .ok (.return_, 1) := by decide +kernel
set_option maxRecDepth 20000 in
theorem ggX5_makeProgramme_X5_makeRow : GoodIn wsX5_makeProgramme wsX5_makeRow := goodIn_r _ [6, 1, 7, 8, 9, 10, 11, 12, 13, 14, 15, 16, 17, 18, 19, 20, 21] (by decide +kernel) (by decide +kernel)
set_option maxRecDepth 20000 in
theorem gX5_makeProgramme_X5_makeRow : GoodIn wsX5_makeProgramme (wsV RX5 82 RX5 yX5_makeRow wsX5_makeRow) := goodIn_app (goodIn_of _ (by decide +kernel)) ggX5_makeProgramme_X5_makeRow
theorem dX5_makeProgramme_0 : decode cX5_makeProgramme 0 = .ok (.aload_n 0, 1) := by decide +kernel
theorem dX5_makeProgramme_1 : decode cX5_makeProgramme 1 = .ok (.iload_n 1, 1) := by decide +kernel
theorem dX5_makeProgramme_2 : decode cX5_makeProgramme 2 = .ok (.iload_n 2, 1) := by decide +kernel
theorem dX5_makeProgramme_3 : decode cX5_makeProgramme 3 = .ok (.invokevirtual 82, 3) := by decide +kernel
theorem dX5_makeProgramme_6 : decode cX5_makeProgramme 6 = .ok (.iconst 0, 1) := by decide +kernel
theorem dX5_makeProgramme_7 : decode cX5_makeProgramme 7 = .ok (.istore 4, 2) := by decide +kernel
theorem dX5_makeProgramme_9 : decode cX5_makeProgramme 9 = .ok (.iload 4, 2) := by decide +kernel
theorem dX5_makeProgramme_11 : decode cX5_makeProgramme 11 = .ok (.iload_n 2, 1) := by decide +kernel
theorem dX5_makeProgramme_12 : decode cX5_makeProgramme 12 = .ok (.if_icmp .ge 30, 3) := by decide +kernel
theorem dX5_makeProgramme_15 : decode cX5_makeProgramme 15 = .ok (.aload_n 0, 1) := by decide +kernel
theorem dX5_makeProgramme_16 : decode cX5_makeProgramme 16 = .ok (.getfield 11, 3) := by decide +kernel
theorem dX5_makeProgramme_19 : decode cX5_makeProgramme 19 = .ok (.iload_n 1, 1) := by decide +kernel
theorem dX5_makeProgramme_20 : decode cX5_makeProgramme 20 = .ok (.aaload, 1) := by decide +kernel
theorem dX5_makeProgramme_21 : decode cX5_makeProgramme 21 = .ok (.iload 4, 2) := by decide +kernel
theorem dX5_makeProgramme_23 : decode cX5_makeProgramme 23 = .ok (.iload_n 3, 1) := by decide +kernel
theorem dX5_makeProgramme_24 : decode cX5_makeProgramme 24 = .ok (.iconst 2, 1) := by decide +kernel
theorem dX5_makeProgramme_25 : decode cX5_makeProgramme 25 = .ok (.iload_n 2, 1) := by decide +kernel
theorem dX5_makeProgramme_26 : decode cX5_makeProgramme 26 = .ok (.iconst 1, 1) := by decide +kernel
theorem dX5_makeProgramme_27 : decode cX5_makeProgramme 27 = .ok (.isub, 1) := by decide +kernel
theorem dX5_makeProgramme_28 : decode cX5_makeProgramme 28 = .ok (.iload 4, 2) := by decide +kernel
theorem dX5_makeProgramme_30 : decode cX5_makeProgramme 30 = .ok (.isub, 1) := by decide +kernel
theorem dX5_makeProgramme_31 : decode cX5_makeProgramme 31 = .ok (.imul, 1) := by decide +kernel
theorem dX5_makeProgramme_32 : decode cX5_makeProgramme 32 = .ok (.ishr, 1) := by decide +kernel
theorem dX5_makeProgramme_33 : decode cX5_makeProgramme 33 = .ok (.iconst 3, 1) := by decide +kernel
theorem dX5_makeProgramme_34 : decode cX5_makeProgramme 34 = .ok (.iand, 1) := by decide +kernel
theorem dX5_makeProgramme_35 : decode cX5_makeProgramme 35 = .ok (.iastore, 1) := by decide +kernel
theorem dX5_makeProgramme_36 : decode cX5_makeProgramme 36 = .ok (.iinc 4 1, 3) := by decide +kernel
theorem dX5_makeProgramme_39 : decode cX5_makeProgramme 39 = .ok (.goto (-30), 3) := by decide +kernel
theorem dX5_makeProgramme_42 : decode cX5_makeProgramme 42 = .ok (.return_, 1) := by decide +kernel
theorem dX5_rowPlaceFinding_0 : decode cX5_rowPlaceFinding 0 = .ok (.aload_n 0, 1) := by decide +kernel
theorem dX5_rowPlaceFinding_1 : decode cX5_rowPlaceFinding 1 = .ok (.getfield 14, 3) := by decide +kernel
theorem dX5_rowPlaceFinding_4 : decode cX5_rowPlaceFinding 4 = .ok (.iload_n 1, 1) := by decide +kernel
theorem dX5_rowPlaceFinding_5 : decode cX5_rowPlaceFinding 5 = .ok (.iaload, 1) := by decide +kernel
theorem dX5_rowPlaceFinding_6 : decode cX5_rowPlaceFinding 6 = .ok (.iconst (-1), 1) := by decide +kernel
theorem dX5_rowPlaceFinding_7 : decode cX5_rowPlaceFinding 7 = .ok (.if_icmp .ne 5, 3) := by decide +kernel
theorem dX5_rowPlaceFinding_10 : decode cX5_rowPlaceFinding 10 = .ok (.iconst 1, 1) := by decide +kernel
theorem dX5_rowPlaceFinding_11 : decode cX5_rowPlaceFinding 11 = .ok (.ireturn, 1) := by decide +kernel
theorem dX5_rowPlaceFinding_12 : decode cX5_rowPlaceFinding 12 = .ok (.iload_n 2, 1) := by decide +kernel
theorem dX5_rowPlaceFinding_13 : decode cX5_rowPlaceFinding 13 = .ok (.ifCond .lt 13, 3) := by decide +kernel
theorem dX5_rowPlaceFinding_16 : decode cX5_rowPlaceFinding 16 = .ok (.iload_n 2, 1) := by decide +kernel
theorem dX5_rowPlaceFinding_17 : decode cX5_rowPlaceFinding 17 = .ok (.aload_n 0, 1) := by decide +kernel
theorem dX5_rowPlaceFinding_18 : decode cX5_rowPlaceFinding 18 = .ok (.getfield 14, 3) := by decide +kernel
theorem dX5_rowPlaceFinding_21 : decode cX5_rowPlaceFinding 21 = .ok (.iload_n 1, 1) := by decide +kernel
theorem dX5_rowPlaceFinding_22 : decode cX5_rowPlaceFinding 22 = .ok (.iaload, 1) := by decide +kernel
theorem dX5_rowPlaceFinding_23 : decode cX5_rowPlaceFinding 23 = .ok (.if_icmp .lt 7, 3) := by decide +kernel
theorem dX5_rowPlaceFinding_26 : decode cX5_rowPlaceFinding 26 = .ok (.iconst 2, 1) := by decide +kernel
theorem dX5_rowPlaceFinding_27 : decode cX5_rowPlaceFinding 27 = .ok (.goto 4, 3) := by decide +kernel
theorem dX5_rowPlaceFinding_30 : decode cX5_rowPlaceFinding 30 = .ok (.iconst 0, 1) := by decide +kernel
theorem dX5_rowPlaceFinding_31 : decode cX5_rowPlaceFinding 31 = .ok (.ireturn, 1) := by decide +kernel
set_option maxRecDepth 20000 in
theorem ggX5_programmeFinding_X5_isTune : GoodIn wsX5_programmeFinding wsX5_isTune := goodIn_r _ [6] (by decide +kernel) (by decide +kernel)
set_option maxRecDepth 20000 in
theorem gX5_programmeFinding_X5_isTune : GoodIn wsX5_programmeFinding (va_wsS RX5 152 yX5_isTune wsX5_isTune) := goodIn_app (goodIn_of _ (by decide +kernel)) ggX5_programmeFinding_X5_isTune
theorem dX5_programmeFinding_0 : decode cX5_programmeFinding 0 = .ok (.aload_n 0, 1) := by decide +kernel
theorem dX5_programmeFinding_1 : decode cX5_programmeFinding 1 = .ok (.getfield 14, 3) := by decide +kernel
theorem dX5_programmeFinding_4 : decode cX5_programmeFinding 4 = .ok (.iload_n 1, 1) := by decide +kernel
theorem dX5_programmeFinding_5 : decode cX5_programmeFinding 5 = .ok (.iaload, 1) := by decide +kernel
theorem dX5_programmeFinding_6 : decode cX5_programmeFinding 6 = .ok (.iconst (-1), 1) := by decide +kernel
theorem dX5_programmeFinding_7 : decode cX5_programmeFinding 7 = .ok (.if_icmp .ne 5, 3) := by decide +kernel
theorem dX5_programmeFinding_10 : decode cX5_programmeFinding 10 = .ok (.iconst 1, 1) := by decide +kernel
theorem dX5_programmeFinding_11 : decode cX5_programmeFinding 11 = .ok (.ireturn, 1) := by decide +kernel
theorem dX5_programmeFinding_12 : decode cX5_programmeFinding 12 = .ok (.aload_n 0, 1) := by decide +kernel
theorem dX5_programmeFinding_13 : decode cX5_programmeFinding 13 = .ok (.getfield 14, 3) := by decide +kernel
theorem dX5_programmeFinding_16 : decode cX5_programmeFinding 16 = .ok (.iload_n 1, 1) := by decide +kernel
theorem dX5_programmeFinding_17 : decode cX5_programmeFinding 17 = .ok (.iaload, 1) := by decide +kernel
theorem dX5_programmeFinding_18 : decode cX5_programmeFinding 18 = .ok (.bipush 6, 2) := by decide +kernel
theorem dX5_programmeFinding_20 : decode cX5_programmeFinding 20 = .ok (.if_icmp .le 5, 3) := by decide +kernel
theorem dX5_programmeFinding_23 : decode cX5_programmeFinding 23 = .ok (.iconst 5, 1) := by decide +kernel
theorem dX5_programmeFinding_24 : decode cX5_programmeFinding 24 = .ok (.ireturn, 1) := by decide +kernel
theorem dX5_programmeFinding_25 : decode cX5_programmeFinding 25 = .ok (.iconst 0, 1) := by decide +kernel
theorem dX5_programmeFinding_26 : decode cX5_programmeFinding 26 = .ok (.istore_n 2, 1) := by decide +kernel
theorem dX5_programmeFinding_27 : decode cX5_programmeFinding 27 = .ok (.iload_n 2, 1) := by decide +kernel
theorem dX5_programmeFinding_28 : decode cX5_programmeFinding 28 = .ok (.aload_n 0, 1) := by decide +kernel
theorem dX5_programmeFinding_29 : decode cX5_programmeFinding 29 = .ok (.getfield 14, 3) := by decide +kernel
theorem dX5_programmeFinding_32 : decode cX5_programmeFinding 32 = .ok (.iload_n 1, 1) := by decide +kernel
theorem dX5_programmeFinding_33 : decode cX5_programmeFinding 33 = .ok (.iaload, 1) := by decide +kernel
theorem dX5_programmeFinding_34 : decode cX5_programmeFinding 34 = .ok (.if_icmp .ge 25, 3) := by decide +kernel
theorem dX5_programmeFinding_37 : decode cX5_programmeFinding 37 = .ok (.aload_n 0, 1) := by decide +kernel
theorem dX5_programmeFinding_38 : decode cX5_programmeFinding 38 = .ok (.getfield 11, 3) := by decide +kernel
theorem dX5_programmeFinding_41 : decode cX5_programmeFinding 41 = .ok (.iload_n 1, 1) := by decide +kernel
theorem dX5_programmeFinding_42 : decode cX5_programmeFinding 42 = .ok (.aaload, 1) := by decide +kernel
theorem dX5_programmeFinding_43 : decode cX5_programmeFinding 43 = .ok (.iload_n 2, 1) := by decide +kernel
theorem dX5_programmeFinding_44 : decode cX5_programmeFinding 44 = .ok (.iaload, 1) := by decide +kernel
theorem dX5_programmeFinding_45 : decode cX5_programmeFinding 45 = .ok (.invokestatic 152, 3) := by decide +kernel
theorem dX5_programmeFinding_48 : decode cX5_programmeFinding 48 = .ok (.ifCond .ne 5, 3) := by decide +kernel
theorem dX5_programmeFinding_51 : decode cX5_programmeFinding 51 = .ok (.iconst 3, 1) := by decide +kernel
theorem dX5_programmeFinding_52 : decode cX5_programmeFinding 52 = .ok (.ireturn, 1) := by decide +kernel
theorem dX5_programmeFinding_53 : decode cX5_programmeFinding 53 = .ok (.iinc 2 1, 3) := by decide +kernel
theorem dX5_programmeFinding_56 : decode cX5_programmeFinding 56 = .ok (.goto (-29), 3) := by decide +kernel
theorem dX5_programmeFinding_59 : decode cX5_programmeFinding 59 = .ok (.iconst 0, 1) := by decide +kernel
theorem dX5_programmeFinding_60 : decode cX5_programmeFinding 60 = .ok (.ireturn, 1) := by decide +kernel
set_option maxRecDepth 20000 in
theorem ggX5_eveningFinding_X5_isTune : GoodIn wsX5_eveningFinding wsX5_isTune := goodIn_r _ [6] (by decide +kernel) (by decide +kernel)
set_option maxRecDepth 20000 in
theorem gX5_eveningFinding_X5_isTune : GoodIn wsX5_eveningFinding (va_wsS RX5 152 yX5_isTune wsX5_isTune) := goodIn_app (goodIn_of _ (by decide +kernel)) ggX5_eveningFinding_X5_isTune
set_option maxRecDepth 20000 in
theorem ggX5_eveningFinding_X5_isGrief : GoodIn wsX5_eveningFinding wsX5_isGrief := goodIn_r _ [9] (by decide +kernel) (by decide +kernel)
set_option maxRecDepth 20000 in
theorem gX5_eveningFinding_X5_isGrief : GoodIn wsX5_eveningFinding (va_wsS RX5 239 yX5_isGrief wsX5_isGrief) := goodIn_app (goodIn_of _ (by decide +kernel)) ggX5_eveningFinding_X5_isGrief
theorem dX5_eveningFinding_0 : decode cX5_eveningFinding 0 = .ok (.aload_n 0, 1) := by decide +kernel
theorem dX5_eveningFinding_1 : decode cX5_eveningFinding 1 = .ok (.getfield 14, 3) := by decide +kernel
theorem dX5_eveningFinding_4 : decode cX5_eveningFinding 4 = .ok (.iload_n 1, 1) := by decide +kernel
theorem dX5_eveningFinding_5 : decode cX5_eveningFinding 5 = .ok (.iaload, 1) := by decide +kernel
theorem dX5_eveningFinding_6 : decode cX5_eveningFinding 6 = .ok (.istore_n 2, 1) := by decide +kernel
theorem dX5_eveningFinding_7 : decode cX5_eveningFinding 7 = .ok (.iload_n 2, 1) := by decide +kernel
theorem dX5_eveningFinding_8 : decode cX5_eveningFinding 8 = .ok (.iconst (-1), 1) := by decide +kernel
theorem dX5_eveningFinding_9 : decode cX5_eveningFinding 9 = .ok (.if_icmp .ne 5, 3) := by decide +kernel
theorem dX5_eveningFinding_12 : decode cX5_eveningFinding 12 = .ok (.iconst 1, 1) := by decide +kernel
theorem dX5_eveningFinding_13 : decode cX5_eveningFinding 13 = .ok (.ireturn, 1) := by decide +kernel
theorem dX5_eveningFinding_14 : decode cX5_eveningFinding 14 = .ok (.iload_n 2, 1) := by decide +kernel
theorem dX5_eveningFinding_15 : decode cX5_eveningFinding 15 = .ok (.iconst 2, 1) := by decide +kernel
theorem dX5_eveningFinding_16 : decode cX5_eveningFinding 16 = .ok (.irem, 1) := by decide +kernel
theorem dX5_eveningFinding_17 : decode cX5_eveningFinding 17 = .ok (.ifCond .ne 9, 3) := by decide +kernel
theorem dX5_eveningFinding_20 : decode cX5_eveningFinding 20 = .ok (.iload_n 2, 1) := by decide +kernel
theorem dX5_eveningFinding_21 : decode cX5_eveningFinding 21 = .ok (.bipush 16, 2) := by decide +kernel
theorem dX5_eveningFinding_23 : decode cX5_eveningFinding 23 = .ok (.if_icmp .le 5, 3) := by decide +kernel
theorem dX5_eveningFinding_26 : decode cX5_eveningFinding 26 = .ok (.iconst 5, 1) := by decide +kernel
theorem dX5_eveningFinding_27 : decode cX5_eveningFinding 27 = .ok (.ireturn, 1) := by decide +kernel
theorem dX5_eveningFinding_28 : decode cX5_eveningFinding 28 = .ok (.iconst 0, 1) := by decide +kernel
theorem dX5_eveningFinding_29 : decode cX5_eveningFinding 29 = .ok (.istore_n 3, 1) := by decide +kernel
theorem dX5_eveningFinding_30 : decode cX5_eveningFinding 30 = .ok (.iload_n 3, 1) := by decide +kernel
theorem dX5_eveningFinding_31 : decode cX5_eveningFinding 31 = .ok (.iconst 1, 1) := by decide +kernel
theorem dX5_eveningFinding_32 : decode cX5_eveningFinding 32 = .ok (.iadd, 1) := by decide +kernel
theorem dX5_eveningFinding_33 : decode cX5_eveningFinding 33 = .ok (.iload_n 2, 1) := by decide +kernel
theorem dX5_eveningFinding_34 : decode cX5_eveningFinding 34 = .ok (.if_icmp .ge 41, 3) := by decide +kernel
theorem dX5_eveningFinding_37 : decode cX5_eveningFinding 37 = .ok (.aload_n 0, 1) := by decide +kernel
theorem dX5_eveningFinding_38 : decode cX5_eveningFinding 38 = .ok (.getfield 11, 3) := by decide +kernel
theorem dX5_eveningFinding_41 : decode cX5_eveningFinding 41 = .ok (.iload_n 1, 1) := by decide +kernel
theorem dX5_eveningFinding_42 : decode cX5_eveningFinding 42 = .ok (.aaload, 1) := by decide +kernel
theorem dX5_eveningFinding_43 : decode cX5_eveningFinding 43 = .ok (.iload_n 3, 1) := by decide +kernel
theorem dX5_eveningFinding_44 : decode cX5_eveningFinding 44 = .ok (.iaload, 1) := by decide +kernel
theorem dX5_eveningFinding_45 : decode cX5_eveningFinding 45 = .ok (.invokestatic 152, 3) := by decide +kernel
theorem dX5_eveningFinding_48 : decode cX5_eveningFinding 48 = .ok (.ifCond .eq 19, 3) := by decide +kernel
theorem dX5_eveningFinding_51 : decode cX5_eveningFinding 51 = .ok (.aload_n 0, 1) := by decide +kernel
theorem dX5_eveningFinding_52 : decode cX5_eveningFinding 52 = .ok (.getfield 11, 3) := by decide +kernel
theorem dX5_eveningFinding_55 : decode cX5_eveningFinding 55 = .ok (.iload_n 1, 1) := by decide +kernel
theorem dX5_eveningFinding_56 : decode cX5_eveningFinding 56 = .ok (.aaload, 1) := by decide +kernel
theorem dX5_eveningFinding_57 : decode cX5_eveningFinding 57 = .ok (.iload_n 3, 1) := by decide +kernel
theorem dX5_eveningFinding_58 : decode cX5_eveningFinding 58 = .ok (.iconst 1, 1) := by decide +kernel
theorem dX5_eveningFinding_59 : decode cX5_eveningFinding 59 = .ok (.iadd, 1) := by decide +kernel
theorem dX5_eveningFinding_60 : decode cX5_eveningFinding 60 = .ok (.iaload, 1) := by decide +kernel
theorem dX5_eveningFinding_61 : decode cX5_eveningFinding 61 = .ok (.invokestatic 239, 3) := by decide +kernel
theorem dX5_eveningFinding_64 : decode cX5_eveningFinding 64 = .ok (.ifCond .ne 5, 3) := by decide +kernel
theorem dX5_eveningFinding_67 : decode cX5_eveningFinding 67 = .ok (.iconst 3, 1) := by decide +kernel
theorem dX5_eveningFinding_68 : decode cX5_eveningFinding 68 = .ok (.ireturn, 1) := by decide +kernel
theorem dX5_eveningFinding_69 : decode cX5_eveningFinding 69 = .ok (.iinc 3 2, 3) := by decide +kernel
theorem dX5_eveningFinding_72 : decode cX5_eveningFinding 72 = .ok (.goto (-42), 3) := by decide +kernel
theorem dX5_eveningFinding_75 : decode cX5_eveningFinding 75 = .ok (.iconst 0, 1) := by decide +kernel
theorem dX5_eveningFinding_76 : decode cX5_eveningFinding 76 = .ok (.ireturn, 1) := by decide +kernel
theorem dX5_searchRefusal_0 : decode cX5_searchRefusal 0 = .ok (.iload_n 1, 1) := by decide +kernel
theorem dX5_searchRefusal_1 : decode cX5_searchRefusal 1 = .ok (.ifCond .lt 9, 3) := by decide +kernel
theorem dX5_searchRefusal_4 : decode cX5_searchRefusal 4 = .ok (.iload_n 1, 1) := by decide +kernel
theorem dX5_searchRefusal_5 : decode cX5_searchRefusal 5 = .ok (.bipush 6, 2) := by decide +kernel
theorem dX5_searchRefusal_7 : decode cX5_searchRefusal 7 = .ok (.if_icmp .le 5, 3) := by decide +kernel
theorem dX5_searchRefusal_10 : decode cX5_searchRefusal 10 = .ok (.iconst (-1), 1) := by decide +kernel
theorem dX5_searchRefusal_11 : decode cX5_searchRefusal 11 = .ok (.ireturn, 1) := by decide +kernel
theorem dX5_searchRefusal_12 : decode cX5_searchRefusal 12 = .ok (.aload_n 0, 1) := by decide +kernel
theorem dX5_searchRefusal_13 : decode cX5_searchRefusal 13 = .ok (.getfield 36, 3) := by decide +kernel
theorem dX5_searchRefusal_16 : decode cX5_searchRefusal 16 = .ok (.getfield 111, 3) := by decide +kernel
theorem dX5_searchRefusal_19 : decode cX5_searchRefusal 19 = .ok (.ifCond .ne 8, 3) := by decide +kernel
theorem dX5_searchRefusal_22 : decode cX5_searchRefusal 22 = .ok (.bipush (-4), 2) := by decide +kernel
theorem dX5_searchRefusal_24 : decode cX5_searchRefusal 24 = .ok (.goto 4, 3) := by decide +kernel
theorem dX5_searchRefusal_27 : decode cX5_searchRefusal 27 = .ok (.iconst 0, 1) := by decide +kernel
theorem dX5_searchRefusal_28 : decode cX5_searchRefusal 28 = .ok (.ireturn, 1) := by decide +kernel
set_option maxRecDepth 20000 in
theorem ggX5_deedRefusal_X5_isGuest : GoodIn wsX5_deedRefusal wsX5_isGuest := goodIn_r _ [6, 7, 11, 12, 13, 14, 15, 16, 17, 18, 19, 20, 21, 22, 23, 24, 28, 29, 30, 31, 32, 33, 34] (by decide +kernel) (by decide +kernel)
set_option maxRecDepth 20000 in
theorem gX5_deedRefusal_X5_isGuest : GoodIn wsX5_deedRefusal (wsV RX5 114 RX5 yX5_isGuest wsX5_isGuest) := goodIn_app (goodIn_of _ (by decide +kernel)) ggX5_deedRefusal_X5_isGuest
set_option maxRecDepth 20000 in
theorem ggX5_deedRefusal_X1_isIn : GoodIn wsX5_deedRefusal wsX1_isIn := goodIn_r _ [10] (by decide +kernel) (by decide +kernel)
set_option maxRecDepth 20000 in
theorem gX5_deedRefusal_X1_isIn_n130 : GoodIn wsX5_deedRefusal (wsX1_isIn) := ggX5_deedRefusal_X1_isIn
theorem dX5_deedRefusal_0 : decode cX5_deedRefusal 0 = .ok (.aload_n 0, 1) := by decide +kernel
theorem dX5_deedRefusal_1 : decode cX5_deedRefusal 1 = .ok (.iload_n 1, 1) := by decide +kernel
theorem dX5_deedRefusal_2 : decode cX5_deedRefusal 2 = .ok (.invokevirtual 114, 3) := by decide +kernel
theorem dX5_deedRefusal_5 : decode cX5_deedRefusal 5 = .ok (.ifCond .ne 5, 3) := by decide +kernel
theorem dX5_deedRefusal_8 : decode cX5_deedRefusal 8 = .ok (.iconst (-1), 1) := by decide +kernel
theorem dX5_deedRefusal_9 : decode cX5_deedRefusal 9 = .ok (.ireturn, 1) := by decide +kernel
theorem dX5_deedRefusal_10 : decode cX5_deedRefusal 10 = .ok (.aload_n 0, 1) := by decide +kernel
theorem dX5_deedRefusal_11 : decode cX5_deedRefusal 11 = .ok (.getfield 46, 3) := by decide +kernel
theorem dX5_deedRefusal_14 : decode cX5_deedRefusal 14 = .ok (.getfield 127, 3) := by decide +kernel
theorem dX5_deedRefusal_17 : decode cX5_deedRefusal 17 = .ok (.iload_n 1, 1) := by decide +kernel
theorem dX5_deedRefusal_18 : decode cX5_deedRefusal 18 = .ok (.invokestatic 130, 3) := by decide +kernel
theorem dX5_deedRefusal_21 : decode cX5_deedRefusal 21 = .ok (.ifCond .ne 6, 3) := by decide +kernel
theorem dX5_deedRefusal_24 : decode cX5_deedRefusal 24 = .ok (.bipush (-4), 2) := by decide +kernel
theorem dX5_deedRefusal_26 : decode cX5_deedRefusal 26 = .ok (.ireturn, 1) := by decide +kernel
theorem dX5_deedRefusal_27 : decode cX5_deedRefusal 27 = .ok (.aload_n 0, 1) := by decide +kernel
theorem dX5_deedRefusal_28 : decode cX5_deedRefusal 28 = .ok (.getfield 46, 3) := by decide +kernel
theorem dX5_deedRefusal_31 : decode cX5_deedRefusal 31 = .ok (.getfield 71, 3) := by decide +kernel
theorem dX5_deedRefusal_34 : decode cX5_deedRefusal 34 = .ok (.bipush 40, 2) := by decide +kernel
theorem dX5_deedRefusal_36 : decode cX5_deedRefusal 36 = .ok (.if_icmp .lt 8, 3) := by decide +kernel
theorem dX5_deedRefusal_39 : decode cX5_deedRefusal 39 = .ok (.bipush (-2), 2) := by decide +kernel
theorem dX5_deedRefusal_41 : decode cX5_deedRefusal 41 = .ok (.goto 4, 3) := by decide +kernel
theorem dX5_deedRefusal_44 : decode cX5_deedRefusal 44 = .ok (.iconst 0, 1) := by decide +kernel
theorem dX5_deedRefusal_45 : decode cX5_deedRefusal 45 = .ok (.ireturn, 1) := by decide +kernel
set_option maxRecDepth 20000 in
theorem ggX5_eveningRefusal_X5_isGuest : GoodIn wsX5_eveningRefusal wsX5_isGuest := goodIn_r _ [6, 7, 32, 33, 34, 35, 36, 37, 38, 39, 40, 41, 42, 43, 44, 45, 49, 50, 51, 52, 53, 54, 55] (by decide +kernel) (by decide +kernel)
set_option maxRecDepth 20000 in
theorem gX5_eveningRefusal_X5_isGuest : GoodIn wsX5_eveningRefusal (wsV RX5 114 RX5 yX5_isGuest wsX5_isGuest) := goodIn_app (goodIn_of _ (by decide +kernel)) ggX5_eveningRefusal_X5_isGuest
set_option maxRecDepth 20000 in
theorem ggX5_eveningRefusal_X5_isRow : GoodIn wsX5_eveningRefusal wsX5_isRow := goodIn_r _ [10] (by decide +kernel) (by decide +kernel)
set_option maxRecDepth 20000 in
theorem gX5_eveningRefusal_X5_isRow : GoodIn wsX5_eveningRefusal (va_wsS RX5 74 yX5_isRow wsX5_isRow) := goodIn_app (goodIn_of _ (by decide +kernel)) ggX5_eveningRefusal_X5_isRow
set_option maxRecDepth 20000 in
theorem ggX5_eveningRefusal_X1_isIn : GoodIn wsX5_eveningRefusal wsX1_isIn := goodIn_r _ [13] (by decide +kernel) (by decide +kernel)
set_option maxRecDepth 20000 in
theorem gX5_eveningRefusal_X1_isIn_n130 : GoodIn wsX5_eveningRefusal (wsX1_isIn) := ggX5_eveningRefusal_X1_isIn
set_option maxRecDepth 20000 in
theorem ggX5_eveningRefusal_X5_eveningFinding : GoodIn wsX5_eveningRefusal wsX5_eveningFinding := goodIn_r _ [17, 18, 19, 20, 21, 5, 22, 23, 24, 25, 32, 33, 34, 35, 36, 37, 38, 39, 40, 41, 42, 43, 44, 45] (by decide +kernel) (by decide +kernel)
set_option maxRecDepth 20000 in
theorem gX5_eveningRefusal_X5_eveningFinding : GoodIn wsX5_eveningRefusal (wsV RX5 301 RX5 yX5_eveningFinding wsX5_eveningFinding) := goodIn_app (goodIn_of _ (by decide +kernel)) ggX5_eveningRefusal_X5_eveningFinding
set_option maxRecDepth 20000 in
theorem ggX5_eveningRefusal_X5_found : GoodIn wsX5_eveningRefusal wsX5_found := goodIn_r _ [29, 30, 31, 32, 33, 34, 35, 36, 37, 38, 39, 40, 41, 42, 43, 44, 45] (by decide +kernel) (by decide +kernel)
set_option maxRecDepth 20000 in
theorem gX5_eveningRefusal_X5_found : GoodIn wsX5_eveningRefusal (wsV RX5 78 RX5 yX5_found wsX5_found) := goodIn_app (goodIn_of _ (by decide +kernel)) ggX5_eveningRefusal_X5_found
theorem dX5_eveningRefusal_0 : decode cX5_eveningRefusal 0 = .ok (.aload_n 0, 1) := by decide +kernel
theorem dX5_eveningRefusal_1 : decode cX5_eveningRefusal 1 = .ok (.iload_n 1, 1) := by decide +kernel
theorem dX5_eveningRefusal_2 : decode cX5_eveningRefusal 2 = .ok (.invokevirtual 114, 3) := by decide +kernel
theorem dX5_eveningRefusal_5 : decode cX5_eveningRefusal 5 = .ok (.ifCond .eq 10, 3) := by decide +kernel
theorem dX5_eveningRefusal_8 : decode cX5_eveningRefusal 8 = .ok (.iload_n 2, 1) := by decide +kernel
theorem dX5_eveningRefusal_9 : decode cX5_eveningRefusal 9 = .ok (.invokestatic 74, 3) := by decide +kernel
theorem dX5_eveningRefusal_12 : decode cX5_eveningRefusal 12 = .ok (.ifCond .ne 5, 3) := by decide +kernel
theorem dX5_eveningRefusal_15 : decode cX5_eveningRefusal 15 = .ok (.iconst (-1), 1) := by decide +kernel
theorem dX5_eveningRefusal_16 : decode cX5_eveningRefusal 16 = .ok (.ireturn, 1) := by decide +kernel
theorem dX5_eveningRefusal_17 : decode cX5_eveningRefusal 17 = .ok (.aload_n 0, 1) := by decide +kernel
theorem dX5_eveningRefusal_18 : decode cX5_eveningRefusal 18 = .ok (.getfield 46, 3) := by decide +kernel
theorem dX5_eveningRefusal_21 : decode cX5_eveningRefusal 21 = .ok (.getfield 127, 3) := by decide +kernel
theorem dX5_eveningRefusal_24 : decode cX5_eveningRefusal 24 = .ok (.iload_n 1, 1) := by decide +kernel
theorem dX5_eveningRefusal_25 : decode cX5_eveningRefusal 25 = .ok (.invokestatic 130, 3) := by decide +kernel
theorem dX5_eveningRefusal_28 : decode cX5_eveningRefusal 28 = .ok (.ifCond .ne 6, 3) := by decide +kernel
theorem dX5_eveningRefusal_31 : decode cX5_eveningRefusal 31 = .ok (.bipush (-4), 2) := by decide +kernel
theorem dX5_eveningRefusal_33 : decode cX5_eveningRefusal 33 = .ok (.ireturn, 1) := by decide +kernel
theorem dX5_eveningRefusal_34 : decode cX5_eveningRefusal 34 = .ok (.aload_n 0, 1) := by decide +kernel
theorem dX5_eveningRefusal_35 : decode cX5_eveningRefusal 35 = .ok (.iload_n 2, 1) := by decide +kernel
theorem dX5_eveningRefusal_36 : decode cX5_eveningRefusal 36 = .ok (.invokevirtual 301, 3) := by decide +kernel
theorem dX5_eveningRefusal_39 : decode cX5_eveningRefusal 39 = .ok (.istore_n 3, 1) := by decide +kernel
theorem dX5_eveningRefusal_40 : decode cX5_eveningRefusal 40 = .ok (.iload_n 3, 1) := by decide +kernel
theorem dX5_eveningRefusal_41 : decode cX5_eveningRefusal 41 = .ok (.ifCond .ne 7, 3) := by decide +kernel
theorem dX5_eveningRefusal_44 : decode cX5_eveningRefusal 44 = .ok (.iconst 0, 1) := by decide +kernel
theorem dX5_eveningRefusal_45 : decode cX5_eveningRefusal 45 = .ok (.goto 8, 3) := by decide +kernel
theorem dX5_eveningRefusal_48 : decode cX5_eveningRefusal 48 = .ok (.aload_n 0, 1) := by decide +kernel
theorem dX5_eveningRefusal_49 : decode cX5_eveningRefusal 49 = .ok (.iload_n 3, 1) := by decide +kernel
theorem dX5_eveningRefusal_50 : decode cX5_eveningRefusal 50 = .ok (.invokevirtual 78, 3) := by decide +kernel
theorem dX5_eveningRefusal_53 : decode cX5_eveningRefusal 53 = .ok (.ireturn, 1) := by decide +kernel
set_option maxRecDepth 20000 in
theorem ggX5_guestTells_X1_griefOf : GoodIn wsX5_guestTells wsX1_griefOf := goodIn_r _ [5, 6] (by decide +kernel) (by decide +kernel)
set_option maxRecDepth 20000 in
theorem gX5_guestTells_X1_griefOf_n175 : GoodIn wsX5_guestTells (wsX1_griefOf) := ggX5_guestTells_X1_griefOf
set_option maxRecDepth 20000 in
theorem ggX5_guestTells_X1_isIn : GoodIn wsX5_guestTells wsX1_isIn := goodIn_r _ [8] (by decide +kernel) (by decide +kernel)
set_option maxRecDepth 20000 in
theorem gX5_guestTells_X1_isIn_n130 : GoodIn wsX5_guestTells (wsX1_isIn) := ggX5_guestTells_X1_isIn
set_option maxRecDepth 20000 in
theorem ggX5_guestTells_X2_watchers : GoodIn wsX5_guestTells wsX2_watchers := goodIn_r _ [12, 13, 14, 4, 15, 30, 31, 32, 33, 34, 35, 36] (by decide +kernel) (by decide +kernel)
set_option maxRecDepth 20000 in
theorem gX5_guestTells_X2_watchers_n246 : GoodIn wsX5_guestTells (wsX2_watchers) := ggX5_guestTells_X2_watchers
theorem dX5_guestTells_0 : decode cX5_guestTells 0 = .ok (.iload_n 2, 1) := by decide +kernel
theorem dX5_guestTells_1 : decode cX5_guestTells 1 = .ok (.tableswitch 83 0 3 #[31, 41, 53, 73], 31) := by decide +kernel
theorem dX5_guestTells_32 : decode cX5_guestTells 32 = .ok (.aload_n 0, 1) := by decide +kernel
theorem dX5_guestTells_33 : decode cX5_guestTells 33 = .ok (.getfield 36, 3) := by decide +kernel
theorem dX5_guestTells_36 : decode cX5_guestTells 36 = .ok (.getfield 120, 3) := by decide +kernel
theorem dX5_guestTells_39 : decode cX5_guestTells 39 = .ok (.iload_n 1, 1) := by decide +kernel
theorem dX5_guestTells_40 : decode cX5_guestTells 40 = .ok (.iaload, 1) := by decide +kernel
theorem dX5_guestTells_41 : decode cX5_guestTells 41 = .ok (.ireturn, 1) := by decide +kernel
theorem dX5_guestTells_42 : decode cX5_guestTells 42 = .ok (.aload_n 0, 1) := by decide +kernel
theorem dX5_guestTells_43 : decode cX5_guestTells 43 = .ok (.getfield 46, 3) := by decide +kernel
theorem dX5_guestTells_46 : decode cX5_guestTells 46 = .ok (.getfield 127, 3) := by decide +kernel
theorem dX5_guestTells_49 : decode cX5_guestTells 49 = .ok (.iload_n 1, 1) := by decide +kernel
theorem dX5_guestTells_50 : decode cX5_guestTells 50 = .ok (.invokestatic 175, 3) := by decide +kernel
theorem dX5_guestTells_53 : decode cX5_guestTells 53 = .ok (.ireturn, 1) := by decide +kernel
theorem dX5_guestTells_54 : decode cX5_guestTells 54 = .ok (.aload_n 0, 1) := by decide +kernel
theorem dX5_guestTells_55 : decode cX5_guestTells 55 = .ok (.getfield 46, 3) := by decide +kernel
theorem dX5_guestTells_58 : decode cX5_guestTells 58 = .ok (.getfield 127, 3) := by decide +kernel
theorem dX5_guestTells_61 : decode cX5_guestTells 61 = .ok (.iload_n 1, 1) := by decide +kernel
theorem dX5_guestTells_62 : decode cX5_guestTells 62 = .ok (.invokestatic 130, 3) := by decide +kernel
theorem dX5_guestTells_65 : decode cX5_guestTells 65 = .ok (.ifCond .eq 7, 3) := by decide +kernel
theorem dX5_guestTells_68 : decode cX5_guestTells 68 = .ok (.iconst 0, 1) := by decide +kernel
theorem dX5_guestTells_69 : decode cX5_guestTells 69 = .ok (.goto 4, 3) := by decide +kernel
theorem dX5_guestTells_72 : decode cX5_guestTells 72 = .ok (.iconst 1, 1) := by decide +kernel
theorem dX5_guestTells_73 : decode cX5_guestTells 73 = .ok (.ireturn, 1) := by decide +kernel
theorem dX5_guestTells_74 : decode cX5_guestTells 74 = .ok (.aload_n 0, 1) := by decide +kernel
theorem dX5_guestTells_75 : decode cX5_guestTells 75 = .ok (.getfield 36, 3) := by decide +kernel
theorem dX5_guestTells_78 : decode cX5_guestTells 78 = .ok (.getfield 304, 3) := by decide +kernel
theorem dX5_guestTells_81 : decode cX5_guestTells 81 = .ok (.iload_n 1, 1) := by decide +kernel
theorem dX5_guestTells_82 : decode cX5_guestTells 82 = .ok (.iaload, 1) := by decide +kernel
theorem dX5_guestTells_83 : decode cX5_guestTells 83 = .ok (.ireturn, 1) := by decide +kernel
theorem dX5_guestTells_84 : decode cX5_guestTells 84 = .ok (.aload_n 0, 1) := by decide +kernel
theorem dX5_guestTells_85 : decode cX5_guestTells 85 = .ok (.getfield 36, 3) := by decide +kernel
theorem dX5_guestTells_88 : decode cX5_guestTells 88 = .ok (.aload_n 0, 1) := by decide +kernel
theorem dX5_guestTells_89 : decode cX5_guestTells 89 = .ok (.getfield 46, 3) := by decide +kernel
theorem dX5_guestTells_92 : decode cX5_guestTells 92 = .ok (.getfield 127, 3) := by decide +kernel
theorem dX5_guestTells_95 : decode cX5_guestTells 95 = .ok (.iload_n 1, 1) := by decide +kernel
theorem dX5_guestTells_96 : decode cX5_guestTells 96 = .ok (.invokevirtual 246, 3) := by decide +kernel
theorem dX5_guestTells_99 : decode cX5_guestTells 99 = .ok (.ifCond .eq 7, 3) := by decide +kernel
theorem dX5_guestTells_102 : decode cX5_guestTells 102 = .ok (.iconst 1, 1) := by decide +kernel
theorem dX5_guestTells_103 : decode cX5_guestTells 103 = .ok (.goto 4, 3) := by decide +kernel
theorem dX5_guestTells_106 : decode cX5_guestTells 106 = .ok (.iconst 0, 1) := by decide +kernel
theorem dX5_guestTells_107 : decode cX5_guestTells 107 = .ok (.ireturn, 1) := by decide +kernel
set_option maxRecDepth 20000 in
theorem ggX5_icesNeededBy_X1_insiders : GoodIn wsX5_icesNeededBy wsX1_insiders := goodIn_r _ [7] (by decide +kernel) (by decide +kernel)
set_option maxRecDepth 20000 in
theorem gX5_icesNeededBy_X1_insiders_n158 : GoodIn wsX5_icesNeededBy (wsX1_insiders) := ggX5_icesNeededBy_X1_insiders
set_option maxRecDepth 20000 in
theorem ggX5_icesNeededBy_X2_canFall : GoodIn wsX5_icesNeededBy wsX2_canFall := goodIn_r _ [11, 12, 13, 58, 59, 60, 61, 62, 63, 64] (by decide +kernel) (by decide +kernel)
set_option maxRecDepth 20000 in
theorem gX5_icesNeededBy_X2_canFall_n307 : GoodIn wsX5_icesNeededBy (wsX2_canFall) := ggX5_icesNeededBy_X2_canFall
set_option maxRecDepth 20000 in
theorem ggX5_icesNeededBy_X1_griefOf : GoodIn wsX5_icesNeededBy wsX1_griefOf := goodIn_r _ [15, 16] (by decide +kernel) (by decide +kernel)
set_option maxRecDepth 20000 in
theorem gX5_icesNeededBy_X1_griefOf_n175 : GoodIn wsX5_icesNeededBy (wsX1_griefOf) := ggX5_icesNeededBy_X1_griefOf
set_option maxRecDepth 20000 in
theorem ggX5_icesNeededBy_X2_bounded : GoodIn wsX5_icesNeededBy wsX2_bounded := goodIn_r _ [18, 19, 20, 21, 22, 23, 24, 25] (by decide +kernel) (by decide +kernel)
set_option maxRecDepth 20000 in
theorem gX5_icesNeededBy_X2_bounded_n310 : GoodIn wsX5_icesNeededBy (wsX2_bounded) := ggX5_icesNeededBy_X2_bounded
set_option maxRecDepth 20000 in
theorem ggX5_icesNeededBy_X2_keepsTheClause : GoodIn wsX5_icesNeededBy wsX2_keepsTheClause := goodIn_r _ [28, 12, 29, 30, 31, 32, 9, 33, 34, 35, 36, 19, 20, 21, 22, 37, 38, 39, 40, 17, 18, 23, 24, 25, 58, 59, 60, 61, 62, 63, 64] (by decide +kernel) (by decide +kernel)
set_option maxRecDepth 20000 in
theorem gX5_icesNeededBy_X2_keepsTheClause_n313 : GoodIn wsX5_icesNeededBy (wsX2_keepsTheClause) := ggX5_icesNeededBy_X2_keepsTheClause
theorem dX5_icesNeededBy_0 : decode cX5_icesNeededBy 0 = .ok (.aload_n 0, 1) := by decide +kernel
theorem dX5_icesNeededBy_1 : decode cX5_icesNeededBy 1 = .ok (.getfield 36, 3) := by decide +kernel
theorem dX5_icesNeededBy_4 : decode cX5_icesNeededBy 4 = .ok (.aload_n 0, 1) := by decide +kernel
theorem dX5_icesNeededBy_5 : decode cX5_icesNeededBy 5 = .ok (.getfield 46, 3) := by decide +kernel
theorem dX5_icesNeededBy_8 : decode cX5_icesNeededBy 8 = .ok (.getfield 127, 3) := by decide +kernel
theorem dX5_icesNeededBy_11 : decode cX5_icesNeededBy 11 = .ok (.invokestatic 158, 3) := by decide +kernel
theorem dX5_icesNeededBy_14 : decode cX5_icesNeededBy 14 = .ok (.iload_n 1, 1) := by decide +kernel
theorem dX5_icesNeededBy_15 : decode cX5_icesNeededBy 15 = .ok (.invokevirtual 307, 3) := by decide +kernel
theorem dX5_icesNeededBy_18 : decode cX5_icesNeededBy 18 = .ok (.ifCond .ne 5, 3) := by decide +kernel
theorem dX5_icesNeededBy_21 : decode cX5_icesNeededBy 21 = .ok (.iconst 0, 1) := by decide +kernel
theorem dX5_icesNeededBy_22 : decode cX5_icesNeededBy 22 = .ok (.ireturn, 1) := by decide +kernel
theorem dX5_icesNeededBy_23 : decode cX5_icesNeededBy 23 = .ok (.iconst 0, 1) := by decide +kernel
theorem dX5_icesNeededBy_24 : decode cX5_icesNeededBy 24 = .ok (.istore_n 3, 1) := by decide +kernel
theorem dX5_icesNeededBy_25 : decode cX5_icesNeededBy 25 = .ok (.iload_n 3, 1) := by decide +kernel
theorem dX5_icesNeededBy_26 : decode cX5_icesNeededBy 26 = .ok (.bipush 7, 2) := by decide +kernel
theorem dX5_icesNeededBy_28 : decode cX5_icesNeededBy 28 = .ok (.if_icmp .gt 56, 3) := by decide +kernel
theorem dX5_icesNeededBy_31 : decode cX5_icesNeededBy 31 = .ok (.aload_n 0, 1) := by decide +kernel
theorem dX5_icesNeededBy_32 : decode cX5_icesNeededBy 32 = .ok (.getfield 46, 3) := by decide +kernel
theorem dX5_icesNeededBy_35 : decode cX5_icesNeededBy 35 = .ok (.getfield 127, 3) := by decide +kernel
theorem dX5_icesNeededBy_38 : decode cX5_icesNeededBy 38 = .ok (.iload_n 1, 1) := by decide +kernel
theorem dX5_icesNeededBy_39 : decode cX5_icesNeededBy 39 = .ok (.invokestatic 175, 3) := by decide +kernel
theorem dX5_icesNeededBy_42 : decode cX5_icesNeededBy 42 = .ok (.iconst 3, 1) := by decide +kernel
theorem dX5_icesNeededBy_43 : decode cX5_icesNeededBy 43 = .ok (.iload_n 3, 1) := by decide +kernel
theorem dX5_icesNeededBy_44 : decode cX5_icesNeededBy 44 = .ok (.imul, 1) := by decide +kernel
theorem dX5_icesNeededBy_45 : decode cX5_icesNeededBy 45 = .ok (.isub, 1) := by decide +kernel
theorem dX5_icesNeededBy_46 : decode cX5_icesNeededBy 46 = .ok (.invokestatic 310, 3) := by decide +kernel
theorem dX5_icesNeededBy_49 : decode cX5_icesNeededBy 49 = .ok (.istore 4, 2) := by decide +kernel
theorem dX5_icesNeededBy_51 : decode cX5_icesNeededBy 51 = .ok (.aload_n 0, 1) := by decide +kernel
theorem dX5_icesNeededBy_52 : decode cX5_icesNeededBy 52 = .ok (.getfield 36, 3) := by decide +kernel
theorem dX5_icesNeededBy_55 : decode cX5_icesNeededBy 55 = .ok (.iload_n 1, 1) := by decide +kernel
theorem dX5_icesNeededBy_56 : decode cX5_icesNeededBy 56 = .ok (.iload 4, 2) := by decide +kernel
theorem dX5_icesNeededBy_58 : decode cX5_icesNeededBy 58 = .ok (.aload_n 0, 1) := by decide +kernel
theorem dX5_icesNeededBy_59 : decode cX5_icesNeededBy 59 = .ok (.getfield 11, 3) := by decide +kernel
theorem dX5_icesNeededBy_62 : decode cX5_icesNeededBy 62 = .ok (.iload_n 2, 1) := by decide +kernel
theorem dX5_icesNeededBy_63 : decode cX5_icesNeededBy 63 = .ok (.aaload, 1) := by decide +kernel
theorem dX5_icesNeededBy_64 : decode cX5_icesNeededBy 64 = .ok (.aload_n 0, 1) := by decide +kernel
theorem dX5_icesNeededBy_65 : decode cX5_icesNeededBy 65 = .ok (.getfield 14, 3) := by decide +kernel
theorem dX5_icesNeededBy_68 : decode cX5_icesNeededBy 68 = .ok (.iload_n 2, 1) := by decide +kernel
theorem dX5_icesNeededBy_69 : decode cX5_icesNeededBy 69 = .ok (.iaload, 1) := by decide +kernel
theorem dX5_icesNeededBy_70 : decode cX5_icesNeededBy 70 = .ok (.invokevirtual 313, 3) := by decide +kernel
theorem dX5_icesNeededBy_73 : decode cX5_icesNeededBy 73 = .ok (.ifCond .eq 5, 3) := by decide +kernel
theorem dX5_icesNeededBy_76 : decode cX5_icesNeededBy 76 = .ok (.iload_n 3, 1) := by decide +kernel
theorem dX5_icesNeededBy_77 : decode cX5_icesNeededBy 77 = .ok (.ireturn, 1) := by decide +kernel
theorem dX5_icesNeededBy_78 : decode cX5_icesNeededBy 78 = .ok (.iinc 3 1, 3) := by decide +kernel
theorem dX5_icesNeededBy_81 : decode cX5_icesNeededBy 81 = .ok (.goto (-56), 3) := by decide +kernel
theorem dX5_icesNeededBy_84 : decode cX5_icesNeededBy 84 = .ok (.bipush (-9), 2) := by decide +kernel
theorem dX5_icesNeededBy_86 : decode cX5_icesNeededBy 86 = .ok (.ireturn, 1) := by decide +kernel
set_option maxRecDepth 20000 in
theorem ggX5_griefOfSet_X1_griefOf : GoodIn wsX5_griefOfSet wsX1_griefOf := goodIn_r _ [5, 6] (by decide +kernel) (by decide +kernel)
set_option maxRecDepth 20000 in
theorem gX5_griefOfSet_X1_griefOf_n175 : GoodIn wsX5_griefOfSet (wsX1_griefOf) := ggX5_griefOfSet_X1_griefOf
theorem dX5_griefOfSet_0 : decode cX5_griefOfSet 0 = .ok (.iconst 0, 1) := by decide +kernel
theorem dX5_griefOfSet_1 : decode cX5_griefOfSet 1 = .ok (.istore_n 2, 1) := by decide +kernel
theorem dX5_griefOfSet_2 : decode cX5_griefOfSet 2 = .ok (.iconst 0, 1) := by decide +kernel
theorem dX5_griefOfSet_3 : decode cX5_griefOfSet 3 = .ok (.istore_n 3, 1) := by decide +kernel
theorem dX5_griefOfSet_4 : decode cX5_griefOfSet 4 = .ok (.iload_n 3, 1) := by decide +kernel
theorem dX5_griefOfSet_5 : decode cX5_griefOfSet 5 = .ok (.aload_n 0, 1) := by decide +kernel
theorem dX5_griefOfSet_6 : decode cX5_griefOfSet 6 = .ok (.getfield 36, 3) := by decide +kernel
theorem dX5_griefOfSet_9 : decode cX5_griefOfSet 9 = .ok (.getfield 111, 3) := by decide +kernel
theorem dX5_griefOfSet_12 : decode cX5_griefOfSet 12 = .ok (.if_icmp .ge 31, 3) := by decide +kernel
theorem dX5_griefOfSet_15 : decode cX5_griefOfSet 15 = .ok (.iload_n 1, 1) := by decide +kernel
theorem dX5_griefOfSet_16 : decode cX5_griefOfSet 16 = .ok (.iload_n 3, 1) := by decide +kernel
theorem dX5_griefOfSet_17 : decode cX5_griefOfSet 17 = .ok (.ishr, 1) := by decide +kernel
theorem dX5_griefOfSet_18 : decode cX5_griefOfSet 18 = .ok (.iconst 1, 1) := by decide +kernel
theorem dX5_griefOfSet_19 : decode cX5_griefOfSet 19 = .ok (.iand, 1) := by decide +kernel
theorem dX5_griefOfSet_20 : decode cX5_griefOfSet 20 = .ok (.ifCond .eq 17, 3) := by decide +kernel
theorem dX5_griefOfSet_23 : decode cX5_griefOfSet 23 = .ok (.iload_n 2, 1) := by decide +kernel
theorem dX5_griefOfSet_24 : decode cX5_griefOfSet 24 = .ok (.aload_n 0, 1) := by decide +kernel
theorem dX5_griefOfSet_25 : decode cX5_griefOfSet 25 = .ok (.getfield 46, 3) := by decide +kernel
theorem dX5_griefOfSet_28 : decode cX5_griefOfSet 28 = .ok (.getfield 127, 3) := by decide +kernel
theorem dX5_griefOfSet_31 : decode cX5_griefOfSet 31 = .ok (.iload_n 3, 1) := by decide +kernel
theorem dX5_griefOfSet_32 : decode cX5_griefOfSet 32 = .ok (.invokestatic 175, 3) := by decide +kernel
theorem dX5_griefOfSet_35 : decode cX5_griefOfSet 35 = .ok (.iadd, 1) := by decide +kernel
theorem dX5_griefOfSet_36 : decode cX5_griefOfSet 36 = .ok (.istore_n 2, 1) := by decide +kernel
theorem dX5_griefOfSet_37 : decode cX5_griefOfSet 37 = .ok (.iinc 3 1, 3) := by decide +kernel
theorem dX5_griefOfSet_40 : decode cX5_griefOfSet 40 = .ok (.goto (-36), 3) := by decide +kernel
theorem dX5_griefOfSet_43 : decode cX5_griefOfSet 43 = .ok (.iload_n 2, 1) := by decide +kernel
theorem dX5_griefOfSet_44 : decode cX5_griefOfSet 44 = .ok (.ireturn, 1) := by decide +kernel
theorem dX5_tellShare_0 : decode cX5_tellShare 0 = .ok (.aload_n 0, 1) := by decide +kernel
theorem dX5_tellShare_1 : decode cX5_tellShare 1 = .ok (.lload_n 1, 1) := by decide +kernel
theorem dX5_tellShare_2 : decode cX5_tellShare 2 = .ok (.putfield 64, 3) := by decide +kernel
theorem dX5_tellShare_5 : decode cX5_tellShare 5 = .ok (.aload_n 0, 1) := by decide +kernel
theorem dX5_tellShare_6 : decode cX5_tellShare 6 = .ok (.lconst 1, 1) := by decide +kernel
theorem dX5_tellShare_7 : decode cX5_tellShare 7 = .ok (.iconst 2, 1) := by decide +kernel
theorem dX5_tellShare_8 : decode cX5_tellShare 8 = .ok (.iload_n 3, 1) := by decide +kernel
theorem dX5_tellShare_9 : decode cX5_tellShare 9 = .ok (.imul, 1) := by decide +kernel
theorem dX5_tellShare_10 : decode cX5_tellShare 10 = .ok (.lshl, 1) := by decide +kernel
theorem dX5_tellShare_11 : decode cX5_tellShare 11 = .ok (.putfield 68, 3) := by decide +kernel
theorem dX5_tellShare_14 : decode cX5_tellShare 14 = .ok (.iconst 0, 1) := by decide +kernel
theorem dX5_tellShare_15 : decode cX5_tellShare 15 = .ok (.istore 4, 2) := by decide +kernel
theorem dX5_tellShare_17 : decode cX5_tellShare 17 = .ok (.iload 4, 2) := by decide +kernel
theorem dX5_tellShare_19 : decode cX5_tellShare 19 = .ok (.iconst 2, 1) := by decide +kernel
theorem dX5_tellShare_20 : decode cX5_tellShare 20 = .ok (.iload_n 3, 1) := by decide +kernel
theorem dX5_tellShare_21 : decode cX5_tellShare 21 = .ok (.imul, 1) := by decide +kernel
theorem dX5_tellShare_22 : decode cX5_tellShare 22 = .ok (.if_icmp .ge 46, 3) := by decide +kernel
theorem dX5_tellShare_25 : decode cX5_tellShare 25 = .ok (.aload_n 0, 1) := by decide +kernel
theorem dX5_tellShare_26 : decode cX5_tellShare 26 = .ok (.getfield 64, 3) := by decide +kernel
theorem dX5_tellShare_29 : decode cX5_tellShare 29 = .ok (.ldc2_w 316, 3) := by decide +kernel
theorem dX5_tellShare_32 : decode cX5_tellShare 32 = .ok (.lrem, 1) := by decide +kernel
theorem dX5_tellShare_33 : decode cX5_tellShare 33 = .ok (.lconst 0, 1) := by decide +kernel
theorem dX5_tellShare_34 : decode cX5_tellShare 34 = .ok (.lcmp, 1) := by decide +kernel
theorem dX5_tellShare_35 : decode cX5_tellShare 35 = .ok (.ifCond .ne 33, 3) := by decide +kernel
theorem dX5_tellShare_38 : decode cX5_tellShare 38 = .ok (.aload_n 0, 1) := by decide +kernel
theorem dX5_tellShare_39 : decode cX5_tellShare 39 = .ok (.dup, 1) := by decide +kernel
theorem dX5_tellShare_40 : decode cX5_tellShare 40 = .ok (.getfield 64, 3) := by decide +kernel
theorem dX5_tellShare_43 : decode cX5_tellShare 43 = .ok (.ldc2_w 316, 3) := by decide +kernel
theorem dX5_tellShare_46 : decode cX5_tellShare 46 = .ok (.ldiv, 1) := by decide +kernel
theorem dX5_tellShare_47 : decode cX5_tellShare 47 = .ok (.putfield 64, 3) := by decide +kernel
theorem dX5_tellShare_50 : decode cX5_tellShare 50 = .ok (.aload_n 0, 1) := by decide +kernel
theorem dX5_tellShare_51 : decode cX5_tellShare 51 = .ok (.dup, 1) := by decide +kernel
theorem dX5_tellShare_52 : decode cX5_tellShare 52 = .ok (.getfield 68, 3) := by decide +kernel
theorem dX5_tellShare_55 : decode cX5_tellShare 55 = .ok (.ldc2_w 316, 3) := by decide +kernel
theorem dX5_tellShare_58 : decode cX5_tellShare 58 = .ok (.ldiv, 1) := by decide +kernel
theorem dX5_tellShare_59 : decode cX5_tellShare 59 = .ok (.putfield 68, 3) := by decide +kernel
theorem dX5_tellShare_62 : decode cX5_tellShare 62 = .ok (.iinc 4 1, 3) := by decide +kernel
theorem dX5_tellShare_65 : decode cX5_tellShare 65 = .ok (.goto (-48), 3) := by decide +kernel
theorem dX5_tellShare_68 : decode cX5_tellShare 68 = .ok (.return_, 1) := by decide +kernel
theorem dX5_howManyThere_0 : decode cX5_howManyThere 0 = .ok (.iconst 0, 1) := by decide +kernel
theorem dX5_howManyThere_1 : decode cX5_howManyThere 1 = .ok (.istore_n 1, 1) := by decide +kernel
theorem dX5_howManyThere_2 : decode cX5_howManyThere 2 = .ok (.aload_n 0, 1) := by decide +kernel
theorem dX5_howManyThere_3 : decode cX5_howManyThere 3 = .ok (.astore_n 2, 1) := by decide +kernel
theorem dX5_howManyThere_4 : decode cX5_howManyThere 4 = .ok (.aload_n 2, 1) := by decide +kernel
theorem dX5_howManyThere_5 : decode cX5_howManyThere 5 = .ok (.arraylength, 1) := by decide +kernel
theorem dX5_howManyThere_6 : decode cX5_howManyThere 6 = .ok (.istore_n 3, 1) := by decide +kernel
theorem dX5_howManyThere_7 : decode cX5_howManyThere 7 = .ok (.iconst 0, 1) := by decide +kernel
theorem dX5_howManyThere_8 : decode cX5_howManyThere 8 = .ok (.istore 4, 2) := by decide +kernel
theorem dX5_howManyThere_10 : decode cX5_howManyThere 10 = .ok (.iload 4, 2) := by decide +kernel
theorem dX5_howManyThere_12 : decode cX5_howManyThere 12 = .ok (.iload_n 3, 1) := by decide +kernel
theorem dX5_howManyThere_13 : decode cX5_howManyThere 13 = .ok (.if_icmp .ge 24, 3) := by decide +kernel
theorem dX5_howManyThere_16 : decode cX5_howManyThere 16 = .ok (.aload_n 2, 1) := by decide +kernel
theorem dX5_howManyThere_17 : decode cX5_howManyThere 17 = .ok (.iload 4, 2) := by decide +kernel
theorem dX5_howManyThere_19 : decode cX5_howManyThere 19 = .ok (.iaload, 1) := by decide +kernel
theorem dX5_howManyThere_20 : decode cX5_howManyThere 20 = .ok (.istore 5, 2) := by decide +kernel
theorem dX5_howManyThere_22 : decode cX5_howManyThere 22 = .ok (.iload 5, 2) := by decide +kernel
theorem dX5_howManyThere_24 : decode cX5_howManyThere 24 = .ok (.iconst (-1), 1) := by decide +kernel
theorem dX5_howManyThere_25 : decode cX5_howManyThere 25 = .ok (.if_icmp .eq 6, 3) := by decide +kernel
theorem dX5_howManyThere_28 : decode cX5_howManyThere 28 = .ok (.iinc 1 1, 3) := by decide +kernel
theorem dX5_howManyThere_31 : decode cX5_howManyThere 31 = .ok (.iinc 4 1, 3) := by decide +kernel
theorem dX5_howManyThere_34 : decode cX5_howManyThere 34 = .ok (.goto (-24), 3) := by decide +kernel
theorem dX5_howManyThere_37 : decode cX5_howManyThere 37 = .ok (.iload_n 1, 1) := by decide +kernel
theorem dX5_howManyThere_38 : decode cX5_howManyThere 38 = .ok (.ireturn, 1) := by decide +kernel
theorem dX5_howManyKept_0 : decode cX5_howManyKept 0 = .ok (.iconst 0, 1) := by decide +kernel
theorem dX5_howManyKept_1 : decode cX5_howManyKept 1 = .ok (.istore_n 1, 1) := by decide +kernel
theorem dX5_howManyKept_2 : decode cX5_howManyKept 2 = .ok (.aload_n 0, 1) := by decide +kernel
theorem dX5_howManyKept_3 : decode cX5_howManyKept 3 = .ok (.getfield 50, 3) := by decide +kernel
theorem dX5_howManyKept_6 : decode cX5_howManyKept 6 = .ok (.astore_n 2, 1) := by decide +kernel
theorem dX5_howManyKept_7 : decode cX5_howManyKept 7 = .ok (.aload_n 2, 1) := by decide +kernel
theorem dX5_howManyKept_8 : decode cX5_howManyKept 8 = .ok (.arraylength, 1) := by decide +kernel
theorem dX5_howManyKept_9 : decode cX5_howManyKept 9 = .ok (.istore_n 3, 1) := by decide +kernel
theorem dX5_howManyKept_10 : decode cX5_howManyKept 10 = .ok (.iconst 0, 1) := by decide +kernel
theorem dX5_howManyKept_11 : decode cX5_howManyKept 11 = .ok (.istore 4, 2) := by decide +kernel
theorem dX5_howManyKept_13 : decode cX5_howManyKept 13 = .ok (.iload 4, 2) := by decide +kernel
theorem dX5_howManyKept_15 : decode cX5_howManyKept 15 = .ok (.iload_n 3, 1) := by decide +kernel
theorem dX5_howManyKept_16 : decode cX5_howManyKept 16 = .ok (.if_icmp .ge 27, 3) := by decide +kernel
theorem dX5_howManyKept_19 : decode cX5_howManyKept 19 = .ok (.aload_n 2, 1) := by decide +kernel
theorem dX5_howManyKept_20 : decode cX5_howManyKept 20 = .ok (.iload 4, 2) := by decide +kernel
theorem dX5_howManyKept_22 : decode cX5_howManyKept 22 = .ok (.aaload, 1) := by decide +kernel
theorem dX5_howManyKept_23 : decode cX5_howManyKept 23 = .ok (.astore 5, 2) := by decide +kernel
theorem dX5_howManyKept_25 : decode cX5_howManyKept 25 = .ok (.aload 5, 2) := by decide +kernel
theorem dX5_howManyKept_27 : decode cX5_howManyKept 27 = .ok (.getfield 71, 3) := by decide +kernel
theorem dX5_howManyKept_30 : decode cX5_howManyKept 30 = .ok (.iconst (-1), 1) := by decide +kernel
theorem dX5_howManyKept_31 : decode cX5_howManyKept 31 = .ok (.if_icmp .eq 6, 3) := by decide +kernel
theorem dX5_howManyKept_34 : decode cX5_howManyKept 34 = .ok (.iinc 1 1, 3) := by decide +kernel
theorem dX5_howManyKept_37 : decode cX5_howManyKept 37 = .ok (.iinc 4 1, 3) := by decide +kernel
theorem dX5_howManyKept_40 : decode cX5_howManyKept 40 = .ok (.goto (-27), 3) := by decide +kernel
theorem dX5_howManyKept_43 : decode cX5_howManyKept 43 = .ok (.iload_n 1, 1) := by decide +kernel
theorem dX5_howManyKept_44 : decode cX5_howManyKept 44 = .ok (.ireturn, 1) := by decide +kernel
theorem dJ6_bitCount_0f7a4_0 : decode cJ6_bitCount_0f7a4 0 = .ok (.iload_n 0, 1) := by decide +kernel
theorem dJ6_bitCount_0f7a4_1 : decode cJ6_bitCount_0f7a4 1 = .ok (.iload_n 0, 1) := by decide +kernel
theorem dJ6_bitCount_0f7a4_2 : decode cJ6_bitCount_0f7a4 2 = .ok (.iconst 1, 1) := by decide +kernel
theorem dJ6_bitCount_0f7a4_3 : decode cJ6_bitCount_0f7a4 3 = .ok (.iushr, 1) := by decide +kernel
theorem dJ6_bitCount_0f7a4_4 : decode cJ6_bitCount_0f7a4 4 = .ok (.ldc_w 265, 3) := by decide +kernel
theorem dJ6_bitCount_0f7a4_7 : decode cJ6_bitCount_0f7a4 7 = .ok (.iand, 1) := by decide +kernel
theorem dJ6_bitCount_0f7a4_8 : decode cJ6_bitCount_0f7a4 8 = .ok (.isub, 1) := by decide +kernel
theorem dJ6_bitCount_0f7a4_9 : decode cJ6_bitCount_0f7a4 9 = .ok (.istore_n 0, 1) := by decide +kernel
theorem dJ6_bitCount_0f7a4_10 : decode cJ6_bitCount_0f7a4 10 = .ok (.iload_n 0, 1) := by decide +kernel
theorem dJ6_bitCount_0f7a4_11 : decode cJ6_bitCount_0f7a4 11 = .ok (.ldc_w 266, 3) := by decide +kernel
theorem dJ6_bitCount_0f7a4_14 : decode cJ6_bitCount_0f7a4 14 = .ok (.iand, 1) := by decide +kernel
theorem dJ6_bitCount_0f7a4_15 : decode cJ6_bitCount_0f7a4 15 = .ok (.iload_n 0, 1) := by decide +kernel
theorem dJ6_bitCount_0f7a4_16 : decode cJ6_bitCount_0f7a4 16 = .ok (.iconst 2, 1) := by decide +kernel
theorem dJ6_bitCount_0f7a4_17 : decode cJ6_bitCount_0f7a4 17 = .ok (.iushr, 1) := by decide +kernel
theorem dJ6_bitCount_0f7a4_18 : decode cJ6_bitCount_0f7a4 18 = .ok (.ldc_w 266, 3) := by decide +kernel
theorem dJ6_bitCount_0f7a4_21 : decode cJ6_bitCount_0f7a4 21 = .ok (.iand, 1) := by decide +kernel
theorem dJ6_bitCount_0f7a4_22 : decode cJ6_bitCount_0f7a4 22 = .ok (.iadd, 1) := by decide +kernel
theorem dJ6_bitCount_0f7a4_23 : decode cJ6_bitCount_0f7a4 23 = .ok (.istore_n 0, 1) := by decide +kernel
theorem dJ6_bitCount_0f7a4_24 : decode cJ6_bitCount_0f7a4 24 = .ok (.iload_n 0, 1) := by decide +kernel
theorem dJ6_bitCount_0f7a4_25 : decode cJ6_bitCount_0f7a4 25 = .ok (.iload_n 0, 1) := by decide +kernel
theorem dJ6_bitCount_0f7a4_26 : decode cJ6_bitCount_0f7a4 26 = .ok (.iconst 4, 1) := by decide +kernel
theorem dJ6_bitCount_0f7a4_27 : decode cJ6_bitCount_0f7a4 27 = .ok (.iushr, 1) := by decide +kernel
theorem dJ6_bitCount_0f7a4_28 : decode cJ6_bitCount_0f7a4 28 = .ok (.iadd, 1) := by decide +kernel
theorem dJ6_bitCount_0f7a4_29 : decode cJ6_bitCount_0f7a4 29 = .ok (.ldc_w 267, 3) := by decide +kernel
theorem dJ6_bitCount_0f7a4_32 : decode cJ6_bitCount_0f7a4 32 = .ok (.iand, 1) := by decide +kernel
theorem dJ6_bitCount_0f7a4_33 : decode cJ6_bitCount_0f7a4 33 = .ok (.istore_n 0, 1) := by decide +kernel
theorem dJ6_bitCount_0f7a4_34 : decode cJ6_bitCount_0f7a4 34 = .ok (.iload_n 0, 1) := by decide +kernel
theorem dJ6_bitCount_0f7a4_35 : decode cJ6_bitCount_0f7a4 35 = .ok (.iload_n 0, 1) := by decide +kernel
theorem dJ6_bitCount_0f7a4_36 : decode cJ6_bitCount_0f7a4 36 = .ok (.bipush 8, 2) := by decide +kernel
theorem dJ6_bitCount_0f7a4_38 : decode cJ6_bitCount_0f7a4 38 = .ok (.iushr, 1) := by decide +kernel
theorem dJ6_bitCount_0f7a4_39 : decode cJ6_bitCount_0f7a4 39 = .ok (.iadd, 1) := by decide +kernel
theorem dJ6_bitCount_0f7a4_40 : decode cJ6_bitCount_0f7a4 40 = .ok (.istore_n 0, 1) := by decide +kernel
theorem dJ6_bitCount_0f7a4_41 : decode cJ6_bitCount_0f7a4 41 = .ok (.iload_n 0, 1) := by decide +kernel
theorem dJ6_bitCount_0f7a4_42 : decode cJ6_bitCount_0f7a4 42 = .ok (.iload_n 0, 1) := by decide +kernel
theorem dJ6_bitCount_0f7a4_43 : decode cJ6_bitCount_0f7a4 43 = .ok (.bipush 16, 2) := by decide +kernel
theorem dJ6_bitCount_0f7a4_45 : decode cJ6_bitCount_0f7a4 45 = .ok (.iushr, 1) := by decide +kernel
theorem dJ6_bitCount_0f7a4_46 : decode cJ6_bitCount_0f7a4 46 = .ok (.iadd, 1) := by decide +kernel
theorem dJ6_bitCount_0f7a4_47 : decode cJ6_bitCount_0f7a4 47 = .ok (.istore_n 0, 1) := by decide +kernel
theorem dJ6_bitCount_0f7a4_48 : decode cJ6_bitCount_0f7a4 48 = .ok (.iload_n 0, 1) := by decide +kernel
theorem dJ6_bitCount_0f7a4_49 : decode cJ6_bitCount_0f7a4 49 = .ok (.bipush 63, 2) := by decide +kernel
theorem dJ6_bitCount_0f7a4_51 : decode cJ6_bitCount_0f7a4 51 = .ok (.iand, 1) := by decide +kernel
theorem dJ6_bitCount_0f7a4_52 : decode cJ6_bitCount_0f7a4 52 = .ok (.ireturn, 1) := by decide +kernel
theorem dJ9_max_7cf53_0 : decode cJ9_max_7cf53 0 = .ok (.iload_n 0, 1) := by decide +kernel
theorem dJ9_max_7cf53_1 : decode cJ9_max_7cf53 1 = .ok (.iload_n 1, 1) := by decide +kernel
theorem dJ9_max_7cf53_2 : decode cJ9_max_7cf53 2 = .ok (.if_icmp .lt 7, 3) := by decide +kernel
theorem dJ9_max_7cf53_5 : decode cJ9_max_7cf53 5 = .ok (.iload_n 0, 1) := by decide +kernel
theorem dJ9_max_7cf53_6 : decode cJ9_max_7cf53 6 = .ok (.goto 4, 3) := by decide +kernel
theorem dJ9_max_7cf53_9 : decode cJ9_max_7cf53 9 = .ok (.iload_n 1, 1) := by decide +kernel
theorem dJ9_max_7cf53_10 : decode cJ9_max_7cf53 10 = .ok (.ireturn, 1) := by decide +kernel
theorem dJ9_min_7cf53_0 : decode cJ9_min_7cf53 0 = .ok (.iload_n 0, 1) := by decide +kernel
theorem dJ9_min_7cf53_1 : decode cJ9_min_7cf53 1 = .ok (.iload_n 1, 1) := by decide +kernel
theorem dJ9_min_7cf53_2 : decode cJ9_min_7cf53 2 = .ok (.if_icmp .gt 7, 3) := by decide +kernel
theorem dJ9_min_7cf53_5 : decode cJ9_min_7cf53 5 = .ok (.iload_n 0, 1) := by decide +kernel
theorem dJ9_min_7cf53_6 : decode cJ9_min_7cf53 6 = .ok (.goto 4, 3) := by decide +kernel
theorem dJ9_min_7cf53_9 : decode cJ9_min_7cf53 9 = .ok (.iload_n 1, 1) := by decide +kernel
theorem dJ9_min_7cf53_10 : decode cJ9_min_7cf53 10 = .ok (.ireturn, 1) := by decide +kernel
theorem dL_part_0 : decode cL_part 0 = .ok (.iload_n 0, 1) := by decide +kernel
theorem dL_part_1 : decode cL_part 1 = .ok (.ldc 7, 2) := by decide +kernel
theorem dL_part_3 : decode cL_part 3 = .ok (.iand, 1) := by decide +kernel
theorem dL_part_4 : decode cL_part 4 = .ok (.iload_n 1, 1) := by decide +kernel
theorem dL_part_5 : decode cL_part 5 = .ok (.irem, 1) := by decide +kernel
theorem dL_part_6 : decode cL_part 6 = .ok (.ireturn, 1) := by decide +kernel
theorem dL_cell_0 : decode cL_cell 0 = .ok (.aload_n 0, 1) := by decide +kernel
theorem dL_cell_1 : decode cL_cell 1 = .ok (.arraylength, 1) := by decide +kernel
theorem dL_cell_2 : decode cL_cell 2 = .ok (.ifCond .ne 13, 3) := by decide +kernel
theorem dL_cell_5 : decode cL_cell 5 = .ok (.sipush 7919, 3) := by decide +kernel
theorem dL_cell_8 : decode cL_cell 8 = .ok (.iload_n 1, 1) := by decide +kernel
theorem dL_cell_9 : decode cL_cell 9 = .ok (.imul, 1) := by decide +kernel
theorem dL_cell_10 : decode cL_cell 10 = .ok (.iconst 3, 1) := by decide +kernel
theorem dL_cell_11 : decode cL_cell 11 = .ok (.iadd, 1) := by decide +kernel
theorem dL_cell_12 : decode cL_cell 12 = .ok (.goto 27, 3) := by decide +kernel
theorem dL_cell_15 : decode cL_cell 15 = .ok (.aload_n 0, 1) := by decide +kernel
theorem dL_cell_16 : decode cL_cell 16 = .ok (.iload_n 1, 1) := by decide +kernel
theorem dL_cell_17 : decode cL_cell 17 = .ok (.aload_n 0, 1) := by decide +kernel
theorem dL_cell_18 : decode cL_cell 18 = .ok (.arraylength, 1) := by decide +kernel
theorem dL_cell_19 : decode cL_cell 19 = .ok (.irem, 1) := by decide +kernel
theorem dL_cell_20 : decode cL_cell 20 = .ok (.iaload, 1) := by decide +kernel
theorem dL_cell_21 : decode cL_cell 21 = .ok (.iload_n 1, 1) := by decide +kernel
theorem dL_cell_22 : decode cL_cell 22 = .ok (.bipush 7, 2) := by decide +kernel
theorem dL_cell_24 : decode cL_cell 24 = .ok (.irem, 1) := by decide +kernel
theorem dL_cell_25 : decode cL_cell 25 = .ok (.ishr, 1) := by decide +kernel
theorem dL_cell_26 : decode cL_cell 26 = .ok (.iload_n 1, 1) := by decide +kernel
theorem dL_cell_27 : decode cL_cell 27 = .ok (.aload_n 0, 1) := by decide +kernel
theorem dL_cell_28 : decode cL_cell 28 = .ok (.arraylength, 1) := by decide +kernel
theorem dL_cell_29 : decode cL_cell 29 = .ok (.idiv, 1) := by decide +kernel
theorem dL_cell_30 : decode cL_cell 30 = .ok (.bipush 31, 2) := by decide +kernel
theorem dL_cell_32 : decode cL_cell 32 = .ok (.imul, 1) := by decide +kernel
theorem dL_cell_33 : decode cL_cell 33 = .ok (.ixor, 1) := by decide +kernel
theorem dL_cell_34 : decode cL_cell 34 = .ok (.iload_n 1, 1) := by decide +kernel
theorem dL_cell_35 : decode cL_cell 35 = .ok (.ldc 8, 2) := by decide +kernel
theorem dL_cell_37 : decode cL_cell 37 = .ok (.imul, 1) := by decide +kernel
theorem dL_cell_38 : decode cL_cell 38 = .ok (.ixor, 1) := by decide +kernel
theorem dL_cell_39 : decode cL_cell 39 = .ok (.ireturn, 1) := by decide +kernel
theorem dL_letter_0 : decode cL_letter 0 = .ok (.iload_n 0, 1) := by decide +kernel
theorem dL_letter_1 : decode cL_letter 1 = .ok (.ifCond .ne 8, 3) := by decide +kernel
theorem dL_letter_4 : decode cL_letter 4 = .ok (.bipush 103, 2) := by decide +kernel
theorem dL_letter_6 : decode cL_letter 6 = .ok (.goto 45, 3) := by decide +kernel
theorem dL_letter_9 : decode cL_letter 9 = .ok (.iload_n 0, 1) := by decide +kernel
theorem dL_letter_10 : decode cL_letter 10 = .ok (.iconst 1, 1) := by decide +kernel
theorem dL_letter_11 : decode cL_letter 11 = .ok (.if_icmp .ne 8, 3) := by decide +kernel
theorem dL_letter_14 : decode cL_letter 14 = .ok (.bipush 100, 2) := by decide +kernel
theorem dL_letter_16 : decode cL_letter 16 = .ok (.goto 35, 3) := by decide +kernel
theorem dL_letter_19 : decode cL_letter 19 = .ok (.iload_n 0, 1) := by decide +kernel
theorem dL_letter_20 : decode cL_letter 20 = .ok (.iconst 2, 1) := by decide +kernel
theorem dL_letter_21 : decode cL_letter 21 = .ok (.if_icmp .ne 8, 3) := by decide +kernel
theorem dL_letter_24 : decode cL_letter 24 = .ok (.bipush 115, 2) := by decide +kernel
theorem dL_letter_26 : decode cL_letter 26 = .ok (.goto 25, 3) := by decide +kernel
theorem dL_letter_29 : decode cL_letter 29 = .ok (.iload_n 0, 1) := by decide +kernel
theorem dL_letter_30 : decode cL_letter 30 = .ok (.iconst 3, 1) := by decide +kernel
theorem dL_letter_31 : decode cL_letter 31 = .ok (.if_icmp .ne 8, 3) := by decide +kernel
theorem dL_letter_34 : decode cL_letter 34 = .ok (.bipush 109, 2) := by decide +kernel
theorem dL_letter_36 : decode cL_letter 36 = .ok (.goto 15, 3) := by decide +kernel
theorem dL_letter_39 : decode cL_letter 39 = .ok (.iload_n 0, 1) := by decide +kernel
theorem dL_letter_40 : decode cL_letter 40 = .ok (.iconst 4, 1) := by decide +kernel
theorem dL_letter_41 : decode cL_letter 41 = .ok (.if_icmp .ne 8, 3) := by decide +kernel
theorem dL_letter_44 : decode cL_letter 44 = .ok (.bipush 117, 2) := by decide +kernel
theorem dL_letter_46 : decode cL_letter 46 = .ok (.goto 5, 3) := by decide +kernel
theorem dL_letter_49 : decode cL_letter 49 = .ok (.bipush 121, 2) := by decide +kernel
theorem dL_letter_51 : decode cL_letter 51 = .ok (.ireturn, 1) := by decide +kernel
set_option maxRecDepth 20000 in
theorem ggL_tells_L_cell : GoodIn wsL_tells wsL_cell := goodIn_r _ [4, 5] (by decide +kernel) (by decide +kernel)
set_option maxRecDepth 20000 in
theorem gL_tells_L_cell : GoodIn wsL_tells (va_wsS RL 9 yL_cell wsL_cell) := goodIn_app (goodIn_of _ (by decide +kernel)) ggL_tells_L_cell
set_option maxRecDepth 20000 in
theorem ggL_tells_L_part : GoodIn wsL_tells wsL_part := goodIn_r _ [8, 9] (by decide +kernel) (by decide +kernel)
set_option maxRecDepth 20000 in
theorem gL_tells_L_part : GoodIn wsL_tells (va_wsS RL 15 yL_part wsL_part) := goodIn_app (goodIn_of _ (by decide +kernel)) ggL_tells_L_part
set_option maxRecDepth 20000 in
theorem ggL_tells_X5_text : GoodIn wsL_tells wsX5_text := goodIn_r _ [14, 15, 16, 17, 18, 13, 19, 20, 21, 22, 23, 24, 25, 151, 152, 153, 154, 155, 156, 157, 158, 159, 160, 161, 162, 163, 164] (by decide +kernel) (by decide +kernel)
set_option maxRecDepth 20000 in
theorem gL_tells_X5_text : GoodIn wsL_tells (wsV RL 19 RX5 yX5_text wsX5_text) := goodIn_app (goodIn_of _ (by decide +kernel)) ggL_tells_X5_text
set_option maxRecDepth 20000 in
theorem ggL_tells_X5_put : GoodIn wsL_tells wsX5_put := goodIn_r _ [29, 16, 15, 17, 18, 13, 19, 20, 21, 22, 23, 24, 25, 151, 152, 153, 154, 155, 156, 157, 158, 159, 160, 161, 162, 163, 164] (by decide +kernel) (by decide +kernel)
set_option maxRecDepth 20000 in
theorem gL_tells_X5_put : GoodIn wsL_tells (wsV RL 24 RX5 yX5_put wsX5_put) := goodIn_app (goodIn_of _ (by decide +kernel)) ggL_tells_X5_put
set_option maxRecDepth 20000 in
theorem ggL_tells_L_letter : GoodIn wsL_tells wsL_letter := goodIn_r _ [32] (by decide +kernel) (by decide +kernel)
set_option maxRecDepth 20000 in
theorem gL_tells_L_letter : GoodIn wsL_tells (va_wsS RL 28 yL_letter wsL_letter) := goodIn_app (goodIn_of _ (by decide +kernel)) ggL_tells_L_letter
set_option maxRecDepth 20000 in
theorem ggL_tells_X5_party : GoodIn wsL_tells wsX5_party := goodIn_r _ [36, 16, 37, 15, 38, 39, 40, 41, 17, 18, 13, 19, 20, 21, 22, 23, 24, 25, 42, 43, 44, 45, 46, 47, 48, 49, 50, 51, 52, 53, 54, 55, 56, 57, 58, 59, 60, 61, 62, 63, 64, 65, 66, 67, 68, 69, 70, 71, 72, 73, 74, 75, 76, 77, 78, 79, 80, 81, 82, 83, 84, 85, 86, 87, 88, 89, 90, 91, 92, 93, 94, 95, 96, 97, 98, 99, 100, 101, 102, 103, 104, 105, 106, 107, 108, 109, 110, 111, 112, 113, 114, 115, 151, 152, 153, 154, 155, 156, 157, 158, 159, 160, 161, 162, 163, 164, 165, 166, 167, 168, 169, 170, 171, 172, 173, 174, 175, 176, 177, 178] (by decide +kernel) (by decide +kernel)
set_option maxRecDepth 20000 in
theorem gL_tells_X5_party : GoodIn wsL_tells (wsV RL 32 RX5 yX5_party wsX5_party) := goodIn_app (goodIn_of _ (by decide +kernel)) ggL_tells_X5_party
set_option maxRecDepth 20000 in
theorem ggL_tells_X5_count : GoodIn wsL_tells wsX5_count := goodIn_r _ [119, 39, 40, 120, 16, 121, 103, 122, 123, 124, 125, 126, 127, 128, 129, 130, 131, 132, 133, 134, 135, 136, 137, 108, 138, 50, 139, 140, 53, 141, 142, 13, 143, 144, 145, 146, 147, 148, 149, 150, 41, 151, 152, 153, 154, 155, 156, 157, 158, 159, 160, 161, 162, 163, 164, 168, 169, 170, 171, 172, 173, 174, 165, 166, 167] (by decide +kernel) (by decide +kernel)
set_option maxRecDepth 20000 in
theorem gL_tells_X5_count : GoodIn wsL_tells (wsV RL 35 RX5 yX5_count wsX5_count) := goodIn_app (goodIn_of _ (by decide +kernel)) ggL_tells_X5_count
theorem dL_tells_0 : decode cL_tells 0 = .ok (.iconst 0, 1) := by decide +kernel
theorem dL_tells_1 : decode cL_tells 1 = .ok (.istore 5, 2) := by decide +kernel
theorem dL_tells_3 : decode cL_tells 3 = .ok (.iload 5, 2) := by decide +kernel
theorem dL_tells_5 : decode cL_tells 5 = .ok (.bipush 18, 2) := by decide +kernel
theorem dL_tells_7 : decode cL_tells 7 = .ok (.if_icmp .ge 14, 3) := by decide +kernel
theorem dL_tells_10 : decode cL_tells 10 = .ok (.aload_n 2, 1) := by decide +kernel
theorem dL_tells_11 : decode cL_tells 11 = .ok (.iload 5, 2) := by decide +kernel
theorem dL_tells_13 : decode cL_tells 13 = .ok (.iconst 0, 1) := by decide +kernel
theorem dL_tells_14 : decode cL_tells 14 = .ok (.iastore, 1) := by decide +kernel
theorem dL_tells_15 : decode cL_tells 15 = .ok (.iinc 5 1, 3) := by decide +kernel
theorem dL_tells_18 : decode cL_tells 18 = .ok (.goto (-15), 3) := by decide +kernel
theorem dL_tells_21 : decode cL_tells 21 = .ok (.iconst 0, 1) := by decide +kernel
theorem dL_tells_22 : decode cL_tells 22 = .ok (.istore 5, 2) := by decide +kernel
theorem dL_tells_24 : decode cL_tells 24 = .ok (.iload 5, 2) := by decide +kernel
theorem dL_tells_26 : decode cL_tells 26 = .ok (.bipush 7, 2) := by decide +kernel
theorem dL_tells_28 : decode cL_tells 28 = .ok (.if_icmp .ge 14, 3) := by decide +kernel
theorem dL_tells_31 : decode cL_tells 31 = .ok (.aload_n 3, 1) := by decide +kernel
theorem dL_tells_32 : decode cL_tells 32 = .ok (.iload 5, 2) := by decide +kernel
theorem dL_tells_34 : decode cL_tells 34 = .ok (.iconst 0, 1) := by decide +kernel
theorem dL_tells_35 : decode cL_tells 35 = .ok (.iastore, 1) := by decide +kernel
theorem dL_tells_36 : decode cL_tells 36 = .ok (.iinc 5 1, 3) := by decide +kernel
theorem dL_tells_39 : decode cL_tells 39 = .ok (.goto (-15), 3) := by decide +kernel
theorem dL_tells_42 : decode cL_tells 42 = .ok (.aload_n 1, 1) := by decide +kernel
theorem dL_tells_43 : decode cL_tells 43 = .ok (.iconst 0, 1) := by decide +kernel
theorem dL_tells_44 : decode cL_tells 44 = .ok (.invokestatic 9, 3) := by decide +kernel
theorem dL_tells_47 : decode cL_tells 47 = .ok (.istore 5, 2) := by decide +kernel
theorem dL_tells_49 : decode cL_tells 49 = .ok (.aload_n 2, 1) := by decide +kernel
theorem dL_tells_50 : decode cL_tells 50 = .ok (.iconst 0, 1) := by decide +kernel
theorem dL_tells_51 : decode cL_tells 51 = .ok (.iconst 1, 1) := by decide +kernel
theorem dL_tells_52 : decode cL_tells 52 = .ok (.iload 5, 2) := by decide +kernel
theorem dL_tells_54 : decode cL_tells 54 = .ok (.iload 4, 2) := by decide +kernel
theorem dL_tells_56 : decode cL_tells 56 = .ok (.invokestatic 15, 3) := by decide +kernel
theorem dL_tells_59 : decode cL_tells 59 = .ok (.iadd, 1) := by decide +kernel
theorem dL_tells_60 : decode cL_tells 60 = .ok (.iastore, 1) := by decide +kernel
theorem dL_tells_61 : decode cL_tells 61 = .ok (.aload_n 2, 1) := by decide +kernel
theorem dL_tells_62 : decode cL_tells 62 = .ok (.iconst 1, 1) := by decide +kernel
theorem dL_tells_63 : decode cL_tells 63 = .ok (.iconst 1, 1) := by decide +kernel
theorem dL_tells_64 : decode cL_tells 64 = .ok (.iload 5, 2) := by decide +kernel
theorem dL_tells_66 : decode cL_tells 66 = .ok (.iconst 4, 1) := by decide +kernel
theorem dL_tells_67 : decode cL_tells 67 = .ok (.ishr, 1) := by decide +kernel
theorem dL_tells_68 : decode cL_tells 68 = .ok (.bipush 9, 2) := by decide +kernel
theorem dL_tells_70 : decode cL_tells 70 = .ok (.invokestatic 15, 3) := by decide +kernel
theorem dL_tells_73 : decode cL_tells 73 = .ok (.iadd, 1) := by decide +kernel
theorem dL_tells_74 : decode cL_tells 74 = .ok (.iastore, 1) := by decide +kernel
theorem dL_tells_75 : decode cL_tells 75 = .ok (.aload_n 0, 1) := by decide +kernel
theorem dL_tells_76 : decode cL_tells 76 = .ok (.iconst 2, 1) := by decide +kernel
theorem dL_tells_77 : decode cL_tells 77 = .ok (.bipush 80, 2) := by decide +kernel
theorem dL_tells_79 : decode cL_tells 79 = .ok (.invokevirtual 19, 3) := by decide +kernel
theorem dL_tells_82 : decode cL_tells 82 = .ok (.bipush 80, 2) := by decide +kernel
theorem dL_tells_84 : decode cL_tells 84 = .ok (.if_icmp .ne 35, 3) := by decide +kernel
theorem dL_tells_87 : decode cL_tells 87 = .ok (.aload_n 0, 1) := by decide +kernel
theorem dL_tells_88 : decode cL_tells 88 = .ok (.iconst 2, 1) := by decide +kernel
theorem dL_tells_89 : decode cL_tells 89 = .ok (.iconst 0, 1) := by decide +kernel
theorem dL_tells_90 : decode cL_tells 90 = .ok (.bipush 99, 2) := by decide +kernel
theorem dL_tells_92 : decode cL_tells 92 = .ok (.invokevirtual 24, 3) := by decide +kernel
theorem dL_tells_95 : decode cL_tells 95 = .ok (.sipush 1032, 3) := by decide +kernel
theorem dL_tells_98 : decode cL_tells 98 = .ok (.if_icmp .ne 21, 3) := by decide +kernel
theorem dL_tells_101 : decode cL_tells 101 = .ok (.aload_n 0, 1) := by decide +kernel
theorem dL_tells_102 : decode cL_tells 102 = .ok (.iconst 2, 1) := by decide +kernel
theorem dL_tells_103 : decode cL_tells 103 = .ok (.iconst 1, 1) := by decide +kernel
theorem dL_tells_104 : decode cL_tells 104 = .ok (.bipush 48, 2) := by decide +kernel
theorem dL_tells_106 : decode cL_tells 106 = .ok (.aload_n 2, 1) := by decide +kernel
theorem dL_tells_107 : decode cL_tells 107 = .ok (.iconst 1, 1) := by decide +kernel
theorem dL_tells_108 : decode cL_tells 108 = .ok (.iaload, 1) := by decide +kernel
theorem dL_tells_109 : decode cL_tells 109 = .ok (.iadd, 1) := by decide +kernel
theorem dL_tells_110 : decode cL_tells 110 = .ok (.invokevirtual 24, 3) := by decide +kernel
theorem dL_tells_113 : decode cL_tells 113 = .ok (.sipush 1032, 3) := by decide +kernel
theorem dL_tells_116 : decode cL_tells 116 = .ok (.if_icmp .eq 5, 3) := by decide +kernel
theorem dL_tells_119 : decode cL_tells 119 = .ok (.iconst 0, 1) := by decide +kernel
theorem dL_tells_120 : decode cL_tells 120 = .ok (.ireturn, 1) := by decide +kernel
theorem dL_tells_121 : decode cL_tells 121 = .ok (.iconst 0, 1) := by decide +kernel
theorem dL_tells_122 : decode cL_tells 122 = .ok (.istore 6, 2) := by decide +kernel
theorem dL_tells_124 : decode cL_tells 124 = .ok (.iload 6, 2) := by decide +kernel
theorem dL_tells_126 : decode cL_tells 126 = .ok (.iconst 4, 1) := by decide +kernel
theorem dL_tells_127 : decode cL_tells 127 = .ok (.if_icmp .ge 58, 3) := by decide +kernel
theorem dL_tells_130 : decode cL_tells 130 = .ok (.aload_n 1, 1) := by decide +kernel
theorem dL_tells_131 : decode cL_tells 131 = .ok (.iconst 1, 1) := by decide +kernel
theorem dL_tells_132 : decode cL_tells 132 = .ok (.invokestatic 9, 3) := by decide +kernel
theorem dL_tells_135 : decode cL_tells 135 = .ok (.iconst 4, 1) := by decide +kernel
theorem dL_tells_136 : decode cL_tells 136 = .ok (.iload 6, 2) := by decide +kernel
theorem dL_tells_138 : decode cL_tells 138 = .ok (.imul, 1) := by decide +kernel
theorem dL_tells_139 : decode cL_tells 139 = .ok (.ishr, 1) := by decide +kernel
theorem dL_tells_140 : decode cL_tells 140 = .ok (.bipush 10, 2) := by decide +kernel
theorem dL_tells_142 : decode cL_tells 142 = .ok (.invokestatic 15, 3) := by decide +kernel
theorem dL_tells_145 : decode cL_tells 145 = .ok (.istore 7, 2) := by decide +kernel
theorem dL_tells_147 : decode cL_tells 147 = .ok (.aload_n 2, 1) := by decide +kernel
theorem dL_tells_148 : decode cL_tells 148 = .ok (.iconst 2, 1) := by decide +kernel
theorem dL_tells_149 : decode cL_tells 149 = .ok (.iload 6, 2) := by decide +kernel
theorem dL_tells_151 : decode cL_tells 151 = .ok (.iadd, 1) := by decide +kernel
theorem dL_tells_152 : decode cL_tells 152 = .ok (.iload 7, 2) := by decide +kernel
theorem dL_tells_154 : decode cL_tells 154 = .ok (.iconst 4, 1) := by decide +kernel
theorem dL_tells_155 : decode cL_tells 155 = .ok (.isub, 1) := by decide +kernel
theorem dL_tells_156 : decode cL_tells 156 = .ok (.iastore, 1) := by decide +kernel
theorem dL_tells_157 : decode cL_tells 157 = .ok (.aload_n 0, 1) := by decide +kernel
theorem dL_tells_158 : decode cL_tells 158 = .ok (.iconst 2, 1) := by decide +kernel
theorem dL_tells_159 : decode cL_tells 159 = .ok (.iconst 2, 1) := by decide +kernel
theorem dL_tells_160 : decode cL_tells 160 = .ok (.iload 6, 2) := by decide +kernel
theorem dL_tells_162 : decode cL_tells 162 = .ok (.iadd, 1) := by decide +kernel
theorem dL_tells_163 : decode cL_tells 163 = .ok (.bipush 48, 2) := by decide +kernel
theorem dL_tells_165 : decode cL_tells 165 = .ok (.iload 7, 2) := by decide +kernel
theorem dL_tells_167 : decode cL_tells 167 = .ok (.iadd, 1) := by decide +kernel
theorem dL_tells_168 : decode cL_tells 168 = .ok (.invokevirtual 24, 3) := by decide +kernel
theorem dL_tells_171 : decode cL_tells 171 = .ok (.sipush 1032, 3) := by decide +kernel
theorem dL_tells_174 : decode cL_tells 174 = .ok (.if_icmp .eq 5, 3) := by decide +kernel
theorem dL_tells_177 : decode cL_tells 177 = .ok (.iconst 0, 1) := by decide +kernel
theorem dL_tells_178 : decode cL_tells 178 = .ok (.ireturn, 1) := by decide +kernel
theorem dL_tells_179 : decode cL_tells 179 = .ok (.iinc 6 1, 3) := by decide +kernel
theorem dL_tells_182 : decode cL_tells 182 = .ok (.goto (-58), 3) := by decide +kernel
theorem dL_tells_185 : decode cL_tells 185 = .ok (.bipush 6, 2) := by decide +kernel
theorem dL_tells_187 : decode cL_tells 187 = .ok (.istore 6, 2) := by decide +kernel
theorem dL_tells_189 : decode cL_tells 189 = .ok (.iconst 0, 1) := by decide +kernel
theorem dL_tells_190 : decode cL_tells 190 = .ok (.istore 7, 2) := by decide +kernel
theorem dL_tells_192 : decode cL_tells 192 = .ok (.iload 7, 2) := by decide +kernel
theorem dL_tells_194 : decode cL_tells 194 = .ok (.aload_n 2, 1) := by decide +kernel
theorem dL_tells_195 : decode cL_tells 195 = .ok (.iconst 0, 1) := by decide +kernel
theorem dL_tells_196 : decode cL_tells 196 = .ok (.iaload, 1) := by decide +kernel
theorem dL_tells_197 : decode cL_tells 197 = .ok (.if_icmp .ge 125, 3) := by decide +kernel
theorem dL_tells_200 : decode cL_tells 200 = .ok (.aload_n 1, 1) := by decide +kernel
theorem dL_tells_201 : decode cL_tells 201 = .ok (.iconst 2, 1) := by decide +kernel
theorem dL_tells_202 : decode cL_tells 202 = .ok (.iload 7, 2) := by decide +kernel
theorem dL_tells_204 : decode cL_tells 204 = .ok (.iadd, 1) := by decide +kernel
theorem dL_tells_205 : decode cL_tells 205 = .ok (.invokestatic 9, 3) := by decide +kernel
theorem dL_tells_208 : decode cL_tells 208 = .ok (.istore 5, 2) := by decide +kernel
theorem dL_tells_210 : decode cL_tells 210 = .ok (.aload_n 2, 1) := by decide +kernel
theorem dL_tells_211 : decode cL_tells 211 = .ok (.bipush 6, 2) := by decide +kernel
theorem dL_tells_213 : decode cL_tells 213 = .ok (.iload 7, 2) := by decide +kernel
theorem dL_tells_215 : decode cL_tells 215 = .ok (.iadd, 1) := by decide +kernel
theorem dL_tells_216 : decode cL_tells 216 = .ok (.iload 5, 2) := by decide +kernel
theorem dL_tells_218 : decode cL_tells 218 = .ok (.bipush 6, 2) := by decide +kernel
theorem dL_tells_220 : decode cL_tells 220 = .ok (.invokestatic 15, 3) := by decide +kernel
theorem dL_tells_223 : decode cL_tells 223 = .ok (.iastore, 1) := by decide +kernel
theorem dL_tells_224 : decode cL_tells 224 = .ok (.aload_n 3, 1) := by decide +kernel
theorem dL_tells_225 : decode cL_tells 225 = .ok (.iload 7, 2) := by decide +kernel
theorem dL_tells_227 : decode cL_tells 227 = .ok (.iload 5, 2) := by decide +kernel
theorem dL_tells_229 : decode cL_tells 229 = .ok (.iconst 3, 1) := by decide +kernel
theorem dL_tells_230 : decode cL_tells 230 = .ok (.ishr, 1) := by decide +kernel
theorem dL_tells_231 : decode cL_tells 231 = .ok (.iload 5, 2) := by decide +kernel
theorem dL_tells_233 : decode cL_tells 233 = .ok (.bipush 12, 2) := by decide +kernel
theorem dL_tells_235 : decode cL_tells 235 = .ok (.ishr, 1) := by decide +kernel
theorem dL_tells_236 : decode cL_tells 236 = .ok (.iconst 2, 1) := by decide +kernel
theorem dL_tells_237 : decode cL_tells 237 = .ok (.invokestatic 15, 3) := by decide +kernel
theorem dL_tells_240 : decode cL_tells 240 = .ok (.ifCond .ne 8, 3) := by decide +kernel
theorem dL_tells_243 : decode cL_tells 243 = .ok (.bipush 10, 2) := by decide +kernel
theorem dL_tells_245 : decode cL_tells 245 = .ok (.goto 4, 3) := by decide +kernel
theorem dL_tells_248 : decode cL_tells 248 = .ok (.iconst 5, 1) := by decide +kernel
theorem dL_tells_249 : decode cL_tells 249 = .ok (.invokestatic 15, 3) := by decide +kernel
theorem dL_tells_252 : decode cL_tells 252 = .ok (.iastore, 1) := by decide +kernel
theorem dL_tells_253 : decode cL_tells 253 = .ok (.aload_n 0, 1) := by decide +kernel
theorem dL_tells_254 : decode cL_tells 254 = .ok (.iconst 2, 1) := by decide +kernel
theorem dL_tells_255 : decode cL_tells 255 = .ok (.iload 6, 2) := by decide +kernel
theorem dL_tells_257 : decode cL_tells 257 = .ok (.aload_n 2, 1) := by decide +kernel
theorem dL_tells_258 : decode cL_tells 258 = .ok (.bipush 6, 2) := by decide +kernel
theorem dL_tells_260 : decode cL_tells 260 = .ok (.iload 7, 2) := by decide +kernel
theorem dL_tells_262 : decode cL_tells 262 = .ok (.iadd, 1) := by decide +kernel
theorem dL_tells_263 : decode cL_tells 263 = .ok (.iaload, 1) := by decide +kernel
theorem dL_tells_264 : decode cL_tells 264 = .ok (.invokestatic 28, 3) := by decide +kernel
theorem dL_tells_267 : decode cL_tells 267 = .ok (.invokevirtual 24, 3) := by decide +kernel
theorem dL_tells_270 : decode cL_tells 270 = .ok (.sipush 1032, 3) := by decide +kernel
theorem dL_tells_273 : decode cL_tells 273 = .ok (.if_icmp .ne 25, 3) := by decide +kernel
theorem dL_tells_276 : decode cL_tells 276 = .ok (.aload_n 0, 1) := by decide +kernel
theorem dL_tells_277 : decode cL_tells 277 = .ok (.iconst 2, 1) := by decide +kernel
theorem dL_tells_278 : decode cL_tells 278 = .ok (.iload 6, 2) := by decide +kernel
theorem dL_tells_280 : decode cL_tells 280 = .ok (.iconst 1, 1) := by decide +kernel
theorem dL_tells_281 : decode cL_tells 281 = .ok (.iadd, 1) := by decide +kernel
theorem dL_tells_282 : decode cL_tells 282 = .ok (.bipush 48, 2) := by decide +kernel
theorem dL_tells_284 : decode cL_tells 284 = .ok (.aload_n 3, 1) := by decide +kernel
theorem dL_tells_285 : decode cL_tells 285 = .ok (.iload 7, 2) := by decide +kernel
theorem dL_tells_287 : decode cL_tells 287 = .ok (.iaload, 1) := by decide +kernel
theorem dL_tells_288 : decode cL_tells 288 = .ok (.iadd, 1) := by decide +kernel
theorem dL_tells_289 : decode cL_tells 289 = .ok (.invokevirtual 24, 3) := by decide +kernel
theorem dL_tells_292 : decode cL_tells 292 = .ok (.sipush 1032, 3) := by decide +kernel
theorem dL_tells_295 : decode cL_tells 295 = .ok (.if_icmp .eq 5, 3) := by decide +kernel
theorem dL_tells_298 : decode cL_tells 298 = .ok (.iconst 0, 1) := by decide +kernel
theorem dL_tells_299 : decode cL_tells 299 = .ok (.ireturn, 1) := by decide +kernel
theorem dL_tells_300 : decode cL_tells 300 = .ok (.iload 6, 2) := by decide +kernel
theorem dL_tells_302 : decode cL_tells 302 = .ok (.iconst 2, 1) := by decide +kernel
theorem dL_tells_303 : decode cL_tells 303 = .ok (.iload 5, 2) := by decide +kernel
theorem dL_tells_305 : decode cL_tells 305 = .ok (.bipush 8, 2) := by decide +kernel
theorem dL_tells_307 : decode cL_tells 307 = .ok (.ishr, 1) := by decide +kernel
theorem dL_tells_308 : decode cL_tells 308 = .ok (.iconst 2, 1) := by decide +kernel
theorem dL_tells_309 : decode cL_tells 309 = .ok (.invokestatic 15, 3) := by decide +kernel
theorem dL_tells_312 : decode cL_tells 312 = .ok (.iadd, 1) := by decide +kernel
theorem dL_tells_313 : decode cL_tells 313 = .ok (.iadd, 1) := by decide +kernel
theorem dL_tells_314 : decode cL_tells 314 = .ok (.istore 6, 2) := by decide +kernel
theorem dL_tells_316 : decode cL_tells 316 = .ok (.iinc 7 1, 3) := by decide +kernel
theorem dL_tells_319 : decode cL_tells 319 = .ok (.goto (-127), 3) := by decide +kernel
theorem dL_tells_322 : decode cL_tells 322 = .ok (.iconst 0, 1) := by decide +kernel
theorem dL_tells_323 : decode cL_tells 323 = .ok (.istore 7, 2) := by decide +kernel
theorem dL_tells_325 : decode cL_tells 325 = .ok (.iconst 0, 1) := by decide +kernel
theorem dL_tells_326 : decode cL_tells 326 = .ok (.istore 8, 2) := by decide +kernel
theorem dL_tells_328 : decode cL_tells 328 = .ok (.iload 8, 2) := by decide +kernel
theorem dL_tells_330 : decode cL_tells 330 = .ok (.bipush 36, 2) := by decide +kernel
theorem dL_tells_332 : decode cL_tells 332 = .ok (.if_icmp .ge 155, 3) := by decide +kernel
theorem dL_tells_335 : decode cL_tells 335 = .ok (.iload 7, 2) := by decide +kernel
theorem dL_tells_337 : decode cL_tells 337 = .ok (.bipush 14, 2) := by decide +kernel
theorem dL_tells_339 : decode cL_tells 339 = .ok (.if_icmp .ge 148, 3) := by decide +kernel
theorem dL_tells_342 : decode cL_tells 342 = .ok (.iload 8, 2) := by decide +kernel
theorem dL_tells_344 : decode cL_tells 344 = .ok (.bipush 6, 2) := by decide +kernel
theorem dL_tells_346 : decode cL_tells 346 = .ok (.idiv, 1) := by decide +kernel
theorem dL_tells_347 : decode cL_tells 347 = .ok (.istore 9, 2) := by decide +kernel
theorem dL_tells_349 : decode cL_tells 349 = .ok (.iload 8, 2) := by decide +kernel
theorem dL_tells_351 : decode cL_tells 351 = .ok (.bipush 6, 2) := by decide +kernel
theorem dL_tells_353 : decode cL_tells 353 = .ok (.irem, 1) := by decide +kernel
theorem dL_tells_354 : decode cL_tells 354 = .ok (.istore 10, 2) := by decide +kernel
theorem dL_tells_356 : decode cL_tells 356 = .ok (.iload 9, 2) := by decide +kernel
theorem dL_tells_358 : decode cL_tells 358 = .ok (.iload 10, 2) := by decide +kernel
theorem dL_tells_360 : decode cL_tells 360 = .ok (.if_icmp .eq 121, 3) := by decide +kernel
theorem dL_tells_363 : decode cL_tells 363 = .ok (.iload 9, 2) := by decide +kernel
theorem dL_tells_365 : decode cL_tells 365 = .ok (.aload_n 2, 1) := by decide +kernel
theorem dL_tells_366 : decode cL_tells 366 = .ok (.iconst 0, 1) := by decide +kernel
theorem dL_tells_367 : decode cL_tells 367 = .ok (.iaload, 1) := by decide +kernel
theorem dL_tells_368 : decode cL_tells 368 = .ok (.if_icmp .ge 113, 3) := by decide +kernel
theorem dL_tells_371 : decode cL_tells 371 = .ok (.iload 10, 2) := by decide +kernel
theorem dL_tells_373 : decode cL_tells 373 = .ok (.aload_n 2, 1) := by decide +kernel
theorem dL_tells_374 : decode cL_tells 374 = .ok (.iconst 0, 1) := by decide +kernel
theorem dL_tells_375 : decode cL_tells 375 = .ok (.iaload, 1) := by decide +kernel
theorem dL_tells_376 : decode cL_tells 376 = .ok (.if_icmp .ge 105, 3) := by decide +kernel
theorem dL_tells_379 : decode cL_tells 379 = .ok (.aload_n 1, 1) := by decide +kernel
theorem dL_tells_380 : decode cL_tells 380 = .ok (.bipush 8, 2) := by decide +kernel
theorem dL_tells_382 : decode cL_tells 382 = .ok (.iload 9, 2) := by decide +kernel
theorem dL_tells_384 : decode cL_tells 384 = .ok (.iadd, 1) := by decide +kernel
theorem dL_tells_385 : decode cL_tells 385 = .ok (.invokestatic 9, 3) := by decide +kernel
theorem dL_tells_388 : decode cL_tells 388 = .ok (.iconst 2, 1) := by decide +kernel
theorem dL_tells_389 : decode cL_tells 389 = .ok (.iload 10, 2) := by decide +kernel
theorem dL_tells_391 : decode cL_tells 391 = .ok (.imul, 1) := by decide +kernel
theorem dL_tells_392 : decode cL_tells 392 = .ok (.ishr, 1) := by decide +kernel
theorem dL_tells_393 : decode cL_tells 393 = .ok (.iconst 4, 1) := by decide +kernel
theorem dL_tells_394 : decode cL_tells 394 = .ok (.invokestatic 15, 3) := by decide +kernel
theorem dL_tells_397 : decode cL_tells 397 = .ok (.iconst 1, 1) := by decide +kernel
theorem dL_tells_398 : decode cL_tells 398 = .ok (.if_icmp .le 6, 3) := by decide +kernel
theorem dL_tells_401 : decode cL_tells 401 = .ok (.goto 80, 3) := by decide +kernel
theorem dL_tells_404 : decode cL_tells 404 = .ok (.aload_n 2, 1) := by decide +kernel
theorem dL_tells_405 : decode cL_tells 405 = .ok (.bipush 12, 2) := by decide +kernel
theorem dL_tells_407 : decode cL_tells 407 = .ok (.iload 9, 2) := by decide +kernel
theorem dL_tells_409 : decode cL_tells 409 = .ok (.iadd, 1) := by decide +kernel
theorem dL_tells_410 : decode cL_tells 410 = .ok (.dup2, 1) := by decide +kernel
theorem dL_tells_411 : decode cL_tells 411 = .ok (.iaload, 1) := by decide +kernel
theorem dL_tells_412 : decode cL_tells 412 = .ok (.iconst 1, 1) := by decide +kernel
theorem dL_tells_413 : decode cL_tells 413 = .ok (.iload 10, 2) := by decide +kernel
theorem dL_tells_415 : decode cL_tells 415 = .ok (.ishl, 1) := by decide +kernel
theorem dL_tells_416 : decode cL_tells 416 = .ok (.ior, 1) := by decide +kernel
theorem dL_tells_417 : decode cL_tells 417 = .ok (.iastore, 1) := by decide +kernel
theorem dL_tells_418 : decode cL_tells 418 = .ok (.aload_n 0, 1) := by decide +kernel
theorem dL_tells_419 : decode cL_tells 419 = .ok (.iconst 2, 1) := by decide +kernel
theorem dL_tells_420 : decode cL_tells 420 = .ok (.iload 6, 2) := by decide +kernel
theorem dL_tells_422 : decode cL_tells 422 = .ok (.bipush 120, 2) := by decide +kernel
theorem dL_tells_424 : decode cL_tells 424 = .ok (.invokevirtual 24, 3) := by decide +kernel
theorem dL_tells_427 : decode cL_tells 427 = .ok (.sipush 1032, 3) := by decide +kernel
theorem dL_tells_430 : decode cL_tells 430 = .ok (.if_icmp .ne 43, 3) := by decide +kernel
theorem dL_tells_433 : decode cL_tells 433 = .ok (.aload_n 0, 1) := by decide +kernel
theorem dL_tells_434 : decode cL_tells 434 = .ok (.iconst 2, 1) := by decide +kernel
theorem dL_tells_435 : decode cL_tells 435 = .ok (.iload 6, 2) := by decide +kernel
theorem dL_tells_437 : decode cL_tells 437 = .ok (.iconst 1, 1) := by decide +kernel
theorem dL_tells_438 : decode cL_tells 438 = .ok (.iadd, 1) := by decide +kernel
theorem dL_tells_439 : decode cL_tells 439 = .ok (.bipush 48, 2) := by decide +kernel
theorem dL_tells_441 : decode cL_tells 441 = .ok (.iload 9, 2) := by decide +kernel
theorem dL_tells_443 : decode cL_tells 443 = .ok (.iadd, 1) := by decide +kernel
theorem dL_tells_444 : decode cL_tells 444 = .ok (.invokevirtual 24, 3) := by decide +kernel
theorem dL_tells_447 : decode cL_tells 447 = .ok (.sipush 1032, 3) := by decide +kernel
theorem dL_tells_450 : decode cL_tells 450 = .ok (.if_icmp .ne 23, 3) := by decide +kernel
theorem dL_tells_453 : decode cL_tells 453 = .ok (.aload_n 0, 1) := by decide +kernel
theorem dL_tells_454 : decode cL_tells 454 = .ok (.iconst 2, 1) := by decide +kernel
theorem dL_tells_455 : decode cL_tells 455 = .ok (.iload 6, 2) := by decide +kernel
theorem dL_tells_457 : decode cL_tells 457 = .ok (.iconst 2, 1) := by decide +kernel
theorem dL_tells_458 : decode cL_tells 458 = .ok (.iadd, 1) := by decide +kernel
theorem dL_tells_459 : decode cL_tells 459 = .ok (.bipush 48, 2) := by decide +kernel
theorem dL_tells_461 : decode cL_tells 461 = .ok (.iload 10, 2) := by decide +kernel
theorem dL_tells_463 : decode cL_tells 463 = .ok (.iadd, 1) := by decide +kernel
theorem dL_tells_464 : decode cL_tells 464 = .ok (.invokevirtual 24, 3) := by decide +kernel
theorem dL_tells_467 : decode cL_tells 467 = .ok (.sipush 1032, 3) := by decide +kernel
theorem dL_tells_470 : decode cL_tells 470 = .ok (.if_icmp .eq 5, 3) := by decide +kernel
theorem dL_tells_473 : decode cL_tells 473 = .ok (.iconst 0, 1) := by decide +kernel
theorem dL_tells_474 : decode cL_tells 474 = .ok (.ireturn, 1) := by decide +kernel
theorem dL_tells_475 : decode cL_tells 475 = .ok (.iinc 6 3, 3) := by decide +kernel
theorem dL_tells_478 : decode cL_tells 478 = .ok (.iinc 7 1, 3) := by decide +kernel
theorem dL_tells_481 : decode cL_tells 481 = .ok (.iinc 8 1, 3) := by decide +kernel
theorem dL_tells_484 : decode cL_tells 484 = .ok (.goto (-156), 3) := by decide +kernel
theorem dL_tells_487 : decode cL_tells 487 = .ok (.aload_n 0, 1) := by decide +kernel
theorem dL_tells_488 : decode cL_tells 488 = .ok (.iconst 2, 1) := by decide +kernel
theorem dL_tells_489 : decode cL_tells 489 = .ok (.invokevirtual 32, 3) := by decide +kernel
theorem dL_tells_492 : decode cL_tells 492 = .ok (.aload_n 2, 1) := by decide +kernel
theorem dL_tells_493 : decode cL_tells 493 = .ok (.iconst 0, 1) := by decide +kernel
theorem dL_tells_494 : decode cL_tells 494 = .ok (.iaload, 1) := by decide +kernel
theorem dL_tells_495 : decode cL_tells 495 = .ok (.if_icmp .ne 57, 3) := by decide +kernel
theorem dL_tells_498 : decode cL_tells 498 = .ok (.aload_n 0, 1) := by decide +kernel
theorem dL_tells_499 : decode cL_tells 499 = .ok (.iconst 0, 1) := by decide +kernel
theorem dL_tells_500 : decode cL_tells 500 = .ok (.invokevirtual 35, 3) := by decide +kernel
theorem dL_tells_503 : decode cL_tells 503 = .ok (.aload_n 2, 1) := by decide +kernel
theorem dL_tells_504 : decode cL_tells 504 = .ok (.iconst 0, 1) := by decide +kernel
theorem dL_tells_505 : decode cL_tells 505 = .ok (.iaload, 1) := by decide +kernel
theorem dL_tells_506 : decode cL_tells 506 = .ok (.if_icmp .ne 46, 3) := by decide +kernel
theorem dL_tells_509 : decode cL_tells 509 = .ok (.aload_n 0, 1) := by decide +kernel
theorem dL_tells_510 : decode cL_tells 510 = .ok (.iconst 1, 1) := by decide +kernel
theorem dL_tells_511 : decode cL_tells 511 = .ok (.invokevirtual 35, 3) := by decide +kernel
theorem dL_tells_514 : decode cL_tells 514 = .ok (.aload_n 2, 1) := by decide +kernel
theorem dL_tells_515 : decode cL_tells 515 = .ok (.iconst 1, 1) := by decide +kernel
theorem dL_tells_516 : decode cL_tells 516 = .ok (.iaload, 1) := by decide +kernel
theorem dL_tells_517 : decode cL_tells 517 = .ok (.if_icmp .ne 35, 3) := by decide +kernel
theorem dL_tells_520 : decode cL_tells 520 = .ok (.aload_n 0, 1) := by decide +kernel
theorem dL_tells_521 : decode cL_tells 521 = .ok (.iconst 2, 1) := by decide +kernel
theorem dL_tells_522 : decode cL_tells 522 = .ok (.invokevirtual 35, 3) := by decide +kernel
theorem dL_tells_525 : decode cL_tells 525 = .ok (.ifCond .ne 27, 3) := by decide +kernel
theorem dL_tells_528 : decode cL_tells 528 = .ok (.aload_n 0, 1) := by decide +kernel
theorem dL_tells_529 : decode cL_tells 529 = .ok (.iconst 3, 1) := by decide +kernel
theorem dL_tells_530 : decode cL_tells 530 = .ok (.invokevirtual 35, 3) := by decide +kernel
theorem dL_tells_533 : decode cL_tells 533 = .ok (.aload_n 2, 1) := by decide +kernel
theorem dL_tells_534 : decode cL_tells 534 = .ok (.iconst 0, 1) := by decide +kernel
theorem dL_tells_535 : decode cL_tells 535 = .ok (.iaload, 1) := by decide +kernel
theorem dL_tells_536 : decode cL_tells 536 = .ok (.if_icmp .ne 16, 3) := by decide +kernel
theorem dL_tells_539 : decode cL_tells 539 = .ok (.aload_n 0, 1) := by decide +kernel
theorem dL_tells_540 : decode cL_tells 540 = .ok (.bipush 9, 2) := by decide +kernel
theorem dL_tells_542 : decode cL_tells 542 = .ok (.invokevirtual 35, 3) := by decide +kernel
theorem dL_tells_545 : decode cL_tells 545 = .ok (.ifCond .ne 7, 3) := by decide +kernel
theorem dL_tells_548 : decode cL_tells 548 = .ok (.iconst 1, 1) := by decide +kernel
theorem dL_tells_549 : decode cL_tells 549 = .ok (.goto 4, 3) := by decide +kernel
theorem dL_tells_552 : decode cL_tells 552 = .ok (.iconst 0, 1) := by decide +kernel
theorem dL_tells_553 : decode cL_tells 553 = .ok (.ireturn, 1) := by decide +kernel
theorem dL_bound_0 : decode cL_bound 0 = .ok (.iload_n 0, 1) := by decide +kernel
theorem dL_bound_1 : decode cL_bound 1 = .ok (.bipush 20, 2) := by decide +kernel
theorem dL_bound_3 : decode cL_bound 3 = .ok (.if_icmp .le 8, 3) := by decide +kernel
theorem dL_bound_6 : decode cL_bound 6 = .ok (.bipush 20, 2) := by decide +kernel
theorem dL_bound_8 : decode cL_bound 8 = .ok (.goto 12, 3) := by decide +kernel
theorem dL_bound_11 : decode cL_bound 11 = .ok (.iload_n 0, 1) := by decide +kernel
theorem dL_bound_12 : decode cL_bound 12 = .ok (.ifCond .ge 7, 3) := by decide +kernel
theorem dL_bound_15 : decode cL_bound 15 = .ok (.iconst 0, 1) := by decide +kernel
theorem dL_bound_16 : decode cL_bound 16 = .ok (.goto 4, 3) := by decide +kernel
theorem dL_bound_19 : decode cL_bound 19 = .ok (.iload_n 0, 1) := by decide +kernel
theorem dL_bound_20 : decode cL_bound 20 = .ok (.ireturn, 1) := by decide +kernel
set_option maxRecDepth 20000 in
theorem ggL_behind_L_bound : GoodIn wsL_behind wsL_bound := goodIn_r _ [4] (by decide +kernel) (by decide +kernel)
set_option maxRecDepth 20000 in
theorem gL_behind_L_bound : GoodIn wsL_behind (va_wsS RL 38 yL_bound wsL_bound) := goodIn_app (goodIn_of _ (by decide +kernel)) ggL_behind_L_bound
theorem dL_behind_0 : decode cL_behind 0 = .ok (.iload_n 0, 1) := by decide +kernel
theorem dL_behind_1 : decode cL_behind 1 = .ok (.iconst 4, 1) := by decide +kernel
theorem dL_behind_2 : decode cL_behind 2 = .ok (.if_icmp .ne 10, 3) := by decide +kernel
theorem dL_behind_5 : decode cL_behind 5 = .ok (.iload_n 2, 1) := by decide +kernel
theorem dL_behind_6 : decode cL_behind 6 = .ok (.iconst 1, 1) := by decide +kernel
theorem dL_behind_7 : decode cL_behind 7 = .ok (.if_icmp .ne 5, 3) := by decide +kernel
theorem dL_behind_10 : decode cL_behind 10 = .ok (.iconst 0, 1) := by decide +kernel
theorem dL_behind_11 : decode cL_behind 11 = .ok (.ireturn, 1) := by decide +kernel
theorem dL_behind_12 : decode cL_behind 12 = .ok (.iload_n 2, 1) := by decide +kernel
theorem dL_behind_13 : decode cL_behind 13 = .ok (.iconst 1, 1) := by decide +kernel
theorem dL_behind_14 : decode cL_behind 14 = .ok (.if_icmp .eq 8, 3) := by decide +kernel
theorem dL_behind_17 : decode cL_behind 17 = .ok (.iload_n 2, 1) := by decide +kernel
theorem dL_behind_18 : decode cL_behind 18 = .ok (.iconst 2, 1) := by decide +kernel
theorem dL_behind_19 : decode cL_behind 19 = .ok (.if_icmp .ne 7, 3) := by decide +kernel
theorem dL_behind_22 : decode cL_behind 22 = .ok (.iconst 1, 1) := by decide +kernel
theorem dL_behind_23 : decode cL_behind 23 = .ok (.goto 4, 3) := by decide +kernel
theorem dL_behind_26 : decode cL_behind 26 = .ok (.iconst 0, 1) := by decide +kernel
theorem dL_behind_27 : decode cL_behind 27 = .ok (.istore 4, 2) := by decide +kernel
theorem dL_behind_29 : decode cL_behind 29 = .ok (.iload_n 0, 1) := by decide +kernel
theorem dL_behind_30 : decode cL_behind 30 = .ok (.iconst 1, 1) := by decide +kernel
theorem dL_behind_31 : decode cL_behind 31 = .ok (.if_icmp .eq 8, 3) := by decide +kernel
theorem dL_behind_34 : decode cL_behind 34 = .ok (.iload_n 0, 1) := by decide +kernel
theorem dL_behind_35 : decode cL_behind 35 = .ok (.iconst 4, 1) := by decide +kernel
theorem dL_behind_36 : decode cL_behind 36 = .ok (.if_icmp .ne 17, 3) := by decide +kernel
theorem dL_behind_39 : decode cL_behind 39 = .ok (.iload 4, 2) := by decide +kernel
theorem dL_behind_41 : decode cL_behind 41 = .ok (.ifCond .eq 12, 3) := by decide +kernel
theorem dL_behind_44 : decode cL_behind 44 = .ok (.iload_n 1, 1) := by decide +kernel
theorem dL_behind_45 : decode cL_behind 45 = .ok (.iload_n 3, 1) := by decide +kernel
theorem dL_behind_46 : decode cL_behind 46 = .ok (.iadd, 1) := by decide +kernel
theorem dL_behind_47 : decode cL_behind 47 = .ok (.iconst 1, 1) := by decide +kernel
theorem dL_behind_48 : decode cL_behind 48 = .ok (.isub, 1) := by decide +kernel
theorem dL_behind_49 : decode cL_behind 49 = .ok (.invokestatic 38, 3) := by decide +kernel
theorem dL_behind_52 : decode cL_behind 52 = .ok (.ireturn, 1) := by decide +kernel
theorem dL_behind_53 : decode cL_behind 53 = .ok (.iload_n 0, 1) := by decide +kernel
theorem dL_behind_54 : decode cL_behind 54 = .ok (.iconst 2, 1) := by decide +kernel
theorem dL_behind_55 : decode cL_behind 55 = .ok (.if_icmp .eq 8, 3) := by decide +kernel
theorem dL_behind_58 : decode cL_behind 58 = .ok (.iload_n 0, 1) := by decide +kernel
theorem dL_behind_59 : decode cL_behind 59 = .ok (.iconst 5, 1) := by decide +kernel
theorem dL_behind_60 : decode cL_behind 60 = .ok (.if_icmp .ne 15, 3) := by decide +kernel
theorem dL_behind_63 : decode cL_behind 63 = .ok (.iload_n 3, 1) := by decide +kernel
theorem dL_behind_64 : decode cL_behind 64 = .ok (.iconst 1, 1) := by decide +kernel
theorem dL_behind_65 : decode cL_behind 65 = .ok (.if_icmp .le 10, 3) := by decide +kernel
theorem dL_behind_68 : decode cL_behind 68 = .ok (.iload_n 1, 1) := by decide +kernel
theorem dL_behind_69 : decode cL_behind 69 = .ok (.iconst 1, 1) := by decide +kernel
theorem dL_behind_70 : decode cL_behind 70 = .ok (.iadd, 1) := by decide +kernel
theorem dL_behind_71 : decode cL_behind 71 = .ok (.invokestatic 38, 3) := by decide +kernel
theorem dL_behind_74 : decode cL_behind 74 = .ok (.ireturn, 1) := by decide +kernel
theorem dL_behind_75 : decode cL_behind 75 = .ok (.iload_n 0, 1) := by decide +kernel
theorem dL_behind_76 : decode cL_behind 76 = .ok (.iconst 3, 1) := by decide +kernel
theorem dL_behind_77 : decode cL_behind 77 = .ok (.if_icmp .ne 16, 3) := by decide +kernel
theorem dL_behind_80 : decode cL_behind 80 = .ok (.iload_n 3, 1) := by decide +kernel
theorem dL_behind_81 : decode cL_behind 81 = .ok (.ifCond .le 12, 3) := by decide +kernel
theorem dL_behind_84 : decode cL_behind 84 = .ok (.iload_n 1, 1) := by decide +kernel
theorem dL_behind_85 : decode cL_behind 85 = .ok (.iload_n 3, 1) := by decide +kernel
theorem dL_behind_86 : decode cL_behind 86 = .ok (.iadd, 1) := by decide +kernel
theorem dL_behind_87 : decode cL_behind 87 = .ok (.iload_n 3, 1) := by decide +kernel
theorem dL_behind_88 : decode cL_behind 88 = .ok (.iadd, 1) := by decide +kernel
theorem dL_behind_89 : decode cL_behind 89 = .ok (.invokestatic 38, 3) := by decide +kernel
theorem dL_behind_92 : decode cL_behind 92 = .ok (.ireturn, 1) := by decide +kernel
theorem dL_behind_93 : decode cL_behind 93 = .ok (.iload_n 1, 1) := by decide +kernel
theorem dL_behind_94 : decode cL_behind 94 = .ok (.iload_n 3, 1) := by decide +kernel
