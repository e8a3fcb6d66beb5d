set_option maxRecDepth 20000 in
theorem ggX5_first_X5_isRow : GoodIn wsX5_first wsX5_isRow := goodIn_r _ [6] (by decide +kernel) (by decide +kernel)
set_option maxRecDepth 20000 in
theorem gX5_first_X5_isRow : GoodIn wsX5_first (va_wsS RX5 74 yX5_isRow wsX5_isRow) := goodIn_app (goodIn_of _ (by decide +kernel)) ggX5_first_X5_isRow
set_option maxRecDepth 20000 in
theorem ggX5_first_X5_searchRefusal : GoodIn wsX5_first wsX5_searchRefusal := goodIn_r _ [10, 1, 85, 86, 87, 88, 89, 90, 91, 92, 93, 94, 95, 96, 97, 98, 102, 103, 104, 105, 106, 107, 108] (by decide +kernel) (by decide +kernel)
set_option maxRecDepth 20000 in
theorem gX5_first_X5_searchRefusal : GoodIn wsX5_first (wsV RX5 198 RX5 yX5_searchRefusal wsX5_searchRefusal) := goodIn_app (goodIn_of _ (by decide +kernel)) ggX5_first_X5_searchRefusal
set_option maxRecDepth 20000 in
theorem ggX5_first_X1_howManyIn : GoodIn wsX5_first wsX1_howManyIn := goodIn_r _ [13, 14, 15, 12, 16, 17, 18, 19, 20, 21, 22, 23] (by decide +kernel) (by decide +kernel)
set_option maxRecDepth 20000 in
theorem gX5_first_X1_howManyIn_n207 : GoodIn wsX5_first (wsX1_howManyIn) := ggX5_first_X1_howManyIn
set_option maxRecDepth 20000 in
theorem ggX5_first_X3_firstLeaving : GoodIn wsX5_first wsX3_firstLeaving := goodIn_r _ [26, 11, 12, 13, 14, 15, 16, 17, 18, 19, 20, 21, 22, 23, 27, 28, 29, 30, 31, 32, 33, 34, 35, 36, 37, 38, 39, 40, 41, 42, 43, 44, 45, 46, 47, 48, 49, 50, 51, 52, 53, 54, 55, 56, 57, 58, 59, 60, 61, 62, 63, 64, 65, 66, 67, 68, 69, 70, 71, 72, 73, 74, 24, 25, 102, 103, 104, 105, 106, 107, 108] (by decide +kernel) (by decide +kernel)
set_option maxRecDepth 20000 in
theorem gX5_first_X3_firstLeaving_n210 : GoodIn wsX5_first (wsX3_firstLeaving) := ggX5_first_X3_firstLeaving
set_option maxRecDepth 20000 in
theorem ggX5_first_X5_makeProgramme : GoodIn wsX5_first wsX5_makeProgramme := goodIn_r _ [78, 79, 80, 81, 82, 5, 83, 84, 85, 86, 87, 88, 89, 90, 91, 92, 93, 94, 95, 96, 97, 98] (by decide +kernel) (by decide +kernel)
set_option maxRecDepth 20000 in
theorem gX5_first_X5_makeProgramme : GoodIn wsX5_first (wsV RX5 214 RX5 yX5_makeProgramme wsX5_makeProgramme) := goodIn_app (goodIn_of _ (by decide +kernel)) ggX5_first_X5_makeProgramme
theorem dX5_first_0 : decode cX5_first 0 = .ok (.iload_n 2, 1) := by decide +kernel
theorem dX5_first_1 : decode cX5_first 1 = .ok (.invokestatic 74, 3) := by decide +kernel
theorem dX5_first_4 : decode cX5_first 4 = .ok (.ifCond .eq 11, 3) := by decide +kernel
theorem dX5_first_7 : decode cX5_first 7 = .ok (.aload_n 0, 1) := by decide +kernel
theorem dX5_first_8 : decode cX5_first 8 = .ok (.iload_n 1, 1) := by decide +kernel
theorem dX5_first_9 : decode cX5_first 9 = .ok (.invokevirtual 198, 3) := by decide +kernel
theorem dX5_first_12 : decode cX5_first 12 = .ok (.goto 4, 3) := by decide +kernel
theorem dX5_first_15 : decode cX5_first 15 = .ok (.iconst (-1), 1) := by decide +kernel
theorem dX5_first_16 : decode cX5_first 16 = .ok (.istore_n 3, 1) := by decide +kernel
theorem dX5_first_17 : decode cX5_first 17 = .ok (.iload_n 3, 1) := by decide +kernel
theorem dX5_first_18 : decode cX5_first 18 = .ok (.ifCond .eq 5, 3) := by decide +kernel
theorem dX5_first_21 : decode cX5_first 21 = .ok (.iload_n 3, 1) := by decide +kernel
theorem dX5_first_22 : decode cX5_first 22 = .ok (.ireturn, 1) := by decide +kernel
theorem dX5_first_23 : decode cX5_first 23 = .ok (.aload_n 0, 1) := by decide +kernel
theorem dX5_first_24 : decode cX5_first 24 = .ok (.getfield 36, 3) := by decide +kernel
theorem dX5_first_27 : decode cX5_first 27 = .ok (.aload_n 0, 1) := by decide +kernel
theorem dX5_first_28 : decode cX5_first 28 = .ok (.getfield 46, 3) := by decide +kernel
theorem dX5_first_31 : decode cX5_first 31 = .ok (.getfield 127, 3) := by decide +kernel
theorem dX5_first_34 : decode cX5_first 34 = .ok (.iload_n 1, 1) := by decide +kernel
theorem dX5_first_35 : decode cX5_first 35 = .ok (.aload_n 0, 1) := by decide +kernel
theorem dX5_first_36 : decode cX5_first 36 = .ok (.getfield 46, 3) := by decide +kernel
theorem dX5_first_39 : decode cX5_first 39 = .ok (.getfield 127, 3) := by decide +kernel
theorem dX5_first_42 : decode cX5_first 42 = .ok (.invokestatic 207, 3) := by decide +kernel
theorem dX5_first_45 : decode cX5_first 45 = .ok (.iconst 0, 1) := by decide +kernel
theorem dX5_first_46 : decode cX5_first 46 = .ok (.invokestatic 210, 3) := by decide +kernel
theorem dX5_first_49 : decode cX5_first 49 = .ok (.istore 4, 2) := by decide +kernel
theorem dX5_first_51 : decode cX5_first 51 = .ok (.iload 4, 2) := by decide +kernel
theorem dX5_first_53 : decode cX5_first 53 = .ok (.bipush (-9), 2) := by decide +kernel
theorem dX5_first_55 : decode cX5_first 55 = .ok (.if_icmp .ne 6, 3) := by decide +kernel
theorem dX5_first_58 : decode cX5_first 58 = .ok (.bipush (-9), 2) := by decide +kernel
theorem dX5_first_60 : decode cX5_first 60 = .ok (.ireturn, 1) := by decide +kernel
theorem dX5_first_61 : decode cX5_first 61 = .ok (.aload_n 0, 1) := by decide +kernel
theorem dX5_first_62 : decode cX5_first 62 = .ok (.iload_n 2, 1) := by decide +kernel
theorem dX5_first_63 : decode cX5_first 63 = .ok (.iload_n 1, 1) := by decide +kernel
theorem dX5_first_64 : decode cX5_first 64 = .ok (.iload 4, 2) := by decide +kernel
theorem dX5_first_66 : decode cX5_first 66 = .ok (.invokevirtual 214, 3) := by decide +kernel
theorem dX5_first_69 : decode cX5_first 69 = .ok (.iload_n 1, 1) := by decide +kernel
theorem dX5_first_70 : decode cX5_first 70 = .ok (.ireturn, 1) := by decide +kernel
set_option maxRecDepth 20000 in
theorem ggX5_fewest_X5_isRow : GoodIn wsX5_fewest wsX5_isRow := goodIn_r _ [6] (by decide +kernel) (by decide +kernel)
set_option maxRecDepth 20000 in
theorem gX5_fewest_X5_isRow : GoodIn wsX5_fewest (va_wsS RX5 74 yX5_isRow wsX5_isRow) := goodIn_app (goodIn_of _ (by decide +kernel)) ggX5_fewest_X5_isRow
set_option maxRecDepth 20000 in
theorem ggX5_fewest_X5_searchRefusal : GoodIn wsX5_fewest wsX5_searchRefusal := goodIn_r _ [10, 1, 89, 90, 91, 92, 93, 94, 95, 96, 97, 98, 99, 100, 101, 102, 106, 107, 108, 109, 110, 111, 112] (by decide +kernel) (by decide +kernel)
set_option maxRecDepth 20000 in
theorem gX5_fewest_X5_searchRefusal : GoodIn wsX5_fewest (wsV RX5 198 RX5 yX5_searchRefusal wsX5_searchRefusal) := goodIn_app (goodIn_of _ (by decide +kernel)) ggX5_fewest_X5_searchRefusal
set_option maxRecDepth 20000 in
theorem ggX5_fewest_X3_mostLeft : GoodIn wsX5_fewest wsX3_mostLeft := goodIn_r _ [13, 14, 15, 16, 17, 18, 19, 20, 21, 22, 23, 24, 25, 26, 27, 28, 29, 30, 31, 32, 33, 34, 35, 36, 37, 38, 39, 40, 41, 42, 43, 44, 45, 46, 47, 48, 49, 50, 51, 52, 53, 54, 55, 56, 57, 58, 59, 60, 61, 62, 63, 64, 65, 66, 67, 68, 69, 70, 71, 72, 73, 74, 75, 11, 12, 106, 107, 108, 109, 110, 111, 112] (by decide +kernel) (by decide +kernel)
set_option maxRecDepth 20000 in
theorem gX5_fewest_X3_mostLeft_n218 : GoodIn wsX5_fewest (wsX3_mostLeft) := ggX5_fewest_X3_mostLeft
set_option maxRecDepth 20000 in
theorem ggX5_fewest_X3_firstLeaving : GoodIn wsX5_fewest wsX3_firstLeaving := goodIn_r _ [77, 18, 19, 20, 21, 22, 23, 24, 25, 26, 27, 28, 29, 30, 31, 32, 33, 34, 35, 36, 37, 38, 39, 40, 41, 42, 43, 44, 45, 46, 47, 48, 49, 50, 16, 51, 52, 53, 54, 55, 56, 57, 58, 15, 17, 59, 60, 61, 62, 63, 64, 65, 66, 67, 68, 69, 70, 71, 72, 73, 74, 78, 76, 12, 106, 107, 108, 109, 110, 111, 112] (by decide +kernel) (by decide +kernel)
set_option maxRecDepth 20000 in
theorem gX5_fewest_X3_firstLeaving_n210 : GoodIn wsX5_fewest (wsX3_firstLeaving) := ggX5_fewest_X3_firstLeaving
set_option maxRecDepth 20000 in
theorem ggX5_fewest_X5_makeProgramme : GoodIn wsX5_fewest wsX5_makeProgramme := goodIn_r _ [82, 83, 84, 85, 86, 5, 87, 88, 89, 90, 91, 92, 93, 94, 95, 96, 97, 98, 99, 100, 101, 102] (by decide +kernel) (by decide +kernel)
set_option maxRecDepth 20000 in
theorem gX5_fewest_X5_makeProgramme : GoodIn wsX5_fewest (wsV RX5 214 RX5 yX5_makeProgramme wsX5_makeProgramme) := goodIn_app (goodIn_of _ (by decide +kernel)) ggX5_fewest_X5_makeProgramme
set_option maxRecDepth 20000 in
theorem ggX5_fewest_X1_howManyIn : GoodIn wsX5_fewest wsX1_howManyIn := goodIn_r _ [20, 21, 22, 19, 23, 24, 25, 26, 27, 28, 29, 30] (by decide +kernel) (by decide +kernel)
set_option maxRecDepth 20000 in
theorem gX5_fewest_X1_howManyIn_n207 : GoodIn wsX5_fewest (wsX1_howManyIn) := ggX5_fewest_X1_howManyIn
theorem dX5_fewest_0 : decode cX5_fewest 0 = .ok (.iload_n 2, 1) := by decide +kernel
theorem dX5_fewest_1 : decode cX5_fewest 1 = .ok (.invokestatic 74, 3) := by decide +kernel
theorem dX5_fewest_4 : decode cX5_fewest 4 = .ok (.ifCond .eq 11, 3) := by decide +kernel
theorem dX5_fewest_7 : decode cX5_fewest 7 = .ok (.aload_n 0, 1) := by decide +kernel
theorem dX5_fewest_8 : decode cX5_fewest 8 = .ok (.iload_n 1, 1) := by decide +kernel
theorem dX5_fewest_9 : decode cX5_fewest 9 = .ok (.invokevirtual 198, 3) := by decide +kernel
theorem dX5_fewest_12 : decode cX5_fewest 12 = .ok (.goto 4, 3) := by decide +kernel
theorem dX5_fewest_15 : decode cX5_fewest 15 = .ok (.iconst (-1), 1) := by decide +kernel
theorem dX5_fewest_16 : decode cX5_fewest 16 = .ok (.istore_n 3, 1) := by decide +kernel
theorem dX5_fewest_17 : decode cX5_fewest 17 = .ok (.iload_n 3, 1) := by decide +kernel
theorem dX5_fewest_18 : decode cX5_fewest 18 = .ok (.ifCond .eq 5, 3) := by decide +kernel
theorem dX5_fewest_21 : decode cX5_fewest 21 = .ok (.iload_n 3, 1) := by decide +kernel
theorem dX5_fewest_22 : decode cX5_fewest 22 = .ok (.ireturn, 1) := by decide +kernel
theorem dX5_fewest_23 : decode cX5_fewest 23 = .ok (.aload_n 0, 1) := by decide +kernel
theorem dX5_fewest_24 : decode cX5_fewest 24 = .ok (.getfield 36, 3) := by decide +kernel
theorem dX5_fewest_27 : decode cX5_fewest 27 = .ok (.aload_n 0, 1) := by decide +kernel
theorem dX5_fewest_28 : decode cX5_fewest 28 = .ok (.getfield 46, 3) := by decide +kernel
theorem dX5_fewest_31 : decode cX5_fewest 31 = .ok (.getfield 127, 3) := by decide +kernel
theorem dX5_fewest_34 : decode cX5_fewest 34 = .ok (.iload_n 1, 1) := by decide +kernel
theorem dX5_fewest_35 : decode cX5_fewest 35 = .ok (.invokestatic 218, 3) := by decide +kernel
theorem dX5_fewest_38 : decode cX5_fewest 38 = .ok (.istore 4, 2) := by decide +kernel
theorem dX5_fewest_40 : decode cX5_fewest 40 = .ok (.aload_n 0, 1) := by decide +kernel
theorem dX5_fewest_41 : decode cX5_fewest 41 = .ok (.iload_n 2, 1) := by decide +kernel
theorem dX5_fewest_42 : decode cX5_fewest 42 = .ok (.iload_n 1, 1) := by decide +kernel
theorem dX5_fewest_43 : decode cX5_fewest 43 = .ok (.aload_n 0, 1) := by decide +kernel
theorem dX5_fewest_44 : decode cX5_fewest 44 = .ok (.getfield 36, 3) := by decide +kernel
theorem dX5_fewest_47 : decode cX5_fewest 47 = .ok (.aload_n 0, 1) := by decide +kernel
theorem dX5_fewest_48 : decode cX5_fewest 48 = .ok (.getfield 46, 3) := by decide +kernel
theorem dX5_fewest_51 : decode cX5_fewest 51 = .ok (.getfield 127, 3) := by decide +kernel
theorem dX5_fewest_54 : decode cX5_fewest 54 = .ok (.iload_n 1, 1) := by decide +kernel
theorem dX5_fewest_55 : decode cX5_fewest 55 = .ok (.iload 4, 2) := by decide +kernel
theorem dX5_fewest_57 : decode cX5_fewest 57 = .ok (.iconst 0, 1) := by decide +kernel
theorem dX5_fewest_58 : decode cX5_fewest 58 = .ok (.invokestatic 210, 3) := by decide +kernel
theorem dX5_fewest_61 : decode cX5_fewest 61 = .ok (.invokevirtual 214, 3) := by decide +kernel
theorem dX5_fewest_64 : decode cX5_fewest 64 = .ok (.aload_n 0, 1) := by decide +kernel
theorem dX5_fewest_65 : decode cX5_fewest 65 = .ok (.getfield 46, 3) := by decide +kernel
theorem dX5_fewest_68 : decode cX5_fewest 68 = .ok (.getfield 127, 3) := by decide +kernel
theorem dX5_fewest_71 : decode cX5_fewest 71 = .ok (.invokestatic 207, 3) := by decide +kernel
theorem dX5_fewest_74 : decode cX5_fewest 74 = .ok (.iload 4, 2) := by decide +kernel
theorem dX5_fewest_76 : decode cX5_fewest 76 = .ok (.isub, 1) := by decide +kernel
theorem dX5_fewest_77 : decode cX5_fewest 77 = .ok (.ireturn, 1) := by decide +kernel
set_option maxRecDepth 20000 in
theorem ggX5_gay_X3_canCheerAll : GoodIn wsX5_gay wsX3_canCheerAll := goodIn_r _ [5, 6, 7, 8, 9, 10, 11, 12, 13, 14, 15, 16, 17, 18, 19, 20, 21, 22, 23, 24, 25, 26, 27, 28, 29, 30, 31, 32, 33, 34, 35, 36, 37, 38, 39, 40, 41, 42, 43, 44, 45, 46, 47, 48, 49, 50, 51, 52, 53, 54, 55, 56, 57, 58, 59, 3, 4, 74, 75, 76, 77, 78, 79, 80] (by decide +kernel) (by decide +kernel)
set_option maxRecDepth 20000 in
theorem gX5_gay_X3_canCheerAll_n222 : GoodIn wsX5_gay (wsX3_canCheerAll) := ggX5_gay_X3_canCheerAll
theorem dX5_gay_0 : decode cX5_gay 0 = .ok (.aload_n 0, 1) := by decide +kernel
theorem dX5_gay_1 : decode cX5_gay 1 = .ok (.getfield 36, 3) := by decide +kernel
theorem dX5_gay_4 : decode cX5_gay 4 = .ok (.getfield 111, 3) := by decide +kernel
theorem dX5_gay_7 : decode cX5_gay 7 = .ok (.ifCond .ne 6, 3) := by decide +kernel
theorem dX5_gay_10 : decode cX5_gay 10 = .ok (.bipush (-4), 2) := by decide +kernel
theorem dX5_gay_12 : decode cX5_gay 12 = .ok (.ireturn, 1) := by decide +kernel
theorem dX5_gay_13 : decode cX5_gay 13 = .ok (.iconst 0, 1) := by decide +kernel
theorem dX5_gay_14 : decode cX5_gay 14 = .ok (.istore_n 1, 1) := by decide +kernel
theorem dX5_gay_15 : decode cX5_gay 15 = .ok (.iload_n 1, 1) := by decide +kernel
theorem dX5_gay_16 : decode cX5_gay 16 = .ok (.bipush 6, 2) := by decide +kernel
theorem dX5_gay_18 : decode cX5_gay 18 = .ok (.if_icmp .gt 29, 3) := by decide +kernel
theorem dX5_gay_21 : decode cX5_gay 21 = .ok (.aload_n 0, 1) := by decide +kernel
theorem dX5_gay_22 : decode cX5_gay 22 = .ok (.getfield 36, 3) := by decide +kernel
theorem dX5_gay_25 : decode cX5_gay 25 = .ok (.aload_n 0, 1) := by decide +kernel
theorem dX5_gay_26 : decode cX5_gay 26 = .ok (.getfield 46, 3) := by decide +kernel
theorem dX5_gay_29 : decode cX5_gay 29 = .ok (.getfield 127, 3) := by decide +kernel
theorem dX5_gay_32 : decode cX5_gay 32 = .ok (.iload_n 1, 1) := by decide +kernel
theorem dX5_gay_33 : decode cX5_gay 33 = .ok (.invokestatic 222, 3) := by decide +kernel
theorem dX5_gay_36 : decode cX5_gay 36 = .ok (.ifCond .eq 5, 3) := by decide +kernel
theorem dX5_gay_39 : decode cX5_gay 39 = .ok (.iload_n 1, 1) := by decide +kernel
theorem dX5_gay_40 : decode cX5_gay 40 = .ok (.ireturn, 1) := by decide +kernel
theorem dX5_gay_41 : decode cX5_gay 41 = .ok (.iinc 1 1, 3) := by decide +kernel
theorem dX5_gay_44 : decode cX5_gay 44 = .ok (.goto (-29), 3) := by decide +kernel
theorem dX5_gay_47 : decode cX5_gay 47 = .ok (.bipush (-9), 2) := by decide +kernel
theorem dX5_gay_49 : decode cX5_gay 49 = .ok (.ireturn, 1) := by decide +kernel
set_option maxRecDepth 20000 in
theorem ggX5_ices_X5_isRow : GoodIn wsX5_ices wsX5_isRow := goodIn_r _ [5] (by decide +kernel) (by decide +kernel)
set_option maxRecDepth 20000 in
theorem gX5_ices_X5_isRow : GoodIn wsX5_ices (va_wsS RX5 74 yX5_isRow wsX5_isRow) := goodIn_app (goodIn_of _ (by decide +kernel)) ggX5_ices_X5_isRow
set_option maxRecDepth 20000 in
theorem ggX5_ices_X5_programmeFinding : GoodIn wsX5_ices wsX5_programmeFinding := goodIn_r _ [9, 10, 11, 12, 13, 4, 14, 62, 63, 64, 65, 66, 67, 68, 69, 70, 71, 72, 73, 74, 75] (by decide +kernel) (by decide +kernel)
set_option maxRecDepth 20000 in
theorem gX5_ices_X5_programmeFinding : GoodIn wsX5_ices (wsV RX5 195 RX5 yX5_programmeFinding wsX5_programmeFinding) := goodIn_app (goodIn_of _ (by decide +kernel)) ggX5_ices_X5_programmeFinding
set_option maxRecDepth 20000 in
theorem ggX5_ices_X5_found : GoodIn wsX5_ices wsX5_found := goodIn_r _ [18, 19, 20, 62, 63, 64, 65, 66, 67, 68, 69, 70, 71, 72, 73, 74, 75] (by decide +kernel) (by decide +kernel)
set_option maxRecDepth 20000 in
theorem gX5_ices_X5_found : GoodIn wsX5_ices (wsV RX5 78 RX5 yX5_found wsX5_found) := goodIn_app (goodIn_of _ (by decide +kernel)) ggX5_ices_X5_found
set_option maxRecDepth 20000 in
theorem ggX5_ices_X5_icesNeededBy : GoodIn wsX5_ices wsX5_icesNeededBy := goodIn_r _ [24, 1, 25, 11, 10, 26, 27, 28, 29, 30, 31, 32, 33, 34, 35, 36, 37, 38, 39, 40, 41, 42, 43, 44, 45, 46, 47, 48, 49, 50, 51, 52, 53, 54, 55, 56, 57, 58, 59, 60, 61, 62, 63, 64, 65, 66, 67, 68, 69, 70, 71, 72, 73, 74, 75, 83, 84, 85, 76, 77, 78, 79, 80, 81, 82] (by decide +kernel) (by decide +kernel)
set_option maxRecDepth 20000 in
theorem gX5_ices_X5_icesNeededBy : GoodIn wsX5_ices (wsV RX5 226 RX5 yX5_icesNeededBy wsX5_icesNeededBy) := goodIn_app (goodIn_of _ (by decide +kernel)) ggX5_ices_X5_icesNeededBy
theorem dX5_ices_0 : decode cX5_ices 0 = .ok (.iload_n 1, 1) := by decide +kernel
theorem dX5_ices_1 : decode cX5_ices 1 = .ok (.invokestatic 74, 3) := by decide +kernel
theorem dX5_ices_4 : decode cX5_ices 4 = .ok (.ifCond .ne 5, 3) := by decide +kernel
theorem dX5_ices_7 : decode cX5_ices 7 = .ok (.iconst (-1), 1) := by decide +kernel
theorem dX5_ices_8 : decode cX5_ices 8 = .ok (.ireturn, 1) := by decide +kernel
theorem dX5_ices_9 : decode cX5_ices 9 = .ok (.aload_n 0, 1) := by decide +kernel
theorem dX5_ices_10 : decode cX5_ices 10 = .ok (.getfield 36, 3) := by decide +kernel
theorem dX5_ices_13 : decode cX5_ices 13 = .ok (.getfield 111, 3) := by decide +kernel
theorem dX5_ices_16 : decode cX5_ices 16 = .ok (.ifCond .ne 6, 3) := by decide +kernel
theorem dX5_ices_19 : decode cX5_ices 19 = .ok (.bipush (-4), 2) := by decide +kernel
theorem dX5_ices_21 : decode cX5_ices 21 = .ok (.ireturn, 1) := by decide +kernel
theorem dX5_ices_22 : decode cX5_ices 22 = .ok (.aload_n 0, 1) := by decide +kernel
theorem dX5_ices_23 : decode cX5_ices 23 = .ok (.iload_n 1, 1) := by decide +kernel
theorem dX5_ices_24 : decode cX5_ices 24 = .ok (.invokevirtual 195, 3) := by decide +kernel
theorem dX5_ices_27 : decode cX5_ices 27 = .ok (.istore_n 2, 1) := by decide +kernel
theorem dX5_ices_28 : decode cX5_ices 28 = .ok (.iload_n 2, 1) := by decide +kernel
theorem dX5_ices_29 : decode cX5_ices 29 = .ok (.ifCond .eq 9, 3) := by decide +kernel
theorem dX5_ices_32 : decode cX5_ices 32 = .ok (.aload_n 0, 1) := by decide +kernel
theorem dX5_ices_33 : decode cX5_ices 33 = .ok (.iload_n 2, 1) := by decide +kernel
theorem dX5_ices_34 : decode cX5_ices 34 = .ok (.invokevirtual 78, 3) := by decide +kernel
theorem dX5_ices_37 : decode cX5_ices 37 = .ok (.ireturn, 1) := by decide +kernel
theorem dX5_ices_38 : decode cX5_ices 38 = .ok (.iconst 0, 1) := by decide +kernel
theorem dX5_ices_39 : decode cX5_ices 39 = .ok (.istore_n 3, 1) := by decide +kernel
theorem dX5_ices_40 : decode cX5_ices 40 = .ok (.iconst 0, 1) := by decide +kernel
theorem dX5_ices_41 : decode cX5_ices 41 = .ok (.istore 4, 2) := by decide +kernel
theorem dX5_ices_43 : decode cX5_ices 43 = .ok (.iload 4, 2) := by decide +kernel
theorem dX5_ices_45 : decode cX5_ices 45 = .ok (.aload_n 0, 1) := by decide +kernel
theorem dX5_ices_46 : decode cX5_ices 46 = .ok (.getfield 36, 3) := by decide +kernel
theorem dX5_ices_49 : decode cX5_ices 49 = .ok (.getfield 111, 3) := by decide +kernel
theorem dX5_ices_52 : decode cX5_ices 52 = .ok (.if_icmp .ge 33, 3) := by decide +kernel
theorem dX5_ices_55 : decode cX5_ices 55 = .ok (.aload_n 0, 1) := by decide +kernel
theorem dX5_ices_56 : decode cX5_ices 56 = .ok (.iload 4, 2) := by decide +kernel
theorem dX5_ices_58 : decode cX5_ices 58 = .ok (.iload_n 1, 1) := by decide +kernel
theorem dX5_ices_59 : decode cX5_ices 59 = .ok (.invokevirtual 226, 3) := by decide +kernel
theorem dX5_ices_62 : decode cX5_ices 62 = .ok (.istore 5, 2) := by decide +kernel
theorem dX5_ices_64 : decode cX5_ices 64 = .ok (.iload 5, 2) := by decide +kernel
theorem dX5_ices_66 : decode cX5_ices 66 = .ok (.bipush (-9), 2) := by decide +kernel
theorem dX5_ices_68 : decode cX5_ices 68 = .ok (.if_icmp .ne 6, 3) := by decide +kernel
theorem dX5_ices_71 : decode cX5_ices 71 = .ok (.bipush (-9), 2) := by decide +kernel
theorem dX5_ices_73 : decode cX5_ices 73 = .ok (.ireturn, 1) := by decide +kernel
theorem dX5_ices_74 : decode cX5_ices 74 = .ok (.iload_n 3, 1) := by decide +kernel
theorem dX5_ices_75 : decode cX5_ices 75 = .ok (.iload 5, 2) := by decide +kernel
theorem dX5_ices_77 : decode cX5_ices 77 = .ok (.iadd, 1) := by decide +kernel
theorem dX5_ices_78 : decode cX5_ices 78 = .ok (.istore_n 3, 1) := by decide +kernel
theorem dX5_ices_79 : decode cX5_ices 79 = .ok (.iinc 4 1, 3) := by decide +kernel
theorem dX5_ices_82 : decode cX5_ices 82 = .ok (.goto (-39), 3) := by decide +kernel
theorem dX5_ices_85 : decode cX5_ices 85 = .ok (.iload_n 3, 1) := by decide +kernel
theorem dX5_ices_86 : decode cX5_ices 86 = .ok (.ireturn, 1) := by decide +kernel
set_option maxRecDepth 20000 in
theorem ggX5_aunt_X1_howManyIn : GoodIn wsX5_aunt wsX1_howManyIn := goodIn_r _ [5, 6, 7, 4, 8, 9, 10, 11, 12, 13, 14, 15] (by decide +kernel) (by decide +kernel)
set_option maxRecDepth 20000 in
theorem gX5_aunt_X1_howManyIn_n207 : GoodIn wsX5_aunt (wsX1_howManyIn) := ggX5_aunt_X1_howManyIn
set_option maxRecDepth 20000 in
theorem ggX5_aunt_X3_leftAtBandsTurn : GoodIn wsX5_aunt wsX3_leftAtBandsTurn := goodIn_r _ [18, 19, 20, 21, 22, 3, 4, 5, 6, 7, 8, 9, 10, 11, 12, 13, 14, 15, 23, 24, 25, 26, 27, 28, 29, 30, 31, 32, 33, 34, 35, 36, 37, 38, 39, 40, 41, 42, 43, 44, 45, 46, 47, 48, 49, 50, 51, 52, 53, 54, 55, 56, 57, 58, 59, 60, 61, 62, 63, 64, 65, 66, 67, 68, 17, 69, 70, 71, 72, 73, 74, 75, 76, 77, 16, 92, 93, 94, 95, 96, 97, 98] (by decide +kernel) (by decide +kernel)
set_option maxRecDepth 20000 in
theorem gX5_aunt_X3_leftAtBandsTurn_n229 : GoodIn wsX5_aunt (wsX3_leftAtBandsTurn) := ggX5_aunt_X3_leftAtBandsTurn
theorem dX5_aunt_0 : decode cX5_aunt 0 = .ok (.iload_n 1, 1) := by decide +kernel
theorem dX5_aunt_1 : decode cX5_aunt 1 = .ok (.ifCond .lt 8, 3) := by decide +kernel
theorem dX5_aunt_4 : decode cX5_aunt 4 = .ok (.iload_n 1, 1) := by decide +kernel
theorem dX5_aunt_5 : decode cX5_aunt 5 = .ok (.iconst 3, 1) := by decide +kernel
theorem dX5_aunt_6 : decode cX5_aunt 6 = .ok (.if_icmp .le 5, 3) := by decide +kernel
theorem dX5_aunt_9 : decode cX5_aunt 9 = .ok (.iconst (-1), 1) := by decide +kernel
theorem dX5_aunt_10 : decode cX5_aunt 10 = .ok (.ireturn, 1) := by decide +kernel
theorem dX5_aunt_11 : decode cX5_aunt 11 = .ok (.aload_n 0, 1) := by decide +kernel
theorem dX5_aunt_12 : decode cX5_aunt 12 = .ok (.getfield 36, 3) := by decide +kernel
theorem dX5_aunt_15 : decode cX5_aunt 15 = .ok (.getfield 111, 3) := by decide +kernel
theorem dX5_aunt_18 : decode cX5_aunt 18 = .ok (.ifCond .ne 6, 3) := by decide +kernel
theorem dX5_aunt_21 : decode cX5_aunt 21 = .ok (.bipush (-4), 2) := by decide +kernel
theorem dX5_aunt_23 : decode cX5_aunt 23 = .ok (.ireturn, 1) := by decide +kernel
theorem dX5_aunt_24 : decode cX5_aunt 24 = .ok (.aload_n 0, 1) := by decide +kernel
theorem dX5_aunt_25 : decode cX5_aunt 25 = .ok (.getfield 46, 3) := by decide +kernel
theorem dX5_aunt_28 : decode cX5_aunt 28 = .ok (.getfield 127, 3) := by decide +kernel
theorem dX5_aunt_31 : decode cX5_aunt 31 = .ok (.invokestatic 207, 3) := by decide +kernel
theorem dX5_aunt_34 : decode cX5_aunt 34 = .ok (.aload_n 0, 1) := by decide +kernel
theorem dX5_aunt_35 : decode cX5_aunt 35 = .ok (.getfield 36, 3) := by decide +kernel
theorem dX5_aunt_38 : decode cX5_aunt 38 = .ok (.aload_n 0, 1) := by decide +kernel
theorem dX5_aunt_39 : decode cX5_aunt 39 = .ok (.getfield 46, 3) := by decide +kernel
theorem dX5_aunt_42 : decode cX5_aunt 42 = .ok (.getfield 127, 3) := by decide +kernel
theorem dX5_aunt_45 : decode cX5_aunt 45 = .ok (.iload_n 1, 1) := by decide +kernel
theorem dX5_aunt_46 : decode cX5_aunt 46 = .ok (.invokestatic 229, 3) := by decide +kernel
theorem dX5_aunt_49 : decode cX5_aunt 49 = .ok (.isub, 1) := by decide +kernel
theorem dX5_aunt_50 : decode cX5_aunt 50 = .ok (.ireturn, 1) := by decide +kernel
set_option maxRecDepth 20000 in
theorem ggX5_kinds_X5_eveningRefusal : GoodIn wsX5_kinds wsX5_eveningRefusal := goodIn_r _ [9, 1, 10, 11, 12, 8, 13, 2, 14, 15, 16, 17, 18, 19, 20, 21, 22, 23, 4, 3, 24, 25, 26, 27, 28, 29, 30, 31, 32, 33, 34, 35, 63, 64, 65, 66, 67, 68, 69, 70, 71, 72, 73, 74, 75, 76, 77, 78, 79, 80, 81, 82, 83, 84, 85, 86] (by decide +kernel) (by decide +kernel)
set_option maxRecDepth 20000 in
theorem gX5_kinds_X5_eveningRefusal : GoodIn wsX5_kinds (wsV RX5 232 RX5 yX5_eveningRefusal wsX5_eveningRefusal) := goodIn_app (goodIn_of _ (by decide +kernel)) ggX5_kinds_X5_eveningRefusal
set_option maxRecDepth 20000 in
theorem ggX5_kinds_X1_griefOf : GoodIn wsX5_kinds wsX1_griefOf := goodIn_r _ [37, 38] (by decide +kernel) (by decide +kernel)
set_option maxRecDepth 20000 in
theorem gX5_kinds_X1_griefOf_n175 : GoodIn wsX5_kinds (wsX1_griefOf) := ggX5_kinds_X1_griefOf
set_option maxRecDepth 20000 in
theorem ggX5_kinds_X2_wentSo : GoodIn wsX5_kinds wsX2_wentSo := goodIn_r _ [42, 43, 44, 45, 40, 46, 47, 48, 49, 50, 51, 52, 53, 54, 55, 56, 57, 58, 59, 60, 61, 62, 80, 81, 82, 83, 84, 85, 86] (by decide +kernel) (by decide +kernel)
set_option maxRecDepth 20000 in
theorem gX5_kinds_X2_wentSo_n235 : GoodIn wsX5_kinds (wsX2_wentSo) := ggX5_kinds_X2_wentSo
theorem dX5_kinds_0 : decode cX5_kinds 0 = .ok (.aload_n 0, 1) := by decide +kernel
theorem dX5_kinds_1 : decode cX5_kinds 1 = .ok (.iload_n 1, 1) := by decide +kernel
theorem dX5_kinds_2 : decode cX5_kinds 2 = .ok (.iload_n 2, 1) := by decide +kernel
theorem dX5_kinds_3 : decode cX5_kinds 3 = .ok (.invokevirtual 232, 3) := by decide +kernel
theorem dX5_kinds_6 : decode cX5_kinds 6 = .ok (.istore_n 3, 1) := by decide +kernel
theorem dX5_kinds_7 : decode cX5_kinds 7 = .ok (.iload_n 3, 1) := by decide +kernel
theorem dX5_kinds_8 : decode cX5_kinds 8 = .ok (.ifCond .eq 5, 3) := by decide +kernel
theorem dX5_kinds_11 : decode cX5_kinds 11 = .ok (.iload_n 3, 1) := by decide +kernel
theorem dX5_kinds_12 : decode cX5_kinds 12 = .ok (.ireturn, 1) := by decide +kernel
theorem dX5_kinds_13 : decode cX5_kinds 13 = .ok (.aload_n 0, 1) := by decide +kernel
theorem dX5_kinds_14 : decode cX5_kinds 14 = .ok (.getfield 46, 3) := by decide +kernel
theorem dX5_kinds_17 : decode cX5_kinds 17 = .ok (.getfield 127, 3) := by decide +kernel
theorem dX5_kinds_20 : decode cX5_kinds 20 = .ok (.iload_n 1, 1) := by decide +kernel
theorem dX5_kinds_21 : decode cX5_kinds 21 = .ok (.invokestatic 175, 3) := by decide +kernel
theorem dX5_kinds_24 : decode cX5_kinds 24 = .ok (.istore 4, 2) := by decide +kernel
theorem dX5_kinds_26 : decode cX5_kinds 26 = .ok (.iconst 0, 1) := by decide +kernel
theorem dX5_kinds_27 : decode cX5_kinds 27 = .ok (.istore 5, 2) := by decide +kernel
theorem dX5_kinds_29 : decode cX5_kinds 29 = .ok (.iconst 0, 1) := by decide +kernel
theorem dX5_kinds_30 : decode cX5_kinds 30 = .ok (.istore 6, 2) := by decide +kernel
theorem dX5_kinds_32 : decode cX5_kinds 32 = .ok (.iload 6, 2) := by decide +kernel
theorem dX5_kinds_34 : decode cX5_kinds 34 = .ok (.bipush 6, 2) := by decide +kernel
theorem dX5_kinds_36 : decode cX5_kinds 36 = .ok (.if_icmp .ge 44, 3) := by decide +kernel
theorem dX5_kinds_39 : decode cX5_kinds 39 = .ok (.aload_n 0, 1) := by decide +kernel
theorem dX5_kinds_40 : decode cX5_kinds 40 = .ok (.getfield 36, 3) := by decide +kernel
theorem dX5_kinds_43 : decode cX5_kinds 43 = .ok (.iload 6, 2) := by decide +kernel
theorem dX5_kinds_45 : decode cX5_kinds 45 = .ok (.iload 4, 2) := by decide +kernel
theorem dX5_kinds_47 : decode cX5_kinds 47 = .ok (.aload_n 0, 1) := by decide +kernel
theorem dX5_kinds_48 : decode cX5_kinds 48 = .ok (.getfield 11, 3) := by decide +kernel
theorem dX5_kinds_51 : decode cX5_kinds 51 = .ok (.iload_n 2, 1) := by decide +kernel
theorem dX5_kinds_52 : decode cX5_kinds 52 = .ok (.aaload, 1) := by decide +kernel
theorem dX5_kinds_53 : decode cX5_kinds 53 = .ok (.aload_n 0, 1) := by decide +kernel
theorem dX5_kinds_54 : decode cX5_kinds 54 = .ok (.getfield 14, 3) := by decide +kernel
theorem dX5_kinds_57 : decode cX5_kinds 57 = .ok (.iload_n 2, 1) := by decide +kernel
theorem dX5_kinds_58 : decode cX5_kinds 58 = .ok (.iaload, 1) := by decide +kernel
theorem dX5_kinds_59 : decode cX5_kinds 59 = .ok (.invokevirtual 235, 3) := by decide +kernel
theorem dX5_kinds_62 : decode cX5_kinds 62 = .ok (.ifCond .eq 12, 3) := by decide +kernel
theorem dX5_kinds_65 : decode cX5_kinds 65 = .ok (.iload 5, 2) := by decide +kernel
theorem dX5_kinds_67 : decode cX5_kinds 67 = .ok (.iconst 1, 1) := by decide +kernel
theorem dX5_kinds_68 : decode cX5_kinds 68 = .ok (.iload 6, 2) := by decide +kernel
theorem dX5_kinds_70 : decode cX5_kinds 70 = .ok (.ishl, 1) := by decide +kernel
theorem dX5_kinds_71 : decode cX5_kinds 71 = .ok (.ior, 1) := by decide +kernel
theorem dX5_kinds_72 : decode cX5_kinds 72 = .ok (.istore 5, 2) := by decide +kernel
theorem dX5_kinds_74 : decode cX5_kinds 74 = .ok (.iinc 6 1, 3) := by decide +kernel
theorem dX5_kinds_77 : decode cX5_kinds 77 = .ok (.goto (-45), 3) := by decide +kernel
theorem dX5_kinds_80 : decode cX5_kinds 80 = .ok (.iload 5, 2) := by decide +kernel
theorem dX5_kinds_82 : decode cX5_kinds 82 = .ok (.ireturn, 1) := by decide +kernel
set_option maxRecDepth 20000 in
theorem ggX5_came_X5_eveningRefusal : GoodIn wsX5_came wsX5_eveningRefusal := goodIn_r _ [8, 9, 10, 11, 12, 7, 13, 1, 14, 15, 16, 17, 18, 19, 20, 21, 22, 23, 3, 2, 24, 25, 26, 27, 28, 29, 30, 31, 32, 33, 34, 35, 60, 61, 62, 63, 64, 65, 66, 67, 68, 69, 70, 71, 72, 73, 81, 82, 83, 74, 75, 76, 77, 78, 79, 80] (by decide +kernel) (by decide +kernel)
set_option maxRecDepth 20000 in
theorem gX5_came_X5_eveningRefusal : GoodIn wsX5_came (wsV RX5 232 RX5 yX5_eveningRefusal wsX5_eveningRefusal) := goodIn_app (goodIn_of _ (by decide +kernel)) ggX5_came_X5_eveningRefusal
set_option maxRecDepth 20000 in
theorem ggX5_came_X2_wentSo : GoodIn wsX5_came wsX2_wentSo := goodIn_r _ [39, 40, 41, 42, 37, 43, 44, 45, 46, 47, 48, 49, 50, 51, 52, 53, 54, 55, 56, 57, 58, 59, 74, 75, 76, 77, 78, 79, 80] (by decide +kernel) (by decide +kernel)
set_option maxRecDepth 20000 in
theorem gX5_came_X2_wentSo_n235 : GoodIn wsX5_came (wsX2_wentSo) := ggX5_came_X2_wentSo
theorem dX5_came_0 : decode cX5_came 0 = .ok (.aload_n 0, 1) := by decide +kernel
theorem dX5_came_1 : decode cX5_came 1 = .ok (.iload_n 1, 1) := by decide +kernel
theorem dX5_came_2 : decode cX5_came 2 = .ok (.iload_n 2, 1) := by decide +kernel
theorem dX5_came_3 : decode cX5_came 3 = .ok (.invokevirtual 232, 3) := by decide +kernel
theorem dX5_came_6 : decode cX5_came 6 = .ok (.istore_n 3, 1) := by decide +kernel
theorem dX5_came_7 : decode cX5_came 7 = .ok (.iload_n 3, 1) := by decide +kernel
theorem dX5_came_8 : decode cX5_came 8 = .ok (.ifCond .eq 5, 3) := by decide +kernel
theorem dX5_came_11 : decode cX5_came 11 = .ok (.iload_n 3, 1) := by decide +kernel
theorem dX5_came_12 : decode cX5_came 12 = .ok (.ireturn, 1) := by decide +kernel
theorem dX5_came_13 : decode cX5_came 13 = .ok (.iconst 0, 1) := by decide +kernel
theorem dX5_came_14 : decode cX5_came 14 = .ok (.istore 4, 2) := by decide +kernel
theorem dX5_came_16 : decode cX5_came 16 = .ok (.iconst 0, 1) := by decide +kernel
theorem dX5_came_17 : decode cX5_came 17 = .ok (.istore 5, 2) := by decide +kernel
theorem dX5_came_19 : decode cX5_came 19 = .ok (.iload 5, 2) := by decide +kernel
theorem dX5_came_21 : decode cX5_came 21 = .ok (.bipush 20, 2) := by decide +kernel
theorem dX5_came_23 : decode cX5_came 23 = .ok (.if_icmp .gt 51, 3) := by decide +kernel
theorem dX5_came_26 : decode cX5_came 26 = .ok (.aload_n 0, 1) := by decide +kernel
theorem dX5_came_27 : decode cX5_came 27 = .ok (.getfield 36, 3) := by decide +kernel
theorem dX5_came_30 : decode cX5_came 30 = .ok (.aload_n 0, 1) := by decide +kernel
theorem dX5_came_31 : decode cX5_came 31 = .ok (.getfield 36, 3) := by decide +kernel
theorem dX5_came_34 : decode cX5_came 34 = .ok (.getfield 120, 3) := by decide +kernel
theorem dX5_came_37 : decode cX5_came 37 = .ok (.iload_n 1, 1) := by decide +kernel
theorem dX5_came_38 : decode cX5_came 38 = .ok (.iaload, 1) := by decide +kernel
theorem dX5_came_39 : decode cX5_came 39 = .ok (.iload 5, 2) := by decide +kernel
theorem dX5_came_41 : decode cX5_came 41 = .ok (.aload_n 0, 1) := by decide +kernel
theorem dX5_came_42 : decode cX5_came 42 = .ok (.getfield 11, 3) := by decide +kernel
theorem dX5_came_45 : decode cX5_came 45 = .ok (.iload_n 2, 1) := by decide +kernel
theorem dX5_came_46 : decode cX5_came 46 = .ok (.aaload, 1) := by decide +kernel
theorem dX5_came_47 : decode cX5_came 47 = .ok (.aload_n 0, 1) := by decide +kernel
theorem dX5_came_48 : decode cX5_came 48 = .ok (.getfield 14, 3) := by decide +kernel
theorem dX5_came_51 : decode cX5_came 51 = .ok (.iload_n 2, 1) := by decide +kernel
theorem dX5_came_52 : decode cX5_came 52 = .ok (.iaload, 1) := by decide +kernel
theorem dX5_came_53 : decode cX5_came 53 = .ok (.invokevirtual 235, 3) := by decide +kernel
theorem dX5_came_56 : decode cX5_came 56 = .ok (.ifCond .eq 12, 3) := by decide +kernel
theorem dX5_came_59 : decode cX5_came 59 = .ok (.iload 4, 2) := by decide +kernel
theorem dX5_came_61 : decode cX5_came 61 = .ok (.iconst 1, 1) := by decide +kernel
theorem dX5_came_62 : decode cX5_came 62 = .ok (.iload 5, 2) := by decide +kernel
theorem dX5_came_64 : decode cX5_came 64 = .ok (.ishl, 1) := by decide +kernel
theorem dX5_came_65 : decode cX5_came 65 = .ok (.ior, 1) := by decide +kernel
theorem dX5_came_66 : decode cX5_came 66 = .ok (.istore 4, 2) := by decide +kernel
theorem dX5_came_68 : decode cX5_came 68 = .ok (.iinc 5 1, 3) := by decide +kernel
theorem dX5_came_71 : decode cX5_came 71 = .ok (.goto (-52), 3) := by decide +kernel
theorem dX5_came_74 : decode cX5_came 74 = .ok (.iload 4, 2) := by decide +kernel
theorem dX5_came_76 : decode cX5_came 76 = .ok (.ireturn, 1) := by decide +kernel
set_option maxRecDepth 20000 in
theorem ggX5_did_X5_isGuest : GoodIn wsX5_did wsX5_isGuest := goodIn_r _ [6, 1, 32, 33, 34, 35, 36, 37, 38, 39, 40, 41, 42, 43, 44, 45, 46, 47, 48, 49, 50, 51, 52] (by decide +kernel) (by decide +kernel)
set_option maxRecDepth 20000 in
theorem gX5_did_X5_isGuest : GoodIn wsX5_did (wsV RX5 114 RX5 yX5_isGuest wsX5_isGuest) := goodIn_app (goodIn_of _ (by decide +kernel)) ggX5_did_X5_isGuest
set_option maxRecDepth 20000 in
theorem ggX5_did_X5_isTune : GoodIn wsX5_did wsX5_isTune := goodIn_r _ [9] (by decide +kernel) (by decide +kernel)
set_option maxRecDepth 20000 in
theorem gX5_did_X5_isTune : GoodIn wsX5_did (va_wsS RX5 152 yX5_isTune wsX5_isTune) := goodIn_app (goodIn_of _ (by decide +kernel)) ggX5_did_X5_isTune
set_option maxRecDepth 20000 in
theorem ggX5_did_X5_isGrief : GoodIn wsX5_did wsX5_isGrief := goodIn_r _ [12] (by decide +kernel) (by decide +kernel)
set_option maxRecDepth 20000 in
theorem gX5_did_X5_isGrief : GoodIn wsX5_did (va_wsS RX5 239 yX5_isGrief wsX5_isGrief) := goodIn_app (goodIn_of _ (by decide +kernel)) ggX5_did_X5_isGrief
set_option maxRecDepth 20000 in
theorem ggX5_did_X2_griefBehind : GoodIn wsX5_did wsX2_griefBehind := goodIn_r _ [15, 16, 17, 14, 18, 19, 20, 21, 22, 23, 24, 25, 26, 27, 28, 29, 30, 31] (by decide +kernel) (by decide +kernel)
set_option maxRecDepth 20000 in
theorem gX5_did_X2_griefBehind_n242 : GoodIn wsX5_did (wsX2_griefBehind) := ggX5_did_X2_griefBehind
theorem dX5_did_0 : decode cX5_did 0 = .ok (.aload_n 0, 1) := by decide +kernel
theorem dX5_did_1 : decode cX5_did 1 = .ok (.iload_n 1, 1) := by decide +kernel
theorem dX5_did_2 : decode cX5_did 2 = .ok (.invokevirtual 114, 3) := by decide +kernel
theorem dX5_did_5 : decode cX5_did 5 = .ok (.ifCond .eq 25, 3) := by decide +kernel
theorem dX5_did_8 : decode cX5_did 8 = .ok (.iload_n 2, 1) := by decide +kernel
theorem dX5_did_9 : decode cX5_did 9 = .ok (.invokestatic 152, 3) := by decide +kernel
theorem dX5_did_12 : decode cX5_did 12 = .ok (.ifCond .eq 18, 3) := by decide +kernel
theorem dX5_did_15 : decode cX5_did 15 = .ok (.iload_n 3, 1) := by decide +kernel
theorem dX5_did_16 : decode cX5_did 16 = .ok (.invokestatic 239, 3) := by decide +kernel
theorem dX5_did_19 : decode cX5_did 19 = .ok (.ifCond .eq 11, 3) := by decide +kernel
theorem dX5_did_22 : decode cX5_did 22 = .ok (.iload 4, 2) := by decide +kernel
theorem dX5_did_24 : decode cX5_did 24 = .ok (.invokestatic 239, 3) := by decide +kernel
theorem dX5_did_27 : decode cX5_did 27 = .ok (.ifCond .ne 5, 3) := by decide +kernel
theorem dX5_did_30 : decode cX5_did 30 = .ok (.iconst (-1), 1) := by decide +kernel
theorem dX5_did_31 : decode cX5_did 31 = .ok (.ireturn, 1) := by decide +kernel
theorem dX5_did_32 : decode cX5_did 32 = .ok (.iconst 0, 1) := by decide +kernel
theorem dX5_did_33 : decode cX5_did 33 = .ok (.istore 5, 2) := by decide +kernel
theorem dX5_did_35 : decode cX5_did 35 = .ok (.bipush (-4), 2) := by decide +kernel
theorem dX5_did_37 : decode cX5_did 37 = .ok (.istore 6, 2) := by decide +kernel
theorem dX5_did_39 : decode cX5_did 39 = .ok (.iload 6, 2) := by decide +kernel
theorem dX5_did_41 : decode cX5_did 41 = .ok (.iconst 5, 1) := by decide +kernel
theorem dX5_did_42 : decode cX5_did 42 = .ok (.if_icmp .gt 42, 3) := by decide +kernel
theorem dX5_did_45 : decode cX5_did 45 = .ok (.aload_n 0, 1) := by decide +kernel
theorem dX5_did_46 : decode cX5_did 46 = .ok (.getfield 36, 3) := by decide +kernel
theorem dX5_did_49 : decode cX5_did 49 = .ok (.getfield 120, 3) := by decide +kernel
theorem dX5_did_52 : decode cX5_did 52 = .ok (.iload_n 1, 1) := by decide +kernel
theorem dX5_did_53 : decode cX5_did 53 = .ok (.iaload, 1) := by decide +kernel
theorem dX5_did_54 : decode cX5_did 54 = .ok (.iload_n 2, 1) := by decide +kernel
theorem dX5_did_55 : decode cX5_did 55 = .ok (.iload 6, 2) := by decide +kernel
theorem dX5_did_57 : decode cX5_did 57 = .ok (.iload_n 3, 1) := by decide +kernel
theorem dX5_did_58 : decode cX5_did 58 = .ok (.invokestatic 242, 3) := by decide +kernel
theorem dX5_did_61 : decode cX5_did 61 = .ok (.iload 4, 2) := by decide +kernel
theorem dX5_did_63 : decode cX5_did 63 = .ok (.if_icmp .ne 15, 3) := by decide +kernel
theorem dX5_did_66 : decode cX5_did 66 = .ok (.iload 5, 2) := by decide +kernel
theorem dX5_did_68 : decode cX5_did 68 = .ok (.iconst 1, 1) := by decide +kernel
theorem dX5_did_69 : decode cX5_did 69 = .ok (.iload 6, 2) := by decide +kernel
theorem dX5_did_71 : decode cX5_did 71 = .ok (.bipush (-4), 2) := by decide +kernel
theorem dX5_did_73 : decode cX5_did 73 = .ok (.isub, 1) := by decide +kernel
theorem dX5_did_74 : decode cX5_did 74 = .ok (.ishl, 1) := by decide +kernel
theorem dX5_did_75 : decode cX5_did 75 = .ok (.ior, 1) := by decide +kernel
theorem dX5_did_76 : decode cX5_did 76 = .ok (.istore 5, 2) := by decide +kernel
theorem dX5_did_78 : decode cX5_did 78 = .ok (.iinc 6 1, 3) := by decide +kernel
theorem dX5_did_81 : decode cX5_did 81 = .ok (.goto (-42), 3) := by decide +kernel
theorem dX5_did_84 : decode cX5_did 84 = .ok (.iload 5, 2) := by decide +kernel
theorem dX5_did_86 : decode cX5_did 86 = .ok (.ireturn, 1) := by decide +kernel
set_option maxRecDepth 20000 in
theorem ggX5_wept_X2_watchers : GoodIn wsX5_wept wsX2_watchers := goodIn_r _ [6, 7, 8, 9, 10, 27, 28, 29, 30, 31, 32, 33] (by decide +kernel) (by decide +kernel)
set_option maxRecDepth 20000 in
theorem gX5_wept_X2_watchers_n246 : GoodIn wsX5_wept (wsX2_watchers) := ggX5_wept_X2_watchers
set_option maxRecDepth 20000 in
theorem ggX5_wept_X1_isIn : GoodIn wsX5_wept wsX1_isIn := goodIn_r _ [12] (by decide +kernel) (by decide +kernel)
set_option maxRecDepth 20000 in
theorem gX5_wept_X1_isIn_n130 : GoodIn wsX5_wept (wsX1_isIn) := ggX5_wept_X1_isIn
theorem dX5_wept_0 : decode cX5_wept 0 = .ok (.iload_n 1, 1) := by decide +kernel
theorem dX5_wept_1 : decode cX5_wept 1 = .ok (.ifCond .lt 16, 3) := by decide +kernel
theorem dX5_wept_4 : decode cX5_wept 4 = .ok (.iload_n 1, 1) := by decide +kernel
theorem dX5_wept_5 : decode cX5_wept 5 = .ok (.iconst 1, 1) := by decide +kernel
theorem dX5_wept_6 : decode cX5_wept 6 = .ok (.aload_n 0, 1) := by decide +kernel
theorem dX5_wept_7 : decode cX5_wept 7 = .ok (.getfield 36, 3) := by decide +kernel
theorem dX5_wept_10 : decode cX5_wept 10 = .ok (.getfield 111, 3) := by decide +kernel
theorem dX5_wept_13 : decode cX5_wept 13 = .ok (.ishl, 1) := by decide +kernel
theorem dX5_wept_14 : decode cX5_wept 14 = .ok (.if_icmp .lt 5, 3) := by decide +kernel
theorem dX5_wept_17 : decode cX5_wept 17 = .ok (.iconst (-1), 1) := by decide +kernel
theorem dX5_wept_18 : decode cX5_wept 18 = .ok (.ireturn, 1) := by decide +kernel
theorem dX5_wept_19 : decode cX5_wept 19 = .ok (.iconst 0, 1) := by decide +kernel
theorem dX5_wept_20 : decode cX5_wept 20 = .ok (.istore_n 2, 1) := by decide +kernel
theorem dX5_wept_21 : decode cX5_wept 21 = .ok (.iconst 0, 1) := by decide +kernel
theorem dX5_wept_22 : decode cX5_wept 22 = .ok (.istore_n 3, 1) := by decide +kernel
theorem dX5_wept_23 : decode cX5_wept 23 = .ok (.iload_n 3, 1) := by decide +kernel
theorem dX5_wept_24 : decode cX5_wept 24 = .ok (.aload_n 0, 1) := by decide +kernel
theorem dX5_wept_25 : decode cX5_wept 25 = .ok (.getfield 36, 3) := by decide +kernel
theorem dX5_wept_28 : decode cX5_wept 28 = .ok (.getfield 111, 3) := by decide +kernel
theorem dX5_wept_31 : decode cX5_wept 31 = .ok (.if_icmp .ge 60, 3) := by decide +kernel
theorem dX5_wept_34 : decode cX5_wept 34 = .ok (.aload_n 0, 1) := by decide +kernel
theorem dX5_wept_35 : decode cX5_wept 35 = .ok (.getfield 36, 3) := by decide +kernel
theorem dX5_wept_38 : decode cX5_wept 38 = .ok (.aload_n 0, 1) := by decide +kernel
theorem dX5_wept_39 : decode cX5_wept 39 = .ok (.getfield 46, 3) := by decide +kernel
theorem dX5_wept_42 : decode cX5_wept 42 = .ok (.getfield 127, 3) := by decide +kernel
theorem dX5_wept_45 : decode cX5_wept 45 = .ok (.iload_n 3, 1) := by decide +kernel
theorem dX5_wept_46 : decode cX5_wept 46 = .ok (.invokevirtual 246, 3) := by decide +kernel
theorem dX5_wept_49 : decode cX5_wept 49 = .ok (.istore 4, 2) := by decide +kernel
theorem dX5_wept_51 : decode cX5_wept 51 = .ok (.aload_n 0, 1) := by decide +kernel
theorem dX5_wept_52 : decode cX5_wept 52 = .ok (.getfield 46, 3) := by decide +kernel
theorem dX5_wept_55 : decode cX5_wept 55 = .ok (.getfield 127, 3) := by decide +kernel
theorem dX5_wept_58 : decode cX5_wept 58 = .ok (.iload_n 3, 1) := by decide +kernel
theorem dX5_wept_59 : decode cX5_wept 59 = .ok (.invokestatic 130, 3) := by decide +kernel
theorem dX5_wept_62 : decode cX5_wept 62 = .ok (.ifCond .eq 23, 3) := by decide +kernel
theorem dX5_wept_65 : decode cX5_wept 65 = .ok (.iload 4, 2) := by decide +kernel
theorem dX5_wept_67 : decode cX5_wept 67 = .ok (.ifCond .eq 18, 3) := by decide +kernel
theorem dX5_wept_70 : decode cX5_wept 70 = .ok (.iload 4, 2) := by decide +kernel
theorem dX5_wept_72 : decode cX5_wept 72 = .ok (.iload_n 1, 1) := by decide +kernel
theorem dX5_wept_73 : decode cX5_wept 73 = .ok (.iconst (-1), 1) := by decide +kernel
theorem dX5_wept_74 : decode cX5_wept 74 = .ok (.ixor, 1) := by decide +kernel
theorem dX5_wept_75 : decode cX5_wept 75 = .ok (.iand, 1) := by decide +kernel
theorem dX5_wept_76 : decode cX5_wept 76 = .ok (.ifCond .ne 9, 3) := by decide +kernel
theorem dX5_wept_79 : decode cX5_wept 79 = .ok (.iload_n 2, 1) := by decide +kernel
theorem dX5_wept_80 : decode cX5_wept 80 = .ok (.iconst 1, 1) := by decide +kernel
theorem dX5_wept_81 : decode cX5_wept 81 = .ok (.iload_n 3, 1) := by decide +kernel
theorem dX5_wept_82 : decode cX5_wept 82 = .ok (.ishl, 1) := by decide +kernel
theorem dX5_wept_83 : decode cX5_wept 83 = .ok (.ior, 1) := by decide +kernel
theorem dX5_wept_84 : decode cX5_wept 84 = .ok (.istore_n 2, 1) := by decide +kernel
theorem dX5_wept_85 : decode cX5_wept 85 = .ok (.iinc 3 1, 3) := by decide +kernel
theorem dX5_wept_88 : decode cX5_wept 88 = .ok (.goto (-65), 3) := by decide +kernel
theorem dX5_wept_91 : decode cX5_wept 91 = .ok (.iload_n 2, 1) := by decide +kernel
theorem dX5_wept_92 : decode cX5_wept 92 = .ok (.ireturn, 1) := by decide +kernel
set_option maxRecDepth 20000 in
theorem ggX5_gets_X5_isGuest : GoodIn wsX5_gets wsX5_isGuest := goodIn_r _ [6, 7, 24, 25, 26, 27, 28, 29, 30, 31, 32, 33, 34, 35, 36, 37, 41, 42, 43, 44, 45, 46, 47] (by decide +kernel) (by decide +kernel)
set_option maxRecDepth 20000 in
theorem gX5_gets_X5_isGuest : GoodIn wsX5_gets (wsV RX5 114 RX5 yX5_isGuest wsX5_isGuest) := goodIn_app (goodIn_of _ (by decide +kernel)) ggX5_gets_X5_isGuest
set_option maxRecDepth 20000 in
theorem ggX5_gets_X1_howManyIn : GoodIn wsX5_gets wsX1_howManyIn := goodIn_r _ [10, 11, 12, 9, 13, 14, 15, 16, 17, 18, 19, 20] (by decide +kernel) (by decide +kernel)
set_option maxRecDepth 20000 in
theorem gX5_gets_X1_howManyIn_n207 : GoodIn wsX5_gets (wsX1_howManyIn) := ggX5_gets_X1_howManyIn
set_option maxRecDepth 20000 in
theorem ggX5_gets_X1_isIn : GoodIn wsX5_gets wsX1_isIn := goodIn_r _ [22] (by decide +kernel) (by decide +kernel)
set_option maxRecDepth 20000 in
theorem gX5_gets_X1_isIn_n130 : GoodIn wsX5_gets (wsX1_isIn) := ggX5_gets_X1_isIn
set_option maxRecDepth 20000 in
theorem ggX5_gets_X1_insiders : GoodIn wsX5_gets wsX1_insiders := goodIn_r _ [13] (by decide +kernel) (by decide +kernel)
set_option maxRecDepth 20000 in
theorem gX5_gets_X1_insiders_n158 : GoodIn wsX5_gets (wsX1_insiders) := ggX5_gets_X1_insiders
set_option maxRecDepth 20000 in
theorem ggX5_gets_J6_bitCount_0f7a4 : GoodIn wsX5_gets wsJ6_bitCount_0f7a4 := goodIn_r _ [17, 18, 19, 20] (by decide +kernel) (by decide +kernel)
set_option maxRecDepth 20000 in
theorem gX5_gets_J6_bitCount_0f7a4 : GoodIn wsX5_gets (va_wsS RX5 249 yJ6_bitCount_0f7a4 wsJ6_bitCount_0f7a4) := goodIn_app (goodIn_of _ (by decide +kernel)) ggX5_gets_J6_bitCount_0f7a4
theorem dX5_gets_0 : decode cX5_gets 0 = .ok (.aload_n 0, 1) := by decide +kernel
theorem dX5_gets_1 : decode cX5_gets 1 = .ok (.iload_n 1, 1) := by decide +kernel
theorem dX5_gets_2 : decode cX5_gets 2 = .ok (.invokevirtual 114, 3) := by decide +kernel
theorem dX5_gets_5 : decode cX5_gets 5 = .ok (.ifCond .eq 15, 3) := by decide +kernel
theorem dX5_gets_8 : decode cX5_gets 8 = .ok (.iload_n 2, 1) := by decide +kernel
theorem dX5_gets_9 : decode cX5_gets 9 = .ok (.iconst 1, 1) := by decide +kernel
theorem dX5_gets_10 : decode cX5_gets 10 = .ok (.if_icmp .lt 10, 3) := by decide +kernel
theorem dX5_gets_13 : decode cX5_gets 13 = .ok (.iload_n 2, 1) := by decide +kernel
theorem dX5_gets_14 : decode cX5_gets 14 = .ok (.sipush 999, 3) := by decide +kernel
theorem dX5_gets_17 : decode cX5_gets 17 = .ok (.if_icmp .le 5, 3) := by decide +kernel
theorem dX5_gets_20 : decode cX5_gets 20 = .ok (.iconst (-1), 1) := by decide +kernel
theorem dX5_gets_21 : decode cX5_gets 21 = .ok (.ireturn, 1) := by decide +kernel
theorem dX5_gets_22 : decode cX5_gets 22 = .ok (.aload_n 0, 1) := by decide +kernel
theorem dX5_gets_23 : decode cX5_gets 23 = .ok (.getfield 46, 3) := by decide +kernel
theorem dX5_gets_26 : decode cX5_gets 26 = .ok (.getfield 127, 3) := by decide +kernel
theorem dX5_gets_29 : decode cX5_gets 29 = .ok (.invokestatic 207, 3) := by decide +kernel
theorem dX5_gets_32 : decode cX5_gets 32 = .ok (.istore_n 3, 1) := by decide +kernel
theorem dX5_gets_33 : decode cX5_gets 33 = .ok (.aload_n 0, 1) := by decide +kernel
theorem dX5_gets_34 : decode cX5_gets 34 = .ok (.getfield 46, 3) := by decide +kernel
theorem dX5_gets_37 : decode cX5_gets 37 = .ok (.getfield 127, 3) := by decide +kernel
theorem dX5_gets_40 : decode cX5_gets 40 = .ok (.iload_n 1, 1) := by decide +kernel
theorem dX5_gets_41 : decode cX5_gets 41 = .ok (.invokestatic 130, 3) := by decide +kernel
theorem dX5_gets_44 : decode cX5_gets 44 = .ok (.ifCond .eq 7, 3) := by decide +kernel
theorem dX5_gets_47 : decode cX5_gets 47 = .ok (.iload_n 3, 1) := by decide +kernel
theorem dX5_gets_48 : decode cX5_gets 48 = .ok (.ifCond .gt 5, 3) := by decide +kernel
theorem dX5_gets_51 : decode cX5_gets 51 = .ok (.iconst 0, 1) := by decide +kernel
theorem dX5_gets_52 : decode cX5_gets 52 = .ok (.ireturn, 1) := by decide +kernel
theorem dX5_gets_53 : decode cX5_gets 53 = .ok (.aload_n 0, 1) := by decide +kernel
theorem dX5_gets_54 : decode cX5_gets 54 = .ok (.getfield 46, 3) := by decide +kernel
theorem dX5_gets_57 : decode cX5_gets 57 = .ok (.getfield 127, 3) := by decide +kernel
theorem dX5_gets_60 : decode cX5_gets 60 = .ok (.invokestatic 158, 3) := by decide +kernel
theorem dX5_gets_63 : decode cX5_gets 63 = .ok (.iconst 1, 1) := by decide +kernel
theorem dX5_gets_64 : decode cX5_gets 64 = .ok (.iload_n 1, 1) := by decide +kernel
theorem dX5_gets_65 : decode cX5_gets 65 = .ok (.ishl, 1) := by decide +kernel
theorem dX5_gets_66 : decode cX5_gets 66 = .ok (.iconst 1, 1) := by decide +kernel
theorem dX5_gets_67 : decode cX5_gets 67 = .ok (.isub, 1) := by decide +kernel
theorem dX5_gets_68 : decode cX5_gets 68 = .ok (.iand, 1) := by decide +kernel
theorem dX5_gets_69 : decode cX5_gets 69 = .ok (.invokestatic 249, 3) := by decide +kernel
theorem dX5_gets_72 : decode cX5_gets 72 = .ok (.istore 4, 2) := by decide +kernel
theorem dX5_gets_74 : decode cX5_gets 74 = .ok (.iload_n 2, 1) := by decide +kernel
theorem dX5_gets_75 : decode cX5_gets 75 = .ok (.iload_n 3, 1) := by decide +kernel
theorem dX5_gets_76 : decode cX5_gets 76 = .ok (.idiv, 1) := by decide +kernel
theorem dX5_gets_77 : decode cX5_gets 77 = .ok (.iload 4, 2) := by decide +kernel
theorem dX5_gets_79 : decode cX5_gets 79 = .ok (.iload_n 2, 1) := by decide +kernel
theorem dX5_gets_80 : decode cX5_gets 80 = .ok (.iload_n 3, 1) := by decide +kernel
theorem dX5_gets_81 : decode cX5_gets 81 = .ok (.irem, 1) := by decide +kernel
theorem dX5_gets_82 : decode cX5_gets 82 = .ok (.if_icmp .ge 7, 3) := by decide +kernel
theorem dX5_gets_85 : decode cX5_gets 85 = .ok (.iconst 1, 1) := by decide +kernel
theorem dX5_gets_86 : decode cX5_gets 86 = .ok (.goto 4, 3) := by decide +kernel
theorem dX5_gets_89 : decode cX5_gets 89 = .ok (.iconst 0, 1) := by decide +kernel
theorem dX5_gets_90 : decode cX5_gets 90 = .ok (.iadd, 1) := by decide +kernel
theorem dX5_gets_91 : decode cX5_gets 91 = .ok (.ireturn, 1) := by decide +kernel
set_option maxRecDepth 20000 in
theorem ggX5_stops_J6_bitCount_0f7a4 : GoodIn wsX5_stops wsJ6_bitCount_0f7a4 := goodIn_r _ [6, 7, 8, 9] (by decide +kernel) (by decide +kernel)
set_option maxRecDepth 20000 in
theorem gX5_stops_J6_bitCount_0f7a4 : GoodIn wsX5_stops (va_wsS RX5 249 yJ6_bitCount_0f7a4 wsJ6_bitCount_0f7a4) := goodIn_app (goodIn_of _ (by decide +kernel)) ggX5_stops_J6_bitCount_0f7a4
set_option maxRecDepth 20000 in
theorem ggX5_stops_X1_insiders : GoodIn wsX5_stops wsX1_insiders := goodIn_r _ [12] (by decide +kernel) (by decide +kernel)
set_option maxRecDepth 20000 in
theorem gX5_stops_X1_insiders_n158 : GoodIn wsX5_stops (wsX1_insiders) := ggX5_stops_X1_insiders
set_option maxRecDepth 20000 in
theorem ggX5_stops_X5_griefOfSet : GoodIn wsX5_stops wsX5_griefOfSet := goodIn_r _ [17, 1, 2, 18, 11, 19, 20, 21, 22, 23, 24, 25, 26, 27, 28, 29, 30, 31, 32, 33, 34, 35, 36, 37, 38, 39, 40, 41, 42, 43, 44] (by decide +kernel) (by decide +kernel)
set_option maxRecDepth 20000 in
theorem gX5_stops_X5_griefOfSet : GoodIn wsX5_stops (wsV RX5 254 RX5 yX5_griefOfSet wsX5_griefOfSet) := goodIn_app (goodIn_of _ (by decide +kernel)) ggX5_stops_X5_griefOfSet
theorem dX5_stops_0 : decode cX5_stops 0 = .ok (.bipush (-9), 2) := by decide +kernel
theorem dX5_stops_2 : decode cX5_stops 2 = .ok (.istore_n 1, 1) := by decide +kernel
theorem dX5_stops_3 : decode cX5_stops 3 = .ok (.bipush 7, 2) := by decide +kernel
theorem dX5_stops_5 : decode cX5_stops 5 = .ok (.istore_n 2, 1) := by decide +kernel
theorem dX5_stops_6 : decode cX5_stops 6 = .ok (.iconst 1, 1) := by decide +kernel
theorem dX5_stops_7 : decode cX5_stops 7 = .ok (.istore_n 3, 1) := by decide +kernel
theorem dX5_stops_8 : decode cX5_stops 8 = .ok (.iload_n 3, 1) := by decide +kernel
theorem dX5_stops_9 : decode cX5_stops 9 = .ok (.iconst 1, 1) := by decide +kernel
theorem dX5_stops_10 : decode cX5_stops 10 = .ok (.aload_n 0, 1) := by decide +kernel
theorem dX5_stops_11 : decode cX5_stops 11 = .ok (.getfield 36, 3) := by decide +kernel
theorem dX5_stops_14 : decode cX5_stops 14 = .ok (.getfield 111, 3) := by decide +kernel
theorem dX5_stops_17 : decode cX5_stops 17 = .ok (.ishl, 1) := by decide +kernel
theorem dX5_stops_18 : decode cX5_stops 18 = .ok (.if_icmp .ge 81, 3) := by decide +kernel
theorem dX5_stops_21 : decode cX5_stops 21 = .ok (.iload_n 3, 1) := by decide +kernel
theorem dX5_stops_22 : decode cX5_stops 22 = .ok (.invokestatic 249, 3) := by decide +kernel
theorem dX5_stops_25 : decode cX5_stops 25 = .ok (.istore 4, 2) := by decide +kernel
theorem dX5_stops_27 : decode cX5_stops 27 = .ok (.iload_n 3, 1) := by decide +kernel
theorem dX5_stops_28 : decode cX5_stops 28 = .ok (.aload_n 0, 1) := by decide +kernel
theorem dX5_stops_29 : decode cX5_stops 29 = .ok (.getfield 46, 3) := by decide +kernel
theorem dX5_stops_32 : decode cX5_stops 32 = .ok (.getfield 127, 3) := by decide +kernel
theorem dX5_stops_35 : decode cX5_stops 35 = .ok (.invokestatic 158, 3) := by decide +kernel
theorem dX5_stops_38 : decode cX5_stops 38 = .ok (.iconst (-1), 1) := by decide +kernel
theorem dX5_stops_39 : decode cX5_stops 39 = .ok (.ixor, 1) := by decide +kernel
theorem dX5_stops_40 : decode cX5_stops 40 = .ok (.iand, 1) := by decide +kernel
theorem dX5_stops_41 : decode cX5_stops 41 = .ok (.ifCond .ne 7, 3) := by decide +kernel
theorem dX5_stops_44 : decode cX5_stops 44 = .ok (.iconst 1, 1) := by decide +kernel
theorem dX5_stops_45 : decode cX5_stops 45 = .ok (.goto 4, 3) := by decide +kernel
theorem dX5_stops_48 : decode cX5_stops 48 = .ok (.iconst 0, 1) := by decide +kernel
theorem dX5_stops_49 : decode cX5_stops 49 = .ok (.istore 5, 2) := by decide +kernel
theorem dX5_stops_51 : decode cX5_stops 51 = .ok (.iload 5, 2) := by decide +kernel
theorem dX5_stops_53 : decode cX5_stops 53 = .ok (.ifCond .eq 40, 3) := by decide +kernel
theorem dX5_stops_56 : decode cX5_stops 56 = .ok (.iload 4, 2) := by decide +kernel
theorem dX5_stops_58 : decode cX5_stops 58 = .ok (.iconst 2, 1) := by decide +kernel
theorem dX5_stops_59 : decode cX5_stops 59 = .ok (.if_icmp .lt 34, 3) := by decide +kernel
theorem dX5_stops_62 : decode cX5_stops 62 = .ok (.iload 4, 2) := by decide +kernel
theorem dX5_stops_64 : decode cX5_stops 64 = .ok (.iload_n 2, 1) := by decide +kernel
theorem dX5_stops_65 : decode cX5_stops 65 = .ok (.if_icmp .ge 28, 3) := by decide +kernel
theorem dX5_stops_68 : decode cX5_stops 68 = .ok (.aload_n 0, 1) := by decide +kernel
theorem dX5_stops_69 : decode cX5_stops 69 = .ok (.iload_n 3, 1) := by decide +kernel
theorem dX5_stops_70 : decode cX5_stops 70 = .ok (.invokevirtual 254, 3) := by decide +kernel
theorem dX5_stops_73 : decode cX5_stops 73 = .ok (.aload_n 0, 1) := by decide +kernel
theorem dX5_stops_74 : decode cX5_stops 74 = .ok (.getfield 36, 3) := by decide +kernel
theorem dX5_stops_77 : decode cX5_stops 77 = .ok (.getfield 257, 3) := by decide +kernel
theorem dX5_stops_80 : decode cX5_stops 80 = .ok (.iload 4, 2) := by decide +kernel
theorem dX5_stops_82 : decode cX5_stops 82 = .ok (.iconst 1, 1) := by decide +kernel
theorem dX5_stops_83 : decode cX5_stops 83 = .ok (.isub, 1) := by decide +kernel
theorem dX5_stops_84 : decode cX5_stops 84 = .ok (.imul, 1) := by decide +kernel
theorem dX5_stops_85 : decode cX5_stops 85 = .ok (.if_icmp .ge 8, 3) := by decide +kernel
theorem dX5_stops_88 : decode cX5_stops 88 = .ok (.iload_n 3, 1) := by decide +kernel
theorem dX5_stops_89 : decode cX5_stops 89 = .ok (.istore_n 1, 1) := by decide +kernel
theorem dX5_stops_90 : decode cX5_stops 90 = .ok (.iload 4, 2) := by decide +kernel
theorem dX5_stops_92 : decode cX5_stops 92 = .ok (.istore_n 2, 1) := by decide +kernel
theorem dX5_stops_93 : decode cX5_stops 93 = .ok (.iinc 3 1, 3) := by decide +kernel
theorem dX5_stops_96 : decode cX5_stops 96 = .ok (.goto (-88), 3) := by decide +kernel
theorem dX5_stops_99 : decode cX5_stops 99 = .ok (.iload_n 1, 1) := by decide +kernel
theorem dX5_stops_100 : decode cX5_stops 100 = .ok (.ireturn, 1) := by decide +kernel
set_option maxRecDepth 20000 in
theorem ggX5_odds_X5_searchRefusal : GoodIn wsX5_odds wsX5_searchRefusal := goodIn_r _ [7, 1, 72, 73, 74, 75, 76, 77, 78, 79, 80, 81, 82, 83, 84, 85, 89, 90, 91, 92, 93, 94, 95] (by decide +kernel) (by decide +kernel)
set_option maxRecDepth 20000 in
theorem gX5_odds_X5_searchRefusal : GoodIn wsX5_odds (wsV RX5 198 RX5 yX5_searchRefusal wsX5_searchRefusal) := goodIn_app (goodIn_of _ (by decide +kernel)) ggX5_odds_X5_searchRefusal
set_option maxRecDepth 20000 in
theorem ggX5_odds_X3_staying : GoodIn wsX5_odds wsX3_staying := goodIn_r _ [10, 11, 12, 9, 13, 14, 15, 16, 17, 18, 19, 20, 21, 22, 23, 24, 25, 26, 27, 28, 29, 30, 31, 32, 33, 34, 35, 36, 37, 38, 39, 40, 41, 42, 43, 44, 45, 46, 47, 48, 49, 50, 51, 52, 53, 54, 55, 56, 57, 58, 59, 60, 61, 62, 63, 64, 8, 89, 90, 91, 92, 93, 94, 95] (by decide +kernel) (by decide +kernel)
set_option maxRecDepth 20000 in
theorem gX5_odds_X3_staying_n260 : GoodIn wsX5_odds (wsX3_staying) := ggX5_odds_X3_staying
set_option maxRecDepth 20000 in
theorem ggX5_odds_X5_tellShare : GoodIn wsX5_odds wsX5_tellShare := goodIn_r _ [68, 69, 70, 71, 72, 73, 74, 75, 76, 77, 78, 79, 80, 81, 82, 83, 84, 85] (by decide +kernel) (by decide +kernel)
set_option maxRecDepth 20000 in
theorem gX5_odds_X5_tellShare : GoodIn wsX5_odds (wsV RX5 264 RX5 yX5_tellShare wsX5_tellShare) := goodIn_app (goodIn_of _ (by decide +kernel)) ggX5_odds_X5_tellShare
theorem dX5_odds_0 : decode cX5_odds 0 = .ok (.aload_n 0, 1) := by decide +kernel
theorem dX5_odds_1 : decode cX5_odds 1 = .ok (.iload_n 1, 1) := by decide +kernel
theorem dX5_odds_2 : decode cX5_odds 2 = .ok (.invokevirtual 198, 3) := by decide +kernel
theorem dX5_odds_5 : decode cX5_odds 5 = .ok (.istore_n 2, 1) := by decide +kernel
theorem dX5_odds_6 : decode cX5_odds 6 = .ok (.iload_n 2, 1) := by decide +kernel
theorem dX5_odds_7 : decode cX5_odds 7 = .ok (.ifCond .eq 5, 3) := by decide +kernel
theorem dX5_odds_10 : decode cX5_odds 10 = .ok (.iload_n 2, 1) := by decide +kernel
theorem dX5_odds_11 : decode cX5_odds 11 = .ok (.ireturn, 1) := by decide +kernel
theorem dX5_odds_12 : decode cX5_odds 12 = .ok (.aload_n 0, 1) := by decide +kernel
theorem dX5_odds_13 : decode cX5_odds 13 = .ok (.aload_n 0, 1) := by decide +kernel
theorem dX5_odds_14 : decode cX5_odds 14 = .ok (.getfield 36, 3) := by decide +kernel
theorem dX5_odds_17 : decode cX5_odds 17 = .ok (.aload_n 0, 1) := by decide +kernel
theorem dX5_odds_18 : decode cX5_odds 18 = .ok (.getfield 46, 3) := by decide +kernel
theorem dX5_odds_21 : decode cX5_odds 21 = .ok (.getfield 127, 3) := by decide +kernel
theorem dX5_odds_24 : decode cX5_odds 24 = .ok (.iload_n 1, 1) := by decide +kernel
theorem dX5_odds_25 : decode cX5_odds 25 = .ok (.invokestatic 260, 3) := by decide +kernel
theorem dX5_odds_28 : decode cX5_odds 28 = .ok (.iload_n 1, 1) := by decide +kernel
theorem dX5_odds_29 : decode cX5_odds 29 = .ok (.invokevirtual 264, 3) := by decide +kernel
theorem dX5_odds_32 : decode cX5_odds 32 = .ok (.iconst 1, 1) := by decide +kernel
theorem dX5_odds_33 : decode cX5_odds 33 = .ok (.ireturn, 1) := by decide +kernel
set_option maxRecDepth 20000 in
theorem ggX5_mid_X5_searchRefusal : GoodIn wsX5_mid wsX5_searchRefusal := goodIn_r _ [7, 2, 79, 80, 81, 82, 83, 84, 85, 86, 87, 88, 89, 90, 91, 92, 96, 97, 98, 99, 100, 101, 102] (by decide +kernel) (by decide +kernel)
set_option maxRecDepth 20000 in
theorem gX5_mid_X5_searchRefusal : GoodIn wsX5_mid (wsV RX5 198 RX5 yX5_searchRefusal wsX5_searchRefusal) := goodIn_app (goodIn_of _ (by decide +kernel)) ggX5_mid_X5_searchRefusal
set_option maxRecDepth 20000 in
theorem ggX5_mid_X1_howManyIn : GoodIn wsX5_mid wsX1_howManyIn := goodIn_r _ [10, 11, 12, 9, 13, 14, 15, 16, 17, 18, 19, 20] (by decide +kernel) (by decide +kernel)
set_option maxRecDepth 20000 in
theorem gX5_mid_X1_howManyIn_n207 : GoodIn wsX5_mid (wsX1_howManyIn) := ggX5_mid_X1_howManyIn
set_option maxRecDepth 20000 in
theorem ggX5_mid_X3_leftByAll : GoodIn wsX5_mid wsX3_leftByAll := goodIn_r _ [23, 8, 9, 10, 11, 12, 13, 14, 15, 16, 17, 18, 19, 20, 24, 25, 26, 27, 28, 29, 30, 31, 32, 33, 34, 35, 36, 37, 38, 39, 40, 41, 42, 43, 44, 45, 46, 47, 48, 49, 50, 51, 52, 53, 54, 55, 56, 57, 58, 59, 60, 61, 62, 63, 64, 65, 66, 67, 68, 69, 70, 71, 21, 22, 96, 97, 98, 99, 100, 101, 102] (by decide +kernel) (by decide +kernel)
set_option maxRecDepth 20000 in
theorem gX5_mid_X3_leftByAll_n268 : GoodIn wsX5_mid (wsX3_leftByAll) := ggX5_mid_X3_leftByAll
set_option maxRecDepth 20000 in
theorem ggX5_mid_X5_tellShare : GoodIn wsX5_mid wsX5_tellShare := goodIn_r _ [75, 76, 77, 78, 79, 80, 81, 82, 83, 84, 85, 86, 87, 88, 89, 90, 91, 92] (by decide +kernel) (by decide +kernel)
set_option maxRecDepth 20000 in
theorem gX5_mid_X5_tellShare : GoodIn wsX5_mid (wsV RX5 264 RX5 yX5_tellShare wsX5_tellShare) := goodIn_app (goodIn_of _ (by decide +kernel)) ggX5_mid_X5_tellShare
theorem dX5_mid_0 : decode cX5_mid 0 = .ok (.aload_n 0, 1) := by decide +kernel
theorem dX5_mid_1 : decode cX5_mid 1 = .ok (.iload_n 1, 1) := by decide +kernel
theorem dX5_mid_2 : decode cX5_mid 2 = .ok (.invokevirtual 198, 3) := by decide +kernel
theorem dX5_mid_5 : decode cX5_mid 5 = .ok (.istore_n 2, 1) := by decide +kernel
theorem dX5_mid_6 : decode cX5_mid 6 = .ok (.iload_n 2, 1) := by decide +kernel
theorem dX5_mid_7 : decode cX5_mid 7 = .ok (.ifCond .eq 5, 3) := by decide +kernel
theorem dX5_mid_10 : decode cX5_mid 10 = .ok (.iload_n 2, 1) := by decide +kernel
theorem dX5_mid_11 : decode cX5_mid 11 = .ok (.ireturn, 1) := by decide +kernel
theorem dX5_mid_12 : decode cX5_mid 12 = .ok (.aload_n 0, 1) := by decide +kernel
theorem dX5_mid_13 : decode cX5_mid 13 = .ok (.getfield 46, 3) := by decide +kernel
theorem dX5_mid_16 : decode cX5_mid 16 = .ok (.getfield 127, 3) := by decide +kernel
theorem dX5_mid_19 : decode cX5_mid 19 = .ok (.invokestatic 207, 3) := by decide +kernel
theorem dX5_mid_22 : decode cX5_mid 22 = .ok (.i2l, 1) := by decide +kernel
theorem dX5_mid_23 : decode cX5_mid 23 = .ok (.iconst 2, 1) := by decide +kernel
theorem dX5_mid_24 : decode cX5_mid 24 = .ok (.iload_n 1, 1) := by decide +kernel
theorem dX5_mid_25 : decode cX5_mid 25 = .ok (.imul, 1) := by decide +kernel
theorem dX5_mid_26 : decode cX5_mid 26 = .ok (.lshl, 1) := by decide +kernel
theorem dX5_mid_27 : decode cX5_mid 27 = .ok (.lstore_n 3, 1) := by decide +kernel
theorem dX5_mid_28 : decode cX5_mid 28 = .ok (.aload_n 0, 1) := by decide +kernel
theorem dX5_mid_29 : decode cX5_mid 29 = .ok (.lload_n 3, 1) := by decide +kernel
theorem dX5_mid_30 : decode cX5_mid 30 = .ok (.aload_n 0, 1) := by decide +kernel
theorem dX5_mid_31 : decode cX5_mid 31 = .ok (.getfield 36, 3) := by decide +kernel
theorem dX5_mid_34 : decode cX5_mid 34 = .ok (.aload_n 0, 1) := by decide +kernel
theorem dX5_mid_35 : decode cX5_mid 35 = .ok (.getfield 46, 3) := by decide +kernel
theorem dX5_mid_38 : decode cX5_mid 38 = .ok (.getfield 127, 3) := by decide +kernel
theorem dX5_mid_41 : decode cX5_mid 41 = .ok (.iload_n 1, 1) := by decide +kernel
theorem dX5_mid_42 : decode cX5_mid 42 = .ok (.invokestatic 268, 3) := by decide +kernel
theorem dX5_mid_45 : decode cX5_mid 45 = .ok (.lsub, 1) := by decide +kernel
theorem dX5_mid_46 : decode cX5_mid 46 = .ok (.iload_n 1, 1) := by decide +kernel
theorem dX5_mid_47 : decode cX5_mid 47 = .ok (.invokevirtual 264, 3) := by decide +kernel
theorem dX5_mid_50 : decode cX5_mid 50 = .ok (.iconst 1, 1) := by decide +kernel
theorem dX5_mid_51 : decode cX5_mid 51 = .ok (.ireturn, 1) := by decide +kernel
set_option maxRecDepth 20000 in
theorem ggX5_lots_X1_howManyIn : GoodIn wsX5_lots wsX1_howManyIn := goodIn_r _ [9, 10, 11, 8, 12, 13, 14, 15, 16, 17, 18, 19] (by decide +kernel) (by decide +kernel)
set_option maxRecDepth 20000 in
theorem gX5_lots_X1_howManyIn_n207 : GoodIn wsX5_lots (wsX1_howManyIn) := ggX5_lots_X1_howManyIn
set_option maxRecDepth 20000 in
theorem ggX5_lots_X2_afterTune : GoodIn wsX5_lots wsX2_afterTune := goodIn_r _ [23, 24, 25, 26, 27, 8, 28, 29, 30, 31, 32, 33, 21, 34, 35, 36, 37, 38, 39, 40, 41, 42, 43, 44, 45, 46, 47, 48, 49, 50, 51, 52, 53, 54, 55, 56, 57, 58, 11, 12, 59, 60, 61, 62, 63, 64, 65, 66, 88, 89, 90, 91, 92, 93, 94] (by decide +kernel) (by decide +kernel)
set_option maxRecDepth 20000 in
theorem gX5_lots_X2_afterTune_n162 : GoodIn wsX5_lots (wsX2_afterTune) := ggX5_lots_X2_afterTune
set_option maxRecDepth 20000 in
theorem ggX5_lots_X0_goOn : GoodIn wsX5_lots wsX0_goOn := goodIn_r _ [70, 71, 72, 73, 95, 96, 97] (by decide +kernel) (by decide +kernel)
set_option maxRecDepth 20000 in
theorem gX5_lots_X0_goOn_n166 : GoodIn wsX5_lots (wsX0_goOn) := ggX5_lots_X0_goOn
theorem dX5_lots_0 : decode cX5_lots 0 = .ok (.iload_n 1, 1) := by decide +kernel
theorem dX5_lots_1 : decode cX5_lots 1 = .ok (.iconst 1, 1) := by decide +kernel
theorem dX5_lots_2 : decode cX5_lots 2 = .ok (.if_icmp .lt 23, 3) := by decide +kernel
theorem dX5_lots_5 : decode cX5_lots 5 = .ok (.iload_n 1, 1) := by decide +kernel
theorem dX5_lots_6 : decode cX5_lots 6 = .ok (.bipush 20, 2) := by decide +kernel
theorem dX5_lots_8 : decode cX5_lots 8 = .ok (.if_icmp .gt 17, 3) := by decide +kernel
theorem dX5_lots_11 : decode cX5_lots 11 = .ok (.iload_n 2, 1) := by decide +kernel
theorem dX5_lots_12 : decode cX5_lots 12 = .ok (.iconst 1, 1) := by decide +kernel
theorem dX5_lots_13 : decode cX5_lots 13 = .ok (.if_icmp .lt 12, 3) := by decide +kernel
theorem dX5_lots_16 : decode cX5_lots 16 = .ok (.iload_n 2, 1) := by decide +kernel
theorem dX5_lots_17 : decode cX5_lots 17 = .ok (.i2l, 1) := by decide +kernel
theorem dX5_lots_18 : decode cX5_lots 18 = .ok (.ldc2_w 271, 3) := by decide +kernel
theorem dX5_lots_21 : decode cX5_lots 21 = .ok (.lcmp, 1) := by decide +kernel
theorem dX5_lots_22 : decode cX5_lots 22 = .ok (.ifCond .lt 5, 3) := by decide +kernel
theorem dX5_lots_25 : decode cX5_lots 25 = .ok (.iconst (-1), 1) := by decide +kernel
theorem dX5_lots_26 : decode cX5_lots 26 = .ok (.ireturn, 1) := by decide +kernel
theorem dX5_lots_27 : decode cX5_lots 27 = .ok (.aload_n 0, 1) := by decide +kernel
theorem dX5_lots_28 : decode cX5_lots 28 = .ok (.getfield 36, 3) := by decide +kernel
theorem dX5_lots_31 : decode cX5_lots 31 = .ok (.getfield 111, 3) := by decide +kernel
theorem dX5_lots_34 : decode cX5_lots 34 = .ok (.ifCond .ne 6, 3) := by decide +kernel
theorem dX5_lots_37 : decode cX5_lots 37 = .ok (.bipush (-4), 2) := by decide +kernel
theorem dX5_lots_39 : decode cX5_lots 39 = .ok (.ireturn, 1) := by decide +kernel
theorem dX5_lots_40 : decode cX5_lots 40 = .ok (.aload_n 0, 1) := by decide +kernel
theorem dX5_lots_41 : decode cX5_lots 41 = .ok (.getfield 46, 3) := by decide +kernel
theorem dX5_lots_44 : decode cX5_lots 44 = .ok (.getfield 71, 3) := by decide +kernel
theorem dX5_lots_47 : decode cX5_lots 47 = .ok (.iload_n 1, 1) := by decide +kernel
theorem dX5_lots_48 : decode cX5_lots 48 = .ok (.iadd, 1) := by decide +kernel
theorem dX5_lots_49 : decode cX5_lots 49 = .ok (.bipush 40, 2) := by decide +kernel
theorem dX5_lots_51 : decode cX5_lots 51 = .ok (.if_icmp .le 6, 3) := by decide +kernel
theorem dX5_lots_54 : decode cX5_lots 54 = .ok (.bipush (-2), 2) := by decide +kernel
theorem dX5_lots_56 : decode cX5_lots 56 = .ok (.ireturn, 1) := by decide +kernel
theorem dX5_lots_57 : decode cX5_lots 57 = .ok (.aload_n 0, 1) := by decide +kernel
theorem dX5_lots_58 : decode cX5_lots 58 = .ok (.getfield 46, 3) := by decide +kernel
theorem dX5_lots_61 : decode cX5_lots 61 = .ok (.getfield 127, 3) := by decide +kernel
theorem dX5_lots_64 : decode cX5_lots 64 = .ok (.invokestatic 207, 3) := by decide +kernel
theorem dX5_lots_67 : decode cX5_lots 67 = .ok (.istore_n 3, 1) := by decide +kernel
theorem dX5_lots_68 : decode cX5_lots 68 = .ok (.iload_n 2, 1) := by decide +kernel
theorem dX5_lots_69 : decode cX5_lots 69 = .ok (.i2l, 1) := by decide +kernel
theorem dX5_lots_70 : decode cX5_lots 70 = .ok (.lstore 4, 2) := by decide +kernel
theorem dX5_lots_72 : decode cX5_lots 72 = .ok (.iconst 0, 1) := by decide +kernel
theorem dX5_lots_73 : decode cX5_lots 73 = .ok (.istore 6, 2) := by decide +kernel
theorem dX5_lots_75 : decode cX5_lots 75 = .ok (.iload 6, 2) := by decide +kernel
theorem dX5_lots_77 : decode cX5_lots 77 = .ok (.iload_n 1, 1) := by decide +kernel
theorem dX5_lots_78 : decode cX5_lots 78 = .ok (.if_icmp .ge 53, 3) := by decide +kernel
theorem dX5_lots_81 : decode cX5_lots 81 = .ok (.lload 4, 2) := by decide +kernel
theorem dX5_lots_83 : decode cX5_lots 83 = .ok (.ldc2_w 273, 3) := by decide +kernel
theorem dX5_lots_86 : decode cX5_lots 86 = .ok (.lmul, 1) := by decide +kernel
theorem dX5_lots_87 : decode cX5_lots 87 = .ok (.ldc2_w 271, 3) := by decide +kernel
theorem dX5_lots_90 : decode cX5_lots 90 = .ok (.lrem, 1) := by decide +kernel
theorem dX5_lots_91 : decode cX5_lots 91 = .ok (.lstore 4, 2) := by decide +kernel
theorem dX5_lots_93 : decode cX5_lots 93 = .ok (.aload_n 0, 1) := by decide +kernel
theorem dX5_lots_94 : decode cX5_lots 94 = .ok (.getfield 46, 3) := by decide +kernel
theorem dX5_lots_97 : decode cX5_lots 97 = .ok (.aload_n 0, 1) := by decide +kernel
theorem dX5_lots_98 : decode cX5_lots 98 = .ok (.getfield 36, 3) := by decide +kernel
theorem dX5_lots_101 : decode cX5_lots 101 = .ok (.aload_n 0, 1) := by decide +kernel
theorem dX5_lots_102 : decode cX5_lots 102 = .ok (.getfield 46, 3) := by decide +kernel
theorem dX5_lots_105 : decode cX5_lots 105 = .ok (.getfield 127, 3) := by decide +kernel
theorem dX5_lots_108 : decode cX5_lots 108 = .ok (.lload 4, 2) := by decide +kernel
theorem dX5_lots_110 : decode cX5_lots 110 = .ok (.ldc2_w 275, 3) := by decide +kernel
theorem dX5_lots_113 : decode cX5_lots 113 = .ok (.ldiv, 1) := by decide +kernel
theorem dX5_lots_114 : decode cX5_lots 114 = .ok (.ldc2_w 277, 3) := by decide +kernel
theorem dX5_lots_117 : decode cX5_lots 117 = .ok (.lrem, 1) := by decide +kernel
theorem dX5_lots_118 : decode cX5_lots 118 = .ok (.l2i, 1) := by decide +kernel
theorem dX5_lots_119 : decode cX5_lots 119 = .ok (.invokevirtual 162, 3) := by decide +kernel
theorem dX5_lots_122 : decode cX5_lots 122 = .ok (.invokevirtual 166, 3) := by decide +kernel
theorem dX5_lots_125 : decode cX5_lots 125 = .ok (.iinc 6 1, 3) := by decide +kernel
theorem dX5_lots_128 : decode cX5_lots 128 = .ok (.goto (-53), 3) := by decide +kernel
theorem dX5_lots_131 : decode cX5_lots 131 = .ok (.iload_n 3, 1) := by decide +kernel
theorem dX5_lots_132 : decode cX5_lots 132 = .ok (.aload_n 0, 1) := by decide +kernel
theorem dX5_lots_133 : decode cX5_lots 133 = .ok (.getfield 46, 3) := by decide +kernel
theorem dX5_lots_136 : decode cX5_lots 136 = .ok (.getfield 127, 3) := by decide +kernel
theorem dX5_lots_139 : decode cX5_lots 139 = .ok (.invokestatic 207, 3) := by decide +kernel
theorem dX5_lots_142 : decode cX5_lots 142 = .ok (.isub, 1) := by decide +kernel
theorem dX5_lots_143 : decode cX5_lots 143 = .ok (.ireturn, 1) := by decide +kernel
theorem dX5_asked_0 : decode cX5_asked 0 = .ok (.aload_n 0, 1) := by decide +kernel
theorem dX5_asked_1 : decode cX5_asked 1 = .ok (.getfield 61, 3) := by decide +kernel
theorem dX5_asked_4 : decode cX5_asked 4 = .ok (.ireturn, 1) := by decide +kernel
theorem dX5_upper_0 : decode cX5_upper 0 = .ok (.aload_n 0, 1) := by decide +kernel
theorem dX5_upper_1 : decode cX5_upper 1 = .ok (.getfield 64, 3) := by decide +kernel
theorem dX5_upper_4 : decode cX5_upper 4 = .ok (.lreturn, 1) := by decide +kernel
theorem dX5_lower_0 : decode cX5_lower 0 = .ok (.aload_n 0, 1) := by decide +kernel
theorem dX5_lower_1 : decode cX5_lower 1 = .ok (.getfield 68, 3) := by decide +kernel
theorem dX5_lower_4 : decode cX5_lower 4 = .ok (.lreturn, 1) := by decide +kernel
set_option maxRecDepth 20000 in
theorem ggX5_count_X1_howManyIn : GoodIn wsX5_count wsX1_howManyIn := goodIn_r _ [7, 8, 9, 6, 10, 11, 12, 13, 14, 15, 16, 17] (by decide +kernel) (by decide +kernel)
set_option maxRecDepth 20000 in
theorem gX5_count_X1_howManyIn_n207 : GoodIn wsX5_count (wsX1_howManyIn) := ggX5_count_X1_howManyIn
set_option maxRecDepth 20000 in
theorem ggX5_count_X1_griefOfAll : GoodIn wsX5_count wsX1_griefOfAll := goodIn_r _ [19, 20, 21, 6, 22, 23] (by decide +kernel) (by decide +kernel)
set_option maxRecDepth 20000 in
theorem gX5_count_X1_griefOfAll_n192 : GoodIn wsX5_count (wsX1_griefOfAll) := ggX5_count_X1_griefOfAll
set_option maxRecDepth 20000 in
theorem ggX5_count_X2_howManyAre : GoodIn wsX5_count wsX2_howManyAre := goodIn_r _ [27, 28, 29, 30, 31, 32, 55, 56, 57, 58, 59, 60, 61] (by decide +kernel) (by decide +kernel)
set_option maxRecDepth 20000 in
theorem gX5_count_X2_howManyAre_n279 : GoodIn wsX5_count (wsX2_howManyAre) := ggX5_count_X2_howManyAre
set_option maxRecDepth 20000 in
theorem ggX5_count_X5_howManyThere : GoodIn wsX5_count wsX5_howManyThere := goodIn_r _ [35] (by decide +kernel) (by decide +kernel)
set_option maxRecDepth 20000 in
theorem gX5_count_X5_howManyThere : GoodIn wsX5_count (va_wsS RX5 282 yX5_howManyThere wsX5_howManyThere) := goodIn_app (goodIn_of _ (by decide +kernel)) ggX5_count_X5_howManyThere
set_option maxRecDepth 20000 in
theorem ggX5_count_X5_howManyKept : GoodIn wsX5_count wsX5_howManyKept := goodIn_r _ [39, 40, 41, 42, 43, 44, 45, 46, 47, 48, 49, 50, 51, 52, 53, 54, 62, 63, 64] (by decide +kernel) (by decide +kernel)
set_option maxRecDepth 20000 in
theorem gX5_count_X5_howManyKept : GoodIn wsX5_count (wsV RX5 286 RX5 yX5_howManyKept wsX5_howManyKept) := goodIn_app (goodIn_of _ (by decide +kernel)) ggX5_count_X5_howManyKept
theorem dX5_count_0 : decode cX5_count 0 = .ok (.iload_n 1, 1) := by decide +kernel
theorem dX5_count_1 : decode cX5_count 1 = .ok (.tableswitch 140 0 9 #[55, 63, 71, 79, 90, 101, 110, 119, 127, 135], 55) := by decide +kernel
theorem dX5_count_56 : decode cX5_count 56 = .ok (.aload_n 0, 1) := by decide +kernel
theorem dX5_count_57 : decode cX5_count 57 = .ok (.getfield 36, 3) := by decide +kernel
theorem dX5_count_60 : decode cX5_count 60 = .ok (.getfield 111, 3) := by decide +kernel
theorem dX5_count_63 : decode cX5_count 63 = .ok (.ireturn, 1) := by decide +kernel
theorem dX5_count_64 : decode cX5_count 64 = .ok (.aload_n 0, 1) := by decide +kernel
theorem dX5_count_65 : decode cX5_count 65 = .ok (.getfield 36, 3) := by decide +kernel
theorem dX5_count_68 : decode cX5_count 68 = .ok (.getfield 257, 3) := by decide +kernel
theorem dX5_count_71 : decode cX5_count 71 = .ok (.ireturn, 1) := by decide +kernel
theorem dX5_count_72 : decode cX5_count 72 = .ok (.aload_n 0, 1) := by decide +kernel
theorem dX5_count_73 : decode cX5_count 73 = .ok (.getfield 46, 3) := by decide +kernel
theorem dX5_count_76 : decode cX5_count 76 = .ok (.getfield 71, 3) := by decide +kernel
theorem dX5_count_79 : decode cX5_count 79 = .ok (.ireturn, 1) := by decide +kernel
theorem dX5_count_80 : decode cX5_count 80 = .ok (.aload_n 0, 1) := by decide +kernel
theorem dX5_count_81 : decode cX5_count 81 = .ok (.getfield 46, 3) := by decide +kernel
theorem dX5_count_84 : decode cX5_count 84 = .ok (.getfield 127, 3) := by decide +kernel
theorem dX5_count_87 : decode cX5_count 87 = .ok (.invokestatic 207, 3) := by decide +kernel
theorem dX5_count_90 : decode cX5_count 90 = .ok (.ireturn, 1) := by decide +kernel
theorem dX5_count_91 : decode cX5_count 91 = .ok (.aload_n 0, 1) := by decide +kernel
theorem dX5_count_92 : decode cX5_count 92 = .ok (.getfield 46, 3) := by decide +kernel
theorem dX5_count_95 : decode cX5_count 95 = .ok (.getfield 127, 3) := by decide +kernel
theorem dX5_count_98 : decode cX5_count 98 = .ok (.invokestatic 192, 3) := by decide +kernel
theorem dX5_count_101 : decode cX5_count 101 = .ok (.ireturn, 1) := by decide +kernel
theorem dX5_count_102 : decode cX5_count 102 = .ok (.aload_n 0, 1) := by decide +kernel
theorem dX5_count_103 : decode cX5_count 103 = .ok (.getfield 36, 3) := by decide +kernel
theorem dX5_count_106 : decode cX5_count 106 = .ok (.iconst 1, 1) := by decide +kernel
theorem dX5_count_107 : decode cX5_count 107 = .ok (.invokevirtual 279, 3) := by decide +kernel
theorem dX5_count_110 : decode cX5_count 110 = .ok (.ireturn, 1) := by decide +kernel
theorem dX5_count_111 : decode cX5_count 111 = .ok (.aload_n 0, 1) := by decide +kernel
theorem dX5_count_112 : decode cX5_count 112 = .ok (.getfield 36, 3) := by decide +kernel
theorem dX5_count_115 : decode cX5_count 115 = .ok (.iconst 2, 1) := by decide +kernel
theorem dX5_count_116 : decode cX5_count 116 = .ok (.invokevirtual 279, 3) := by decide +kernel
theorem dX5_count_119 : decode cX5_count 119 = .ok (.ireturn, 1) := by decide +kernel
theorem dX5_count_120 : decode cX5_count 120 = .ok (.aload_n 0, 1) := by decide +kernel
theorem dX5_count_121 : decode cX5_count 121 = .ok (.getfield 14, 3) := by decide +kernel
theorem dX5_count_124 : decode cX5_count 124 = .ok (.invokestatic 282, 3) := by decide +kernel
theorem dX5_count_127 : decode cX5_count 127 = .ok (.ireturn, 1) := by decide +kernel
theorem dX5_count_128 : decode cX5_count 128 = .ok (.aload_n 0, 1) := by decide +kernel
theorem dX5_count_129 : decode cX5_count 129 = .ok (.getfield 23, 3) := by decide +kernel
theorem dX5_count_132 : decode cX5_count 132 = .ok (.invokestatic 282, 3) := by decide +kernel
theorem dX5_count_135 : decode cX5_count 135 = .ok (.ireturn, 1) := by decide +kernel
theorem dX5_count_136 : decode cX5_count 136 = .ok (.aload_n 0, 1) := by decide +kernel
theorem dX5_count_137 : decode cX5_count 137 = .ok (.invokevirtual 286, 3) := by decide +kernel
theorem dX5_count_140 : decode cX5_count 140 = .ok (.ireturn, 1) := by decide +kernel
theorem dX5_count_141 : decode cX5_count 141 = .ok (.iconst (-1), 1) := by decide +kernel
theorem dX5_count_142 : decode cX5_count 142 = .ok (.ireturn, 1) := by decide +kernel
theorem dX5_finding_0 : decode cX5_finding 0 = .ok (.aload_n 0, 1) := by decide +kernel
theorem dX5_finding_1 : decode cX5_finding 1 = .ok (.getfield 57, 3) := by decide +kernel
theorem dX5_finding_4 : decode cX5_finding 4 = .ok (.ireturn, 1) := by decide +kernel
theorem dX5_findings_0 : decode cX5_findings 0 = .ok (.iload_n 1, 1) := by decide +kernel
theorem dX5_findings_1 : decode cX5_findings 1 = .ok (.iconst 1, 1) := by decide +kernel
theorem dX5_findings_2 : decode cX5_findings 2 = .ok (.if_icmp .lt 8, 3) := by decide +kernel
theorem dX5_findings_5 : decode cX5_findings 5 = .ok (.iload_n 1, 1) := by decide +kernel
theorem dX5_findings_6 : decode cX5_findings 6 = .ok (.iconst 5, 1) := by decide +kernel
theorem dX5_findings_7 : decode cX5_findings 7 = .ok (.if_icmp .le 5, 3) := by decide +kernel
theorem dX5_findings_10 : decode cX5_findings 10 = .ok (.iconst (-1), 1) := by decide +kernel
theorem dX5_findings_11 : decode cX5_findings 11 = .ok (.ireturn, 1) := by decide +kernel
theorem dX5_findings_12 : decode cX5_findings 12 = .ok (.aload_n 0, 1) := by decide +kernel
theorem dX5_findings_13 : decode cX5_findings 13 = .ok (.getfield 54, 3) := by decide +kernel
theorem dX5_findings_16 : decode cX5_findings 16 = .ok (.iload_n 1, 1) := by decide +kernel
theorem dX5_findings_17 : decode cX5_findings 17 = .ok (.iaload, 1) := by decide +kernel
theorem dX5_findings_18 : decode cX5_findings 18 = .ok (.ireturn, 1) := by decide +kernel
set_option maxRecDepth 20000 in
theorem ggX5_digest_X5_count : GoodIn wsX5_digest wsX5_count := goodIn_r _ [11, 12, 13, 3, 5, 14, 15, 16, 17, 18, 19, 20, 21, 22, 23, 24, 25, 26, 27, 28, 29, 30, 31, 32, 33, 34, 35, 36, 37, 38, 39, 10, 40, 41, 42, 43, 44, 45, 46, 47, 48, 63, 64, 65, 66, 67, 68, 69, 70, 71, 72, 73, 74, 75, 76, 77, 78, 79, 80, 81, 82, 83, 84, 85, 86] (by decide +kernel) (by decide +kernel)
set_option maxRecDepth 20000 in
theorem gX5_digest_X5_count : GoodIn wsX5_digest (wsV RX5 294 RX5 yX5_count wsX5_count) := goodIn_app (goodIn_of _ (by decide +kernel)) ggX5_digest_X5_count
set_option maxRecDepth 20000 in
theorem ggX5_digest_X5_digestParty : GoodIn wsX5_digest wsX5_digestParty := goodIn_r _ [52, 2, 12, 48, 53, 54, 55, 10, 56, 13, 30, 15, 31, 32, 57, 58, 59, 34, 60, 61, 62, 18, 19, 63, 64, 65, 66, 67, 68, 69, 70, 71, 72, 73, 74, 75, 76, 77, 78, 79, 80, 81, 82, 83, 84, 85, 86] (by decide +kernel) (by decide +kernel)
set_option maxRecDepth 20000 in
theorem gX5_digest_X5_digestParty : GoodIn wsX5_digest (wsV RX5 297 RX5 yX5_digestParty wsX5_digestParty) := goodIn_app (goodIn_of _ (by decide +kernel)) ggX5_digest_X5_digestParty
theorem dX5_digest_0 : decode cX5_digest 0 = .ok (.ldc2_w 290, 3) := by decide +kernel
theorem dX5_digest_3 : decode cX5_digest 3 = .ok (.lstore_n 1, 1) := by decide +kernel
theorem dX5_digest_4 : decode cX5_digest 4 = .ok (.iconst 0, 1) := by decide +kernel
theorem dX5_digest_5 : decode cX5_digest 5 = .ok (.istore_n 3, 1) := by decide +kernel
theorem dX5_digest_6 : decode cX5_digest 6 = .ok (.iload_n 3, 1) := by decide +kernel
theorem dX5_digest_7 : decode cX5_digest 7 = .ok (.bipush 9, 2) := by decide +kernel
theorem dX5_digest_9 : decode cX5_digest 9 = .ok (.if_icmp .gt 22, 3) := by decide +kernel
theorem dX5_digest_12 : decode cX5_digest 12 = .ok (.ldc2_w 292, 3) := by decide +kernel
theorem dX5_digest_15 : decode cX5_digest 15 = .ok (.lload_n 1, 1) := by decide +kernel
theorem dX5_digest_16 : decode cX5_digest 16 = .ok (.lmul, 1) := by decide +kernel
theorem dX5_digest_17 : decode cX5_digest 17 = .ok (.aload_n 0, 1) := by decide +kernel
theorem dX5_digest_18 : decode cX5_digest 18 = .ok (.iload_n 3, 1) := by decide +kernel
theorem dX5_digest_19 : decode cX5_digest 19 = .ok (.invokevirtual 294, 3) := by decide +kernel
theorem dX5_digest_22 : decode cX5_digest 22 = .ok (.i2l, 1) := by decide +kernel
theorem dX5_digest_23 : decode cX5_digest 23 = .ok (.ladd, 1) := by decide +kernel
theorem dX5_digest_24 : decode cX5_digest 24 = .ok (.lstore_n 1, 1) := by decide +kernel
theorem dX5_digest_25 : decode cX5_digest 25 = .ok (.iinc 3 1, 3) := by decide +kernel
theorem dX5_digest_28 : decode cX5_digest 28 = .ok (.goto (-22), 3) := by decide +kernel
theorem dX5_digest_31 : decode cX5_digest 31 = .ok (.aload_n 0, 1) := by decide +kernel
theorem dX5_digest_32 : decode cX5_digest 32 = .ok (.lload_n 1, 1) := by decide +kernel
theorem dX5_digest_33 : decode cX5_digest 33 = .ok (.invokevirtual 297, 3) := by decide +kernel
theorem dX5_digest_36 : decode cX5_digest 36 = .ok (.lstore_n 1, 1) := by decide +kernel
theorem dX5_digest_37 : decode cX5_digest 37 = .ok (.iconst 0, 1) := by decide +kernel
theorem dX5_digest_38 : decode cX5_digest 38 = .ok (.istore_n 3, 1) := by decide +kernel
theorem dX5_digest_39 : decode cX5_digest 39 = .ok (.iload_n 3, 1) := by decide +kernel
theorem dX5_digest_40 : decode cX5_digest 40 = .ok (.bipush 6, 2) := by decide +kernel
theorem dX5_digest_42 : decode cX5_digest 42 = .ok (.if_icmp .ge 60, 3) := by decide +kernel
theorem dX5_digest_45 : decode cX5_digest 45 = .ok (.ldc2_w 292, 3) := by decide +kernel
theorem dX5_digest_48 : decode cX5_digest 48 = .ok (.lload_n 1, 1) := by decide +kernel
theorem dX5_digest_49 : decode cX5_digest 49 = .ok (.lmul, 1) := by decide +kernel
theorem dX5_digest_50 : decode cX5_digest 50 = .ok (.aload_n 0, 1) := by decide +kernel
theorem dX5_digest_51 : decode cX5_digest 51 = .ok (.getfield 14, 3) := by decide +kernel
theorem dX5_digest_54 : decode cX5_digest 54 = .ok (.iload_n 3, 1) := by decide +kernel
theorem dX5_digest_55 : decode cX5_digest 55 = .ok (.iaload, 1) := by decide +kernel
theorem dX5_digest_56 : decode cX5_digest 56 = .ok (.i2l, 1) := by decide +kernel
theorem dX5_digest_57 : decode cX5_digest 57 = .ok (.ladd, 1) := by decide +kernel
theorem dX5_digest_58 : decode cX5_digest 58 = .ok (.lstore_n 1, 1) := by decide +kernel
theorem dX5_digest_59 : decode cX5_digest 59 = .ok (.iconst 0, 1) := by decide +kernel
theorem dX5_digest_60 : decode cX5_digest 60 = .ok (.istore 4, 2) := by decide +kernel
theorem dX5_digest_62 : decode cX5_digest 62 = .ok (.iload 4, 2) := by decide +kernel
theorem dX5_digest_64 : decode cX5_digest 64 = .ok (.aload_n 0, 1) := by decide +kernel
theorem dX5_digest_65 : decode cX5_digest 65 = .ok (.getfield 14, 3) := by decide +kernel
theorem dX5_digest_68 : decode cX5_digest 68 = .ok (.iload_n 3, 1) := by decide +kernel
theorem dX5_digest_69 : decode cX5_digest 69 = .ok (.iaload, 1) := by decide +kernel
theorem dX5_digest_70 : decode cX5_digest 70 = .ok (.if_icmp .ge 26, 3) := by decide +kernel
theorem dX5_digest_73 : decode cX5_digest 73 = .ok (.ldc2_w 292, 3) := by decide +kernel
theorem dX5_digest_76 : decode cX5_digest 76 = .ok (.lload_n 1, 1) := by decide +kernel
theorem dX5_digest_77 : decode cX5_digest 77 = .ok (.lmul, 1) := by decide +kernel
theorem dX5_digest_78 : decode cX5_digest 78 = .ok (.aload_n 0, 1) := by decide +kernel
theorem dX5_digest_79 : decode cX5_digest 79 = .ok (.getfield 11, 3) := by decide +kernel
theorem dX5_digest_82 : decode cX5_digest 82 = .ok (.iload_n 3, 1) := by decide +kernel
theorem dX5_digest_83 : decode cX5_digest 83 = .ok (.aaload, 1) := by decide +kernel
theorem dX5_digest_84 : decode cX5_digest 84 = .ok (.iload 4, 2) := by decide +kernel
theorem dX5_digest_86 : decode cX5_digest 86 = .ok (.iaload, 1) := by decide +kernel
theorem dX5_digest_87 : decode cX5_digest 87 = .ok (.i2l, 1) := by decide +kernel
theorem dX5_digest_88 : decode cX5_digest 88 = .ok (.ladd, 1) := by decide +kernel
theorem dX5_digest_89 : decode cX5_digest 89 = .ok (.lstore_n 1, 1) := by decide +kernel
theorem dX5_digest_90 : decode cX5_digest 90 = .ok (.iinc 4 1, 3) := by decide +kernel
theorem dX5_digest_93 : decode cX5_digest 93 = .ok (.goto (-31), 3) := by decide +kernel
theorem dX5_digest_96 : decode cX5_digest 96 = .ok (.iinc 3 1, 3) := by decide +kernel
theorem dX5_digest_99 : decode cX5_digest 99 = .ok (.goto (-60), 3) := by decide +kernel
theorem dX5_digest_102 : decode cX5_digest 102 = .ok (.iconst 0, 1) := by decide +kernel
theorem dX5_digest_103 : decode cX5_digest 103 = .ok (.istore_n 3, 1) := by decide +kernel
theorem dX5_digest_104 : decode cX5_digest 104 = .ok (.iload_n 3, 1) := by decide +kernel
theorem dX5_digest_105 : decode cX5_digest 105 = .ok (.iconst 4, 1) := by decide +kernel
theorem dX5_digest_106 : decode cX5_digest 106 = .ok (.if_icmp .ge 60, 3) := by decide +kernel
theorem dX5_digest_109 : decode cX5_digest 109 = .ok (.ldc2_w 292, 3) := by decide +kernel
theorem dX5_digest_112 : decode cX5_digest 112 = .ok (.lload_n 1, 1) := by decide +kernel
theorem dX5_digest_113 : decode cX5_digest 113 = .ok (.lmul, 1) := by decide +kernel
theorem dX5_digest_114 : decode cX5_digest 114 = .ok (.aload_n 0, 1) := by decide +kernel
theorem dX5_digest_115 : decode cX5_digest 115 = .ok (.getfield 23, 3) := by decide +kernel
theorem dX5_digest_118 : decode cX5_digest 118 = .ok (.iload_n 3, 1) := by decide +kernel
theorem dX5_digest_119 : decode cX5_digest 119 = .ok (.iaload, 1) := by decide +kernel
theorem dX5_digest_120 : decode cX5_digest 120 = .ok (.i2l, 1) := by decide +kernel
theorem dX5_digest_121 : decode cX5_digest 121 = .ok (.ladd, 1) := by decide +kernel
theorem dX5_digest_122 : decode cX5_digest 122 = .ok (.lstore_n 1, 1) := by decide +kernel
theorem dX5_digest_123 : decode cX5_digest 123 = .ok (.iconst 0, 1) := by decide +kernel
theorem dX5_digest_124 : decode cX5_digest 124 = .ok (.istore 4, 2) := by decide +kernel
theorem dX5_digest_126 : decode cX5_digest 126 = .ok (.iload 4, 2) := by decide +kernel
theorem dX5_digest_128 : decode cX5_digest 128 = .ok (.aload_n 0, 1) := by decide +kernel
theorem dX5_digest_129 : decode cX5_digest 129 = .ok (.getfield 23, 3) := by decide +kernel
theorem dX5_digest_132 : decode cX5_digest 132 = .ok (.iload_n 3, 1) := by decide +kernel
theorem dX5_digest_133 : decode cX5_digest 133 = .ok (.iaload, 1) := by decide +kernel
theorem dX5_digest_134 : decode cX5_digest 134 = .ok (.if_icmp .ge 26, 3) := by decide +kernel
theorem dX5_digest_137 : decode cX5_digest 137 = .ok (.ldc2_w 292, 3) := by decide +kernel
theorem dX5_digest_140 : decode cX5_digest 140 = .ok (.lload_n 1, 1) := by decide +kernel
theorem dX5_digest_141 : decode cX5_digest 141 = .ok (.lmul, 1) := by decide +kernel
theorem dX5_digest_142 : decode cX5_digest 142 = .ok (.aload_n 0, 1) := by decide +kernel
theorem dX5_digest_143 : decode cX5_digest 143 = .ok (.getfield 20, 3) := by decide +kernel
theorem dX5_digest_146 : decode cX5_digest 146 = .ok (.iload_n 3, 1) := by decide +kernel
theorem dX5_digest_147 : decode cX5_digest 147 = .ok (.aaload, 1) := by decide +kernel
theorem dX5_digest_148 : decode cX5_digest 148 = .ok (.iload 4, 2) := by decide +kernel
theorem dX5_digest_150 : decode cX5_digest 150 = .ok (.baload, 1) := by decide +kernel
theorem dX5_digest_151 : decode cX5_digest 151 = .ok (.i2l, 1) := by decide +kernel
theorem dX5_digest_152 : decode cX5_digest 152 = .ok (.ladd, 1) := by decide +kernel
theorem dX5_digest_153 : decode cX5_digest 153 = .ok (.lstore_n 1, 1) := by decide +kernel
theorem dX5_digest_154 : decode cX5_digest 154 = .ok (.iinc 4 1, 3) := by decide +kernel
theorem dX5_digest_157 : decode cX5_digest 157 = .ok (.goto (-31), 3) := by decide +kernel
theorem dX5_digest_160 : decode cX5_digest 160 = .ok (.iinc 3 1, 3) := by decide +kernel
theorem dX5_digest_163 : decode cX5_digest 163 = .ok (.goto (-59), 3) := by decide +kernel
theorem dX5_digest_166 : decode cX5_digest 166 = .ok (.lload_n 1, 1) := by decide +kernel
theorem dX5_digest_167 : decode cX5_digest 167 = .ok (.lreturn, 1) := by decide +kernel
theorem dX5_found_0 : decode cX5_found 0 = .ok (.aload_n 0, 1) := by decide +kernel
theorem dX5_found_1 : decode cX5_found 1 = .ok (.iload_n 1, 1) := by decide +kernel
theorem dX5_found_2 : decode cX5_found 2 = .ok (.putfield 57, 3) := by decide +kernel
theorem dX5_found_5 : decode cX5_found 5 = .ok (.aload_n 0, 1) := by decide +kernel
theorem dX5_found_6 : decode cX5_found 6 = .ok (.getfield 54, 3) := by decide +kernel
theorem dX5_found_9 : decode cX5_found 9 = .ok (.iload_n 1, 1) := by decide +kernel
theorem dX5_found_10 : decode cX5_found 10 = .ok (.dup2, 1) := by decide +kernel
theorem dX5_found_11 : decode cX5_found 11 = .ok (.iaload, 1) := by decide +kernel
theorem dX5_found_12 : decode cX5_found 12 = .ok (.iconst 1, 1) := by decide +kernel
theorem dX5_found_13 : decode cX5_found 13 = .ok (.iadd, 1) := by decide +kernel
theorem dX5_found_14 : decode cX5_found 14 = .ok (.iastore, 1) := by decide +kernel
theorem dX5_found_15 : decode cX5_found 15 = .ok (.bipush (-3), 2) := by decide +kernel
theorem dX5_found_17 : decode cX5_found 17 = .ok (.ireturn, 1) := by decide +kernel
theorem dX5_isRow_0 : decode cX5_isRow 0 = .ok (.iload_n 0, 1) := by decide +kernel
theorem dX5_isRow_1 : decode cX5_isRow 1 = .ok (.ifCond .lt 13, 3) := by decide +kernel
theorem dX5_isRow_4 : decode cX5_isRow 4 = .ok (.iload_n 0, 1) := by decide +kernel
theorem dX5_isRow_5 : decode cX5_isRow 5 = .ok (.bipush 6, 2) := by decide +kernel
theorem dX5_isRow_7 : decode cX5_isRow 7 = .ok (.if_icmp .ge 7, 3) := by decide +kernel
theorem dX5_isRow_10 : decode cX5_isRow 10 = .ok (.iconst 1, 1) := by decide +kernel
theorem dX5_isRow_11 : decode cX5_isRow 11 = .ok (.goto 4, 3) := by decide +kernel
theorem dX5_isRow_14 : decode cX5_isRow 14 = .ok (.iconst 0, 1) := by decide +kernel
theorem dX5_isRow_15 : decode cX5_isRow 15 = .ok (.ireturn, 1) := by decide +kernel
theorem dX5_isText_0 : decode cX5_isText 0 = .ok (.iload_n 0, 1) := by decide +kernel
theorem dX5_isText_1 : decode cX5_isText 1 = .ok (.ifCond .lt 12, 3) := by decide +kernel
theorem dX5_isText_4 : decode cX5_isText 4 = .ok (.iload_n 0, 1) := by decide +kernel
theorem dX5_isText_5 : decode cX5_isText 5 = .ok (.iconst 4, 1) := by decide +kernel
theorem dX5_isText_6 : decode cX5_isText 6 = .ok (.if_icmp .ge 7, 3) := by decide +kernel
theorem dX5_isText_9 : decode cX5_isText 9 = .ok (.iconst 1, 1) := by decide +kernel
theorem dX5_isText_10 : decode cX5_isText 10 = .ok (.goto 4, 3) := by decide +kernel
theorem dX5_isText_13 : decode cX5_isText 13 = .ok (.iconst 0, 1) := by decide +kernel
theorem dX5_isText_14 : decode cX5_isText 14 = .ok (.ireturn, 1) := by decide +kernel
theorem dX5_isKeepingPlace_0 : decode cX5_isKeepingPlace 0 = .ok (.iload_n 0, 1) := by decide +kernel
theorem dX5_isKeepingPlace_1 : decode cX5_isKeepingPlace 1 = .ok (.ifCond .lt 12, 3) := by decide +kernel
theorem dX5_isKeepingPlace_4 : decode cX5_isKeepingPlace 4 = .ok (.iload_n 0, 1) := by decide +kernel
theorem dX5_isKeepingPlace_5 : decode cX5_isKeepingPlace 5 = .ok (.iconst 3, 1) := by decide +kernel
theorem dX5_isKeepingPlace_6 : decode cX5_isKeepingPlace 6 = .ok (.if_icmp .ge 7, 3) := by decide +kernel
theorem dX5_isKeepingPlace_9 : decode cX5_isKeepingPlace 9 = .ok (.iconst 1, 1) := by decide +kernel
theorem dX5_isKeepingPlace_10 : decode cX5_isKeepingPlace 10 = .ok (.goto 4, 3) := by decide +kernel
theorem dX5_isKeepingPlace_13 : decode cX5_isKeepingPlace 13 = .ok (.iconst 0, 1) := by decide +kernel
theorem dX5_isKeepingPlace_14 : decode cX5_isKeepingPlace 14 = .ok (.ireturn, 1) := by decide +kernel
theorem dX5_isTune_0 : decode cX5_isTune 0 = .ok (.iload_n 0, 1) := by decide +kernel
theorem dX5_isTune_1 : decode cX5_isTune 1 = .ok (.ifCond .lt 12, 3) := by decide +kernel
theorem dX5_isTune_4 : decode cX5_isTune 4 = .ok (.iload_n 0, 1) := by decide +kernel
theorem dX5_isTune_5 : decode cX5_isTune 5 = .ok (.iconst 4, 1) := by decide +kernel
theorem dX5_isTune_6 : decode cX5_isTune 6 = .ok (.if_icmp .ge 7, 3) := by decide +kernel
theorem dX5_isTune_9 : decode cX5_isTune 9 = .ok (.iconst 1, 1) := by decide +kernel
theorem dX5_isTune_10 : decode cX5_isTune 10 = .ok (.goto 4, 3) := by decide +kernel
theorem dX5_isTune_13 : decode cX5_isTune 13 = .ok (.iconst 0, 1) := by decide +kernel
theorem dX5_isTune_14 : decode cX5_isTune 14 = .ok (.ireturn, 1) := by decide +kernel
theorem dX5_isGrief_0 : decode cX5_isGrief 0 = .ok (.iload_n 0, 1) := by decide +kernel
theorem dX5_isGrief_1 : decode cX5_isGrief 1 = .ok (.ifCond .lt 13, 3) := by decide +kernel
theorem dX5_isGrief_4 : decode cX5_isGrief 4 = .ok (.iload_n 0, 1) := by decide +kernel
theorem dX5_isGrief_5 : decode cX5_isGrief 5 = .ok (.bipush 20, 2) := by decide +kernel
theorem dX5_isGrief_7 : decode cX5_isGrief 7 = .ok (.if_icmp .gt 7, 3) := by decide +kernel
theorem dX5_isGrief_10 : decode cX5_isGrief 10 = .ok (.iconst 1, 1) := by decide +kernel
theorem dX5_isGrief_11 : decode cX5_isGrief 11 = .ok (.goto 4, 3) := by decide +kernel
theorem dX5_isGrief_14 : decode cX5_isGrief 14 = .ok (.iconst 0, 1) := by decide +kernel
theorem dX5_isGrief_15 : decode cX5_isGrief 15 = .ok (.ireturn, 1) := by decide +kernel
theorem dX5_isGuest_0 : decode cX5_isGuest 0 = .ok (.iload_n 1, 1) := by decide +kernel
theorem dX5_isGuest_1 : decode cX5_isGuest 1 = .ok (.ifCond .lt 18, 3) := by decide +kernel
theorem dX5_isGuest_4 : decode cX5_isGuest 4 = .ok (.iload_n 1, 1) := by decide +kernel
theorem dX5_isGuest_5 : decode cX5_isGuest 5 = .ok (.aload_n 0, 1) := by decide +kernel
theorem dX5_isGuest_6 : decode cX5_isGuest 6 = .ok (.getfield 36, 3) := by decide +kernel
theorem dX5_isGuest_9 : decode cX5_isGuest 9 = .ok (.getfield 111, 3) := by decide +kernel
theorem dX5_isGuest_12 : decode cX5_isGuest 12 = .ok (.if_icmp .ge 7, 3) := by decide +kernel
theorem dX5_isGuest_15 : decode cX5_isGuest 15 = .ok (.iconst 1, 1) := by decide +kernel
theorem dX5_isGuest_16 : decode cX5_isGuest 16 = .ok (.goto 4, 3) := by decide +kernel
theorem dX5_isGuest_19 : decode cX5_isGuest 19 = .ok (.iconst 0, 1) := by decide +kernel
theorem dX5_isGuest_20 : decode cX5_isGuest 20 = .ok (.ireturn, 1) := by decide +kernel
theorem dX5_isOfKind_0 : decode cX5_isOfKind 0 = .ok (.iload_n 0, 1) := by decide +kernel
theorem dX5_isOfKind_1 : decode cX5_isOfKind 1 = .ok (.iload_n 1, 1) := by decide +kernel
theorem dX5_isOfKind_2 : decode cX5_isOfKind 2 = .ok (.if_icmp .eq 23, 3) := by decide +kernel
theorem dX5_isOfKind_5 : decode cX5_isOfKind 5 = .ok (.iload_n 0, 1) := by decide +kernel
theorem dX5_isOfKind_6 : decode cX5_isOfKind 6 = .ok (.iconst 4, 1) := by decide +kernel
theorem dX5_isOfKind_7 : decode cX5_isOfKind 7 = .ok (.if_icmp .ne 8, 3) := by decide +kernel
theorem dX5_isOfKind_10 : decode cX5_isOfKind 10 = .ok (.iload_n 1, 1) := by decide +kernel
theorem dX5_isOfKind_11 : decode cX5_isOfKind 11 = .ok (.iconst 1, 1) := by decide +kernel
theorem dX5_isOfKind_12 : decode cX5_isOfKind 12 = .ok (.if_icmp .eq 13, 3) := by decide +kernel
theorem dX5_isOfKind_15 : decode cX5_isOfKind 15 = .ok (.iload_n 0, 1) := by decide +kernel
theorem dX5_isOfKind_16 : decode cX5_isOfKind 16 = .ok (.iconst 5, 1) := by decide +kernel
theorem dX5_isOfKind_17 : decode cX5_isOfKind 17 = .ok (.if_icmp .ne 12, 3) := by decide +kernel
theorem dX5_isOfKind_20 : decode cX5_isOfKind 20 = .ok (.iload_n 1, 1) := by decide +kernel
theorem dX5_isOfKind_21 : decode cX5_isOfKind 21 = .ok (.iconst 2, 1) := by decide +kernel
theorem dX5_isOfKind_22 : decode cX5_isOfKind 22 = .ok (.if_icmp .ne 7, 3) := by decide +kernel
theorem dX5_isOfKind_25 : decode cX5_isOfKind 25 = .ok (.iconst 1, 1) := by decide +kernel
theorem dX5_isOfKind_26 : decode cX5_isOfKind 26 = .ok (.goto 4, 3) := by decide +kernel
theorem dX5_isOfKind_29 : decode cX5_isOfKind 29 = .ok (.iconst 0, 1) := by decide +kernel
theorem dX5_isOfKind_30 : decode cX5_isOfKind 30 = .ok (.ireturn, 1) := by decide +kernel
theorem dX5_makeRow_0 : decode cX5_makeRow 0 = .ok (.iconst 0, 1) := by decide +kernel
theorem dX5_makeRow_1 : decode cX5_makeRow 1 = .ok (.istore_n 3, 1) := by decide +kernel
theorem dX5_makeRow_2 : decode cX5_makeRow 2 = .ok (.iload_n 3, 1) := by decide +kernel
theorem dX5_makeRow_3 : decode cX5_makeRow 3 = .ok (.iload_n 2, 1) := by decide +kernel
theorem dX5_makeRow_4 : decode cX5_makeRow 4 = .ok (.if_icmp .ge 18, 3) := by decide +kernel
theorem dX5_makeRow_7 : decode cX5_makeRow 7 = .ok (.aload_n 0, 1) := by decide +kernel
theorem dX5_makeRow_8 : decode cX5_makeRow 8 = .ok (.getfield 11, 3) := by decide +kernel
theorem dX5_makeRow_11 : decode cX5_makeRow 11 = .ok (.iload_n 1, 1) := by decide +kernel
theorem dX5_makeRow_12 : decode cX5_makeRow 12 = .ok (.aaload, 1) := by decide +kernel
theorem dX5_makeRow_13 : decode cX5_makeRow 13 = .ok (.iload_n 3, 1) := by decide +kernel
theorem dX5_makeRow_14 : decode cX5_makeRow 14 = .ok (.iconst 0, 1) := by decide +kernel
theorem dX5_makeRow_15 : decode cX5_makeRow 15 = .ok (.iastore, 1) := by decide +kernel
theorem dX5_makeRow_16 : decode cX5_makeRow 16 = .ok (.iinc 3 1, 3) := by decide +kernel
theorem dX5_makeRow_19 : decode cX5_makeRow 19 = .ok (.goto (-17), 3) := by decide +kernel
theorem dX5_makeRow_22 : decode cX5_makeRow 22 = .ok (.aload_n 0, 1) := by decide +kernel
theorem dX5_makeRow_23 : decode cX5_makeRow 23 = .ok (.getfield 14, 3) := by decide +kernel
theorem dX5_makeRow_26 : decode cX5_makeRow 26 = .ok (.iload_n 1, 1) := by decide +kernel
theorem dX5_makeRow_27 : decode cX5_makeRow 27 = .ok (.iload_n 2, 1) := by decide +kernel
theorem dX5_makeRow_28 : decode cX5_makeRow 28 = .ok (.iastore, 1) := by decide +kernel
theorem dX5_makeRow_29 : decode cX5_makeRow 29 = .ok (.return_, 1) := by decide +kernel
set_option maxRecDepth 20000 in
theorem ggX5_makeProgramme_X5_makeRow : GoodIn wsX5_makeProgramme wsX5_makeRow := goodIn_r _ [6, 1, 7, 8, 9, 10, 11, 12, 13, 14, 15, 16, 17, 18, 19, 20, 21] (by decide +kernel) (by decide +kernel)
set_option maxRecDepth 20000 in
theorem gX5_makeProgramme_X5_makeRow : GoodIn wsX5_makeProgramme (wsV RX5 82 RX5 yX5_makeRow wsX5_makeRow) := goodIn_app (goodIn_of _ (by decide +kernel)) ggX5_makeProgramme_X5_makeRow
theorem dX5_makeProgramme_0 : decode cX5_makeProgramme 0 = .ok (.aload_n 0, 1) := by decide +kernel
theorem dX5_makeProgramme_1 : decode cX5_makeProgramme 1 = .ok (.iload_n 1, 1) := by decide +kernel
theorem dX5_makeProgramme_2 : decode cX5_makeProgramme 2 = .ok (.iload_n 2, 1) := by decide +kernel
theorem dX5_makeProgramme_3 : decode cX5_makeProgramme 3 = .ok (.invokevirtual 82, 3) := by decide +kernel
theorem dX5_makeProgramme_6 : decode cX5_makeProgramme 6 = .ok (.iconst 0, 1) := by decide +kernel
theorem dX5_makeProgramme_7 : decode cX5_makeProgramme 7 = .ok (.istore 4, 2) := by decide +kernel
theorem dX5_makeProgramme_9 : decode cX5_makeProgramme 9 = .ok (.iload 4, 2) := by decide +kernel
theorem dX5_makeProgramme_11 : decode cX5_makeProgramme 11 = .ok (.iload_n 2, 1) := by decide +kernel
theorem dX5_makeProgramme_12 : decode cX5_makeProgramme 12 = .ok (.if_icmp .ge 30, 3) := by decide +kernel
theorem dX5_makeProgramme_15 : decode cX5_makeProgramme 15 = .ok (.aload_n 0, 1) := by decide +kernel
theorem dX5_makeProgramme_16 : decode cX5_makeProgramme 16 = .ok (.getfield 11, 3) := by decide +kernel
theorem dX5_makeProgramme_19 : decode cX5_makeProgramme 19 = .ok (.iload_n 1, 1) := by decide +kernel
theorem dX5_makeProgramme_20 : decode cX5_makeProgramme 20 = .ok (.aaload, 1) := by decide +kernel
theorem dX5_makeProgramme_21 : decode cX5_makeProgramme 21 = .ok (.iload 4, 2) := by decide +kernel
theorem dX5_makeProgramme_23 : decode cX5_makeProgramme 23 = .ok (.iload_n 3, 1) := by decide +kernel
theorem dX5_makeProgramme_24 : decode cX5_makeProgramme 24 = .ok (.iconst 2, 1) := by decide +kernel
theorem dX5_makeProgramme_25 : decode cX5_makeProgramme 25 = .ok (.iload_n 2, 1) := by decide +kernel
theorem dX5_makeProgramme_26 : decode cX5_makeProgramme 26 = .ok (.iconst 1, 1) := by decide +kernel
theorem dX5_makeProgramme_27 : decode cX5_makeProgramme 27 = .ok (.isub, 1) := by decide +kernel
theorem dX5_makeProgramme_28 : decode cX5_makeProgramme 28 = .ok (.iload 4, 2) := by decide +kernel
theorem dX5_makeProgramme_30 : decode cX5_makeProgramme 30 = .ok (.isub, 1) := by decide +kernel
theorem dX5_makeProgramme_31 : decode cX5_makeProgramme 31 = .ok (.imul, 1) := by decide +kernel
theorem dX5_makeProgramme_32 : decode cX5_makeProgramme 32 = .ok (.ishr, 1) := by decide +kernel
theorem dX5_makeProgramme_33 : decode cX5_makeProgramme 33 = .ok (.iconst 3, 1) := by decide +kernel
theorem dX5_makeProgramme_34 : decode cX5_makeProgramme 34 = .ok (.iand, 1) := by decide +kernel
theorem dX5_makeProgramme_35 : decode cX5_makeProgramme 35 = .ok (.iastore, 1) := by decide +kernel
theorem dX5_makeProgramme_36 : decode cX5_makeProgramme 36 = .ok (.iinc 4 1, 3) := by decide +kernel
theorem dX5_makeProgramme_39 : decode cX5_makeProgramme 39 = .ok (.goto (-30), 3) := by decide +kernel
theorem dX5_makeProgramme_42 : decode cX5_makeProgramme 42 = .ok (.return_, 1) := by decide +kernel
theorem dX5_rowPlaceFinding_0 : decode cX5_rowPlaceFinding 0 = .ok (.aload_n 0, 1) := by decide +kernel
theorem dX5_rowPlaceFinding_1 : decode cX5_rowPlaceFinding 1 = .ok (.getfield 14, 3) := by decide +kernel
theorem dX5_rowPlaceFinding_4 : decode cX5_rowPlaceFinding 4 = .ok (.iload_n 1, 1) := by decide +kernel
theorem dX5_rowPlaceFinding_5 : decode cX5_rowPlaceFinding 5 = .ok (.iaload, 1) := by decide +kernel
theorem dX5_rowPlaceFinding_6 : decode cX5_rowPlaceFinding 6 = .ok (.iconst (-1), 1) := by decide +kernel
theorem dX5_rowPlaceFinding_7 : decode cX5_rowPlaceFinding 7 = .ok (.if_icmp .ne 5, 3) := by decide +kernel
theorem dX5_rowPlaceFinding_10 : decode cX5_rowPlaceFinding 10 = .ok (.iconst 1, 1) := by decide +kernel
theorem dX5_rowPlaceFinding_11 : decode cX5_rowPlaceFinding 11 = .ok (.ireturn, 1) := by decide +kernel
theorem dX5_rowPlaceFinding_12 : decode cX5_rowPlaceFinding 12 = .ok (.iload_n 2, 1) := by decide +kernel
theorem dX5_rowPlaceFinding_13 : decode cX5_rowPlaceFinding 13 = .ok (.ifCond .lt 13, 3) := by decide +kernel
theorem dX5_rowPlaceFinding_16 : decode cX5_rowPlaceFinding 16 = .ok (.iload_n 2, 1) := by decide +kernel
theorem dX5_rowPlaceFinding_17 : decode cX5_rowPlaceFinding 17 = .ok (.aload_n 0, 1) := by decide +kernel
theorem dX5_rowPlaceFinding_18 : decode cX5_rowPlaceFinding 18 = .ok (.getfield 14, 3) := by decide +kernel
theorem dX5_rowPlaceFinding_21 : decode cX5_rowPlaceFinding 21 = .ok (.iload_n 1, 1) := by decide +kernel
theorem dX5_rowPlaceFinding_22 : decode cX5_rowPlaceFinding 22 = .ok (.iaload, 1) := by decide +kernel
theorem dX5_rowPlaceFinding_23 : decode cX5_rowPlaceFinding 23 = .ok (.if_icmp .lt 7, 3) := by decide +kernel
theorem dX5_rowPlaceFinding_26 : decode cX5_rowPlaceFinding 26 = .ok (.iconst 2, 1) := by decide +kernel
theorem dX5_rowPlaceFinding_27 : decode cX5_rowPlaceFinding 27 = .ok (.goto 4, 3) := by decide +kernel
theorem dX5_rowPlaceFinding_30 : decode cX5_rowPlaceFinding 30 = .ok (.iconst 0, 1) := by decide +kernel
theorem dX5_rowPlaceFinding_31 : decode cX5_rowPlaceFinding 31 = .ok (.ireturn, 1) := by decide +kernel
set_option maxRecDepth 20000 in
theorem ggX5_programmeFinding_X5_isTune : GoodIn wsX5_programmeFinding wsX5_isTune := goodIn_r _ [6] (by decide +kernel) (by decide +kernel)
set_option maxRecDepth 20000 in
theorem gX5_programmeFinding_X5_isTune : GoodIn wsX5_programmeFinding (va_wsS RX5 152 yX5_isTune wsX5_isTune) := goodIn_app (goodIn_of _ (by decide +kernel)) ggX5_programmeFinding_X5_isTune
theorem dX5_programmeFinding_0 : decode cX5_programmeFinding 0 = .ok (.aload_n 0, 1) := by decide +kernel
theorem dX5_programmeFinding_1 : decode cX5_programmeFinding 1 = .ok (.getfield 14, 3) := by decide +kernel
theorem dX5_programmeFinding_4 : decode cX5_programmeFinding 4 = .ok (.iload_n 1, 1) := by decide +kernel
theorem dX5_programmeFinding_5 : decode cX5_programmeFinding 5 = .ok (.iaload, 1) := by decide +kernel
theorem dX5_programmeFinding_6 : decode cX5_programmeFinding 6 = .ok (.iconst (-1), 1) := by decide +kernel
theorem dX5_programmeFinding_7 : decode cX5_programmeFinding 7 = .ok (.if_icmp .ne 5, 3) := by decide +kernel
theorem dX5_programmeFinding_10 : decode cX5_programmeFinding 10 = .ok (.iconst 1, 1) := by decide +kernel
theorem dX5_programmeFinding_11 : decode cX5_programmeFinding 11 = .ok (.ireturn, 1) := by decide +kernel
theorem dX5_programmeFinding_12 : decode cX5_programmeFinding 12 = .ok (.aload_n 0, 1) := by decide +kernel
theorem dX5_programmeFinding_13 : decode cX5_programmeFinding 13 = .ok (.getfield 14, 3) := by decide +kernel
theorem dX5_programmeFinding_16 : decode cX5_programmeFinding 16 = .ok (.iload_n 1, 1) := by decide +kernel
theorem dX5_programmeFinding_17 : decode cX5_programmeFinding 17 = .ok (.iaload, 1) := by decide +kernel
theorem dX5_programmeFinding_18 : decode cX5_programmeFinding 18 = .ok (.bipush 6, 2) := by decide +kernel
theorem dX5_programmeFinding_20 : decode cX5_programmeFinding 20 = .ok (.if_icmp .le 5, 3) := by decide +kernel
theorem dX5_programmeFinding_23 : decode cX5_programmeFinding 23 = .ok (.iconst 5, 1) := by decide +kernel
theorem dX5_programmeFinding_24 : decode cX5_programmeFinding 24 = .ok (.ireturn, 1) := by decide +kernel
theorem dX5_programmeFinding_25 : decode cX5_programmeFinding 25 = .ok (.iconst 0, 1) := by decide +kernel
theorem dX5_programmeFinding_26 : decode cX5_programmeFinding 26 = .ok (.istore_n 2, 1) := by decide +kernel
theorem dX5_programmeFinding_27 : decode cX5_programmeFinding 27 = .ok (.iload_n 2, 1) := by decide +kernel
theorem dX5_programmeFinding_28 : decode cX5_programmeFinding 28 = .ok (.aload_n 0, 1) := by decide +kernel
theorem dX5_programmeFinding_29 : decode cX5_programmeFinding 29 = .ok (.getfield 14, 3) := by decide +kernel
theorem dX5_programmeFinding_32 : decode cX5_programmeFinding 32 = .ok (.iload_n 1, 1) := by decide +kernel
theorem dX5_programmeFinding_33 : decode cX5_programmeFinding 33 = .ok (.iaload, 1) := by decide +kernel
theorem dX5_programmeFinding_34 : decode cX5_programmeFinding 34 = .ok (.if_icmp .ge 25, 3) := by decide +kernel
theorem dX5_programmeFinding_37 : decode cX5_programmeFinding 37 = .ok (.aload_n 0, 1) := by decide +kernel
theorem dX5_programmeFinding_38 : decode cX5_programmeFinding 38 = .ok (.getfield 11, 3) := by decide +kernel
theorem dX5_programmeFinding_41 : decode cX5_programmeFinding 41 = .ok (.iload_n 1, 1) := by decide +kernel
theorem dX5_programmeFinding_42 : decode cX5_programmeFinding 42 = .ok (.aaload, 1) := by decide +kernel
theorem dX5_programmeFinding_43 : decode cX5_programmeFinding 43 = .ok (.iload_n 2, 1) := by decide +kernel
theorem dX5_programmeFinding_44 : decode cX5_programmeFinding 44 = .ok (.iaload, 1) := by decide +kernel
theorem dX5_programmeFinding_45 : decode cX5_programmeFinding 45 = .ok (.invokestatic 152, 3) := by decide +kernel
theorem dX5_programmeFinding_48 : decode cX5_programmeFinding 48 = .ok (.ifCond .ne 5, 3) := by decide +kernel
theorem dX5_programmeFinding_51 : decode cX5_programmeFinding 51 = .ok (.iconst 3, 1) := by decide +kernel
theorem dX5_programmeFinding_52 : decode cX5_programmeFinding 52 = .ok (.ireturn, 1) := by decide +kernel
theorem dX5_programmeFinding_53 : decode cX5_programmeFinding 53 = .ok (.iinc 2 1, 3) := by decide +kernel
theorem dX5_programmeFinding_56 : decode cX5_programmeFinding 56 = .ok (.goto (-29), 3) := by decide +kernel
theorem dX5_programmeFinding_59 : decode cX5_programmeFinding 59 = .ok (.iconst 0, 1) := by decide +kernel
theorem dX5_programmeFinding_60 : decode cX5_programmeFinding 60 = .ok (.ireturn, 1) := by decide +kernel
set_option maxRecDepth 20000 in
theorem ggX5_eveningFinding_X5_isTune : GoodIn wsX5_eveningFinding wsX5_isTune := goodIn_r _ [6] (by decide +kernel) (by decide +kernel)
set_option maxRecDepth 20000 in
theorem gX5_eveningFinding_X5_isTune : GoodIn wsX5_eveningFinding (va_wsS RX5 152 yX5_isTune wsX5_isTune) := goodIn_app (goodIn_of _ (by decide +kernel)) ggX5_eveningFinding_X5_isTune
set_option maxRecDepth 20000 in
theorem ggX5_eveningFinding_X5_isGrief : GoodIn wsX5_eveningFinding wsX5_isGrief := goodIn_r _ [9] (by decide +kernel) (by decide +kernel)
set_option maxRecDepth 20000 in
theorem gX5_eveningFinding_X5_isGrief : GoodIn wsX5_eveningFinding (va_wsS RX5 239 yX5_isGrief wsX5_isGrief) := goodIn_app (goodIn_of _ (by decide +kernel)) ggX5_eveningFinding_X5_isGrief
theorem dX5_eveningFinding_0 : decode cX5_eveningFinding 0 = .ok (.aload_n 0, 1) := by decide +kernel
theorem dX5_eveningFinding_1 : decode cX5_eveningFinding 1 = .ok (.getfield 14, 3) := by decide +kernel
theorem dX5_eveningFinding_4 : decode cX5_eveningFinding 4 = .ok (.iload_n 1, 1) := by decide +kernel
theorem dX5_eveningFinding_5 : decode cX5_eveningFinding 5 = .ok (.iaload, 1) := by decide +kernel
theorem dX5_eveningFinding_6 : decode cX5_eveningFinding 6 = .ok (.istore_n 2, 1) := by decide +kernel
theorem dX5_eveningFinding_7 : decode cX5_eveningFinding 7 = .ok (.iload_n 2, 1) := by decide +kernel
theorem dX5_eveningFinding_8 : decode cX5_eveningFinding 8 = .ok (.iconst (-1), 1) := by decide +kernel
theorem dX5_eveningFinding_9 : decode cX5_eveningFinding 9 = .ok (.if_icmp .ne 5, 3) := by decide +kernel
theorem dX5_eveningFinding_12 : decode cX5_eveningFinding 12 = .ok (.iconst 1, 1) := by decide +kernel
theorem dX5_eveningFinding_13 : decode cX5_eveningFinding 13 = .ok (.ireturn, 1) := by decide +kernel
theorem dX5_eveningFinding_14 : decode cX5_eveningFinding 14 = .ok (.iload_n 2, 1) := by decide +kernel
theorem dX5_eveningFinding_15 : decode cX5_eveningFinding 15 = .ok (.iconst 2, 1) := by decide +kernel
theorem dX5_eveningFinding_16 : decode cX5_eveningFinding 16 = .ok (.irem, 1) := by decide +kernel
theorem dX5_eveningFinding_17 : decode cX5_eveningFinding 17 = .ok (.ifCond .ne 9, 3) := by decide +kernel
theorem dX5_eveningFinding_20 : decode cX5_eveningFinding 20 = .ok (.iload_n 2, 1) := by decide +kernel
theorem dX5_eveningFinding_21 : decode cX5_eveningFinding 21 = .ok (.bipush 16, 2) := by decide +kernel
theorem dX5_eveningFinding_23 : decode cX5_eveningFinding 23 = .ok (.if_icmp .le 5, 3) := by decide +kernel
theorem dX5_eveningFinding_26 : decode cX5_eveningFinding 26 = .ok (.iconst 5, 1) := by decide +kernel
theorem dX5_eveningFinding_27 : decode cX5_eveningFinding 27 = .ok (.ireturn, 1) := by decide +kernel
theorem dX5_eveningFinding_28 : decode cX5_eveningFinding 28 = .ok (.iconst 0, 1) := by decide +kernel
theorem dX5_eveningFinding_29 : decode cX5_eveningFinding 29 = .ok (.istore_n 3, 1) := by decide +kernel
theorem dX5_eveningFinding_30 : decode cX5_eveningFinding 30 = .ok (.iload_n 3, 1) := by decide +kernel
theorem dX5_eveningFinding_31 : decode cX5_eveningFinding 31 = .ok (.iconst 1, 1) := by decide +kernel
theorem dX5_eveningFinding_32 : decode cX5_eveningFinding 32 = .ok (.iadd, 1) := by decide +kernel
theorem dX5_eveningFinding_33 : decode cX5_eveningFinding 33 = .ok (.iload_n 2, 1) := by decide +kernel
theorem dX5_eveningFinding_34 : decode cX5_eveningFinding 34 = .ok (.if_icmp .ge 41, 3) := by decide +kernel
theorem dX5_eveningFinding_37 : decode cX5_eveningFinding 37 = .ok (.aload_n 0, 1) := by decide +kernel
theorem dX5_eveningFinding_38 : decode cX5_eveningFinding 38 = .ok (.getfield 11, 3) := by decide +kernel
theorem dX5_eveningFinding_41 : decode cX5_eveningFinding 41 = .ok (.iload_n 1, 1) := by decide +kernel
theorem dX5_eveningFinding_42 : decode cX5_eveningFinding 42 = .ok (.aaload, 1) := by decide +kernel
theorem dX5_eveningFinding_43 : decode cX5_eveningFinding 43 = .ok (.iload_n 3, 1) := by decide +kernel
theorem dX5_eveningFinding_44 : decode cX5_eveningFinding 44 = .ok (.iaload, 1) := by decide +kernel
theorem dX5_eveningFinding_45 : decode cX5_eveningFinding 45 = .ok (.invokestatic 152, 3) := by decide +kernel
theorem dX5_eveningFinding_48 : decode cX5_eveningFinding 48 = .ok (.ifCond .eq 19, 3) := by decide +kernel
theorem dX5_eveningFinding_51 : decode cX5_eveningFinding 51 = .ok (.aload_n 0, 1) := by decide +kernel
theorem dX5_eveningFinding_52 : decode cX5_eveningFinding 52 = .ok (.getfield 11, 3) := by decide +kernel
theorem dX5_eveningFinding_55 : decode cX5_eveningFinding 55 = .ok (.iload_n 1, 1) := by decide +kernel
theorem dX5_eveningFinding_56 : decode cX5_eveningFinding 56 = .ok (.aaload, 1) := by decide +kernel
theorem dX5_eveningFinding_57 : decode cX5_eveningFinding 57 = .ok (.iload_n 3, 1) := by decide +kernel
theorem dX5_eveningFinding_58 : decode cX5_eveningFinding 58 = .ok (.iconst 1, 1) := by decide +kernel
theorem dX5_eveningFinding_59 : decode cX5_eveningFinding 59 = .ok (.iadd, 1) := by decide +kernel
theorem dX5_eveningFinding_60 : decode cX5_eveningFinding 60 = .ok (.iaload, 1) := by decide +kernel
theorem dX5_eveningFinding_61 : decode cX5_eveningFinding 61 = .ok (.invokestatic 239, 3) := by decide +kernel
theorem dX5_eveningFinding_64 : decode cX5_eveningFinding 64 = .ok (.ifCond .ne 5, 3) := by decide +kernel
theorem dX5_eveningFinding_67 : decode cX5_eveningFinding 67 = .ok (.iconst 3, 1) := by decide +kernel
theorem dX5_eveningFinding_68 : decode cX5_eveningFinding 68 = .ok (.ireturn, 1) := by decide +kernel
theorem dX5_eveningFinding_69 : decode cX5_eveningFinding 69 = .ok (.iinc 3 2, 3) := by decide +kernel
theorem dX5_eveningFinding_72 : decode cX5_eveningFinding 72 = .ok (.goto (-42), 3) := by decide +kernel
theorem dX5_eveningFinding_75 : decode cX5_eveningFinding 75 = .ok (.iconst 0, 1) := by decide +kernel
theorem dX5_eveningFinding_76 : decode cX5_eveningFinding 76 = .ok (.ireturn, 1) := by decide +kernel
theorem dX5_searchRefusal_0 : decode cX5_searchRefusal 0 = .ok (.iload_n 1, 1) := by decide +kernel
theorem dX5_searchRefusal_1 : decode cX5_searchRefusal 1 = .ok (.ifCond .lt 9, 3) := by decide +kernel
theorem dX5_searchRefusal_4 : decode cX5_searchRefusal 4 = .ok (.iload_n 1, 1) := by decide +kernel
theorem dX5_searchRefusal_5 : decode cX5_searchRefusal 5 = .ok (.bipush 6, 2) := by decide +kernel
theorem dX5_searchRefusal_7 : decode cX5_searchRefusal 7 = .ok (.if_icmp .le 5, 3) := by decide +kernel
theorem dX5_searchRefusal_10 : decode cX5_searchRefusal 10 = .ok (.iconst (-1), 1) := by decide +kernel
theorem dX5_searchRefusal_11 : decode cX5_searchRefusal 11 = .ok (.ireturn, 1) := by decide +kernel
theorem dX5_searchRefusal_12 : decode cX5_searchRefusal 12 = .ok (.aload_n 0, 1) := by decide +kernel
theorem dX5_searchRefusal_13 : decode cX5_searchRefusal 13 = .ok (.getfield 36, 3) := by decide +kernel
theorem dX5_searchRefusal_16 : decode cX5_searchRefusal 16 = .ok (.getfield 111, 3) := by decide +kernel
theorem dX5_searchRefusal_19 : decode cX5_searchRefusal 19 = .ok (.ifCond .ne 8, 3) := by decide +kernel
theorem dX5_searchRefusal_22 : decode cX5_searchRefusal 22 = .ok (.bipush (-4), 2) := by decide +kernel
theorem dX5_searchRefusal_24 : decode cX5_searchRefusal 24 = .ok (.goto 4, 3) := by decide +kernel
theorem dX5_searchRefusal_27 : decode cX5_searchRefusal 27 = .ok (.iconst 0, 1) := by decide +kernel
theorem dX5_searchRefusal_28 : decode cX5_searchRefusal 28 = .ok (.ireturn, 1) := by decide +kernel
set_option maxRecDepth 20000 in
theorem ggX5_deedRefusal_X5_isGuest : GoodIn wsX5_deedRefusal wsX5_isGuest := goodIn_r _ [6, 7, 11, 12, 13, 14, 15, 16, 17, 18, 19, 20, 21, 22, 23, 24, 28, 29, 30, 31, 32, 33, 34] (by decide +kernel) (by decide +kernel)
set_option maxRecDepth 20000 in
theorem gX5_deedRefusal_X5_isGuest : GoodIn wsX5_deedRefusal (wsV RX5 114 RX5 yX5_isGuest wsX5_isGuest) := goodIn_app (goodIn_of _ (by decide +kernel)) ggX5_deedRefusal_X5_isGuest
set_option maxRecDepth 20000 in
theorem ggX5_deedRefusal_X1_isIn : GoodIn wsX5_deedRefusal wsX1_isIn := goodIn_r _ [10] (by decide +kernel) (by decide +kernel)
set_option maxRecDepth 20000 in
theorem gX5_deedRefusal_X1_isIn_n130 : GoodIn wsX5_deedRefusal (wsX1_isIn) := ggX5_deedRefusal_X1_isIn
theorem dX5_deedRefusal_0 : decode cX5_deedRefusal 0 = .ok (.aload_n 0, 1) := by decide +kernel
theorem dX5_deedRefusal_1 : decode cX5_deedRefusal 1 = .ok (.iload_n 1, 1) := by decide +kernel
theorem dX5_deedRefusal_2 : decode cX5_deedRefusal 2 = .ok (.invokevirtual 114, 3) := by decide +kernel
theorem dX5_deedRefusal_5 : decode cX5_deedRefusal 5 = .ok (.ifCond .ne 5, 3) := by decide +kernel
theorem dX5_deedRefusal_8 : decode cX5_deedRefusal 8 = .ok (.iconst (-1), 1) := by decide +kernel
theorem dX5_deedRefusal_9 : decode cX5_deedRefusal 9 = .ok (.ireturn, 1) := by decide +kernel
theorem dX5_deedRefusal_10 : decode cX5_deedRefusal 10 = .ok (.aload_n 0, 1) := by decide +kernel
theorem dX5_deedRefusal_11 : decode cX5_deedRefusal 11 = .ok (.getfield 46, 3) := by decide +kernel
theorem dX5_deedRefusal_14 : decode cX5_deedRefusal 14 = .ok (.getfield 127, 3) := by decide +kernel
theorem dX5_deedRefusal_17 : decode cX5_deedRefusal 17 = .ok (.iload_n 1, 1) := by decide +kernel
theorem dX5_deedRefusal_18 : decode cX5_deedRefusal 18 = .ok (.invokestatic 130, 3) := by decide +kernel
theorem dX5_deedRefusal_21 : decode cX5_deedRefusal 21 = .ok (.ifCond .ne 6, 3) := by decide +kernel
theorem dX5_deedRefusal_24 : decode cX5_deedRefusal 24 = .ok (.bipush (-4), 2) := by decide +kernel
theorem dX5_deedRefusal_26 : decode cX5_deedRefusal 26 = .ok (.ireturn, 1) := by decide +kernel
theorem dX5_deedRefusal_27 : decode cX5_deedRefusal 27 = .ok (.aload_n 0, 1) := by decide +kernel
theorem dX5_deedRefusal_28 : decode cX5_deedRefusal 28 = .ok (.getfield 46, 3) := by decide +kernel
theorem dX5_deedRefusal_31 : decode cX5_deedRefusal 31 = .ok (.getfield 71, 3) := by decide +kernel
theorem dX5_deedRefusal_34 : decode cX5_deedRefusal 34 = .ok (.bipush 40, 2) := by decide +kernel
theorem dX5_deedRefusal_36 : decode cX5_deedRefusal 36 = .ok (.if_icmp .lt 8, 3) := by decide +kernel
theorem dX5_deedRefusal_39 : decode cX5_deedRefusal 39 = .ok (.bipush (-2), 2) := by decide +kernel
theorem dX5_deedRefusal_41 : decode cX5_deedRefusal 41 = .ok (.goto 4, 3) := by decide +kernel
theorem dX5_deedRefusal_44 : decode cX5_deedRefusal 44 = .ok (.iconst 0, 1) := by decide +kernel
theorem dX5_deedRefusal_45 : decode cX5_deedRefusal 45 = .ok (.ireturn, 1) := by decide +kernel
set_option maxRecDepth 20000 in
theorem ggX5_eveningRefusal_X5_isGuest : GoodIn wsX5_eveningRefusal wsX5_isGuest := goodIn_r _ [6, 7, 32, 33, 34, 35, 36, 37, 38, 39, 40, 41, 42, 43, 44, 45, 49, 50, 51, 52, 53, 54, 55] (by decide +kernel) (by decide +kernel)
set_option maxRecDepth 20000 in
theorem gX5_eveningRefusal_X5_isGuest : GoodIn wsX5_eveningRefusal (wsV RX5 114 RX5 yX5_isGuest wsX5_isGuest) := goodIn_app (goodIn_of _ (by decide +kernel)) ggX5_eveningRefusal_X5_isGuest
set_option maxRecDepth 20000 in
theorem ggX5_eveningRefusal_X5_isRow : GoodIn wsX5_eveningRefusal wsX5_isRow := goodIn_r _ [10] (by decide +kernel) (by decide +kernel)
set_option maxRecDepth 20000 in
theorem gX5_eveningRefusal_X5_isRow : GoodIn wsX5_eveningRefusal (va_wsS RX5 74 yX5_isRow wsX5_isRow) := goodIn_app (goodIn_of _ (by decide +kernel)) ggX5_eveningRefusal_X5_isRow
set_option maxRecDepth 20000 in
theorem ggX5_eveningRefusal_X1_isIn : GoodIn wsX5_eveningRefusal wsX1_isIn := goodIn_r _ [13] (by decide +kernel) (by decide +kernel)
set_option maxRecDepth 20000 in
theorem gX5_eveningRefusal_X1_isIn_n130 : GoodIn wsX5_eveningRefusal (wsX1_isIn) := ggX5_eveningRefusal_X1_isIn
set_option maxRecDepth 20000 in
theorem ggX5_eveningRefusal_X5_eveningFinding : GoodIn wsX5_eveningRefusal wsX5_eveningFinding := goodIn_r _ [17, 18, 19, 20, 21, 5, 22, 23, 24, 25, 32, 33, 34, 35, 36, 37, 38, 39, 40, 41, 42, 43, 44, 45] (by decide +kernel) (by decide +kernel)
set_option maxRecDepth 20000 in
theorem gX5_eveningRefusal_X5_eveningFinding : GoodIn wsX5_eveningRefusal (wsV RX5 301 RX5 yX5_eveningFinding wsX5_eveningFinding) := goodIn_app (goodIn_of _ (by decide +kernel)) ggX5_eveningRefusal_X5_eveningFinding
set_option maxRecDepth 20000 in
theorem ggX5_eveningRefusal_X5_found : GoodIn wsX5_eveningRefusal wsX5_found := goodIn_r _ [29, 30, 31, 32, 33, 34, 35, 36, 37, 38, 39, 40, 41, 42, 43, 44, 45] (by decide +kernel) (by decide +kernel)
set_option maxRecDepth 20000 in
theorem gX5_eveningRefusal_X5_found : GoodIn wsX5_eveningRefusal (wsV RX5 78 RX5 yX5_found wsX5_found) := goodIn_app (goodIn_of _ (by decide +kernel)) ggX5_eveningRefusal_X5_found
theorem dX5_eveningRefusal_0 : decode cX5_eveningRefusal 0 = .ok (.aload_n 0, 1) := by decide +kernel
theorem dX5_eveningRefusal_1 : decode cX5_eveningRefusal 1 = .ok (.iload_n 1, 1) := by decide +kernel
theorem dX5_eveningRefusal_2 : decode cX5_eveningRefusal 2 = .ok (.invokevirtual 114, 3) := by decide +kernel
theorem dX5_eveningRefusal_5 : decode cX5_eveningRefusal 5 = .ok (.ifCond .eq 10, 3) := by decide +kernel
theorem dX5_eveningRefusal_8 : decode cX5_eveningRefusal 8 = .ok (.iload_n 2, 1) := by decide +kernel
theorem dX5_eveningRefusal_9 : decode cX5_eveningRefusal 9 = .ok (.invokestatic 74, 3) := by decide +kernel
theorem dX5_eveningRefusal_12 : decode cX5_eveningRefusal 12 = .ok (.ifCond .ne 5, 3) := by decide +kernel
theorem dX5_eveningRefusal_15 : decode cX5_eveningRefusal 15 = .ok (.iconst (-1), 1) := by decide +kernel
theorem dX5_eveningRefusal_16 : decode cX5_eveningRefusal 16 = .ok (.ireturn, 1) := by decide +kernel
theorem dX5_eveningRefusal_17 : decode cX5_eveningRefusal 17 = .ok (.aload_n 0, 1) := by decide +kernel
theorem dX5_eveningRefusal_18 : decode cX5_eveningRefusal 18 = .ok (.getfield 46, 3) := by decide +kernel
theorem dX5_eveningRefusal_21 : decode cX5_eveningRefusal 21 = .ok (.getfield 127, 3) := by decide +kernel
theorem dX5_eveningRefusal_24 : decode cX5_eveningRefusal 24 = .ok (.iload_n 1, 1) := by decide +kernel
theorem dX5_eveningRefusal_25 : decode cX5_eveningRefusal 25 = .ok (.invokestatic 130, 3) := by decide +kernel
theorem dX5_eveningRefusal_28 : decode cX5_eveningRefusal 28 = .ok (.ifCond .ne 6, 3) := by decide +kernel
theorem dX5_eveningRefusal_31 : decode cX5_eveningRefusal 31 = .ok (.bipush (-4), 2) := by decide +kernel
theorem dX5_eveningRefusal_33 : decode cX5_eveningRefusal 33 = .ok (.ireturn, 1) := by decide +kernel
theorem dX5_eveningRefusal_34 : decode cX5_eveningRefusal 34 = .ok (.aload_n 0, 1) := by decide +kernel
theorem dX5_eveningRefusal_35 : decode cX5_eveningRefusal 35 = .ok (.iload_n 2, 1) := by decide +kernel
theorem dX5_eveningRefusal_36 : decode cX5_eveningRefusal 36 = .ok (.invokevirtual 301, 3) := by decide +kernel
theorem dX5_eveningRefusal_39 : decode cX5_eveningRefusal 39 = .ok (.istore_n 3, 1) := by decide +kernel
theorem dX5_eveningRefusal_40 : decode cX5_eveningRefusal 40 = .ok (.iload_n 3, 1) := by decide +kernel
theorem dX5_eveningRefusal_41 : decode cX5_eveningRefusal 41 = .ok (.ifCond .ne 7, 3) := by decide +kernel
theorem dX5_eveningRefusal_44 : decode cX5_eveningRefusal 44 = .ok (.iconst 0, 1) := by decide +kernel
theorem dX5_eveningRefusal_45 : decode cX5_eveningRefusal 45 = .ok (.goto 8, 3) := by decide +kernel
theorem dX5_eveningRefusal_48 : decode cX5_eveningRefusal 48 = .ok (.aload_n 0, 1) := by decide +kernel
theorem dX5_eveningRefusal_49 : decode cX5_eveningRefusal 49 = .ok (.iload_n 3, 1) := by decide +kernel
theorem dX5_eveningRefusal_50 : decode cX5_eveningRefusal 50 = .ok (.invokevirtual 78, 3) := by decide +kernel
theorem dX5_eveningRefusal_53 : decode cX5_eveningRefusal 53 = .ok (.ireturn, 1) := by decide +kernel
set_option maxRecDepth 20000 in
theorem ggX5_guestTells_X1_griefOf : GoodIn wsX5_guestTells wsX1_griefOf := goodIn_r _ [5, 6] (by decide +kernel) (by decide +kernel)
set_option maxRecDepth 20000 in
theorem gX5_guestTells_X1_griefOf_n175 : GoodIn wsX5_guestTells (wsX1_griefOf) := ggX5_guestTells_X1_griefOf
set_option maxRecDepth 20000 in
theorem ggX5_guestTells_X1_isIn : GoodIn wsX5_guestTells wsX1_isIn := goodIn_r _ [8] (by decide +kernel) (by decide +kernel)
set_option maxRecDepth 20000 in
theorem gX5_guestTells_X1_isIn_n130 : GoodIn wsX5_guestTells (wsX1_isIn) := ggX5_guestTells_X1_isIn
set_option maxRecDepth 20000 in
theorem ggX5_guestTells_X2_watchers : GoodIn wsX5_guestTells wsX2_watchers := goodIn_r _ [12, 13, 14, 4, 15, 30, 31, 32, 33, 34, 35, 36] (by decide +kernel) (by decide +kernel)
set_option maxRecDepth 20000 in
theorem gX5_guestTells_X2_watchers_n246 : GoodIn wsX5_guestTells (wsX2_watchers) := ggX5_guestTells_X2_watchers
theorem dX5_guestTells_0 : decode cX5_guestTells 0 = .ok (.iload_n 2, 1) := by decide +kernel
theorem dX5_guestTells_1 : decode cX5_guestTells 1 = .ok (.tableswitch 83 0 3 #[31, 41, 53, 73], 31) := by decide +kernel
theorem dX5_guestTells_32 : decode cX5_guestTells 32 = .ok (.aload_n 0, 1) := by decide +kernel
theorem dX5_guestTells_33 : decode cX5_guestTells 33 = .ok (.getfield 36, 3) := by decide +kernel
theorem dX5_guestTells_36 : decode cX5_guestTells 36 = .ok (.getfield 120, 3) := by decide +kernel
theorem dX5_guestTells_39 : decode cX5_guestTells 39 = .ok (.iload_n 1, 1) := by decide +kernel
theorem dX5_guestTells_40 : decode cX5_guestTells 40 = .ok (.iaload, 1) := by decide +kernel
theorem dX5_guestTells_41 : decode cX5_guestTells 41 = .ok (.ireturn, 1) := by decide +kernel
theorem dX5_guestTells_42 : decode cX5_guestTells 42 = .ok (.aload_n 0, 1) := by decide +kernel
theorem dX5_guestTells_43 : decode cX5_guestTells 43 = .ok (.getfield 46, 3) := by decide +kernel
theorem dX5_guestTells_46 : decode cX5_guestTells 46 = .ok (.getfield 127, 3) := by decide +kernel
theorem dX5_guestTells_49 : decode cX5_guestTells 49 = .ok (.iload_n 1, 1) := by decide +kernel
theorem dX5_guestTells_50 : decode cX5_guestTells 50 = .ok (.invokestatic 175, 3) := by decide +kernel
theorem dX5_guestTells_53 : decode cX5_guestTells 53 = .ok (.ireturn, 1) := by decide +kernel
theorem dX5_guestTells_54 : decode cX5_guestTells 54 = .ok (.aload_n 0, 1) := by decide +kernel
theorem dX5_guestTells_55 : decode cX5_guestTells 55 = .ok (.getfield 46, 3) := by decide +kernel
theorem dX5_guestTells_58 : decode cX5_guestTells 58 = .ok (.getfield 127, 3) := by decide +kernel
theorem dX5_guestTells_61 : decode cX5_guestTells 61 = .ok (.iload_n 1, 1) := by decide +kernel
theorem dX5_guestTells_62 : decode cX5_guestTells 62 = .ok (.invokestatic 130, 3) := by decide +kernel
theorem dX5_guestTells_65 : decode cX5_guestTells 65 = .ok (.ifCond .eq 7, 3) := by decide +kernel
theorem dX5_guestTells_68 : decode cX5_guestTells 68 = .ok (.iconst 0, 1) := by decide +kernel
theorem dX5_guestTells_69 : decode cX5_guestTells 69 = .ok (.goto 4, 3) := by decide +kernel
theorem dX5_guestTells_72 : decode cX5_guestTells 72 = .ok (.iconst 1, 1) := by decide +kernel
theorem dX5_guestTells_73 : decode cX5_guestTells 73 = .ok (.ireturn, 1) := by decide +kernel
theorem dX5_guestTells_74 : decode cX5_guestTells 74 = .ok (.aload_n 0, 1) := by decide +kernel
theorem dX5_guestTells_75 : decode cX5_guestTells 75 = .ok (.getfield 36, 3) := by decide +kernel
theorem dX5_guestTells_78 : decode cX5_guestTells 78 = .ok (.getfield 304, 3) := by decide +kernel
theorem dX5_guestTells_81 : decode cX5_guestTells 81 = .ok (.iload_n 1, 1) := by decide +kernel
theorem dX5_guestTells_82 : decode cX5_guestTells 82 = .ok (.iaload, 1) := by decide +kernel
theorem dX5_guestTells_83 : decode cX5_guestTells 83 = .ok (.ireturn, 1) := by decide +kernel
theorem dX5_guestTells_84 : decode cX5_guestTells 84 = .ok (.aload_n 0, 1) := by decide +kernel
theorem dX5_guestTells_85 : decode cX5_guestTells 85 = .ok (.getfield 36, 3) := by decide +kernel
theorem dX5_guestTells_88 : decode cX5_guestTells 88 = .ok (.aload_n 0, 1) := by decide +kernel
theorem dX5_guestTells_89 : decode cX5_guestTells 89 = .ok (.getfield 46, 3) := by decide +kernel
theorem dX5_guestTells_92 : decode cX5_guestTells 92 = .ok (.getfield 127, 3) := by decide +kernel
theorem dX5_guestTells_95 : decode cX5_guestTells 95 = .ok (.iload_n 1, 1) := by decide +kernel
theorem dX5_guestTells_96 : decode cX5_guestTells 96 = .ok (.invokevirtual 246, 3) := by decide +kernel
theorem dX5_guestTells_99 : decode cX5_guestTells 99 = .ok (.ifCond .eq 7, 3) := by decide +kernel
theorem dX5_guestTells_102 : decode cX5_guestTells 102 = .ok (.iconst 1, 1) := by decide +kernel
theorem dX5_guestTells_103 : decode cX5_guestTells 103 = .ok (.goto 4, 3) := by decide +kernel
theorem dX5_guestTells_106 : decode cX5_guestTells 106 = .ok (.iconst 0, 1) := by decide +kernel
theorem dX5_guestTells_107 : decode cX5_guestTells 107 = .ok (.ireturn, 1) := by decide +kernel
set_option maxRecDepth 20000 in
theorem ggX5_icesNeededBy_X1_insiders : GoodIn wsX5_icesNeededBy wsX1_insiders := goodIn_r _ [7] (by decide +kernel) (by decide +kernel)
set_option maxRecDepth 20000 in
theorem gX5_icesNeededBy_X1_insiders_n158 : GoodIn wsX5_icesNeededBy (wsX1_insiders) := ggX5_icesNeededBy_X1_insiders
set_option maxRecDepth 20000 in
theorem ggX5_icesNeededBy_X2_canFall : GoodIn wsX5_icesNeededBy wsX2_canFall := goodIn_r _ [11, 12, 13, 58, 59, 60, 61, 62, 63, 64] (by decide +kernel) (by decide +kernel)
set_option maxRecDepth 20000 in
theorem gX5_icesNeededBy_X2_canFall_n307 : GoodIn wsX5_icesNeededBy (wsX2_canFall) := ggX5_icesNeededBy_X2_canFall
set_option maxRecDepth 20000 in
theorem ggX5_icesNeededBy_X1_griefOf : GoodIn wsX5_icesNeededBy wsX1_griefOf := goodIn_r _ [15, 16] (by decide +kernel) (by decide +kernel)
set_option maxRecDepth 20000 in
theorem gX5_icesNeededBy_X1_griefOf_n175 : GoodIn wsX5_icesNeededBy (wsX1_griefOf) := ggX5_icesNeededBy_X1_griefOf
set_option maxRecDepth 20000 in
theorem ggX5_icesNeededBy_X2_bounded : GoodIn wsX5_icesNeededBy wsX2_bounded := goodIn_r _ [18, 19, 20, 21, 22, 23, 24, 25] (by decide +kernel) (by decide +kernel)
set_option maxRecDepth 20000 in
theorem gX5_icesNeededBy_X2_bounded_n310 : GoodIn wsX5_icesNeededBy (wsX2_bounded) := ggX5_icesNeededBy_X2_bounded
set_option maxRecDepth 20000 in
theorem ggX5_icesNeededBy_X2_keepsTheClause : GoodIn wsX5_icesNeededBy wsX2_keepsTheClause := goodIn_r _ [28, 12, 29, 30, 31, 32, 9, 33, 34, 35, 36, 19, 20, 21, 22, 37, 38, 39, 40, 17, 18, 23, 24, 25, 58, 59, 60, 61, 62, 63, 64] (by decide +kernel) (by decide +kernel)
set_option maxRecDepth 20000 in
theorem gX5_icesNeededBy_X2_keepsTheClause_n313 : GoodIn wsX5_icesNeededBy (wsX2_keepsTheClause) := ggX5_icesNeededBy_X2_keepsTheClause
theorem dX5_icesNeededBy_0 : decode cX5_icesNeededBy 0 = .ok (.aload_n 0, 1) := by decide +kernel
theorem dX5_icesNeededBy_1 : decode cX5_icesNeededBy 1 = .ok (.getfield 36, 3) := by decide +kernel
theorem dX5_icesNeededBy_4 : decode cX5_icesNeededBy 4 = .ok (.aload_n 0, 1) := by decide +kernel
theorem dX5_icesNeededBy_5 : decode cX5_icesNeededBy 5 = .ok (.getfield 46, 3) := by decide +kernel
theorem dX5_icesNeededBy_8 : decode cX5_icesNeededBy 8 = .ok (.getfield 127, 3) := by decide +kernel
theorem dX5_icesNeededBy_11 : decode cX5_icesNeededBy 11 = .ok (.invokestatic 158, 3) := by decide +kernel
theorem dX5_icesNeededBy_14 : decode cX5_icesNeededBy 14 = .ok (.iload_n 1, 1) := by decide +kernel
theorem dX5_icesNeededBy_15 : decode cX5_icesNeededBy 15 = .ok (.invokevirtual 307, 3) := by decide +kernel
theorem dX5_icesNeededBy_18 : decode cX5_icesNeededBy 18 = .ok (.ifCond .ne 5, 3) := by decide +kernel
theorem dX5_icesNeededBy_21 : decode cX5_icesNeededBy 21 = .ok (.iconst 0, 1) := by decide +kernel
theorem dX5_icesNeededBy_22 : decode cX5_icesNeededBy 22 = .ok (.ireturn, 1) := by decide +kernel
theorem dX5_icesNeededBy_23 : decode cX5_icesNeededBy 23 = .ok (.iconst 0, 1) := by decide +kernel
theorem dX5_icesNeededBy_24 : decode cX5_icesNeededBy 24 = .ok (.istore_n 3, 1) := by decide +kernel
theorem dX5_icesNeededBy_25 : decode cX5_icesNeededBy 25 = .ok (.iload_n 3, 1) := by decide +kernel
theorem dX5_icesNeededBy_26 : decode cX5_icesNeededBy 26 = .ok (.bipush 7, 2) := by decide +kernel
theorem dX5_icesNeededBy_28 : decode cX5_icesNeededBy 28 = .ok (.if_icmp .gt 56, 3) := by decide +kernel
theorem dX5_icesNeededBy_31 : decode cX5_icesNeededBy 31 = .ok (.aload_n 0, 1) := by decide +kernel
theorem dX5_icesNeededBy_32 : decode cX5_icesNeededBy 32 = .ok (.getfield 46, 3) := by decide +kernel
theorem dX5_icesNeededBy_35 : decode cX5_icesNeededBy 35 = .ok (.getfield 127, 3) := by decide +kernel
theorem dX5_icesNeededBy_38 : decode cX5_icesNeededBy 38 = .ok (.iload_n 1, 1) := by decide +kernel
theorem dX5_icesNeededBy_39 : decode cX5_icesNeededBy 39 = .ok (.invokestatic 175, 3) := by decide +kernel
theorem dX5_icesNeededBy_42 : decode cX5_icesNeededBy 42 = .ok (.iconst 3, 1) := by decide +kernel
theorem dX5_icesNeededBy_43 : decode cX5_icesNeededBy 43 = .ok (.iload_n 3, 1) := by decide +kernel
theorem dX5_icesNeededBy_44 : decode cX5_icesNeededBy 44 = .ok (.imul, 1) := by decide +kernel
theorem dX5_icesNeededBy_45 : decode cX5_icesNeededBy 45 = .ok (.isub, 1) := by decide +kernel
theorem dX5_icesNeededBy_46 : decode cX5_icesNeededBy 46 = .ok (.invokestatic 310, 3) := by decide +kernel
theorem dX5_icesNeededBy_49 : decode cX5_icesNeededBy 49 = .ok (.istore 4, 2) := by decide +kernel
theorem dX5_icesNeededBy_51 : decode cX5_icesNeededBy 51 = .ok (.aload_n 0, 1) := by decide +kernel
theorem dX5_icesNeededBy_52 : decode cX5_icesNeededBy 52 = .ok (.getfield 36, 3) := by decide +kernel
theorem dX5_icesNeededBy_55 : decode cX5_icesNeededBy 55 = .ok (.iload_n 1, 1) := by decide +kernel
theorem dX5_icesNeededBy_56 : decode cX5_icesNeededBy 56 = .ok (.iload 4, 2) := by decide +kernel
theorem dX5_icesNeededBy_58 : decode cX5_icesNeededBy 58 = .ok (.aload_n 0, 1) := by decide +kernel
theorem dX5_icesNeededBy_59 : decode cX5_icesNeededBy 59 = .ok (.getfield 11, 3) := by decide +kernel
theorem dX5_icesNeededBy_62 : decode cX5_icesNeededBy 62 = .ok (.iload_n 2, 1) := by decide +kernel
theorem dX5_icesNeededBy_63 : decode cX5_icesNeededBy 63 = .ok (.aaload, 1) := by decide +kernel
theorem dX5_icesNeededBy_64 : decode cX5_icesNeededBy 64 = .ok (.aload_n 0, 1) := by decide +kernel
theorem dX5_icesNeededBy_65 : decode cX5_icesNeededBy 65 = .ok (.getfield 14, 3) := by decide +kernel
theorem dX5_icesNeededBy_68 : decode cX5_icesNeededBy 68 = .ok (.iload_n 2, 1) := by decide +kernel
theorem dX5_icesNeededBy_69 : decode cX5_icesNeededBy 69 = .ok (.iaload, 1) := by decide +kernel
theorem dX5_icesNeededBy_70 : decode cX5_icesNeededBy 70 = .ok (.invokevirtual 313, 3) := by decide +kernel
theorem dX5_icesNeededBy_73 : decode cX5_icesNeededBy 73 = .ok (.ifCond .eq 5, 3) := by decide +kernel
theorem dX5_icesNeededBy_76 : decode cX5_icesNeededBy 76 = .ok (.iload_n 3, 1) := by decide +kernel
theorem dX5_icesNeededBy_77 : decode cX5_icesNeededBy 77 = .ok (.ireturn, 1) := by decide +kernel
theorem dX5_icesNeededBy_78 : decode cX5_icesNeededBy 78 = .ok (.iinc 3 1, 3) := by decide +kernel
theorem dX5_icesNeededBy_81 : decode cX5_icesNeededBy 81 = .ok (.goto (-56), 3) := by decide +kernel
theorem dX5_icesNeededBy_84 : decode cX5_icesNeededBy 84 = .ok (.bipush (-9), 2) := by decide +kernel
theorem dX5_icesNeededBy_86 : decode cX5_icesNeededBy 86 = .ok (.ireturn, 1) := by decide +kernel
set_option maxRecDepth 20000 in
theorem ggX5_griefOfSet_X1_griefOf : GoodIn wsX5_griefOfSet wsX1_griefOf := goodIn_r _ [5, 6] (by decide +kernel) (by decide +kernel)
set_option maxRecDepth 20000 in
theorem gX5_griefOfSet_X1_griefOf_n175 : GoodIn wsX5_griefOfSet (wsX1_griefOf) := ggX5_griefOfSet_X1_griefOf
theorem dX5_griefOfSet_0 : decode cX5_griefOfSet 0 = .ok (.iconst 0, 1) := by decide +kernel
theorem dX5_griefOfSet_1 : decode cX5_griefOfSet 1 = .ok (.istore_n 2, 1) := by decide +kernel
theorem dX5_griefOfSet_2 : decode cX5_griefOfSet 2 = .ok (.iconst 0, 1) := by decide +kernel
theorem dX5_griefOfSet_3 : decode cX5_griefOfSet 3 = .ok (.istore_n 3, 1) := by decide +kernel
theorem dX5_griefOfSet_4 : decode cX5_griefOfSet 4 = .ok (.iload_n 3, 1) := by decide +kernel
theorem dX5_griefOfSet_5 : decode cX5_griefOfSet 5 = .ok (.aload_n 0, 1) := by decide +kernel
theorem dX5_griefOfSet_6 : decode cX5_griefOfSet 6 = .ok (.getfield 36, 3) := by decide +kernel
theorem dX5_griefOfSet_9 : decode cX5_griefOfSet 9 = .ok (.getfield 111, 3) := by decide +kernel
theorem dX5_griefOfSet_12 : decode cX5_griefOfSet 12 = .ok (.if_icmp .ge 31, 3) := by decide +kernel
theorem dX5_griefOfSet_15 : decode cX5_griefOfSet 15 = .ok (.iload_n 1, 1) := by decide +kernel
theorem dX5_griefOfSet_16 : decode cX5_griefOfSet 16 = .ok (.iload_n 3, 1) := by decide +kernel
theorem dX5_griefOfSet_17 : decode cX5_griefOfSet 17 = .ok (.ishr, 1) := by decide +kernel
theorem dX5_griefOfSet_18 : decode cX5_griefOfSet 18 = .ok (.iconst 1, 1) := by decide +kernel
theorem dX5_griefOfSet_19 : decode cX5_griefOfSet 19 = .ok (.iand, 1) := by decide +kernel
theorem dX5_griefOfSet_20 : decode cX5_griefOfSet 20 = .ok (.ifCond .eq 17, 3) := by decide +kernel
theorem dX5_griefOfSet_23 : decode cX5_griefOfSet 23 = .ok (.iload_n 2, 1) := by decide +kernel
theorem dX5_griefOfSet_24 : decode cX5_griefOfSet 24 = .ok (.aload_n 0, 1) := by decide +kernel
theorem dX5_griefOfSet_25 : decode cX5_griefOfSet 25 = .ok (.getfield 46, 3) := by decide +kernel
theorem dX5_griefOfSet_28 : decode cX5_griefOfSet 28 = .ok (.getfield 127, 3) := by decide +kernel
theorem dX5_griefOfSet_31 : decode cX5_griefOfSet 31 = .ok (.iload_n 3, 1) := by decide +kernel
theorem dX5_griefOfSet_32 : decode cX5_griefOfSet 32 = .ok (.invokestatic 175, 3) := by decide +kernel
theorem dX5_griefOfSet_35 : decode cX5_griefOfSet 35 = .ok (.iadd, 1) := by decide +kernel
theorem dX5_griefOfSet_36 : decode cX5_griefOfSet 36 = .ok (.istore_n 2, 1) := by decide +kernel
theorem dX5_griefOfSet_37 : decode cX5_griefOfSet 37 = .ok (.iinc 3 1, 3) := by decide +kernel
theorem dX5_griefOfSet_40 : decode cX5_griefOfSet 40 = .ok (.goto (-36), 3) := by decide +kernel
theorem dX5_griefOfSet_43 : decode cX5_griefOfSet 43 = .ok (.iload_n 2, 1) := by decide +kernel
theorem dX5_griefOfSet_44 : decode cX5_griefOfSet 44 = .ok (.ireturn, 1) := by decide +kernel
theorem dX5_tellShare_0 : decode cX5_tellShare 0 = .ok (.aload_n 0, 1) := by decide +kernel
theorem dX5_tellShare_1 : decode cX5_tellShare 1 = .ok (.lload_n 1, 1) := by decide +kernel
theorem dX5_tellShare_2 : decode cX5_tellShare 2 = .ok (.putfield 64, 3) := by decide +kernel
theorem dX5_tellShare_5 : decode cX5_tellShare 5 = .ok (.aload_n 0, 1) := by decide +kernel
theorem dX5_tellShare_6 : decode cX5_tellShare 6 = .ok (.lconst 1, 1) := by decide +kernel
theorem dX5_tellShare_7 : decode cX5_tellShare 7 = .ok (.iconst 2, 1) := by decide +kernel
theorem dX5_tellShare_8 : decode cX5_tellShare 8 = .ok (.iload_n 3, 1) := by decide +kernel
theorem dX5_tellShare_9 : decode cX5_tellShare 9 = .ok (.imul, 1) := by decide +kernel
theorem dX5_tellShare_10 : decode cX5_tellShare 10 = .ok (.lshl, 1) := by decide +kernel
theorem dX5_tellShare_11 : decode cX5_tellShare 11 = .ok (.putfield 68, 3) := by decide +kernel
theorem dX5_tellShare_14 : decode cX5_tellShare 14 = .ok (.iconst 0, 1) := by decide +kernel
theorem dX5_tellShare_15 : decode cX5_tellShare 15 = .ok (.istore 4, 2) := by decide +kernel
theorem dX5_tellShare_17 : decode cX5_tellShare 17 = .ok (.iload 4, 2) := by decide +kernel
theorem dX5_tellShare_19 : decode cX5_tellShare 19 = .ok (.iconst 2, 1) := by decide +kernel
theorem dX5_tellShare_20 : decode cX5_tellShare 20 = .ok (.iload_n 3, 1) := by decide +kernel
theorem dX5_tellShare_21 : decode cX5_tellShare 21 = .ok (.imul, 1) := by decide +kernel
theorem dX5_tellShare_22 : decode cX5_tellShare 22 = .ok (.if_icmp .ge 46, 3) := by decide +kernel
theorem dX5_tellShare_25 : decode cX5_tellShare 25 = .ok (.aload_n 0, 1) := by decide +kernel
theorem dX5_tellShare_26 : decode cX5_tellShare 26 = .ok (.getfield 64, 3) := by decide +kernel
theorem dX5_tellShare_29 : decode cX5_tellShare 29 = .ok (.ldc2_w 316, 3) := by decide +kernel
theorem dX5_tellShare_32 : decode cX5_tellShare 32 = .ok (.lrem, 1) := by decide +kernel
theorem dX5_tellShare_33 : decode cX5_tellShare 33 = .ok (.lconst 0, 1) := by decide +kernel
theorem dX5_tellShare_34 : decode cX5_tellShare 34 = .ok (.lcmp, 1) := by decide +kernel
theorem dX5_tellShare_35 : decode cX5_tellShare 35 = .ok (.ifCond .ne 33, 3) := by decide +kernel
theorem dX5_tellShare_38 : decode cX5_tellShare 38 = .ok (.aload_n 0, 1) := by decide +kernel
theorem dX5_tellShare_39 : decode cX5_tellShare 39 = .ok (.dup, 1) := by decide +kernel
theorem dX5_tellShare_40 : decode cX5_tellShare 40 = .ok (.getfield 64, 3) := by decide +kernel
theorem dX5_tellShare_43 : decode cX5_tellShare 43 = .ok (.ldc2_w 316, 3) := by decide +kernel
theorem dX5_tellShare_46 : decode cX5_tellShare 46 = .ok (.ldiv, 1) := by decide +kernel
theorem dX5_tellShare_47 : decode cX5_tellShare 47 = .ok (.putfield 64, 3) := by decide +kernel
theorem dX5_tellShare_50 : decode cX5_tellShare 50 = .ok (.aload_n 0, 1) := by decide +kernel
theorem dX5_tellShare_51 : decode cX5_tellShare 51 = .ok (.dup, 1) := by decide +kernel
theorem dX5_tellShare_52 : decode cX5_tellShare 52 = .ok (.getfield 68, 3) := by decide +kernel
theorem dX5_tellShare_55 : decode cX5_tellShare 55 = .ok (.ldc2_w 316, 3) := by decide +kernel
theorem dX5_tellShare_58 : decode cX5_tellShare 58 = .ok (.ldiv, 1) := by decide +kernel
theorem dX5_tellShare_59 : decode cX5_tellShare 59 = .ok (.putfield 68, 3) := by decide +kernel
theorem dX5_tellShare_62 : decode cX5_tellShare 62 = .ok (.iinc 4 1, 3) := by decide +kernel
theorem dX5_tellShare_65 : decode cX5_tellShare 65 = .ok (.goto (-48), 3) := by decide +kernel
theorem dX5_tellShare_68 : decode cX5_tellShare 68 = .ok (.return_, 1) := by decide +kernel
theorem dX5_howManyThere_0 : decode cX5_howManyThere 0 = .ok (.iconst 0, 1) := by decide +kernel
theorem dX5_howManyThere_1 : decode cX5_howManyThere 1 = .ok (.istore_n 1, 1) := by decide +kernel
theorem dX5_howManyThere_2 : decode cX5_howManyThere 2 = .ok (.aload_n 0, 1) := by decide +kernel
theorem dX5_howManyThere_3 : decode cX5_howManyThere 3 = .ok (.astore_n 2, 1) := by decide +kernel
theorem dX5_howManyThere_4 : decode cX5_howManyThere 4 = .ok (.aload_n 2, 1) := by decide +kernel
theorem dX5_howManyThere_5 : decode cX5_howManyThere 5 = .ok (.arraylength, 1) := by decide +kernel
theorem dX5_howManyThere_6 : decode cX5_howManyThere 6 = .ok (.istore_n 3, 1) := by decide +kernel
theorem dX5_howManyThere_7 : decode cX5_howManyThere 7 = .ok (.iconst 0, 1) := by decide +kernel
theorem dX5_howManyThere_8 : decode cX5_howManyThere 8 = .ok (.istore 4, 2) := by decide +kernel
theorem dX5_howManyThere_10 : decode cX5_howManyThere 10 = .ok (.iload 4, 2) := by decide +kernel
theorem dX5_howManyThere_12 : decode cX5_howManyThere 12 = .ok (.iload_n 3, 1) := by decide +kernel
theorem dX5_howManyThere_13 : decode cX5_howManyThere 13 = .ok (.if_icmp .ge 24, 3) := by decide +kernel
theorem dX5_howManyThere_16 : decode cX5_howManyThere 16 = .ok (.aload_n 2, 1) := by decide +kernel
theorem dX5_howManyThere_17 : decode cX5_howManyThere 17 = .ok (.iload 4, 2) := by decide +kernel
theorem dX5_howManyThere_19 : decode cX5_howManyThere 19 = .ok (.iaload, 1) := by decide +kernel
theorem dX5_howManyThere_20 : decode cX5_howManyThere 20 = .ok (.istore 5, 2) := by decide +kernel
theorem dX5_howManyThere_22 : decode cX5_howManyThere 22 = .ok (.iload 5, 2) := by decide +kernel
theorem dX5_howManyThere_24 : decode cX5_howManyThere 24 = .ok (.iconst (-1), 1) := by decide +kernel
theorem dX5_howManyThere_25 : decode cX5_howManyThere 25 = .ok (.if_icmp .eq 6, 3) := by decide +kernel
theorem dX5_howManyThere_28 : decode cX5_howManyThere 28 = .ok (.iinc 1 1, 3) := by decide +kernel
theorem dX5_howManyThere_31 : decode cX5_howManyThere 31 = .ok (.iinc 4 1, 3) := by decide +kernel
theorem dX5_howManyThere_34 : decode cX5_howManyThere 34 = .ok (.goto (-24), 3) := by decide +kernel
theorem dX5_howManyThere_37 : decode cX5_howManyThere 37 = .ok (.iload_n 1, 1) := by decide +kernel
theorem dX5_howManyThere_38 : decode cX5_howManyThere 38 = .ok (.ireturn, 1) := by decide +kernel
theorem dX5_howManyKept_0 : decode cX5_howManyKept 0 = .ok (.iconst 0, 1) := by decide +kernel
theorem dX5_howManyKept_1 : decode cX5_howManyKept 1 = .ok (.istore_n 1, 1) := by decide +kernel
theorem dX5_howManyKept_2 : decode cX5_howManyKept 2 = .ok (.aload_n 0, 1) := by decide +kernel
theorem dX5_howManyKept_3 : decode cX5_howManyKept 3 = .ok (.getfield 50, 3) := by decide +kernel
theorem dX5_howManyKept_6 : decode cX5_howManyKept 6 = .ok (.astore_n 2, 1) := by decide +kernel
theorem dX5_howManyKept_7 : decode cX5_howManyKept 7 = .ok (.aload_n 2, 1) := by decide +kernel
theorem dX5_howManyKept_8 : decode cX5_howManyKept 8 = .ok (.arraylength, 1) := by decide +kernel
theorem dX5_howManyKept_9 : decode cX5_howManyKept 9 = .ok (.istore_n 3, 1) := by decide +kernel
theorem dX5_howManyKept_10 : decode cX5_howManyKept 10 = .ok (.iconst 0, 1) := by decide +kernel
theorem dX5_howManyKept_11 : decode cX5_howManyKept 11 = .ok (.istore 4, 2) := by decide +kernel
theorem dX5_howManyKept_13 : decode cX5_howManyKept 13 = .ok (.iload 4, 2) := by decide +kernel
theorem dX5_howManyKept_15 : decode cX5_howManyKept 15 = .ok (.iload_n 3, 1) := by decide +kernel
theorem dX5_howManyKept_16 : decode cX5_howManyKept 16 = .ok (.if_icmp .ge 27, 3) := by decide +kernel
theorem dX5_howManyKept_19 : decode cX5_howManyKept 19 = .ok (.aload_n 2, 1) := by decide +kernel
theorem dX5_howManyKept_20 : decode cX5_howManyKept 20 = .ok (.iload 4, 2) := by decide +kernel
theorem dX5_howManyKept_22 : decode cX5_howManyKept 22 = .ok (.aaload, 1) := by decide +kernel
theorem dX5_howManyKept_23 : decode cX5_howManyKept 23 = .ok (.astore 5, 2) := by decide +kernel
theorem dX5_howManyKept_25 : decode cX5_howManyKept 25 = .ok (.aload 5, 2) := by decide +kernel
theorem dX5_howManyKept_27 : decode cX5_howManyKept 27 = .ok (.getfield 71, 3) := by decide +kernel
theorem dX5_howManyKept_30 : decode cX5_howManyKept 30 = .ok (.iconst (-1), 1) := by decide +kernel
theorem dX5_howManyKept_31 : decode cX5_howManyKept 31 = .ok (.if_icmp .eq 6, 3) := by decide +kernel
theorem dX5_howManyKept_34 : decode cX5_howManyKept 34 = .ok (.iinc 1 1, 3) := by decide +kernel
theorem dX5_howManyKept_37 : decode cX5_howManyKept 37 = .ok (.iinc 4 1, 3) := by decide +kernel
theorem dX5_howManyKept_40 : decode cX5_howManyKept 40 = .ok (.goto (-27), 3) := by decide +kernel
theorem dX5_howManyKept_43 : decode cX5_howManyKept 43 = .ok (.iload_n 1, 1) := by decide +kernel
theorem dX5_howManyKept_44 : decode cX5_howManyKept 44 = .ok (.ireturn, 1) := by decide +kernel
set_option maxRecDepth 20000 in
theorem ggX5_digestParty_X5_guestTells : GoodIn wsX5_digestParty wsX5_guestTells := goodIn_r _ [8, 2, 9, 10, 11, 12, 13, 14, 15, 16, 17, 18, 19, 20, 21, 22, 23, 24, 25, 26, 27, 28, 29, 30, 31, 32, 33, 34, 35, 36, 37, 38, 39, 40, 41, 42, 43, 44, 45, 46] (by decide +kernel) (by decide +kernel)
set_option maxRecDepth 20000 in
theorem gX5_digestParty_X5_guestTells : GoodIn wsX5_digestParty (wsV RX5 117 RX5 yX5_guestTells wsX5_guestTells) := goodIn_app (goodIn_of _ (by decide +kernel)) ggX5_digestParty_X5_guestTells
theorem dX5_digestParty_0 : decode cX5_digestParty 0 = .ok (.lload_n 1, 1) := by decide +kernel
theorem dX5_digestParty_1 : decode cX5_digestParty 1 = .ok (.lstore_n 3, 1) := by decide +kernel
theorem dX5_digestParty_2 : decode cX5_digestParty 2 = .ok (.iconst 0, 1) := by decide +kernel
theorem dX5_digestParty_3 : decode cX5_digestParty 3 = .ok (.istore 5, 2) := by decide +kernel
theorem dX5_digestParty_5 : decode cX5_digestParty 5 = .ok (.iload 5, 2) := by decide +kernel
theorem dX5_digestParty_7 : decode cX5_digestParty 7 = .ok (.iconst 4, 1) := by decide +kernel
theorem dX5_digestParty_8 : decode cX5_digestParty 8 = .ok (.if_icmp .ge 27, 3) := by decide +kernel
theorem dX5_digestParty_11 : decode cX5_digestParty 11 = .ok (.ldc2_w 292, 3) := by decide +kernel
theorem dX5_digestParty_14 : decode cX5_digestParty 14 = .ok (.lload_n 3, 1) := by decide +kernel
theorem dX5_digestParty_15 : decode cX5_digestParty 15 = .ok (.lmul, 1) := by decide +kernel
theorem dX5_digestParty_16 : decode cX5_digestParty 16 = .ok (.aload_n 0, 1) := by decide +kernel
theorem dX5_digestParty_17 : decode cX5_digestParty 17 = .ok (.getfield 36, 3) := by decide +kernel
theorem dX5_digestParty_20 : decode cX5_digestParty 20 = .ok (.getfield 155, 3) := by decide +kernel
theorem dX5_digestParty_23 : decode cX5_digestParty 23 = .ok (.iload 5, 2) := by decide +kernel
theorem dX5_digestParty_25 : decode cX5_digestParty 25 = .ok (.iaload, 1) := by decide +kernel
theorem dX5_digestParty_26 : decode cX5_digestParty 26 = .ok (.i2l, 1) := by decide +kernel
theorem dX5_digestParty_27 : decode cX5_digestParty 27 = .ok (.ladd, 1) := by decide +kernel
theorem dX5_digestParty_28 : decode cX5_digestParty 28 = .ok (.lstore_n 3, 1) := by decide +kernel
theorem dX5_digestParty_29 : decode cX5_digestParty 29 = .ok (.iinc 5 1, 3) := by decide +kernel
theorem dX5_digestParty_32 : decode cX5_digestParty 32 = .ok (.goto (-27), 3) := by decide +kernel
theorem dX5_digestParty_35 : decode cX5_digestParty 35 = .ok (.iconst 0, 1) := by decide +kernel
theorem dX5_digestParty_36 : decode cX5_digestParty 36 = .ok (.istore 5, 2) := by decide +kernel
theorem dX5_digestParty_38 : decode cX5_digestParty 38 = .ok (.iload 5, 2) := by decide +kernel
theorem dX5_digestParty_40 : decode cX5_digestParty 40 = .ok (.aload_n 0, 1) := by decide +kernel
theorem dX5_digestParty_41 : decode cX5_digestParty 41 = .ok (.getfield 36, 3) := by decide +kernel
theorem dX5_digestParty_44 : decode cX5_digestParty 44 = .ok (.getfield 111, 3) := by decide +kernel
theorem dX5_digestParty_47 : decode cX5_digestParty 47 = .ok (.if_icmp .ge 40, 3) := by decide +kernel
theorem dX5_digestParty_50 : decode cX5_digestParty 50 = .ok (.iconst 0, 1) := by decide +kernel
theorem dX5_digestParty_51 : decode cX5_digestParty 51 = .ok (.istore 6, 2) := by decide +kernel
theorem dX5_digestParty_53 : decode cX5_digestParty 53 = .ok (.iload 6, 2) := by decide +kernel
theorem dX5_digestParty_55 : decode cX5_digestParty 55 = .ok (.iconst 4, 1) := by decide +kernel
theorem dX5_digestParty_56 : decode cX5_digestParty 56 = .ok (.if_icmp .gt 25, 3) := by decide +kernel
theorem dX5_digestParty_59 : decode cX5_digestParty 59 = .ok (.ldc2_w 292, 3) := by decide +kernel
theorem dX5_digestParty_62 : decode cX5_digestParty 62 = .ok (.lload_n 3, 1) := by decide +kernel
theorem dX5_digestParty_63 : decode cX5_digestParty 63 = .ok (.lmul, 1) := by decide +kernel
theorem dX5_digestParty_64 : decode cX5_digestParty 64 = .ok (.aload_n 0, 1) := by decide +kernel
theorem dX5_digestParty_65 : decode cX5_digestParty 65 = .ok (.iload 5, 2) := by decide +kernel
theorem dX5_digestParty_67 : decode cX5_digestParty 67 = .ok (.iload 6, 2) := by decide +kernel
theorem dX5_digestParty_69 : decode cX5_digestParty 69 = .ok (.invokevirtual 117, 3) := by decide +kernel
theorem dX5_digestParty_72 : decode cX5_digestParty 72 = .ok (.i2l, 1) := by decide +kernel
theorem dX5_digestParty_73 : decode cX5_digestParty 73 = .ok (.ladd, 1) := by decide +kernel
theorem dX5_digestParty_74 : decode cX5_digestParty 74 = .ok (.lstore_n 3, 1) := by decide +kernel
theorem dX5_digestParty_75 : decode cX5_digestParty 75 = .ok (.iinc 6 1, 3) := by decide +kernel
theorem dX5_digestParty_78 : decode cX5_digestParty 78 = .ok (.goto (-25), 3) := by decide +kernel
theorem dX5_digestParty_81 : decode cX5_digestParty 81 = .ok (.iinc 5 1, 3) := by decide +kernel
theorem dX5_digestParty_84 : decode cX5_digestParty 84 = .ok (.goto (-46), 3) := by decide +kernel
theorem dX5_digestParty_87 : decode cX5_digestParty 87 = .ok (.iconst 0, 1) := by decide +kernel
theorem dX5_digestParty_88 : decode cX5_digestParty 88 = .ok (.istore 5, 2) := by decide +kernel
theorem dX5_digestParty_90 : decode cX5_digestParty 90 = .ok (.iload 5, 2) := by decide +kernel
theorem dX5_digestParty_92 : decode cX5_digestParty 92 = .ok (.iconst 3, 1) := by decide +kernel
theorem dX5_digestParty_93 : decode cX5_digestParty 93 = .ok (.if_icmp .ge 27, 3) := by decide +kernel
theorem dX5_digestParty_96 : decode cX5_digestParty 96 = .ok (.ldc2_w 292, 3) := by decide +kernel
theorem dX5_digestParty_99 : decode cX5_digestParty 99 = .ok (.lload_n 3, 1) := by decide +kernel
theorem dX5_digestParty_100 : decode cX5_digestParty 100 = .ok (.lmul, 1) := by decide +kernel
theorem dX5_digestParty_101 : decode cX5_digestParty 101 = .ok (.aload_n 0, 1) := by decide +kernel
theorem dX5_digestParty_102 : decode cX5_digestParty 102 = .ok (.getfield 50, 3) := by decide +kernel
theorem dX5_digestParty_105 : decode cX5_digestParty 105 = .ok (.iload 5, 2) := by decide +kernel
theorem dX5_digestParty_107 : decode cX5_digestParty 107 = .ok (.aaload, 1) := by decide +kernel
theorem dX5_digestParty_108 : decode cX5_digestParty 108 = .ok (.getfield 71, 3) := by decide +kernel
theorem dX5_digestParty_111 : decode cX5_digestParty 111 = .ok (.i2l, 1) := by decide +kernel
theorem dX5_digestParty_112 : decode cX5_digestParty 112 = .ok (.ladd, 1) := by decide +kernel
theorem dX5_digestParty_113 : decode cX5_digestParty 113 = .ok (.lstore_n 3, 1) := by decide +kernel
theorem dX5_digestParty_114 : decode cX5_digestParty 114 = .ok (.iinc 5 1, 3) := by decide +kernel
theorem dX5_digestParty_117 : decode cX5_digestParty 117 = .ok (.goto (-27), 3) := by decide +kernel
theorem dX5_digestParty_120 : decode cX5_digestParty 120 = .ok (.lload_n 3, 1) := by decide +kernel
theorem dX5_digestParty_121 : decode cX5_digestParty 121 = .ok (.lreturn, 1) := by decide +kernel
