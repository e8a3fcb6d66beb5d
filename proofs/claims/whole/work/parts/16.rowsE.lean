set_option maxRecDepth 20000 in
theorem gX6_guest_X6_in : GoodIn wsX6_guest (va_wsS RX6 75 yX6_in wsX6_in) := goodIn_app (goodIn_of _ (by decide +kernel)) ggX6_guest_X6_in
set_option maxRecDepth 20000 in
theorem ggX6_guest_X6_guestOf : GoodIn wsX6_guest wsX6_guestOf := goodIn_r _ [14, 15, 16, 17, 18, 19, 5, 20, 21, 22, 23, 24, 25, 26, 27, 28, 7, 29, 30, 31, 32, 38, 39, 40, 41, 42, 43, 44, 45, 46, 47, 48, 49, 50, 51, 52, 53, 54, 55, 56, 57, 58, 59, 60, 61, 62, 63, 64] (by decide +kernel) (by decide +kernel)
set_option maxRecDepth 20000 in
theorem gX6_guest_X6_guestOf : GoodIn wsX6_guest (wsV RX6 173 RX6 yX6_guestOf wsX6_guestOf) := goodIn_app (goodIn_of _ (by decide +kernel)) ggX6_guest_X6_guestOf
set_option maxRecDepth 20000 in
theorem ggX6_guest_X6_tell : GoodIn wsX6_guest wsX6_tell := goodIn_r _ [36, 37, 38, 39, 40, 41, 42, 43, 44, 45, 46, 47, 48, 49, 50, 51, 52, 53, 54, 55, 56, 57, 58, 59, 60, 61, 62, 63, 64] (by decide +kernel) (by decide +kernel)
set_option maxRecDepth 20000 in
theorem gX6_guest_X6_tell : GoodIn wsX6_guest (wsV RX6 89 RX6 yX6_tell wsX6_tell) := goodIn_app (goodIn_of _ (by decide +kernel)) ggX6_guest_X6_tell
theorem dX6_guest_0 : decode cX6_guest 0 = .ok (.aload_n 0, 1) := by decide +kernel
theorem dX6_guest_1 : decode cX6_guest 1 = .ok (.iload_n 1, 1) := by decide +kernel
theorem dX6_guest_2 : decode cX6_guest 2 = .ok (.invokevirtual 168, 3) := by decide +kernel
theorem dX6_guest_5 : decode cX6_guest 5 = .ok (.ifCond .eq 15, 3) := by decide +kernel
theorem dX6_guest_8 : decode cX6_guest 8 = .ok (.iload_n 2, 1) := by decide +kernel
theorem dX6_guest_9 : decode cX6_guest 9 = .ok (.i2l, 1) := by decide +kernel
theorem dX6_guest_10 : decode cX6_guest 10 = .ok (.lconst 0, 1) := by decide +kernel
theorem dX6_guest_11 : decode cX6_guest 11 = .ok (.ldc2_w 171, 3) := by decide +kernel
theorem dX6_guest_14 : decode cX6_guest 14 = .ok (.invokestatic 75, 3) := by decide +kernel
theorem dX6_guest_17 : decode cX6_guest 17 = .ok (.ifCond .ne 5, 3) := by decide +kernel
theorem dX6_guest_20 : decode cX6_guest 20 = .ok (.iconst (-1), 1) := by decide +kernel
theorem dX6_guest_21 : decode cX6_guest 21 = .ok (.ireturn, 1) := by decide +kernel
theorem dX6_guest_22 : decode cX6_guest 22 = .ok (.aload_n 0, 1) := by decide +kernel
theorem dX6_guest_23 : decode cX6_guest 23 = .ok (.aload_n 0, 1) := by decide +kernel
theorem dX6_guest_24 : decode cX6_guest 24 = .ok (.iload_n 1, 1) := by decide +kernel
theorem dX6_guest_25 : decode cX6_guest 25 = .ok (.iload_n 2, 1) := by decide +kernel
theorem dX6_guest_26 : decode cX6_guest 26 = .ok (.invokevirtual 173, 3) := by decide +kernel
theorem dX6_guest_29 : decode cX6_guest 29 = .ok (.invokevirtual 89, 3) := by decide +kernel
theorem dX6_guest_32 : decode cX6_guest 32 = .ok (.ireturn, 1) := by decide +kernel
set_option maxRecDepth 20000 in
theorem ggX6_guestOf_X6_has : GoodIn wsX6_guestOf wsX6_has := goodIn_r _ [7] (by decide +kernel) (by decide +kernel)
set_option maxRecDepth 20000 in
theorem gX6_guestOf_X6_has : GoodIn wsX6_guestOf (va_wsS RX6 151 yX6_has wsX6_has) := goodIn_app (goodIn_of _ (by decide +kernel)) ggX6_guestOf_X6_has
set_option maxRecDepth 20000 in
theorem ggX6_guestOf_X6_inside : GoodIn wsX6_guestOf wsX6_inside := goodIn_r _ [11, 12, 13, 14, 6, 15, 16, 21, 22, 23, 24, 25, 26, 27, 28, 29, 30, 31, 32, 33, 34, 35, 36, 37, 38, 39, 40, 41, 42, 43, 44, 45, 46, 47] (by decide +kernel) (by decide +kernel)
set_option maxRecDepth 20000 in
theorem gX6_guestOf_X6_inside : GoodIn wsX6_guestOf (wsV RX6 154 RX6 yX6_inside wsX6_inside) := goodIn_app (goodIn_of _ (by decide +kernel)) ggX6_guestOf_X6_inside
set_option maxRecDepth 20000 in
theorem ggX6_guestOf_X6_isSeen : GoodIn wsX6_guestOf wsX6_isSeen := goodIn_r _ [20, 16, 3, 4, 5, 6, 7, 21, 22, 23, 24, 25, 26, 27, 28, 29, 30, 31, 32, 33, 34, 35, 36, 37, 38, 39, 40, 41, 42, 43, 44, 45, 46, 47] (by decide +kernel) (by decide +kernel)
set_option maxRecDepth 20000 in
theorem gX6_guestOf_X6_isSeen : GoodIn wsX6_guestOf (wsV RX6 158 RX6 yX6_isSeen wsX6_isSeen) := goodIn_app (goodIn_of _ (by decide +kernel)) ggX6_guestOf_X6_isSeen
theorem dX6_guestOf_0 : decode cX6_guestOf 0 = .ok (.iload_n 2, 1) := by decide +kernel
theorem dX6_guestOf_1 : decode cX6_guestOf 1 = .ok (.tableswitch 72 0 3 #[31, 38, 45, 65], 31) := by decide +kernel
theorem dX6_guestOf_32 : decode cX6_guestOf 32 = .ok (.aload_n 0, 1) := by decide +kernel
theorem dX6_guestOf_33 : decode cX6_guestOf 33 = .ok (.getfield 25, 3) := by decide +kernel
theorem dX6_guestOf_36 : decode cX6_guestOf 36 = .ok (.iload_n 1, 1) := by decide +kernel
theorem dX6_guestOf_37 : decode cX6_guestOf 37 = .ok (.iaload, 1) := by decide +kernel
theorem dX6_guestOf_38 : decode cX6_guestOf 38 = .ok (.ireturn, 1) := by decide +kernel
theorem dX6_guestOf_39 : decode cX6_guestOf 39 = .ok (.aload_n 0, 1) := by decide +kernel
theorem dX6_guestOf_40 : decode cX6_guestOf 40 = .ok (.getfield 31, 3) := by decide +kernel
theorem dX6_guestOf_43 : decode cX6_guestOf 43 = .ok (.iload_n 1, 1) := by decide +kernel
theorem dX6_guestOf_44 : decode cX6_guestOf 44 = .ok (.iaload, 1) := by decide +kernel
theorem dX6_guestOf_45 : decode cX6_guestOf 45 = .ok (.ireturn, 1) := by decide +kernel
theorem dX6_guestOf_46 : decode cX6_guestOf 46 = .ok (.aload_n 0, 1) := by decide +kernel
theorem dX6_guestOf_47 : decode cX6_guestOf 47 = .ok (.getfield 31, 3) := by decide +kernel
theorem dX6_guestOf_50 : decode cX6_guestOf 50 = .ok (.bipush 6, 2) := by decide +kernel
theorem dX6_guestOf_52 : decode cX6_guestOf 52 = .ok (.iaload, 1) := by decide +kernel
theorem dX6_guestOf_53 : decode cX6_guestOf 53 = .ok (.iload_n 1, 1) := by decide +kernel
theorem dX6_guestOf_54 : decode cX6_guestOf 54 = .ok (.invokestatic 151, 3) := by decide +kernel
theorem dX6_guestOf_57 : decode cX6_guestOf 57 = .ok (.ifCond .eq 7, 3) := by decide +kernel
theorem dX6_guestOf_60 : decode cX6_guestOf 60 = .ok (.iconst 1, 1) := by decide +kernel
theorem dX6_guestOf_61 : decode cX6_guestOf 61 = .ok (.goto 4, 3) := by decide +kernel
theorem dX6_guestOf_64 : decode cX6_guestOf 64 = .ok (.iconst 0, 1) := by decide +kernel
theorem dX6_guestOf_65 : decode cX6_guestOf 65 = .ok (.ireturn, 1) := by decide +kernel
theorem dX6_guestOf_66 : decode cX6_guestOf 66 = .ok (.aload_n 0, 1) := by decide +kernel
theorem dX6_guestOf_67 : decode cX6_guestOf 67 = .ok (.getfield 28, 3) := by decide +kernel
theorem dX6_guestOf_70 : decode cX6_guestOf 70 = .ok (.iload_n 1, 1) := by decide +kernel
theorem dX6_guestOf_71 : decode cX6_guestOf 71 = .ok (.iaload, 1) := by decide +kernel
theorem dX6_guestOf_72 : decode cX6_guestOf 72 = .ok (.ireturn, 1) := by decide +kernel
theorem dX6_guestOf_73 : decode cX6_guestOf 73 = .ok (.aload_n 0, 1) := by decide +kernel
theorem dX6_guestOf_74 : decode cX6_guestOf 74 = .ok (.iload_n 1, 1) := by decide +kernel
theorem dX6_guestOf_75 : decode cX6_guestOf 75 = .ok (.aload_n 0, 1) := by decide +kernel
theorem dX6_guestOf_76 : decode cX6_guestOf 76 = .ok (.aload_n 0, 1) := by decide +kernel
theorem dX6_guestOf_77 : decode cX6_guestOf 77 = .ok (.getfield 31, 3) := by decide +kernel
theorem dX6_guestOf_80 : decode cX6_guestOf 80 = .ok (.invokevirtual 154, 3) := by decide +kernel
theorem dX6_guestOf_83 : decode cX6_guestOf 83 = .ok (.invokevirtual 158, 3) := by decide +kernel
theorem dX6_guestOf_86 : decode cX6_guestOf 86 = .ok (.ifCond .eq 7, 3) := by decide +kernel
theorem dX6_guestOf_89 : decode cX6_guestOf 89 = .ok (.iconst 1, 1) := by decide +kernel
theorem dX6_guestOf_90 : decode cX6_guestOf 90 = .ok (.goto 4, 3) := by decide +kernel
theorem dX6_guestOf_93 : decode cX6_guestOf 93 = .ok (.iconst 0, 1) := by decide +kernel
theorem dX6_guestOf_94 : decode cX6_guestOf 94 = .ok (.ireturn, 1) := by decide +kernel
set_option maxRecDepth 20000 in
theorem ggX6_mark_X6_isGuest : GoodIn wsX6_mark wsX6_isGuest := goodIn_r _ [8, 9, 10, 11, 7, 12, 38, 39, 40, 41, 42, 43, 44, 45, 46, 47, 48, 49, 50, 51, 52, 53, 54, 55, 56, 57, 58, 59, 60, 61, 62, 63, 64] (by decide +kernel) (by decide +kernel)
set_option maxRecDepth 20000 in
theorem gX6_mark_X6_isGuest : GoodIn wsX6_mark (wsV RX6 168 RX6 yX6_isGuest wsX6_isGuest) := goodIn_app (goodIn_of _ (by decide +kernel)) ggX6_mark_X6_isGuest
set_option maxRecDepth 20000 in
theorem ggX6_mark_X6_in : GoodIn wsX6_mark wsX6_in := goodIn_r _ [12] (by decide +kernel) (by decide +kernel)
set_option maxRecDepth 20000 in
theorem gX6_mark_X6_in : GoodIn wsX6_mark (va_wsS RX6 75 yX6_in wsX6_in) := goodIn_app (goodIn_of _ (by decide +kernel)) ggX6_mark_X6_in
set_option maxRecDepth 20000 in
theorem ggX6_mark_X6_isOf : GoodIn wsX6_mark wsX6_isOf := goodIn_r _ [15] (by decide +kernel) (by decide +kernel)
set_option maxRecDepth 20000 in
theorem gX6_mark_X6_isOf : GoodIn wsX6_mark (va_wsS RX6 144 yX6_isOf wsX6_isOf) := goodIn_app (goodIn_of _ (by decide +kernel)) ggX6_mark_X6_isOf
set_option maxRecDepth 20000 in
theorem ggX6_mark_X6_found : GoodIn wsX6_mark wsX6_found := goodIn_r _ [19, 20, 21, 38, 39, 40, 41, 42, 43, 44, 45, 46, 47, 48, 49, 50, 51, 52, 53, 54, 55, 56, 57, 58, 59, 60, 61, 62, 63, 64] (by decide +kernel) (by decide +kernel)
set_option maxRecDepth 20000 in
theorem gX6_mark_X6_found : GoodIn wsX6_mark (wsV RX6 85 RX6 yX6_found wsX6_found) := goodIn_app (goodIn_of _ (by decide +kernel)) ggX6_mark_X6_found
set_option maxRecDepth 20000 in
theorem ggX6_mark_X6_has : GoodIn wsX6_mark wsX6_has := goodIn_r _ [24] (by decide +kernel) (by decide +kernel)
set_option maxRecDepth 20000 in
theorem gX6_mark_X6_has : GoodIn wsX6_mark (va_wsS RX6 151 yX6_has wsX6_has) := goodIn_app (goodIn_of _ (by decide +kernel)) ggX6_mark_X6_has
set_option maxRecDepth 20000 in
theorem ggX6_mark_X6_markOf : GoodIn wsX6_mark wsX6_markOf := goodIn_r _ [28, 2, 3, 29, 30, 9, 31, 32, 33, 7, 34, 13, 14, 15, 35, 36, 37, 22, 23, 24, 38, 39, 40, 41, 42, 43, 44, 45, 46, 47, 48, 49, 50, 51, 52, 53, 54, 55, 56, 57, 58, 59, 60, 61, 62, 63, 64] (by decide +kernel) (by decide +kernel)
set_option maxRecDepth 20000 in
theorem gX6_mark_X6_markOf : GoodIn wsX6_mark (wsV RX6 177 RX6 yX6_markOf wsX6_markOf) := goodIn_app (goodIn_of _ (by decide +kernel)) ggX6_mark_X6_markOf
theorem dX6_mark_0 : decode cX6_mark 0 = .ok (.aload_n 0, 1) := by decide +kernel
theorem dX6_mark_1 : decode cX6_mark 1 = .ok (.iload_n 1, 1) := by decide +kernel
theorem dX6_mark_2 : decode cX6_mark 2 = .ok (.invokevirtual 168, 3) := by decide +kernel
theorem dX6_mark_5 : decode cX6_mark 5 = .ok (.ifCond .eq 15, 3) := by decide +kernel
theorem dX6_mark_8 : decode cX6_mark 8 = .ok (.iload_n 2, 1) := by decide +kernel
theorem dX6_mark_9 : decode cX6_mark 9 = .ok (.i2l, 1) := by decide +kernel
theorem dX6_mark_10 : decode cX6_mark 10 = .ok (.lconst 1, 1) := by decide +kernel
theorem dX6_mark_11 : decode cX6_mark 11 = .ok (.ldc2_w 73, 3) := by decide +kernel
theorem dX6_mark_14 : decode cX6_mark 14 = .ok (.invokestatic 75, 3) := by decide +kernel
theorem dX6_mark_17 : decode cX6_mark 17 = .ok (.ifCond .ne 5, 3) := by decide +kernel
theorem dX6_mark_20 : decode cX6_mark 20 = .ok (.iconst (-1), 1) := by decide +kernel
theorem dX6_mark_21 : decode cX6_mark 21 = .ok (.ireturn, 1) := by decide +kernel
theorem dX6_mark_22 : decode cX6_mark 22 = .ok (.aload_n 0, 1) := by decide +kernel
theorem dX6_mark_23 : decode cX6_mark 23 = .ok (.getfield 25, 3) := by decide +kernel
theorem dX6_mark_26 : decode cX6_mark 26 = .ok (.iload_n 1, 1) := by decide +kernel
theorem dX6_mark_27 : decode cX6_mark 27 = .ok (.iaload, 1) := by decide +kernel
theorem dX6_mark_28 : decode cX6_mark 28 = .ok (.iload_n 2, 1) := by decide +kernel
theorem dX6_mark_29 : decode cX6_mark 29 = .ok (.invokestatic 144, 3) := by decide +kernel
theorem dX6_mark_32 : decode cX6_mark 32 = .ok (.ifCond .ne 9, 3) := by decide +kernel
theorem dX6_mark_35 : decode cX6_mark 35 = .ok (.aload_n 0, 1) := by decide +kernel
theorem dX6_mark_36 : decode cX6_mark 36 = .ok (.iconst 3, 1) := by decide +kernel
theorem dX6_mark_37 : decode cX6_mark 37 = .ok (.invokevirtual 85, 3) := by decide +kernel
theorem dX6_mark_40 : decode cX6_mark 40 = .ok (.ireturn, 1) := by decide +kernel
theorem dX6_mark_41 : decode cX6_mark 41 = .ok (.aload_n 0, 1) := by decide +kernel
theorem dX6_mark_42 : decode cX6_mark 42 = .ok (.getfield 31, 3) := by decide +kernel
theorem dX6_mark_45 : decode cX6_mark 45 = .ok (.bipush 6, 2) := by decide +kernel
theorem dX6_mark_47 : decode cX6_mark 47 = .ok (.iaload, 1) := by decide +kernel
theorem dX6_mark_48 : decode cX6_mark 48 = .ok (.iload_n 1, 1) := by decide +kernel
theorem dX6_mark_49 : decode cX6_mark 49 = .ok (.invokestatic 151, 3) := by decide +kernel
theorem dX6_mark_52 : decode cX6_mark 52 = .ok (.ifCond .eq 7, 3) := by decide +kernel
theorem dX6_mark_55 : decode cX6_mark 55 = .ok (.iconst 0, 1) := by decide +kernel
theorem dX6_mark_56 : decode cX6_mark 56 = .ok (.goto 9, 3) := by decide +kernel
theorem dX6_mark_59 : decode cX6_mark 59 = .ok (.aload_n 0, 1) := by decide +kernel
theorem dX6_mark_60 : decode cX6_mark 60 = .ok (.iload_n 1, 1) := by decide +kernel
theorem dX6_mark_61 : decode cX6_mark 61 = .ok (.iload_n 2, 1) := by decide +kernel
theorem dX6_mark_62 : decode cX6_mark 62 = .ok (.invokevirtual 177, 3) := by decide +kernel
theorem dX6_mark_65 : decode cX6_mark 65 = .ok (.ireturn, 1) := by decide +kernel
set_option maxRecDepth 20000 in
theorem ggX6_markOf_X6_griefBehind : GoodIn wsX6_markOf wsX6_griefBehind := goodIn_r _ [10, 11, 12, 9, 13, 14, 15, 16] (by decide +kernel) (by decide +kernel)
set_option maxRecDepth 20000 in
theorem gX6_markOf_X6_griefBehind : GoodIn wsX6_markOf (va_wsS RX6 161 yX6_griefBehind wsX6_griefBehind) := goodIn_app (goodIn_of _ (by decide +kernel)) ggX6_markOf_X6_griefBehind
set_option maxRecDepth 20000 in
theorem ggX6_markOf_X6_has : GoodIn wsX6_markOf wsX6_has := goodIn_r _ [19] (by decide +kernel) (by decide +kernel)
set_option maxRecDepth 20000 in
theorem gX6_markOf_X6_has : GoodIn wsX6_markOf (va_wsS RX6 151 yX6_has wsX6_has) := goodIn_app (goodIn_of _ (by decide +kernel)) ggX6_markOf_X6_has
theorem dX6_markOf_0 : decode cX6_markOf 0 = .ok (.iconst 0, 1) := by decide +kernel
theorem dX6_markOf_1 : decode cX6_markOf 1 = .ok (.istore_n 3, 1) := by decide +kernel
theorem dX6_markOf_2 : decode cX6_markOf 2 = .ok (.iload_n 2, 1) := by decide +kernel
theorem dX6_markOf_3 : decode cX6_markOf 3 = .ok (.tableswitch 225 1 4 #[29, 87, 150, 181], 29) := by decide +kernel
theorem dX6_markOf_32 : decode cX6_markOf 32 = .ok (.iconst 0, 1) := by decide +kernel
theorem dX6_markOf_33 : decode cX6_markOf 33 = .ok (.istore 4, 2) := by decide +kernel
theorem dX6_markOf_35 : decode cX6_markOf 35 = .ok (.iload 4, 2) := by decide +kernel
theorem dX6_markOf_37 : decode cX6_markOf 37 = .ok (.iconst 4, 1) := by decide +kernel
theorem dX6_markOf_38 : decode cX6_markOf 38 = .ok (.if_icmp .ge 50, 3) := by decide +kernel
theorem dX6_markOf_41 : decode cX6_markOf 41 = .ok (.iload_n 3, 1) := by decide +kernel
theorem dX6_markOf_42 : decode cX6_markOf 42 = .ok (.aload_n 0, 1) := by decide +kernel
theorem dX6_markOf_43 : decode cX6_markOf 43 = .ok (.getfield 25, 3) := by decide +kernel
theorem dX6_markOf_46 : decode cX6_markOf 46 = .ok (.iload_n 1, 1) := by decide +kernel
theorem dX6_markOf_47 : decode cX6_markOf 47 = .ok (.iaload, 1) := by decide +kernel
theorem dX6_markOf_48 : decode cX6_markOf 48 = .ok (.aload_n 0, 1) := by decide +kernel
theorem dX6_markOf_49 : decode cX6_markOf 49 = .ok (.getfield 31, 3) := by decide +kernel
theorem dX6_markOf_52 : decode cX6_markOf 52 = .ok (.iload_n 1, 1) := by decide +kernel
theorem dX6_markOf_53 : decode cX6_markOf 53 = .ok (.iaload, 1) := by decide +kernel
theorem dX6_markOf_54 : decode cX6_markOf 54 = .ok (.iload 4, 2) := by decide +kernel
theorem dX6_markOf_56 : decode cX6_markOf 56 = .ok (.aload_n 0, 1) := by decide +kernel
theorem dX6_markOf_57 : decode cX6_markOf 57 = .ok (.getfield 22, 3) := by decide +kernel
theorem dX6_markOf_60 : decode cX6_markOf 60 = .ok (.iload 4, 2) := by decide +kernel
theorem dX6_markOf_62 : decode cX6_markOf 62 = .ok (.iaload, 1) := by decide +kernel
theorem dX6_markOf_63 : decode cX6_markOf 63 = .ok (.invokestatic 161, 3) := by decide +kernel
theorem dX6_markOf_66 : decode cX6_markOf 66 = .ok (.aload_n 0, 1) := by decide +kernel
theorem dX6_markOf_67 : decode cX6_markOf 67 = .ok (.getfield 31, 3) := by decide +kernel
theorem dX6_markOf_70 : decode cX6_markOf 70 = .ok (.iload_n 1, 1) := by decide +kernel
theorem dX6_markOf_71 : decode cX6_markOf 71 = .ok (.iaload, 1) := by decide +kernel
theorem dX6_markOf_72 : decode cX6_markOf 72 = .ok (.if_icmp .ge 7, 3) := by decide +kernel
theorem dX6_markOf_75 : decode cX6_markOf 75 = .ok (.iconst 1, 1) := by decide +kernel
theorem dX6_markOf_76 : decode cX6_markOf 76 = .ok (.goto 4, 3) := by decide +kernel
theorem dX6_markOf_79 : decode cX6_markOf 79 = .ok (.iconst 0, 1) := by decide +kernel
theorem dX6_markOf_80 : decode cX6_markOf 80 = .ok (.iadd, 1) := by decide +kernel
theorem dX6_markOf_81 : decode cX6_markOf 81 = .ok (.istore_n 3, 1) := by decide +kernel
theorem dX6_markOf_82 : decode cX6_markOf 82 = .ok (.iinc 4 1, 3) := by decide +kernel
theorem dX6_markOf_85 : decode cX6_markOf 85 = .ok (.goto (-50), 3) := by decide +kernel
theorem dX6_markOf_88 : decode cX6_markOf 88 = .ok (.iload_n 3, 1) := by decide +kernel
theorem dX6_markOf_89 : decode cX6_markOf 89 = .ok (.ireturn, 1) := by decide +kernel
theorem dX6_markOf_90 : decode cX6_markOf 90 = .ok (.iconst 0, 1) := by decide +kernel
theorem dX6_markOf_91 : decode cX6_markOf 91 = .ok (.istore 4, 2) := by decide +kernel
theorem dX6_markOf_93 : decode cX6_markOf 93 = .ok (.iload 4, 2) := by decide +kernel
theorem dX6_markOf_95 : decode cX6_markOf 95 = .ok (.iconst 4, 1) := by decide +kernel
theorem dX6_markOf_96 : decode cX6_markOf 96 = .ok (.if_icmp .ge 55, 3) := by decide +kernel
theorem dX6_markOf_99 : decode cX6_markOf 99 = .ok (.aload_n 0, 1) := by decide +kernel
theorem dX6_markOf_100 : decode cX6_markOf 100 = .ok (.getfield 25, 3) := by decide +kernel
theorem dX6_markOf_103 : decode cX6_markOf 103 = .ok (.iload_n 1, 1) := by decide +kernel
theorem dX6_markOf_104 : decode cX6_markOf 104 = .ok (.iaload, 1) := by decide +kernel
theorem dX6_markOf_105 : decode cX6_markOf 105 = .ok (.aload_n 0, 1) := by decide +kernel
theorem dX6_markOf_106 : decode cX6_markOf 106 = .ok (.getfield 31, 3) := by decide +kernel
theorem dX6_markOf_109 : decode cX6_markOf 109 = .ok (.iload_n 1, 1) := by decide +kernel
theorem dX6_markOf_110 : decode cX6_markOf 110 = .ok (.iaload, 1) := by decide +kernel
theorem dX6_markOf_111 : decode cX6_markOf 111 = .ok (.iload 4, 2) := by decide +kernel
theorem dX6_markOf_113 : decode cX6_markOf 113 = .ok (.aload_n 0, 1) := by decide +kernel
theorem dX6_markOf_114 : decode cX6_markOf 114 = .ok (.getfield 22, 3) := by decide +kernel
theorem dX6_markOf_117 : decode cX6_markOf 117 = .ok (.iload 4, 2) := by decide +kernel
theorem dX6_markOf_119 : decode cX6_markOf 119 = .ok (.iaload, 1) := by decide +kernel
theorem dX6_markOf_120 : decode cX6_markOf 120 = .ok (.invokestatic 161, 3) := by decide +kernel
theorem dX6_markOf_123 : decode cX6_markOf 123 = .ok (.aload_n 0, 1) := by decide +kernel
theorem dX6_markOf_124 : decode cX6_markOf 124 = .ok (.getfield 31, 3) := by decide +kernel
theorem dX6_markOf_127 : decode cX6_markOf 127 = .ok (.iload_n 1, 1) := by decide +kernel
theorem dX6_markOf_128 : decode cX6_markOf 128 = .ok (.iaload, 1) := by decide +kernel
theorem dX6_markOf_129 : decode cX6_markOf 129 = .ok (.isub, 1) := by decide +kernel
theorem dX6_markOf_130 : decode cX6_markOf 130 = .ok (.istore 5, 2) := by decide +kernel
theorem dX6_markOf_132 : decode cX6_markOf 132 = .ok (.iload 5, 2) := by decide +kernel
theorem dX6_markOf_134 : decode cX6_markOf 134 = .ok (.iload_n 3, 1) := by decide +kernel
theorem dX6_markOf_135 : decode cX6_markOf 135 = .ok (.if_icmp .le 8, 3) := by decide +kernel
theorem dX6_markOf_138 : decode cX6_markOf 138 = .ok (.iload 5, 2) := by decide +kernel
theorem dX6_markOf_140 : decode cX6_markOf 140 = .ok (.goto 4, 3) := by decide +kernel
theorem dX6_markOf_143 : decode cX6_markOf 143 = .ok (.iload_n 3, 1) := by decide +kernel
theorem dX6_markOf_144 : decode cX6_markOf 144 = .ok (.istore_n 3, 1) := by decide +kernel
theorem dX6_markOf_145 : decode cX6_markOf 145 = .ok (.iinc 4 1, 3) := by decide +kernel
theorem dX6_markOf_148 : decode cX6_markOf 148 = .ok (.goto (-55), 3) := by decide +kernel
theorem dX6_markOf_151 : decode cX6_markOf 151 = .ok (.iload_n 3, 1) := by decide +kernel
theorem dX6_markOf_152 : decode cX6_markOf 152 = .ok (.ireturn, 1) := by decide +kernel
theorem dX6_markOf_153 : decode cX6_markOf 153 = .ok (.aload_n 0, 1) := by decide +kernel
theorem dX6_markOf_154 : decode cX6_markOf 154 = .ok (.getfield 31, 3) := by decide +kernel
theorem dX6_markOf_157 : decode cX6_markOf 157 = .ok (.iload_n 1, 1) := by decide +kernel
theorem dX6_markOf_158 : decode cX6_markOf 158 = .ok (.iaload, 1) := by decide +kernel
theorem dX6_markOf_159 : decode cX6_markOf 159 = .ok (.aload_n 0, 1) := by decide +kernel
theorem dX6_markOf_160 : decode cX6_markOf 160 = .ok (.getfield 134, 3) := by decide +kernel
theorem dX6_markOf_163 : decode cX6_markOf 163 = .ok (.if_icmp .le 7, 3) := by decide +kernel
theorem dX6_markOf_166 : decode cX6_markOf 166 = .ok (.iconst 0, 1) := by decide +kernel
theorem dX6_markOf_167 : decode cX6_markOf 167 = .ok (.goto 16, 3) := by decide +kernel
theorem dX6_markOf_170 : decode cX6_markOf 170 = .ok (.aload_n 0, 1) := by decide +kernel
theorem dX6_markOf_171 : decode cX6_markOf 171 = .ok (.getfield 134, 3) := by decide +kernel
theorem dX6_markOf_174 : decode cX6_markOf 174 = .ok (.aload_n 0, 1) := by decide +kernel
theorem dX6_markOf_175 : decode cX6_markOf 175 = .ok (.getfield 31, 3) := by decide +kernel
theorem dX6_markOf_178 : decode cX6_markOf 178 = .ok (.iload_n 1, 1) := by decide +kernel
theorem dX6_markOf_179 : decode cX6_markOf 179 = .ok (.iaload, 1) := by decide +kernel
theorem dX6_markOf_180 : decode cX6_markOf 180 = .ok (.isub, 1) := by decide +kernel
theorem dX6_markOf_181 : decode cX6_markOf 181 = .ok (.iconst 4, 1) := by decide +kernel
theorem dX6_markOf_182 : decode cX6_markOf 182 = .ok (.idiv, 1) := by decide +kernel
theorem dX6_markOf_183 : decode cX6_markOf 183 = .ok (.ireturn, 1) := by decide +kernel
theorem dX6_markOf_184 : decode cX6_markOf 184 = .ok (.iconst 0, 1) := by decide +kernel
theorem dX6_markOf_185 : decode cX6_markOf 185 = .ok (.istore 4, 2) := by decide +kernel
theorem dX6_markOf_187 : decode cX6_markOf 187 = .ok (.iload 4, 2) := by decide +kernel
theorem dX6_markOf_189 : decode cX6_markOf 189 = .ok (.aload_n 0, 1) := by decide +kernel
theorem dX6_markOf_190 : decode cX6_markOf 190 = .ok (.getfield 131, 3) := by decide +kernel
theorem dX6_markOf_193 : decode cX6_markOf 193 = .ok (.if_icmp .ge 33, 3) := by decide +kernel
theorem dX6_markOf_196 : decode cX6_markOf 196 = .ok (.iload_n 3, 1) := by decide +kernel
theorem dX6_markOf_197 : decode cX6_markOf 197 = .ok (.aload_n 0, 1) := by decide +kernel
theorem dX6_markOf_198 : decode cX6_markOf 198 = .ok (.getfield 31, 3) := by decide +kernel
theorem dX6_markOf_201 : decode cX6_markOf 201 = .ok (.iload 4, 2) := by decide +kernel
theorem dX6_markOf_203 : decode cX6_markOf 203 = .ok (.iaload, 1) := by decide +kernel
theorem dX6_markOf_204 : decode cX6_markOf 204 = .ok (.aload_n 0, 1) := by decide +kernel
theorem dX6_markOf_205 : decode cX6_markOf 205 = .ok (.getfield 31, 3) := by decide +kernel
theorem dX6_markOf_208 : decode cX6_markOf 208 = .ok (.iload_n 1, 1) := by decide +kernel
theorem dX6_markOf_209 : decode cX6_markOf 209 = .ok (.iaload, 1) := by decide +kernel
theorem dX6_markOf_210 : decode cX6_markOf 210 = .ok (.if_icmp .le 7, 3) := by decide +kernel
theorem dX6_markOf_213 : decode cX6_markOf 213 = .ok (.iconst 1, 1) := by decide +kernel
theorem dX6_markOf_214 : decode cX6_markOf 214 = .ok (.goto 4, 3) := by decide +kernel
theorem dX6_markOf_217 : decode cX6_markOf 217 = .ok (.iconst 0, 1) := by decide +kernel
theorem dX6_markOf_218 : decode cX6_markOf 218 = .ok (.iadd, 1) := by decide +kernel
theorem dX6_markOf_219 : decode cX6_markOf 219 = .ok (.istore_n 3, 1) := by decide +kernel
theorem dX6_markOf_220 : decode cX6_markOf 220 = .ok (.iinc 4 1, 3) := by decide +kernel
theorem dX6_markOf_223 : decode cX6_markOf 223 = .ok (.goto (-36), 3) := by decide +kernel
theorem dX6_markOf_226 : decode cX6_markOf 226 = .ok (.iload_n 3, 1) := by decide +kernel
theorem dX6_markOf_227 : decode cX6_markOf 227 = .ok (.ireturn, 1) := by decide +kernel
theorem dX6_markOf_228 : decode cX6_markOf 228 = .ok (.iconst 0, 1) := by decide +kernel
theorem dX6_markOf_229 : decode cX6_markOf 229 = .ok (.istore 4, 2) := by decide +kernel
theorem dX6_markOf_231 : decode cX6_markOf 231 = .ok (.iload 4, 2) := by decide +kernel
theorem dX6_markOf_233 : decode cX6_markOf 233 = .ok (.aload_n 0, 1) := by decide +kernel
theorem dX6_markOf_234 : decode cX6_markOf 234 = .ok (.getfield 131, 3) := by decide +kernel
theorem dX6_markOf_237 : decode cX6_markOf 237 = .ok (.if_icmp .ge 47, 3) := by decide +kernel
theorem dX6_markOf_240 : decode cX6_markOf 240 = .ok (.iload_n 3, 1) := by decide +kernel
theorem dX6_markOf_241 : decode cX6_markOf 241 = .ok (.aload_n 0, 1) := by decide +kernel
theorem dX6_markOf_242 : decode cX6_markOf 242 = .ok (.getfield 28, 3) := by decide +kernel
theorem dX6_markOf_245 : decode cX6_markOf 245 = .ok (.iload_n 1, 1) := by decide +kernel
theorem dX6_markOf_246 : decode cX6_markOf 246 = .ok (.iaload, 1) := by decide +kernel
theorem dX6_markOf_247 : decode cX6_markOf 247 = .ok (.iload 4, 2) := by decide +kernel
theorem dX6_markOf_249 : decode cX6_markOf 249 = .ok (.invokestatic 151, 3) := by decide +kernel
theorem dX6_markOf_252 : decode cX6_markOf 252 = .ok (.ifCond .eq 23, 3) := by decide +kernel
theorem dX6_markOf_255 : decode cX6_markOf 255 = .ok (.aload_n 0, 1) := by decide +kernel
theorem dX6_markOf_256 : decode cX6_markOf 256 = .ok (.getfield 31, 3) := by decide +kernel
theorem dX6_markOf_259 : decode cX6_markOf 259 = .ok (.iload 4, 2) := by decide +kernel
theorem dX6_markOf_261 : decode cX6_markOf 261 = .ok (.iaload, 1) := by decide +kernel
theorem dX6_markOf_262 : decode cX6_markOf 262 = .ok (.aload_n 0, 1) := by decide +kernel
theorem dX6_markOf_263 : decode cX6_markOf 263 = .ok (.getfield 134, 3) := by decide +kernel
theorem dX6_markOf_266 : decode cX6_markOf 266 = .ok (.iconst 3, 1) := by decide +kernel
theorem dX6_markOf_267 : decode cX6_markOf 267 = .ok (.isub, 1) := by decide +kernel
theorem dX6_markOf_268 : decode cX6_markOf 268 = .ok (.if_icmp .le 7, 3) := by decide +kernel
theorem dX6_markOf_271 : decode cX6_markOf 271 = .ok (.iconst 1, 1) := by decide +kernel
theorem dX6_markOf_272 : decode cX6_markOf 272 = .ok (.goto 4, 3) := by decide +kernel
theorem dX6_markOf_275 : decode cX6_markOf 275 = .ok (.iconst 0, 1) := by decide +kernel
theorem dX6_markOf_276 : decode cX6_markOf 276 = .ok (.iadd, 1) := by decide +kernel
theorem dX6_markOf_277 : decode cX6_markOf 277 = .ok (.istore_n 3, 1) := by decide +kernel
theorem dX6_markOf_278 : decode cX6_markOf 278 = .ok (.iinc 4 1, 3) := by decide +kernel
theorem dX6_markOf_281 : decode cX6_markOf 281 = .ok (.goto (-50), 3) := by decide +kernel
theorem dX6_markOf_284 : decode cX6_markOf 284 = .ok (.iload_n 3, 1) := by decide +kernel
theorem dX6_markOf_285 : decode cX6_markOf 285 = .ok (.ireturn, 1) := by decide +kernel
set_option maxRecDepth 20000 in
theorem ggX6_does_X6_isTune : GoodIn wsX6_does wsX6_isTune := goodIn_r _ [8, 9, 10, 11, 7, 12] (by decide +kernel) (by decide +kernel)
set_option maxRecDepth 20000 in
theorem gX6_does_X6_isTune : GoodIn wsX6_does (va_wsS RX6 180 yX6_isTune wsX6_isTune) := goodIn_app (goodIn_of _ (by decide +kernel)) ggX6_does_X6_isTune
set_option maxRecDepth 20000 in
theorem ggX6_does_X6_in : GoodIn wsX6_does wsX6_in := goodIn_r _ [12] (by decide +kernel) (by decide +kernel)
set_option maxRecDepth 20000 in
theorem gX6_does_X6_in : GoodIn wsX6_does (va_wsS RX6 75 yX6_in wsX6_in) := goodIn_app (goodIn_of _ (by decide +kernel)) ggX6_does_X6_in
theorem dX6_does_0 : decode cX6_does 0 = .ok (.iload_n 1, 1) := by decide +kernel
theorem dX6_does_1 : decode cX6_does 1 = .ok (.invokestatic 180, 3) := by decide +kernel
theorem dX6_does_4 : decode cX6_does 4 = .ok (.ifCond .eq 17, 3) := by decide +kernel
theorem dX6_does_7 : decode cX6_does 7 = .ok (.iload_n 2, 1) := by decide +kernel
theorem dX6_does_8 : decode cX6_does 8 = .ok (.i2l, 1) := by decide +kernel
theorem dX6_does_9 : decode cX6_does 9 = .ok (.ldc2_w 183, 3) := by decide +kernel
theorem dX6_does_12 : decode cX6_does 12 = .ok (.ldc2_w 73, 3) := by decide +kernel
theorem dX6_does_15 : decode cX6_does 15 = .ok (.invokestatic 75, 3) := by decide +kernel
theorem dX6_does_18 : decode cX6_does 18 = .ok (.ifCond .ne 5, 3) := by decide +kernel
theorem dX6_does_21 : decode cX6_does 21 = .ok (.iconst (-1), 1) := by decide +kernel
theorem dX6_does_22 : decode cX6_does 22 = .ok (.ireturn, 1) := by decide +kernel
theorem dX6_does_23 : decode cX6_does 23 = .ok (.aload_n 0, 1) := by decide +kernel
theorem dX6_does_24 : decode cX6_does 24 = .ok (.getfield 131, 3) := by decide +kernel
theorem dX6_does_27 : decode cX6_does 27 = .ok (.ifCond .ne 6, 3) := by decide +kernel
theorem dX6_does_30 : decode cX6_does 30 = .ok (.bipush (-4), 2) := by decide +kernel
theorem dX6_does_32 : decode cX6_does 32 = .ok (.ireturn, 1) := by decide +kernel
theorem dX6_does_33 : decode cX6_does 33 = .ok (.aload_n 0, 1) := by decide +kernel
theorem dX6_does_34 : decode cX6_does 34 = .ok (.getfield 22, 3) := by decide +kernel
theorem dX6_does_37 : decode cX6_does 37 = .ok (.iload_n 1, 1) := by decide +kernel
theorem dX6_does_38 : decode cX6_does 38 = .ok (.iaload, 1) := by decide +kernel
theorem dX6_does_39 : decode cX6_does 39 = .ok (.istore_n 3, 1) := by decide +kernel
theorem dX6_does_40 : decode cX6_does 40 = .ok (.aload_n 0, 1) := by decide +kernel
theorem dX6_does_41 : decode cX6_does 41 = .ok (.getfield 22, 3) := by decide +kernel
theorem dX6_does_44 : decode cX6_does 44 = .ok (.iload_n 1, 1) := by decide +kernel
theorem dX6_does_45 : decode cX6_does 45 = .ok (.iload_n 2, 1) := by decide +kernel
theorem dX6_does_46 : decode cX6_does 46 = .ok (.iastore, 1) := by decide +kernel
theorem dX6_does_47 : decode cX6_does 47 = .ok (.iload_n 3, 1) := by decide +kernel
theorem dX6_does_48 : decode cX6_does 48 = .ok (.ireturn, 1) := by decide +kernel
theorem dX6_copies_0 : decode cX6_copies 0 = .ok (.iconst 0, 1) := by decide +kernel
theorem dX6_copies_1 : decode cX6_copies 1 = .ok (.istore 5, 2) := by decide +kernel
theorem dX6_copies_3 : decode cX6_copies 3 = .ok (.iload 5, 2) := by decide +kernel
theorem dX6_copies_5 : decode cX6_copies 5 = .ok (.iload 4, 2) := by decide +kernel
theorem dX6_copies_7 : decode cX6_copies 7 = .ok (.if_icmp .ge 21, 3) := by decide +kernel
theorem dX6_copies_10 : decode cX6_copies 10 = .ok (.aload_n 2, 1) := by decide +kernel
theorem dX6_copies_11 : decode cX6_copies 11 = .ok (.iload_n 3, 1) := by decide +kernel
theorem dX6_copies_12 : decode cX6_copies 12 = .ok (.iload 5, 2) := by decide +kernel
theorem dX6_copies_14 : decode cX6_copies 14 = .ok (.iadd, 1) := by decide +kernel
theorem dX6_copies_15 : decode cX6_copies 15 = .ok (.aload_n 0, 1) := by decide +kernel
theorem dX6_copies_16 : decode cX6_copies 16 = .ok (.iload_n 1, 1) := by decide +kernel
theorem dX6_copies_17 : decode cX6_copies 17 = .ok (.iload 5, 2) := by decide +kernel
theorem dX6_copies_19 : decode cX6_copies 19 = .ok (.iadd, 1) := by decide +kernel
theorem dX6_copies_20 : decode cX6_copies 20 = .ok (.iaload, 1) := by decide +kernel
theorem dX6_copies_21 : decode cX6_copies 21 = .ok (.iastore, 1) := by decide +kernel
theorem dX6_copies_22 : decode cX6_copies 22 = .ok (.iinc 5 1, 3) := by decide +kernel
theorem dX6_copies_25 : decode cX6_copies 25 = .ok (.goto (-22), 3) := by decide +kernel
theorem dX6_copies_28 : decode cX6_copies 28 = .ok (.return_, 1) := by decide +kernel
set_option maxRecDepth 20000 in
theorem ggX6_remember_X6_copies : GoodIn wsX6_remember wsX6_copies := goodIn_r _ [7] (by decide +kernel) (by decide +kernel)
set_option maxRecDepth 20000 in
theorem gX6_remember_X6_copies : GoodIn wsX6_remember (va_wsS RX6 185 yX6_copies wsX6_copies) := goodIn_app (goodIn_of _ (by decide +kernel)) ggX6_remember_X6_copies
theorem dX6_remember_0 : decode cX6_remember 0 = .ok (.aload_n 0, 1) := by decide +kernel
theorem dX6_remember_1 : decode cX6_remember 1 = .ok (.getfield 31, 3) := by decide +kernel
theorem dX6_remember_4 : decode cX6_remember 4 = .ok (.iconst 0, 1) := by decide +kernel
theorem dX6_remember_5 : decode cX6_remember 5 = .ok (.aload_n 0, 1) := by decide +kernel
theorem dX6_remember_6 : decode cX6_remember 6 = .ok (.getfield 34, 3) := by decide +kernel
theorem dX6_remember_9 : decode cX6_remember 9 = .ok (.bipush 7, 2) := by decide +kernel
theorem dX6_remember_11 : decode cX6_remember 11 = .ok (.aload_n 0, 1) := by decide +kernel
theorem dX6_remember_12 : decode cX6_remember 12 = .ok (.getfield 137, 3) := by decide +kernel
theorem dX6_remember_15 : decode cX6_remember 15 = .ok (.imul, 1) := by decide +kernel
theorem dX6_remember_16 : decode cX6_remember 16 = .ok (.bipush 7, 2) := by decide +kernel
theorem dX6_remember_18 : decode cX6_remember 18 = .ok (.invokestatic 185, 3) := by decide +kernel
theorem dX6_remember_21 : decode cX6_remember 21 = .ok (.aload_n 0, 1) := by decide +kernel
theorem dX6_remember_22 : decode cX6_remember 22 = .ok (.dup, 1) := by decide +kernel
theorem dX6_remember_23 : decode cX6_remember 23 = .ok (.getfield 137, 3) := by decide +kernel
theorem dX6_remember_26 : decode cX6_remember 26 = .ok (.iconst 1, 1) := by decide +kernel
theorem dX6_remember_27 : decode cX6_remember 27 = .ok (.iadd, 1) := by decide +kernel
theorem dX6_remember_28 : decode cX6_remember 28 = .ok (.putfield 137, 3) := by decide +kernel
theorem dX6_remember_31 : decode cX6_remember 31 = .ok (.return_, 1) := by decide +kernel
set_option maxRecDepth 20000 in
theorem ggX6_tune_X6_isTune : GoodIn wsX6_tune wsX6_isTune := goodIn_r _ [7, 8, 9, 10, 6, 11] (by decide +kernel) (by decide +kernel)
set_option maxRecDepth 20000 in
theorem gX6_tune_X6_isTune : GoodIn wsX6_tune (va_wsS RX6 180 yX6_isTune wsX6_isTune) := goodIn_app (goodIn_of _ (by decide +kernel)) ggX6_tune_X6_isTune
set_option maxRecDepth 20000 in
theorem ggX6_tune_X6_remember : GoodIn wsX6_tune wsX6_remember := goodIn_r _ [15, 3, 16, 2, 17, 18, 6, 19, 56, 57, 58, 59, 60, 61, 62, 63, 64, 65, 66, 67, 68, 69, 70, 71, 72, 73, 74, 75, 76, 77, 78, 79, 80, 81, 82] (by decide +kernel) (by decide +kernel)
set_option maxRecDepth 20000 in
theorem gX6_tune_X6_remember : GoodIn wsX6_tune (wsV RX6 189 RX6 yX6_remember wsX6_remember) := goodIn_app (goodIn_of _ (by decide +kernel)) ggX6_tune_X6_remember
set_option maxRecDepth 20000 in
theorem ggX6_tune_X6_plays : GoodIn wsX6_tune wsX6_plays := goodIn_r _ [23, 1, 24, 25, 26, 27, 6, 28, 29, 30, 31, 32, 33, 34, 35, 36, 37, 38, 39, 40, 41, 42, 43, 44, 45, 46, 47, 48, 49, 50, 51, 52, 53, 54, 55, 56, 57, 58, 59, 60, 61, 62, 63, 64, 65, 66, 67, 68, 69, 70, 71, 72, 73, 74, 75, 76, 77, 78, 79, 80, 81, 82] (by decide +kernel) (by decide +kernel)
set_option maxRecDepth 20000 in
theorem gX6_tune_X6_plays : GoodIn wsX6_tune (wsV RX6 192 RX6 yX6_plays wsX6_plays) := goodIn_app (goodIn_of _ (by decide +kernel)) ggX6_tune_X6_plays
theorem dX6_tune_0 : decode cX6_tune 0 = .ok (.iload_n 1, 1) := by decide +kernel
theorem dX6_tune_1 : decode cX6_tune 1 = .ok (.invokestatic 180, 3) := by decide +kernel
theorem dX6_tune_4 : decode cX6_tune 4 = .ok (.ifCond .ne 5, 3) := by decide +kernel
theorem dX6_tune_7 : decode cX6_tune 7 = .ok (.iconst (-1), 1) := by decide +kernel
theorem dX6_tune_8 : decode cX6_tune 8 = .ok (.ireturn, 1) := by decide +kernel
theorem dX6_tune_9 : decode cX6_tune 9 = .ok (.aload_n 0, 1) := by decide +kernel
theorem dX6_tune_10 : decode cX6_tune 10 = .ok (.getfield 131, 3) := by decide +kernel
theorem dX6_tune_13 : decode cX6_tune 13 = .ok (.ifCond .ne 6, 3) := by decide +kernel
theorem dX6_tune_16 : decode cX6_tune 16 = .ok (.bipush (-4), 2) := by decide +kernel
theorem dX6_tune_18 : decode cX6_tune 18 = .ok (.ireturn, 1) := by decide +kernel
theorem dX6_tune_19 : decode cX6_tune 19 = .ok (.aload_n 0, 1) := by decide +kernel
theorem dX6_tune_20 : decode cX6_tune 20 = .ok (.getfield 137, 3) := by decide +kernel
theorem dX6_tune_23 : decode cX6_tune 23 = .ok (.bipush 40, 2) := by decide +kernel
theorem dX6_tune_25 : decode cX6_tune 25 = .ok (.if_icmp .ne 6, 3) := by decide +kernel
theorem dX6_tune_28 : decode cX6_tune 28 = .ok (.bipush (-2), 2) := by decide +kernel
theorem dX6_tune_30 : decode cX6_tune 30 = .ok (.ireturn, 1) := by decide +kernel
theorem dX6_tune_31 : decode cX6_tune 31 = .ok (.aload_n 0, 1) := by decide +kernel
theorem dX6_tune_32 : decode cX6_tune 32 = .ok (.invokevirtual 189, 3) := by decide +kernel
theorem dX6_tune_35 : decode cX6_tune 35 = .ok (.aload_n 0, 1) := by decide +kernel
theorem dX6_tune_36 : decode cX6_tune 36 = .ok (.aload_n 0, 1) := by decide +kernel
theorem dX6_tune_37 : decode cX6_tune 37 = .ok (.getfield 31, 3) := by decide +kernel
theorem dX6_tune_40 : decode cX6_tune 40 = .ok (.iload_n 1, 1) := by decide +kernel
theorem dX6_tune_41 : decode cX6_tune 41 = .ok (.invokevirtual 192, 3) := by decide +kernel
theorem dX6_tune_44 : decode cX6_tune 44 = .ok (.ireturn, 1) := by decide +kernel
set_option maxRecDepth 20000 in
theorem ggX6_refuses_X6_isGuest : GoodIn wsX6_refuses wsX6_isGuest := goodIn_r _ [7, 8, 9, 10, 6, 11, 15, 16, 17, 18, 19, 20, 21, 22, 23, 24, 25, 26, 27, 28, 29, 30, 31, 32, 33, 34, 35, 36, 37, 38, 39, 40, 41] (by decide +kernel) (by decide +kernel)
set_option maxRecDepth 20000 in
theorem gX6_refuses_X6_isGuest : GoodIn wsX6_refuses (wsV RX6 168 RX6 yX6_isGuest wsX6_isGuest) := goodIn_app (goodIn_of _ (by decide +kernel)) ggX6_refuses_X6_isGuest
set_option maxRecDepth 20000 in
theorem ggX6_refuses_X6_has : GoodIn wsX6_refuses wsX6_has := goodIn_r _ [14] (by decide +kernel) (by decide +kernel)
set_option maxRecDepth 20000 in
theorem gX6_refuses_X6_has : GoodIn wsX6_refuses (va_wsS RX6 151 yX6_has wsX6_has) := goodIn_app (goodIn_of _ (by decide +kernel)) ggX6_refuses_X6_has
theorem dX6_refuses_0 : decode cX6_refuses 0 = .ok (.aload_n 0, 1) := by decide +kernel
theorem dX6_refuses_1 : decode cX6_refuses 1 = .ok (.iload_n 1, 1) := by decide +kernel
theorem dX6_refuses_2 : decode cX6_refuses 2 = .ok (.invokevirtual 168, 3) := by decide +kernel
theorem dX6_refuses_5 : decode cX6_refuses 5 = .ok (.ifCond .ne 5, 3) := by decide +kernel
theorem dX6_refuses_8 : decode cX6_refuses 8 = .ok (.iconst (-1), 1) := by decide +kernel
theorem dX6_refuses_9 : decode cX6_refuses 9 = .ok (.ireturn, 1) := by decide +kernel
theorem dX6_refuses_10 : decode cX6_refuses 10 = .ok (.aload_n 0, 1) := by decide +kernel
theorem dX6_refuses_11 : decode cX6_refuses 11 = .ok (.getfield 31, 3) := by decide +kernel
theorem dX6_refuses_14 : decode cX6_refuses 14 = .ok (.bipush 6, 2) := by decide +kernel
theorem dX6_refuses_16 : decode cX6_refuses 16 = .ok (.iaload, 1) := by decide +kernel
theorem dX6_refuses_17 : decode cX6_refuses 17 = .ok (.iload_n 1, 1) := by decide +kernel
theorem dX6_refuses_18 : decode cX6_refuses 18 = .ok (.invokestatic 151, 3) := by decide +kernel
theorem dX6_refuses_21 : decode cX6_refuses 21 = .ok (.ifCond .eq 8, 3) := by decide +kernel
theorem dX6_refuses_24 : decode cX6_refuses 24 = .ok (.bipush (-4), 2) := by decide +kernel
theorem dX6_refuses_26 : decode cX6_refuses 26 = .ok (.goto 18, 3) := by decide +kernel
theorem dX6_refuses_29 : decode cX6_refuses 29 = .ok (.aload_n 0, 1) := by decide +kernel
theorem dX6_refuses_30 : decode cX6_refuses 30 = .ok (.getfield 137, 3) := by decide +kernel
theorem dX6_refuses_33 : decode cX6_refuses 33 = .ok (.bipush 40, 2) := by decide +kernel
theorem dX6_refuses_35 : decode cX6_refuses 35 = .ok (.if_icmp .ne 8, 3) := by decide +kernel
theorem dX6_refuses_38 : decode cX6_refuses 38 = .ok (.bipush (-2), 2) := by decide +kernel
theorem dX6_refuses_40 : decode cX6_refuses 40 = .ok (.goto 4, 3) := by decide +kernel
theorem dX6_refuses_43 : decode cX6_refuses 43 = .ok (.iconst 0, 1) := by decide +kernel
theorem dX6_refuses_44 : decode cX6_refuses 44 = .ok (.ireturn, 1) := by decide +kernel
set_option maxRecDepth 20000 in
theorem ggX6_say_X6_refuses : GoodIn wsX6_say wsX6_refuses := goodIn_r _ [7, 1, 8, 9, 10, 11, 6, 12, 13, 14, 15, 16, 17, 18, 19, 55, 56, 57, 58, 59, 60, 61, 62, 63, 64, 65, 66, 67, 68, 69, 70, 71, 72, 73, 74, 75, 76, 77, 78, 79, 80, 81] (by decide +kernel) (by decide +kernel)
set_option maxRecDepth 20000 in
theorem gX6_say_X6_refuses : GoodIn wsX6_say (wsV RX6 196 RX6 yX6_refuses wsX6_refuses) := goodIn_app (goodIn_of _ (by decide +kernel)) ggX6_say_X6_refuses
set_option maxRecDepth 20000 in
theorem ggX6_say_X6_remember : GoodIn wsX6_say wsX6_remember := goodIn_r _ [23, 1, 24, 8, 25, 26, 6, 27, 55, 56, 57, 58, 59, 60, 61, 62, 63, 64, 65, 66, 67, 68, 69, 70, 71, 72, 73, 74, 75, 76, 77, 78, 79, 80, 81] (by decide +kernel) (by decide +kernel)
set_option maxRecDepth 20000 in
theorem gX6_say_X6_remember : GoodIn wsX6_say (wsV RX6 189 RX6 yX6_remember wsX6_remember) := goodIn_app (goodIn_of _ (by decide +kernel)) ggX6_say_X6_remember
set_option maxRecDepth 20000 in
theorem ggX6_say_X6_named : GoodIn wsX6_say wsX6_named := goodIn_r _ [30, 31, 32, 6, 33, 34, 35, 36] (by decide +kernel) (by decide +kernel)
set_option maxRecDepth 20000 in
theorem gX6_say_X6_named : GoodIn wsX6_say (va_wsS RX6 199 yX6_named wsX6_named) := goodIn_app (goodIn_of _ (by decide +kernel)) ggX6_say_X6_named
set_option maxRecDepth 20000 in
theorem ggX6_say_X6_looks : GoodIn wsX6_say wsX6_looks := goodIn_r _ [40, 13, 41, 2, 42, 43, 44, 6, 45, 46, 47, 48, 49, 17, 18, 19, 50, 51, 52, 53, 54, 55, 56, 57, 58, 59, 60, 61, 62, 63, 64, 65, 66, 67, 68, 69, 70, 71, 72, 73, 74, 75, 76, 77, 78, 79, 80, 81] (by decide +kernel) (by decide +kernel)
set_option maxRecDepth 20000 in
theorem gX6_say_X6_looks : GoodIn wsX6_say (wsV RX6 165 RX6 yX6_looks wsX6_looks) := goodIn_app (goodIn_of _ (by decide +kernel)) ggX6_say_X6_looks
set_option maxRecDepth 20000 in
theorem ggX6_say_X6_has : GoodIn wsX6_say wsX6_has := goodIn_r _ [19] (by decide +kernel) (by decide +kernel)
set_option maxRecDepth 20000 in
theorem gX6_say_X6_has : GoodIn wsX6_say (va_wsS RX6 151 yX6_has wsX6_has) := goodIn_app (goodIn_of _ (by decide +kernel)) ggX6_say_X6_has
theorem dX6_say_0 : decode cX6_say 0 = .ok (.aload_n 0, 1) := by decide +kernel
theorem dX6_say_1 : decode cX6_say 1 = .ok (.iload_n 1, 1) := by decide +kernel
theorem dX6_say_2 : decode cX6_say 2 = .ok (.invokevirtual 196, 3) := by decide +kernel
theorem dX6_say_5 : decode cX6_say 5 = .ok (.istore_n 2, 1) := by decide +kernel
theorem dX6_say_6 : decode cX6_say 6 = .ok (.iload_n 2, 1) := by decide +kernel
theorem dX6_say_7 : decode cX6_say 7 = .ok (.ifCond .eq 5, 3) := by decide +kernel
theorem dX6_say_10 : decode cX6_say 10 = .ok (.iload_n 2, 1) := by decide +kernel
theorem dX6_say_11 : decode cX6_say 11 = .ok (.ireturn, 1) := by decide +kernel
theorem dX6_say_12 : decode cX6_say 12 = .ok (.aload_n 0, 1) := by decide +kernel
theorem dX6_say_13 : decode cX6_say 13 = .ok (.invokevirtual 189, 3) := by decide +kernel
theorem dX6_say_16 : decode cX6_say 16 = .ok (.aload_n 0, 1) := by decide +kernel
theorem dX6_say_17 : decode cX6_say 17 = .ok (.getfield 31, 3) := by decide +kernel
theorem dX6_say_20 : decode cX6_say 20 = .ok (.iload_n 1, 1) := by decide +kernel
theorem dX6_say_21 : decode cX6_say 21 = .ok (.aload_n 0, 1) := by decide +kernel
theorem dX6_say_22 : decode cX6_say 22 = .ok (.getfield 25, 3) := by decide +kernel
theorem dX6_say_25 : decode cX6_say 25 = .ok (.iload_n 1, 1) := by decide +kernel
theorem dX6_say_26 : decode cX6_say 26 = .ok (.iaload, 1) := by decide +kernel
theorem dX6_say_27 : decode cX6_say 27 = .ok (.aload_n 0, 1) := by decide +kernel
theorem dX6_say_28 : decode cX6_say 28 = .ok (.getfield 31, 3) := by decide +kernel
theorem dX6_say_31 : decode cX6_say 31 = .ok (.iload_n 1, 1) := by decide +kernel
theorem dX6_say_32 : decode cX6_say 32 = .ok (.iaload, 1) := by decide +kernel
theorem dX6_say_33 : decode cX6_say 33 = .ok (.invokestatic 199, 3) := by decide +kernel
theorem dX6_say_36 : decode cX6_say 36 = .ok (.iastore, 1) := by decide +kernel
theorem dX6_say_37 : decode cX6_say 37 = .ok (.aload_n 0, 1) := by decide +kernel
theorem dX6_say_38 : decode cX6_say 38 = .ok (.aload_n 0, 1) := by decide +kernel
theorem dX6_say_39 : decode cX6_say 39 = .ok (.getfield 31, 3) := by decide +kernel
theorem dX6_say_42 : decode cX6_say 42 = .ok (.invokevirtual 165, 3) := by decide +kernel
theorem dX6_say_45 : decode cX6_say 45 = .ok (.istore_n 3, 1) := by decide +kernel
theorem dX6_say_46 : decode cX6_say 46 = .ok (.iload_n 3, 1) := by decide +kernel
theorem dX6_say_47 : decode cX6_say 47 = .ok (.iload_n 1, 1) := by decide +kernel
theorem dX6_say_48 : decode cX6_say 48 = .ok (.invokestatic 151, 3) := by decide +kernel
theorem dX6_say_51 : decode cX6_say 51 = .ok (.ifCond .eq 7, 3) := by decide +kernel
theorem dX6_say_54 : decode cX6_say 54 = .ok (.iconst 0, 1) := by decide +kernel
theorem dX6_say_55 : decode cX6_say 55 = .ok (.goto 9, 3) := by decide +kernel
theorem dX6_say_58 : decode cX6_say 58 = .ok (.aload_n 0, 1) := by decide +kernel
theorem dX6_say_59 : decode cX6_say 59 = .ok (.getfield 31, 3) := by decide +kernel
theorem dX6_say_62 : decode cX6_say 62 = .ok (.iload_n 1, 1) := by decide +kernel
theorem dX6_say_63 : decode cX6_say 63 = .ok (.iaload, 1) := by decide +kernel
theorem dX6_say_64 : decode cX6_say 64 = .ok (.ireturn, 1) := by decide +kernel
set_option maxRecDepth 20000 in
theorem ggX6_ice_X6_refuses : GoodIn wsX6_ice wsX6_refuses := goodIn_r _ [6, 1, 7, 8, 9, 10, 5, 11, 12, 13, 14, 15, 16, 17, 18, 49, 50, 51, 52, 53, 54, 55, 56, 57, 58, 59, 60, 61, 62, 63, 64, 65, 66, 67, 68, 69, 70, 71, 72, 73, 74, 75] (by decide +kernel) (by decide +kernel)
set_option maxRecDepth 20000 in
theorem gX6_ice_X6_refuses : GoodIn wsX6_ice (wsV RX6 196 RX6 yX6_refuses wsX6_refuses) := goodIn_app (goodIn_of _ (by decide +kernel)) ggX6_ice_X6_refuses
set_option maxRecDepth 20000 in
theorem ggX6_ice_X6_remember : GoodIn wsX6_ice wsX6_remember := goodIn_r _ [22, 1, 23, 7, 24, 25, 5, 26, 49, 50, 51, 52, 53, 54, 55, 56, 57, 58, 59, 60, 61, 62, 63, 64, 65, 66, 67, 68, 69, 70, 71, 72, 73, 74, 75] (by decide +kernel) (by decide +kernel)
set_option maxRecDepth 20000 in
theorem gX6_ice_X6_remember : GoodIn wsX6_ice (wsV RX6 189 RX6 yX6_remember wsX6_remember) := goodIn_app (goodIn_of _ (by decide +kernel)) ggX6_ice_X6_remember
set_option maxRecDepth 20000 in
theorem ggX6_ice_X6_kept20 : GoodIn wsX6_ice wsX6_kept20 := goodIn_r _ [29] (by decide +kernel) (by decide +kernel)
set_option maxRecDepth 20000 in
theorem gX6_ice_X6_kept20 : GoodIn wsX6_ice (va_wsS RX6 148 yX6_kept20 wsX6_kept20) := goodIn_app (goodIn_of _ (by decide +kernel)) ggX6_ice_X6_kept20
set_option maxRecDepth 20000 in
theorem ggX6_ice_X6_looks : GoodIn wsX6_ice wsX6_looks := goodIn_r _ [33, 12, 34, 35, 36, 37, 38, 5, 39, 40, 41, 42, 43, 16, 17, 18, 44, 45, 46, 47, 48, 49, 50, 51, 52, 53, 54, 55, 56, 57, 58, 59, 60, 61, 62, 63, 64, 65, 66, 67, 68, 69, 70, 71, 72, 73, 74, 75] (by decide +kernel) (by decide +kernel)
set_option maxRecDepth 20000 in
theorem gX6_ice_X6_looks : GoodIn wsX6_ice (wsV RX6 165 RX6 yX6_looks wsX6_looks) := goodIn_app (goodIn_of _ (by decide +kernel)) ggX6_ice_X6_looks
set_option maxRecDepth 20000 in
theorem ggX6_ice_X6_has : GoodIn wsX6_ice wsX6_has := goodIn_r _ [18] (by decide +kernel) (by decide +kernel)
set_option maxRecDepth 20000 in
theorem gX6_ice_X6_has : GoodIn wsX6_ice (va_wsS RX6 151 yX6_has wsX6_has) := goodIn_app (goodIn_of _ (by decide +kernel)) ggX6_ice_X6_has
theorem dX6_ice_0 : decode cX6_ice 0 = .ok (.aload_n 0, 1) := by decide +kernel
theorem dX6_ice_1 : decode cX6_ice 1 = .ok (.iload_n 1, 1) := by decide +kernel
theorem dX6_ice_2 : decode cX6_ice 2 = .ok (.invokevirtual 196, 3) := by decide +kernel
theorem dX6_ice_5 : decode cX6_ice 5 = .ok (.istore_n 2, 1) := by decide +kernel
theorem dX6_ice_6 : decode cX6_ice 6 = .ok (.iload_n 2, 1) := by decide +kernel
theorem dX6_ice_7 : decode cX6_ice 7 = .ok (.ifCond .eq 5, 3) := by decide +kernel
theorem dX6_ice_10 : decode cX6_ice 10 = .ok (.iload_n 2, 1) := by decide +kernel
theorem dX6_ice_11 : decode cX6_ice 11 = .ok (.ireturn, 1) := by decide +kernel
theorem dX6_ice_12 : decode cX6_ice 12 = .ok (.aload_n 0, 1) := by decide +kernel
theorem dX6_ice_13 : decode cX6_ice 13 = .ok (.invokevirtual 189, 3) := by decide +kernel
theorem dX6_ice_16 : decode cX6_ice 16 = .ok (.aload_n 0, 1) := by decide +kernel
theorem dX6_ice_17 : decode cX6_ice 17 = .ok (.getfield 31, 3) := by decide +kernel
theorem dX6_ice_20 : decode cX6_ice 20 = .ok (.iload_n 1, 1) := by decide +kernel
theorem dX6_ice_21 : decode cX6_ice 21 = .ok (.aload_n 0, 1) := by decide +kernel
theorem dX6_ice_22 : decode cX6_ice 22 = .ok (.getfield 31, 3) := by decide +kernel
theorem dX6_ice_25 : decode cX6_ice 25 = .ok (.iload_n 1, 1) := by decide +kernel
theorem dX6_ice_26 : decode cX6_ice 26 = .ok (.iaload, 1) := by decide +kernel
theorem dX6_ice_27 : decode cX6_ice 27 = .ok (.iconst 3, 1) := by decide +kernel
theorem dX6_ice_28 : decode cX6_ice 28 = .ok (.isub, 1) := by decide +kernel
theorem dX6_ice_29 : decode cX6_ice 29 = .ok (.invokestatic 148, 3) := by decide +kernel
theorem dX6_ice_32 : decode cX6_ice 32 = .ok (.iastore, 1) := by decide +kernel
theorem dX6_ice_33 : decode cX6_ice 33 = .ok (.aload_n 0, 1) := by decide +kernel
theorem dX6_ice_34 : decode cX6_ice 34 = .ok (.aload_n 0, 1) := by decide +kernel
theorem dX6_ice_35 : decode cX6_ice 35 = .ok (.getfield 31, 3) := by decide +kernel
theorem dX6_ice_38 : decode cX6_ice 38 = .ok (.invokevirtual 165, 3) := by decide +kernel
theorem dX6_ice_41 : decode cX6_ice 41 = .ok (.istore_n 3, 1) := by decide +kernel
theorem dX6_ice_42 : decode cX6_ice 42 = .ok (.iload_n 3, 1) := by decide +kernel
theorem dX6_ice_43 : decode cX6_ice 43 = .ok (.iload_n 1, 1) := by decide +kernel
theorem dX6_ice_44 : decode cX6_ice 44 = .ok (.invokestatic 151, 3) := by decide +kernel
theorem dX6_ice_47 : decode cX6_ice 47 = .ok (.ifCond .eq 7, 3) := by decide +kernel
theorem dX6_ice_50 : decode cX6_ice 50 = .ok (.iconst 0, 1) := by decide +kernel
theorem dX6_ice_51 : decode cX6_ice 51 = .ok (.goto 9, 3) := by decide +kernel
theorem dX6_ice_54 : decode cX6_ice 54 = .ok (.aload_n 0, 1) := by decide +kernel
theorem dX6_ice_55 : decode cX6_ice 55 = .ok (.getfield 31, 3) := by decide +kernel
theorem dX6_ice_58 : decode cX6_ice 58 = .ok (.iload_n 1, 1) := by decide +kernel
theorem dX6_ice_59 : decode cX6_ice 59 = .ok (.iaload, 1) := by decide +kernel
theorem dX6_ice_60 : decode cX6_ice 60 = .ok (.ireturn, 1) := by decide +kernel
set_option maxRecDepth 20000 in
theorem ggX6_undo_X6_in : GoodIn wsX6_undo wsX6_in := goodIn_r _ [7] (by decide +kernel) (by decide +kernel)
set_option maxRecDepth 20000 in
theorem gX6_undo_X6_in : GoodIn wsX6_undo (va_wsS RX6 75 yX6_in wsX6_in) := goodIn_app (goodIn_of _ (by decide +kernel)) ggX6_undo_X6_in
set_option maxRecDepth 20000 in
theorem ggX6_undo_X6_copies : GoodIn wsX6_undo wsX6_copies := goodIn_r _ [10] (by decide +kernel) (by decide +kernel)
set_option maxRecDepth 20000 in
theorem gX6_undo_X6_copies : GoodIn wsX6_undo (va_wsS RX6 185 yX6_copies wsX6_copies) := goodIn_app (goodIn_of _ (by decide +kernel)) ggX6_undo_X6_copies
theorem dX6_undo_0 : decode cX6_undo 0 = .ok (.iload_n 1, 1) := by decide +kernel
theorem dX6_undo_1 : decode cX6_undo 1 = .ok (.i2l, 1) := by decide +kernel
theorem dX6_undo_2 : decode cX6_undo 2 = .ok (.lconst 0, 1) := by decide +kernel
theorem dX6_undo_3 : decode cX6_undo 3 = .ok (.aload_n 0, 1) := by decide +kernel
theorem dX6_undo_4 : decode cX6_undo 4 = .ok (.getfield 137, 3) := by decide +kernel
theorem dX6_undo_7 : decode cX6_undo 7 = .ok (.i2l, 1) := by decide +kernel
theorem dX6_undo_8 : decode cX6_undo 8 = .ok (.invokestatic 75, 3) := by decide +kernel
theorem dX6_undo_11 : decode cX6_undo 11 = .ok (.ifCond .ne 5, 3) := by decide +kernel
theorem dX6_undo_14 : decode cX6_undo 14 = .ok (.iconst (-1), 1) := by decide +kernel
theorem dX6_undo_15 : decode cX6_undo 15 = .ok (.ireturn, 1) := by decide +kernel
theorem dX6_undo_16 : decode cX6_undo 16 = .ok (.aload_n 0, 1) := by decide +kernel
theorem dX6_undo_17 : decode cX6_undo 17 = .ok (.getfield 137, 3) := by decide +kernel
theorem dX6_undo_20 : decode cX6_undo 20 = .ok (.iload_n 1, 1) := by decide +kernel
theorem dX6_undo_21 : decode cX6_undo 21 = .ok (.isub, 1) := by decide +kernel
theorem dX6_undo_22 : decode cX6_undo 22 = .ok (.istore_n 2, 1) := by decide +kernel
theorem dX6_undo_23 : decode cX6_undo 23 = .ok (.iload_n 2, 1) := by decide +kernel
theorem dX6_undo_24 : decode cX6_undo 24 = .ok (.ifCond .le 21, 3) := by decide +kernel
theorem dX6_undo_27 : decode cX6_undo 27 = .ok (.aload_n 0, 1) := by decide +kernel
theorem dX6_undo_28 : decode cX6_undo 28 = .ok (.getfield 34, 3) := by decide +kernel
theorem dX6_undo_31 : decode cX6_undo 31 = .ok (.bipush 7, 2) := by decide +kernel
theorem dX6_undo_33 : decode cX6_undo 33 = .ok (.iload_n 1, 1) := by decide +kernel
theorem dX6_undo_34 : decode cX6_undo 34 = .ok (.imul, 1) := by decide +kernel
theorem dX6_undo_35 : decode cX6_undo 35 = .ok (.aload_n 0, 1) := by decide +kernel
theorem dX6_undo_36 : decode cX6_undo 36 = .ok (.getfield 31, 3) := by decide +kernel
theorem dX6_undo_39 : decode cX6_undo 39 = .ok (.iconst 0, 1) := by decide +kernel
theorem dX6_undo_40 : decode cX6_undo 40 = .ok (.bipush 7, 2) := by decide +kernel
theorem dX6_undo_42 : decode cX6_undo 42 = .ok (.invokestatic 185, 3) := by decide +kernel
theorem dX6_undo_45 : decode cX6_undo 45 = .ok (.aload_n 0, 1) := by decide +kernel
theorem dX6_undo_46 : decode cX6_undo 46 = .ok (.iload_n 1, 1) := by decide +kernel
theorem dX6_undo_47 : decode cX6_undo 47 = .ok (.putfield 137, 3) := by decide +kernel
theorem dX6_undo_50 : decode cX6_undo 50 = .ok (.iload_n 2, 1) := by decide +kernel
theorem dX6_undo_51 : decode cX6_undo 51 = .ok (.ireturn, 1) := by decide +kernel
set_option maxRecDepth 20000 in
theorem ggX6_keep_X6_in : GoodIn wsX6_keep wsX6_in := goodIn_r _ [11] (by decide +kernel) (by decide +kernel)
set_option maxRecDepth 20000 in
theorem gX6_keep_X6_in : GoodIn wsX6_keep (va_wsS RX6 75 yX6_in wsX6_in) := goodIn_app (goodIn_of _ (by decide +kernel)) ggX6_keep_X6_in
set_option maxRecDepth 20000 in
theorem ggX6_keep_X6_copies : GoodIn wsX6_keep wsX6_copies := goodIn_r _ [14] (by decide +kernel) (by decide +kernel)
set_option maxRecDepth 20000 in
theorem gX6_keep_X6_copies : GoodIn wsX6_keep (va_wsS RX6 185 yX6_copies wsX6_copies) := goodIn_app (goodIn_of _ (by decide +kernel)) ggX6_keep_X6_copies
theorem dX6_keep_0 : decode cX6_keep 0 = .ok (.iload_n 1, 1) := by decide +kernel
theorem dX6_keep_1 : decode cX6_keep 1 = .ok (.i2l, 1) := by decide +kernel
theorem dX6_keep_2 : decode cX6_keep 2 = .ok (.lconst 0, 1) := by decide +kernel
theorem dX6_keep_3 : decode cX6_keep 3 = .ok (.ldc2_w 202, 3) := by decide +kernel
theorem dX6_keep_6 : decode cX6_keep 6 = .ok (.invokestatic 75, 3) := by decide +kernel
theorem dX6_keep_9 : decode cX6_keep 9 = .ok (.ifCond .ne 5, 3) := by decide +kernel
theorem dX6_keep_12 : decode cX6_keep 12 = .ok (.iconst (-1), 1) := by decide +kernel
theorem dX6_keep_13 : decode cX6_keep 13 = .ok (.ireturn, 1) := by decide +kernel
theorem dX6_keep_14 : decode cX6_keep 14 = .ok (.aload_n 0, 1) := by decide +kernel
theorem dX6_keep_15 : decode cX6_keep 15 = .ok (.getfield 131, 3) := by decide +kernel
theorem dX6_keep_18 : decode cX6_keep 18 = .ok (.ifCond .ne 6, 3) := by decide +kernel
theorem dX6_keep_21 : decode cX6_keep 21 = .ok (.bipush (-4), 2) := by decide +kernel
theorem dX6_keep_23 : decode cX6_keep 23 = .ok (.ireturn, 1) := by decide +kernel
theorem dX6_keep_24 : decode cX6_keep 24 = .ok (.aload_n 0, 1) := by decide +kernel
theorem dX6_keep_25 : decode cX6_keep 25 = .ok (.getfield 31, 3) := by decide +kernel
theorem dX6_keep_28 : decode cX6_keep 28 = .ok (.iconst 0, 1) := by decide +kernel
theorem dX6_keep_29 : decode cX6_keep 29 = .ok (.aload_n 0, 1) := by decide +kernel
theorem dX6_keep_30 : decode cX6_keep 30 = .ok (.getfield 37, 3) := by decide +kernel
theorem dX6_keep_33 : decode cX6_keep 33 = .ok (.sipush 288, 3) := by decide +kernel
theorem dX6_keep_36 : decode cX6_keep 36 = .ok (.iload_n 1, 1) := by decide +kernel
theorem dX6_keep_37 : decode cX6_keep 37 = .ok (.imul, 1) := by decide +kernel
theorem dX6_keep_38 : decode cX6_keep 38 = .ok (.bipush 7, 2) := by decide +kernel
theorem dX6_keep_40 : decode cX6_keep 40 = .ok (.invokestatic 185, 3) := by decide +kernel
theorem dX6_keep_43 : decode cX6_keep 43 = .ok (.aload_n 0, 1) := by decide +kernel
theorem dX6_keep_44 : decode cX6_keep 44 = .ok (.getfield 37, 3) := by decide +kernel
theorem dX6_keep_47 : decode cX6_keep 47 = .ok (.sipush 288, 3) := by decide +kernel
theorem dX6_keep_50 : decode cX6_keep 50 = .ok (.iload_n 1, 1) := by decide +kernel
theorem dX6_keep_51 : decode cX6_keep 51 = .ok (.imul, 1) := by decide +kernel
theorem dX6_keep_52 : decode cX6_keep 52 = .ok (.bipush 7, 2) := by decide +kernel
theorem dX6_keep_54 : decode cX6_keep 54 = .ok (.iadd, 1) := by decide +kernel
theorem dX6_keep_55 : decode cX6_keep 55 = .ok (.aload_n 0, 1) := by decide +kernel
theorem dX6_keep_56 : decode cX6_keep 56 = .ok (.getfield 137, 3) := by decide +kernel
theorem dX6_keep_59 : decode cX6_keep 59 = .ok (.iastore, 1) := by decide +kernel
theorem dX6_keep_60 : decode cX6_keep 60 = .ok (.aload_n 0, 1) := by decide +kernel
theorem dX6_keep_61 : decode cX6_keep 61 = .ok (.getfield 34, 3) := by decide +kernel
theorem dX6_keep_64 : decode cX6_keep 64 = .ok (.iconst 0, 1) := by decide +kernel
theorem dX6_keep_65 : decode cX6_keep 65 = .ok (.aload_n 0, 1) := by decide +kernel
theorem dX6_keep_66 : decode cX6_keep 66 = .ok (.getfield 37, 3) := by decide +kernel
theorem dX6_keep_69 : decode cX6_keep 69 = .ok (.sipush 288, 3) := by decide +kernel
theorem dX6_keep_72 : decode cX6_keep 72 = .ok (.iload_n 1, 1) := by decide +kernel
theorem dX6_keep_73 : decode cX6_keep 73 = .ok (.imul, 1) := by decide +kernel
theorem dX6_keep_74 : decode cX6_keep 74 = .ok (.bipush 8, 2) := by decide +kernel
theorem dX6_keep_76 : decode cX6_keep 76 = .ok (.iadd, 1) := by decide +kernel
theorem dX6_keep_77 : decode cX6_keep 77 = .ok (.sipush 280, 3) := by decide +kernel
theorem dX6_keep_80 : decode cX6_keep 80 = .ok (.invokestatic 185, 3) := by decide +kernel
theorem dX6_keep_83 : decode cX6_keep 83 = .ok (.aload_n 0, 1) := by decide +kernel
theorem dX6_keep_84 : decode cX6_keep 84 = .ok (.getfield 40, 3) := by decide +kernel
theorem dX6_keep_87 : decode cX6_keep 87 = .ok (.iload_n 1, 1) := by decide +kernel
theorem dX6_keep_88 : decode cX6_keep 88 = .ok (.iconst 1, 1) := by decide +kernel
theorem dX6_keep_89 : decode cX6_keep 89 = .ok (.bastore, 1) := by decide +kernel
theorem dX6_keep_90 : decode cX6_keep 90 = .ok (.aload_n 0, 1) := by decide +kernel
theorem dX6_keep_91 : decode cX6_keep 91 = .ok (.getfield 137, 3) := by decide +kernel
theorem dX6_keep_94 : decode cX6_keep 94 = .ok (.ireturn, 1) := by decide +kernel
set_option maxRecDepth 20000 in
theorem ggX6_on_X6_in : GoodIn wsX6_on wsX6_in := goodIn_r _ [10] (by decide +kernel) (by decide +kernel)
set_option maxRecDepth 20000 in
theorem gX6_on_X6_in : GoodIn wsX6_on (va_wsS RX6 75 yX6_in wsX6_in) := goodIn_app (goodIn_of _ (by decide +kernel)) ggX6_on_X6_in
set_option maxRecDepth 20000 in
theorem ggX6_on_X6_found : GoodIn wsX6_on wsX6_found := goodIn_r _ [14, 15, 16, 20, 21, 22, 23, 24, 25, 26, 27, 28, 29, 30, 31, 32, 33, 34, 35, 36, 37, 38, 39, 40, 41, 42, 43, 44, 45, 46] (by decide +kernel) (by decide +kernel)
set_option maxRecDepth 20000 in
theorem gX6_on_X6_found : GoodIn wsX6_on (wsV RX6 85 RX6 yX6_found wsX6_found) := goodIn_app (goodIn_of _ (by decide +kernel)) ggX6_on_X6_found
set_option maxRecDepth 20000 in
theorem ggX6_on_X6_copies : GoodIn wsX6_on wsX6_copies := goodIn_r _ [19] (by decide +kernel) (by decide +kernel)
set_option maxRecDepth 20000 in
theorem gX6_on_X6_copies : GoodIn wsX6_on (va_wsS RX6 185 yX6_copies wsX6_copies) := goodIn_app (goodIn_of _ (by decide +kernel)) ggX6_on_X6_copies
theorem dX6_on_0 : decode cX6_on 0 = .ok (.iload_n 1, 1) := by decide +kernel
theorem dX6_on_1 : decode cX6_on 1 = .ok (.i2l, 1) := by decide +kernel
theorem dX6_on_2 : decode cX6_on 2 = .ok (.lconst 0, 1) := by decide +kernel
theorem dX6_on_3 : decode cX6_on 3 = .ok (.ldc2_w 202, 3) := by decide +kernel
theorem dX6_on_6 : decode cX6_on 6 = .ok (.invokestatic 75, 3) := by decide +kernel
theorem dX6_on_9 : decode cX6_on 9 = .ok (.ifCond .ne 5, 3) := by decide +kernel
theorem dX6_on_12 : decode cX6_on 12 = .ok (.iconst (-1), 1) := by decide +kernel
theorem dX6_on_13 : decode cX6_on 13 = .ok (.ireturn, 1) := by decide +kernel
theorem dX6_on_14 : decode cX6_on 14 = .ok (.aload_n 0, 1) := by decide +kernel
theorem dX6_on_15 : decode cX6_on 15 = .ok (.getfield 40, 3) := by decide +kernel
theorem dX6_on_18 : decode cX6_on 18 = .ok (.iload_n 1, 1) := by decide +kernel
theorem dX6_on_19 : decode cX6_on 19 = .ok (.baload, 1) := by decide +kernel
theorem dX6_on_20 : decode cX6_on 20 = .ok (.ifCond .ne 9, 3) := by decide +kernel
theorem dX6_on_23 : decode cX6_on 23 = .ok (.aload_n 0, 1) := by decide +kernel
theorem dX6_on_24 : decode cX6_on 24 = .ok (.iconst 1, 1) := by decide +kernel
theorem dX6_on_25 : decode cX6_on 25 = .ok (.invokevirtual 85, 3) := by decide +kernel
theorem dX6_on_28 : decode cX6_on 28 = .ok (.ireturn, 1) := by decide +kernel
theorem dX6_on_29 : decode cX6_on 29 = .ok (.aload_n 0, 1) := by decide +kernel
theorem dX6_on_30 : decode cX6_on 30 = .ok (.getfield 37, 3) := by decide +kernel
theorem dX6_on_33 : decode cX6_on 33 = .ok (.sipush 288, 3) := by decide +kernel
theorem dX6_on_36 : decode cX6_on 36 = .ok (.iload_n 1, 1) := by decide +kernel
theorem dX6_on_37 : decode cX6_on 37 = .ok (.imul, 1) := by decide +kernel
theorem dX6_on_38 : decode cX6_on 38 = .ok (.aload_n 0, 1) := by decide +kernel
theorem dX6_on_39 : decode cX6_on 39 = .ok (.getfield 31, 3) := by decide +kernel
theorem dX6_on_42 : decode cX6_on 42 = .ok (.iconst 0, 1) := by decide +kernel
theorem dX6_on_43 : decode cX6_on 43 = .ok (.bipush 7, 2) := by decide +kernel
theorem dX6_on_45 : decode cX6_on 45 = .ok (.invokestatic 185, 3) := by decide +kernel
theorem dX6_on_48 : decode cX6_on 48 = .ok (.aload_n 0, 1) := by decide +kernel
theorem dX6_on_49 : decode cX6_on 49 = .ok (.aload_n 0, 1) := by decide +kernel
theorem dX6_on_50 : decode cX6_on 50 = .ok (.getfield 37, 3) := by decide +kernel
theorem dX6_on_53 : decode cX6_on 53 = .ok (.sipush 288, 3) := by decide +kernel
theorem dX6_on_56 : decode cX6_on 56 = .ok (.iload_n 1, 1) := by decide +kernel
theorem dX6_on_57 : decode cX6_on 57 = .ok (.imul, 1) := by decide +kernel
theorem dX6_on_58 : decode cX6_on 58 = .ok (.bipush 7, 2) := by decide +kernel
theorem dX6_on_60 : decode cX6_on 60 = .ok (.iadd, 1) := by decide +kernel
theorem dX6_on_61 : decode cX6_on 61 = .ok (.iaload, 1) := by decide +kernel
theorem dX6_on_62 : decode cX6_on 62 = .ok (.putfield 137, 3) := by decide +kernel
theorem dX6_on_65 : decode cX6_on 65 = .ok (.aload_n 0, 1) := by decide +kernel
theorem dX6_on_66 : decode cX6_on 66 = .ok (.getfield 37, 3) := by decide +kernel
theorem dX6_on_69 : decode cX6_on 69 = .ok (.sipush 288, 3) := by decide +kernel
theorem dX6_on_72 : decode cX6_on 72 = .ok (.iload_n 1, 1) := by decide +kernel
theorem dX6_on_73 : decode cX6_on 73 = .ok (.imul, 1) := by decide +kernel
theorem dX6_on_74 : decode cX6_on 74 = .ok (.bipush 8, 2) := by decide +kernel
theorem dX6_on_76 : decode cX6_on 76 = .ok (.iadd, 1) := by decide +kernel
theorem dX6_on_77 : decode cX6_on 77 = .ok (.aload_n 0, 1) := by decide +kernel
theorem dX6_on_78 : decode cX6_on 78 = .ok (.getfield 34, 3) := by decide +kernel
theorem dX6_on_81 : decode cX6_on 81 = .ok (.iconst 0, 1) := by decide +kernel
theorem dX6_on_82 : decode cX6_on 82 = .ok (.sipush 280, 3) := by decide +kernel
theorem dX6_on_85 : decode cX6_on 85 = .ok (.invokestatic 185, 3) := by decide +kernel
theorem dX6_on_88 : decode cX6_on 88 = .ok (.aload_n 0, 1) := by decide +kernel
theorem dX6_on_89 : decode cX6_on 89 = .ok (.getfield 137, 3) := by decide +kernel
theorem dX6_on_92 : decode cX6_on 92 = .ok (.ireturn, 1) := by decide +kernel
set_option maxRecDepth 20000 in
theorem ggX6_layAside_X6_copies : GoodIn wsX6_layAside wsX6_copies := goodIn_r _ [6] (by decide +kernel) (by decide +kernel)
set_option maxRecDepth 20000 in
theorem gX6_layAside_X6_copies : GoodIn wsX6_layAside (va_wsS RX6 185 yX6_copies wsX6_copies) := goodIn_app (goodIn_of _ (by decide +kernel)) ggX6_layAside_X6_copies
theorem dX6_layAside_0 : decode cX6_layAside 0 = .ok (.aload_n 0, 1) := by decide +kernel
theorem dX6_layAside_1 : decode cX6_layAside 1 = .ok (.getfield 31, 3) := by decide +kernel
theorem dX6_layAside_4 : decode cX6_layAside 4 = .ok (.iconst 0, 1) := by decide +kernel
theorem dX6_layAside_5 : decode cX6_layAside 5 = .ok (.aload_n 0, 1) := by decide +kernel
theorem dX6_layAside_6 : decode cX6_layAside 6 = .ok (.getfield 54, 3) := by decide +kernel
theorem dX6_layAside_9 : decode cX6_layAside 9 = .ok (.iconst 0, 1) := by decide +kernel
theorem dX6_layAside_10 : decode cX6_layAside 10 = .ok (.bipush 7, 2) := by decide +kernel
theorem dX6_layAside_12 : decode cX6_layAside 12 = .ok (.invokestatic 185, 3) := by decide +kernel
theorem dX6_layAside_15 : decode cX6_layAside 15 = .ok (.return_, 1) := by decide +kernel
set_option maxRecDepth 20000 in
theorem ggX6_out_X6_isTune : GoodIn wsX6_out wsX6_isTune := goodIn_r _ [5, 6, 7, 8, 4, 9] (by decide +kernel) (by decide +kernel)
set_option maxRecDepth 20000 in
theorem gX6_out_X6_isTune : GoodIn wsX6_out (va_wsS RX6 180 yX6_isTune wsX6_isTune) := goodIn_app (goodIn_of _ (by decide +kernel)) ggX6_out_X6_isTune
set_option maxRecDepth 20000 in
theorem ggX6_out_X6_layAside : GoodIn wsX6_out wsX6_layAside := goodIn_r _ [13, 14, 1, 15, 16, 4, 17, 63, 64, 65, 66, 67, 68, 69, 70, 71, 72, 73, 74, 75, 76, 77, 78, 79, 80, 81, 82, 83, 84, 85, 86, 87, 88, 89] (by decide +kernel) (by decide +kernel)
set_option maxRecDepth 20000 in
theorem gX6_out_X6_layAside : GoodIn wsX6_out (wsV RX6 204 RX6 yX6_layAside wsX6_layAside) := goodIn_app (goodIn_of _ (by decide +kernel)) ggX6_out_X6_layAside
set_option maxRecDepth 20000 in
theorem ggX6_out_X6_plays : GoodIn wsX6_out wsX6_plays := goodIn_r _ [21, 22, 23, 24, 25, 26, 4, 27, 28, 29, 30, 31, 32, 33, 34, 35, 36, 37, 38, 39, 40, 41, 42, 43, 44, 45, 46, 47, 48, 49, 50, 51, 52, 53, 54, 63, 64, 65, 66, 67, 68, 69, 70, 71, 72, 73, 74, 75, 76, 77, 78, 79, 80, 81, 82, 83, 84, 85, 86, 87, 88, 89] (by decide +kernel) (by decide +kernel)
set_option maxRecDepth 20000 in
theorem gX6_out_X6_plays : GoodIn wsX6_out (wsV RX6 192 RX6 yX6_plays wsX6_plays) := goodIn_app (goodIn_of _ (by decide +kernel)) ggX6_out_X6_plays
set_option maxRecDepth 20000 in
theorem ggX6_out_X6_sumOf : GoodIn wsX6_out wsX6_sumOf := goodIn_r _ [57] (by decide +kernel) (by decide +kernel)
set_option maxRecDepth 20000 in
theorem gX6_out_X6_sumOf : GoodIn wsX6_out (va_wsS RX6 207 yX6_sumOf wsX6_sumOf) := goodIn_app (goodIn_of _ (by decide +kernel)) ggX6_out_X6_sumOf
set_option maxRecDepth 20000 in
theorem ggX6_out_X6_answer : GoodIn wsX6_out wsX6_answer := goodIn_r _ [61, 62, 63, 64, 65, 66, 67, 68, 69, 70, 71, 72, 73, 74, 75, 76, 77, 78, 79, 80, 81, 82, 83, 84, 85, 86, 87, 88, 89] (by decide +kernel) (by decide +kernel)
set_option maxRecDepth 20000 in
theorem gX6_out_X6_answer : GoodIn wsX6_out (wsV RX6 210 RX6 yX6_answer wsX6_answer) := goodIn_app (goodIn_of _ (by decide +kernel)) ggX6_out_X6_answer
theorem dX6_out_0 : decode cX6_out 0 = .ok (.iload_n 1, 1) := by decide +kernel
theorem dX6_out_1 : decode cX6_out 1 = .ok (.invokestatic 180, 3) := by decide +kernel
theorem dX6_out_4 : decode cX6_out 4 = .ok (.ifCond .ne 5, 3) := by decide +kernel
theorem dX6_out_7 : decode cX6_out 7 = .ok (.iconst (-1), 1) := by decide +kernel
theorem dX6_out_8 : decode cX6_out 8 = .ok (.ireturn, 1) := by decide +kernel
theorem dX6_out_9 : decode cX6_out 9 = .ok (.aload_n 0, 1) := by decide +kernel
theorem dX6_out_10 : decode cX6_out 10 = .ok (.invokevirtual 204, 3) := by decide +kernel
theorem dX6_out_13 : decode cX6_out 13 = .ok (.aload_n 0, 1) := by decide +kernel
theorem dX6_out_14 : decode cX6_out 14 = .ok (.aload_n 0, 1) := by decide +kernel
theorem dX6_out_15 : decode cX6_out 15 = .ok (.getfield 54, 3) := by decide +kernel
theorem dX6_out_18 : decode cX6_out 18 = .ok (.iload_n 1, 1) := by decide +kernel
theorem dX6_out_19 : decode cX6_out 19 = .ok (.invokevirtual 192, 3) := by decide +kernel
theorem dX6_out_22 : decode cX6_out 22 = .ok (.istore_n 2, 1) := by decide +kernel
theorem dX6_out_23 : decode cX6_out 23 = .ok (.aload_n 0, 1) := by decide +kernel
theorem dX6_out_24 : decode cX6_out 24 = .ok (.iload_n 2, 1) := by decide +kernel
theorem dX6_out_25 : decode cX6_out 25 = .ok (.aload_n 0, 1) := by decide +kernel
theorem dX6_out_26 : decode cX6_out 26 = .ok (.getfield 54, 3) := by decide +kernel
theorem dX6_out_29 : decode cX6_out 29 = .ok (.invokestatic 207, 3) := by decide +kernel
theorem dX6_out_32 : decode cX6_out 32 = .ok (.invokevirtual 210, 3) := by decide +kernel
theorem dX6_out_35 : decode cX6_out 35 = .ok (.ireturn, 1) := by decide +kernel
set_option maxRecDepth 20000 in
theorem ggX6_safe_X6_layAside : GoodIn wsX6_safe wsX6_layAside := goodIn_r _ [7, 8, 2, 9, 10, 6, 11, 48, 49, 50, 51, 52, 53, 54, 55, 56, 57, 58, 59, 60, 61, 62, 63, 64, 65, 66, 67, 68, 69, 70, 71, 72, 73, 74] (by decide +kernel) (by decide +kernel)
set_option maxRecDepth 20000 in
theorem gX6_safe_X6_layAside : GoodIn wsX6_safe (wsV RX6 204 RX6 yX6_layAside wsX6_layAside) := goodIn_app (goodIn_of _ (by decide +kernel)) ggX6_safe_X6_layAside
set_option maxRecDepth 20000 in
theorem ggX6_safe_X6_plays : GoodIn wsX6_safe wsX6_plays := goodIn_r _ [15, 1, 16, 17, 18, 19, 6, 20, 21, 22, 23, 24, 25, 26, 27, 28, 29, 30, 31, 32, 33, 34, 35, 36, 37, 38, 39, 40, 41, 42, 43, 44, 45, 46, 47, 48, 49, 50, 51, 52, 53, 54, 55, 56, 57, 58, 59, 60, 61, 62, 63, 64, 65, 66, 67, 68, 69, 70, 71, 72, 73, 74] (by decide +kernel) (by decide +kernel)
set_option maxRecDepth 20000 in
theorem gX6_safe_X6_plays : GoodIn wsX6_safe (wsV RX6 192 RX6 yX6_plays wsX6_plays) := goodIn_app (goodIn_of _ (by decide +kernel)) ggX6_safe_X6_plays
theorem dX6_safe_0 : decode cX6_safe 0 = .ok (.aload_n 0, 1) := by decide +kernel
theorem dX6_safe_1 : decode cX6_safe 1 = .ok (.getfield 131, 3) := by decide +kernel
theorem dX6_safe_4 : decode cX6_safe 4 = .ok (.ifCond .ne 6, 3) := by decide +kernel
theorem dX6_safe_7 : decode cX6_safe 7 = .ok (.bipush (-4), 2) := by decide +kernel
theorem dX6_safe_9 : decode cX6_safe 9 = .ok (.ireturn, 1) := by decide +kernel
theorem dX6_safe_10 : decode cX6_safe 10 = .ok (.iconst 0, 1) := by decide +kernel
theorem dX6_safe_11 : decode cX6_safe 11 = .ok (.istore_n 1, 1) := by decide +kernel
theorem dX6_safe_12 : decode cX6_safe 12 = .ok (.iconst 0, 1) := by decide +kernel
theorem dX6_safe_13 : decode cX6_safe 13 = .ok (.istore_n 2, 1) := by decide +kernel
theorem dX6_safe_14 : decode cX6_safe 14 = .ok (.iload_n 2, 1) := by decide +kernel
theorem dX6_safe_15 : decode cX6_safe 15 = .ok (.iconst 4, 1) := by decide +kernel
theorem dX6_safe_16 : decode cX6_safe 16 = .ok (.if_icmp .ge 35, 3) := by decide +kernel
theorem dX6_safe_19 : decode cX6_safe 19 = .ok (.aload_n 0, 1) := by decide +kernel
theorem dX6_safe_20 : decode cX6_safe 20 = .ok (.invokevirtual 204, 3) := by decide +kernel
theorem dX6_safe_23 : decode cX6_safe 23 = .ok (.iload_n 1, 1) := by decide +kernel
theorem dX6_safe_24 : decode cX6_safe 24 = .ok (.aload_n 0, 1) := by decide +kernel
theorem dX6_safe_25 : decode cX6_safe 25 = .ok (.aload_n 0, 1) := by decide +kernel
theorem dX6_safe_26 : decode cX6_safe 26 = .ok (.getfield 54, 3) := by decide +kernel
theorem dX6_safe_29 : decode cX6_safe 29 = .ok (.iload_n 2, 1) := by decide +kernel
theorem dX6_safe_30 : decode cX6_safe 30 = .ok (.invokevirtual 192, 3) := by decide +kernel
theorem dX6_safe_33 : decode cX6_safe 33 = .ok (.ifCond .ne 9, 3) := by decide +kernel
theorem dX6_safe_36 : decode cX6_safe 36 = .ok (.iconst 1, 1) := by decide +kernel
theorem dX6_safe_37 : decode cX6_safe 37 = .ok (.iload_n 2, 1) := by decide +kernel
theorem dX6_safe_38 : decode cX6_safe 38 = .ok (.ishl, 1) := by decide +kernel
theorem dX6_safe_39 : decode cX6_safe 39 = .ok (.goto 4, 3) := by decide +kernel
theorem dX6_safe_42 : decode cX6_safe 42 = .ok (.iconst 0, 1) := by decide +kernel
theorem dX6_safe_43 : decode cX6_safe 43 = .ok (.ior, 1) := by decide +kernel
theorem dX6_safe_44 : decode cX6_safe 44 = .ok (.istore_n 1, 1) := by decide +kernel
theorem dX6_safe_45 : decode cX6_safe 45 = .ok (.iinc 2 1, 3) := by decide +kernel
theorem dX6_safe_48 : decode cX6_safe 48 = .ok (.goto (-34), 3) := by decide +kernel
theorem dX6_safe_51 : decode cX6_safe 51 = .ok (.iload_n 1, 1) := by decide +kernel
theorem dX6_safe_52 : decode cX6_safe 52 = .ok (.ireturn, 1) := by decide +kernel
set_option maxRecDepth 20000 in
theorem ggX6_programme_X6_found : GoodIn wsX6_programme wsX6_found := goodIn_r _ [7, 8, 9, 17, 18, 19, 20, 21, 22, 23, 24, 25, 26, 27, 28, 29, 30, 31, 32, 33, 34, 35, 36, 37, 38, 39, 40, 41, 42, 43] (by decide +kernel) (by decide +kernel)
set_option maxRecDepth 20000 in
theorem gX6_programme_X6_found : GoodIn wsX6_programme (wsV RX6 85 RX6 yX6_found wsX6_found) := goodIn_app (goodIn_of _ (by decide +kernel)) ggX6_programme_X6_found
set_option maxRecDepth 20000 in
theorem ggX6_programme_X6_isTune : GoodIn wsX6_programme wsX6_isTune := goodIn_r _ [12, 13, 14, 15, 6, 16] (by decide +kernel) (by decide +kernel)
set_option maxRecDepth 20000 in
theorem gX6_programme_X6_isTune : GoodIn wsX6_programme (va_wsS RX6 180 yX6_isTune wsX6_isTune) := goodIn_app (goodIn_of _ (by decide +kernel)) ggX6_programme_X6_isTune
theorem dX6_programme_0 : decode cX6_programme 0 = .ok (.aload_n 0, 1) := by decide +kernel
theorem dX6_programme_1 : decode cX6_programme 1 = .ok (.getfield 7, 3) := by decide +kernel
theorem dX6_programme_4 : decode cX6_programme 4 = .ok (.iload_n 1, 1) := by decide +kernel
theorem dX6_programme_5 : decode cX6_programme 5 = .ok (.iaload, 1) := by decide +kernel
theorem dX6_programme_6 : decode cX6_programme 6 = .ok (.ifCond .ge 9, 3) := by decide +kernel
theorem dX6_programme_9 : decode cX6_programme 9 = .ok (.aload_n 0, 1) := by decide +kernel
theorem dX6_programme_10 : decode cX6_programme 10 = .ok (.iconst 1, 1) := by decide +kernel
theorem dX6_programme_11 : decode cX6_programme 11 = .ok (.invokevirtual 85, 3) := by decide +kernel
theorem dX6_programme_14 : decode cX6_programme 14 = .ok (.ireturn, 1) := by decide +kernel
theorem dX6_programme_15 : decode cX6_programme 15 = .ok (.aload_n 0, 1) := by decide +kernel
theorem dX6_programme_16 : decode cX6_programme 16 = .ok (.getfield 7, 3) := by decide +kernel
theorem dX6_programme_19 : decode cX6_programme 19 = .ok (.iload_n 1, 1) := by decide +kernel
theorem dX6_programme_20 : decode cX6_programme 20 = .ok (.iaload, 1) := by decide +kernel
theorem dX6_programme_21 : decode cX6_programme 21 = .ok (.bipush 6, 2) := by decide +kernel
theorem dX6_programme_23 : decode cX6_programme 23 = .ok (.if_icmp .le 9, 3) := by decide +kernel
theorem dX6_programme_26 : decode cX6_programme 26 = .ok (.aload_n 0, 1) := by decide +kernel
theorem dX6_programme_27 : decode cX6_programme 27 = .ok (.iconst 5, 1) := by decide +kernel
theorem dX6_programme_28 : decode cX6_programme 28 = .ok (.invokevirtual 85, 3) := by decide +kernel
theorem dX6_programme_31 : decode cX6_programme 31 = .ok (.ireturn, 1) := by decide +kernel
theorem dX6_programme_32 : decode cX6_programme 32 = .ok (.iconst 1, 1) := by decide +kernel
theorem dX6_programme_33 : decode cX6_programme 33 = .ok (.istore_n 2, 1) := by decide +kernel
theorem dX6_programme_34 : decode cX6_programme 34 = .ok (.iconst 0, 1) := by decide +kernel
theorem dX6_programme_35 : decode cX6_programme 35 = .ok (.istore_n 3, 1) := by decide +kernel
theorem dX6_programme_36 : decode cX6_programme 36 = .ok (.iload_n 3, 1) := by decide +kernel
theorem dX6_programme_37 : decode cX6_programme 37 = .ok (.aload_n 0, 1) := by decide +kernel
theorem dX6_programme_38 : decode cX6_programme 38 = .ok (.getfield 7, 3) := by decide +kernel
theorem dX6_programme_41 : decode cX6_programme 41 = .ok (.iload_n 1, 1) := by decide +kernel
theorem dX6_programme_42 : decode cX6_programme 42 = .ok (.iaload, 1) := by decide +kernel
theorem dX6_programme_43 : decode cX6_programme 43 = .ok (.if_icmp .ge 36, 3) := by decide +kernel
theorem dX6_programme_46 : decode cX6_programme 46 = .ok (.iload_n 2, 1) := by decide +kernel
theorem dX6_programme_47 : decode cX6_programme 47 = .ok (.ifCond .eq 24, 3) := by decide +kernel
theorem dX6_programme_50 : decode cX6_programme 50 = .ok (.aload_n 0, 1) := by decide +kernel
theorem dX6_programme_51 : decode cX6_programme 51 = .ok (.getfield 13, 3) := by decide +kernel
theorem dX6_programme_54 : decode cX6_programme 54 = .ok (.bipush 40, 2) := by decide +kernel
theorem dX6_programme_56 : decode cX6_programme 56 = .ok (.iload_n 1, 1) := by decide +kernel
theorem dX6_programme_57 : decode cX6_programme 57 = .ok (.imul, 1) := by decide +kernel
theorem dX6_programme_58 : decode cX6_programme 58 = .ok (.iload_n 3, 1) := by decide +kernel
theorem dX6_programme_59 : decode cX6_programme 59 = .ok (.iadd, 1) := by decide +kernel
theorem dX6_programme_60 : decode cX6_programme 60 = .ok (.iaload, 1) := by decide +kernel
theorem dX6_programme_61 : decode cX6_programme 61 = .ok (.invokestatic 180, 3) := by decide +kernel
theorem dX6_programme_64 : decode cX6_programme 64 = .ok (.ifCond .eq 7, 3) := by decide +kernel
theorem dX6_programme_67 : decode cX6_programme 67 = .ok (.iconst 1, 1) := by decide +kernel
theorem dX6_programme_68 : decode cX6_programme 68 = .ok (.goto 4, 3) := by decide +kernel
theorem dX6_programme_71 : decode cX6_programme 71 = .ok (.iconst 0, 1) := by decide +kernel
theorem dX6_programme_72 : decode cX6_programme 72 = .ok (.istore_n 2, 1) := by decide +kernel
theorem dX6_programme_73 : decode cX6_programme 73 = .ok (.iinc 3 1, 3) := by decide +kernel
theorem dX6_programme_76 : decode cX6_programme 76 = .ok (.goto (-40), 3) := by decide +kernel
theorem dX6_programme_79 : decode cX6_programme 79 = .ok (.iload_n 2, 1) := by decide +kernel
theorem dX6_programme_80 : decode cX6_programme 80 = .ok (.ifCond .eq 7, 3) := by decide +kernel
theorem dX6_programme_83 : decode cX6_programme 83 = .ok (.iconst 0, 1) := by decide +kernel
theorem dX6_programme_84 : decode cX6_programme 84 = .ok (.goto 8, 3) := by decide +kernel
theorem dX6_programme_87 : decode cX6_programme 87 = .ok (.aload_n 0, 1) := by decide +kernel
theorem dX6_programme_88 : decode cX6_programme 88 = .ok (.iconst 3, 1) := by decide +kernel
theorem dX6_programme_89 : decode cX6_programme 89 = .ok (.invokevirtual 85, 3) := by decide +kernel
theorem dX6_programme_92 : decode cX6_programme 92 = .ok (.ireturn, 1) := by decide +kernel
set_option maxRecDepth 20000 in
theorem ggX6_falls_X6_isRow : GoodIn wsX6_falls wsX6_isRow := goodIn_r _ [7, 8, 9, 10, 6, 11] (by decide +kernel) (by decide +kernel)
set_option maxRecDepth 20000 in
theorem gX6_falls_X6_isRow : GoodIn wsX6_falls (va_wsS RX6 81 yX6_isRow wsX6_isRow) := goodIn_app (goodIn_of _ (by decide +kernel)) ggX6_falls_X6_isRow
set_option maxRecDepth 20000 in
theorem ggX6_falls_X6_programme : GoodIn wsX6_falls wsX6_programme := goodIn_r _ [15, 1, 3, 16, 17, 18, 6, 19, 20, 21, 22, 23, 24, 25, 9, 10, 11, 76, 77, 78, 79, 80, 81, 82, 83, 84, 85, 86, 87, 88, 89, 90, 91, 92, 93, 94, 95, 96, 97, 98, 99, 100, 101, 102] (by decide +kernel) (by decide +kernel)
set_option maxRecDepth 20000 in
theorem gX6_falls_X6_programme : GoodIn wsX6_falls (wsV RX6 213 RX6 yX6_programme wsX6_programme) := goodIn_app (goodIn_of _ (by decide +kernel)) ggX6_falls_X6_programme
set_option maxRecDepth 20000 in
theorem ggX6_falls_X6_layAside : GoodIn wsX6_falls wsX6_layAside := goodIn_r _ [29, 30, 2, 31, 32, 6, 33, 76, 77, 78, 79, 80, 81, 82, 83, 84, 85, 86, 87, 88, 89, 90, 91, 92, 93, 94, 95, 96, 97, 98, 99, 100, 101, 102] (by decide +kernel) (by decide +kernel)
set_option maxRecDepth 20000 in
theorem gX6_falls_X6_layAside : GoodIn wsX6_falls (wsV RX6 204 RX6 yX6_layAside wsX6_layAside) := goodIn_app (goodIn_of _ (by decide +kernel)) ggX6_falls_X6_layAside
set_option maxRecDepth 20000 in
theorem ggX6_falls_X6_plays : GoodIn wsX6_falls wsX6_plays := goodIn_r _ [37, 38, 39, 40, 41, 42, 6, 43, 44, 45, 46, 47, 48, 49, 50, 51, 52, 53, 54, 55, 56, 57, 58, 59, 60, 61, 62, 63, 64, 65, 66, 67, 68, 69, 70, 76, 77, 78, 79, 80, 81, 82, 83, 84, 85, 86, 87, 88, 89, 90, 91, 92, 93, 94, 95, 96, 97, 98, 99, 100, 101, 102] (by decide +kernel) (by decide +kernel)
set_option maxRecDepth 20000 in
theorem gX6_falls_X6_plays : GoodIn wsX6_falls (wsV RX6 192 RX6 yX6_plays wsX6_plays) := goodIn_app (goodIn_of _ (by decide +kernel)) ggX6_falls_X6_plays
set_option maxRecDepth 20000 in
theorem ggX6_falls_X6_answer : GoodIn wsX6_falls wsX6_answer := goodIn_r _ [74, 75, 76, 77, 78, 79, 80, 81, 82, 83, 84, 85, 86, 87, 88, 89, 90, 91, 92, 93, 94, 95, 96, 97, 98, 99, 100, 101, 102] (by decide +kernel) (by decide +kernel)
set_option maxRecDepth 20000 in
theorem gX6_falls_X6_answer : GoodIn wsX6_falls (wsV RX6 210 RX6 yX6_answer wsX6_answer) := goodIn_app (goodIn_of _ (by decide +kernel)) ggX6_falls_X6_answer
theorem dX6_falls_0 : decode cX6_falls 0 = .ok (.iload_n 1, 1) := by decide +kernel
theorem dX6_falls_1 : decode cX6_falls 1 = .ok (.invokestatic 81, 3) := by decide +kernel
theorem dX6_falls_4 : decode cX6_falls 4 = .ok (.ifCond .eq 11, 3) := by decide +kernel
theorem dX6_falls_7 : decode cX6_falls 7 = .ok (.aload_n 0, 1) := by decide +kernel
theorem dX6_falls_8 : decode cX6_falls 8 = .ok (.iload_n 1, 1) := by decide +kernel
theorem dX6_falls_9 : decode cX6_falls 9 = .ok (.invokevirtual 213, 3) := by decide +kernel
theorem dX6_falls_12 : decode cX6_falls 12 = .ok (.goto 4, 3) := by decide +kernel
theorem dX6_falls_15 : decode cX6_falls 15 = .ok (.iconst (-1), 1) := by decide +kernel
theorem dX6_falls_16 : decode cX6_falls 16 = .ok (.istore_n 2, 1) := by decide +kernel
theorem dX6_falls_17 : decode cX6_falls 17 = .ok (.iload_n 2, 1) := by decide +kernel
theorem dX6_falls_18 : decode cX6_falls 18 = .ok (.ifCond .eq 5, 3) := by decide +kernel
theorem dX6_falls_21 : decode cX6_falls 21 = .ok (.iload_n 2, 1) := by decide +kernel
theorem dX6_falls_22 : decode cX6_falls 22 = .ok (.ireturn, 1) := by decide +kernel
theorem dX6_falls_23 : decode cX6_falls 23 = .ok (.aload_n 0, 1) := by decide +kernel
theorem dX6_falls_24 : decode cX6_falls 24 = .ok (.invokevirtual 204, 3) := by decide +kernel
theorem dX6_falls_27 : decode cX6_falls 27 = .ok (.iconst 0, 1) := by decide +kernel
theorem dX6_falls_28 : decode cX6_falls 28 = .ok (.istore_n 3, 1) := by decide +kernel
theorem dX6_falls_29 : decode cX6_falls 29 = .ok (.iload_n 3, 1) := by decide +kernel
theorem dX6_falls_30 : decode cX6_falls 30 = .ok (.aload_n 0, 1) := by decide +kernel
theorem dX6_falls_31 : decode cX6_falls 31 = .ok (.getfield 7, 3) := by decide +kernel
theorem dX6_falls_34 : decode cX6_falls 34 = .ok (.iload_n 1, 1) := by decide +kernel
theorem dX6_falls_35 : decode cX6_falls 35 = .ok (.iaload, 1) := by decide +kernel
theorem dX6_falls_36 : decode cX6_falls 36 = .ok (.if_icmp .ge 43, 3) := by decide +kernel
theorem dX6_falls_39 : decode cX6_falls 39 = .ok (.aload_n 0, 1) := by decide +kernel
theorem dX6_falls_40 : decode cX6_falls 40 = .ok (.aload_n 0, 1) := by decide +kernel
theorem dX6_falls_41 : decode cX6_falls 41 = .ok (.getfield 54, 3) := by decide +kernel
theorem dX6_falls_44 : decode cX6_falls 44 = .ok (.aload_n 0, 1) := by decide +kernel
theorem dX6_falls_45 : decode cX6_falls 45 = .ok (.getfield 13, 3) := by decide +kernel
theorem dX6_falls_48 : decode cX6_falls 48 = .ok (.bipush 40, 2) := by decide +kernel
theorem dX6_falls_50 : decode cX6_falls 50 = .ok (.iload_n 1, 1) := by decide +kernel
theorem dX6_falls_51 : decode cX6_falls 51 = .ok (.imul, 1) := by decide +kernel
theorem dX6_falls_52 : decode cX6_falls 52 = .ok (.iload_n 3, 1) := by decide +kernel
theorem dX6_falls_53 : decode cX6_falls 53 = .ok (.iadd, 1) := by decide +kernel
theorem dX6_falls_54 : decode cX6_falls 54 = .ok (.iaload, 1) := by decide +kernel
theorem dX6_falls_55 : decode cX6_falls 55 = .ok (.invokevirtual 192, 3) := by decide +kernel
theorem dX6_falls_58 : decode cX6_falls 58 = .ok (.istore 4, 2) := by decide +kernel
theorem dX6_falls_60 : decode cX6_falls 60 = .ok (.iload 4, 2) := by decide +kernel
theorem dX6_falls_62 : decode cX6_falls 62 = .ok (.ifCond .eq 11, 3) := by decide +kernel
theorem dX6_falls_65 : decode cX6_falls 65 = .ok (.aload_n 0, 1) := by decide +kernel
theorem dX6_falls_66 : decode cX6_falls 66 = .ok (.iload_n 3, 1) := by decide +kernel
theorem dX6_falls_67 : decode cX6_falls 67 = .ok (.iload 4, 2) := by decide +kernel
theorem dX6_falls_69 : decode cX6_falls 69 = .ok (.invokevirtual 210, 3) := by decide +kernel
theorem dX6_falls_72 : decode cX6_falls 72 = .ok (.ireturn, 1) := by decide +kernel
theorem dX6_falls_73 : decode cX6_falls 73 = .ok (.iinc 3 1, 3) := by decide +kernel
theorem dX6_falls_76 : decode cX6_falls 76 = .ok (.goto (-47), 3) := by decide +kernel
theorem dX6_falls_79 : decode cX6_falls 79 = .ok (.aload_n 0, 1) := by decide +kernel
theorem dX6_falls_80 : decode cX6_falls 80 = .ok (.bipush (-9), 2) := by decide +kernel
theorem dX6_falls_82 : decode cX6_falls 82 = .ok (.iconst 0, 1) := by decide +kernel
theorem dX6_falls_83 : decode cX6_falls 83 = .ok (.invokevirtual 210, 3) := by decide +kernel
theorem dX6_falls_86 : decode cX6_falls 86 = .ok (.ireturn, 1) := by decide +kernel
set_option maxRecDepth 20000 in
theorem ggX6_grief_X6_isGuest : GoodIn wsX6_grief wsX6_isGuest := goodIn_r _ [8, 9, 10, 11, 7, 12, 75, 76, 77, 78, 79, 80, 81, 82, 83, 84, 85, 86, 87, 88, 89, 90, 91, 92, 93, 94, 95, 96, 97, 98, 99, 100, 101] (by decide +kernel) (by decide +kernel)
set_option maxRecDepth 20000 in
theorem gX6_grief_X6_isGuest : GoodIn wsX6_grief (wsV RX6 168 RX6 yX6_isGuest wsX6_isGuest) := goodIn_app (goodIn_of _ (by decide +kernel)) ggX6_grief_X6_isGuest
set_option maxRecDepth 20000 in
theorem ggX6_grief_X6_isRow : GoodIn wsX6_grief wsX6_isRow := goodIn_r _ [15, 16, 10, 11, 7, 12] (by decide +kernel) (by decide +kernel)
set_option maxRecDepth 20000 in
theorem gX6_grief_X6_isRow : GoodIn wsX6_grief (va_wsS RX6 81 yX6_isRow wsX6_isRow) := goodIn_app (goodIn_of _ (by decide +kernel)) ggX6_grief_X6_isRow
set_option maxRecDepth 20000 in
theorem ggX6_grief_X6_programme : GoodIn wsX6_grief wsX6_programme := goodIn_r _ [20, 1, 3, 21, 22, 23, 7, 24, 25, 26, 27, 28, 29, 30, 10, 11, 12, 75, 76, 77, 78, 79, 80, 81, 82, 83, 84, 85, 86, 87, 88, 89, 90, 91, 92, 93, 94, 95, 96, 97, 98, 99, 100, 101] (by decide +kernel) (by decide +kernel)
set_option maxRecDepth 20000 in
theorem gX6_grief_X6_programme : GoodIn wsX6_grief (wsV RX6 213 RX6 yX6_programme wsX6_programme) := goodIn_app (goodIn_of _ (by decide +kernel)) ggX6_grief_X6_programme
set_option maxRecDepth 20000 in
theorem ggX6_grief_X6_layAside : GoodIn wsX6_grief wsX6_layAside := goodIn_r _ [34, 35, 2, 36, 37, 7, 38, 75, 76, 77, 78, 79, 80, 81, 82, 83, 84, 85, 86, 87, 88, 89, 90, 91, 92, 93, 94, 95, 96, 97, 98, 99, 100, 101] (by decide +kernel) (by decide +kernel)
set_option maxRecDepth 20000 in
theorem gX6_grief_X6_layAside : GoodIn wsX6_grief (wsV RX6 204 RX6 yX6_layAside wsX6_layAside) := goodIn_app (goodIn_of _ (by decide +kernel)) ggX6_grief_X6_layAside
set_option maxRecDepth 20000 in
theorem ggX6_grief_X6_plays : GoodIn wsX6_grief wsX6_plays := goodIn_r _ [42, 9, 43, 44, 45, 46, 7, 47, 48, 49, 50, 51, 52, 53, 54, 55, 56, 57, 58, 59, 60, 61, 62, 63, 64, 65, 66, 67, 68, 69, 70, 71, 72, 73, 74, 75, 76, 77, 78, 79, 80, 81, 82, 83, 84, 85, 86, 87, 88, 89, 90, 91, 92, 93, 94, 95, 96, 97, 98, 99, 100, 101] (by decide +kernel) (by decide +kernel)
set_option maxRecDepth 20000 in
theorem gX6_grief_X6_plays : GoodIn wsX6_grief (wsV RX6 192 RX6 yX6_plays wsX6_plays) := goodIn_app (goodIn_of _ (by decide +kernel)) ggX6_grief_X6_plays
theorem dX6_grief_0 : decode cX6_grief 0 = .ok (.aload_n 0, 1) := by decide +kernel
theorem dX6_grief_1 : decode cX6_grief 1 = .ok (.iload_n 1, 1) := by decide +kernel
theorem dX6_grief_2 : decode cX6_grief 2 = .ok (.invokevirtual 168, 3) := by decide +kernel
theorem dX6_grief_5 : decode cX6_grief 5 = .ok (.ifCond .eq 18, 3) := by decide +kernel
theorem dX6_grief_8 : decode cX6_grief 8 = .ok (.iload_n 2, 1) := by decide +kernel
theorem dX6_grief_9 : decode cX6_grief 9 = .ok (.invokestatic 81, 3) := by decide +kernel
theorem dX6_grief_12 : decode cX6_grief 12 = .ok (.ifCond .eq 11, 3) := by decide +kernel
theorem dX6_grief_15 : decode cX6_grief 15 = .ok (.aload_n 0, 1) := by decide +kernel
theorem dX6_grief_16 : decode cX6_grief 16 = .ok (.iload_n 2, 1) := by decide +kernel
theorem dX6_grief_17 : decode cX6_grief 17 = .ok (.invokevirtual 213, 3) := by decide +kernel
theorem dX6_grief_20 : decode cX6_grief 20 = .ok (.goto 4, 3) := by decide +kernel
theorem dX6_grief_23 : decode cX6_grief 23 = .ok (.iconst (-1), 1) := by decide +kernel
theorem dX6_grief_24 : decode cX6_grief 24 = .ok (.istore_n 3, 1) := by decide +kernel
theorem dX6_grief_25 : decode cX6_grief 25 = .ok (.iload_n 3, 1) := by decide +kernel
theorem dX6_grief_26 : decode cX6_grief 26 = .ok (.ifCond .eq 5, 3) := by decide +kernel
theorem dX6_grief_29 : decode cX6_grief 29 = .ok (.iload_n 3, 1) := by decide +kernel
theorem dX6_grief_30 : decode cX6_grief 30 = .ok (.ireturn, 1) := by decide +kernel
theorem dX6_grief_31 : decode cX6_grief 31 = .ok (.aload_n 0, 1) := by decide +kernel
theorem dX6_grief_32 : decode cX6_grief 32 = .ok (.invokevirtual 204, 3) := by decide +kernel
theorem dX6_grief_35 : decode cX6_grief 35 = .ok (.iconst 0, 1) := by decide +kernel
theorem dX6_grief_36 : decode cX6_grief 36 = .ok (.istore 4, 2) := by decide +kernel
theorem dX6_grief_38 : decode cX6_grief 38 = .ok (.iload 4, 2) := by decide +kernel
theorem dX6_grief_40 : decode cX6_grief 40 = .ok (.aload_n 0, 1) := by decide +kernel
theorem dX6_grief_41 : decode cX6_grief 41 = .ok (.getfield 7, 3) := by decide +kernel
theorem dX6_grief_44 : decode cX6_grief 44 = .ok (.iload_n 2, 1) := by decide +kernel
theorem dX6_grief_45 : decode cX6_grief 45 = .ok (.iaload, 1) := by decide +kernel
theorem dX6_grief_46 : decode cX6_grief 46 = .ok (.if_icmp .ge 31, 3) := by decide +kernel
theorem dX6_grief_49 : decode cX6_grief 49 = .ok (.aload_n 0, 1) := by decide +kernel
theorem dX6_grief_50 : decode cX6_grief 50 = .ok (.aload_n 0, 1) := by decide +kernel
theorem dX6_grief_51 : decode cX6_grief 51 = .ok (.getfield 54, 3) := by decide +kernel
theorem dX6_grief_54 : decode cX6_grief 54 = .ok (.aload_n 0, 1) := by decide +kernel
theorem dX6_grief_55 : decode cX6_grief 55 = .ok (.getfield 13, 3) := by decide +kernel
theorem dX6_grief_58 : decode cX6_grief 58 = .ok (.bipush 40, 2) := by decide +kernel
theorem dX6_grief_60 : decode cX6_grief 60 = .ok (.iload_n 2, 1) := by decide +kernel
theorem dX6_grief_61 : decode cX6_grief 61 = .ok (.imul, 1) := by decide +kernel
theorem dX6_grief_62 : decode cX6_grief 62 = .ok (.iload 4, 2) := by decide +kernel
theorem dX6_grief_64 : decode cX6_grief 64 = .ok (.iadd, 1) := by decide +kernel
theorem dX6_grief_65 : decode cX6_grief 65 = .ok (.iaload, 1) := by decide +kernel
theorem dX6_grief_66 : decode cX6_grief 66 = .ok (.invokevirtual 192, 3) := by decide +kernel
theorem dX6_grief_69 : decode cX6_grief 69 = .ok (.istore 5, 2) := by decide +kernel
theorem dX6_grief_71 : decode cX6_grief 71 = .ok (.iinc 4 1, 3) := by decide +kernel
theorem dX6_grief_74 : decode cX6_grief 74 = .ok (.goto (-36), 3) := by decide +kernel
theorem dX6_grief_77 : decode cX6_grief 77 = .ok (.aload_n 0, 1) := by decide +kernel
theorem dX6_grief_78 : decode cX6_grief 78 = .ok (.getfield 54, 3) := by decide +kernel
theorem dX6_grief_81 : decode cX6_grief 81 = .ok (.iload_n 1, 1) := by decide +kernel
theorem dX6_grief_82 : decode cX6_grief 82 = .ok (.iaload, 1) := by decide +kernel
theorem dX6_grief_83 : decode cX6_grief 83 = .ok (.ireturn, 1) := by decide +kernel
theorem dX6_codes_0 : decode cX6_codes 0 = .ok (.iconst 1, 1) := by decide +kernel
theorem dX6_codes_1 : decode cX6_codes 1 = .ok (.iconst 2, 1) := by decide +kernel
theorem dX6_codes_2 : decode cX6_codes 2 = .ok (.iload_n 0, 1) := by decide +kernel
theorem dX6_codes_3 : decode cX6_codes 3 = .ok (.imul, 1) := by decide +kernel
theorem dX6_codes_4 : decode cX6_codes 4 = .ok (.ishl, 1) := by decide +kernel
theorem dX6_codes_5 : decode cX6_codes 5 = .ok (.ireturn, 1) := by decide +kernel
set_option maxRecDepth 20000 in
theorem ggX6_fallen_X6_layAside : GoodIn wsX6_fallen wsX6_layAside := goodIn_r _ [7, 2, 1, 8, 9, 6, 10, 51, 52, 53, 54, 55, 56, 57, 58, 59, 60, 61, 62, 63, 64, 65, 66, 67, 68, 69, 70, 71, 72, 73, 74, 75, 76, 77] (by decide +kernel) (by decide +kernel)
set_option maxRecDepth 20000 in
theorem gX6_fallen_X6_layAside : GoodIn wsX6_fallen (wsV RX6 204 RX6 yX6_layAside wsX6_layAside) := goodIn_app (goodIn_of _ (by decide +kernel)) ggX6_fallen_X6_layAside
set_option maxRecDepth 20000 in
theorem ggX6_fallen_X6_plays : GoodIn wsX6_fallen wsX6_plays := goodIn_r _ [14, 15, 16, 17, 18, 19, 6, 20, 21, 22, 23, 24, 25, 26, 27, 28, 29, 30, 31, 32, 33, 34, 35, 36, 37, 38, 39, 40, 41, 42, 43, 44, 45, 46, 47, 51, 52, 53, 54, 55, 56, 57, 58, 59, 60, 61, 62, 63, 64, 65, 66, 67, 68, 69, 70, 71, 72, 73, 74, 75, 76, 77] (by decide +kernel) (by decide +kernel)
set_option maxRecDepth 20000 in
theorem gX6_fallen_X6_plays : GoodIn wsX6_fallen (wsV RX6 192 RX6 yX6_plays wsX6_plays) := goodIn_app (goodIn_of _ (by decide +kernel)) ggX6_fallen_X6_plays
set_option maxRecDepth 20000 in
theorem ggX6_fallen_X6_bits : GoodIn wsX6_fallen wsX6_bits := goodIn_r _ [50] (by decide +kernel) (by decide +kernel)
set_option maxRecDepth 20000 in
theorem gX6_fallen_X6_bits : GoodIn wsX6_fallen (va_wsS RX6 216 yX6_bits wsX6_bits) := goodIn_app (goodIn_of _ (by decide +kernel)) ggX6_fallen_X6_bits
theorem dX6_fallen_0 : decode cX6_fallen 0 = .ok (.aload_n 0, 1) := by decide +kernel
theorem dX6_fallen_1 : decode cX6_fallen 1 = .ok (.invokevirtual 204, 3) := by decide +kernel
theorem dX6_fallen_4 : decode cX6_fallen 4 = .ok (.iload_n 1, 1) := by decide +kernel
theorem dX6_fallen_5 : decode cX6_fallen 5 = .ok (.iconst 1, 1) := by decide +kernel
theorem dX6_fallen_6 : decode cX6_fallen 6 = .ok (.isub, 1) := by decide +kernel
theorem dX6_fallen_7 : decode cX6_fallen 7 = .ok (.istore_n 3, 1) := by decide +kernel
theorem dX6_fallen_8 : decode cX6_fallen 8 = .ok (.iload_n 3, 1) := by decide +kernel
theorem dX6_fallen_9 : decode cX6_fallen 9 = .ok (.ifCond .lt 26, 3) := by decide +kernel
theorem dX6_fallen_12 : decode cX6_fallen 12 = .ok (.aload_n 0, 1) := by decide +kernel
theorem dX6_fallen_13 : decode cX6_fallen 13 = .ok (.aload_n 0, 1) := by decide +kernel
theorem dX6_fallen_14 : decode cX6_fallen 14 = .ok (.getfield 54, 3) := by decide +kernel
theorem dX6_fallen_17 : decode cX6_fallen 17 = .ok (.iload_n 2, 1) := by decide +kernel
theorem dX6_fallen_18 : decode cX6_fallen 18 = .ok (.iconst 2, 1) := by decide +kernel
theorem dX6_fallen_19 : decode cX6_fallen 19 = .ok (.iload_n 3, 1) := by decide +kernel
theorem dX6_fallen_20 : decode cX6_fallen 20 = .ok (.imul, 1) := by decide +kernel
theorem dX6_fallen_21 : decode cX6_fallen 21 = .ok (.ishr, 1) := by decide +kernel
theorem dX6_fallen_22 : decode cX6_fallen 22 = .ok (.iconst 3, 1) := by decide +kernel
theorem dX6_fallen_23 : decode cX6_fallen 23 = .ok (.iand, 1) := by decide +kernel
theorem dX6_fallen_24 : decode cX6_fallen 24 = .ok (.invokevirtual 192, 3) := by decide +kernel
theorem dX6_fallen_27 : decode cX6_fallen 27 = .ok (.istore 4, 2) := by decide +kernel
theorem dX6_fallen_29 : decode cX6_fallen 29 = .ok (.iinc 3 (-1), 3) := by decide +kernel
theorem dX6_fallen_32 : decode cX6_fallen 32 = .ok (.goto (-24), 3) := by decide +kernel
theorem dX6_fallen_35 : decode cX6_fallen 35 = .ok (.aload_n 0, 1) := by decide +kernel
theorem dX6_fallen_36 : decode cX6_fallen 36 = .ok (.getfield 54, 3) := by decide +kernel
theorem dX6_fallen_39 : decode cX6_fallen 39 = .ok (.bipush 6, 2) := by decide +kernel
theorem dX6_fallen_41 : decode cX6_fallen 41 = .ok (.iaload, 1) := by decide +kernel
theorem dX6_fallen_42 : decode cX6_fallen 42 = .ok (.aload_n 0, 1) := by decide +kernel
theorem dX6_fallen_43 : decode cX6_fallen 43 = .ok (.getfield 31, 3) := by decide +kernel
theorem dX6_fallen_46 : decode cX6_fallen 46 = .ok (.bipush 6, 2) := by decide +kernel
theorem dX6_fallen_48 : decode cX6_fallen 48 = .ok (.iaload, 1) := by decide +kernel
theorem dX6_fallen_49 : decode cX6_fallen 49 = .ok (.iconst (-1), 1) := by decide +kernel
theorem dX6_fallen_50 : decode cX6_fallen 50 = .ok (.ixor, 1) := by decide +kernel
theorem dX6_fallen_51 : decode cX6_fallen 51 = .ok (.iand, 1) := by decide +kernel
theorem dX6_fallen_52 : decode cX6_fallen 52 = .ok (.invokestatic 216, 3) := by decide +kernel
theorem dX6_fallen_55 : decode cX6_fallen 55 = .ok (.ireturn, 1) := by decide +kernel
set_option maxRecDepth 20000 in
theorem ggX6_isLength_X6_in : GoodIn wsX6_isLength wsX6_in := goodIn_r _ [5] (by decide +kernel) (by decide +kernel)
set_option maxRecDepth 20000 in
theorem gX6_isLength_X6_in : GoodIn wsX6_isLength (va_wsS RX6 75 yX6_in wsX6_in) := goodIn_app (goodIn_of _ (by decide +kernel)) ggX6_isLength_X6_in
theorem dX6_isLength_0 : decode cX6_isLength 0 = .ok (.iload_n 0, 1) := by decide +kernel
theorem dX6_isLength_1 : decode cX6_isLength 1 = .ok (.i2l, 1) := by decide +kernel
theorem dX6_isLength_2 : decode cX6_isLength 2 = .ok (.lconst 0, 1) := by decide +kernel
theorem dX6_isLength_3 : decode cX6_isLength 3 = .ok (.ldc2_w 219, 3) := by decide +kernel
theorem dX6_isLength_6 : decode cX6_isLength 6 = .ok (.invokestatic 75, 3) := by decide +kernel
theorem dX6_isLength_9 : decode cX6_isLength 9 = .ok (.ireturn, 1) := by decide +kernel
set_option maxRecDepth 20000 in
theorem ggX6_stay_X6_isLength : GoodIn wsX6_stay wsX6_isLength := goodIn_r _ [7, 8, 9, 10, 6, 11] (by decide +kernel) (by decide +kernel)
set_option maxRecDepth 20000 in
theorem gX6_stay_X6_isLength : GoodIn wsX6_stay (va_wsS RX6 221 yX6_isLength wsX6_isLength) := goodIn_app (goodIn_of _ (by decide +kernel)) ggX6_stay_X6_isLength
set_option maxRecDepth 20000 in
theorem ggX6_stay_X6_codes : GoodIn wsX6_stay wsX6_codes := goodIn_r _ [14] (by decide +kernel) (by decide +kernel)
set_option maxRecDepth 20000 in
theorem gX6_stay_X6_codes : GoodIn wsX6_stay (va_wsS RX6 224 yX6_codes wsX6_codes) := goodIn_app (goodIn_of _ (by decide +kernel)) ggX6_stay_X6_codes
set_option maxRecDepth 20000 in
theorem ggX6_stay_X6_fallen : GoodIn wsX6_stay wsX6_fallen := goodIn_r _ [18, 19, 20, 21, 22, 23, 6, 24, 25, 26, 27, 28, 29, 30, 31, 1, 32, 33, 34, 35, 36, 37, 38, 39, 40, 41, 42, 43, 44, 45, 46, 47, 48, 49, 50, 51, 52, 53, 54, 55, 56, 57, 58, 59, 60, 61, 62, 63, 64, 65, 66, 72, 73, 74, 75, 76, 77, 78, 79, 80, 81, 82, 83, 84, 85, 86, 87, 88, 89, 90, 91, 92, 93, 94, 95, 96, 97, 98] (by decide +kernel) (by decide +kernel)
set_option maxRecDepth 20000 in
theorem gX6_stay_X6_fallen : GoodIn wsX6_stay (wsV RX6 227 RX6 yX6_fallen wsX6_fallen) := goodIn_app (goodIn_of _ (by decide +kernel)) ggX6_stay_X6_fallen
set_option maxRecDepth 20000 in
theorem ggX6_stay_X6_tell : GoodIn wsX6_stay wsX6_tell := goodIn_r _ [70, 71, 72, 73, 74, 75, 76, 77, 78, 79, 80, 81, 82, 83, 84, 85, 86, 87, 88, 89, 90, 91, 92, 93, 94, 95, 96, 97, 98] (by decide +kernel) (by decide +kernel)
set_option maxRecDepth 20000 in
theorem gX6_stay_X6_tell : GoodIn wsX6_stay (wsV RX6 89 RX6 yX6_tell wsX6_tell) := goodIn_app (goodIn_of _ (by decide +kernel)) ggX6_stay_X6_tell
theorem dX6_stay_0 : decode cX6_stay 0 = .ok (.iload_n 1, 1) := by decide +kernel
theorem dX6_stay_1 : decode cX6_stay 1 = .ok (.invokestatic 221, 3) := by decide +kernel
theorem dX6_stay_4 : decode cX6_stay 4 = .ok (.ifCond .ne 5, 3) := by decide +kernel
theorem dX6_stay_7 : decode cX6_stay 7 = .ok (.iconst (-1), 1) := by decide +kernel
theorem dX6_stay_8 : decode cX6_stay 8 = .ok (.ireturn, 1) := by decide +kernel
theorem dX6_stay_9 : decode cX6_stay 9 = .ok (.aload_n 0, 1) := by decide +kernel
theorem dX6_stay_10 : decode cX6_stay 10 = .ok (.getfield 131, 3) := by decide +kernel
theorem dX6_stay_13 : decode cX6_stay 13 = .ok (.ifCond .ne 6, 3) := by decide +kernel
theorem dX6_stay_16 : decode cX6_stay 16 = .ok (.bipush (-4), 2) := by decide +kernel
theorem dX6_stay_18 : decode cX6_stay 18 = .ok (.ireturn, 1) := by decide +kernel
theorem dX6_stay_19 : decode cX6_stay 19 = .ok (.iconst 0, 1) := by decide +kernel
theorem dX6_stay_20 : decode cX6_stay 20 = .ok (.istore_n 2, 1) := by decide +kernel
theorem dX6_stay_21 : decode cX6_stay 21 = .ok (.iconst 0, 1) := by decide +kernel
theorem dX6_stay_22 : decode cX6_stay 22 = .ok (.istore_n 3, 1) := by decide +kernel
theorem dX6_stay_23 : decode cX6_stay 23 = .ok (.iconst 0, 1) := by decide +kernel
theorem dX6_stay_24 : decode cX6_stay 24 = .ok (.istore 4, 2) := by decide +kernel
theorem dX6_stay_26 : decode cX6_stay 26 = .ok (.iload 4, 2) := by decide +kernel
theorem dX6_stay_28 : decode cX6_stay 28 = .ok (.iload_n 1, 1) := by decide +kernel
theorem dX6_stay_29 : decode cX6_stay 29 = .ok (.invokestatic 224, 3) := by decide +kernel
theorem dX6_stay_32 : decode cX6_stay 32 = .ok (.if_icmp .ge 43, 3) := by decide +kernel
theorem dX6_stay_35 : decode cX6_stay 35 = .ok (.aload_n 0, 1) := by decide +kernel
theorem dX6_stay_36 : decode cX6_stay 36 = .ok (.iload_n 1, 1) := by decide +kernel
theorem dX6_stay_37 : decode cX6_stay 37 = .ok (.iload 4, 2) := by decide +kernel
theorem dX6_stay_39 : decode cX6_stay 39 = .ok (.invokevirtual 227, 3) := by decide +kernel
theorem dX6_stay_42 : decode cX6_stay 42 = .ok (.ifCond .ne 27, 3) := by decide +kernel
theorem dX6_stay_45 : decode cX6_stay 45 = .ok (.iinc 2 1, 3) := by decide +kernel
theorem dX6_stay_48 : decode cX6_stay 48 = .ok (.iload_n 3, 1) := by decide +kernel
theorem dX6_stay_49 : decode cX6_stay 49 = .ok (.iload_n 1, 1) := by decide +kernel
theorem dX6_stay_50 : decode cX6_stay 50 = .ok (.ifCond .le 16, 3) := by decide +kernel
theorem dX6_stay_53 : decode cX6_stay 53 = .ok (.iconst 1, 1) := by decide +kernel
theorem dX6_stay_54 : decode cX6_stay 54 = .ok (.iload 4, 2) := by decide +kernel
theorem dX6_stay_56 : decode cX6_stay 56 = .ok (.iconst 2, 1) := by decide +kernel
theorem dX6_stay_57 : decode cX6_stay 57 = .ok (.iload_n 1, 1) := by decide +kernel
theorem dX6_stay_58 : decode cX6_stay 58 = .ok (.imul, 1) := by decide +kernel
theorem dX6_stay_59 : decode cX6_stay 59 = .ok (.iconst 2, 1) := by decide +kernel
theorem dX6_stay_60 : decode cX6_stay 60 = .ok (.isub, 1) := by decide +kernel
theorem dX6_stay_61 : decode cX6_stay 61 = .ok (.ishr, 1) := by decide +kernel
theorem dX6_stay_62 : decode cX6_stay 62 = .ok (.ishl, 1) := by decide +kernel
theorem dX6_stay_63 : decode cX6_stay 63 = .ok (.goto 4, 3) := by decide +kernel
theorem dX6_stay_66 : decode cX6_stay 66 = .ok (.iconst 0, 1) := by decide +kernel
theorem dX6_stay_67 : decode cX6_stay 67 = .ok (.ior, 1) := by decide +kernel
theorem dX6_stay_68 : decode cX6_stay 68 = .ok (.istore_n 3, 1) := by decide +kernel
theorem dX6_stay_69 : decode cX6_stay 69 = .ok (.iinc 4 1, 3) := by decide +kernel
theorem dX6_stay_72 : decode cX6_stay 72 = .ok (.goto (-46), 3) := by decide +kernel
theorem dX6_stay_75 : decode cX6_stay 75 = .ok (.aload_n 0, 1) := by decide +kernel
theorem dX6_stay_76 : decode cX6_stay 76 = .ok (.iload_n 2, 1) := by decide +kernel
theorem dX6_stay_77 : decode cX6_stay 77 = .ok (.i2l, 1) := by decide +kernel
theorem dX6_stay_78 : decode cX6_stay 78 = .ok (.putfield 230, 3) := by decide +kernel
theorem dX6_stay_81 : decode cX6_stay 81 = .ok (.aload_n 0, 1) := by decide +kernel
theorem dX6_stay_82 : decode cX6_stay 82 = .ok (.lconst 1, 1) := by decide +kernel
theorem dX6_stay_83 : decode cX6_stay 83 = .ok (.putfield 44, 3) := by decide +kernel
theorem dX6_stay_86 : decode cX6_stay 86 = .ok (.aload_n 0, 1) := by decide +kernel
theorem dX6_stay_87 : decode cX6_stay 87 = .ok (.iload_n 3, 1) := by decide +kernel
theorem dX6_stay_88 : decode cX6_stay 88 = .ok (.invokevirtual 89, 3) := by decide +kernel
theorem dX6_stay_91 : decode cX6_stay 91 = .ok (.ireturn, 1) := by decide +kernel
theorem dX6_layProgramme_0 : decode cX6_layProgramme 0 = .ok (.aload_n 0, 1) := by decide +kernel
theorem dX6_layProgramme_1 : decode cX6_layProgramme 1 = .ok (.getfield 7, 3) := by decide +kernel
theorem dX6_layProgramme_4 : decode cX6_layProgramme 4 = .ok (.iload_n 3, 1) := by decide +kernel
theorem dX6_layProgramme_5 : decode cX6_layProgramme 5 = .ok (.iload_n 1, 1) := by decide +kernel
theorem dX6_layProgramme_6 : decode cX6_layProgramme 6 = .ok (.iastore, 1) := by decide +kernel
theorem dX6_layProgramme_7 : decode cX6_layProgramme 7 = .ok (.iconst 0, 1) := by decide +kernel
theorem dX6_layProgramme_8 : decode cX6_layProgramme 8 = .ok (.istore 4, 2) := by decide +kernel
theorem dX6_layProgramme_10 : decode cX6_layProgramme 10 = .ok (.iload 4, 2) := by decide +kernel
theorem dX6_layProgramme_12 : decode cX6_layProgramme 12 = .ok (.bipush 40, 2) := by decide +kernel
theorem dX6_layProgramme_14 : decode cX6_layProgramme 14 = .ok (.if_icmp .ge 43, 3) := by decide +kernel
theorem dX6_layProgramme_17 : decode cX6_layProgramme 17 = .ok (.aload_n 0, 1) := by decide +kernel
theorem dX6_layProgramme_18 : decode cX6_layProgramme 18 = .ok (.getfield 13, 3) := by decide +kernel
theorem dX6_layProgramme_21 : decode cX6_layProgramme 21 = .ok (.bipush 40, 2) := by decide +kernel
theorem dX6_layProgramme_23 : decode cX6_layProgramme 23 = .ok (.iload_n 3, 1) := by decide +kernel
theorem dX6_layProgramme_24 : decode cX6_layProgramme 24 = .ok (.imul, 1) := by decide +kernel
theorem dX6_layProgramme_25 : decode cX6_layProgramme 25 = .ok (.iload 4, 2) := by decide +kernel
theorem dX6_layProgramme_27 : decode cX6_layProgramme 27 = .ok (.iadd, 1) := by decide +kernel
theorem dX6_layProgramme_28 : decode cX6_layProgramme 28 = .ok (.iload 4, 2) := by decide +kernel
theorem dX6_layProgramme_30 : decode cX6_layProgramme 30 = .ok (.iload_n 1, 1) := by decide +kernel
theorem dX6_layProgramme_31 : decode cX6_layProgramme 31 = .ok (.if_icmp .ge 18, 3) := by decide +kernel
theorem dX6_layProgramme_34 : decode cX6_layProgramme 34 = .ok (.iload_n 2, 1) := by decide +kernel
theorem dX6_layProgramme_35 : decode cX6_layProgramme 35 = .ok (.iconst 2, 1) := by decide +kernel
theorem dX6_layProgramme_36 : decode cX6_layProgramme 36 = .ok (.iload_n 1, 1) := by decide +kernel
theorem dX6_layProgramme_37 : decode cX6_layProgramme 37 = .ok (.iconst 1, 1) := by decide +kernel
theorem dX6_layProgramme_38 : decode cX6_layProgramme 38 = .ok (.isub, 1) := by decide +kernel
theorem dX6_layProgramme_39 : decode cX6_layProgramme 39 = .ok (.iload 4, 2) := by decide +kernel
theorem dX6_layProgramme_41 : decode cX6_layProgramme 41 = .ok (.isub, 1) := by decide +kernel
theorem dX6_layProgramme_42 : decode cX6_layProgramme 42 = .ok (.imul, 1) := by decide +kernel
theorem dX6_layProgramme_43 : decode cX6_layProgramme 43 = .ok (.ishr, 1) := by decide +kernel
theorem dX6_layProgramme_44 : decode cX6_layProgramme 44 = .ok (.iconst 3, 1) := by decide +kernel
theorem dX6_layProgramme_45 : decode cX6_layProgramme 45 = .ok (.iand, 1) := by decide +kernel
theorem dX6_layProgramme_46 : decode cX6_layProgramme 46 = .ok (.goto 4, 3) := by decide +kernel
theorem dX6_layProgramme_49 : decode cX6_layProgramme 49 = .ok (.iconst 0, 1) := by decide +kernel
theorem dX6_layProgramme_50 : decode cX6_layProgramme 50 = .ok (.iastore, 1) := by decide +kernel
theorem dX6_layProgramme_51 : decode cX6_layProgramme 51 = .ok (.iinc 4 1, 3) := by decide +kernel
theorem dX6_layProgramme_54 : decode cX6_layProgramme 54 = .ok (.goto (-44), 3) := by decide +kernel
theorem dX6_layProgramme_57 : decode cX6_layProgramme 57 = .ok (.return_, 1) := by decide +kernel
set_option maxRecDepth 20000 in
theorem ggX6_first_X6_isLength : GoodIn wsX6_first wsX6_isLength := goodIn_r _ [5, 6, 7, 8, 4, 9] (by decide +kernel) (by decide +kernel)
set_option maxRecDepth 20000 in
theorem gX6_first_X6_isLength : GoodIn wsX6_first (va_wsS RX6 221 yX6_isLength wsX6_isLength) := goodIn_app (goodIn_of _ (by decide +kernel)) ggX6_first_X6_isLength
set_option maxRecDepth 20000 in
theorem ggX6_first_X6_isRow : GoodIn wsX6_first wsX6_isRow := goodIn_r _ [12, 13, 7, 8, 4, 9] (by decide +kernel) (by decide +kernel)
set_option maxRecDepth 20000 in
theorem gX6_first_X6_isRow : GoodIn wsX6_first (va_wsS RX6 81 yX6_isRow wsX6_isRow) := goodIn_app (goodIn_of _ (by decide +kernel)) ggX6_first_X6_isRow
set_option maxRecDepth 20000 in
theorem ggX6_first_X6_codes : GoodIn wsX6_first wsX6_codes := goodIn_r _ [16] (by decide +kernel) (by decide +kernel)
set_option maxRecDepth 20000 in
theorem gX6_first_X6_codes : GoodIn wsX6_first (va_wsS RX6 224 yX6_codes wsX6_codes) := goodIn_app (goodIn_of _ (by decide +kernel)) ggX6_first_X6_codes
set_option maxRecDepth 20000 in
theorem ggX6_first_X6_fallen : GoodIn wsX6_first wsX6_fallen := goodIn_r _ [20, 21, 22, 23, 24, 25, 4, 26, 27, 28, 29, 30, 31, 32, 33, 1, 34, 35, 36, 37, 38, 39, 40, 41, 42, 43, 44, 45, 46, 47, 48, 49, 50, 51, 52, 53, 54, 55, 56, 57, 58, 59, 60, 61, 62, 63, 64, 65, 66, 67, 68, 75, 76, 77, 78, 79, 80, 81, 82, 83, 84, 85, 86, 87, 88, 89, 90, 91, 92, 93, 94, 95, 96, 97, 98, 99, 100, 101] (by decide +kernel) (by decide +kernel)
set_option maxRecDepth 20000 in
theorem gX6_first_X6_fallen : GoodIn wsX6_first (wsV RX6 227 RX6 yX6_fallen wsX6_fallen) := goodIn_app (goodIn_of _ (by decide +kernel)) ggX6_first_X6_fallen
set_option maxRecDepth 20000 in
theorem ggX6_first_X6_layProgramme : GoodIn wsX6_first wsX6_layProgramme := goodIn_r _ [72, 73, 74, 75, 76, 77, 78, 79, 80, 81, 82, 83, 84, 85, 86, 87, 88, 89, 90, 91, 92, 93, 94, 95, 96, 97, 98, 99, 100, 101] (by decide +kernel) (by decide +kernel)
set_option maxRecDepth 20000 in
theorem gX6_first_X6_layProgramme : GoodIn wsX6_first (wsV RX6 233 RX6 yX6_layProgramme wsX6_layProgramme) := goodIn_app (goodIn_of _ (by decide +kernel)) ggX6_first_X6_layProgramme
theorem dX6_first_0 : decode cX6_first 0 = .ok (.iload_n 1, 1) := by decide +kernel
theorem dX6_first_1 : decode cX6_first 1 = .ok (.invokestatic 221, 3) := by decide +kernel
theorem dX6_first_4 : decode cX6_first 4 = .ok (.ifCond .eq 10, 3) := by decide +kernel
theorem dX6_first_7 : decode cX6_first 7 = .ok (.iload_n 2, 1) := by decide +kernel
theorem dX6_first_8 : decode cX6_first 8 = .ok (.invokestatic 81, 3) := by decide +kernel
theorem dX6_first_11 : decode cX6_first 11 = .ok (.ifCond .ne 5, 3) := by decide +kernel
theorem dX6_first_14 : decode cX6_first 14 = .ok (.iconst (-1), 1) := by decide +kernel
theorem dX6_first_15 : decode cX6_first 15 = .ok (.ireturn, 1) := by decide +kernel
theorem dX6_first_16 : decode cX6_first 16 = .ok (.aload_n 0, 1) := by decide +kernel
theorem dX6_first_17 : decode cX6_first 17 = .ok (.getfield 131, 3) := by decide +kernel
theorem dX6_first_20 : decode cX6_first 20 = .ok (.ifCond .ne 6, 3) := by decide +kernel
theorem dX6_first_23 : decode cX6_first 23 = .ok (.bipush (-4), 2) := by decide +kernel
theorem dX6_first_25 : decode cX6_first 25 = .ok (.ireturn, 1) := by decide +kernel
theorem dX6_first_26 : decode cX6_first 26 = .ok (.iconst 0, 1) := by decide +kernel
theorem dX6_first_27 : decode cX6_first 27 = .ok (.istore_n 3, 1) := by decide +kernel
theorem dX6_first_28 : decode cX6_first 28 = .ok (.iload_n 3, 1) := by decide +kernel
theorem dX6_first_29 : decode cX6_first 29 = .ok (.iload_n 1, 1) := by decide +kernel
theorem dX6_first_30 : decode cX6_first 30 = .ok (.invokestatic 224, 3) := by decide +kernel
theorem dX6_first_33 : decode cX6_first 33 = .ok (.if_icmp .ge 27, 3) := by decide +kernel
theorem dX6_first_36 : decode cX6_first 36 = .ok (.aload_n 0, 1) := by decide +kernel
theorem dX6_first_37 : decode cX6_first 37 = .ok (.iload_n 1, 1) := by decide +kernel
theorem dX6_first_38 : decode cX6_first 38 = .ok (.iload_n 3, 1) := by decide +kernel
theorem dX6_first_39 : decode cX6_first 39 = .ok (.invokevirtual 227, 3) := by decide +kernel
theorem dX6_first_42 : decode cX6_first 42 = .ok (.ifCond .ne 12, 3) := by decide +kernel
theorem dX6_first_45 : decode cX6_first 45 = .ok (.aload_n 0, 1) := by decide +kernel
theorem dX6_first_46 : decode cX6_first 46 = .ok (.iload_n 1, 1) := by decide +kernel
theorem dX6_first_47 : decode cX6_first 47 = .ok (.iload_n 3, 1) := by decide +kernel
theorem dX6_first_48 : decode cX6_first 48 = .ok (.iload_n 2, 1) := by decide +kernel
theorem dX6_first_49 : decode cX6_first 49 = .ok (.invokevirtual 233, 3) := by decide +kernel
theorem dX6_first_52 : decode cX6_first 52 = .ok (.iload_n 1, 1) := by decide +kernel
theorem dX6_first_53 : decode cX6_first 53 = .ok (.ireturn, 1) := by decide +kernel
theorem dX6_first_54 : decode cX6_first 54 = .ok (.iinc 3 1, 3) := by decide +kernel
theorem dX6_first_57 : decode cX6_first 57 = .ok (.goto (-29), 3) := by decide +kernel
theorem dX6_first_60 : decode cX6_first 60 = .ok (.bipush (-9), 2) := by decide +kernel
theorem dX6_first_62 : decode cX6_first 62 = .ok (.ireturn, 1) := by decide +kernel
set_option maxRecDepth 20000 in
theorem ggX6_fewest_X6_isLength : GoodIn wsX6_fewest wsX6_isLength := goodIn_r _ [6, 7, 8, 9, 5, 10] (by decide +kernel) (by decide +kernel)
set_option maxRecDepth 20000 in
theorem gX6_fewest_X6_isLength : GoodIn wsX6_fewest (va_wsS RX6 221 yX6_isLength wsX6_isLength) := goodIn_app (goodIn_of _ (by decide +kernel)) ggX6_fewest_X6_isLength
set_option maxRecDepth 20000 in
theorem ggX6_fewest_X6_isRow : GoodIn wsX6_fewest wsX6_isRow := goodIn_r _ [13, 14, 8, 9, 5, 10] (by decide +kernel) (by decide +kernel)
set_option maxRecDepth 20000 in
theorem gX6_fewest_X6_isRow : GoodIn wsX6_fewest (va_wsS RX6 81 yX6_isRow wsX6_isRow) := goodIn_app (goodIn_of _ (by decide +kernel)) ggX6_fewest_X6_isRow
set_option maxRecDepth 20000 in
theorem ggX6_fewest_X6_codes : GoodIn wsX6_fewest wsX6_codes := goodIn_r _ [17] (by decide +kernel) (by decide +kernel)
set_option maxRecDepth 20000 in
theorem gX6_fewest_X6_codes : GoodIn wsX6_fewest (va_wsS RX6 224 yX6_codes wsX6_codes) := goodIn_app (goodIn_of _ (by decide +kernel)) ggX6_fewest_X6_codes
set_option maxRecDepth 20000 in
theorem ggX6_fewest_X6_fallen : GoodIn wsX6_fewest wsX6_fallen := goodIn_r _ [21, 22, 23, 24, 25, 26, 5, 27, 28, 29, 30, 31, 32, 33, 34, 1, 35, 36, 37, 38, 39, 40, 41, 42, 43, 44, 45, 46, 47, 48, 49, 50, 51, 52, 53, 54, 55, 56, 57, 58, 59, 60, 61, 62, 63, 64, 65, 66, 67, 68, 69, 76, 77, 78, 79, 80, 81, 82, 83, 84, 85, 86, 87, 88, 89, 90, 91, 92, 93, 94, 95, 96, 97, 98, 99, 100, 101, 102] (by decide +kernel) (by decide +kernel)
set_option maxRecDepth 20000 in
theorem gX6_fewest_X6_fallen : GoodIn wsX6_fewest (wsV RX6 227 RX6 yX6_fallen wsX6_fallen) := goodIn_app (goodIn_of _ (by decide +kernel)) ggX6_fewest_X6_fallen
set_option maxRecDepth 20000 in
theorem ggX6_fewest_X6_layProgramme : GoodIn wsX6_fewest wsX6_layProgramme := goodIn_r _ [73, 74, 75, 76, 77, 78, 79, 80, 81, 82, 83, 84, 85, 86, 87, 88, 89, 90, 91, 92, 93, 94, 95, 96, 97, 98, 99, 100, 101, 102] (by decide +kernel) (by decide +kernel)
set_option maxRecDepth 20000 in
theorem gX6_fewest_X6_layProgramme : GoodIn wsX6_fewest (wsV RX6 233 RX6 yX6_layProgramme wsX6_layProgramme) := goodIn_app (goodIn_of _ (by decide +kernel)) ggX6_fewest_X6_layProgramme
theorem dX6_fewest_0 : decode cX6_fewest 0 = .ok (.iload_n 1, 1) := by decide +kernel
theorem dX6_fewest_1 : decode cX6_fewest 1 = .ok (.invokestatic 221, 3) := by decide +kernel
theorem dX6_fewest_4 : decode cX6_fewest 4 = .ok (.ifCond .eq 10, 3) := by decide +kernel
theorem dX6_fewest_7 : decode cX6_fewest 7 = .ok (.iload_n 2, 1) := by decide +kernel
theorem dX6_fewest_8 : decode cX6_fewest 8 = .ok (.invokestatic 81, 3) := by decide +kernel
theorem dX6_fewest_11 : decode cX6_fewest 11 = .ok (.ifCond .ne 5, 3) := by decide +kernel
theorem dX6_fewest_14 : decode cX6_fewest 14 = .ok (.iconst (-1), 1) := by decide +kernel
theorem dX6_fewest_15 : decode cX6_fewest 15 = .ok (.ireturn, 1) := by decide +kernel
theorem dX6_fewest_16 : decode cX6_fewest 16 = .ok (.aload_n 0, 1) := by decide +kernel
theorem dX6_fewest_17 : decode cX6_fewest 17 = .ok (.getfield 131, 3) := by decide +kernel
theorem dX6_fewest_20 : decode cX6_fewest 20 = .ok (.ifCond .ne 6, 3) := by decide +kernel
theorem dX6_fewest_23 : decode cX6_fewest 23 = .ok (.bipush (-4), 2) := by decide +kernel
theorem dX6_fewest_25 : decode cX6_fewest 25 = .ok (.ireturn, 1) := by decide +kernel
theorem dX6_fewest_26 : decode cX6_fewest 26 = .ok (.iconst 0, 1) := by decide +kernel
theorem dX6_fewest_27 : decode cX6_fewest 27 = .ok (.istore_n 3, 1) := by decide +kernel
theorem dX6_fewest_28 : decode cX6_fewest 28 = .ok (.ldc 237, 2) := by decide +kernel
theorem dX6_fewest_30 : decode cX6_fewest 30 = .ok (.istore 4, 2) := by decide +kernel
theorem dX6_fewest_32 : decode cX6_fewest 32 = .ok (.iconst 0, 1) := by decide +kernel
theorem dX6_fewest_33 : decode cX6_fewest 33 = .ok (.istore 5, 2) := by decide +kernel
theorem dX6_fewest_35 : decode cX6_fewest 35 = .ok (.iload 5, 2) := by decide +kernel
theorem dX6_fewest_37 : decode cX6_fewest 37 = .ok (.iload_n 1, 1) := by decide +kernel
theorem dX6_fewest_38 : decode cX6_fewest 38 = .ok (.invokestatic 224, 3) := by decide +kernel
theorem dX6_fewest_41 : decode cX6_fewest 41 = .ok (.if_icmp .ge 48, 3) := by decide +kernel
theorem dX6_fewest_44 : decode cX6_fewest 44 = .ok (.aload_n 0, 1) := by decide +kernel
theorem dX6_fewest_45 : decode cX6_fewest 45 = .ok (.iload_n 1, 1) := by decide +kernel
theorem dX6_fewest_46 : decode cX6_fewest 46 = .ok (.iload 5, 2) := by decide +kernel
theorem dX6_fewest_48 : decode cX6_fewest 48 = .ok (.invokevirtual 227, 3) := by decide +kernel
theorem dX6_fewest_51 : decode cX6_fewest 51 = .ok (.istore 6, 2) := by decide +kernel
theorem dX6_fewest_53 : decode cX6_fewest 53 = .ok (.iload 6, 2) := by decide +kernel
theorem dX6_fewest_55 : decode cX6_fewest 55 = .ok (.iload 4, 2) := by decide +kernel
theorem dX6_fewest_57 : decode cX6_fewest 57 = .ok (.if_icmp .ge 8, 3) := by decide +kernel
theorem dX6_fewest_60 : decode cX6_fewest 60 = .ok (.iload 5, 2) := by decide +kernel
theorem dX6_fewest_62 : decode cX6_fewest 62 = .ok (.goto 4, 3) := by decide +kernel
theorem dX6_fewest_65 : decode cX6_fewest 65 = .ok (.iload_n 3, 1) := by decide +kernel
theorem dX6_fewest_66 : decode cX6_fewest 66 = .ok (.istore_n 3, 1) := by decide +kernel
theorem dX6_fewest_67 : decode cX6_fewest 67 = .ok (.iload 6, 2) := by decide +kernel
theorem dX6_fewest_69 : decode cX6_fewest 69 = .ok (.iload 4, 2) := by decide +kernel
theorem dX6_fewest_71 : decode cX6_fewest 71 = .ok (.if_icmp .ge 8, 3) := by decide +kernel
theorem dX6_fewest_74 : decode cX6_fewest 74 = .ok (.iload 6, 2) := by decide +kernel
theorem dX6_fewest_76 : decode cX6_fewest 76 = .ok (.goto 5, 3) := by decide +kernel
theorem dX6_fewest_79 : decode cX6_fewest 79 = .ok (.iload 4, 2) := by decide +kernel
theorem dX6_fewest_81 : decode cX6_fewest 81 = .ok (.istore 4, 2) := by decide +kernel
theorem dX6_fewest_83 : decode cX6_fewest 83 = .ok (.iinc 5 1, 3) := by decide +kernel
theorem dX6_fewest_86 : decode cX6_fewest 86 = .ok (.goto (-51), 3) := by decide +kernel
theorem dX6_fewest_89 : decode cX6_fewest 89 = .ok (.aload_n 0, 1) := by decide +kernel
theorem dX6_fewest_90 : decode cX6_fewest 90 = .ok (.iload_n 1, 1) := by decide +kernel
theorem dX6_fewest_91 : decode cX6_fewest 91 = .ok (.iload_n 3, 1) := by decide +kernel
theorem dX6_fewest_92 : decode cX6_fewest 92 = .ok (.iload_n 2, 1) := by decide +kernel
theorem dX6_fewest_93 : decode cX6_fewest 93 = .ok (.invokevirtual 233, 3) := by decide +kernel
theorem dX6_fewest_96 : decode cX6_fewest 96 = .ok (.iload 4, 2) := by decide +kernel
theorem dX6_fewest_98 : decode cX6_fewest 98 = .ok (.ireturn, 1) := by decide +kernel
set_option maxRecDepth 20000 in
theorem ggX6_gay_X6_codes : GoodIn wsX6_gay wsX6_codes := goodIn_r _ [6] (by decide +kernel) (by decide +kernel)
set_option maxRecDepth 20000 in
theorem gX6_gay_X6_codes : GoodIn wsX6_gay (va_wsS RX6 224 yX6_codes wsX6_codes) := goodIn_app (goodIn_of _ (by decide +kernel)) ggX6_gay_X6_codes
set_option maxRecDepth 20000 in
theorem ggX6_gay_X6_fallen : GoodIn wsX6_gay wsX6_fallen := goodIn_r _ [10, 2, 11, 12, 13, 14, 5, 15, 16, 17, 18, 19, 20, 21, 22, 1, 23, 24, 25, 26, 27, 28, 29, 30, 31, 32, 33, 34, 35, 36, 37, 38, 39, 40, 41, 42, 43, 44, 45, 46, 47, 48, 49, 50, 51, 52, 53, 54, 55, 56, 57, 61, 62, 63, 64, 65, 66, 67, 68, 69, 70, 71, 72, 73, 74, 75, 76, 77, 78, 79, 80, 81, 82, 83, 84, 85, 86, 87] (by decide +kernel) (by decide +kernel)
set_option maxRecDepth 20000 in
theorem gX6_gay_X6_fallen : GoodIn wsX6_gay (wsV RX6 227 RX6 yX6_fallen wsX6_fallen) := goodIn_app (goodIn_of _ (by decide +kernel)) ggX6_gay_X6_fallen
set_option maxRecDepth 20000 in
theorem ggX6_gay_X6_sumOf : GoodIn wsX6_gay wsX6_sumOf := goodIn_r _ [60] (by decide +kernel) (by decide +kernel)
set_option maxRecDepth 20000 in
theorem gX6_gay_X6_sumOf : GoodIn wsX6_gay (va_wsS RX6 207 yX6_sumOf wsX6_sumOf) := goodIn_app (goodIn_of _ (by decide +kernel)) ggX6_gay_X6_sumOf
theorem dX6_gay_0 : decode cX6_gay 0 = .ok (.aload_n 0, 1) := by decide +kernel
theorem dX6_gay_1 : decode cX6_gay 1 = .ok (.getfield 131, 3) := by decide +kernel
theorem dX6_gay_4 : decode cX6_gay 4 = .ok (.ifCond .ne 6, 3) := by decide +kernel
theorem dX6_gay_7 : decode cX6_gay 7 = .ok (.bipush (-4), 2) := by decide +kernel
theorem dX6_gay_9 : decode cX6_gay 9 = .ok (.ireturn, 1) := by decide +kernel
theorem dX6_gay_10 : decode cX6_gay 10 = .ok (.iconst 0, 1) := by decide +kernel
theorem dX6_gay_11 : decode cX6_gay 11 = .ok (.istore_n 1, 1) := by decide +kernel
theorem dX6_gay_12 : decode cX6_gay 12 = .ok (.iload_n 1, 1) := by decide +kernel
theorem dX6_gay_13 : decode cX6_gay 13 = .ok (.bipush 7, 2) := by decide +kernel
theorem dX6_gay_15 : decode cX6_gay 15 = .ok (.if_icmp .ge 46, 3) := by decide +kernel
theorem dX6_gay_18 : decode cX6_gay 18 = .ok (.iconst 0, 1) := by decide +kernel
theorem dX6_gay_19 : decode cX6_gay 19 = .ok (.istore_n 2, 1) := by decide +kernel
theorem dX6_gay_20 : decode cX6_gay 20 = .ok (.iload_n 2, 1) := by decide +kernel
theorem dX6_gay_21 : decode cX6_gay 21 = .ok (.iload_n 1, 1) := by decide +kernel
theorem dX6_gay_22 : decode cX6_gay 22 = .ok (.invokestatic 224, 3) := by decide +kernel
theorem dX6_gay_25 : decode cX6_gay 25 = .ok (.if_icmp .ge 30, 3) := by decide +kernel
theorem dX6_gay_28 : decode cX6_gay 28 = .ok (.aload_n 0, 1) := by decide +kernel
theorem dX6_gay_29 : decode cX6_gay 29 = .ok (.iload_n 1, 1) := by decide +kernel
theorem dX6_gay_30 : decode cX6_gay 30 = .ok (.iload_n 2, 1) := by decide +kernel
theorem dX6_gay_31 : decode cX6_gay 31 = .ok (.invokevirtual 227, 3) := by decide +kernel
theorem dX6_gay_34 : decode cX6_gay 34 = .ok (.ifCond .ne 15, 3) := by decide +kernel
theorem dX6_gay_37 : decode cX6_gay 37 = .ok (.aload_n 0, 1) := by decide +kernel
theorem dX6_gay_38 : decode cX6_gay 38 = .ok (.getfield 54, 3) := by decide +kernel
theorem dX6_gay_41 : decode cX6_gay 41 = .ok (.invokestatic 207, 3) := by decide +kernel
theorem dX6_gay_44 : decode cX6_gay 44 = .ok (.ifCond .ne 5, 3) := by decide +kernel
theorem dX6_gay_47 : decode cX6_gay 47 = .ok (.iload_n 1, 1) := by decide +kernel
theorem dX6_gay_48 : decode cX6_gay 48 = .ok (.ireturn, 1) := by decide +kernel
theorem dX6_gay_49 : decode cX6_gay 49 = .ok (.iinc 2 1, 3) := by decide +kernel
theorem dX6_gay_52 : decode cX6_gay 52 = .ok (.goto (-32), 3) := by decide +kernel
theorem dX6_gay_55 : decode cX6_gay 55 = .ok (.iinc 1 1, 3) := by decide +kernel
theorem dX6_gay_58 : decode cX6_gay 58 = .ok (.goto (-46), 3) := by decide +kernel
theorem dX6_gay_61 : decode cX6_gay 61 = .ok (.bipush (-9), 2) := by decide +kernel
theorem dX6_gay_63 : decode cX6_gay 63 = .ok (.ireturn, 1) := by decide +kernel
set_option maxRecDepth 20000 in
theorem ggX6_staysBy_X6_kept20 : GoodIn wsX6_staysBy wsX6_kept20 := goodIn_r _ [10] (by decide +kernel) (by decide +kernel)
set_option maxRecDepth 20000 in
theorem gX6_staysBy_X6_kept20 : GoodIn wsX6_staysBy (va_wsS RX6 148 yX6_kept20 wsX6_kept20) := goodIn_app (goodIn_of _ (by decide +kernel)) ggX6_staysBy_X6_kept20
set_option maxRecDepth 20000 in
theorem ggX6_staysBy_X6_inside : GoodIn wsX6_staysBy wsX6_inside := goodIn_r _ [14, 15, 16, 17, 9, 18, 19, 34, 35, 36, 37, 38, 39, 40, 41, 42, 43, 44, 45, 46, 47, 48, 49, 50, 51, 52, 53, 54, 55, 56, 57, 58, 59, 60] (by decide +kernel) (by decide +kernel)
set_option maxRecDepth 20000 in
theorem gX6_staysBy_X6_inside : GoodIn wsX6_staysBy (wsV RX6 154 RX6 yX6_inside wsX6_inside) := goodIn_app (goodIn_of _ (by decide +kernel)) ggX6_staysBy_X6_inside
set_option maxRecDepth 20000 in
theorem ggX6_staysBy_X6_isSeen : GoodIn wsX6_staysBy wsX6_isSeen := goodIn_r _ [23, 19, 24, 25, 26, 9, 27, 34, 35, 36, 37, 38, 39, 40, 41, 42, 43, 44, 45, 46, 47, 48, 49, 50, 51, 52, 53, 54, 55, 56, 57, 58, 59, 60] (by decide +kernel) (by decide +kernel)
set_option maxRecDepth 20000 in
theorem gX6_staysBy_X6_isSeen : GoodIn wsX6_staysBy (wsV RX6 158 RX6 yX6_isSeen wsX6_isSeen) := goodIn_app (goodIn_of _ (by decide +kernel)) ggX6_staysBy_X6_isSeen
set_option maxRecDepth 20000 in
theorem ggX6_staysBy_X6_griefBehind : GoodIn wsX6_staysBy wsX6_griefBehind := goodIn_r _ [30, 31, 32, 9, 33, 7, 8, 10] (by decide +kernel) (by decide +kernel)
set_option maxRecDepth 20000 in
theorem gX6_staysBy_X6_griefBehind : GoodIn wsX6_staysBy (va_wsS RX6 161 yX6_griefBehind wsX6_griefBehind) := goodIn_app (goodIn_of _ (by decide +kernel)) ggX6_staysBy_X6_griefBehind
theorem dX6_staysBy_0 : decode cX6_staysBy 0 = .ok (.aload_n 0, 1) := by decide +kernel
theorem dX6_staysBy_1 : decode cX6_staysBy 1 = .ok (.getfield 31, 3) := by decide +kernel
theorem dX6_staysBy_4 : decode cX6_staysBy 4 = .ok (.iload_n 1, 1) := by decide +kernel
theorem dX6_staysBy_5 : decode cX6_staysBy 5 = .ok (.iaload, 1) := by decide +kernel
theorem dX6_staysBy_6 : decode cX6_staysBy 6 = .ok (.iconst 3, 1) := by decide +kernel
theorem dX6_staysBy_7 : decode cX6_staysBy 7 = .ok (.iload_n 2, 1) := by decide +kernel
theorem dX6_staysBy_8 : decode cX6_staysBy 8 = .ok (.imul, 1) := by decide +kernel
theorem dX6_staysBy_9 : decode cX6_staysBy 9 = .ok (.isub, 1) := by decide +kernel
theorem dX6_staysBy_10 : decode cX6_staysBy 10 = .ok (.invokestatic 148, 3) := by decide +kernel
theorem dX6_staysBy_13 : decode cX6_staysBy 13 = .ok (.istore 4, 2) := by decide +kernel
theorem dX6_staysBy_15 : decode cX6_staysBy 15 = .ok (.aload_n 0, 1) := by decide +kernel
theorem dX6_staysBy_16 : decode cX6_staysBy 16 = .ok (.getfield 25, 3) := by decide +kernel
theorem dX6_staysBy_19 : decode cX6_staysBy 19 = .ok (.iload_n 1, 1) := by decide +kernel
theorem dX6_staysBy_20 : decode cX6_staysBy 20 = .ok (.iaload, 1) := by decide +kernel
theorem dX6_staysBy_21 : decode cX6_staysBy 21 = .ok (.iconst 5, 1) := by decide +kernel
theorem dX6_staysBy_22 : decode cX6_staysBy 22 = .ok (.if_icmp .eq 23, 3) := by decide +kernel
theorem dX6_staysBy_25 : decode cX6_staysBy 25 = .ok (.aload_n 0, 1) := by decide +kernel
theorem dX6_staysBy_26 : decode cX6_staysBy 26 = .ok (.iload_n 1, 1) := by decide +kernel
theorem dX6_staysBy_27 : decode cX6_staysBy 27 = .ok (.aload_n 0, 1) := by decide +kernel
theorem dX6_staysBy_28 : decode cX6_staysBy 28 = .ok (.aload_n 0, 1) := by decide +kernel
theorem dX6_staysBy_29 : decode cX6_staysBy 29 = .ok (.getfield 31, 3) := by decide +kernel
theorem dX6_staysBy_32 : decode cX6_staysBy 32 = .ok (.invokevirtual 154, 3) := by decide +kernel
theorem dX6_staysBy_35 : decode cX6_staysBy 35 = .ok (.invokevirtual 158, 3) := by decide +kernel
theorem dX6_staysBy_38 : decode cX6_staysBy 38 = .ok (.ifCond .eq 7, 3) := by decide +kernel
theorem dX6_staysBy_41 : decode cX6_staysBy 41 = .ok (.iconst 1, 1) := by decide +kernel
theorem dX6_staysBy_42 : decode cX6_staysBy 42 = .ok (.goto 4, 3) := by decide +kernel
theorem dX6_staysBy_45 : decode cX6_staysBy 45 = .ok (.iconst 0, 1) := by decide +kernel
theorem dX6_staysBy_46 : decode cX6_staysBy 46 = .ok (.istore 5, 2) := by decide +kernel
theorem dX6_staysBy_48 : decode cX6_staysBy 48 = .ok (.iconst 1, 1) := by decide +kernel
theorem dX6_staysBy_49 : decode cX6_staysBy 49 = .ok (.istore 6, 2) := by decide +kernel
theorem dX6_staysBy_51 : decode cX6_staysBy 51 = .ok (.iconst 0, 1) := by decide +kernel
theorem dX6_staysBy_52 : decode cX6_staysBy 52 = .ok (.istore 7, 2) := by decide +kernel
theorem dX6_staysBy_54 : decode cX6_staysBy 54 = .ok (.iload 7, 2) := by decide +kernel
theorem dX6_staysBy_56 : decode cX6_staysBy 56 = .ok (.aload_n 0, 1) := by decide +kernel
theorem dX6_staysBy_57 : decode cX6_staysBy 57 = .ok (.getfield 7, 3) := by decide +kernel
theorem dX6_staysBy_60 : decode cX6_staysBy 60 = .ok (.iload_n 3, 1) := by decide +kernel
theorem dX6_staysBy_61 : decode cX6_staysBy 61 = .ok (.iaload, 1) := by decide +kernel
theorem dX6_staysBy_62 : decode cX6_staysBy 62 = .ok (.if_icmp .ge 71, 3) := by decide +kernel
theorem dX6_staysBy_65 : decode cX6_staysBy 65 = .ok (.aload_n 0, 1) := by decide +kernel
theorem dX6_staysBy_66 : decode cX6_staysBy 66 = .ok (.getfield 13, 3) := by decide +kernel
theorem dX6_staysBy_69 : decode cX6_staysBy 69 = .ok (.bipush 40, 2) := by decide +kernel
theorem dX6_staysBy_71 : decode cX6_staysBy 71 = .ok (.iload_n 3, 1) := by decide +kernel
theorem dX6_staysBy_72 : decode cX6_staysBy 72 = .ok (.imul, 1) := by decide +kernel
theorem dX6_staysBy_73 : decode cX6_staysBy 73 = .ok (.iload 7, 2) := by decide +kernel
theorem dX6_staysBy_75 : decode cX6_staysBy 75 = .ok (.iadd, 1) := by decide +kernel
theorem dX6_staysBy_76 : decode cX6_staysBy 76 = .ok (.iaload, 1) := by decide +kernel
theorem dX6_staysBy_77 : decode cX6_staysBy 77 = .ok (.istore 8, 2) := by decide +kernel
theorem dX6_staysBy_79 : decode cX6_staysBy 79 = .ok (.aload_n 0, 1) := by decide +kernel
theorem dX6_staysBy_80 : decode cX6_staysBy 80 = .ok (.getfield 25, 3) := by decide +kernel
theorem dX6_staysBy_83 : decode cX6_staysBy 83 = .ok (.iload_n 1, 1) := by decide +kernel
theorem dX6_staysBy_84 : decode cX6_staysBy 84 = .ok (.iaload, 1) := by decide +kernel
theorem dX6_staysBy_85 : decode cX6_staysBy 85 = .ok (.iload 4, 2) := by decide +kernel
theorem dX6_staysBy_87 : decode cX6_staysBy 87 = .ok (.iload 8, 2) := by decide +kernel
theorem dX6_staysBy_89 : decode cX6_staysBy 89 = .ok (.aload_n 0, 1) := by decide +kernel
theorem dX6_staysBy_90 : decode cX6_staysBy 90 = .ok (.getfield 22, 3) := by decide +kernel
theorem dX6_staysBy_93 : decode cX6_staysBy 93 = .ok (.iload 8, 2) := by decide +kernel
theorem dX6_staysBy_95 : decode cX6_staysBy 95 = .ok (.iaload, 1) := by decide +kernel
theorem dX6_staysBy_96 : decode cX6_staysBy 96 = .ok (.invokestatic 161, 3) := by decide +kernel
theorem dX6_staysBy_99 : decode cX6_staysBy 99 = .ok (.istore 4, 2) := by decide +kernel
theorem dX6_staysBy_101 : decode cX6_staysBy 101 = .ok (.iload 6, 2) := by decide +kernel
theorem dX6_staysBy_103 : decode cX6_staysBy 103 = .ok (.ifCond .eq 21, 3) := by decide +kernel
theorem dX6_staysBy_106 : decode cX6_staysBy 106 = .ok (.iload 5, 2) := by decide +kernel
theorem dX6_staysBy_108 : decode cX6_staysBy 108 = .ok (.ifCond .eq 12, 3) := by decide +kernel
theorem dX6_staysBy_111 : decode cX6_staysBy 111 = .ok (.iload 4, 2) := by decide +kernel
theorem dX6_staysBy_113 : decode cX6_staysBy 113 = .ok (.aload_n 0, 1) := by decide +kernel
theorem dX6_staysBy_114 : decode cX6_staysBy 114 = .ok (.getfield 134, 3) := by decide +kernel
theorem dX6_staysBy_117 : decode cX6_staysBy 117 = .ok (.if_icmp .gt 7, 3) := by decide +kernel
theorem dX6_staysBy_120 : decode cX6_staysBy 120 = .ok (.iconst 1, 1) := by decide +kernel
theorem dX6_staysBy_121 : decode cX6_staysBy 121 = .ok (.goto 4, 3) := by decide +kernel
theorem dX6_staysBy_124 : decode cX6_staysBy 124 = .ok (.iconst 0, 1) := by decide +kernel
theorem dX6_staysBy_125 : decode cX6_staysBy 125 = .ok (.istore 6, 2) := by decide +kernel
theorem dX6_staysBy_127 : decode cX6_staysBy 127 = .ok (.iinc 7 1, 3) := by decide +kernel
theorem dX6_staysBy_130 : decode cX6_staysBy 130 = .ok (.goto (-76), 3) := by decide +kernel
theorem dX6_staysBy_133 : decode cX6_staysBy 133 = .ok (.iload 6, 2) := by decide +kernel
theorem dX6_staysBy_135 : decode cX6_staysBy 135 = .ok (.ireturn, 1) := by decide +kernel
set_option maxRecDepth 20000 in
theorem ggX6_ices_X6_isRow : GoodIn wsX6_ices wsX6_isRow := goodIn_r _ [6, 7, 8, 9, 5, 10] (by decide +kernel) (by decide +kernel)
set_option maxRecDepth 20000 in
theorem gX6_ices_X6_isRow : GoodIn wsX6_ices (va_wsS RX6 81 yX6_isRow wsX6_isRow) := goodIn_app (goodIn_of _ (by decide +kernel)) ggX6_ices_X6_isRow
set_option maxRecDepth 20000 in
theorem ggX6_ices_X6_programme : GoodIn wsX6_ices wsX6_programme := goodIn_r _ [14, 15, 16, 17, 18, 19, 5, 20, 21, 22, 23, 24, 25, 26, 8, 9, 10, 59, 60, 61, 62, 63, 64, 65, 66, 67, 68, 69, 70, 71, 72, 73, 74, 75, 76, 77, 78, 79, 80, 81, 82, 83, 84, 85] (by decide +kernel) (by decide +kernel)
set_option maxRecDepth 20000 in
theorem gX6_ices_X6_programme : GoodIn wsX6_ices (wsV RX6 213 RX6 yX6_programme wsX6_programme) := goodIn_app (goodIn_of _ (by decide +kernel)) ggX6_ices_X6_programme
set_option maxRecDepth 20000 in
theorem ggX6_ices_X6_has : GoodIn wsX6_ices wsX6_has := goodIn_r _ [29] (by decide +kernel) (by decide +kernel)
set_option maxRecDepth 20000 in
theorem gX6_ices_X6_has : GoodIn wsX6_ices (va_wsS RX6 151 yX6_has wsX6_has) := goodIn_app (goodIn_of _ (by decide +kernel)) ggX6_ices_X6_has
set_option maxRecDepth 20000 in
theorem ggX6_ices_X6_staysBy : GoodIn wsX6_ices wsX6_staysBy := goodIn_r _ [33, 2, 34, 15, 16, 35, 36, 37, 38, 5, 39, 40, 41, 42, 43, 44, 45, 46, 47, 1, 48, 49, 50, 51, 52, 27, 28, 29, 53, 54, 55, 56, 57, 58, 59, 60, 61, 62, 63, 64, 65, 66, 67, 68, 69, 70, 71, 72, 73, 74, 75, 76, 77, 78, 79, 80, 81, 82, 83, 84, 85] (by decide +kernel) (by decide +kernel)
set_option maxRecDepth 20000 in
theorem gX6_ices_X6_staysBy : GoodIn wsX6_ices (wsV RX6 238 RX6 yX6_staysBy wsX6_staysBy) := goodIn_app (goodIn_of _ (by decide +kernel)) ggX6_ices_X6_staysBy
theorem dX6_ices_0 : decode cX6_ices 0 = .ok (.iload_n 1, 1) := by decide +kernel
theorem dX6_ices_1 : decode cX6_ices 1 = .ok (.invokestatic 81, 3) := by decide +kernel
theorem dX6_ices_4 : decode cX6_ices 4 = .ok (.ifCond .ne 5, 3) := by decide +kernel
theorem dX6_ices_7 : decode cX6_ices 7 = .ok (.iconst (-1), 1) := by decide +kernel
theorem dX6_ices_8 : decode cX6_ices 8 = .ok (.ireturn, 1) := by decide +kernel
theorem dX6_ices_9 : decode cX6_ices 9 = .ok (.aload_n 0, 1) := by decide +kernel
theorem dX6_ices_10 : decode cX6_ices 10 = .ok (.getfield 131, 3) := by decide +kernel
theorem dX6_ices_13 : decode cX6_ices 13 = .ok (.ifCond .ne 6, 3) := by decide +kernel
theorem dX6_ices_16 : decode cX6_ices 16 = .ok (.bipush (-4), 2) := by decide +kernel
theorem dX6_ices_18 : decode cX6_ices 18 = .ok (.ireturn, 1) := by decide +kernel
theorem dX6_ices_19 : decode cX6_ices 19 = .ok (.aload_n 0, 1) := by decide +kernel
theorem dX6_ices_20 : decode cX6_ices 20 = .ok (.iload_n 1, 1) := by decide +kernel
theorem dX6_ices_21 : decode cX6_ices 21 = .ok (.invokevirtual 213, 3) := by decide +kernel
theorem dX6_ices_24 : decode cX6_ices 24 = .ok (.istore_n 2, 1) := by decide +kernel
theorem dX6_ices_25 : decode cX6_ices 25 = .ok (.iload_n 2, 1) := by decide +kernel
theorem dX6_ices_26 : decode cX6_ices 26 = .ok (.ifCond .eq 5, 3) := by decide +kernel
theorem dX6_ices_29 : decode cX6_ices 29 = .ok (.iload_n 2, 1) := by decide +kernel
theorem dX6_ices_30 : decode cX6_ices 30 = .ok (.ireturn, 1) := by decide +kernel
theorem dX6_ices_31 : decode cX6_ices 31 = .ok (.iconst 0, 1) := by decide +kernel
theorem dX6_ices_32 : decode cX6_ices 32 = .ok (.istore_n 3, 1) := by decide +kernel
theorem dX6_ices_33 : decode cX6_ices 33 = .ok (.iconst 0, 1) := by decide +kernel
theorem dX6_ices_34 : decode cX6_ices 34 = .ok (.istore 4, 2) := by decide +kernel
theorem dX6_ices_36 : decode cX6_ices 36 = .ok (.iload 4, 2) := by decide +kernel
theorem dX6_ices_38 : decode cX6_ices 38 = .ok (.aload_n 0, 1) := by decide +kernel
theorem dX6_ices_39 : decode cX6_ices 39 = .ok (.getfield 131, 3) := by decide +kernel
theorem dX6_ices_42 : decode cX6_ices 42 = .ok (.if_icmp .ge 67, 3) := by decide +kernel
theorem dX6_ices_45 : decode cX6_ices 45 = .ok (.aload_n 0, 1) := by decide +kernel
theorem dX6_ices_46 : decode cX6_ices 46 = .ok (.getfield 31, 3) := by decide +kernel
theorem dX6_ices_49 : decode cX6_ices 49 = .ok (.bipush 6, 2) := by decide +kernel
theorem dX6_ices_51 : decode cX6_ices 51 = .ok (.iaload, 1) := by decide +kernel
theorem dX6_ices_52 : decode cX6_ices 52 = .ok (.iload 4, 2) := by decide +kernel
theorem dX6_ices_54 : decode cX6_ices 54 = .ok (.invokestatic 151, 3) := by decide +kernel
theorem dX6_ices_57 : decode cX6_ices 57 = .ok (.ifCond .ne 46, 3) := by decide +kernel
theorem dX6_ices_60 : decode cX6_ices 60 = .ok (.iconst 0, 1) := by decide +kernel
theorem dX6_ices_61 : decode cX6_ices 61 = .ok (.istore 5, 2) := by decide +kernel
theorem dX6_ices_63 : decode cX6_ices 63 = .ok (.iload 5, 2) := by decide +kernel
theorem dX6_ices_65 : decode cX6_ices 65 = .ok (.bipush 8, 2) := by decide +kernel
theorem dX6_ices_67 : decode cX6_ices 67 = .ok (.if_icmp .ge 21, 3) := by decide +kernel
theorem dX6_ices_70 : decode cX6_ices 70 = .ok (.aload_n 0, 1) := by decide +kernel
theorem dX6_ices_71 : decode cX6_ices 71 = .ok (.iload 4, 2) := by decide +kernel
theorem dX6_ices_73 : decode cX6_ices 73 = .ok (.iload 5, 2) := by decide +kernel
theorem dX6_ices_75 : decode cX6_ices 75 = .ok (.iload_n 1, 1) := by decide +kernel
theorem dX6_ices_76 : decode cX6_ices 76 = .ok (.invokevirtual 238, 3) := by decide +kernel
theorem dX6_ices_79 : decode cX6_ices 79 = .ok (.ifCond .ne 9, 3) := by decide +kernel
theorem dX6_ices_82 : decode cX6_ices 82 = .ok (.iinc 5 1, 3) := by decide +kernel
theorem dX6_ices_85 : decode cX6_ices 85 = .ok (.goto (-22), 3) := by decide +kernel
theorem dX6_ices_88 : decode cX6_ices 88 = .ok (.iload 5, 2) := by decide +kernel
theorem dX6_ices_90 : decode cX6_ices 90 = .ok (.bipush 8, 2) := by decide +kernel
theorem dX6_ices_92 : decode cX6_ices 92 = .ok (.if_icmp .ne 6, 3) := by decide +kernel
theorem dX6_ices_95 : decode cX6_ices 95 = .ok (.bipush (-9), 2) := by decide +kernel
theorem dX6_ices_97 : decode cX6_ices 97 = .ok (.ireturn, 1) := by decide +kernel
theorem dX6_ices_98 : decode cX6_ices 98 = .ok (.iload_n 3, 1) := by decide +kernel
theorem dX6_ices_99 : decode cX6_ices 99 = .ok (.iload 5, 2) := by decide +kernel
theorem dX6_ices_101 : decode cX6_ices 101 = .ok (.iadd, 1) := by decide +kernel
theorem dX6_ices_102 : decode cX6_ices 102 = .ok (.istore_n 3, 1) := by decide +kernel
theorem dX6_ices_103 : decode cX6_ices 103 = .ok (.iinc 4 1, 3) := by decide +kernel
theorem dX6_ices_106 : decode cX6_ices 106 = .ok (.goto (-70), 3) := by decide +kernel
theorem dX6_ices_109 : decode cX6_ices 109 = .ok (.iload_n 3, 1) := by decide +kernel
theorem dX6_ices_110 : decode cX6_ices 110 = .ok (.ireturn, 1) := by decide +kernel
set_option maxRecDepth 20000 in
theorem ggX6_tries_X6_copies : GoodIn wsX6_tries wsX6_copies := goodIn_r _ [8] (by decide +kernel) (by decide +kernel)
set_option maxRecDepth 20000 in
theorem gX6_tries_X6_copies : GoodIn wsX6_tries (va_wsS RX6 185 yX6_copies wsX6_copies) := goodIn_app (goodIn_of _ (by decide +kernel)) ggX6_tries_X6_copies
set_option maxRecDepth 20000 in
theorem ggX6_tries_X6_inside : GoodIn wsX6_tries wsX6_inside := goodIn_r _ [12, 13, 14, 15, 7, 16, 17, 48, 49, 50, 51, 52, 53, 54, 55, 56, 57, 58, 59, 60, 61, 62, 63, 64, 65, 66, 67, 68, 69, 70, 71, 72, 73, 74] (by decide +kernel) (by decide +kernel)
set_option maxRecDepth 20000 in
theorem gX6_tries_X6_inside : GoodIn wsX6_tries (wsV RX6 154 RX6 yX6_inside wsX6_inside) := goodIn_app (goodIn_of _ (by decide +kernel)) ggX6_tries_X6_inside
set_option maxRecDepth 20000 in
theorem ggX6_tries_X6_plays : GoodIn wsX6_tries wsX6_plays := goodIn_r _ [21, 17, 4, 22, 23, 24, 7, 25, 26, 27, 28, 29, 30, 31, 32, 33, 34, 35, 36, 37, 38, 39, 9, 10, 11, 12, 13, 14, 15, 16, 40, 41, 42, 43, 44, 48, 49, 50, 51, 52, 53, 54, 55, 56, 57, 58, 59, 60, 61, 62, 63, 64, 65, 66, 67, 68, 69, 70, 71, 72, 73, 74] (by decide +kernel) (by decide +kernel)
set_option maxRecDepth 20000 in
theorem gX6_tries_X6_plays : GoodIn wsX6_tries (wsV RX6 192 RX6 yX6_plays wsX6_plays) := goodIn_app (goodIn_of _ (by decide +kernel)) ggX6_tries_X6_plays
set_option maxRecDepth 20000 in
theorem ggX6_tries_X6_has : GoodIn wsX6_tries wsX6_has := goodIn_r _ [25] (by decide +kernel) (by decide +kernel)
set_option maxRecDepth 20000 in
theorem gX6_tries_X6_has : GoodIn wsX6_tries (va_wsS RX6 151 yX6_has wsX6_has) := goodIn_app (goodIn_of _ (by decide +kernel)) ggX6_tries_X6_has
set_option maxRecDepth 20000 in
theorem ggX6_tries_X6_named : GoodIn wsX6_tries wsX6_named := goodIn_r _ [47, 29, 30, 7, 31, 32, 33, 34] (by decide +kernel) (by decide +kernel)
set_option maxRecDepth 20000 in
theorem gX6_tries_X6_named : GoodIn wsX6_tries (va_wsS RX6 199 yX6_named wsX6_named) := goodIn_app (goodIn_of _ (by decide +kernel)) ggX6_tries_X6_named
set_option maxRecDepth 20000 in
theorem ggX6_tries_X6_looks : GoodIn wsX6_tries wsX6_looks := goodIn_r _ [38, 17, 39, 4, 9, 10, 11, 7, 12, 13, 14, 15, 16, 23, 24, 25, 40, 41, 42, 43, 44, 48, 49, 50, 51, 52, 53, 54, 55, 56, 57, 58, 59, 60, 61, 62, 63, 64, 65, 66, 67, 68, 69, 70, 71, 72, 73, 74] (by decide +kernel) (by decide +kernel)
set_option maxRecDepth 20000 in
theorem gX6_tries_X6_looks : GoodIn wsX6_tries (wsV RX6 165 RX6 yX6_looks wsX6_looks) := goodIn_app (goodIn_of _ (by decide +kernel)) ggX6_tries_X6_looks
theorem dX6_tries_0 : decode cX6_tries 0 = .ok (.aload_n 0, 1) := by decide +kernel
theorem dX6_tries_1 : decode cX6_tries 1 = .ok (.getfield 60, 3) := by decide +kernel
theorem dX6_tries_4 : decode cX6_tries 4 = .ok (.iload_n 1, 1) := by decide +kernel
theorem dX6_tries_5 : decode cX6_tries 5 = .ok (.iaload, 1) := by decide +kernel
theorem dX6_tries_6 : decode cX6_tries 6 = .ok (.istore_n 2, 1) := by decide +kernel
theorem dX6_tries_7 : decode cX6_tries 7 = .ok (.aload_n 0, 1) := by decide +kernel
theorem dX6_tries_8 : decode cX6_tries 8 = .ok (.getfield 57, 3) := by decide +kernel
theorem dX6_tries_11 : decode cX6_tries 11 = .ok (.bipush 7, 2) := by decide +kernel
theorem dX6_tries_13 : decode cX6_tries 13 = .ok (.iload_n 1, 1) := by decide +kernel
theorem dX6_tries_14 : decode cX6_tries 14 = .ok (.imul, 1) := by decide +kernel
theorem dX6_tries_15 : decode cX6_tries 15 = .ok (.aload_n 0, 1) := by decide +kernel
theorem dX6_tries_16 : decode cX6_tries 16 = .ok (.getfield 54, 3) := by decide +kernel
theorem dX6_tries_19 : decode cX6_tries 19 = .ok (.iconst 0, 1) := by decide +kernel
theorem dX6_tries_20 : decode cX6_tries 20 = .ok (.bipush 7, 2) := by decide +kernel
theorem dX6_tries_22 : decode cX6_tries 22 = .ok (.invokestatic 185, 3) := by decide +kernel
theorem dX6_tries_25 : decode cX6_tries 25 = .ok (.aload_n 0, 1) := by decide +kernel
theorem dX6_tries_26 : decode cX6_tries 26 = .ok (.aload_n 0, 1) := by decide +kernel
theorem dX6_tries_27 : decode cX6_tries 27 = .ok (.getfield 54, 3) := by decide +kernel
theorem dX6_tries_30 : decode cX6_tries 30 = .ok (.invokevirtual 154, 3) := by decide +kernel
theorem dX6_tries_33 : decode cX6_tries 33 = .ok (.istore_n 3, 1) := by decide +kernel
theorem dX6_tries_34 : decode cX6_tries 34 = .ok (.iload_n 1, 1) := by decide +kernel
theorem dX6_tries_35 : decode cX6_tries 35 = .ok (.iconst 2, 1) := by decide +kernel
theorem dX6_tries_36 : decode cX6_tries 36 = .ok (.irem, 1) := by decide +kernel
theorem dX6_tries_37 : decode cX6_tries 37 = .ok (.ifCond .ne 17, 3) := by decide +kernel
theorem dX6_tries_40 : decode cX6_tries 40 = .ok (.aload_n 0, 1) := by decide +kernel
theorem dX6_tries_41 : decode cX6_tries 41 = .ok (.aload_n 0, 1) := by decide +kernel
theorem dX6_tries_42 : decode cX6_tries 42 = .ok (.getfield 54, 3) := by decide +kernel
theorem dX6_tries_45 : decode cX6_tries 45 = .ok (.iload_n 2, 1) := by decide +kernel
theorem dX6_tries_46 : decode cX6_tries 46 = .ok (.invokevirtual 192, 3) := by decide +kernel
theorem dX6_tries_49 : decode cX6_tries 49 = .ok (.istore 4, 2) := by decide +kernel
theorem dX6_tries_51 : decode cX6_tries 51 = .ok (.goto 63, 3) := by decide +kernel
theorem dX6_tries_54 : decode cX6_tries 54 = .ok (.iload_n 2, 1) := by decide +kernel
theorem dX6_tries_55 : decode cX6_tries 55 = .ok (.bipush 6, 2) := by decide +kernel
theorem dX6_tries_57 : decode cX6_tries 57 = .ok (.if_icmp .ge 45, 3) := by decide +kernel
theorem dX6_tries_60 : decode cX6_tries 60 = .ok (.iload_n 3, 1) := by decide +kernel
theorem dX6_tries_61 : decode cX6_tries 61 = .ok (.iload_n 2, 1) := by decide +kernel
theorem dX6_tries_62 : decode cX6_tries 62 = .ok (.invokestatic 151, 3) := by decide +kernel
theorem dX6_tries_65 : decode cX6_tries 65 = .ok (.ifCond .eq 37, 3) := by decide +kernel
theorem dX6_tries_68 : decode cX6_tries 68 = .ok (.aload_n 0, 1) := by decide +kernel
theorem dX6_tries_69 : decode cX6_tries 69 = .ok (.getfield 54, 3) := by decide +kernel
theorem dX6_tries_72 : decode cX6_tries 72 = .ok (.iload_n 2, 1) := by decide +kernel
theorem dX6_tries_73 : decode cX6_tries 73 = .ok (.aload_n 0, 1) := by decide +kernel
theorem dX6_tries_74 : decode cX6_tries 74 = .ok (.getfield 25, 3) := by decide +kernel
theorem dX6_tries_77 : decode cX6_tries 77 = .ok (.iload_n 2, 1) := by decide +kernel
theorem dX6_tries_78 : decode cX6_tries 78 = .ok (.iaload, 1) := by decide +kernel
theorem dX6_tries_79 : decode cX6_tries 79 = .ok (.aload_n 0, 1) := by decide +kernel
theorem dX6_tries_80 : decode cX6_tries 80 = .ok (.getfield 54, 3) := by decide +kernel
theorem dX6_tries_83 : decode cX6_tries 83 = .ok (.iload_n 2, 1) := by decide +kernel
theorem dX6_tries_84 : decode cX6_tries 84 = .ok (.iaload, 1) := by decide +kernel
theorem dX6_tries_85 : decode cX6_tries 85 = .ok (.invokestatic 199, 3) := by decide +kernel
theorem dX6_tries_88 : decode cX6_tries 88 = .ok (.iastore, 1) := by decide +kernel
theorem dX6_tries_89 : decode cX6_tries 89 = .ok (.aload_n 0, 1) := by decide +kernel
theorem dX6_tries_90 : decode cX6_tries 90 = .ok (.aload_n 0, 1) := by decide +kernel
theorem dX6_tries_91 : decode cX6_tries 91 = .ok (.getfield 54, 3) := by decide +kernel
theorem dX6_tries_94 : decode cX6_tries 94 = .ok (.invokevirtual 165, 3) := by decide +kernel
theorem dX6_tries_97 : decode cX6_tries 97 = .ok (.istore 4, 2) := by decide +kernel
theorem dX6_tries_99 : decode cX6_tries 99 = .ok (.goto 15, 3) := by decide +kernel
theorem dX6_tries_102 : decode cX6_tries 102 = .ok (.iload_n 2, 1) := by decide +kernel
theorem dX6_tries_103 : decode cX6_tries 103 = .ok (.bipush 6, 2) := by decide +kernel
theorem dX6_tries_105 : decode cX6_tries 105 = .ok (.if_icmp .lt 7, 3) := by decide +kernel
theorem dX6_tries_108 : decode cX6_tries 108 = .ok (.iload_n 3, 1) := by decide +kernel
theorem dX6_tries_109 : decode cX6_tries 109 = .ok (.ifCond .eq 5, 3) := by decide +kernel
theorem dX6_tries_112 : decode cX6_tries 112 = .ok (.iconst 0, 1) := by decide +kernel
theorem dX6_tries_113 : decode cX6_tries 113 = .ok (.ireturn, 1) := by decide +kernel
theorem dX6_tries_114 : decode cX6_tries 114 = .ok (.aload_n 0, 1) := by decide +kernel
theorem dX6_tries_115 : decode cX6_tries 115 = .ok (.getfield 54, 3) := by decide +kernel
theorem dX6_tries_118 : decode cX6_tries 118 = .ok (.iconst 0, 1) := by decide +kernel
theorem dX6_tries_119 : decode cX6_tries 119 = .ok (.aload_n 0, 1) := by decide +kernel
theorem dX6_tries_120 : decode cX6_tries 120 = .ok (.getfield 57, 3) := by decide +kernel
theorem dX6_tries_123 : decode cX6_tries 123 = .ok (.bipush 7, 2) := by decide +kernel
theorem dX6_tries_125 : decode cX6_tries 125 = .ok (.iload_n 1, 1) := by decide +kernel
theorem dX6_tries_126 : decode cX6_tries 126 = .ok (.iconst 1, 1) := by decide +kernel
theorem dX6_tries_127 : decode cX6_tries 127 = .ok (.iadd, 1) := by decide +kernel
theorem dX6_tries_128 : decode cX6_tries 128 = .ok (.imul, 1) := by decide +kernel
theorem dX6_tries_129 : decode cX6_tries 129 = .ok (.bipush 7, 2) := by decide +kernel
theorem dX6_tries_131 : decode cX6_tries 131 = .ok (.invokestatic 185, 3) := by decide +kernel
theorem dX6_tries_134 : decode cX6_tries 134 = .ok (.iconst 1, 1) := by decide +kernel
theorem dX6_tries_135 : decode cX6_tries 135 = .ok (.ireturn, 1) := by decide +kernel
theorem dX6_begins_0 : decode cX6_begins 0 = .ok (.aload_n 0, 1) := by decide +kernel
theorem dX6_begins_1 : decode cX6_begins 1 = .ok (.getfield 60, 3) := by decide +kernel
theorem dX6_begins_4 : decode cX6_begins 4 = .ok (.iload_n 1, 1) := by decide +kernel
theorem dX6_begins_5 : decode cX6_begins 5 = .ok (.iconst (-1), 1) := by decide +kernel
theorem dX6_begins_6 : decode cX6_begins 6 = .ok (.iastore, 1) := by decide +kernel
theorem dX6_begins_7 : decode cX6_begins 7 = .ok (.aload_n 0, 1) := by decide +kernel
theorem dX6_begins_8 : decode cX6_begins 8 = .ok (.getfield 63, 3) := by decide +kernel
theorem dX6_begins_11 : decode cX6_begins 11 = .ok (.iload_n 1, 1) := by decide +kernel
theorem dX6_begins_12 : decode cX6_begins 12 = .ok (.iload_n 1, 1) := by decide +kernel
theorem dX6_begins_13 : decode cX6_begins 13 = .ok (.iconst 2, 1) := by decide +kernel
theorem dX6_begins_14 : decode cX6_begins 14 = .ok (.irem, 1) := by decide +kernel
theorem dX6_begins_15 : decode cX6_begins 15 = .ok (.ifCond .ne 8, 3) := by decide +kernel
theorem dX6_begins_18 : decode cX6_begins 18 = .ok (.ldc 237, 2) := by decide +kernel
theorem dX6_begins_20 : decode cX6_begins 20 = .ok (.goto 4, 3) := by decide +kernel
theorem dX6_begins_23 : decode cX6_begins 23 = .ok (.iconst (-1), 1) := by decide +kernel
theorem dX6_begins_24 : decode cX6_begins 24 = .ok (.iastore, 1) := by decide +kernel
theorem dX6_begins_25 : decode cX6_begins 25 = .ok (.return_, 1) := by decide +kernel
theorem dX6_weighs_0 : decode cX6_weighs 0 = .ok (.iload_n 1, 1) := by decide +kernel
theorem dX6_weighs_1 : decode cX6_weighs 1 = .ok (.iconst 2, 1) := by decide +kernel
theorem dX6_weighs_2 : decode cX6_weighs 2 = .ok (.irem, 1) := by decide +kernel
theorem dX6_weighs_3 : decode cX6_weighs 3 = .ok (.ifCond .ne 21, 3) := by decide +kernel
theorem dX6_weighs_6 : decode cX6_weighs 6 = .ok (.iload_n 2, 1) := by decide +kernel
theorem dX6_weighs_7 : decode cX6_weighs 7 = .ok (.aload_n 0, 1) := by decide +kernel
theorem dX6_weighs_8 : decode cX6_weighs 8 = .ok (.getfield 63, 3) := by decide +kernel
theorem dX6_weighs_11 : decode cX6_weighs 11 = .ok (.iload_n 1, 1) := by decide +kernel
theorem dX6_weighs_12 : decode cX6_weighs 12 = .ok (.iaload, 1) := by decide +kernel
theorem dX6_weighs_13 : decode cX6_weighs 13 = .ok (.if_icmp .ge 7, 3) := by decide +kernel
theorem dX6_weighs_16 : decode cX6_weighs 16 = .ok (.iconst 1, 1) := by decide +kernel
theorem dX6_weighs_17 : decode cX6_weighs 17 = .ok (.goto 22, 3) := by decide +kernel
theorem dX6_weighs_20 : decode cX6_weighs 20 = .ok (.iconst 0, 1) := by decide +kernel
theorem dX6_weighs_21 : decode cX6_weighs 21 = .ok (.goto 18, 3) := by decide +kernel
theorem dX6_weighs_24 : decode cX6_weighs 24 = .ok (.iload_n 2, 1) := by decide +kernel
theorem dX6_weighs_25 : decode cX6_weighs 25 = .ok (.aload_n 0, 1) := by decide +kernel
theorem dX6_weighs_26 : decode cX6_weighs 26 = .ok (.getfield 63, 3) := by decide +kernel
theorem dX6_weighs_29 : decode cX6_weighs 29 = .ok (.iload_n 1, 1) := by decide +kernel
theorem dX6_weighs_30 : decode cX6_weighs 30 = .ok (.iaload, 1) := by decide +kernel
theorem dX6_weighs_31 : decode cX6_weighs 31 = .ok (.if_icmp .le 7, 3) := by decide +kernel
theorem dX6_weighs_34 : decode cX6_weighs 34 = .ok (.iconst 1, 1) := by decide +kernel
theorem dX6_weighs_35 : decode cX6_weighs 35 = .ok (.goto 4, 3) := by decide +kernel
theorem dX6_weighs_38 : decode cX6_weighs 38 = .ok (.iconst 0, 1) := by decide +kernel
theorem dX6_weighs_39 : decode cX6_weighs 39 = .ok (.istore_n 3, 1) := by decide +kernel
theorem dX6_weighs_40 : decode cX6_weighs 40 = .ok (.aload_n 0, 1) := by decide +kernel
theorem dX6_weighs_41 : decode cX6_weighs 41 = .ok (.getfield 63, 3) := by decide +kernel
theorem dX6_weighs_44 : decode cX6_weighs 44 = .ok (.iload_n 1, 1) := by decide +kernel
theorem dX6_weighs_45 : decode cX6_weighs 45 = .ok (.iload_n 3, 1) := by decide +kernel
theorem dX6_weighs_46 : decode cX6_weighs 46 = .ok (.ifCond .eq 7, 3) := by decide +kernel
theorem dX6_weighs_49 : decode cX6_weighs 49 = .ok (.iload_n 2, 1) := by decide +kernel
theorem dX6_weighs_50 : decode cX6_weighs 50 = .ok (.goto 9, 3) := by decide +kernel
theorem dX6_weighs_53 : decode cX6_weighs 53 = .ok (.aload_n 0, 1) := by decide +kernel
theorem dX6_weighs_54 : decode cX6_weighs 54 = .ok (.getfield 63, 3) := by decide +kernel
theorem dX6_weighs_57 : decode cX6_weighs 57 = .ok (.iload_n 1, 1) := by decide +kernel
theorem dX6_weighs_58 : decode cX6_weighs 58 = .ok (.iaload, 1) := by decide +kernel
theorem dX6_weighs_59 : decode cX6_weighs 59 = .ok (.iastore, 1) := by decide +kernel
theorem dX6_weighs_60 : decode cX6_weighs 60 = .ok (.return_, 1) := by decide +kernel
