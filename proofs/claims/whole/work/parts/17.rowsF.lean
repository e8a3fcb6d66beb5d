set_option maxRecDepth 20000 in
theorem ggX6_aunt_X6_in : GoodIn wsX6_aunt wsX6_in := goodIn_r _ [11] (by decide +kernel) (by decide +kernel)
set_option maxRecDepth 20000 in
theorem gX6_aunt_X6_in : GoodIn wsX6_aunt (va_wsS RX6 75 yX6_in wsX6_in) := goodIn_app (goodIn_of _ (by decide +kernel)) ggX6_aunt_X6_in
set_option maxRecDepth 20000 in
theorem ggX6_aunt_X6_copies : GoodIn wsX6_aunt wsX6_copies := goodIn_r _ [14] (by decide +kernel) (by decide +kernel)
set_option maxRecDepth 20000 in
theorem gX6_aunt_X6_copies : GoodIn wsX6_aunt (va_wsS RX6 185 yX6_copies wsX6_copies) := goodIn_app (goodIn_of _ (by decide +kernel)) ggX6_aunt_X6_copies
set_option maxRecDepth 20000 in
theorem ggX6_aunt_X6_begins : GoodIn wsX6_aunt wsX6_begins := goodIn_r _ [18, 5, 6, 19, 70, 71, 72, 73, 74, 75, 76, 77, 78, 79, 80, 81, 82, 83, 84, 85, 86, 87, 88, 89, 90, 91, 92, 93, 94, 95, 96] (by decide +kernel) (by decide +kernel)
set_option maxRecDepth 20000 in
theorem gX6_aunt_X6_begins : GoodIn wsX6_aunt (wsV RX6 242 RX6 yX6_begins wsX6_begins) := goodIn_app (goodIn_of _ (by decide +kernel)) ggX6_aunt_X6_begins
set_option maxRecDepth 20000 in
theorem ggX6_aunt_X6_weighs : GoodIn wsX6_aunt wsX6_weighs := goodIn_r _ [23, 6, 70, 71, 72, 73, 74, 75, 76, 77, 78, 79, 80, 81, 82, 83, 84, 85, 86, 87, 88, 89, 90, 91, 92, 93, 94, 95, 96] (by decide +kernel) (by decide +kernel)
set_option maxRecDepth 20000 in
theorem gX6_aunt_X6_weighs : GoodIn wsX6_aunt (wsV RX6 245 RX6 yX6_weighs wsX6_weighs) := goodIn_app (goodIn_of _ (by decide +kernel)) ggX6_aunt_X6_weighs
set_option maxRecDepth 20000 in
theorem ggX6_aunt_X6_tries : GoodIn wsX6_aunt wsX6_tries := goodIn_r _ [27, 5, 4, 7, 28, 12, 13, 10, 14, 29, 30, 31, 32, 33, 34, 35, 36, 2, 37, 38, 39, 40, 41, 42, 43, 44, 45, 46, 47, 48, 49, 50, 51, 52, 53, 54, 55, 56, 57, 58, 59, 60, 61, 62, 63, 64, 65, 66, 70, 71, 72, 73, 74, 75, 76, 77, 78, 79, 80, 81, 82, 83, 84, 85, 86, 87, 88, 89, 90, 91, 92, 93, 94, 95, 96] (by decide +kernel) (by decide +kernel)
set_option maxRecDepth 20000 in
theorem gX6_aunt_X6_tries : GoodIn wsX6_aunt (wsV RX6 249 RX6 yX6_tries wsX6_tries) := goodIn_app (goodIn_of _ (by decide +kernel)) ggX6_aunt_X6_tries
set_option maxRecDepth 20000 in
theorem ggX6_aunt_X6_bits : GoodIn wsX6_aunt wsX6_bits := goodIn_r _ [69] (by decide +kernel) (by decide +kernel)
set_option maxRecDepth 20000 in
theorem gX6_aunt_X6_bits : GoodIn wsX6_aunt (va_wsS RX6 216 yX6_bits wsX6_bits) := goodIn_app (goodIn_of _ (by decide +kernel)) ggX6_aunt_X6_bits
theorem dX6_aunt_0 : decode cX6_aunt 0 = .ok (.iload_n 1, 1) := by decide +kernel
theorem dX6_aunt_1 : decode cX6_aunt 1 = .ok (.i2l, 1) := by decide +kernel
theorem dX6_aunt_2 : decode cX6_aunt 2 = .ok (.lconst 0, 1) := by decide +kernel
theorem dX6_aunt_3 : decode cX6_aunt 3 = .ok (.ldc2_w 79, 3) := by decide +kernel
theorem dX6_aunt_6 : decode cX6_aunt 6 = .ok (.invokestatic 75, 3) := by decide +kernel
theorem dX6_aunt_9 : decode cX6_aunt 9 = .ok (.ifCond .ne 5, 3) := by decide +kernel
theorem dX6_aunt_12 : decode cX6_aunt 12 = .ok (.iconst (-1), 1) := by decide +kernel
theorem dX6_aunt_13 : decode cX6_aunt 13 = .ok (.ireturn, 1) := by decide +kernel
theorem dX6_aunt_14 : decode cX6_aunt 14 = .ok (.aload_n 0, 1) := by decide +kernel
theorem dX6_aunt_15 : decode cX6_aunt 15 = .ok (.getfield 131, 3) := by decide +kernel
theorem dX6_aunt_18 : decode cX6_aunt 18 = .ok (.ifCond .ne 6, 3) := by decide +kernel
theorem dX6_aunt_21 : decode cX6_aunt 21 = .ok (.bipush (-4), 2) := by decide +kernel
theorem dX6_aunt_23 : decode cX6_aunt 23 = .ok (.ireturn, 1) := by decide +kernel
theorem dX6_aunt_24 : decode cX6_aunt 24 = .ok (.iload_n 1, 1) := by decide +kernel
theorem dX6_aunt_25 : decode cX6_aunt 25 = .ok (.ifCond .ne 5, 3) := by decide +kernel
theorem dX6_aunt_28 : decode cX6_aunt 28 = .ok (.iconst 0, 1) := by decide +kernel
theorem dX6_aunt_29 : decode cX6_aunt 29 = .ok (.ireturn, 1) := by decide +kernel
theorem dX6_aunt_30 : decode cX6_aunt 30 = .ok (.aload_n 0, 1) := by decide +kernel
theorem dX6_aunt_31 : decode cX6_aunt 31 = .ok (.getfield 31, 3) := by decide +kernel
theorem dX6_aunt_34 : decode cX6_aunt 34 = .ok (.iconst 0, 1) := by decide +kernel
theorem dX6_aunt_35 : decode cX6_aunt 35 = .ok (.aload_n 0, 1) := by decide +kernel
theorem dX6_aunt_36 : decode cX6_aunt 36 = .ok (.getfield 57, 3) := by decide +kernel
theorem dX6_aunt_39 : decode cX6_aunt 39 = .ok (.iconst 0, 1) := by decide +kernel
theorem dX6_aunt_40 : decode cX6_aunt 40 = .ok (.bipush 7, 2) := by decide +kernel
theorem dX6_aunt_42 : decode cX6_aunt 42 = .ok (.invokestatic 185, 3) := by decide +kernel
theorem dX6_aunt_45 : decode cX6_aunt 45 = .ok (.aload_n 0, 1) := by decide +kernel
theorem dX6_aunt_46 : decode cX6_aunt 46 = .ok (.iconst 0, 1) := by decide +kernel
theorem dX6_aunt_47 : decode cX6_aunt 47 = .ok (.invokevirtual 242, 3) := by decide +kernel
theorem dX6_aunt_50 : decode cX6_aunt 50 = .ok (.iconst 0, 1) := by decide +kernel
theorem dX6_aunt_51 : decode cX6_aunt 51 = .ok (.istore_n 2, 1) := by decide +kernel
theorem dX6_aunt_52 : decode cX6_aunt 52 = .ok (.iload_n 2, 1) := by decide +kernel
theorem dX6_aunt_53 : decode cX6_aunt 53 = .ok (.ifCond .lt 113, 3) := by decide +kernel
theorem dX6_aunt_56 : decode cX6_aunt 56 = .ok (.aload_n 0, 1) := by decide +kernel
theorem dX6_aunt_57 : decode cX6_aunt 57 = .ok (.getfield 60, 3) := by decide +kernel
theorem dX6_aunt_60 : decode cX6_aunt 60 = .ok (.iload_n 2, 1) := by decide +kernel
theorem dX6_aunt_61 : decode cX6_aunt 61 = .ok (.dup2, 1) := by decide +kernel
theorem dX6_aunt_62 : decode cX6_aunt 62 = .ok (.iaload, 1) := by decide +kernel
theorem dX6_aunt_63 : decode cX6_aunt 63 = .ok (.iconst 1, 1) := by decide +kernel
theorem dX6_aunt_64 : decode cX6_aunt 64 = .ok (.iadd, 1) := by decide +kernel
theorem dX6_aunt_65 : decode cX6_aunt 65 = .ok (.iastore, 1) := by decide +kernel
theorem dX6_aunt_66 : decode cX6_aunt 66 = .ok (.aload_n 0, 1) := by decide +kernel
theorem dX6_aunt_67 : decode cX6_aunt 67 = .ok (.getfield 60, 3) := by decide +kernel
theorem dX6_aunt_70 : decode cX6_aunt 70 = .ok (.iload_n 2, 1) := by decide +kernel
theorem dX6_aunt_71 : decode cX6_aunt 71 = .ok (.iaload, 1) := by decide +kernel
theorem dX6_aunt_72 : decode cX6_aunt 72 = .ok (.iload_n 2, 1) := by decide +kernel
theorem dX6_aunt_73 : decode cX6_aunt 73 = .ok (.iconst 2, 1) := by decide +kernel
theorem dX6_aunt_74 : decode cX6_aunt 74 = .ok (.irem, 1) := by decide +kernel
theorem dX6_aunt_75 : decode cX6_aunt 75 = .ok (.ifCond .ne 7, 3) := by decide +kernel
theorem dX6_aunt_78 : decode cX6_aunt 78 = .ok (.iconst 4, 1) := by decide +kernel
theorem dX6_aunt_79 : decode cX6_aunt 79 = .ok (.goto 5, 3) := by decide +kernel
theorem dX6_aunt_82 : decode cX6_aunt 82 = .ok (.bipush 7, 2) := by decide +kernel
theorem dX6_aunt_84 : decode cX6_aunt 84 = .ok (.if_icmp .ne 26, 3) := by decide +kernel
theorem dX6_aunt_87 : decode cX6_aunt 87 = .ok (.iinc 2 (-1), 3) := by decide +kernel
theorem dX6_aunt_90 : decode cX6_aunt 90 = .ok (.iload_n 2, 1) := by decide +kernel
theorem dX6_aunt_91 : decode cX6_aunt 91 = .ok (.ifCond .lt (-39), 3) := by decide +kernel
theorem dX6_aunt_94 : decode cX6_aunt 94 = .ok (.aload_n 0, 1) := by decide +kernel
theorem dX6_aunt_95 : decode cX6_aunt 95 = .ok (.iload_n 2, 1) := by decide +kernel
theorem dX6_aunt_96 : decode cX6_aunt 96 = .ok (.aload_n 0, 1) := by decide +kernel
theorem dX6_aunt_97 : decode cX6_aunt 97 = .ok (.getfield 63, 3) := by decide +kernel
theorem dX6_aunt_100 : decode cX6_aunt 100 = .ok (.iload_n 2, 1) := by decide +kernel
theorem dX6_aunt_101 : decode cX6_aunt 101 = .ok (.iconst 1, 1) := by decide +kernel
theorem dX6_aunt_102 : decode cX6_aunt 102 = .ok (.iadd, 1) := by decide +kernel
theorem dX6_aunt_103 : decode cX6_aunt 103 = .ok (.iaload, 1) := by decide +kernel
theorem dX6_aunt_104 : decode cX6_aunt 104 = .ok (.invokevirtual 245, 3) := by decide +kernel
theorem dX6_aunt_107 : decode cX6_aunt 107 = .ok (.goto (-55), 3) := by decide +kernel
theorem dX6_aunt_110 : decode cX6_aunt 110 = .ok (.aload_n 0, 1) := by decide +kernel
theorem dX6_aunt_111 : decode cX6_aunt 111 = .ok (.iload_n 2, 1) := by decide +kernel
theorem dX6_aunt_112 : decode cX6_aunt 112 = .ok (.invokevirtual 249, 3) := by decide +kernel
theorem dX6_aunt_115 : decode cX6_aunt 115 = .ok (.ifCond .eq (-63), 3) := by decide +kernel
theorem dX6_aunt_118 : decode cX6_aunt 118 = .ok (.iload_n 2, 1) := by decide +kernel
theorem dX6_aunt_119 : decode cX6_aunt 119 = .ok (.iconst 2, 1) := by decide +kernel
theorem dX6_aunt_120 : decode cX6_aunt 120 = .ok (.iload_n 1, 1) := by decide +kernel
theorem dX6_aunt_121 : decode cX6_aunt 121 = .ok (.imul, 1) := by decide +kernel
theorem dX6_aunt_122 : decode cX6_aunt 122 = .ok (.iconst 1, 1) := by decide +kernel
theorem dX6_aunt_123 : decode cX6_aunt 123 = .ok (.isub, 1) := by decide +kernel
theorem dX6_aunt_124 : decode cX6_aunt 124 = .ok (.if_icmp .ne 31, 3) := by decide +kernel
theorem dX6_aunt_127 : decode cX6_aunt 127 = .ok (.aload_n 0, 1) := by decide +kernel
theorem dX6_aunt_128 : decode cX6_aunt 128 = .ok (.iload_n 2, 1) := by decide +kernel
theorem dX6_aunt_129 : decode cX6_aunt 129 = .ok (.aload_n 0, 1) := by decide +kernel
theorem dX6_aunt_130 : decode cX6_aunt 130 = .ok (.getfield 54, 3) := by decide +kernel
theorem dX6_aunt_133 : decode cX6_aunt 133 = .ok (.bipush 6, 2) := by decide +kernel
theorem dX6_aunt_135 : decode cX6_aunt 135 = .ok (.iaload, 1) := by decide +kernel
theorem dX6_aunt_136 : decode cX6_aunt 136 = .ok (.aload_n 0, 1) := by decide +kernel
theorem dX6_aunt_137 : decode cX6_aunt 137 = .ok (.getfield 31, 3) := by decide +kernel
theorem dX6_aunt_140 : decode cX6_aunt 140 = .ok (.bipush 6, 2) := by decide +kernel
theorem dX6_aunt_142 : decode cX6_aunt 142 = .ok (.iaload, 1) := by decide +kernel
theorem dX6_aunt_143 : decode cX6_aunt 143 = .ok (.iconst (-1), 1) := by decide +kernel
theorem dX6_aunt_144 : decode cX6_aunt 144 = .ok (.ixor, 1) := by decide +kernel
theorem dX6_aunt_145 : decode cX6_aunt 145 = .ok (.iand, 1) := by decide +kernel
theorem dX6_aunt_146 : decode cX6_aunt 146 = .ok (.invokestatic 216, 3) := by decide +kernel
theorem dX6_aunt_149 : decode cX6_aunt 149 = .ok (.invokevirtual 245, 3) := by decide +kernel
theorem dX6_aunt_152 : decode cX6_aunt 152 = .ok (.goto (-100), 3) := by decide +kernel
theorem dX6_aunt_155 : decode cX6_aunt 155 = .ok (.iinc 2 1, 3) := by decide +kernel
theorem dX6_aunt_158 : decode cX6_aunt 158 = .ok (.aload_n 0, 1) := by decide +kernel
theorem dX6_aunt_159 : decode cX6_aunt 159 = .ok (.iload_n 2, 1) := by decide +kernel
theorem dX6_aunt_160 : decode cX6_aunt 160 = .ok (.invokevirtual 242, 3) := by decide +kernel
theorem dX6_aunt_163 : decode cX6_aunt 163 = .ok (.goto (-111), 3) := by decide +kernel
theorem dX6_aunt_166 : decode cX6_aunt 166 = .ok (.aload_n 0, 1) := by decide +kernel
theorem dX6_aunt_167 : decode cX6_aunt 167 = .ok (.getfield 63, 3) := by decide +kernel
theorem dX6_aunt_170 : decode cX6_aunt 170 = .ok (.iconst 0, 1) := by decide +kernel
theorem dX6_aunt_171 : decode cX6_aunt 171 = .ok (.iaload, 1) := by decide +kernel
theorem dX6_aunt_172 : decode cX6_aunt 172 = .ok (.ireturn, 1) := by decide +kernel
set_option maxRecDepth 20000 in
theorem ggX6_evening_X6_isGuest : GoodIn wsX6_evening wsX6_isGuest := goodIn_r _ [9, 10, 11, 12, 8, 13, 31, 32, 33, 34, 35, 36, 37, 38, 39, 40, 41, 42, 43, 44, 45, 46, 47, 48, 49, 50, 51, 52, 53, 54, 55, 56, 57] (by decide +kernel) (by decide +kernel)
set_option maxRecDepth 20000 in
theorem gX6_evening_X6_isGuest : GoodIn wsX6_evening (wsV RX6 168 RX6 yX6_isGuest wsX6_isGuest) := goodIn_app (goodIn_of _ (by decide +kernel)) ggX6_evening_X6_isGuest
set_option maxRecDepth 20000 in
theorem ggX6_evening_X6_isRow : GoodIn wsX6_evening wsX6_isRow := goodIn_r _ [16, 17, 11, 12, 8, 13] (by decide +kernel) (by decide +kernel)
set_option maxRecDepth 20000 in
theorem gX6_evening_X6_isRow : GoodIn wsX6_evening (va_wsS RX6 81 yX6_isRow wsX6_isRow) := goodIn_app (goodIn_of _ (by decide +kernel)) ggX6_evening_X6_isRow
set_option maxRecDepth 20000 in
theorem ggX6_evening_X6_has : GoodIn wsX6_evening wsX6_has := goodIn_r _ [20] (by decide +kernel) (by decide +kernel)
set_option maxRecDepth 20000 in
theorem gX6_evening_X6_has : GoodIn wsX6_evening (va_wsS RX6 151 yX6_has wsX6_has) := goodIn_app (goodIn_of _ (by decide +kernel)) ggX6_evening_X6_has
set_option maxRecDepth 20000 in
theorem ggX6_evening_X6_found : GoodIn wsX6_evening wsX6_found := goodIn_r _ [24, 25, 26, 31, 32, 33, 34, 35, 36, 37, 38, 39, 40, 41, 42, 43, 44, 45, 46, 47, 48, 49, 50, 51, 52, 53, 54, 55, 56, 57] (by decide +kernel) (by decide +kernel)
set_option maxRecDepth 20000 in
theorem gX6_evening_X6_found : GoodIn wsX6_evening (wsV RX6 85 RX6 yX6_found wsX6_found) := goodIn_app (goodIn_of _ (by decide +kernel)) ggX6_evening_X6_found
set_option maxRecDepth 20000 in
theorem ggX6_evening_X6_isTune : GoodIn wsX6_evening wsX6_isTune := goodIn_r _ [29, 30, 11, 12, 8, 13] (by decide +kernel) (by decide +kernel)
set_option maxRecDepth 20000 in
theorem gX6_evening_X6_isTune : GoodIn wsX6_evening (va_wsS RX6 180 yX6_isTune wsX6_isTune) := goodIn_app (goodIn_of _ (by decide +kernel)) ggX6_evening_X6_isTune
set_option maxRecDepth 20000 in
theorem ggX6_evening_X6_in : GoodIn wsX6_evening wsX6_in := goodIn_r _ [13] (by decide +kernel) (by decide +kernel)
set_option maxRecDepth 20000 in
theorem gX6_evening_X6_in : GoodIn wsX6_evening (va_wsS RX6 75 yX6_in wsX6_in) := goodIn_app (goodIn_of _ (by decide +kernel)) ggX6_evening_X6_in
theorem dX6_evening_0 : decode cX6_evening 0 = .ok (.aload_n 0, 1) := by decide +kernel
theorem dX6_evening_1 : decode cX6_evening 1 = .ok (.iload_n 1, 1) := by decide +kernel
theorem dX6_evening_2 : decode cX6_evening 2 = .ok (.invokevirtual 168, 3) := by decide +kernel
theorem dX6_evening_5 : decode cX6_evening 5 = .ok (.ifCond .eq 10, 3) := by decide +kernel
theorem dX6_evening_8 : decode cX6_evening 8 = .ok (.iload_n 2, 1) := by decide +kernel
theorem dX6_evening_9 : decode cX6_evening 9 = .ok (.invokestatic 81, 3) := by decide +kernel
theorem dX6_evening_12 : decode cX6_evening 12 = .ok (.ifCond .ne 5, 3) := by decide +kernel
theorem dX6_evening_15 : decode cX6_evening 15 = .ok (.iconst (-1), 1) := by decide +kernel
theorem dX6_evening_16 : decode cX6_evening 16 = .ok (.ireturn, 1) := by decide +kernel
theorem dX6_evening_17 : decode cX6_evening 17 = .ok (.aload_n 0, 1) := by decide +kernel
theorem dX6_evening_18 : decode cX6_evening 18 = .ok (.getfield 31, 3) := by decide +kernel
theorem dX6_evening_21 : decode cX6_evening 21 = .ok (.bipush 6, 2) := by decide +kernel
theorem dX6_evening_23 : decode cX6_evening 23 = .ok (.iaload, 1) := by decide +kernel
theorem dX6_evening_24 : decode cX6_evening 24 = .ok (.iload_n 1, 1) := by decide +kernel
theorem dX6_evening_25 : decode cX6_evening 25 = .ok (.invokestatic 151, 3) := by decide +kernel
theorem dX6_evening_28 : decode cX6_evening 28 = .ok (.ifCond .eq 6, 3) := by decide +kernel
theorem dX6_evening_31 : decode cX6_evening 31 = .ok (.bipush (-4), 2) := by decide +kernel
theorem dX6_evening_33 : decode cX6_evening 33 = .ok (.ireturn, 1) := by decide +kernel
theorem dX6_evening_34 : decode cX6_evening 34 = .ok (.aload_n 0, 1) := by decide +kernel
theorem dX6_evening_35 : decode cX6_evening 35 = .ok (.getfield 7, 3) := by decide +kernel
theorem dX6_evening_38 : decode cX6_evening 38 = .ok (.iload_n 2, 1) := by decide +kernel
theorem dX6_evening_39 : decode cX6_evening 39 = .ok (.iaload, 1) := by decide +kernel
theorem dX6_evening_40 : decode cX6_evening 40 = .ok (.ifCond .ge 9, 3) := by decide +kernel
theorem dX6_evening_43 : decode cX6_evening 43 = .ok (.aload_n 0, 1) := by decide +kernel
theorem dX6_evening_44 : decode cX6_evening 44 = .ok (.iconst 1, 1) := by decide +kernel
theorem dX6_evening_45 : decode cX6_evening 45 = .ok (.invokevirtual 85, 3) := by decide +kernel
theorem dX6_evening_48 : decode cX6_evening 48 = .ok (.ireturn, 1) := by decide +kernel
theorem dX6_evening_49 : decode cX6_evening 49 = .ok (.aload_n 0, 1) := by decide +kernel
theorem dX6_evening_50 : decode cX6_evening 50 = .ok (.getfield 7, 3) := by decide +kernel
theorem dX6_evening_53 : decode cX6_evening 53 = .ok (.iload_n 2, 1) := by decide +kernel
theorem dX6_evening_54 : decode cX6_evening 54 = .ok (.iaload, 1) := by decide +kernel
theorem dX6_evening_55 : decode cX6_evening 55 = .ok (.bipush 16, 2) := by decide +kernel
theorem dX6_evening_57 : decode cX6_evening 57 = .ok (.if_icmp .gt 14, 3) := by decide +kernel
theorem dX6_evening_60 : decode cX6_evening 60 = .ok (.aload_n 0, 1) := by decide +kernel
theorem dX6_evening_61 : decode cX6_evening 61 = .ok (.getfield 7, 3) := by decide +kernel
theorem dX6_evening_64 : decode cX6_evening 64 = .ok (.iload_n 2, 1) := by decide +kernel
theorem dX6_evening_65 : decode cX6_evening 65 = .ok (.iaload, 1) := by decide +kernel
theorem dX6_evening_66 : decode cX6_evening 66 = .ok (.iconst 2, 1) := by decide +kernel
theorem dX6_evening_67 : decode cX6_evening 67 = .ok (.irem, 1) := by decide +kernel
theorem dX6_evening_68 : decode cX6_evening 68 = .ok (.ifCond .eq 9, 3) := by decide +kernel
theorem dX6_evening_71 : decode cX6_evening 71 = .ok (.aload_n 0, 1) := by decide +kernel
theorem dX6_evening_72 : decode cX6_evening 72 = .ok (.iconst 5, 1) := by decide +kernel
theorem dX6_evening_73 : decode cX6_evening 73 = .ok (.invokevirtual 85, 3) := by decide +kernel
theorem dX6_evening_76 : decode cX6_evening 76 = .ok (.ireturn, 1) := by decide +kernel
theorem dX6_evening_77 : decode cX6_evening 77 = .ok (.iconst 1, 1) := by decide +kernel
theorem dX6_evening_78 : decode cX6_evening 78 = .ok (.istore_n 3, 1) := by decide +kernel
theorem dX6_evening_79 : decode cX6_evening 79 = .ok (.iconst 0, 1) := by decide +kernel
theorem dX6_evening_80 : decode cX6_evening 80 = .ok (.istore 4, 2) := by decide +kernel
theorem dX6_evening_82 : decode cX6_evening 82 = .ok (.iload 4, 2) := by decide +kernel
theorem dX6_evening_84 : decode cX6_evening 84 = .ok (.aload_n 0, 1) := by decide +kernel
theorem dX6_evening_85 : decode cX6_evening 85 = .ok (.getfield 7, 3) := by decide +kernel
theorem dX6_evening_88 : decode cX6_evening 88 = .ok (.iload_n 2, 1) := by decide +kernel
theorem dX6_evening_89 : decode cX6_evening 89 = .ok (.iaload, 1) := by decide +kernel
theorem dX6_evening_90 : decode cX6_evening 90 = .ok (.if_icmp .ge 62, 3) := by decide +kernel
theorem dX6_evening_93 : decode cX6_evening 93 = .ok (.iload_n 3, 1) := by decide +kernel
theorem dX6_evening_94 : decode cX6_evening 94 = .ok (.ifCond .eq 50, 3) := by decide +kernel
theorem dX6_evening_97 : decode cX6_evening 97 = .ok (.aload_n 0, 1) := by decide +kernel
theorem dX6_evening_98 : decode cX6_evening 98 = .ok (.getfield 13, 3) := by decide +kernel
theorem dX6_evening_101 : decode cX6_evening 101 = .ok (.bipush 40, 2) := by decide +kernel
theorem dX6_evening_103 : decode cX6_evening 103 = .ok (.iload_n 2, 1) := by decide +kernel
theorem dX6_evening_104 : decode cX6_evening 104 = .ok (.imul, 1) := by decide +kernel
theorem dX6_evening_105 : decode cX6_evening 105 = .ok (.iload 4, 2) := by decide +kernel
theorem dX6_evening_107 : decode cX6_evening 107 = .ok (.iadd, 1) := by decide +kernel
theorem dX6_evening_108 : decode cX6_evening 108 = .ok (.iaload, 1) := by decide +kernel
theorem dX6_evening_109 : decode cX6_evening 109 = .ok (.invokestatic 180, 3) := by decide +kernel
theorem dX6_evening_112 : decode cX6_evening 112 = .ok (.ifCond .eq 32, 3) := by decide +kernel
theorem dX6_evening_115 : decode cX6_evening 115 = .ok (.aload_n 0, 1) := by decide +kernel
theorem dX6_evening_116 : decode cX6_evening 116 = .ok (.getfield 13, 3) := by decide +kernel
theorem dX6_evening_119 : decode cX6_evening 119 = .ok (.bipush 40, 2) := by decide +kernel
theorem dX6_evening_121 : decode cX6_evening 121 = .ok (.iload_n 2, 1) := by decide +kernel
theorem dX6_evening_122 : decode cX6_evening 122 = .ok (.imul, 1) := by decide +kernel
theorem dX6_evening_123 : decode cX6_evening 123 = .ok (.iload 4, 2) := by decide +kernel
theorem dX6_evening_125 : decode cX6_evening 125 = .ok (.iadd, 1) := by decide +kernel
theorem dX6_evening_126 : decode cX6_evening 126 = .ok (.iconst 1, 1) := by decide +kernel
theorem dX6_evening_127 : decode cX6_evening 127 = .ok (.iadd, 1) := by decide +kernel
theorem dX6_evening_128 : decode cX6_evening 128 = .ok (.iaload, 1) := by decide +kernel
theorem dX6_evening_129 : decode cX6_evening 129 = .ok (.i2l, 1) := by decide +kernel
theorem dX6_evening_130 : decode cX6_evening 130 = .ok (.lconst 0, 1) := by decide +kernel
theorem dX6_evening_131 : decode cX6_evening 131 = .ok (.ldc2_w 252, 3) := by decide +kernel
theorem dX6_evening_134 : decode cX6_evening 134 = .ok (.invokestatic 75, 3) := by decide +kernel
theorem dX6_evening_137 : decode cX6_evening 137 = .ok (.ifCond .eq 7, 3) := by decide +kernel
theorem dX6_evening_140 : decode cX6_evening 140 = .ok (.iconst 1, 1) := by decide +kernel
theorem dX6_evening_141 : decode cX6_evening 141 = .ok (.goto 4, 3) := by decide +kernel
theorem dX6_evening_144 : decode cX6_evening 144 = .ok (.iconst 0, 1) := by decide +kernel
theorem dX6_evening_145 : decode cX6_evening 145 = .ok (.istore_n 3, 1) := by decide +kernel
theorem dX6_evening_146 : decode cX6_evening 146 = .ok (.iinc 4 2, 3) := by decide +kernel
theorem dX6_evening_149 : decode cX6_evening 149 = .ok (.goto (-67), 3) := by decide +kernel
theorem dX6_evening_152 : decode cX6_evening 152 = .ok (.iload_n 3, 1) := by decide +kernel
theorem dX6_evening_153 : decode cX6_evening 153 = .ok (.ifCond .eq 7, 3) := by decide +kernel
theorem dX6_evening_156 : decode cX6_evening 156 = .ok (.iconst 0, 1) := by decide +kernel
theorem dX6_evening_157 : decode cX6_evening 157 = .ok (.goto 8, 3) := by decide +kernel
theorem dX6_evening_160 : decode cX6_evening 160 = .ok (.aload_n 0, 1) := by decide +kernel
theorem dX6_evening_161 : decode cX6_evening 161 = .ok (.iconst 3, 1) := by decide +kernel
theorem dX6_evening_162 : decode cX6_evening 162 = .ok (.invokevirtual 85, 3) := by decide +kernel
theorem dX6_evening_165 : decode cX6_evening 165 = .ok (.ireturn, 1) := by decide +kernel
set_option maxRecDepth 20000 in
theorem ggX6_comesSo_X6_griefBehind : GoodIn wsX6_comesSo wsX6_griefBehind := goodIn_r _ [7, 8, 9, 6, 10, 11, 12, 13] (by decide +kernel) (by decide +kernel)
set_option maxRecDepth 20000 in
theorem gX6_comesSo_X6_griefBehind : GoodIn wsX6_comesSo (va_wsS RX6 161 yX6_griefBehind wsX6_griefBehind) := goodIn_app (goodIn_of _ (by decide +kernel)) ggX6_comesSo_X6_griefBehind
theorem dX6_comesSo_0 : decode cX6_comesSo 0 = .ok (.iload_n 2, 1) := by decide +kernel
theorem dX6_comesSo_1 : decode cX6_comesSo 1 = .ok (.istore 4, 2) := by decide +kernel
theorem dX6_comesSo_3 : decode cX6_comesSo 3 = .ok (.iconst 1, 1) := by decide +kernel
theorem dX6_comesSo_4 : decode cX6_comesSo 4 = .ok (.istore 5, 2) := by decide +kernel
theorem dX6_comesSo_6 : decode cX6_comesSo 6 = .ok (.iconst 0, 1) := by decide +kernel
theorem dX6_comesSo_7 : decode cX6_comesSo 7 = .ok (.istore 6, 2) := by decide +kernel
theorem dX6_comesSo_9 : decode cX6_comesSo 9 = .ok (.iload 6, 2) := by decide +kernel
theorem dX6_comesSo_11 : decode cX6_comesSo 11 = .ok (.aload_n 0, 1) := by decide +kernel
theorem dX6_comesSo_12 : decode cX6_comesSo 12 = .ok (.getfield 7, 3) := by decide +kernel
theorem dX6_comesSo_15 : decode cX6_comesSo 15 = .ok (.iload_n 3, 1) := by decide +kernel
theorem dX6_comesSo_16 : decode cX6_comesSo 16 = .ok (.iaload, 1) := by decide +kernel
theorem dX6_comesSo_17 : decode cX6_comesSo 17 = .ok (.if_icmp .ge 71, 3) := by decide +kernel
theorem dX6_comesSo_20 : decode cX6_comesSo 20 = .ok (.aload_n 0, 1) := by decide +kernel
theorem dX6_comesSo_21 : decode cX6_comesSo 21 = .ok (.getfield 13, 3) := by decide +kernel
theorem dX6_comesSo_24 : decode cX6_comesSo 24 = .ok (.bipush 40, 2) := by decide +kernel
theorem dX6_comesSo_26 : decode cX6_comesSo 26 = .ok (.iload_n 3, 1) := by decide +kernel
theorem dX6_comesSo_27 : decode cX6_comesSo 27 = .ok (.imul, 1) := by decide +kernel
theorem dX6_comesSo_28 : decode cX6_comesSo 28 = .ok (.iload 6, 2) := by decide +kernel
theorem dX6_comesSo_30 : decode cX6_comesSo 30 = .ok (.iadd, 1) := by decide +kernel
theorem dX6_comesSo_31 : decode cX6_comesSo 31 = .ok (.iaload, 1) := by decide +kernel
theorem dX6_comesSo_32 : decode cX6_comesSo 32 = .ok (.istore 7, 2) := by decide +kernel
theorem dX6_comesSo_34 : decode cX6_comesSo 34 = .ok (.iload_n 1, 1) := by decide +kernel
theorem dX6_comesSo_35 : decode cX6_comesSo 35 = .ok (.iload 4, 2) := by decide +kernel
theorem dX6_comesSo_37 : decode cX6_comesSo 37 = .ok (.iload 7, 2) := by decide +kernel
theorem dX6_comesSo_39 : decode cX6_comesSo 39 = .ok (.aload_n 0, 1) := by decide +kernel
theorem dX6_comesSo_40 : decode cX6_comesSo 40 = .ok (.getfield 22, 3) := by decide +kernel
theorem dX6_comesSo_43 : decode cX6_comesSo 43 = .ok (.iload 7, 2) := by decide +kernel
theorem dX6_comesSo_45 : decode cX6_comesSo 45 = .ok (.iaload, 1) := by decide +kernel
theorem dX6_comesSo_46 : decode cX6_comesSo 46 = .ok (.invokestatic 161, 3) := by decide +kernel
theorem dX6_comesSo_49 : decode cX6_comesSo 49 = .ok (.istore 4, 2) := by decide +kernel
theorem dX6_comesSo_51 : decode cX6_comesSo 51 = .ok (.iload 5, 2) := by decide +kernel
theorem dX6_comesSo_53 : decode cX6_comesSo 53 = .ok (.ifCond .eq 26, 3) := by decide +kernel
theorem dX6_comesSo_56 : decode cX6_comesSo 56 = .ok (.iload 4, 2) := by decide +kernel
theorem dX6_comesSo_58 : decode cX6_comesSo 58 = .ok (.aload_n 0, 1) := by decide +kernel
theorem dX6_comesSo_59 : decode cX6_comesSo 59 = .ok (.getfield 13, 3) := by decide +kernel
theorem dX6_comesSo_62 : decode cX6_comesSo 62 = .ok (.bipush 40, 2) := by decide +kernel
theorem dX6_comesSo_64 : decode cX6_comesSo 64 = .ok (.iload_n 3, 1) := by decide +kernel
theorem dX6_comesSo_65 : decode cX6_comesSo 65 = .ok (.imul, 1) := by decide +kernel
theorem dX6_comesSo_66 : decode cX6_comesSo 66 = .ok (.iload 6, 2) := by decide +kernel
theorem dX6_comesSo_68 : decode cX6_comesSo 68 = .ok (.iadd, 1) := by decide +kernel
theorem dX6_comesSo_69 : decode cX6_comesSo 69 = .ok (.iconst 1, 1) := by decide +kernel
theorem dX6_comesSo_70 : decode cX6_comesSo 70 = .ok (.iadd, 1) := by decide +kernel
theorem dX6_comesSo_71 : decode cX6_comesSo 71 = .ok (.iaload, 1) := by decide +kernel
theorem dX6_comesSo_72 : decode cX6_comesSo 72 = .ok (.if_icmp .ne 7, 3) := by decide +kernel
theorem dX6_comesSo_75 : decode cX6_comesSo 75 = .ok (.iconst 1, 1) := by decide +kernel
theorem dX6_comesSo_76 : decode cX6_comesSo 76 = .ok (.goto 4, 3) := by decide +kernel
theorem dX6_comesSo_79 : decode cX6_comesSo 79 = .ok (.iconst 0, 1) := by decide +kernel
theorem dX6_comesSo_80 : decode cX6_comesSo 80 = .ok (.istore 5, 2) := by decide +kernel
theorem dX6_comesSo_82 : decode cX6_comesSo 82 = .ok (.iinc 6 2, 3) := by decide +kernel
theorem dX6_comesSo_85 : decode cX6_comesSo 85 = .ok (.goto (-76), 3) := by decide +kernel
theorem dX6_comesSo_88 : decode cX6_comesSo 88 = .ok (.iload 5, 2) := by decide +kernel
theorem dX6_comesSo_90 : decode cX6_comesSo 90 = .ok (.ireturn, 1) := by decide +kernel
set_option maxRecDepth 20000 in
theorem ggX6_kinds_X6_evening : GoodIn wsX6_kinds wsX6_evening := goodIn_r _ [6, 1, 7, 8, 9, 10, 11, 12, 5, 13, 14, 15, 16, 17, 18, 19, 20, 21, 22, 23, 24, 25, 26, 27, 28, 29, 30, 31, 32, 33, 34, 49, 50, 51, 52, 53, 54, 55, 56, 57, 58, 59, 60, 61, 62, 63, 64, 65, 66, 67, 68, 69, 70, 71, 72, 73, 74, 75] (by decide +kernel) (by decide +kernel)
set_option maxRecDepth 20000 in
theorem gX6_kinds_X6_evening : GoodIn wsX6_kinds (wsV RX6 254 RX6 yX6_evening wsX6_evening) := goodIn_app (goodIn_of _ (by decide +kernel)) ggX6_kinds_X6_evening
set_option maxRecDepth 20000 in
theorem ggX6_kinds_X6_comesSo : GoodIn wsX6_kinds wsX6_comesSo := goodIn_r _ [38, 7, 8, 39, 40, 41, 5, 42, 43, 44, 45, 46, 47, 48, 49, 50, 51, 52, 53, 54, 55, 56, 57, 58, 59, 60, 61, 62, 63, 64, 65, 66, 67, 68, 69, 70, 71, 72, 73, 74, 75] (by decide +kernel) (by decide +kernel)
set_option maxRecDepth 20000 in
theorem gX6_kinds_X6_comesSo : GoodIn wsX6_kinds (wsV RX6 257 RX6 yX6_comesSo wsX6_comesSo) := goodIn_app (goodIn_of _ (by decide +kernel)) ggX6_kinds_X6_comesSo
theorem dX6_kinds_0 : decode cX6_kinds 0 = .ok (.aload_n 0, 1) := by decide +kernel
theorem dX6_kinds_1 : decode cX6_kinds 1 = .ok (.iload_n 1, 1) := by decide +kernel
theorem dX6_kinds_2 : decode cX6_kinds 2 = .ok (.iload_n 2, 1) := by decide +kernel
theorem dX6_kinds_3 : decode cX6_kinds 3 = .ok (.invokevirtual 254, 3) := by decide +kernel
theorem dX6_kinds_6 : decode cX6_kinds 6 = .ok (.istore_n 3, 1) := by decide +kernel
theorem dX6_kinds_7 : decode cX6_kinds 7 = .ok (.iload_n 3, 1) := by decide +kernel
theorem dX6_kinds_8 : decode cX6_kinds 8 = .ok (.ifCond .eq 5, 3) := by decide +kernel
theorem dX6_kinds_11 : decode cX6_kinds 11 = .ok (.iload_n 3, 1) := by decide +kernel
theorem dX6_kinds_12 : decode cX6_kinds 12 = .ok (.ireturn, 1) := by decide +kernel
theorem dX6_kinds_13 : decode cX6_kinds 13 = .ok (.iconst 0, 1) := by decide +kernel
theorem dX6_kinds_14 : decode cX6_kinds 14 = .ok (.istore 4, 2) := by decide +kernel
theorem dX6_kinds_16 : decode cX6_kinds 16 = .ok (.iconst 0, 1) := by decide +kernel
theorem dX6_kinds_17 : decode cX6_kinds 17 = .ok (.istore 5, 2) := by decide +kernel
theorem dX6_kinds_19 : decode cX6_kinds 19 = .ok (.iload 5, 2) := by decide +kernel
theorem dX6_kinds_21 : decode cX6_kinds 21 = .ok (.bipush 6, 2) := by decide +kernel
theorem dX6_kinds_23 : decode cX6_kinds 23 = .ok (.if_icmp .ge 38, 3) := by decide +kernel
theorem dX6_kinds_26 : decode cX6_kinds 26 = .ok (.iload 4, 2) := by decide +kernel
theorem dX6_kinds_28 : decode cX6_kinds 28 = .ok (.aload_n 0, 1) := by decide +kernel
theorem dX6_kinds_29 : decode cX6_kinds 29 = .ok (.iload 5, 2) := by decide +kernel
theorem dX6_kinds_31 : decode cX6_kinds 31 = .ok (.aload_n 0, 1) := by decide +kernel
theorem dX6_kinds_32 : decode cX6_kinds 32 = .ok (.getfield 31, 3) := by decide +kernel
theorem dX6_kinds_35 : decode cX6_kinds 35 = .ok (.iload_n 1, 1) := by decide +kernel
theorem dX6_kinds_36 : decode cX6_kinds 36 = .ok (.iaload, 1) := by decide +kernel
theorem dX6_kinds_37 : decode cX6_kinds 37 = .ok (.iload_n 2, 1) := by decide +kernel
theorem dX6_kinds_38 : decode cX6_kinds 38 = .ok (.invokevirtual 257, 3) := by decide +kernel
theorem dX6_kinds_41 : decode cX6_kinds 41 = .ok (.ifCond .eq 10, 3) := by decide +kernel
theorem dX6_kinds_44 : decode cX6_kinds 44 = .ok (.iconst 1, 1) := by decide +kernel
theorem dX6_kinds_45 : decode cX6_kinds 45 = .ok (.iload 5, 2) := by decide +kernel
theorem dX6_kinds_47 : decode cX6_kinds 47 = .ok (.ishl, 1) := by decide +kernel
theorem dX6_kinds_48 : decode cX6_kinds 48 = .ok (.goto 4, 3) := by decide +kernel
theorem dX6_kinds_51 : decode cX6_kinds 51 = .ok (.iconst 0, 1) := by decide +kernel
theorem dX6_kinds_52 : decode cX6_kinds 52 = .ok (.ior, 1) := by decide +kernel
theorem dX6_kinds_53 : decode cX6_kinds 53 = .ok (.istore 4, 2) := by decide +kernel
theorem dX6_kinds_55 : decode cX6_kinds 55 = .ok (.iinc 5 1, 3) := by decide +kernel
theorem dX6_kinds_58 : decode cX6_kinds 58 = .ok (.goto (-39), 3) := by decide +kernel
theorem dX6_kinds_61 : decode cX6_kinds 61 = .ok (.iload 4, 2) := by decide +kernel
theorem dX6_kinds_63 : decode cX6_kinds 63 = .ok (.ireturn, 1) := by decide +kernel
set_option maxRecDepth 20000 in
theorem ggX6_came_X6_evening : GoodIn wsX6_came wsX6_evening := goodIn_r _ [6, 7, 8, 9, 10, 11, 12, 13, 5, 14, 15, 16, 17, 18, 19, 20, 21, 22, 23, 24, 25, 26, 27, 28, 29, 30, 31, 32, 33, 34, 35, 50, 51, 52, 53, 54, 55, 56, 57, 58, 59, 60, 61, 62, 63, 64, 65, 66, 67, 68, 69, 70, 71, 72, 73, 74, 75, 76] (by decide +kernel) (by decide +kernel)
set_option maxRecDepth 20000 in
theorem gX6_came_X6_evening : GoodIn wsX6_came (wsV RX6 254 RX6 yX6_evening wsX6_evening) := goodIn_app (goodIn_of _ (by decide +kernel)) ggX6_came_X6_evening
set_option maxRecDepth 20000 in
theorem ggX6_came_X6_comesSo : GoodIn wsX6_came wsX6_comesSo := goodIn_r _ [39, 8, 9, 40, 41, 42, 5, 43, 44, 45, 46, 47, 48, 49, 50, 51, 52, 53, 54, 55, 56, 57, 58, 59, 60, 61, 62, 63, 64, 65, 66, 67, 68, 69, 70, 71, 72, 73, 74, 75, 76] (by decide +kernel) (by decide +kernel)
set_option maxRecDepth 20000 in
theorem gX6_came_X6_comesSo : GoodIn wsX6_came (wsV RX6 257 RX6 yX6_comesSo wsX6_comesSo) := goodIn_app (goodIn_of _ (by decide +kernel)) ggX6_came_X6_comesSo
theorem dX6_came_0 : decode cX6_came 0 = .ok (.aload_n 0, 1) := by decide +kernel
theorem dX6_came_1 : decode cX6_came 1 = .ok (.iload_n 1, 1) := by decide +kernel
theorem dX6_came_2 : decode cX6_came 2 = .ok (.iload_n 2, 1) := by decide +kernel
theorem dX6_came_3 : decode cX6_came 3 = .ok (.invokevirtual 254, 3) := by decide +kernel
theorem dX6_came_6 : decode cX6_came 6 = .ok (.istore_n 3, 1) := by decide +kernel
theorem dX6_came_7 : decode cX6_came 7 = .ok (.iload_n 3, 1) := by decide +kernel
theorem dX6_came_8 : decode cX6_came 8 = .ok (.ifCond .eq 5, 3) := by decide +kernel
theorem dX6_came_11 : decode cX6_came 11 = .ok (.iload_n 3, 1) := by decide +kernel
theorem dX6_came_12 : decode cX6_came 12 = .ok (.ireturn, 1) := by decide +kernel
theorem dX6_came_13 : decode cX6_came 13 = .ok (.iconst 0, 1) := by decide +kernel
theorem dX6_came_14 : decode cX6_came 14 = .ok (.istore 4, 2) := by decide +kernel
theorem dX6_came_16 : decode cX6_came 16 = .ok (.iconst 0, 1) := by decide +kernel
theorem dX6_came_17 : decode cX6_came 17 = .ok (.istore 5, 2) := by decide +kernel
theorem dX6_came_19 : decode cX6_came 19 = .ok (.iload 5, 2) := by decide +kernel
theorem dX6_came_21 : decode cX6_came 21 = .ok (.bipush 20, 2) := by decide +kernel
theorem dX6_came_23 : decode cX6_came 23 = .ok (.if_icmp .gt 38, 3) := by decide +kernel
theorem dX6_came_26 : decode cX6_came 26 = .ok (.iload 4, 2) := by decide +kernel
theorem dX6_came_28 : decode cX6_came 28 = .ok (.aload_n 0, 1) := by decide +kernel
theorem dX6_came_29 : decode cX6_came 29 = .ok (.aload_n 0, 1) := by decide +kernel
theorem dX6_came_30 : decode cX6_came 30 = .ok (.getfield 25, 3) := by decide +kernel
theorem dX6_came_33 : decode cX6_came 33 = .ok (.iload_n 1, 1) := by decide +kernel
theorem dX6_came_34 : decode cX6_came 34 = .ok (.iaload, 1) := by decide +kernel
theorem dX6_came_35 : decode cX6_came 35 = .ok (.iload 5, 2) := by decide +kernel
theorem dX6_came_37 : decode cX6_came 37 = .ok (.iload_n 2, 1) := by decide +kernel
theorem dX6_came_38 : decode cX6_came 38 = .ok (.invokevirtual 257, 3) := by decide +kernel
theorem dX6_came_41 : decode cX6_came 41 = .ok (.ifCond .eq 10, 3) := by decide +kernel
theorem dX6_came_44 : decode cX6_came 44 = .ok (.iconst 1, 1) := by decide +kernel
theorem dX6_came_45 : decode cX6_came 45 = .ok (.iload 5, 2) := by decide +kernel
theorem dX6_came_47 : decode cX6_came 47 = .ok (.ishl, 1) := by decide +kernel
theorem dX6_came_48 : decode cX6_came 48 = .ok (.goto 4, 3) := by decide +kernel
theorem dX6_came_51 : decode cX6_came 51 = .ok (.iconst 0, 1) := by decide +kernel
theorem dX6_came_52 : decode cX6_came 52 = .ok (.ior, 1) := by decide +kernel
theorem dX6_came_53 : decode cX6_came 53 = .ok (.istore 4, 2) := by decide +kernel
theorem dX6_came_55 : decode cX6_came 55 = .ok (.iinc 5 1, 3) := by decide +kernel
theorem dX6_came_58 : decode cX6_came 58 = .ok (.goto (-39), 3) := by decide +kernel
theorem dX6_came_61 : decode cX6_came 61 = .ok (.iload 4, 2) := by decide +kernel
theorem dX6_came_63 : decode cX6_came 63 = .ok (.ireturn, 1) := by decide +kernel
set_option maxRecDepth 20000 in
theorem ggX6_did_X6_isGuest : GoodIn wsX6_did wsX6_isGuest := goodIn_r _ [7, 8, 9, 10, 6, 11, 25, 26, 27, 28, 29, 30, 31, 32, 33, 34, 35, 36, 37, 38, 39, 40, 41, 42, 43, 44, 45, 46, 47, 48, 49, 50, 51] (by decide +kernel) (by decide +kernel)
set_option maxRecDepth 20000 in
theorem gX6_did_X6_isGuest : GoodIn wsX6_did (wsV RX6 168 RX6 yX6_isGuest wsX6_isGuest) := goodIn_app (goodIn_of _ (by decide +kernel)) ggX6_did_X6_isGuest
set_option maxRecDepth 20000 in
theorem ggX6_did_X6_isTune : GoodIn wsX6_did wsX6_isTune := goodIn_r _ [14, 15, 9, 10, 6, 11] (by decide +kernel) (by decide +kernel)
set_option maxRecDepth 20000 in
theorem gX6_did_X6_isTune : GoodIn wsX6_did (va_wsS RX6 180 yX6_isTune wsX6_isTune) := goodIn_app (goodIn_of _ (by decide +kernel)) ggX6_did_X6_isTune
set_option maxRecDepth 20000 in
theorem ggX6_did_X6_in : GoodIn wsX6_did wsX6_in := goodIn_r _ [11] (by decide +kernel) (by decide +kernel)
set_option maxRecDepth 20000 in
theorem gX6_did_X6_in : GoodIn wsX6_did (va_wsS RX6 75 yX6_in wsX6_in) := goodIn_app (goodIn_of _ (by decide +kernel)) ggX6_did_X6_in
set_option maxRecDepth 20000 in
theorem ggX6_did_X6_griefBehind : GoodIn wsX6_did wsX6_griefBehind := goodIn_r _ [18, 19, 20, 6, 21, 22, 23, 24] (by decide +kernel) (by decide +kernel)
set_option maxRecDepth 20000 in
theorem gX6_did_X6_griefBehind : GoodIn wsX6_did (va_wsS RX6 161 yX6_griefBehind wsX6_griefBehind) := goodIn_app (goodIn_of _ (by decide +kernel)) ggX6_did_X6_griefBehind
theorem dX6_did_0 : decode cX6_did 0 = .ok (.aload_n 0, 1) := by decide +kernel
theorem dX6_did_1 : decode cX6_did 1 = .ok (.iload_n 1, 1) := by decide +kernel
theorem dX6_did_2 : decode cX6_did 2 = .ok (.invokevirtual 168, 3) := by decide +kernel
theorem dX6_did_5 : decode cX6_did 5 = .ok (.ifCond .eq 35, 3) := by decide +kernel
theorem dX6_did_8 : decode cX6_did 8 = .ok (.iload_n 2, 1) := by decide +kernel
theorem dX6_did_9 : decode cX6_did 9 = .ok (.invokestatic 180, 3) := by decide +kernel
theorem dX6_did_12 : decode cX6_did 12 = .ok (.ifCond .eq 28, 3) := by decide +kernel
theorem dX6_did_15 : decode cX6_did 15 = .ok (.iload_n 3, 1) := by decide +kernel
theorem dX6_did_16 : decode cX6_did 16 = .ok (.i2l, 1) := by decide +kernel
theorem dX6_did_17 : decode cX6_did 17 = .ok (.lconst 0, 1) := by decide +kernel
theorem dX6_did_18 : decode cX6_did 18 = .ok (.ldc2_w 252, 3) := by decide +kernel
theorem dX6_did_21 : decode cX6_did 21 = .ok (.invokestatic 75, 3) := by decide +kernel
theorem dX6_did_24 : decode cX6_did 24 = .ok (.ifCond .eq 16, 3) := by decide +kernel
theorem dX6_did_27 : decode cX6_did 27 = .ok (.iload 4, 2) := by decide +kernel
theorem dX6_did_29 : decode cX6_did 29 = .ok (.i2l, 1) := by decide +kernel
theorem dX6_did_30 : decode cX6_did 30 = .ok (.lconst 0, 1) := by decide +kernel
theorem dX6_did_31 : decode cX6_did 31 = .ok (.ldc2_w 252, 3) := by decide +kernel
theorem dX6_did_34 : decode cX6_did 34 = .ok (.invokestatic 75, 3) := by decide +kernel
theorem dX6_did_37 : decode cX6_did 37 = .ok (.ifCond .ne 5, 3) := by decide +kernel
theorem dX6_did_40 : decode cX6_did 40 = .ok (.iconst (-1), 1) := by decide +kernel
theorem dX6_did_41 : decode cX6_did 41 = .ok (.ireturn, 1) := by decide +kernel
theorem dX6_did_42 : decode cX6_did 42 = .ok (.iconst 0, 1) := by decide +kernel
theorem dX6_did_43 : decode cX6_did 43 = .ok (.istore 5, 2) := by decide +kernel
theorem dX6_did_45 : decode cX6_did 45 = .ok (.iconst 0, 1) := by decide +kernel
theorem dX6_did_46 : decode cX6_did 46 = .ok (.istore 6, 2) := by decide +kernel
theorem dX6_did_48 : decode cX6_did 48 = .ok (.iload 6, 2) := by decide +kernel
theorem dX6_did_50 : decode cX6_did 50 = .ok (.bipush 10, 2) := by decide +kernel
theorem dX6_did_52 : decode cX6_did 52 = .ok (.if_icmp .ge 42, 3) := by decide +kernel
theorem dX6_did_55 : decode cX6_did 55 = .ok (.iload 5, 2) := by decide +kernel
theorem dX6_did_57 : decode cX6_did 57 = .ok (.aload_n 0, 1) := by decide +kernel
theorem dX6_did_58 : decode cX6_did 58 = .ok (.getfield 25, 3) := by decide +kernel
theorem dX6_did_61 : decode cX6_did 61 = .ok (.iload_n 1, 1) := by decide +kernel
theorem dX6_did_62 : decode cX6_did 62 = .ok (.iaload, 1) := by decide +kernel
theorem dX6_did_63 : decode cX6_did 63 = .ok (.iload_n 3, 1) := by decide +kernel
theorem dX6_did_64 : decode cX6_did 64 = .ok (.iload_n 2, 1) := by decide +kernel
theorem dX6_did_65 : decode cX6_did 65 = .ok (.iload 6, 2) := by decide +kernel
theorem dX6_did_67 : decode cX6_did 67 = .ok (.iconst 4, 1) := by decide +kernel
theorem dX6_did_68 : decode cX6_did 68 = .ok (.isub, 1) := by decide +kernel
theorem dX6_did_69 : decode cX6_did 69 = .ok (.invokestatic 161, 3) := by decide +kernel
theorem dX6_did_72 : decode cX6_did 72 = .ok (.iload 4, 2) := by decide +kernel
theorem dX6_did_74 : decode cX6_did 74 = .ok (.if_icmp .ne 10, 3) := by decide +kernel
theorem dX6_did_77 : decode cX6_did 77 = .ok (.iconst 1, 1) := by decide +kernel
theorem dX6_did_78 : decode cX6_did 78 = .ok (.iload 6, 2) := by decide +kernel
theorem dX6_did_80 : decode cX6_did 80 = .ok (.ishl, 1) := by decide +kernel
theorem dX6_did_81 : decode cX6_did 81 = .ok (.goto 4, 3) := by decide +kernel
theorem dX6_did_84 : decode cX6_did 84 = .ok (.iconst 0, 1) := by decide +kernel
theorem dX6_did_85 : decode cX6_did 85 = .ok (.ior, 1) := by decide +kernel
theorem dX6_did_86 : decode cX6_did 86 = .ok (.istore 5, 2) := by decide +kernel
theorem dX6_did_88 : decode cX6_did 88 = .ok (.iinc 6 1, 3) := by decide +kernel
theorem dX6_did_91 : decode cX6_did 91 = .ok (.goto (-43), 3) := by decide +kernel
theorem dX6_did_94 : decode cX6_did 94 = .ok (.iload 5, 2) := by decide +kernel
theorem dX6_did_96 : decode cX6_did 96 = .ok (.ireturn, 1) := by decide +kernel
set_option maxRecDepth 20000 in
theorem ggX6_wept_X6_everybody : GoodIn wsX6_wept wsX6_everybody := goodIn_r _ [7, 2, 23, 24, 25, 26, 27, 28, 29, 30, 31, 32, 33, 34, 35, 36, 37, 38, 39, 40, 41, 42, 43, 44, 45, 46, 47, 48, 49] (by decide +kernel) (by decide +kernel)
set_option maxRecDepth 20000 in
theorem gX6_wept_X6_everybody : GoodIn wsX6_wept (wsV RX6 140 RX6 yX6_everybody wsX6_everybody) := goodIn_app (goodIn_of _ (by decide +kernel)) ggX6_wept_X6_everybody
set_option maxRecDepth 20000 in
theorem ggX6_wept_X6_in : GoodIn wsX6_wept wsX6_in := goodIn_r _ [10] (by decide +kernel) (by decide +kernel)
set_option maxRecDepth 20000 in
theorem gX6_wept_X6_in : GoodIn wsX6_wept (va_wsS RX6 75 yX6_in wsX6_in) := goodIn_app (goodIn_of _ (by decide +kernel)) ggX6_wept_X6_in
set_option maxRecDepth 20000 in
theorem ggX6_wept_X6_inside : GoodIn wsX6_wept wsX6_inside := goodIn_r _ [14, 3, 4, 5, 6, 7, 2, 23, 24, 25, 26, 27, 28, 29, 30, 31, 32, 33, 34, 35, 36, 37, 38, 39, 40, 41, 42, 43, 44, 45, 46, 47, 48, 49] (by decide +kernel) (by decide +kernel)
set_option maxRecDepth 20000 in
theorem gX6_wept_X6_inside : GoodIn wsX6_wept (wsV RX6 154 RX6 yX6_inside wsX6_inside) := goodIn_app (goodIn_of _ (by decide +kernel)) ggX6_wept_X6_inside
set_option maxRecDepth 20000 in
theorem ggX6_wept_X6_has : GoodIn wsX6_wept wsX6_has := goodIn_r _ [17] (by decide +kernel) (by decide +kernel)
set_option maxRecDepth 20000 in
theorem gX6_wept_X6_has : GoodIn wsX6_wept (va_wsS RX6 151 yX6_has wsX6_has) := goodIn_app (goodIn_of _ (by decide +kernel)) ggX6_wept_X6_has
set_option maxRecDepth 20000 in
theorem ggX6_wept_X6_isSeen : GoodIn wsX6_wept wsX6_isSeen := goodIn_r _ [21, 2, 22, 15, 16, 6, 17, 23, 24, 25, 26, 27, 28, 29, 30, 31, 32, 33, 34, 35, 36, 37, 38, 39, 40, 41, 42, 43, 44, 45, 46, 47, 48, 49] (by decide +kernel) (by decide +kernel)
set_option maxRecDepth 20000 in
theorem gX6_wept_X6_isSeen : GoodIn wsX6_wept (wsV RX6 158 RX6 yX6_isSeen wsX6_isSeen) := goodIn_app (goodIn_of _ (by decide +kernel)) ggX6_wept_X6_isSeen
theorem dX6_wept_0 : decode cX6_wept 0 = .ok (.iload_n 1, 1) := by decide +kernel
theorem dX6_wept_1 : decode cX6_wept 1 = .ok (.i2l, 1) := by decide +kernel
theorem dX6_wept_2 : decode cX6_wept 2 = .ok (.lconst 0, 1) := by decide +kernel
theorem dX6_wept_3 : decode cX6_wept 3 = .ok (.aload_n 0, 1) := by decide +kernel
theorem dX6_wept_4 : decode cX6_wept 4 = .ok (.invokevirtual 140, 3) := by decide +kernel
theorem dX6_wept_7 : decode cX6_wept 7 = .ok (.i2l, 1) := by decide +kernel
theorem dX6_wept_8 : decode cX6_wept 8 = .ok (.invokestatic 75, 3) := by decide +kernel
theorem dX6_wept_11 : decode cX6_wept 11 = .ok (.ifCond .ne 5, 3) := by decide +kernel
theorem dX6_wept_14 : decode cX6_wept 14 = .ok (.iconst (-1), 1) := by decide +kernel
theorem dX6_wept_15 : decode cX6_wept 15 = .ok (.ireturn, 1) := by decide +kernel
theorem dX6_wept_16 : decode cX6_wept 16 = .ok (.aload_n 0, 1) := by decide +kernel
theorem dX6_wept_17 : decode cX6_wept 17 = .ok (.aload_n 0, 1) := by decide +kernel
theorem dX6_wept_18 : decode cX6_wept 18 = .ok (.getfield 31, 3) := by decide +kernel
theorem dX6_wept_21 : decode cX6_wept 21 = .ok (.invokevirtual 154, 3) := by decide +kernel
theorem dX6_wept_24 : decode cX6_wept 24 = .ok (.istore_n 2, 1) := by decide +kernel
theorem dX6_wept_25 : decode cX6_wept 25 = .ok (.iconst 0, 1) := by decide +kernel
theorem dX6_wept_26 : decode cX6_wept 26 = .ok (.istore_n 3, 1) := by decide +kernel
theorem dX6_wept_27 : decode cX6_wept 27 = .ok (.iconst 0, 1) := by decide +kernel
theorem dX6_wept_28 : decode cX6_wept 28 = .ok (.istore 4, 2) := by decide +kernel
theorem dX6_wept_30 : decode cX6_wept 30 = .ok (.iload 4, 2) := by decide +kernel
theorem dX6_wept_32 : decode cX6_wept 32 = .ok (.aload_n 0, 1) := by decide +kernel
theorem dX6_wept_33 : decode cX6_wept 33 = .ok (.getfield 131, 3) := by decide +kernel
theorem dX6_wept_36 : decode cX6_wept 36 = .ok (.if_icmp .ge 67, 3) := by decide +kernel
theorem dX6_wept_39 : decode cX6_wept 39 = .ok (.iload_n 2, 1) := by decide +kernel
theorem dX6_wept_40 : decode cX6_wept 40 = .ok (.iload 4, 2) := by decide +kernel
theorem dX6_wept_42 : decode cX6_wept 42 = .ok (.invokestatic 151, 3) := by decide +kernel
theorem dX6_wept_45 : decode cX6_wept 45 = .ok (.ifCond .eq 33, 3) := by decide +kernel
theorem dX6_wept_48 : decode cX6_wept 48 = .ok (.aload_n 0, 1) := by decide +kernel
theorem dX6_wept_49 : decode cX6_wept 49 = .ok (.iload 4, 2) := by decide +kernel
theorem dX6_wept_51 : decode cX6_wept 51 = .ok (.iload_n 2, 1) := by decide +kernel
theorem dX6_wept_52 : decode cX6_wept 52 = .ok (.iload_n 1, 1) := by decide +kernel
theorem dX6_wept_53 : decode cX6_wept 53 = .ok (.iand, 1) := by decide +kernel
theorem dX6_wept_54 : decode cX6_wept 54 = .ok (.invokevirtual 158, 3) := by decide +kernel
theorem dX6_wept_57 : decode cX6_wept 57 = .ok (.ifCond .eq 21, 3) := by decide +kernel
theorem dX6_wept_60 : decode cX6_wept 60 = .ok (.aload_n 0, 1) := by decide +kernel
theorem dX6_wept_61 : decode cX6_wept 61 = .ok (.iload 4, 2) := by decide +kernel
theorem dX6_wept_63 : decode cX6_wept 63 = .ok (.iload_n 2, 1) := by decide +kernel
theorem dX6_wept_64 : decode cX6_wept 64 = .ok (.iload_n 1, 1) := by decide +kernel
theorem dX6_wept_65 : decode cX6_wept 65 = .ok (.iconst (-1), 1) := by decide +kernel
theorem dX6_wept_66 : decode cX6_wept 66 = .ok (.ixor, 1) := by decide +kernel
theorem dX6_wept_67 : decode cX6_wept 67 = .ok (.iand, 1) := by decide +kernel
theorem dX6_wept_68 : decode cX6_wept 68 = .ok (.invokevirtual 158, 3) := by decide +kernel
theorem dX6_wept_71 : decode cX6_wept 71 = .ok (.ifCond .ne 7, 3) := by decide +kernel
theorem dX6_wept_74 : decode cX6_wept 74 = .ok (.iconst 1, 1) := by decide +kernel
theorem dX6_wept_75 : decode cX6_wept 75 = .ok (.goto 4, 3) := by decide +kernel
theorem dX6_wept_78 : decode cX6_wept 78 = .ok (.iconst 0, 1) := by decide +kernel
theorem dX6_wept_79 : decode cX6_wept 79 = .ok (.istore 5, 2) := by decide +kernel
theorem dX6_wept_81 : decode cX6_wept 81 = .ok (.iload_n 3, 1) := by decide +kernel
theorem dX6_wept_82 : decode cX6_wept 82 = .ok (.iload 5, 2) := by decide +kernel
theorem dX6_wept_84 : decode cX6_wept 84 = .ok (.ifCond .eq 10, 3) := by decide +kernel
theorem dX6_wept_87 : decode cX6_wept 87 = .ok (.iconst 1, 1) := by decide +kernel
theorem dX6_wept_88 : decode cX6_wept 88 = .ok (.iload 4, 2) := by decide +kernel
theorem dX6_wept_90 : decode cX6_wept 90 = .ok (.ishl, 1) := by decide +kernel
theorem dX6_wept_91 : decode cX6_wept 91 = .ok (.goto 4, 3) := by decide +kernel
theorem dX6_wept_94 : decode cX6_wept 94 = .ok (.iconst 0, 1) := by decide +kernel
theorem dX6_wept_95 : decode cX6_wept 95 = .ok (.ior, 1) := by decide +kernel
theorem dX6_wept_96 : decode cX6_wept 96 = .ok (.istore_n 3, 1) := by decide +kernel
theorem dX6_wept_97 : decode cX6_wept 97 = .ok (.iinc 4 1, 3) := by decide +kernel
theorem dX6_wept_100 : decode cX6_wept 100 = .ok (.goto (-70), 3) := by decide +kernel
theorem dX6_wept_103 : decode cX6_wept 103 = .ok (.iload_n 3, 1) := by decide +kernel
theorem dX6_wept_104 : decode cX6_wept 104 = .ok (.ireturn, 1) := by decide +kernel
set_option maxRecDepth 20000 in
theorem ggX6_gets_X6_isGuest : GoodIn wsX6_gets wsX6_isGuest := goodIn_r _ [7, 8, 9, 10, 6, 11, 26, 27, 28, 29, 30, 31, 32, 33, 34, 35, 36, 37, 38, 39, 40, 41, 42, 43, 44, 45, 46, 47, 48, 49, 50, 51, 52] (by decide +kernel) (by decide +kernel)
set_option maxRecDepth 20000 in
theorem gX6_gets_X6_isGuest : GoodIn wsX6_gets (wsV RX6 168 RX6 yX6_isGuest wsX6_isGuest) := goodIn_app (goodIn_of _ (by decide +kernel)) ggX6_gets_X6_isGuest
set_option maxRecDepth 20000 in
theorem ggX6_gets_X6_in : GoodIn wsX6_gets wsX6_in := goodIn_r _ [11] (by decide +kernel) (by decide +kernel)
set_option maxRecDepth 20000 in
theorem gX6_gets_X6_in : GoodIn wsX6_gets (va_wsS RX6 75 yX6_in wsX6_in) := goodIn_app (goodIn_of _ (by decide +kernel)) ggX6_gets_X6_in
set_option maxRecDepth 20000 in
theorem ggX6_gets_X6_inside : GoodIn wsX6_gets wsX6_inside := goodIn_r _ [15, 16, 17, 18, 6, 19, 8, 26, 27, 28, 29, 30, 31, 32, 33, 34, 35, 36, 37, 38, 39, 40, 41, 42, 43, 44, 45, 46, 47, 48, 49, 50, 51, 52] (by decide +kernel) (by decide +kernel)
set_option maxRecDepth 20000 in
theorem gX6_gets_X6_inside : GoodIn wsX6_gets (wsV RX6 154 RX6 yX6_inside wsX6_inside) := goodIn_app (goodIn_of _ (by decide +kernel)) ggX6_gets_X6_inside
set_option maxRecDepth 20000 in
theorem ggX6_gets_X6_has : GoodIn wsX6_gets wsX6_has := goodIn_r _ [22] (by decide +kernel) (by decide +kernel)
set_option maxRecDepth 20000 in
theorem gX6_gets_X6_has : GoodIn wsX6_gets (va_wsS RX6 151 yX6_has wsX6_has) := goodIn_app (goodIn_of _ (by decide +kernel)) ggX6_gets_X6_has
set_option maxRecDepth 20000 in
theorem ggX6_gets_X6_bits : GoodIn wsX6_gets wsX6_bits := goodIn_r _ [25] (by decide +kernel) (by decide +kernel)
set_option maxRecDepth 20000 in
theorem gX6_gets_X6_bits : GoodIn wsX6_gets (va_wsS RX6 216 yX6_bits wsX6_bits) := goodIn_app (goodIn_of _ (by decide +kernel)) ggX6_gets_X6_bits
theorem dX6_gets_0 : decode cX6_gets 0 = .ok (.aload_n 0, 1) := by decide +kernel
theorem dX6_gets_1 : decode cX6_gets 1 = .ok (.iload_n 1, 1) := by decide +kernel
theorem dX6_gets_2 : decode cX6_gets 2 = .ok (.invokevirtual 168, 3) := by decide +kernel
theorem dX6_gets_5 : decode cX6_gets 5 = .ok (.ifCond .eq 15, 3) := by decide +kernel
theorem dX6_gets_8 : decode cX6_gets 8 = .ok (.iload_n 2, 1) := by decide +kernel
theorem dX6_gets_9 : decode cX6_gets 9 = .ok (.i2l, 1) := by decide +kernel
theorem dX6_gets_10 : decode cX6_gets 10 = .ok (.lconst 1, 1) := by decide +kernel
theorem dX6_gets_11 : decode cX6_gets 11 = .ok (.ldc2_w 260, 3) := by decide +kernel
theorem dX6_gets_14 : decode cX6_gets 14 = .ok (.invokestatic 75, 3) := by decide +kernel
theorem dX6_gets_17 : decode cX6_gets 17 = .ok (.ifCond .ne 5, 3) := by decide +kernel
theorem dX6_gets_20 : decode cX6_gets 20 = .ok (.iconst (-1), 1) := by decide +kernel
theorem dX6_gets_21 : decode cX6_gets 21 = .ok (.ireturn, 1) := by decide +kernel
theorem dX6_gets_22 : decode cX6_gets 22 = .ok (.aload_n 0, 1) := by decide +kernel
theorem dX6_gets_23 : decode cX6_gets 23 = .ok (.aload_n 0, 1) := by decide +kernel
theorem dX6_gets_24 : decode cX6_gets 24 = .ok (.getfield 31, 3) := by decide +kernel
theorem dX6_gets_27 : decode cX6_gets 27 = .ok (.invokevirtual 154, 3) := by decide +kernel
theorem dX6_gets_30 : decode cX6_gets 30 = .ok (.istore_n 3, 1) := by decide +kernel
theorem dX6_gets_31 : decode cX6_gets 31 = .ok (.iload_n 3, 1) := by decide +kernel
theorem dX6_gets_32 : decode cX6_gets 32 = .ok (.iload_n 1, 1) := by decide +kernel
theorem dX6_gets_33 : decode cX6_gets 33 = .ok (.invokestatic 151, 3) := by decide +kernel
theorem dX6_gets_36 : decode cX6_gets 36 = .ok (.ifCond .ne 5, 3) := by decide +kernel
theorem dX6_gets_39 : decode cX6_gets 39 = .ok (.iconst 0, 1) := by decide +kernel
theorem dX6_gets_40 : decode cX6_gets 40 = .ok (.ireturn, 1) := by decide +kernel
theorem dX6_gets_41 : decode cX6_gets 41 = .ok (.iload_n 3, 1) := by decide +kernel
theorem dX6_gets_42 : decode cX6_gets 42 = .ok (.invokestatic 216, 3) := by decide +kernel
theorem dX6_gets_45 : decode cX6_gets 45 = .ok (.istore 4, 2) := by decide +kernel
theorem dX6_gets_47 : decode cX6_gets 47 = .ok (.iload_n 3, 1) := by decide +kernel
theorem dX6_gets_48 : decode cX6_gets 48 = .ok (.iconst 1, 1) := by decide +kernel
theorem dX6_gets_49 : decode cX6_gets 49 = .ok (.iload_n 1, 1) := by decide +kernel
theorem dX6_gets_50 : decode cX6_gets 50 = .ok (.ishl, 1) := by decide +kernel
theorem dX6_gets_51 : decode cX6_gets 51 = .ok (.iconst 1, 1) := by decide +kernel
theorem dX6_gets_52 : decode cX6_gets 52 = .ok (.isub, 1) := by decide +kernel
theorem dX6_gets_53 : decode cX6_gets 53 = .ok (.iand, 1) := by decide +kernel
theorem dX6_gets_54 : decode cX6_gets 54 = .ok (.invokestatic 216, 3) := by decide +kernel
theorem dX6_gets_57 : decode cX6_gets 57 = .ok (.istore 5, 2) := by decide +kernel
theorem dX6_gets_59 : decode cX6_gets 59 = .ok (.iload_n 2, 1) := by decide +kernel
theorem dX6_gets_60 : decode cX6_gets 60 = .ok (.iload 4, 2) := by decide +kernel
theorem dX6_gets_62 : decode cX6_gets 62 = .ok (.idiv, 1) := by decide +kernel
theorem dX6_gets_63 : decode cX6_gets 63 = .ok (.iload 5, 2) := by decide +kernel
theorem dX6_gets_65 : decode cX6_gets 65 = .ok (.iload_n 2, 1) := by decide +kernel
theorem dX6_gets_66 : decode cX6_gets 66 = .ok (.iload 4, 2) := by decide +kernel
theorem dX6_gets_68 : decode cX6_gets 68 = .ok (.irem, 1) := by decide +kernel
theorem dX6_gets_69 : decode cX6_gets 69 = .ok (.if_icmp .ge 7, 3) := by decide +kernel
theorem dX6_gets_72 : decode cX6_gets 72 = .ok (.iconst 1, 1) := by decide +kernel
theorem dX6_gets_73 : decode cX6_gets 73 = .ok (.goto 4, 3) := by decide +kernel
theorem dX6_gets_76 : decode cX6_gets 76 = .ok (.iconst 0, 1) := by decide +kernel
theorem dX6_gets_77 : decode cX6_gets 77 = .ok (.iadd, 1) := by decide +kernel
theorem dX6_gets_78 : decode cX6_gets 78 = .ok (.ireturn, 1) := by decide +kernel
set_option maxRecDepth 20000 in
theorem ggX6_stops_X6_inside : GoodIn wsX6_stops wsX6_inside := goodIn_r _ [8, 9, 10, 11, 7, 12, 2, 19, 20, 21, 22, 23, 24, 25, 26, 27, 28, 29, 30, 31, 32, 33, 34, 35, 36, 37, 38, 39, 40, 41, 42, 43, 44, 45] (by decide +kernel) (by decide +kernel)
set_option maxRecDepth 20000 in
theorem gX6_stops_X6_inside : GoodIn wsX6_stops (wsV RX6 154 RX6 yX6_inside wsX6_inside) := goodIn_app (goodIn_of _ (by decide +kernel)) ggX6_stops_X6_inside
set_option maxRecDepth 20000 in
theorem ggX6_stops_X6_everybody : GoodIn wsX6_stops wsX6_everybody := goodIn_r _ [12, 2, 19, 20, 21, 22, 23, 24, 25, 26, 27, 28, 29, 30, 31, 32, 33, 34, 35, 36, 37, 38, 39, 40, 41, 42, 43, 44, 45] (by decide +kernel) (by decide +kernel)
set_option maxRecDepth 20000 in
theorem gX6_stops_X6_everybody : GoodIn wsX6_stops (wsV RX6 140 RX6 yX6_everybody wsX6_everybody) := goodIn_app (goodIn_of _ (by decide +kernel)) ggX6_stops_X6_everybody
set_option maxRecDepth 20000 in
theorem ggX6_stops_X6_has : GoodIn wsX6_stops wsX6_has := goodIn_r _ [15] (by decide +kernel) (by decide +kernel)
set_option maxRecDepth 20000 in
theorem gX6_stops_X6_has : GoodIn wsX6_stops (va_wsS RX6 151 yX6_has wsX6_has) := goodIn_app (goodIn_of _ (by decide +kernel)) ggX6_stops_X6_has
set_option maxRecDepth 20000 in
theorem ggX6_stops_X6_bits : GoodIn wsX6_stops wsX6_bits := goodIn_r _ [18] (by decide +kernel) (by decide +kernel)
set_option maxRecDepth 20000 in
theorem gX6_stops_X6_bits : GoodIn wsX6_stops (va_wsS RX6 216 yX6_bits wsX6_bits) := goodIn_app (goodIn_of _ (by decide +kernel)) ggX6_stops_X6_bits
theorem dX6_stops_0 : decode cX6_stops 0 = .ok (.aload_n 0, 1) := by decide +kernel
theorem dX6_stops_1 : decode cX6_stops 1 = .ok (.aload_n 0, 1) := by decide +kernel
theorem dX6_stops_2 : decode cX6_stops 2 = .ok (.getfield 31, 3) := by decide +kernel
theorem dX6_stops_5 : decode cX6_stops 5 = .ok (.invokevirtual 154, 3) := by decide +kernel
theorem dX6_stops_8 : decode cX6_stops 8 = .ok (.istore_n 1, 1) := by decide +kernel
theorem dX6_stops_9 : decode cX6_stops 9 = .ok (.bipush (-9), 2) := by decide +kernel
theorem dX6_stops_11 : decode cX6_stops 11 = .ok (.istore_n 2, 1) := by decide +kernel
theorem dX6_stops_12 : decode cX6_stops 12 = .ok (.iconst 1, 1) := by decide +kernel
theorem dX6_stops_13 : decode cX6_stops 13 = .ok (.istore_n 3, 1) := by decide +kernel
theorem dX6_stops_14 : decode cX6_stops 14 = .ok (.iload_n 3, 1) := by decide +kernel
theorem dX6_stops_15 : decode cX6_stops 15 = .ok (.aload_n 0, 1) := by decide +kernel
theorem dX6_stops_16 : decode cX6_stops 16 = .ok (.invokevirtual 140, 3) := by decide +kernel
theorem dX6_stops_19 : decode cX6_stops 19 = .ok (.if_icmp .gt 122, 3) := by decide +kernel
theorem dX6_stops_22 : decode cX6_stops 22 = .ok (.iconst 0, 1) := by decide +kernel
theorem dX6_stops_23 : decode cX6_stops 23 = .ok (.istore 4, 2) := by decide +kernel
theorem dX6_stops_25 : decode cX6_stops 25 = .ok (.iconst 0, 1) := by decide +kernel
theorem dX6_stops_26 : decode cX6_stops 26 = .ok (.istore 5, 2) := by decide +kernel
theorem dX6_stops_28 : decode cX6_stops 28 = .ok (.iload 5, 2) := by decide +kernel
theorem dX6_stops_30 : decode cX6_stops 30 = .ok (.aload_n 0, 1) := by decide +kernel
theorem dX6_stops_31 : decode cX6_stops 31 = .ok (.getfield 131, 3) := by decide +kernel
theorem dX6_stops_34 : decode cX6_stops 34 = .ok (.if_icmp .ge 34, 3) := by decide +kernel
theorem dX6_stops_37 : decode cX6_stops 37 = .ok (.iload 4, 2) := by decide +kernel
theorem dX6_stops_39 : decode cX6_stops 39 = .ok (.iload_n 3, 1) := by decide +kernel
theorem dX6_stops_40 : decode cX6_stops 40 = .ok (.iload 5, 2) := by decide +kernel
theorem dX6_stops_42 : decode cX6_stops 42 = .ok (.invokestatic 151, 3) := by decide +kernel
theorem dX6_stops_45 : decode cX6_stops 45 = .ok (.ifCond .eq 13, 3) := by decide +kernel
theorem dX6_stops_48 : decode cX6_stops 48 = .ok (.aload_n 0, 1) := by decide +kernel
theorem dX6_stops_49 : decode cX6_stops 49 = .ok (.getfield 31, 3) := by decide +kernel
theorem dX6_stops_52 : decode cX6_stops 52 = .ok (.iload 5, 2) := by decide +kernel
theorem dX6_stops_54 : decode cX6_stops 54 = .ok (.iaload, 1) := by decide +kernel
theorem dX6_stops_55 : decode cX6_stops 55 = .ok (.goto 4, 3) := by decide +kernel
theorem dX6_stops_58 : decode cX6_stops 58 = .ok (.iconst 0, 1) := by decide +kernel
theorem dX6_stops_59 : decode cX6_stops 59 = .ok (.iadd, 1) := by decide +kernel
theorem dX6_stops_60 : decode cX6_stops 60 = .ok (.istore 4, 2) := by decide +kernel
theorem dX6_stops_62 : decode cX6_stops 62 = .ok (.iinc 5 1, 3) := by decide +kernel
theorem dX6_stops_65 : decode cX6_stops 65 = .ok (.goto (-37), 3) := by decide +kernel
theorem dX6_stops_68 : decode cX6_stops 68 = .ok (.iload_n 3, 1) := by decide +kernel
theorem dX6_stops_69 : decode cX6_stops 69 = .ok (.iload_n 1, 1) := by decide +kernel
theorem dX6_stops_70 : decode cX6_stops 70 = .ok (.iconst (-1), 1) := by decide +kernel
theorem dX6_stops_71 : decode cX6_stops 71 = .ok (.ixor, 1) := by decide +kernel
theorem dX6_stops_72 : decode cX6_stops 72 = .ok (.iand, 1) := by decide +kernel
theorem dX6_stops_73 : decode cX6_stops 73 = .ok (.ifCond .ne 31, 3) := by decide +kernel
theorem dX6_stops_76 : decode cX6_stops 76 = .ok (.iload_n 3, 1) := by decide +kernel
theorem dX6_stops_77 : decode cX6_stops 77 = .ok (.invokestatic 216, 3) := by decide +kernel
theorem dX6_stops_80 : decode cX6_stops 80 = .ok (.iconst 1, 1) := by decide +kernel
theorem dX6_stops_81 : decode cX6_stops 81 = .ok (.if_icmp .le 23, 3) := by decide +kernel
theorem dX6_stops_84 : decode cX6_stops 84 = .ok (.iload 4, 2) := by decide +kernel
theorem dX6_stops_86 : decode cX6_stops 86 = .ok (.aload_n 0, 1) := by decide +kernel
theorem dX6_stops_87 : decode cX6_stops 87 = .ok (.getfield 134, 3) := by decide +kernel
theorem dX6_stops_90 : decode cX6_stops 90 = .ok (.iload_n 3, 1) := by decide +kernel
theorem dX6_stops_91 : decode cX6_stops 91 = .ok (.invokestatic 216, 3) := by decide +kernel
theorem dX6_stops_94 : decode cX6_stops 94 = .ok (.iconst 1, 1) := by decide +kernel
theorem dX6_stops_95 : decode cX6_stops 95 = .ok (.isub, 1) := by decide +kernel
theorem dX6_stops_96 : decode cX6_stops 96 = .ok (.imul, 1) := by decide +kernel
theorem dX6_stops_97 : decode cX6_stops 97 = .ok (.if_icmp .ge 7, 3) := by decide +kernel
theorem dX6_stops_100 : decode cX6_stops 100 = .ok (.iconst 1, 1) := by decide +kernel
theorem dX6_stops_101 : decode cX6_stops 101 = .ok (.goto 4, 3) := by decide +kernel
theorem dX6_stops_104 : decode cX6_stops 104 = .ok (.iconst 0, 1) := by decide +kernel
theorem dX6_stops_105 : decode cX6_stops 105 = .ok (.istore 5, 2) := by decide +kernel
theorem dX6_stops_107 : decode cX6_stops 107 = .ok (.iload 5, 2) := by decide +kernel
theorem dX6_stops_109 : decode cX6_stops 109 = .ok (.ifCond .eq 24, 3) := by decide +kernel
theorem dX6_stops_112 : decode cX6_stops 112 = .ok (.iload_n 2, 1) := by decide +kernel
theorem dX6_stops_113 : decode cX6_stops 113 = .ok (.bipush (-9), 2) := by decide +kernel
theorem dX6_stops_115 : decode cX6_stops 115 = .ok (.if_icmp .eq 14, 3) := by decide +kernel
theorem dX6_stops_118 : decode cX6_stops 118 = .ok (.iload_n 3, 1) := by decide +kernel
theorem dX6_stops_119 : decode cX6_stops 119 = .ok (.invokestatic 216, 3) := by decide +kernel
theorem dX6_stops_122 : decode cX6_stops 122 = .ok (.iload_n 2, 1) := by decide +kernel
theorem dX6_stops_123 : decode cX6_stops 123 = .ok (.invokestatic 216, 3) := by decide +kernel
theorem dX6_stops_126 : decode cX6_stops 126 = .ok (.if_icmp .ge 7, 3) := by decide +kernel
theorem dX6_stops_129 : decode cX6_stops 129 = .ok (.iload_n 3, 1) := by decide +kernel
theorem dX6_stops_130 : decode cX6_stops 130 = .ok (.goto 4, 3) := by decide +kernel
theorem dX6_stops_133 : decode cX6_stops 133 = .ok (.iload_n 2, 1) := by decide +kernel
theorem dX6_stops_134 : decode cX6_stops 134 = .ok (.istore_n 2, 1) := by decide +kernel
theorem dX6_stops_135 : decode cX6_stops 135 = .ok (.iinc 3 1, 3) := by decide +kernel
theorem dX6_stops_138 : decode cX6_stops 138 = .ok (.goto (-124), 3) := by decide +kernel
theorem dX6_stops_141 : decode cX6_stops 141 = .ok (.iload_n 2, 1) := by decide +kernel
theorem dX6_stops_142 : decode cX6_stops 142 = .ok (.ireturn, 1) := by decide +kernel
theorem dX6_fraction_0 : decode cX6_fraction 0 = .ok (.lload_n 1, 1) := by decide +kernel
theorem dX6_fraction_1 : decode cX6_fraction 1 = .ok (.lstore 5, 2) := by decide +kernel
theorem dX6_fraction_3 : decode cX6_fraction 3 = .ok (.lload_n 3, 1) := by decide +kernel
theorem dX6_fraction_4 : decode cX6_fraction 4 = .ok (.lstore 7, 2) := by decide +kernel
theorem dX6_fraction_6 : decode cX6_fraction 6 = .ok (.lload 7, 2) := by decide +kernel
theorem dX6_fraction_8 : decode cX6_fraction 8 = .ok (.lconst 0, 1) := by decide +kernel
theorem dX6_fraction_9 : decode cX6_fraction 9 = .ok (.lcmp, 1) := by decide +kernel
theorem dX6_fraction_10 : decode cX6_fraction 10 = .ok (.ifCond .eq 21, 3) := by decide +kernel
theorem dX6_fraction_13 : decode cX6_fraction 13 = .ok (.lload 5, 2) := by decide +kernel
theorem dX6_fraction_15 : decode cX6_fraction 15 = .ok (.lload 7, 2) := by decide +kernel
theorem dX6_fraction_17 : decode cX6_fraction 17 = .ok (.lrem, 1) := by decide +kernel
theorem dX6_fraction_18 : decode cX6_fraction 18 = .ok (.lstore 9, 2) := by decide +kernel
theorem dX6_fraction_20 : decode cX6_fraction 20 = .ok (.lload 7, 2) := by decide +kernel
theorem dX6_fraction_22 : decode cX6_fraction 22 = .ok (.lstore 5, 2) := by decide +kernel
theorem dX6_fraction_24 : decode cX6_fraction 24 = .ok (.lload 9, 2) := by decide +kernel
theorem dX6_fraction_26 : decode cX6_fraction 26 = .ok (.lstore 7, 2) := by decide +kernel
theorem dX6_fraction_28 : decode cX6_fraction 28 = .ok (.goto (-22), 3) := by decide +kernel
theorem dX6_fraction_31 : decode cX6_fraction 31 = .ok (.aload_n 0, 1) := by decide +kernel
theorem dX6_fraction_32 : decode cX6_fraction 32 = .ok (.lload_n 1, 1) := by decide +kernel
theorem dX6_fraction_33 : decode cX6_fraction 33 = .ok (.lload 5, 2) := by decide +kernel
theorem dX6_fraction_35 : decode cX6_fraction 35 = .ok (.ldiv, 1) := by decide +kernel
theorem dX6_fraction_36 : decode cX6_fraction 36 = .ok (.putfield 230, 3) := by decide +kernel
theorem dX6_fraction_39 : decode cX6_fraction 39 = .ok (.aload_n 0, 1) := by decide +kernel
theorem dX6_fraction_40 : decode cX6_fraction 40 = .ok (.lload_n 3, 1) := by decide +kernel
theorem dX6_fraction_41 : decode cX6_fraction 41 = .ok (.lload 5, 2) := by decide +kernel
theorem dX6_fraction_43 : decode cX6_fraction 43 = .ok (.ldiv, 1) := by decide +kernel
theorem dX6_fraction_44 : decode cX6_fraction 44 = .ok (.putfield 44, 3) := by decide +kernel
theorem dX6_fraction_47 : decode cX6_fraction 47 = .ok (.iconst 1, 1) := by decide +kernel
theorem dX6_fraction_48 : decode cX6_fraction 48 = .ok (.ireturn, 1) := by decide +kernel
set_option maxRecDepth 20000 in
theorem ggX6_odds_X6_isLength : GoodIn wsX6_odds wsX6_isLength := goodIn_r _ [5, 6, 7, 8, 4, 9] (by decide +kernel) (by decide +kernel)
set_option maxRecDepth 20000 in
theorem gX6_odds_X6_isLength : GoodIn wsX6_odds (va_wsS RX6 221 yX6_isLength wsX6_isLength) := goodIn_app (goodIn_of _ (by decide +kernel)) ggX6_odds_X6_isLength
set_option maxRecDepth 20000 in
theorem ggX6_odds_X6_codes : GoodIn wsX6_odds wsX6_codes := goodIn_r _ [12] (by decide +kernel) (by decide +kernel)
set_option maxRecDepth 20000 in
theorem gX6_odds_X6_codes : GoodIn wsX6_odds (va_wsS RX6 224 yX6_codes wsX6_codes) := goodIn_app (goodIn_of _ (by decide +kernel)) ggX6_odds_X6_codes
set_option maxRecDepth 20000 in
theorem ggX6_odds_X6_fallen : GoodIn wsX6_odds wsX6_fallen := goodIn_r _ [16, 17, 18, 19, 20, 21, 4, 22, 23, 24, 25, 26, 27, 28, 29, 1, 30, 31, 32, 33, 34, 35, 36, 37, 38, 39, 40, 41, 42, 43, 44, 45, 46, 47, 48, 49, 50, 51, 52, 53, 54, 55, 56, 57, 58, 59, 60, 61, 62, 63, 64, 71, 72, 73, 74, 75, 76, 77, 78, 79, 80, 81, 82, 83, 84, 85, 86, 87, 88, 89, 90, 91, 92, 93, 94, 95, 96, 97] (by decide +kernel) (by decide +kernel)
set_option maxRecDepth 20000 in
theorem gX6_odds_X6_fallen : GoodIn wsX6_odds (wsV RX6 227 RX6 yX6_fallen wsX6_fallen) := goodIn_app (goodIn_of _ (by decide +kernel)) ggX6_odds_X6_fallen
set_option maxRecDepth 20000 in
theorem ggX6_odds_X6_fraction : GoodIn wsX6_odds wsX6_fraction := goodIn_r _ [68, 69, 70, 71, 72, 73, 74, 75, 76, 77, 78, 79, 80, 81, 82, 83, 84, 85, 86, 87, 88, 89, 90, 91, 92, 93, 94, 95, 96, 97] (by decide +kernel) (by decide +kernel)
set_option maxRecDepth 20000 in
theorem gX6_odds_X6_fraction : GoodIn wsX6_odds (wsV RX6 262 RX6 yX6_fraction wsX6_fraction) := goodIn_app (goodIn_of _ (by decide +kernel)) ggX6_odds_X6_fraction
theorem dX6_odds_0 : decode cX6_odds 0 = .ok (.iload_n 1, 1) := by decide +kernel
theorem dX6_odds_1 : decode cX6_odds 1 = .ok (.invokestatic 221, 3) := by decide +kernel
theorem dX6_odds_4 : decode cX6_odds 4 = .ok (.ifCond .ne 5, 3) := by decide +kernel
theorem dX6_odds_7 : decode cX6_odds 7 = .ok (.iconst (-1), 1) := by decide +kernel
theorem dX6_odds_8 : decode cX6_odds 8 = .ok (.ireturn, 1) := by decide +kernel
theorem dX6_odds_9 : decode cX6_odds 9 = .ok (.aload_n 0, 1) := by decide +kernel
theorem dX6_odds_10 : decode cX6_odds 10 = .ok (.getfield 131, 3) := by decide +kernel
theorem dX6_odds_13 : decode cX6_odds 13 = .ok (.ifCond .ne 6, 3) := by decide +kernel
theorem dX6_odds_16 : decode cX6_odds 16 = .ok (.bipush (-4), 2) := by decide +kernel
theorem dX6_odds_18 : decode cX6_odds 18 = .ok (.ireturn, 1) := by decide +kernel
theorem dX6_odds_19 : decode cX6_odds 19 = .ok (.iconst 0, 1) := by decide +kernel
theorem dX6_odds_20 : decode cX6_odds 20 = .ok (.istore_n 2, 1) := by decide +kernel
theorem dX6_odds_21 : decode cX6_odds 21 = .ok (.iconst 0, 1) := by decide +kernel
theorem dX6_odds_22 : decode cX6_odds 22 = .ok (.istore_n 3, 1) := by decide +kernel
theorem dX6_odds_23 : decode cX6_odds 23 = .ok (.iload_n 3, 1) := by decide +kernel
theorem dX6_odds_24 : decode cX6_odds 24 = .ok (.iload_n 1, 1) := by decide +kernel
theorem dX6_odds_25 : decode cX6_odds 25 = .ok (.invokestatic 224, 3) := by decide +kernel
theorem dX6_odds_28 : decode cX6_odds 28 = .ok (.if_icmp .ge 26, 3) := by decide +kernel
theorem dX6_odds_31 : decode cX6_odds 31 = .ok (.iload_n 2, 1) := by decide +kernel
theorem dX6_odds_32 : decode cX6_odds 32 = .ok (.aload_n 0, 1) := by decide +kernel
theorem dX6_odds_33 : decode cX6_odds 33 = .ok (.iload_n 1, 1) := by decide +kernel
theorem dX6_odds_34 : decode cX6_odds 34 = .ok (.iload_n 3, 1) := by decide +kernel
theorem dX6_odds_35 : decode cX6_odds 35 = .ok (.invokevirtual 227, 3) := by decide +kernel
theorem dX6_odds_38 : decode cX6_odds 38 = .ok (.ifCond .ne 7, 3) := by decide +kernel
theorem dX6_odds_41 : decode cX6_odds 41 = .ok (.iconst 1, 1) := by decide +kernel
theorem dX6_odds_42 : decode cX6_odds 42 = .ok (.goto 4, 3) := by decide +kernel
theorem dX6_odds_45 : decode cX6_odds 45 = .ok (.iconst 0, 1) := by decide +kernel
theorem dX6_odds_46 : decode cX6_odds 46 = .ok (.iadd, 1) := by decide +kernel
theorem dX6_odds_47 : decode cX6_odds 47 = .ok (.istore_n 2, 1) := by decide +kernel
theorem dX6_odds_48 : decode cX6_odds 48 = .ok (.iinc 3 1, 3) := by decide +kernel
theorem dX6_odds_51 : decode cX6_odds 51 = .ok (.goto (-28), 3) := by decide +kernel
theorem dX6_odds_54 : decode cX6_odds 54 = .ok (.aload_n 0, 1) := by decide +kernel
theorem dX6_odds_55 : decode cX6_odds 55 = .ok (.iload_n 2, 1) := by decide +kernel
theorem dX6_odds_56 : decode cX6_odds 56 = .ok (.i2l, 1) := by decide +kernel
theorem dX6_odds_57 : decode cX6_odds 57 = .ok (.iload_n 1, 1) := by decide +kernel
theorem dX6_odds_58 : decode cX6_odds 58 = .ok (.invokestatic 224, 3) := by decide +kernel
theorem dX6_odds_61 : decode cX6_odds 61 = .ok (.i2l, 1) := by decide +kernel
theorem dX6_odds_62 : decode cX6_odds 62 = .ok (.invokevirtual 262, 3) := by decide +kernel
theorem dX6_odds_65 : decode cX6_odds 65 = .ok (.ireturn, 1) := by decide +kernel
set_option maxRecDepth 20000 in
theorem ggX6_mid_X6_isLength : GoodIn wsX6_mid wsX6_isLength := goodIn_r _ [5, 6, 7, 8, 4, 9] (by decide +kernel) (by decide +kernel)
set_option maxRecDepth 20000 in
theorem gX6_mid_X6_isLength : GoodIn wsX6_mid (va_wsS RX6 221 yX6_isLength wsX6_isLength) := goodIn_app (goodIn_of _ (by decide +kernel)) ggX6_mid_X6_isLength
set_option maxRecDepth 20000 in
theorem ggX6_mid_X6_codes : GoodIn wsX6_mid wsX6_codes := goodIn_r _ [12] (by decide +kernel) (by decide +kernel)
set_option maxRecDepth 20000 in
theorem gX6_mid_X6_codes : GoodIn wsX6_mid (va_wsS RX6 224 yX6_codes wsX6_codes) := goodIn_app (goodIn_of _ (by decide +kernel)) ggX6_mid_X6_codes
set_option maxRecDepth 20000 in
theorem ggX6_mid_X6_fallen : GoodIn wsX6_mid wsX6_fallen := goodIn_r _ [16, 17, 18, 19, 20, 21, 4, 22, 23, 24, 25, 26, 27, 28, 29, 1, 30, 31, 32, 33, 34, 35, 36, 37, 38, 39, 40, 41, 42, 43, 44, 45, 46, 47, 48, 49, 50, 51, 52, 53, 54, 55, 56, 57, 58, 59, 60, 61, 62, 63, 64, 71, 72, 73, 74, 75, 76, 77, 78, 79, 80, 81, 82, 83, 84, 85, 86, 87, 88, 89, 90, 91, 92, 93, 94, 95, 96, 97] (by decide +kernel) (by decide +kernel)
set_option maxRecDepth 20000 in
theorem gX6_mid_X6_fallen : GoodIn wsX6_mid (wsV RX6 227 RX6 yX6_fallen wsX6_fallen) := goodIn_app (goodIn_of _ (by decide +kernel)) ggX6_mid_X6_fallen
set_option maxRecDepth 20000 in
theorem ggX6_mid_X6_fraction : GoodIn wsX6_mid wsX6_fraction := goodIn_r _ [68, 69, 70, 71, 72, 73, 74, 75, 76, 77, 78, 79, 80, 81, 82, 83, 84, 85, 86, 87, 88, 89, 90, 91, 92, 93, 94, 95, 96, 97] (by decide +kernel) (by decide +kernel)
set_option maxRecDepth 20000 in
theorem gX6_mid_X6_fraction : GoodIn wsX6_mid (wsV RX6 262 RX6 yX6_fraction wsX6_fraction) := goodIn_app (goodIn_of _ (by decide +kernel)) ggX6_mid_X6_fraction
theorem dX6_mid_0 : decode cX6_mid 0 = .ok (.iload_n 1, 1) := by decide +kernel
theorem dX6_mid_1 : decode cX6_mid 1 = .ok (.invokestatic 221, 3) := by decide +kernel
theorem dX6_mid_4 : decode cX6_mid 4 = .ok (.ifCond .ne 5, 3) := by decide +kernel
theorem dX6_mid_7 : decode cX6_mid 7 = .ok (.iconst (-1), 1) := by decide +kernel
theorem dX6_mid_8 : decode cX6_mid 8 = .ok (.ireturn, 1) := by decide +kernel
theorem dX6_mid_9 : decode cX6_mid 9 = .ok (.aload_n 0, 1) := by decide +kernel
theorem dX6_mid_10 : decode cX6_mid 10 = .ok (.getfield 131, 3) := by decide +kernel
theorem dX6_mid_13 : decode cX6_mid 13 = .ok (.ifCond .ne 6, 3) := by decide +kernel
theorem dX6_mid_16 : decode cX6_mid 16 = .ok (.bipush (-4), 2) := by decide +kernel
theorem dX6_mid_18 : decode cX6_mid 18 = .ok (.ireturn, 1) := by decide +kernel
theorem dX6_mid_19 : decode cX6_mid 19 = .ok (.iconst 0, 1) := by decide +kernel
theorem dX6_mid_20 : decode cX6_mid 20 = .ok (.istore_n 2, 1) := by decide +kernel
theorem dX6_mid_21 : decode cX6_mid 21 = .ok (.iconst 0, 1) := by decide +kernel
theorem dX6_mid_22 : decode cX6_mid 22 = .ok (.istore_n 3, 1) := by decide +kernel
theorem dX6_mid_23 : decode cX6_mid 23 = .ok (.iload_n 3, 1) := by decide +kernel
theorem dX6_mid_24 : decode cX6_mid 24 = .ok (.iload_n 1, 1) := by decide +kernel
theorem dX6_mid_25 : decode cX6_mid 25 = .ok (.invokestatic 224, 3) := by decide +kernel
theorem dX6_mid_28 : decode cX6_mid 28 = .ok (.if_icmp .ge 18, 3) := by decide +kernel
theorem dX6_mid_31 : decode cX6_mid 31 = .ok (.iload_n 2, 1) := by decide +kernel
theorem dX6_mid_32 : decode cX6_mid 32 = .ok (.aload_n 0, 1) := by decide +kernel
theorem dX6_mid_33 : decode cX6_mid 33 = .ok (.iload_n 1, 1) := by decide +kernel
theorem dX6_mid_34 : decode cX6_mid 34 = .ok (.iload_n 3, 1) := by decide +kernel
theorem dX6_mid_35 : decode cX6_mid 35 = .ok (.invokevirtual 227, 3) := by decide +kernel
theorem dX6_mid_38 : decode cX6_mid 38 = .ok (.iadd, 1) := by decide +kernel
theorem dX6_mid_39 : decode cX6_mid 39 = .ok (.istore_n 2, 1) := by decide +kernel
theorem dX6_mid_40 : decode cX6_mid 40 = .ok (.iinc 3 1, 3) := by decide +kernel
theorem dX6_mid_43 : decode cX6_mid 43 = .ok (.goto (-20), 3) := by decide +kernel
theorem dX6_mid_46 : decode cX6_mid 46 = .ok (.aload_n 0, 1) := by decide +kernel
theorem dX6_mid_47 : decode cX6_mid 47 = .ok (.iload_n 2, 1) := by decide +kernel
theorem dX6_mid_48 : decode cX6_mid 48 = .ok (.i2l, 1) := by decide +kernel
theorem dX6_mid_49 : decode cX6_mid 49 = .ok (.iload_n 1, 1) := by decide +kernel
theorem dX6_mid_50 : decode cX6_mid 50 = .ok (.invokestatic 224, 3) := by decide +kernel
theorem dX6_mid_53 : decode cX6_mid 53 = .ok (.i2l, 1) := by decide +kernel
theorem dX6_mid_54 : decode cX6_mid 54 = .ok (.invokevirtual 262, 3) := by decide +kernel
theorem dX6_mid_57 : decode cX6_mid 57 = .ok (.ireturn, 1) := by decide +kernel
set_option maxRecDepth 20000 in
theorem ggX6_lots_X6_in : GoodIn wsX6_lots wsX6_in := goodIn_r _ [13] (by decide +kernel) (by decide +kernel)
set_option maxRecDepth 20000 in
theorem gX6_lots_X6_in : GoodIn wsX6_lots (va_wsS RX6 75 yX6_in wsX6_in) := goodIn_app (goodIn_of _ (by decide +kernel)) ggX6_lots_X6_in
set_option maxRecDepth 20000 in
theorem ggX6_lots_X6_remember : GoodIn wsX6_lots wsX6_remember := goodIn_r _ [17, 7, 18, 4, 19, 20, 12, 21, 61, 62, 63, 64, 65, 66, 67, 68, 69, 70, 71, 72, 73, 74, 75, 76, 77, 78, 79, 80, 81, 82, 83, 84, 85, 86, 87] (by decide +kernel) (by decide +kernel)
set_option maxRecDepth 20000 in
theorem gX6_lots_X6_remember : GoodIn wsX6_lots (wsV RX6 189 RX6 yX6_remember wsX6_remember) := goodIn_app (goodIn_of _ (by decide +kernel)) ggX6_lots_X6_remember
set_option maxRecDepth 20000 in
theorem ggX6_lots_X6_plays : GoodIn wsX6_lots wsX6_plays := goodIn_r _ [25, 3, 26, 27, 28, 29, 12, 30, 31, 32, 33, 34, 35, 36, 37, 38, 39, 40, 41, 42, 43, 44, 45, 46, 47, 48, 49, 50, 51, 52, 53, 54, 55, 56, 57, 61, 62, 63, 64, 65, 66, 67, 68, 69, 70, 71, 72, 73, 74, 75, 76, 77, 78, 79, 80, 81, 82, 83, 84, 85, 86, 87] (by decide +kernel) (by decide +kernel)
set_option maxRecDepth 20000 in
theorem gX6_lots_X6_plays : GoodIn wsX6_lots (wsV RX6 192 RX6 yX6_plays wsX6_plays) := goodIn_app (goodIn_of _ (by decide +kernel)) ggX6_lots_X6_plays
set_option maxRecDepth 20000 in
theorem ggX6_lots_X6_bits : GoodIn wsX6_lots wsX6_bits := goodIn_r _ [60] (by decide +kernel) (by decide +kernel)
set_option maxRecDepth 20000 in
theorem gX6_lots_X6_bits : GoodIn wsX6_lots (va_wsS RX6 216 yX6_bits wsX6_bits) := goodIn_app (goodIn_of _ (by decide +kernel)) ggX6_lots_X6_bits
theorem dX6_lots_0 : decode cX6_lots 0 = .ok (.iload_n 1, 1) := by decide +kernel
theorem dX6_lots_1 : decode cX6_lots 1 = .ok (.i2l, 1) := by decide +kernel
theorem dX6_lots_2 : decode cX6_lots 2 = .ok (.lconst 1, 1) := by decide +kernel
theorem dX6_lots_3 : decode cX6_lots 3 = .ok (.ldc2_w 252, 3) := by decide +kernel
theorem dX6_lots_6 : decode cX6_lots 6 = .ok (.invokestatic 75, 3) := by decide +kernel
theorem dX6_lots_9 : decode cX6_lots 9 = .ok (.ifCond .eq 15, 3) := by decide +kernel
theorem dX6_lots_12 : decode cX6_lots 12 = .ok (.iload_n 2, 1) := by decide +kernel
theorem dX6_lots_13 : decode cX6_lots 13 = .ok (.i2l, 1) := by decide +kernel
theorem dX6_lots_14 : decode cX6_lots 14 = .ok (.lconst 1, 1) := by decide +kernel
theorem dX6_lots_15 : decode cX6_lots 15 = .ok (.ldc2_w 266, 3) := by decide +kernel
theorem dX6_lots_18 : decode cX6_lots 18 = .ok (.invokestatic 75, 3) := by decide +kernel
theorem dX6_lots_21 : decode cX6_lots 21 = .ok (.ifCond .ne 5, 3) := by decide +kernel
theorem dX6_lots_24 : decode cX6_lots 24 = .ok (.iconst (-1), 1) := by decide +kernel
theorem dX6_lots_25 : decode cX6_lots 25 = .ok (.ireturn, 1) := by decide +kernel
theorem dX6_lots_26 : decode cX6_lots 26 = .ok (.aload_n 0, 1) := by decide +kernel
theorem dX6_lots_27 : decode cX6_lots 27 = .ok (.getfield 131, 3) := by decide +kernel
theorem dX6_lots_30 : decode cX6_lots 30 = .ok (.ifCond .ne 6, 3) := by decide +kernel
theorem dX6_lots_33 : decode cX6_lots 33 = .ok (.bipush (-4), 2) := by decide +kernel
theorem dX6_lots_35 : decode cX6_lots 35 = .ok (.ireturn, 1) := by decide +kernel
theorem dX6_lots_36 : decode cX6_lots 36 = .ok (.aload_n 0, 1) := by decide +kernel
theorem dX6_lots_37 : decode cX6_lots 37 = .ok (.getfield 137, 3) := by decide +kernel
theorem dX6_lots_40 : decode cX6_lots 40 = .ok (.iload_n 1, 1) := by decide +kernel
theorem dX6_lots_41 : decode cX6_lots 41 = .ok (.iadd, 1) := by decide +kernel
theorem dX6_lots_42 : decode cX6_lots 42 = .ok (.bipush 40, 2) := by decide +kernel
theorem dX6_lots_44 : decode cX6_lots 44 = .ok (.if_icmp .le 6, 3) := by decide +kernel
theorem dX6_lots_47 : decode cX6_lots 47 = .ok (.bipush (-2), 2) := by decide +kernel
theorem dX6_lots_49 : decode cX6_lots 49 = .ok (.ireturn, 1) := by decide +kernel
theorem dX6_lots_50 : decode cX6_lots 50 = .ok (.iload_n 2, 1) := by decide +kernel
theorem dX6_lots_51 : decode cX6_lots 51 = .ok (.i2l, 1) := by decide +kernel
theorem dX6_lots_52 : decode cX6_lots 52 = .ok (.lstore_n 3, 1) := by decide +kernel
theorem dX6_lots_53 : decode cX6_lots 53 = .ok (.iconst 0, 1) := by decide +kernel
theorem dX6_lots_54 : decode cX6_lots 54 = .ok (.istore 5, 2) := by decide +kernel
theorem dX6_lots_56 : decode cX6_lots 56 = .ok (.iconst 0, 1) := by decide +kernel
theorem dX6_lots_57 : decode cX6_lots 57 = .ok (.istore 6, 2) := by decide +kernel
theorem dX6_lots_59 : decode cX6_lots 59 = .ok (.iload 6, 2) := by decide +kernel
theorem dX6_lots_61 : decode cX6_lots 61 = .ok (.iload_n 1, 1) := by decide +kernel
theorem dX6_lots_62 : decode cX6_lots 62 = .ok (.if_icmp .ge 49, 3) := by decide +kernel
theorem dX6_lots_65 : decode cX6_lots 65 = .ok (.ldc2_w 268, 3) := by decide +kernel
theorem dX6_lots_68 : decode cX6_lots 68 = .ok (.lload_n 3, 1) := by decide +kernel
theorem dX6_lots_69 : decode cX6_lots 69 = .ok (.lmul, 1) := by decide +kernel
theorem dX6_lots_70 : decode cX6_lots 70 = .ok (.ldc2_w 270, 3) := by decide +kernel
theorem dX6_lots_73 : decode cX6_lots 73 = .ok (.lrem, 1) := by decide +kernel
theorem dX6_lots_74 : decode cX6_lots 74 = .ok (.lstore_n 3, 1) := by decide +kernel
theorem dX6_lots_75 : decode cX6_lots 75 = .ok (.aload_n 0, 1) := by decide +kernel
theorem dX6_lots_76 : decode cX6_lots 76 = .ok (.invokevirtual 189, 3) := by decide +kernel
theorem dX6_lots_79 : decode cX6_lots 79 = .ok (.iload 5, 2) := by decide +kernel
theorem dX6_lots_81 : decode cX6_lots 81 = .ok (.aload_n 0, 1) := by decide +kernel
theorem dX6_lots_82 : decode cX6_lots 82 = .ok (.aload_n 0, 1) := by decide +kernel
theorem dX6_lots_83 : decode cX6_lots 83 = .ok (.getfield 31, 3) := by decide +kernel
theorem dX6_lots_86 : decode cX6_lots 86 = .ok (.lload_n 3, 1) := by decide +kernel
theorem dX6_lots_87 : decode cX6_lots 87 = .ok (.ldc2_w 272, 3) := by decide +kernel
theorem dX6_lots_90 : decode cX6_lots 90 = .ok (.ldiv, 1) := by decide +kernel
theorem dX6_lots_91 : decode cX6_lots 91 = .ok (.ldc2_w 171, 3) := by decide +kernel
theorem dX6_lots_94 : decode cX6_lots 94 = .ok (.lrem, 1) := by decide +kernel
theorem dX6_lots_95 : decode cX6_lots 95 = .ok (.l2i, 1) := by decide +kernel
theorem dX6_lots_96 : decode cX6_lots 96 = .ok (.invokevirtual 192, 3) := by decide +kernel
theorem dX6_lots_99 : decode cX6_lots 99 = .ok (.invokestatic 216, 3) := by decide +kernel
theorem dX6_lots_102 : decode cX6_lots 102 = .ok (.iadd, 1) := by decide +kernel
theorem dX6_lots_103 : decode cX6_lots 103 = .ok (.istore 5, 2) := by decide +kernel
theorem dX6_lots_105 : decode cX6_lots 105 = .ok (.iinc 6 1, 3) := by decide +kernel
theorem dX6_lots_108 : decode cX6_lots 108 = .ok (.goto (-49), 3) := by decide +kernel
theorem dX6_lots_111 : decode cX6_lots 111 = .ok (.iload 5, 2) := by decide +kernel
theorem dX6_lots_113 : decode cX6_lots 113 = .ok (.ireturn, 1) := by decide +kernel
theorem dX6_asked_0 : decode cX6_asked 0 = .ok (.aload_n 0, 1) := by decide +kernel
theorem dX6_asked_1 : decode cX6_asked 1 = .ok (.getfield 70, 3) := by decide +kernel
theorem dX6_asked_4 : decode cX6_asked 4 = .ok (.ireturn, 1) := by decide +kernel
theorem dX6_upper_0 : decode cX6_upper 0 = .ok (.aload_n 0, 1) := by decide +kernel
theorem dX6_upper_1 : decode cX6_upper 1 = .ok (.getfield 230, 3) := by decide +kernel
theorem dX6_upper_4 : decode cX6_upper 4 = .ok (.lreturn, 1) := by decide +kernel
theorem dX6_lower_0 : decode cX6_lower 0 = .ok (.aload_n 0, 1) := by decide +kernel
theorem dX6_lower_1 : decode cX6_lower 1 = .ok (.getfield 44, 3) := by decide +kernel
theorem dX6_lower_4 : decode cX6_lower 4 = .ok (.lreturn, 1) := by decide +kernel
set_option maxRecDepth 20000 in
theorem ggX6_kindsOf_X6_isOf : GoodIn wsX6_kindsOf wsX6_isOf := goodIn_r _ [6] (by decide +kernel) (by decide +kernel)
set_option maxRecDepth 20000 in
theorem gX6_kindsOf_X6_isOf : GoodIn wsX6_kindsOf (va_wsS RX6 144 yX6_isOf wsX6_isOf) := goodIn_app (goodIn_of _ (by decide +kernel)) ggX6_kindsOf_X6_isOf
theorem dX6_kindsOf_0 : decode cX6_kindsOf 0 = .ok (.iconst 0, 1) := by decide +kernel
theorem dX6_kindsOf_1 : decode cX6_kindsOf 1 = .ok (.istore_n 2, 1) := by decide +kernel
theorem dX6_kindsOf_2 : decode cX6_kindsOf 2 = .ok (.iconst 0, 1) := by decide +kernel
theorem dX6_kindsOf_3 : decode cX6_kindsOf 3 = .ok (.istore_n 3, 1) := by decide +kernel
theorem dX6_kindsOf_4 : decode cX6_kindsOf 4 = .ok (.iload_n 3, 1) := by decide +kernel
theorem dX6_kindsOf_5 : decode cX6_kindsOf 5 = .ok (.aload_n 0, 1) := by decide +kernel
theorem dX6_kindsOf_6 : decode cX6_kindsOf 6 = .ok (.getfield 131, 3) := by decide +kernel
theorem dX6_kindsOf_9 : decode cX6_kindsOf 9 = .ok (.if_icmp .ge 30, 3) := by decide +kernel
theorem dX6_kindsOf_12 : decode cX6_kindsOf 12 = .ok (.iload_n 2, 1) := by decide +kernel
theorem dX6_kindsOf_13 : decode cX6_kindsOf 13 = .ok (.aload_n 0, 1) := by decide +kernel
theorem dX6_kindsOf_14 : decode cX6_kindsOf 14 = .ok (.getfield 25, 3) := by decide +kernel
theorem dX6_kindsOf_17 : decode cX6_kindsOf 17 = .ok (.iload_n 3, 1) := by decide +kernel
theorem dX6_kindsOf_18 : decode cX6_kindsOf 18 = .ok (.iaload, 1) := by decide +kernel
theorem dX6_kindsOf_19 : decode cX6_kindsOf 19 = .ok (.iload_n 1, 1) := by decide +kernel
theorem dX6_kindsOf_20 : decode cX6_kindsOf 20 = .ok (.invokestatic 144, 3) := by decide +kernel
theorem dX6_kindsOf_23 : decode cX6_kindsOf 23 = .ok (.ifCond .eq 7, 3) := by decide +kernel
theorem dX6_kindsOf_26 : decode cX6_kindsOf 26 = .ok (.iconst 1, 1) := by decide +kernel
theorem dX6_kindsOf_27 : decode cX6_kindsOf 27 = .ok (.goto 4, 3) := by decide +kernel
theorem dX6_kindsOf_30 : decode cX6_kindsOf 30 = .ok (.iconst 0, 1) := by decide +kernel
theorem dX6_kindsOf_31 : decode cX6_kindsOf 31 = .ok (.iadd, 1) := by decide +kernel
theorem dX6_kindsOf_32 : decode cX6_kindsOf 32 = .ok (.istore_n 2, 1) := by decide +kernel
theorem dX6_kindsOf_33 : decode cX6_kindsOf 33 = .ok (.iinc 3 1, 3) := by decide +kernel
theorem dX6_kindsOf_36 : decode cX6_kindsOf 36 = .ok (.goto (-32), 3) := by decide +kernel
theorem dX6_kindsOf_39 : decode cX6_kindsOf 39 = .ok (.iload_n 2, 1) := by decide +kernel
theorem dX6_kindsOf_40 : decode cX6_kindsOf 40 = .ok (.ireturn, 1) := by decide +kernel
set_option maxRecDepth 20000 in
theorem ggX6_counted_X6_inside : GoodIn wsX6_counted wsX6_inside := goodIn_r _ [12, 13, 14, 15, 11, 16, 4, 31, 32, 33, 34, 35, 36, 37, 38, 39, 40, 41, 42, 43, 44, 45, 46, 47, 48, 49, 50, 51, 52, 53, 54, 55, 56, 57] (by decide +kernel) (by decide +kernel)
set_option maxRecDepth 20000 in
theorem gX6_counted_X6_inside : GoodIn wsX6_counted (wsV RX6 154 RX6 yX6_inside wsX6_inside) := goodIn_app (goodIn_of _ (by decide +kernel)) ggX6_counted_X6_inside
set_option maxRecDepth 20000 in
theorem ggX6_counted_X6_bits : GoodIn wsX6_counted wsX6_bits := goodIn_r _ [19] (by decide +kernel) (by decide +kernel)
set_option maxRecDepth 20000 in
theorem gX6_counted_X6_bits : GoodIn wsX6_counted (va_wsS RX6 216 yX6_bits wsX6_bits) := goodIn_app (goodIn_of _ (by decide +kernel)) ggX6_counted_X6_bits
set_option maxRecDepth 20000 in
theorem ggX6_counted_X6_sumOf : GoodIn wsX6_counted wsX6_sumOf := goodIn_r _ [22] (by decide +kernel) (by decide +kernel)
set_option maxRecDepth 20000 in
theorem gX6_counted_X6_sumOf : GoodIn wsX6_counted (va_wsS RX6 207 yX6_sumOf wsX6_sumOf) := goodIn_app (goodIn_of _ (by decide +kernel)) ggX6_counted_X6_sumOf
set_option maxRecDepth 20000 in
theorem ggX6_counted_X6_kindsOf : GoodIn wsX6_counted wsX6_kindsOf := goodIn_r _ [26, 4, 27, 28, 29, 11, 30, 31, 32, 33, 34, 35, 36, 37, 38, 39, 40, 41, 42, 43, 44, 45, 46, 47, 48, 49, 50, 51, 52, 53, 54, 55, 56, 57] (by decide +kernel) (by decide +kernel)
set_option maxRecDepth 20000 in
theorem gX6_counted_X6_kindsOf : GoodIn wsX6_counted (wsV RX6 274 RX6 yX6_kindsOf wsX6_kindsOf) := goodIn_app (goodIn_of _ (by decide +kernel)) ggX6_counted_X6_kindsOf
theorem dX6_counted_0 : decode cX6_counted 0 = .ok (.iconst 0, 1) := by decide +kernel
theorem dX6_counted_1 : decode cX6_counted 1 = .ok (.istore_n 2, 1) := by decide +kernel
theorem dX6_counted_2 : decode cX6_counted 2 = .ok (.iconst 0, 1) := by decide +kernel
theorem dX6_counted_3 : decode cX6_counted 3 = .ok (.istore_n 3, 1) := by decide +kernel
theorem dX6_counted_4 : decode cX6_counted 4 = .ok (.iload_n 3, 1) := by decide +kernel
theorem dX6_counted_5 : decode cX6_counted 5 = .ok (.bipush 6, 2) := by decide +kernel
theorem dX6_counted_7 : decode cX6_counted 7 = .ok (.if_icmp .ge 32, 3) := by decide +kernel
theorem dX6_counted_10 : decode cX6_counted 10 = .ok (.iload_n 1, 1) := by decide +kernel
theorem dX6_counted_11 : decode cX6_counted 11 = .ok (.bipush 7, 2) := by decide +kernel
theorem dX6_counted_13 : decode cX6_counted 13 = .ok (.if_icmp .ne 26, 3) := by decide +kernel
theorem dX6_counted_16 : decode cX6_counted 16 = .ok (.iload_n 2, 1) := by decide +kernel
theorem dX6_counted_17 : decode cX6_counted 17 = .ok (.aload_n 0, 1) := by decide +kernel
theorem dX6_counted_18 : decode cX6_counted 18 = .ok (.getfield 7, 3) := by decide +kernel
theorem dX6_counted_21 : decode cX6_counted 21 = .ok (.iload_n 3, 1) := by decide +kernel
theorem dX6_counted_22 : decode cX6_counted 22 = .ok (.iaload, 1) := by decide +kernel
theorem dX6_counted_23 : decode cX6_counted 23 = .ok (.ifCond .ge 7, 3) := by decide +kernel
theorem dX6_counted_26 : decode cX6_counted 26 = .ok (.iconst 0, 1) := by decide +kernel
theorem dX6_counted_27 : decode cX6_counted 27 = .ok (.goto 4, 3) := by decide +kernel
theorem dX6_counted_30 : decode cX6_counted 30 = .ok (.iconst 1, 1) := by decide +kernel
theorem dX6_counted_31 : decode cX6_counted 31 = .ok (.iadd, 1) := by decide +kernel
theorem dX6_counted_32 : decode cX6_counted 32 = .ok (.istore_n 2, 1) := by decide +kernel
theorem dX6_counted_33 : decode cX6_counted 33 = .ok (.iinc 3 1, 3) := by decide +kernel
theorem dX6_counted_36 : decode cX6_counted 36 = .ok (.goto (-32), 3) := by decide +kernel
theorem dX6_counted_39 : decode cX6_counted 39 = .ok (.iconst 0, 1) := by decide +kernel
theorem dX6_counted_40 : decode cX6_counted 40 = .ok (.istore_n 3, 1) := by decide +kernel
theorem dX6_counted_41 : decode cX6_counted 41 = .ok (.iload_n 3, 1) := by decide +kernel
theorem dX6_counted_42 : decode cX6_counted 42 = .ok (.iconst 4, 1) := by decide +kernel
theorem dX6_counted_43 : decode cX6_counted 43 = .ok (.if_icmp .ge 32, 3) := by decide +kernel
theorem dX6_counted_46 : decode cX6_counted 46 = .ok (.iload_n 1, 1) := by decide +kernel
theorem dX6_counted_47 : decode cX6_counted 47 = .ok (.bipush 8, 2) := by decide +kernel
theorem dX6_counted_49 : decode cX6_counted 49 = .ok (.if_icmp .ne 26, 3) := by decide +kernel
theorem dX6_counted_52 : decode cX6_counted 52 = .ok (.iload_n 2, 1) := by decide +kernel
theorem dX6_counted_53 : decode cX6_counted 53 = .ok (.aload_n 0, 1) := by decide +kernel
theorem dX6_counted_54 : decode cX6_counted 54 = .ok (.getfield 16, 3) := by decide +kernel
theorem dX6_counted_57 : decode cX6_counted 57 = .ok (.iload_n 3, 1) := by decide +kernel
theorem dX6_counted_58 : decode cX6_counted 58 = .ok (.iaload, 1) := by decide +kernel
theorem dX6_counted_59 : decode cX6_counted 59 = .ok (.ifCond .ge 7, 3) := by decide +kernel
theorem dX6_counted_62 : decode cX6_counted 62 = .ok (.iconst 0, 1) := by decide +kernel
theorem dX6_counted_63 : decode cX6_counted 63 = .ok (.goto 4, 3) := by decide +kernel
theorem dX6_counted_66 : decode cX6_counted 66 = .ok (.iconst 1, 1) := by decide +kernel
theorem dX6_counted_67 : decode cX6_counted 67 = .ok (.iadd, 1) := by decide +kernel
theorem dX6_counted_68 : decode cX6_counted 68 = .ok (.istore_n 2, 1) := by decide +kernel
theorem dX6_counted_69 : decode cX6_counted 69 = .ok (.iinc 3 1, 3) := by decide +kernel
theorem dX6_counted_72 : decode cX6_counted 72 = .ok (.goto (-31), 3) := by decide +kernel
theorem dX6_counted_75 : decode cX6_counted 75 = .ok (.iconst 0, 1) := by decide +kernel
theorem dX6_counted_76 : decode cX6_counted 76 = .ok (.istore_n 3, 1) := by decide +kernel
theorem dX6_counted_77 : decode cX6_counted 77 = .ok (.iload_n 3, 1) := by decide +kernel
theorem dX6_counted_78 : decode cX6_counted 78 = .ok (.iconst 3, 1) := by decide +kernel
theorem dX6_counted_79 : decode cX6_counted 79 = .ok (.if_icmp .ge 32, 3) := by decide +kernel
theorem dX6_counted_82 : decode cX6_counted 82 = .ok (.iload_n 1, 1) := by decide +kernel
theorem dX6_counted_83 : decode cX6_counted 83 = .ok (.bipush 9, 2) := by decide +kernel
theorem dX6_counted_85 : decode cX6_counted 85 = .ok (.if_icmp .ne 26, 3) := by decide +kernel
theorem dX6_counted_88 : decode cX6_counted 88 = .ok (.iload_n 2, 1) := by decide +kernel
theorem dX6_counted_89 : decode cX6_counted 89 = .ok (.aload_n 0, 1) := by decide +kernel
theorem dX6_counted_90 : decode cX6_counted 90 = .ok (.getfield 40, 3) := by decide +kernel
theorem dX6_counted_93 : decode cX6_counted 93 = .ok (.iload_n 3, 1) := by decide +kernel
theorem dX6_counted_94 : decode cX6_counted 94 = .ok (.baload, 1) := by decide +kernel
theorem dX6_counted_95 : decode cX6_counted 95 = .ok (.ifCond .eq 7, 3) := by decide +kernel
theorem dX6_counted_98 : decode cX6_counted 98 = .ok (.iconst 1, 1) := by decide +kernel
theorem dX6_counted_99 : decode cX6_counted 99 = .ok (.goto 4, 3) := by decide +kernel
theorem dX6_counted_102 : decode cX6_counted 102 = .ok (.iconst 0, 1) := by decide +kernel
theorem dX6_counted_103 : decode cX6_counted 103 = .ok (.iadd, 1) := by decide +kernel
theorem dX6_counted_104 : decode cX6_counted 104 = .ok (.istore_n 2, 1) := by decide +kernel
theorem dX6_counted_105 : decode cX6_counted 105 = .ok (.iinc 3 1, 3) := by decide +kernel
theorem dX6_counted_108 : decode cX6_counted 108 = .ok (.goto (-31), 3) := by decide +kernel
theorem dX6_counted_111 : decode cX6_counted 111 = .ok (.iload_n 1, 1) := by decide +kernel
theorem dX6_counted_112 : decode cX6_counted 112 = .ok (.tableswitch 91 0 6 #[44, 49, 54, 59, 71, 79, 85], 44) := by decide +kernel
theorem dX6_counted_156 : decode cX6_counted 156 = .ok (.aload_n 0, 1) := by decide +kernel
theorem dX6_counted_157 : decode cX6_counted 157 = .ok (.getfield 131, 3) := by decide +kernel
theorem dX6_counted_160 : decode cX6_counted 160 = .ok (.ireturn, 1) := by decide +kernel
theorem dX6_counted_161 : decode cX6_counted 161 = .ok (.aload_n 0, 1) := by decide +kernel
theorem dX6_counted_162 : decode cX6_counted 162 = .ok (.getfield 134, 3) := by decide +kernel
theorem dX6_counted_165 : decode cX6_counted 165 = .ok (.ireturn, 1) := by decide +kernel
theorem dX6_counted_166 : decode cX6_counted 166 = .ok (.aload_n 0, 1) := by decide +kernel
theorem dX6_counted_167 : decode cX6_counted 167 = .ok (.getfield 137, 3) := by decide +kernel
theorem dX6_counted_170 : decode cX6_counted 170 = .ok (.ireturn, 1) := by decide +kernel
theorem dX6_counted_171 : decode cX6_counted 171 = .ok (.aload_n 0, 1) := by decide +kernel
theorem dX6_counted_172 : decode cX6_counted 172 = .ok (.aload_n 0, 1) := by decide +kernel
theorem dX6_counted_173 : decode cX6_counted 173 = .ok (.getfield 31, 3) := by decide +kernel
theorem dX6_counted_176 : decode cX6_counted 176 = .ok (.invokevirtual 154, 3) := by decide +kernel
theorem dX6_counted_179 : decode cX6_counted 179 = .ok (.invokestatic 216, 3) := by decide +kernel
theorem dX6_counted_182 : decode cX6_counted 182 = .ok (.ireturn, 1) := by decide +kernel
theorem dX6_counted_183 : decode cX6_counted 183 = .ok (.aload_n 0, 1) := by decide +kernel
theorem dX6_counted_184 : decode cX6_counted 184 = .ok (.getfield 31, 3) := by decide +kernel
theorem dX6_counted_187 : decode cX6_counted 187 = .ok (.invokestatic 207, 3) := by decide +kernel
theorem dX6_counted_190 : decode cX6_counted 190 = .ok (.ireturn, 1) := by decide +kernel
theorem dX6_counted_191 : decode cX6_counted 191 = .ok (.aload_n 0, 1) := by decide +kernel
theorem dX6_counted_192 : decode cX6_counted 192 = .ok (.iconst 1, 1) := by decide +kernel
theorem dX6_counted_193 : decode cX6_counted 193 = .ok (.invokevirtual 274, 3) := by decide +kernel
theorem dX6_counted_196 : decode cX6_counted 196 = .ok (.ireturn, 1) := by decide +kernel
theorem dX6_counted_197 : decode cX6_counted 197 = .ok (.aload_n 0, 1) := by decide +kernel
theorem dX6_counted_198 : decode cX6_counted 198 = .ok (.iconst 2, 1) := by decide +kernel
theorem dX6_counted_199 : decode cX6_counted 199 = .ok (.invokevirtual 274, 3) := by decide +kernel
theorem dX6_counted_202 : decode cX6_counted 202 = .ok (.ireturn, 1) := by decide +kernel
theorem dX6_counted_203 : decode cX6_counted 203 = .ok (.iload_n 2, 1) := by decide +kernel
theorem dX6_counted_204 : decode cX6_counted 204 = .ok (.ireturn, 1) := by decide +kernel
set_option maxRecDepth 20000 in
theorem ggX6_count_X6_in : GoodIn wsX6_count wsX6_in := goodIn_r _ [5] (by decide +kernel) (by decide +kernel)
set_option maxRecDepth 20000 in
theorem gX6_count_X6_in : GoodIn wsX6_count (va_wsS RX6 75 yX6_in wsX6_in) := goodIn_app (goodIn_of _ (by decide +kernel)) ggX6_count_X6_in
set_option maxRecDepth 20000 in
theorem ggX6_count_X6_counted : GoodIn wsX6_count wsX6_counted := goodIn_r _ [9, 10, 11, 12, 13, 14, 15, 16, 17, 18, 19, 4, 20, 21, 22, 23, 24, 25, 26, 27, 28, 29, 30, 31, 32, 33, 34, 35, 36, 37, 38, 39, 40, 41, 42, 43, 44, 45, 46, 47, 48, 49, 50, 51, 52, 53, 54, 55, 56, 57, 58, 59, 60, 61, 62, 63, 64, 65] (by decide +kernel) (by decide +kernel)
set_option maxRecDepth 20000 in
theorem gX6_count_X6_counted : GoodIn wsX6_count (wsV RX6 279 RX6 yX6_counted wsX6_counted) := goodIn_app (goodIn_of _ (by decide +kernel)) ggX6_count_X6_counted
theorem dX6_count_0 : decode cX6_count 0 = .ok (.iload_n 1, 1) := by decide +kernel
theorem dX6_count_1 : decode cX6_count 1 = .ok (.i2l, 1) := by decide +kernel
theorem dX6_count_2 : decode cX6_count 2 = .ok (.lconst 0, 1) := by decide +kernel
theorem dX6_count_3 : decode cX6_count 3 = .ok (.ldc2_w 277, 3) := by decide +kernel
theorem dX6_count_6 : decode cX6_count 6 = .ok (.invokestatic 75, 3) := by decide +kernel
theorem dX6_count_9 : decode cX6_count 9 = .ok (.ifCond .eq 11, 3) := by decide +kernel
theorem dX6_count_12 : decode cX6_count 12 = .ok (.aload_n 0, 1) := by decide +kernel
theorem dX6_count_13 : decode cX6_count 13 = .ok (.iload_n 1, 1) := by decide +kernel
theorem dX6_count_14 : decode cX6_count 14 = .ok (.invokevirtual 279, 3) := by decide +kernel
theorem dX6_count_17 : decode cX6_count 17 = .ok (.goto 4, 3) := by decide +kernel
theorem dX6_count_20 : decode cX6_count 20 = .ok (.iconst (-1), 1) := by decide +kernel
theorem dX6_count_21 : decode cX6_count 21 = .ok (.ireturn, 1) := by decide +kernel
theorem dX6_finding_0 : decode cX6_finding 0 = .ok (.aload_n 0, 1) := by decide +kernel
theorem dX6_finding_1 : decode cX6_finding 1 = .ok (.getfield 66, 3) := by decide +kernel
theorem dX6_finding_4 : decode cX6_finding 4 = .ok (.ireturn, 1) := by decide +kernel
set_option maxRecDepth 20000 in
theorem ggX6_findings_X6_in : GoodIn wsX6_findings wsX6_in := goodIn_r _ [6] (by decide +kernel) (by decide +kernel)
set_option maxRecDepth 20000 in
theorem gX6_findings_X6_in : GoodIn wsX6_findings (va_wsS RX6 75 yX6_in wsX6_in) := goodIn_app (goodIn_of _ (by decide +kernel)) ggX6_findings_X6_in
theorem dX6_findings_0 : decode cX6_findings 0 = .ok (.iload_n 1, 1) := by decide +kernel
theorem dX6_findings_1 : decode cX6_findings 1 = .ok (.i2l, 1) := by decide +kernel
theorem dX6_findings_2 : decode cX6_findings 2 = .ok (.lconst 1, 1) := by decide +kernel
theorem dX6_findings_3 : decode cX6_findings 3 = .ok (.ldc2_w 73, 3) := by decide +kernel
theorem dX6_findings_6 : decode cX6_findings 6 = .ok (.invokestatic 75, 3) := by decide +kernel
theorem dX6_findings_9 : decode cX6_findings 9 = .ok (.ifCond .eq 12, 3) := by decide +kernel
theorem dX6_findings_12 : decode cX6_findings 12 = .ok (.aload_n 0, 1) := by decide +kernel
theorem dX6_findings_13 : decode cX6_findings 13 = .ok (.getfield 48, 3) := by decide +kernel
theorem dX6_findings_16 : decode cX6_findings 16 = .ok (.iload_n 1, 1) := by decide +kernel
theorem dX6_findings_17 : decode cX6_findings 17 = .ok (.iaload, 1) := by decide +kernel
theorem dX6_findings_18 : decode cX6_findings 18 = .ok (.goto 4, 3) := by decide +kernel
theorem dX6_findings_21 : decode cX6_findings 21 = .ok (.iconst (-1), 1) := by decide +kernel
theorem dX6_findings_22 : decode cX6_findings 22 = .ok (.ireturn, 1) := by decide +kernel
set_option maxRecDepth 20000 in
theorem ggX6_digest_X6_counted : GoodIn wsX6_digest wsX6_counted := goodIn_r _ [15, 7, 9, 5, 4, 16, 17, 18, 19, 20, 21, 14, 22, 23, 24, 25, 26, 27, 28, 29, 30, 31, 32, 33, 34, 35, 36, 37, 38, 39, 40, 53, 54, 55, 56, 57, 58, 59, 60, 61, 62, 63, 64, 65, 66, 67, 68, 69, 70, 71, 72, 73, 74, 75, 76, 77, 78, 79] (by decide +kernel) (by decide +kernel)
set_option maxRecDepth 20000 in
theorem gX6_digest_X6_counted : GoodIn wsX6_digest (wsV RX6 279 RX6 yX6_counted wsX6_counted) := goodIn_app (goodIn_of _ (by decide +kernel)) ggX6_digest_X6_counted
set_option maxRecDepth 20000 in
theorem ggX6_digest_X6_guestOf : GoodIn wsX6_digest wsX6_guestOf := goodIn_r _ [44, 37, 18, 45, 46, 47, 14, 48, 19, 20, 21, 22, 23, 24, 25, 26, 4, 49, 50, 51, 52, 53, 54, 55, 56, 57, 58, 59, 60, 61, 62, 63, 64, 65, 66, 67, 68, 69, 70, 71, 72, 73, 74, 75, 76, 77, 78, 79] (by decide +kernel) (by decide +kernel)
set_option maxRecDepth 20000 in
theorem gX6_digest_X6_guestOf : GoodIn wsX6_digest (wsV RX6 173 RX6 yX6_guestOf wsX6_guestOf) := goodIn_app (goodIn_of _ (by decide +kernel)) ggX6_digest_X6_guestOf
theorem dX6_digest_0 : decode cX6_digest 0 = .ok (.ldc2_w 282, 3) := by decide +kernel
theorem dX6_digest_3 : decode cX6_digest 3 = .ok (.lstore_n 1, 1) := by decide +kernel
theorem dX6_digest_4 : decode cX6_digest 4 = .ok (.iconst 0, 1) := by decide +kernel
theorem dX6_digest_5 : decode cX6_digest 5 = .ok (.istore_n 3, 1) := by decide +kernel
theorem dX6_digest_6 : decode cX6_digest 6 = .ok (.iload_n 3, 1) := by decide +kernel
theorem dX6_digest_7 : decode cX6_digest 7 = .ok (.bipush 10, 2) := by decide +kernel
theorem dX6_digest_9 : decode cX6_digest 9 = .ok (.if_icmp .ge 22, 3) := by decide +kernel
theorem dX6_digest_12 : decode cX6_digest 12 = .ok (.ldc2_w 284, 3) := by decide +kernel
theorem dX6_digest_15 : decode cX6_digest 15 = .ok (.lload_n 1, 1) := by decide +kernel
theorem dX6_digest_16 : decode cX6_digest 16 = .ok (.lmul, 1) := by decide +kernel
theorem dX6_digest_17 : decode cX6_digest 17 = .ok (.aload_n 0, 1) := by decide +kernel
theorem dX6_digest_18 : decode cX6_digest 18 = .ok (.iload_n 3, 1) := by decide +kernel
theorem dX6_digest_19 : decode cX6_digest 19 = .ok (.invokevirtual 279, 3) := by decide +kernel
theorem dX6_digest_22 : decode cX6_digest 22 = .ok (.i2l, 1) := by decide +kernel
theorem dX6_digest_23 : decode cX6_digest 23 = .ok (.ladd, 1) := by decide +kernel
theorem dX6_digest_24 : decode cX6_digest 24 = .ok (.lstore_n 1, 1) := by decide +kernel
theorem dX6_digest_25 : decode cX6_digest 25 = .ok (.iinc 3 1, 3) := by decide +kernel
theorem dX6_digest_28 : decode cX6_digest 28 = .ok (.goto (-22), 3) := by decide +kernel
theorem dX6_digest_31 : decode cX6_digest 31 = .ok (.iconst 0, 1) := by decide +kernel
theorem dX6_digest_32 : decode cX6_digest 32 = .ok (.istore_n 3, 1) := by decide +kernel
theorem dX6_digest_33 : decode cX6_digest 33 = .ok (.iload_n 3, 1) := by decide +kernel
theorem dX6_digest_34 : decode cX6_digest 34 = .ok (.iconst 4, 1) := by decide +kernel
theorem dX6_digest_35 : decode cX6_digest 35 = .ok (.if_icmp .ge 23, 3) := by decide +kernel
theorem dX6_digest_38 : decode cX6_digest 38 = .ok (.ldc2_w 284, 3) := by decide +kernel
theorem dX6_digest_41 : decode cX6_digest 41 = .ok (.lload_n 1, 1) := by decide +kernel
theorem dX6_digest_42 : decode cX6_digest 42 = .ok (.lmul, 1) := by decide +kernel
theorem dX6_digest_43 : decode cX6_digest 43 = .ok (.aload_n 0, 1) := by decide +kernel
theorem dX6_digest_44 : decode cX6_digest 44 = .ok (.getfield 22, 3) := by decide +kernel
theorem dX6_digest_47 : decode cX6_digest 47 = .ok (.iload_n 3, 1) := by decide +kernel
theorem dX6_digest_48 : decode cX6_digest 48 = .ok (.iaload, 1) := by decide +kernel
theorem dX6_digest_49 : decode cX6_digest 49 = .ok (.i2l, 1) := by decide +kernel
theorem dX6_digest_50 : decode cX6_digest 50 = .ok (.ladd, 1) := by decide +kernel
theorem dX6_digest_51 : decode cX6_digest 51 = .ok (.lstore_n 1, 1) := by decide +kernel
theorem dX6_digest_52 : decode cX6_digest 52 = .ok (.iinc 3 1, 3) := by decide +kernel
theorem dX6_digest_55 : decode cX6_digest 55 = .ok (.goto (-22), 3) := by decide +kernel
theorem dX6_digest_58 : decode cX6_digest 58 = .ok (.iconst 0, 1) := by decide +kernel
theorem dX6_digest_59 : decode cX6_digest 59 = .ok (.istore_n 3, 1) := by decide +kernel
theorem dX6_digest_60 : decode cX6_digest 60 = .ok (.iload_n 3, 1) := by decide +kernel
theorem dX6_digest_61 : decode cX6_digest 61 = .ok (.aload_n 0, 1) := by decide +kernel
theorem dX6_digest_62 : decode cX6_digest 62 = .ok (.getfield 131, 3) := by decide +kernel
theorem dX6_digest_65 : decode cX6_digest 65 = .ok (.if_icmp .ge 39, 3) := by decide +kernel
theorem dX6_digest_68 : decode cX6_digest 68 = .ok (.iconst 0, 1) := by decide +kernel
theorem dX6_digest_69 : decode cX6_digest 69 = .ok (.istore 4, 2) := by decide +kernel
theorem dX6_digest_71 : decode cX6_digest 71 = .ok (.iload 4, 2) := by decide +kernel
theorem dX6_digest_73 : decode cX6_digest 73 = .ok (.iconst 5, 1) := by decide +kernel
theorem dX6_digest_74 : decode cX6_digest 74 = .ok (.if_icmp .ge 24, 3) := by decide +kernel
theorem dX6_digest_77 : decode cX6_digest 77 = .ok (.ldc2_w 284, 3) := by decide +kernel
theorem dX6_digest_80 : decode cX6_digest 80 = .ok (.lload_n 1, 1) := by decide +kernel
theorem dX6_digest_81 : decode cX6_digest 81 = .ok (.lmul, 1) := by decide +kernel
theorem dX6_digest_82 : decode cX6_digest 82 = .ok (.aload_n 0, 1) := by decide +kernel
theorem dX6_digest_83 : decode cX6_digest 83 = .ok (.iload_n 3, 1) := by decide +kernel
theorem dX6_digest_84 : decode cX6_digest 84 = .ok (.iload 4, 2) := by decide +kernel
theorem dX6_digest_86 : decode cX6_digest 86 = .ok (.invokevirtual 173, 3) := by decide +kernel
theorem dX6_digest_89 : decode cX6_digest 89 = .ok (.i2l, 1) := by decide +kernel
theorem dX6_digest_90 : decode cX6_digest 90 = .ok (.ladd, 1) := by decide +kernel
theorem dX6_digest_91 : decode cX6_digest 91 = .ok (.lstore_n 1, 1) := by decide +kernel
theorem dX6_digest_92 : decode cX6_digest 92 = .ok (.iinc 4 1, 3) := by decide +kernel
theorem dX6_digest_95 : decode cX6_digest 95 = .ok (.goto (-24), 3) := by decide +kernel
theorem dX6_digest_98 : decode cX6_digest 98 = .ok (.iinc 3 1, 3) := by decide +kernel
theorem dX6_digest_101 : decode cX6_digest 101 = .ok (.goto (-41), 3) := by decide +kernel
theorem dX6_digest_104 : decode cX6_digest 104 = .ok (.iconst 0, 1) := by decide +kernel
theorem dX6_digest_105 : decode cX6_digest 105 = .ok (.istore_n 3, 1) := by decide +kernel
theorem dX6_digest_106 : decode cX6_digest 106 = .ok (.iload_n 3, 1) := by decide +kernel
theorem dX6_digest_107 : decode cX6_digest 107 = .ok (.iconst 3, 1) := by decide +kernel
theorem dX6_digest_108 : decode cX6_digest 108 = .ok (.if_icmp .ge 43, 3) := by decide +kernel
theorem dX6_digest_111 : decode cX6_digest 111 = .ok (.ldc2_w 284, 3) := by decide +kernel
theorem dX6_digest_114 : decode cX6_digest 114 = .ok (.lload_n 1, 1) := by decide +kernel
theorem dX6_digest_115 : decode cX6_digest 115 = .ok (.lmul, 1) := by decide +kernel
theorem dX6_digest_116 : decode cX6_digest 116 = .ok (.aload_n 0, 1) := by decide +kernel
theorem dX6_digest_117 : decode cX6_digest 117 = .ok (.getfield 40, 3) := by decide +kernel
theorem dX6_digest_120 : decode cX6_digest 120 = .ok (.iload_n 3, 1) := by decide +kernel
theorem dX6_digest_121 : decode cX6_digest 121 = .ok (.baload, 1) := by decide +kernel
theorem dX6_digest_122 : decode cX6_digest 122 = .ok (.ifCond .eq 19, 3) := by decide +kernel
theorem dX6_digest_125 : decode cX6_digest 125 = .ok (.aload_n 0, 1) := by decide +kernel
theorem dX6_digest_126 : decode cX6_digest 126 = .ok (.getfield 37, 3) := by decide +kernel
theorem dX6_digest_129 : decode cX6_digest 129 = .ok (.sipush 288, 3) := by decide +kernel
theorem dX6_digest_132 : decode cX6_digest 132 = .ok (.iload_n 3, 1) := by decide +kernel
theorem dX6_digest_133 : decode cX6_digest 133 = .ok (.imul, 1) := by decide +kernel
theorem dX6_digest_134 : decode cX6_digest 134 = .ok (.bipush 7, 2) := by decide +kernel
theorem dX6_digest_136 : decode cX6_digest 136 = .ok (.iadd, 1) := by decide +kernel
theorem dX6_digest_137 : decode cX6_digest 137 = .ok (.iaload, 1) := by decide +kernel
theorem dX6_digest_138 : decode cX6_digest 138 = .ok (.goto 4, 3) := by decide +kernel
theorem dX6_digest_141 : decode cX6_digest 141 = .ok (.iconst (-1), 1) := by decide +kernel
theorem dX6_digest_142 : decode cX6_digest 142 = .ok (.i2l, 1) := by decide +kernel
theorem dX6_digest_143 : decode cX6_digest 143 = .ok (.ladd, 1) := by decide +kernel
theorem dX6_digest_144 : decode cX6_digest 144 = .ok (.lstore_n 1, 1) := by decide +kernel
theorem dX6_digest_145 : decode cX6_digest 145 = .ok (.iinc 3 1, 3) := by decide +kernel
theorem dX6_digest_148 : decode cX6_digest 148 = .ok (.goto (-42), 3) := by decide +kernel
theorem dX6_digest_151 : decode cX6_digest 151 = .ok (.iconst 0, 1) := by decide +kernel
theorem dX6_digest_152 : decode cX6_digest 152 = .ok (.istore_n 3, 1) := by decide +kernel
theorem dX6_digest_153 : decode cX6_digest 153 = .ok (.iload_n 3, 1) := by decide +kernel
theorem dX6_digest_154 : decode cX6_digest 154 = .ok (.bipush 6, 2) := by decide +kernel
theorem dX6_digest_156 : decode cX6_digest 156 = .ok (.if_icmp .ge 63, 3) := by decide +kernel
theorem dX6_digest_159 : decode cX6_digest 159 = .ok (.ldc2_w 284, 3) := by decide +kernel
theorem dX6_digest_162 : decode cX6_digest 162 = .ok (.lload_n 1, 1) := by decide +kernel
theorem dX6_digest_163 : decode cX6_digest 163 = .ok (.lmul, 1) := by decide +kernel
theorem dX6_digest_164 : decode cX6_digest 164 = .ok (.aload_n 0, 1) := by decide +kernel
theorem dX6_digest_165 : decode cX6_digest 165 = .ok (.getfield 7, 3) := by decide +kernel
theorem dX6_digest_168 : decode cX6_digest 168 = .ok (.iload_n 3, 1) := by decide +kernel
theorem dX6_digest_169 : decode cX6_digest 169 = .ok (.iaload, 1) := by decide +kernel
theorem dX6_digest_170 : decode cX6_digest 170 = .ok (.i2l, 1) := by decide +kernel
theorem dX6_digest_171 : decode cX6_digest 171 = .ok (.ladd, 1) := by decide +kernel
theorem dX6_digest_172 : decode cX6_digest 172 = .ok (.lstore_n 1, 1) := by decide +kernel
theorem dX6_digest_173 : decode cX6_digest 173 = .ok (.iconst 0, 1) := by decide +kernel
theorem dX6_digest_174 : decode cX6_digest 174 = .ok (.istore 4, 2) := by decide +kernel
theorem dX6_digest_176 : decode cX6_digest 176 = .ok (.iload 4, 2) := by decide +kernel
theorem dX6_digest_178 : decode cX6_digest 178 = .ok (.aload_n 0, 1) := by decide +kernel
theorem dX6_digest_179 : decode cX6_digest 179 = .ok (.getfield 7, 3) := by decide +kernel
theorem dX6_digest_182 : decode cX6_digest 182 = .ok (.iload_n 3, 1) := by decide +kernel
theorem dX6_digest_183 : decode cX6_digest 183 = .ok (.iaload, 1) := by decide +kernel
theorem dX6_digest_184 : decode cX6_digest 184 = .ok (.if_icmp .ge 29, 3) := by decide +kernel
theorem dX6_digest_187 : decode cX6_digest 187 = .ok (.ldc2_w 284, 3) := by decide +kernel
theorem dX6_digest_190 : decode cX6_digest 190 = .ok (.lload_n 1, 1) := by decide +kernel
theorem dX6_digest_191 : decode cX6_digest 191 = .ok (.lmul, 1) := by decide +kernel
theorem dX6_digest_192 : decode cX6_digest 192 = .ok (.aload_n 0, 1) := by decide +kernel
theorem dX6_digest_193 : decode cX6_digest 193 = .ok (.getfield 13, 3) := by decide +kernel
theorem dX6_digest_196 : decode cX6_digest 196 = .ok (.bipush 40, 2) := by decide +kernel
theorem dX6_digest_198 : decode cX6_digest 198 = .ok (.iload_n 3, 1) := by decide +kernel
theorem dX6_digest_199 : decode cX6_digest 199 = .ok (.imul, 1) := by decide +kernel
theorem dX6_digest_200 : decode cX6_digest 200 = .ok (.iload 4, 2) := by decide +kernel
theorem dX6_digest_202 : decode cX6_digest 202 = .ok (.iadd, 1) := by decide +kernel
theorem dX6_digest_203 : decode cX6_digest 203 = .ok (.iaload, 1) := by decide +kernel
theorem dX6_digest_204 : decode cX6_digest 204 = .ok (.i2l, 1) := by decide +kernel
theorem dX6_digest_205 : decode cX6_digest 205 = .ok (.ladd, 1) := by decide +kernel
theorem dX6_digest_206 : decode cX6_digest 206 = .ok (.lstore_n 1, 1) := by decide +kernel
theorem dX6_digest_207 : decode cX6_digest 207 = .ok (.iinc 4 1, 3) := by decide +kernel
theorem dX6_digest_210 : decode cX6_digest 210 = .ok (.goto (-34), 3) := by decide +kernel
theorem dX6_digest_213 : decode cX6_digest 213 = .ok (.iinc 3 1, 3) := by decide +kernel
theorem dX6_digest_216 : decode cX6_digest 216 = .ok (.goto (-63), 3) := by decide +kernel
theorem dX6_digest_219 : decode cX6_digest 219 = .ok (.iconst 0, 1) := by decide +kernel
theorem dX6_digest_220 : decode cX6_digest 220 = .ok (.istore_n 3, 1) := by decide +kernel
theorem dX6_digest_221 : decode cX6_digest 221 = .ok (.iload_n 3, 1) := by decide +kernel
theorem dX6_digest_222 : decode cX6_digest 222 = .ok (.iconst 4, 1) := by decide +kernel
theorem dX6_digest_223 : decode cX6_digest 223 = .ok (.if_icmp .ge 63, 3) := by decide +kernel
theorem dX6_digest_226 : decode cX6_digest 226 = .ok (.ldc2_w 284, 3) := by decide +kernel
theorem dX6_digest_229 : decode cX6_digest 229 = .ok (.lload_n 1, 1) := by decide +kernel
theorem dX6_digest_230 : decode cX6_digest 230 = .ok (.lmul, 1) := by decide +kernel
theorem dX6_digest_231 : decode cX6_digest 231 = .ok (.aload_n 0, 1) := by decide +kernel
theorem dX6_digest_232 : decode cX6_digest 232 = .ok (.getfield 16, 3) := by decide +kernel
theorem dX6_digest_235 : decode cX6_digest 235 = .ok (.iload_n 3, 1) := by decide +kernel
theorem dX6_digest_236 : decode cX6_digest 236 = .ok (.iaload, 1) := by decide +kernel
theorem dX6_digest_237 : decode cX6_digest 237 = .ok (.i2l, 1) := by decide +kernel
theorem dX6_digest_238 : decode cX6_digest 238 = .ok (.ladd, 1) := by decide +kernel
theorem dX6_digest_239 : decode cX6_digest 239 = .ok (.lstore_n 1, 1) := by decide +kernel
theorem dX6_digest_240 : decode cX6_digest 240 = .ok (.iconst 0, 1) := by decide +kernel
theorem dX6_digest_241 : decode cX6_digest 241 = .ok (.istore 4, 2) := by decide +kernel
theorem dX6_digest_243 : decode cX6_digest 243 = .ok (.iload 4, 2) := by decide +kernel
theorem dX6_digest_245 : decode cX6_digest 245 = .ok (.aload_n 0, 1) := by decide +kernel
theorem dX6_digest_246 : decode cX6_digest 246 = .ok (.getfield 16, 3) := by decide +kernel
theorem dX6_digest_249 : decode cX6_digest 249 = .ok (.iload_n 3, 1) := by decide +kernel
theorem dX6_digest_250 : decode cX6_digest 250 = .ok (.iaload, 1) := by decide +kernel
theorem dX6_digest_251 : decode cX6_digest 251 = .ok (.if_icmp .ge 29, 3) := by decide +kernel
theorem dX6_digest_254 : decode cX6_digest 254 = .ok (.ldc2_w 284, 3) := by decide +kernel
theorem dX6_digest_257 : decode cX6_digest 257 = .ok (.lload_n 1, 1) := by decide +kernel
theorem dX6_digest_258 : decode cX6_digest 258 = .ok (.lmul, 1) := by decide +kernel
theorem dX6_digest_259 : decode cX6_digest 259 = .ok (.aload_n 0, 1) := by decide +kernel
theorem dX6_digest_260 : decode cX6_digest 260 = .ok (.getfield 19, 3) := by decide +kernel
theorem dX6_digest_263 : decode cX6_digest 263 = .ok (.bipush 80, 2) := by decide +kernel
theorem dX6_digest_265 : decode cX6_digest 265 = .ok (.iload_n 3, 1) := by decide +kernel
theorem dX6_digest_266 : decode cX6_digest 266 = .ok (.imul, 1) := by decide +kernel
theorem dX6_digest_267 : decode cX6_digest 267 = .ok (.iload 4, 2) := by decide +kernel
theorem dX6_digest_269 : decode cX6_digest 269 = .ok (.iadd, 1) := by decide +kernel
theorem dX6_digest_270 : decode cX6_digest 270 = .ok (.iaload, 1) := by decide +kernel
theorem dX6_digest_271 : decode cX6_digest 271 = .ok (.i2l, 1) := by decide +kernel
theorem dX6_digest_272 : decode cX6_digest 272 = .ok (.ladd, 1) := by decide +kernel
theorem dX6_digest_273 : decode cX6_digest 273 = .ok (.lstore_n 1, 1) := by decide +kernel
theorem dX6_digest_274 : decode cX6_digest 274 = .ok (.iinc 4 1, 3) := by decide +kernel
theorem dX6_digest_277 : decode cX6_digest 277 = .ok (.goto (-34), 3) := by decide +kernel
theorem dX6_digest_280 : decode cX6_digest 280 = .ok (.iinc 3 1, 3) := by decide +kernel
theorem dX6_digest_283 : decode cX6_digest 283 = .ok (.goto (-62), 3) := by decide +kernel
theorem dX6_digest_286 : decode cX6_digest 286 = .ok (.lload_n 1, 1) := by decide +kernel
theorem dX6_digest_287 : decode cX6_digest 287 = .ok (.lreturn, 1) := by decide +kernel
theorem dJ6_bitCount_0f7a4_0 : decode cJ6_bitCount_0f7a4 0 = .ok (.iload_n 0, 1) := by decide +kernel
theorem dJ6_bitCount_0f7a4_1 : decode cJ6_bitCount_0f7a4 1 = .ok (.iload_n 0, 1) := by decide +kernel
theorem dJ6_bitCount_0f7a4_2 : decode cJ6_bitCount_0f7a4 2 = .ok (.iconst 1, 1) := by decide +kernel
theorem dJ6_bitCount_0f7a4_3 : decode cJ6_bitCount_0f7a4 3 = .ok (.iushr, 1) := by decide +kernel
theorem dJ6_bitCount_0f7a4_4 : decode cJ6_bitCount_0f7a4 4 = .ok (.ldc_w 265, 3) := by decide +kernel
theorem dJ6_bitCount_0f7a4_7 : decode cJ6_bitCount_0f7a4 7 = .ok (.iand, 1) := by decide +kernel
theorem dJ6_bitCount_0f7a4_8 : decode cJ6_bitCount_0f7a4 8 = .ok (.isub, 1) := by decide +kernel
theorem dJ6_bitCount_0f7a4_9 : decode cJ6_bitCount_0f7a4 9 = .ok (.istore_n 0, 1) := by decide +kernel
theorem dJ6_bitCount_0f7a4_10 : decode cJ6_bitCount_0f7a4 10 = .ok (.iload_n 0, 1) := by decide +kernel
theorem dJ6_bitCount_0f7a4_11 : decode cJ6_bitCount_0f7a4 11 = .ok (.ldc_w 266, 3) := by decide +kernel
theorem dJ6_bitCount_0f7a4_14 : decode cJ6_bitCount_0f7a4 14 = .ok (.iand, 1) := by decide +kernel
theorem dJ6_bitCount_0f7a4_15 : decode cJ6_bitCount_0f7a4 15 = .ok (.iload_n 0, 1) := by decide +kernel
theorem dJ6_bitCount_0f7a4_16 : decode cJ6_bitCount_0f7a4 16 = .ok (.iconst 2, 1) := by decide +kernel
theorem dJ6_bitCount_0f7a4_17 : decode cJ6_bitCount_0f7a4 17 = .ok (.iushr, 1) := by decide +kernel
theorem dJ6_bitCount_0f7a4_18 : decode cJ6_bitCount_0f7a4 18 = .ok (.ldc_w 266, 3) := by decide +kernel
theorem dJ6_bitCount_0f7a4_21 : decode cJ6_bitCount_0f7a4 21 = .ok (.iand, 1) := by decide +kernel
theorem dJ6_bitCount_0f7a4_22 : decode cJ6_bitCount_0f7a4 22 = .ok (.iadd, 1) := by decide +kernel
theorem dJ6_bitCount_0f7a4_23 : decode cJ6_bitCount_0f7a4 23 = .ok (.istore_n 0, 1) := by decide +kernel
theorem dJ6_bitCount_0f7a4_24 : decode cJ6_bitCount_0f7a4 24 = .ok (.iload_n 0, 1) := by decide +kernel
theorem dJ6_bitCount_0f7a4_25 : decode cJ6_bitCount_0f7a4 25 = .ok (.iload_n 0, 1) := by decide +kernel
theorem dJ6_bitCount_0f7a4_26 : decode cJ6_bitCount_0f7a4 26 = .ok (.iconst 4, 1) := by decide +kernel
theorem dJ6_bitCount_0f7a4_27 : decode cJ6_bitCount_0f7a4 27 = .ok (.iushr, 1) := by decide +kernel
theorem dJ6_bitCount_0f7a4_28 : decode cJ6_bitCount_0f7a4 28 = .ok (.iadd, 1) := by decide +kernel
theorem dJ6_bitCount_0f7a4_29 : decode cJ6_bitCount_0f7a4 29 = .ok (.ldc_w 267, 3) := by decide +kernel
theorem dJ6_bitCount_0f7a4_32 : decode cJ6_bitCount_0f7a4 32 = .ok (.iand, 1) := by decide +kernel
theorem dJ6_bitCount_0f7a4_33 : decode cJ6_bitCount_0f7a4 33 = .ok (.istore_n 0, 1) := by decide +kernel
theorem dJ6_bitCount_0f7a4_34 : decode cJ6_bitCount_0f7a4 34 = .ok (.iload_n 0, 1) := by decide +kernel
theorem dJ6_bitCount_0f7a4_35 : decode cJ6_bitCount_0f7a4 35 = .ok (.iload_n 0, 1) := by decide +kernel
theorem dJ6_bitCount_0f7a4_36 : decode cJ6_bitCount_0f7a4 36 = .ok (.bipush 8, 2) := by decide +kernel
theorem dJ6_bitCount_0f7a4_38 : decode cJ6_bitCount_0f7a4 38 = .ok (.iushr, 1) := by decide +kernel
theorem dJ6_bitCount_0f7a4_39 : decode cJ6_bitCount_0f7a4 39 = .ok (.iadd, 1) := by decide +kernel
theorem dJ6_bitCount_0f7a4_40 : decode cJ6_bitCount_0f7a4 40 = .ok (.istore_n 0, 1) := by decide +kernel
theorem dJ6_bitCount_0f7a4_41 : decode cJ6_bitCount_0f7a4 41 = .ok (.iload_n 0, 1) := by decide +kernel
theorem dJ6_bitCount_0f7a4_42 : decode cJ6_bitCount_0f7a4 42 = .ok (.iload_n 0, 1) := by decide +kernel
theorem dJ6_bitCount_0f7a4_43 : decode cJ6_bitCount_0f7a4 43 = .ok (.bipush 16, 2) := by decide +kernel
theorem dJ6_bitCount_0f7a4_45 : decode cJ6_bitCount_0f7a4 45 = .ok (.iushr, 1) := by decide +kernel
theorem dJ6_bitCount_0f7a4_46 : decode cJ6_bitCount_0f7a4 46 = .ok (.iadd, 1) := by decide +kernel
theorem dJ6_bitCount_0f7a4_47 : decode cJ6_bitCount_0f7a4 47 = .ok (.istore_n 0, 1) := by decide +kernel
theorem dJ6_bitCount_0f7a4_48 : decode cJ6_bitCount_0f7a4 48 = .ok (.iload_n 0, 1) := by decide +kernel
theorem dJ6_bitCount_0f7a4_49 : decode cJ6_bitCount_0f7a4 49 = .ok (.bipush 63, 2) := by decide +kernel
theorem dJ6_bitCount_0f7a4_51 : decode cJ6_bitCount_0f7a4 51 = .ok (.iand, 1) := by decide +kernel
theorem dJ6_bitCount_0f7a4_52 : decode cJ6_bitCount_0f7a4 52 = .ok (.ireturn, 1) := by decide +kernel
theorem dJ9_max_7cf53_0 : decode cJ9_max_7cf53 0 = .ok (.iload_n 0, 1) := by decide +kernel
theorem dJ9_max_7cf53_1 : decode cJ9_max_7cf53 1 = .ok (.iload_n 1, 1) := by decide +kernel
theorem dJ9_max_7cf53_2 : decode cJ9_max_7cf53 2 = .ok (.if_icmp .lt 7, 3) := by decide +kernel
theorem dJ9_max_7cf53_5 : decode cJ9_max_7cf53 5 = .ok (.iload_n 0, 1) := by decide +kernel
theorem dJ9_max_7cf53_6 : decode cJ9_max_7cf53 6 = .ok (.goto 4, 3) := by decide +kernel
theorem dJ9_max_7cf53_9 : decode cJ9_max_7cf53 9 = .ok (.iload_n 1, 1) := by decide +kernel
theorem dJ9_max_7cf53_10 : decode cJ9_max_7cf53 10 = .ok (.ireturn, 1) := by decide +kernel
theorem dJ9_min_7cf53_0 : decode cJ9_min_7cf53 0 = .ok (.iload_n 0, 1) := by decide +kernel
theorem dJ9_min_7cf53_1 : decode cJ9_min_7cf53 1 = .ok (.iload_n 1, 1) := by decide +kernel
theorem dJ9_min_7cf53_2 : decode cJ9_min_7cf53 2 = .ok (.if_icmp .gt 7, 3) := by decide +kernel
theorem dJ9_min_7cf53_5 : decode cJ9_min_7cf53 5 = .ok (.iload_n 0, 1) := by decide +kernel
theorem dJ9_min_7cf53_6 : decode cJ9_min_7cf53 6 = .ok (.goto 4, 3) := by decide +kernel
theorem dJ9_min_7cf53_9 : decode cJ9_min_7cf53 9 = .ok (.iload_n 1, 1) := by decide +kernel
theorem dJ9_min_7cf53_10 : decode cJ9_min_7cf53 10 = .ok (.ireturn, 1) := by decide +kernel
