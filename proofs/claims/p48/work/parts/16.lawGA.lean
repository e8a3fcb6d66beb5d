set_option maxRecDepth 20000 in
theorem ggL_law_X5_init : GoodIn wsL_law wsX5_init := goodIn_r _ [9, 10, 11, 12, 13, 3, 14, 15, 16, 17, 18, 19, 20, 21, 22, 23, 24, 25, 26, 27, 28, 29, 30, 31, 32, 33, 34, 35, 36, 37, 38, 39, 40, 41, 42, 43, 44, 45, 46, 47, 48, 49, 50, 51, 52, 53, 54, 55, 56, 57, 58, 59, 60, 61, 62, 493, 494, 495, 496, 497, 498, 499, 500, 501, 502, 503, 504, 505, 506, 507, 508, 509, 510, 511, 512, 513, 514, 515, 516, 517, 518, 519, 520] (by decide +kernel) (by decide +kernel)
set_option maxRecDepth 20000 in
theorem gL_law_X5_init : GoodIn wsL_law (wsX5_init) := ggL_law_X5_init
set_option maxRecDepth 20000 in
theorem ggtl_0 : GoodIn wsL_law [.code yL_tells cL_tells 11 (some .boolean)] := goodIn_r _ [66] (by decide +kernel) (by decide +kernel)
set_option maxRecDepth 20000 in
theorem ggtl_1 : GoodIn wsL_law wsL_tells_r1 := goodIn_r _ [67, 68, 65, 69, 70, 71, 72, 73, 74, 75, 76, 77, 2, 78, 18, 19, 79, 80, 81, 82, 83, 84, 85, 35] (by decide +kernel) (by decide +kernel)
set_option maxRecDepth 20000 in
theorem ggtl_2 : GoodIn wsL_law wsL_tells_r2 := goodIn_r _ [34, 86, 87, 88, 89, 90, 91, 92, 93, 94, 95, 96, 23, 28, 27, 32, 33, 97, 22, 98, 99, 42, 43, 45] (by decide +kernel) (by decide +kernel)
set_option maxRecDepth 20000 in
theorem ggtl_3 : GoodIn wsL_law wsL_tells_r3 := goodIn_r _ [100, 26, 101, 102, 49, 50, 54, 55, 103, 104, 105, 106, 107, 108, 109, 110, 111, 112, 113, 114, 115, 116, 117, 118] (by decide +kernel) (by decide +kernel)
set_option maxRecDepth 20000 in
theorem ggtl_4 : GoodIn wsL_law wsL_tells_r4 := goodIn_r _ [119, 120, 121, 122, 123, 124, 125, 126, 127, 128, 129, 130, 131, 132, 133, 134, 135, 136, 137, 138, 44, 139, 140, 141] (by decide +kernel) (by decide +kernel)
set_option maxRecDepth 20000 in
theorem ggtl_5 : GoodIn wsL_law wsL_tells_r5 := goodIn_r _ [142, 143, 144, 145, 53, 146, 147, 148, 149, 150, 151, 152, 153, 154, 31, 155, 156, 59, 60, 157, 158, 159, 160, 15] (by decide +kernel) (by decide +kernel)
set_option maxRecDepth 20000 in
theorem ggtl_6 : GoodIn wsL_law wsL_tells_r6 := goodIn_r _ [161, 162, 163, 164, 165, 166, 167, 168, 169, 170, 171, 172, 173, 174, 175, 176, 177, 178, 179, 180, 52, 181, 182, 183] (by decide +kernel) (by decide +kernel)
set_option maxRecDepth 20000 in
theorem ggtl_7 : GoodIn wsL_law wsL_tells_r7 := goodIn_r _ [184, 185, 186, 187, 188, 189] (by decide +kernel) (by decide +kernel)
set_option maxRecDepth 20000 in
theorem ggtl_X5 : GoodIn wsL_law wsX50 := goodIn_sub inlX5 (by decide +kernel)
set_option maxRecDepth 20000 in
theorem ggtl_X0 : GoodIn wsL_law wsX00 := goodIn_sub inlX0 (by decide +kernel)
set_option maxRecDepth 20000 in
theorem ggtl_X2 : GoodIn wsL_law wsX20 := goodIn_sub inlX2 (by decide +kernel)
set_option maxRecDepth 20000 in
theorem ggtl_X4 : GoodIn wsL_law wsX40 := goodIn_sub inlX4 (by decide +kernel)
theorem ggL_law_L_tells : GoodIn wsL_law wsL_tells := fun w h => (List.mem_cons.mp h).elim (fun e => ggtl_0 w (List.mem_cons.mpr (Or.inl e))) (fun h => (goodIn_app (goodIn_app (goodIn_app (goodIn_app (goodIn_app ggtl_1 (goodIn_app ggtl_2 (goodIn_app ggtl_3 (goodIn_app ggtl_4 (goodIn_app ggtl_5 (goodIn_app ggtl_6 ggtl_7)))))) ggtl_X5) ggtl_X0) ggtl_X2) ggtl_X4) w h)
set_option maxRecDepth 20000 in
theorem gL_law_L_tells : GoodIn wsL_law (va_wsS RL 73 yL_tells wsL_tells) := goodIn_app (goodIn_of _ (by decide +kernel)) ggL_law_L_tells
set_option maxRecDepth 20000 in
theorem ggL_law_X5_keep : GoodIn wsL_law wsX5_keep := goodIn_r _ [193, 27, 33, 32, 194, 195, 2, 196, 197, 31, 198, 199, 59, 60, 62, 200, 201, 202, 203, 493, 494, 495, 496, 497, 498, 499, 500, 501, 502, 503, 504, 505, 506, 511, 512, 513, 514, 515, 516, 517, 518, 519, 520] (by decide +kernel) (by decide +kernel)
set_option maxRecDepth 20000 in
theorem gL_law_X5_keep : GoodIn wsL_law (wsV RL 77 RX5 yX5_keep wsX5_keep) := goodIn_app (goodIn_of _ (by decide +kernel)) ggL_law_X5_keep
set_option maxRecDepth 20000 in
theorem ggL_law_L_cell : GoodIn wsL_law wsL_cell := goodIn_r _ [69, 70] (by decide +kernel) (by decide +kernel)
set_option maxRecDepth 20000 in
theorem gL_law_L_cell : GoodIn wsL_law (va_wsS RL 9 yL_cell wsL_cell) := goodIn_app (goodIn_of _ (by decide +kernel)) ggL_law_L_cell
set_option maxRecDepth 20000 in
theorem ggL_law_L_part : GoodIn wsL_law wsL_part := goodIn_r _ [73, 74] (by decide +kernel) (by decide +kernel)
