set_option maxRecDepth 20000 in
theorem gL_law_L_behind : GoodIn wsL_law (va_wsS RL 45 yL_behind wsL_behind) := goodIn_app (goodIn_of _ (by decide +kernel)) ggL_law_L_behind
set_option maxRecDepth 20000 in
theorem ggL_law_X5_did : GoodIn wsL_law wsX5_did := goodIn_r _ [464, 27, 211, 212, 213, 2, 214, 232, 122, 123, 445, 446, 447, 237, 26, 238, 239, 240, 241, 242, 243, 244, 245, 246, 247, 248, 249, 250, 251, 252, 253, 254, 493, 494, 495, 496, 497, 498, 499, 500, 501, 502, 503, 504, 505, 506, 511, 512, 513, 514, 515, 516, 517] (by decide +kernel) (by decide +kernel)
set_option maxRecDepth 20000 in
theorem gL_law_X5_did : GoodIn wsL_law (wsV RL 160 RX5 yX5_did wsX5_did) := goodIn_app (goodIn_of _ (by decide +kernel)) ggL_law_X5_did
set_option maxRecDepth 20000 in
theorem ggL_law_X5_gets : GoodIn wsL_law wsX5_gets := goodIn_r _ [468, 32, 211, 212, 213, 2, 214, 27, 161, 147, 162, 163, 164, 165, 166, 167, 168, 169, 170, 171, 172, 219, 220, 469, 493, 494, 495, 496, 497, 498, 499, 500, 501, 502, 503, 504, 505, 506, 518, 519, 520, 511, 512, 513, 514, 515, 516, 517] (by decide +kernel) (by decide +kernel)
set_option maxRecDepth 20000 in
theorem gL_law_X5_gets : GoodIn wsL_law (wsV RL 163 RX5 yX5_gets wsX5_gets) := goodIn_app (goodIn_of _ (by decide +kernel)) ggL_law_X5_gets
set_option maxRecDepth 20000 in
theorem ggL_law_X5_wept : GoodIn wsL_law wsX5_wept := goodIn_r _ [473, 27, 32, 221, 26, 222, 223, 55, 164, 147, 165, 219, 220, 493, 494, 495, 496, 497, 498, 499, 500, 501, 502, 503, 504, 505, 506, 511, 512, 513, 514, 515, 516, 517, 518, 519, 520] (by decide +kernel) (by decide +kernel)
set_option maxRecDepth 20000 in
theorem gL_law_X5_wept : GoodIn wsL_law (wsV RL 166 RX5 yX5_wept wsX5_wept) := goodIn_app (goodIn_of _ (by decide +kernel)) ggL_law_X5_wept
set_option maxRecDepth 20000 in
theorem ggL_law_X5_stops : GoodIn wsL_law wsX5_stops := goodIn_r _ [477, 27, 32, 469, 167, 168, 169, 170, 171, 172, 164, 147, 165, 478, 479, 480, 2, 481, 176, 177, 152, 493, 494, 495, 496, 497, 498, 499, 500, 501, 502, 503, 504, 505, 506, 511, 512, 513, 514, 515, 516, 517, 518, 519, 520] (by decide +kernel) (by decide +kernel)
set_option maxRecDepth 20000 in
theorem gL_law_X5_stops : GoodIn wsL_law (wsV RL 169 RX5 yX5_stops wsX5_stops) := goodIn_app (goodIn_of _ (by decide +kernel)) ggL_law_X5_stops
set_option maxRecDepth 20000 in
theorem ggL_law_X5_lots : GoodIn wsL_law wsX5_lots := goodIn_r _ [485, 486, 27, 32, 487, 488, 489, 161, 147, 162, 163, 164, 165, 166, 167, 168, 169, 170, 171, 172, 233, 26, 234, 235, 49, 52, 51, 219, 220, 176, 177, 152, 236, 237, 238, 239, 240, 241, 242, 243, 244, 245, 246, 247, 248, 249, 250, 251, 252, 253, 254, 150, 151, 153, 255, 256, 257, 258, 50, 259, 260, 261, 262, 55, 263, 264, 149, 273, 31, 274, 275, 59, 62, 60, 493, 494, 495, 496, 497, 498, 499, 500, 501, 502, 503, 504, 505, 506, 511, 512, 513, 514, 515, 516, 517, 518, 519, 520] (by decide +kernel) (by decide +kernel)
set_option maxRecDepth 20000 in
theorem gL_law_X5_lots : GoodIn wsL_law (wsV RL 173 RX5 yX5_lots wsX5_lots) := goodIn_app (goodIn_of _ (by decide +kernel)) ggL_law_X5_lots
set_option maxRecDepth 20000 in
theorem ggL_law_L_sum : GoodIn wsL_law wsL_sum := goodIn_r _ [492] (by decide +kernel) (by decide +kernel)
set_option maxRecDepth 20000 in
theorem gL_law_L_sum : GoodIn wsL_law (va_wsS RL 176 yL_sum wsL_sum) := goodIn_app (goodIn_of _ (by decide +kernel)) ggL_law_L_sum
