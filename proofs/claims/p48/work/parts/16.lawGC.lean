set_option maxRecDepth 20000 in
theorem gL_law_L_many : GoodIn wsL_law (va_wsS RL 97 yL_many wsL_many) := goodIn_app (goodIn_of _ (by decide +kernel)) ggL_law_L_many
set_option maxRecDepth 20000 in
theorem ggL_law_X5_undo : GoodIn wsL_law wsX5_undo := goodIn_r _ [303, 32, 304, 31, 305, 306, 59, 62, 60, 493, 494, 495, 496, 497, 498, 499, 500, 501, 502, 503, 504, 505, 506, 518, 519, 520] (by decide +kernel) (by decide +kernel)
set_option maxRecDepth 20000 in
theorem gL_law_X5_undo : GoodIn wsL_law (wsV RL 100 RX5 yX5_undo wsX5_undo) := goodIn_app (goodIn_of _ (by decide +kernel)) ggL_law_X5_undo
set_option maxRecDepth 20000 in
theorem ggL_law_X5_stay : GoodIn wsL_law wsX5_stay := goodIn_r _ [310, 27, 32, 36, 37, 38, 311, 312, 313, 2, 314, 315, 316, 317, 233, 26, 234, 235, 49, 52, 51, 219, 147, 220, 176, 177, 152, 236, 237, 238, 239, 240, 241, 242, 243, 244, 245, 246, 247, 248, 249, 250, 251, 252, 253, 254, 150, 151, 153, 255, 256, 257, 258, 50, 164, 165, 259, 260, 261, 262, 55, 263, 264, 149, 318, 319, 320, 321, 493, 494, 495, 496, 497, 498, 499, 500, 501, 502, 503, 504, 505, 506, 518, 519, 520, 511, 512, 513, 514, 515, 516, 517] (by decide +kernel) (by decide +kernel)
set_option maxRecDepth 20000 in
theorem gL_law_X5_stay : GoodIn wsL_law (wsV RL 103 RX5 yX5_stay wsX5_stay) := goodIn_app (goodIn_of _ (by decide +kernel)) ggL_law_X5_stay
set_option maxRecDepth 20000 in
theorem ggL_law_X5_lower : GoodIn wsL_law wsX5_lower := goodIn_r _ [325, 38, 493, 494, 495, 496, 497, 498, 499, 500, 501, 502, 503, 504, 505, 506] (by decide +kernel) (by decide +kernel)
set_option maxRecDepth 20000 in
theorem gL_law_X5_lower : GoodIn wsL_law (wsV RL 106 RX5 yX5_lower wsX5_lower) := goodIn_app (goodIn_of _ (by decide +kernel)) ggL_law_X5_lower
set_option maxRecDepth 20000 in
theorem ggL_law_X5_upper : GoodIn wsL_law wsX5_upper := goodIn_r _ [329, 37, 493, 494, 495, 496, 497, 498, 499, 500, 501, 502, 503, 504, 505, 506] (by decide +kernel) (by decide +kernel)
set_option maxRecDepth 20000 in
theorem gL_law_X5_upper : GoodIn wsL_law (wsV RL 110 RX5 yX5_upper wsX5_upper) := goodIn_app (goodIn_of _ (by decide +kernel)) ggL_law_X5_upper
set_option maxRecDepth 20000 in
theorem ggL_law_X5_odds : GoodIn wsL_law wsX5_odds := goodIn_r _ [333, 27, 32, 311, 312, 313, 2, 314, 319, 316, 320, 321, 315, 317, 233, 26, 234, 235, 49, 52, 51, 219, 147, 220, 176, 177, 152, 236, 237, 238, 239, 240, 241, 242, 243, 244, 245, 246, 247, 248, 249, 250, 251, 252, 253, 254, 150, 151, 153, 255, 256, 257, 258, 50, 164, 165, 259, 260, 261, 262, 55, 263, 264, 149, 318, 334, 335, 336, 337, 37, 38, 338, 493, 494, 495, 496, 497, 498, 499, 500, 501, 502, 503, 504, 505, 506, 518, 519, 520, 511, 512, 513, 514, 515, 516, 517] (by decide +kernel) (by decide +kernel)
set_option maxRecDepth 20000 in
theorem gL_law_X5_odds : GoodIn wsL_law (wsV RL 113 RX5 yX5_odds wsX5_odds) := goodIn_app (goodIn_of _ (by decide +kernel)) ggL_law_X5_odds
set_option maxRecDepth 20000 in
theorem ggL_law_X5_mid : GoodIn wsL_law wsX5_mid := goodIn_r _ [342, 32, 27, 311, 312, 313, 2, 314, 161, 147, 162, 163, 164, 165, 166, 167, 168, 169, 170, 171, 172, 343, 316, 344, 233, 26, 234, 235, 49, 52, 51, 219, 220, 176, 177, 152, 236, 237, 238, 239, 240, 241, 242, 243, 244, 245, 246, 247, 248, 249, 250, 251, 252, 253, 254, 150, 151, 153, 255, 256, 257, 258, 50, 259, 260, 261, 262, 55, 263, 264, 149, 345, 334, 335, 336, 337, 37, 38, 338, 493, 494, 495, 496, 497, 498, 499, 500, 501, 502, 503, 504, 505, 506, 518, 519, 520, 511, 512, 513, 514, 515, 516, 517] (by decide +kernel) (by decide +kernel)
set_option maxRecDepth 20000 in
theorem gL_law_X5_mid : GoodIn wsL_law (wsV RL 116 RX5 yX5_mid wsX5_mid) := goodIn_app (goodIn_of _ (by decide +kernel)) ggL_law_X5_mid
set_option maxRecDepth 20000 in
theorem ggL_law_X5_row : GoodIn wsL_law wsX5_row := goodIn_r _ [349, 350, 351, 2, 352, 82, 83, 84, 85, 35, 34, 353, 354, 355, 356, 14, 15, 493, 494, 495, 496, 497, 498, 499, 500, 501, 502, 503, 504, 505, 506] (by decide +kernel) (by decide +kernel)
set_option maxRecDepth 20000 in
theorem gL_law_X5_row : GoodIn wsL_law (wsV RL 119 RX5 yX5_row wsX5_row) := goodIn_app (goodIn_of _ (by decide +kernel)) ggL_law_X5_row
set_option maxRecDepth 20000 in
theorem ggL_law_X5_first : GoodIn wsL_law wsX5_first := goodIn_r _ [360, 27, 32, 350, 351, 2, 352, 311, 312, 313, 314, 161, 147, 162, 163, 164, 165, 166, 167, 168, 169, 170, 171, 172, 361, 316, 362, 233, 26, 234, 235, 49, 52, 51, 219, 220, 176, 177, 152, 236, 237, 238, 239, 240, 241, 242, 243, 244, 245, 246, 247, 248, 249, 250, 251, 252, 253, 254, 150, 151, 153, 255, 256, 257, 258, 50, 259, 260, 261, 262, 55, 263, 264, 149, 363, 364, 365, 366, 367, 14, 353, 354, 355, 356, 15, 493, 494, 495, 496, 497, 498, 499, 500, 501, 502, 503, 504, 505, 506, 518, 519, 520, 511, 512, 513, 514, 515, 516, 517] (by decide +kernel) (by decide +kernel)
set_option maxRecDepth 20000 in
theorem gL_law_X5_first : GoodIn wsL_law (wsV RL 122 RX5 yX5_first wsX5_first) := goodIn_app (goodIn_of _ (by decide +kernel)) ggL_law_X5_first
set_option maxRecDepth 20000 in
theorem ggL_law_X5_fewest : GoodIn wsL_law wsX5_fewest := goodIn_r _ [371, 27, 32, 350, 351, 2, 352, 311, 312, 313, 314, 372, 316, 373, 374, 253, 244, 254, 161, 147, 162, 163, 164, 165, 166, 167, 168, 169, 170, 171, 172, 233, 26, 234, 235, 49, 52, 51, 219, 220, 176, 177, 152, 236, 237, 238, 239, 240, 241, 242, 243, 245, 246, 247, 248, 249, 250, 251, 252, 150, 151, 153, 255, 256, 257, 258, 50, 259, 260, 261, 262, 55, 263, 264, 149, 375, 361, 362, 363, 364, 365, 366, 367, 14, 353, 354, 355, 356, 15, 493, 494, 495, 496, 497, 498, 499, 500, 501, 502, 503, 504, 505, 506, 518, 519, 520, 511, 512, 513, 514, 515, 516, 517] (by decide +kernel) (by decide +kernel)
set_option maxRecDepth 20000 in
theorem gL_law_X5_fewest : GoodIn wsL_law (wsV RL 125 RX5 yX5_fewest wsX5_fewest) := goodIn_app (goodIn_of _ (by decide +kernel)) ggL_law_X5_fewest
set_option maxRecDepth 20000 in
theorem ggL_law_X5_falls : GoodIn wsL_law wsX5_falls := goodIn_r _ [379, 32, 15, 27, 14, 36, 350, 351, 2, 352, 380, 381, 382, 383, 232, 122, 123, 82, 83, 84, 85, 35, 34, 233, 26, 234, 235, 49, 52, 51, 219, 147, 220, 176, 177, 152, 236, 237, 238, 239, 240, 241, 242, 243, 244, 245, 246, 247, 248, 249, 250, 251, 252, 253, 254, 150, 151, 153, 255, 256, 257, 258, 50, 164, 165, 259, 260, 261, 262, 55, 263, 264, 149, 493, 494, 495, 496, 497, 498, 499, 500, 501, 502, 503, 504, 505, 506, 518, 519, 520, 511, 512, 513, 514, 515, 516, 517] (by decide +kernel) (by decide +kernel)
