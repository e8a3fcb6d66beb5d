set_option maxRecDepth 20000 in
theorem gL_law_X5_falls : GoodIn wsL_law (wsV RL 128 RX5 yX5_falls wsX5_falls) := goodIn_app (goodIn_of _ (by decide +kernel)) ggL_law_X5_falls
set_option maxRecDepth 20000 in
theorem ggL_law_X5_at : GoodIn wsL_law wsX5_at := goodIn_r _ [387, 14, 36, 350, 351, 2, 352, 388, 389, 390, 391, 15, 82, 83, 84, 85, 35, 34, 493, 494, 495, 496, 497, 498, 499, 500, 501, 502, 503, 504, 505, 506] (by decide +kernel) (by decide +kernel)
set_option maxRecDepth 20000 in
theorem gL_law_X5_at : GoodIn wsL_law (wsV RL 131 RX5 yX5_at wsX5_at) := goodIn_app (goodIn_of _ (by decide +kernel)) ggL_law_X5_at
set_option maxRecDepth 20000 in
theorem ggL_law_X5_on : GoodIn wsL_law wsX5_on := goodIn_r _ [395, 33, 32, 194, 195, 2, 196, 82, 83, 84, 85, 35, 34, 197, 31, 198, 199, 59, 60, 62, 200, 201, 202, 203, 493, 494, 495, 496, 497, 498, 499, 500, 501, 502, 503, 504, 505, 506, 518, 519, 520] (by decide +kernel) (by decide +kernel)
set_option maxRecDepth 20000 in
theorem gL_law_X5_on : GoodIn wsL_law (wsV RL 134 RX5 yX5_on wsX5_on) := goodIn_app (goodIn_of _ (by decide +kernel)) ggL_law_X5_on
set_option maxRecDepth 20000 in
theorem ggL_law_X5_lay : GoodIn wsL_law wsX5_lay := goodIn_r _ [399, 14, 36, 350, 351, 2, 352, 388, 389, 390, 391, 15, 82, 83, 84, 85, 35, 34, 493, 494, 495, 496, 497, 498, 499, 500, 501, 502, 503, 504, 505, 506] (by decide +kernel) (by decide +kernel)
set_option maxRecDepth 20000 in
theorem gL_law_X5_lay : GoodIn wsL_law (wsV RL 137 RX5 yX5_lay wsX5_lay) := goodIn_app (goodIn_of _ (by decide +kernel)) ggL_law_X5_lay
set_option maxRecDepth 20000 in
theorem ggL_law_X5_ices : GoodIn wsL_law wsX5_ices := goodIn_r _ [403, 27, 350, 351, 2, 352, 380, 381, 382, 383, 15, 14, 232, 122, 123, 82, 83, 84, 85, 35, 34, 404, 405, 406, 407, 32, 164, 147, 165, 260, 26, 261, 262, 52, 55, 176, 177, 152, 250, 251, 242, 243, 244, 245, 252, 253, 254, 408, 409, 410, 51, 50, 236, 237, 238, 239, 240, 241, 246, 247, 248, 249, 493, 494, 495, 496, 497, 498, 499, 500, 501, 502, 503, 504, 505, 506, 511, 512, 513, 514, 515, 516, 517, 518, 519, 520] (by decide +kernel) (by decide +kernel)
set_option maxRecDepth 20000 in
theorem gL_law_X5_ices : GoodIn wsL_law (wsV RL 140 RX5 yX5_ices wsX5_ices) := goodIn_app (goodIn_of _ (by decide +kernel)) ggL_law_X5_ices
set_option maxRecDepth 20000 in
theorem ggL_law_X5_grief : GoodIn wsL_law wsX5_grief := goodIn_r _ [414, 32, 15, 27, 14, 211, 212, 213, 2, 214, 350, 351, 352, 380, 381, 382, 383, 232, 122, 123, 82, 83, 84, 85, 35, 34, 233, 26, 234, 235, 49, 52, 51, 219, 147, 220, 176, 177, 152, 236, 237, 238, 239, 240, 241, 242, 243, 244, 245, 246, 247, 248, 249, 250, 251, 252, 253, 254, 150, 151, 153, 255, 256, 257, 258, 50, 164, 165, 259, 260, 261, 262, 55, 263, 264, 149, 493, 494, 495, 496, 497, 498, 499, 500, 501, 502, 503, 504, 505, 506, 518, 519, 520, 511, 512, 513, 514, 515, 516, 517] (by decide +kernel) (by decide +kernel)
set_option maxRecDepth 20000 in
theorem gL_law_X5_grief : GoodIn wsL_law (wsV RL 143 RX5 yX5_grief wsX5_grief) := goodIn_app (goodIn_of _ (by decide +kernel)) ggL_law_X5_grief
set_option maxRecDepth 20000 in
theorem ggL_law_X5_gay : GoodIn wsL_law wsX5_gay := goodIn_r _ [418, 27, 32, 419, 316, 420, 173, 147, 174, 175, 176, 177, 152, 233, 26, 234, 235, 49, 52, 51, 219, 220, 236, 237, 238, 239, 240, 241, 242, 243, 244, 245, 246, 247, 248, 249, 250, 251, 252, 253, 254, 150, 151, 153, 255, 256, 257, 258, 50, 164, 165, 259, 260, 261, 262, 55, 263, 264, 149, 421, 493, 494, 495, 496, 497, 498, 499, 500, 501, 502, 503, 504, 505, 506, 511, 512, 513, 514, 515, 516, 517, 518, 519, 520] (by decide +kernel) (by decide +kernel)
set_option maxRecDepth 20000 in
theorem gL_law_X5_gay : GoodIn wsL_law (wsV RL 146 RX5 yX5_gay wsX5_gay) := goodIn_app (goodIn_of _ (by decide +kernel)) ggL_law_X5_gay
set_option maxRecDepth 20000 in
theorem ggL_law_X5_aunt : GoodIn wsL_law wsX5_aunt := goodIn_r _ [425, 27, 32, 161, 147, 162, 163, 164, 165, 166, 167, 168, 169, 170, 171, 172, 426, 316, 427, 374, 253, 244, 254, 233, 26, 234, 235, 49, 52, 51, 219, 220, 176, 177, 152, 236, 237, 238, 239, 240, 241, 242, 243, 245, 246, 247, 248, 249, 250, 251, 252, 150, 151, 153, 255, 256, 257, 258, 50, 259, 260, 261, 262, 55, 263, 264, 149, 428, 429, 430, 431, 284, 285, 286, 287, 288, 289, 432, 493, 494, 495, 496, 497, 498, 499, 500, 501, 502, 503, 504, 505, 506, 511, 512, 513, 514, 515, 516, 517, 518, 519, 520] (by decide +kernel) (by decide +kernel)
set_option maxRecDepth 20000 in
theorem gL_law_X5_aunt : GoodIn wsL_law (wsV RL 149 RX5 yX5_aunt wsX5_aunt) := goodIn_app (goodIn_of _ (by decide +kernel)) ggL_law_X5_aunt
set_option maxRecDepth 20000 in
theorem ggL_law_X5_kinds : GoodIn wsL_law wsX5_kinds := goodIn_r _ [436, 32, 27, 14, 15, 437, 438, 439, 2, 440, 211, 212, 213, 214, 350, 351, 352, 219, 147, 220, 441, 442, 443, 444, 232, 122, 123, 445, 446, 447, 82, 83, 84, 85, 35, 34, 176, 177, 152, 448, 26, 449, 450, 51, 236, 237, 238, 239, 240, 241, 242, 243, 244, 245, 246, 247, 248, 249, 250, 251, 252, 253, 254, 493, 494, 495, 496, 497, 498, 499, 500, 501, 502, 503, 504, 505, 506, 518, 519, 520, 511, 512, 513, 514, 515, 516, 517] (by decide +kernel) (by decide +kernel)
set_option maxRecDepth 20000 in
theorem gL_law_X5_kinds : GoodIn wsL_law (wsV RL 152 RX5 yX5_kinds wsX5_kinds) := goodIn_app (goodIn_of _ (by decide +kernel)) ggL_law_X5_kinds
set_option maxRecDepth 20000 in
theorem ggL_law_X5_came : GoodIn wsL_law wsX5_came := goodIn_r _ [454, 27, 14, 15, 437, 438, 439, 2, 440, 32, 211, 212, 213, 214, 350, 351, 352, 219, 147, 220, 441, 442, 443, 444, 232, 122, 123, 445, 446, 447, 82, 83, 84, 85, 35, 34, 448, 26, 449, 450, 51, 236, 237, 238, 239, 240, 241, 242, 243, 244, 245, 246, 247, 248, 249, 250, 251, 252, 253, 254, 493, 494, 495, 496, 497, 498, 499, 500, 501, 502, 503, 504, 505, 506, 511, 512, 513, 514, 515, 516, 517, 518, 519, 520] (by decide +kernel) (by decide +kernel)
set_option maxRecDepth 20000 in
theorem gL_law_X5_came : GoodIn wsL_law (wsV RL 155 RX5 yX5_came wsX5_came) := goodIn_app (goodIn_of _ (by decide +kernel)) ggL_law_X5_came
set_option maxRecDepth 20000 in
theorem ggL_law_L_behind : GoodIn wsL_law wsL_behind := goodIn_r _ [457, 458, 459, 65, 460] (by decide +kernel) (by decide +kernel)
