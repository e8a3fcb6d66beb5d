set_option maxRecDepth 20000 in
theorem gL_law_L_part : GoodIn wsL_law (va_wsS RL 15 yL_part wsL_part) := goodIn_app (goodIn_of _ (by decide +kernel)) ggL_law_L_part
set_option maxRecDepth 20000 in
theorem ggL_law_X5_count : GoodIn wsL_law wsX5_count := goodIn_r _ [160, 27, 32, 15, 19, 161, 147, 162, 163, 164, 165, 166, 167, 168, 169, 170, 171, 172, 173, 174, 175, 176, 177, 152, 178, 26, 179, 180, 49, 52, 181, 2, 182, 183, 184, 185, 186, 187, 188, 189, 33, 493, 494, 495, 496, 497, 498, 499, 500, 501, 502, 503, 504, 505, 506, 511, 512, 513, 514, 515, 516, 517, 518, 519, 520] (by decide +kernel) (by decide +kernel)
set_option maxRecDepth 20000 in
theorem gL_law_X5_count : GoodIn wsL_law (wsV RL 35 RX5 yX5_count wsX5_count) := goodIn_app (goodIn_of _ (by decide +kernel)) ggL_law_X5_count
set_option maxRecDepth 20000 in
theorem ggL_law_L_outs : GoodIn wsL_law wsL_outs := goodIn_r _ [206, 207, 208, 209, 2, 210, 36, 211, 212, 213, 214, 27, 215, 216, 217, 218, 32, 176, 147, 177, 152, 219, 220, 221, 26, 222, 223, 55, 164, 165, 224, 225, 226, 227, 493, 494, 495, 496, 497, 498, 499, 500, 501, 502, 503, 504, 505, 506, 511, 512, 513, 514, 515, 516, 517, 518, 519, 520] (by decide +kernel) (by decide +kernel)
set_option maxRecDepth 20000 in
theorem gL_law_L_outs : GoodIn wsL_law (va_wsS RL 80 yL_outs wsL_outs) := goodIn_app (goodIn_of _ (by decide +kernel)) ggL_law_L_outs
set_option maxRecDepth 20000 in
theorem ggL_law_X5_guest : GoodIn wsL_law wsX5_guest := goodIn_r _ [210, 36, 211, 212, 213, 2, 214, 27, 215, 216, 217, 218, 32, 176, 147, 177, 152, 219, 220, 221, 26, 222, 223, 55, 164, 165, 493, 494, 495, 496, 497, 498, 499, 500, 501, 502, 503, 504, 505, 506, 511, 512, 513, 514, 515, 516, 517, 518, 519, 520] (by decide +kernel) (by decide +kernel)
set_option maxRecDepth 20000 in
theorem gL_law_X5_guest : GoodIn wsL_law (wsV RL 84 RX5 yX5_guest wsX5_guest) := goodIn_app (goodIn_of _ (by decide +kernel)) ggL_law_X5_guest
set_option maxRecDepth 20000 in
theorem ggL_law_X5_asked : GoodIn wsL_law wsX5_asked := goodIn_r _ [227, 36, 493, 494, 495, 496, 497, 498, 499, 500, 501, 502, 503, 504, 505, 506] (by decide +kernel) (by decide +kernel)
set_option maxRecDepth 20000 in
theorem gL_law_X5_asked : GoodIn wsL_law (wsV RL 87 RX5 yX5_asked wsX5_asked) := goodIn_app (goodIn_of _ (by decide +kernel)) ggL_law_X5_asked
set_option maxRecDepth 20000 in
theorem ggL_law_X5_out : GoodIn wsL_law wsX5_out := goodIn_r _ [231, 27, 32, 36, 232, 122, 2, 123, 233, 26, 234, 235, 49, 52, 51, 219, 147, 220, 176, 177, 152, 236, 237, 238, 239, 240, 241, 242, 243, 244, 245, 246, 247, 248, 249, 250, 251, 252, 253, 254, 150, 151, 153, 255, 256, 257, 258, 50, 164, 165, 259, 260, 261, 262, 55, 263, 264, 149, 173, 174, 175, 493, 494, 495, 496, 497, 498, 499, 500, 501, 502, 503, 504, 505, 506, 518, 519, 520, 511, 512, 513, 514, 515, 516, 517] (by decide +kernel) (by decide +kernel)
set_option maxRecDepth 20000 in
theorem gL_law_X5_out : GoodIn wsL_law (wsV RL 91 RX5 yX5_out wsX5_out) := goodIn_app (goodIn_of _ (by decide +kernel)) ggL_law_X5_out
set_option maxRecDepth 20000 in
theorem ggL_law_X5_safe : GoodIn wsL_law wsX5_safe := goodIn_r _ [268, 27, 32, 233, 26, 234, 235, 49, 52, 51, 219, 147, 220, 176, 177, 152, 236, 237, 238, 239, 240, 241, 242, 243, 244, 245, 246, 247, 248, 249, 250, 251, 252, 253, 254, 150, 151, 153, 255, 256, 257, 258, 50, 164, 165, 259, 260, 261, 262, 55, 263, 264, 149, 493, 494, 495, 496, 497, 498, 499, 500, 501, 502, 503, 504, 505, 506, 511, 512, 513, 514, 515, 516, 517, 518, 519, 520] (by decide +kernel) (by decide +kernel)
set_option maxRecDepth 20000 in
theorem gL_law_X5_safe : GoodIn wsL_law (wsV RL 94 RX5 yX5_safe wsX5_safe) := goodIn_app (goodIn_of _ (by decide +kernel)) ggL_law_X5_safe
set_option maxRecDepth 20000 in
theorem ggL_law_X5_tune : GoodIn wsL_law wsX5_tune := goodIn_r _ [272, 27, 32, 232, 122, 2, 123, 164, 147, 165, 233, 26, 234, 235, 49, 52, 51, 219, 220, 176, 177, 152, 236, 237, 238, 239, 240, 241, 242, 243, 244, 245, 246, 247, 248, 249, 250, 251, 252, 253, 254, 150, 151, 153, 255, 256, 257, 258, 50, 259, 260, 261, 262, 55, 263, 264, 149, 273, 31, 274, 275, 59, 62, 60, 493, 494, 495, 496, 497, 498, 499, 500, 501, 502, 503, 504, 505, 506, 511, 512, 513, 514, 515, 516, 517, 518, 519, 520] (by decide +kernel) (by decide +kernel)
set_option maxRecDepth 20000 in
theorem gL_law_X5_tune : GoodIn wsL_law (wsV RL 53 RX5 yX5_tune wsX5_tune) := goodIn_app (goodIn_of _ (by decide +kernel)) ggL_law_X5_tune
set_option maxRecDepth 20000 in
theorem ggL_law_X5_say : GoodIn wsL_law wsX5_say := goodIn_r _ [279, 32, 27, 280, 281, 282, 2, 283, 211, 212, 213, 214, 219, 147, 220, 284, 26, 285, 286, 52, 176, 177, 152, 287, 288, 289, 249, 250, 251, 242, 243, 244, 245, 252, 253, 254, 150, 151, 153, 255, 256, 257, 258, 49, 50, 164, 165, 259, 260, 261, 262, 55, 263, 264, 149, 273, 31, 274, 275, 59, 62, 60, 493, 494, 495, 496, 497, 498, 499, 500, 501, 502, 503, 504, 505, 506, 518, 519, 520, 511, 512, 513, 514, 515, 516, 517] (by decide +kernel) (by decide +kernel)
set_option maxRecDepth 20000 in
theorem gL_law_X5_say : GoodIn wsL_law (wsV RL 66 RX5 yX5_say wsX5_say) := goodIn_app (goodIn_of _ (by decide +kernel)) ggL_law_X5_say
set_option maxRecDepth 20000 in
theorem ggL_law_X5_ice : GoodIn wsL_law wsX5_ice := goodIn_r _ [293, 32, 27, 280, 281, 282, 2, 283, 211, 212, 213, 214, 219, 147, 220, 294, 26, 295, 296, 176, 177, 152, 249, 250, 251, 242, 243, 244, 245, 252, 253, 254, 150, 151, 153, 255, 256, 257, 258, 49, 50, 164, 165, 259, 260, 261, 262, 52, 55, 263, 264, 149, 273, 31, 274, 275, 59, 62, 60, 493, 494, 495, 496, 497, 498, 499, 500, 501, 502, 503, 504, 505, 506, 518, 519, 520, 511, 512, 513, 514, 515, 516, 517] (by decide +kernel) (by decide +kernel)
set_option maxRecDepth 20000 in
theorem gL_law_X5_ice : GoodIn wsL_law (wsV RL 69 RX5 yX5_ice wsX5_ice) := goodIn_app (goodIn_of _ (by decide +kernel)) ggL_law_X5_ice
set_option maxRecDepth 20000 in
theorem ggL_law_L_many : GoodIn wsL_law wsL_many := goodIn_r _ [299] (by decide +kernel) (by decide +kernel)
