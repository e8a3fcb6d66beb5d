set_option maxRecDepth 20000 in
theorem ggL_law_X5_mark : GoodIn wsL_law wsX5_mark := goodIn_r _ [358, 27, 32, 310, 311, 312, 2, 313, 359, 360, 361, 93, 94, 95, 96, 35, 34, 320, 289, 321, 362, 26, 363, 364, 52, 51, 318, 319, 294, 365, 366, 367, 368, 369, 370, 371, 372, 373, 374, 375, 376, 377, 378, 379, 380, 381, 382, 383, 384, 385, 386, 387, 388, 389, 50, 390, 391, 392, 49, 393, 394, 395, 54, 928, 929, 930, 931, 932, 933, 934, 935, 936, 937, 938, 939, 940, 941, 973, 974, 975, 976, 977, 978, 979, 980, 981, 982] (by decide +kernel) (by decide +kernel)
set_option maxRecDepth 20000 in
theorem gL_law_X5_mark : GoodIn wsL_law (wsV RL 61 RX5 yX5_mark wsX5_mark) := goodIn_app (goodIn_of _ (by decide +kernel)) ggL_law_X5_mark
set_option maxRecDepth 20000 in
theorem ggL_law_X6_mark : GoodIn wsL_law wsX6_mark := goodIn_r _ [399, 108, 72, 74, 332, 333, 334, 5, 335, 303, 109, 110, 111, 400, 401, 402, 112, 113, 114, 115, 116, 80, 340, 341, 342, 403, 404, 405, 406, 71, 304, 73, 407, 408, 409, 410, 411, 412, 942, 943, 944, 945, 946, 947, 948, 949, 950, 951, 952, 953, 954, 955, 956, 957, 958, 959, 960, 961, 962, 963, 964, 965, 966, 967, 968] (by decide +kernel) (by decide +kernel)
set_option maxRecDepth 20000 in
theorem gL_law_X6_mark : GoodIn wsL_law (wsV RL 64 RX6 yX6_mark wsX6_mark) := goodIn_app (goodIn_of _ (by decide +kernel)) ggL_law_X6_mark
set_option maxRecDepth 20000 in
theorem ggL_law_X5_does : GoodIn wsL_law wsX5_does := goodIn_r _ [416, 27, 417, 222, 2, 223, 928, 929, 930, 931, 932, 933, 934, 935, 936, 937, 938, 939, 940, 941, 973, 974, 975, 976, 977, 978, 979] (by decide +kernel) (by decide +kernel)
set_option maxRecDepth 20000 in
theorem gL_law_X5_does : GoodIn wsL_law (wsV RL 65 RX5 yX5_does wsX5_does) := goodIn_app (goodIn_of _ (by decide +kernel)) ggL_law_X5_does
set_option maxRecDepth 20000 in
theorem ggL_law_X6_does : GoodIn wsL_law wsX6_does := goodIn_r _ [421, 422, 108, 303, 71, 423, 424, 5, 425, 184, 109, 110, 111, 942, 943, 944, 945, 946, 947, 948, 949, 950, 951, 952, 953, 954, 955, 956, 957, 958, 959, 960, 961, 962, 963, 964, 965, 966, 967, 968] (by decide +kernel) (by decide +kernel)
set_option maxRecDepth 20000 in
theorem gL_law_X6_does : GoodIn wsL_law (wsV RL 68 RX6 yX6_does wsX6_does) := goodIn_app (goodIn_of _ (by decide +kernel)) ggL_law_X6_does
set_option maxRecDepth 20000 in
theorem ggL_law_X5_tune : GoodIn wsL_law wsX5_tune := goodIn_r _ [429, 27, 32, 417, 222, 2, 223, 325, 289, 326, 430, 26, 431, 432, 49, 52, 51, 320, 321, 318, 319, 294, 365, 366, 367, 368, 369, 370, 371, 372, 373, 374, 375, 376, 377, 378, 379, 380, 381, 382, 383, 292, 293, 295, 433, 434, 435, 436, 50, 437, 438, 439, 440, 55, 441, 442, 291, 443, 31, 444, 445, 59, 62, 60, 928, 929, 930, 931, 932, 933, 934, 935, 936, 937, 938, 939, 940, 941, 973, 974, 975, 976, 977, 978, 979, 980, 981, 982] (by decide +kernel) (by decide +kernel)
set_option maxRecDepth 20000 in
theorem gL_law_X5_tune : GoodIn wsL_law (wsV RL 69 RX5 yX5_tune wsX5_tune) := goodIn_app (goodIn_of _ (by decide +kernel)) ggL_law_X5_tune
set_option maxRecDepth 20000 in
theorem ggL_law_X6_tune : GoodIn wsL_law wsX6_tune := goodIn_r _ [449, 303, 305, 74, 423, 424, 5, 425, 184, 109, 110, 111, 450, 451, 452, 453, 75, 454, 455, 456, 457, 458, 459, 460, 72, 71, 340, 341, 342, 407, 408, 409, 400, 401, 402, 410, 411, 412, 461, 462, 463, 464, 304, 343, 344, 345, 346, 347, 348, 349, 350, 351, 352, 353, 354, 73, 942, 943, 944, 945, 946, 947, 948, 949, 950, 951, 952, 953, 954, 955, 956, 957, 958, 959, 960, 961, 962, 963, 964, 965, 966, 967, 968] (by decide +kernel) (by decide +kernel)
set_option maxRecDepth 20000 in
theorem gL_law_X6_tune : GoodIn wsL_law (wsV RL 72 RX6 yX6_tune wsX6_tune) := goodIn_app (goodIn_of _ (by decide +kernel)) ggL_law_X6_tune
set_option maxRecDepth 20000 in
theorem ggL_law_X5_say : GoodIn wsL_law wsX5_say := goodIn_r _ [468, 32, 27, 469, 470, 471, 2, 472, 310, 311, 312, 313, 320, 289, 321, 473, 26, 474, 475, 52, 318, 319, 294, 476, 477, 478, 378, 379, 380, 371, 372, 373, 374, 381, 382, 383, 292, 293, 295, 433, 434, 435, 436, 49, 50, 325, 326, 437, 438, 439, 440, 55, 441, 442, 291, 443, 31, 444, 445, 59, 62, 60, 928, 929, 930, 931, 932, 933, 934, 935, 936, 937, 938, 939, 940, 941, 980, 981, 982, 973, 974, 975, 976, 977, 978, 979] (by decide +kernel) (by decide +kernel)
set_option maxRecDepth 20000 in
theorem gL_law_X5_say : GoodIn wsL_law (wsV RL 73 RX5 yX5_say wsX5_say) := goodIn_app (goodIn_of _ (by decide +kernel)) ggL_law_X5_say
set_option maxRecDepth 20000 in
theorem ggL_law_X6_say : GoodIn wsL_law wsX6_say := goodIn_r _ [482, 74, 72, 483, 484, 485, 5, 486, 305, 332, 333, 334, 335, 303, 109, 110, 111, 340, 341, 342, 450, 451, 452, 453, 75, 454, 455, 456, 487, 488, 489, 400, 401, 402, 410, 411, 412, 461, 462, 463, 464, 304, 343, 344, 345, 346, 347, 348, 349, 350, 351, 352, 353, 354, 73, 942, 943, 944, 945, 946, 947, 948, 949, 950, 951, 952, 953, 954, 955, 956, 957, 958, 959, 960, 961, 962, 963, 964, 965, 966, 967, 968] (by decide +kernel) (by decide +kernel)
set_option maxRecDepth 20000 in
theorem gL_law_X6_say : GoodIn wsL_law (wsV RL 76 RX6 yX6_say wsX6_say) := goodIn_app (goodIn_of _ (by decide +kernel)) ggL_law_X6_say
set_option maxRecDepth 20000 in
theorem ggL_law_X5_ice : GoodIn wsL_law wsX5_ice := goodIn_r _ [493, 32, 27, 469, 470, 471, 2, 472, 310, 311, 312, 313, 320, 289, 321, 494, 26, 495, 496, 318, 319, 294, 378, 379, 380, 371, 372, 373, 374, 381, 382, 383, 292, 293, 295, 433, 434, 435, 436, 49, 50, 325, 326, 437, 438, 439, 440, 52, 55, 441, 442, 291, 443, 31, 444, 445, 59, 62, 60, 928, 929, 930, 931, 932, 933, 934, 935, 936, 937, 938, 939, 940, 941, 980, 981, 982, 973, 974, 975, 976, 977, 978, 979] (by decide +kernel) (by decide +kernel)
set_option maxRecDepth 20000 in
theorem gL_law_X5_ice : GoodIn wsL_law (wsV RL 77 RX5 yX5_ice wsX5_ice) := goodIn_app (goodIn_of _ (by decide +kernel)) ggL_law_X5_ice
set_option maxRecDepth 20000 in
theorem ggL_law_X6_ice : GoodIn wsL_law wsX6_ice := goodIn_r _ [500, 74, 483, 484, 485, 5, 486, 305, 332, 333, 334, 335, 303, 109, 110, 111, 340, 341, 342, 450, 451, 452, 453, 75, 454, 455, 456, 410, 411, 412, 461, 462, 463, 464, 304, 72, 343, 344, 345, 346, 347, 348, 349, 350, 351, 352, 353, 354, 73, 942, 943, 944, 945, 946, 947, 948, 949, 950, 951, 952, 953, 954, 955, 956, 957, 958, 959, 960, 961, 962, 963, 964, 965, 966, 967, 968] (by decide +kernel) (by decide +kernel)
set_option maxRecDepth 20000 in
theorem gL_law_X6_ice : GoodIn wsL_law (wsV RL 80 RX6 yX6_ice wsX6_ice) := goodIn_app (goodIn_of _ (by decide +kernel)) ggL_law_X6_ice
set_option maxRecDepth 20000 in
theorem ggL_law_X5_undo : GoodIn wsL_law wsX5_undo := goodIn_r _ [504, 32, 505, 31, 506, 507, 59, 62, 60, 928, 929, 930, 931, 932, 933, 934, 935, 936, 937, 938, 939, 940, 941, 980, 981, 982] (by decide +kernel) (by decide +kernel)
set_option maxRecDepth 20000 in
theorem gL_law_X5_undo : GoodIn wsL_law (wsV RL 81 RX5 yX5_undo wsX5_undo) := goodIn_app (goodIn_of _ (by decide +kernel)) ggL_law_X5_undo
set_option maxRecDepth 20000 in
theorem ggL_law_X6_undo : GoodIn wsL_law wsX6_undo := goodIn_r _ [511, 305, 75, 74, 109, 110, 5, 111, 454, 455, 456, 942, 943, 944, 945, 946, 947, 948, 949, 950, 951, 952, 953, 954, 955, 956, 957, 958, 959, 960, 961, 962, 963, 964, 965, 966, 967, 968] (by decide +kernel) (by decide +kernel)
set_option maxRecDepth 20000 in
theorem gL_law_X6_undo : GoodIn wsL_law (wsV RL 84 RX6 yX6_undo wsX6_undo) := goodIn_app (goodIn_of _ (by decide +kernel)) ggL_law_X6_undo
set_option maxRecDepth 20000 in
theorem ggL_law_X5_keep : GoodIn wsL_law wsX5_keep := goodIn_r _ [515, 27, 33, 32, 516, 517, 2, 518, 519, 31, 520, 521, 59, 60, 62, 522, 155, 156, 157, 928, 929, 930, 931, 932, 933, 934, 935, 936, 937, 938, 939, 940, 941, 973, 974, 975, 976, 977, 978, 979, 980, 981, 982] (by decide +kernel) (by decide +kernel)
set_option maxRecDepth 20000 in
theorem gL_law_X5_keep : GoodIn wsL_law (wsV RL 85 RX5 yX5_keep wsX5_keep) := goodIn_app (goodIn_of _ (by decide +kernel)) ggL_law_X5_keep
set_option maxRecDepth 20000 in
theorem ggL_law_X6_keep : GoodIn wsL_law wsX6_keep := goodIn_r _ [526, 527, 303, 74, 76, 305, 75, 78, 109, 110, 5, 111, 454, 455, 456, 942, 943, 944, 945, 946, 947, 948, 949, 950, 951, 952, 953, 954, 955, 956, 957, 958, 959, 960, 961, 962, 963, 964, 965, 966, 967, 968] (by decide +kernel) (by decide +kernel)
set_option maxRecDepth 20000 in
theorem gL_law_X6_keep : GoodIn wsL_law (wsV RL 88 RX6 yX6_keep wsX6_keep) := goodIn_app (goodIn_of _ (by decide +kernel)) ggL_law_X6_keep
set_option maxRecDepth 20000 in
theorem ggL_law_X5_on : GoodIn wsL_law wsX5_on := goodIn_r _ [531, 33, 32, 516, 517, 2, 518, 93, 94, 95, 96, 35, 34, 519, 31, 520, 521, 59, 60, 62, 522, 155, 156, 157, 928, 929, 930, 931, 932, 933, 934, 935, 936, 937, 938, 939, 940, 941, 980, 981, 982] (by decide +kernel) (by decide +kernel)
set_option maxRecDepth 20000 in
theorem gL_law_X5_on : GoodIn wsL_law (wsV RL 89 RX5 yX5_on wsX5_on) := goodIn_app (goodIn_of _ (by decide +kernel)) ggL_law_X5_on
set_option maxRecDepth 20000 in
theorem ggL_law_X6_on : GoodIn wsL_law wsX6_on := goodIn_r _ [535, 527, 78, 76, 74, 305, 75, 109, 110, 5, 111, 112, 113, 114, 115, 116, 80, 454, 455, 456, 942, 943, 944, 945, 946, 947, 948, 949, 950, 951, 952, 953, 954, 955, 956, 957, 958, 959, 960, 961, 962, 963, 964, 965, 966, 967, 968] (by decide +kernel) (by decide +kernel)
set_option maxRecDepth 20000 in
theorem gL_law_X6_on : GoodIn wsL_law (wsV RL 92 RX6 yX6_on wsX6_on) := goodIn_app (goodIn_of _ (by decide +kernel)) ggL_law_X6_on
set_option maxRecDepth 20000 in
theorem ggL_law_X5_out : GoodIn wsL_law wsX5_out := goodIn_r _ [539, 27, 32, 36, 417, 222, 2, 223, 430, 26, 431, 432, 49, 52, 51, 320, 289, 321, 318, 319, 294, 365, 366, 367, 368, 369, 370, 371, 372, 373, 374, 375, 376, 377, 378, 379, 380, 381, 382, 383, 292, 293, 295, 433, 434, 435, 436, 50, 325, 326, 437, 438, 439, 440, 55, 441, 442, 291, 540, 541, 542, 928, 929, 930, 931, 932, 933, 934, 935, 936, 937, 938, 939, 940, 941, 980, 981, 982, 973, 974, 975, 976, 977, 978, 979] (by decide +kernel) (by decide +kernel)
set_option maxRecDepth 20000 in
theorem gL_law_X5_out : GoodIn wsL_law (wsV RL 93 RX5 yX5_out wsX5_out) := goodIn_app (goodIn_of _ (by decide +kernel)) ggL_law_X5_out
set_option maxRecDepth 20000 in
theorem ggL_law_X6_out : GoodIn wsL_law wsX6_out := goodIn_r _ [546, 82, 423, 424, 5, 425, 184, 109, 110, 111, 547, 548, 549, 550, 74, 454, 455, 456, 457, 458, 459, 460, 303, 72, 71, 340, 341, 342, 407, 408, 409, 400, 401, 402, 410, 411, 412, 461, 462, 463, 464, 304, 343, 344, 345, 346, 347, 348, 349, 350, 351, 352, 353, 354, 73, 551, 552, 553, 554, 555, 556, 557, 133, 942, 943, 944, 945, 946, 947, 948, 949, 950, 951, 952, 953, 954, 955, 956, 957, 958, 959, 960, 961, 962, 963, 964, 965, 966, 967, 968] (by decide +kernel) (by decide +kernel)
set_option maxRecDepth 20000 in
theorem gL_law_X6_out : GoodIn wsL_law (wsV RL 96 RX6 yX6_out wsX6_out) := goodIn_app (goodIn_of _ (by decide +kernel)) ggL_law_X6_out
set_option maxRecDepth 20000 in
theorem ggL_law_X5_safe : GoodIn wsL_law wsX5_safe := goodIn_r _ [561, 27, 32, 430, 26, 431, 432, 49, 52, 51, 320, 289, 321, 318, 319, 294, 365, 366, 367, 368, 369, 370, 371, 372, 373, 374, 375, 376, 377, 378, 379, 380, 381, 382, 383, 292, 293, 295, 433, 434, 435, 436, 50, 325, 326, 437, 438, 439, 440, 55, 441, 442, 291, 928, 929, 930, 931, 932, 933, 934, 935, 936, 937, 938, 939, 940, 941, 973, 974, 975, 976, 977, 978, 979, 980, 981, 982] (by decide +kernel) (by decide +kernel)
set_option maxRecDepth 20000 in
theorem gL_law_X5_safe : GoodIn wsL_law (wsV RL 97 RX5 yX5_safe wsX5_safe) := goodIn_app (goodIn_of _ (by decide +kernel)) ggL_law_X5_safe
set_option maxRecDepth 20000 in
theorem ggL_law_X6_safe : GoodIn wsL_law wsX6_safe := goodIn_r _ [565, 303, 82, 547, 548, 549, 5, 550, 74, 454, 455, 456, 457, 458, 459, 460, 72, 71, 340, 341, 342, 407, 408, 409, 400, 401, 402, 410, 411, 412, 461, 462, 463, 464, 304, 343, 344, 345, 346, 347, 348, 349, 350, 351, 352, 353, 354, 73, 942, 943, 944, 945, 946, 947, 948, 949, 950, 951, 952, 953, 954, 955, 956, 957, 958, 959, 960, 961, 962, 963, 964, 965, 966, 967, 968] (by decide +kernel) (by decide +kernel)
set_option maxRecDepth 20000 in
theorem gL_law_X6_safe : GoodIn wsL_law (wsV RL 101 RX6 yX6_safe wsX6_safe) := goodIn_app (goodIn_of _ (by decide +kernel)) ggL_law_X6_safe
set_option maxRecDepth 20000 in
theorem ggL_law_X5_falls : GoodIn wsL_law wsX5_falls := goodIn_r _ [569, 32, 15, 27, 14, 36, 90, 91, 2, 92, 570, 571, 572, 573, 417, 222, 223, 93, 94, 95, 96, 35, 34, 430, 26, 431, 432, 49, 52, 51, 320, 289, 321, 318, 319, 294, 365, 366, 367, 368, 369, 370, 371, 372, 373, 374, 375, 376, 377, 378, 379, 380, 381, 382, 383, 292, 293, 295, 433, 434, 435, 436, 50, 325, 326, 437, 438, 439, 440, 55, 441, 442, 291, 928, 929, 930, 931, 932, 933, 934, 935, 936, 937, 938, 939, 940, 941, 980, 981, 982, 973, 974, 975, 976, 977, 978, 979] (by decide +kernel) (by decide +kernel)
set_option maxRecDepth 20000 in
theorem gL_law_X5_falls : GoodIn wsL_law (wsV RL 102 RX5 yX5_falls wsX5_falls) := goodIn_app (goodIn_of _ (by decide +kernel)) ggL_law_X5_falls
set_option maxRecDepth 20000 in
theorem ggL_law_X6_falls : GoodIn wsL_law wsX6_falls := goodIn_r _ [577, 67, 82, 68, 105, 106, 5, 107, 108, 109, 110, 111, 578, 579, 580, 581, 112, 113, 114, 115, 116, 80, 423, 424, 425, 184, 547, 548, 549, 550, 74, 454, 455, 456, 457, 458, 459, 460, 303, 72, 71, 340, 341, 342, 407, 408, 409, 400, 401, 402, 410, 411, 412, 461, 462, 463, 464, 304, 343, 344, 345, 346, 347, 348, 349, 350, 351, 352, 353, 354, 73, 554, 555, 556, 557, 133, 942, 943, 944, 945, 946, 947, 948, 949, 950, 951, 952, 953, 954, 955, 956, 957, 958, 959, 960, 961, 962, 963, 964, 965, 966, 967, 968] (by decide +kernel) (by decide +kernel)
set_option maxRecDepth 20000 in
theorem gL_law_X6_falls : GoodIn wsL_law (wsV RL 105 RX6 yX6_falls wsX6_falls) := goodIn_app (goodIn_of _ (by decide +kernel)) ggL_law_X6_falls
set_option maxRecDepth 20000 in
theorem ggL_law_X5_grief : GoodIn wsL_law wsX5_grief := goodIn_r _ [585, 32, 15, 27, 14, 310, 311, 312, 2, 313, 90, 91, 92, 570, 571, 572, 573, 417, 222, 223, 93, 94, 95, 96, 35, 34, 430, 26, 431, 432, 49, 52, 51, 320, 289, 321, 318, 319, 294, 365, 366, 367, 368, 369, 370, 371, 372, 373, 374, 375, 376, 377, 378, 379, 380, 381, 382, 383, 292, 293, 295, 433, 434, 435, 436, 50, 325, 326, 437, 438, 439, 440, 55, 441, 442, 291, 928, 929, 930, 931, 932, 933, 934, 935, 936, 937, 938, 939, 940, 941, 980, 981, 982, 973, 974, 975, 976, 977, 978, 979] (by decide +kernel) (by decide +kernel)
set_option maxRecDepth 20000 in
theorem gL_law_X5_grief : GoodIn wsL_law (wsV RL 106 RX5 yX5_grief wsX5_grief) := goodIn_app (goodIn_of _ (by decide +kernel)) ggL_law_X5_grief
set_option maxRecDepth 20000 in
theorem ggL_law_X6_grief : GoodIn wsL_law wsX6_grief := goodIn_r _ [589, 67, 82, 68, 332, 333, 334, 5, 335, 303, 109, 110, 111, 105, 106, 107, 108, 578, 579, 580, 581, 112, 113, 114, 115, 116, 80, 423, 424, 425, 184, 547, 548, 549, 550, 74, 454, 455, 456, 457, 458, 459, 460, 72, 71, 340, 341, 342, 407, 408, 409, 400, 401, 402, 410, 411, 412, 461, 462, 463, 464, 304, 343, 344, 345, 346, 347, 348, 349, 350, 351, 352, 353, 354, 73, 942, 943, 944, 945, 946, 947, 948, 949, 950, 951, 952, 953, 954, 955, 956, 957, 958, 959, 960, 961, 962, 963, 964, 965, 966, 967, 968] (by decide +kernel) (by decide +kernel)
set_option maxRecDepth 20000 in
theorem gL_law_X6_grief : GoodIn wsL_law (wsV RL 109 RX6 yX6_grief wsX6_grief) := goodIn_app (goodIn_of _ (by decide +kernel)) ggL_law_X6_grief
