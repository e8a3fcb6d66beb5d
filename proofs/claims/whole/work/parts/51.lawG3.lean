set_option maxRecDepth 20000 in
theorem ggL_law_X5_odds : GoodIn wsL_law wsX5_odds := goodIn_r _ [803, 27, 32, 594, 595, 596, 2, 597, 602, 599, 603, 604, 598, 600, 430, 26, 431, 432, 49, 52, 51, 320, 289, 321, 318, 319, 294, 365, 366, 367, 368, 369, 370, 371, 372, 373, 374, 375, 376, 377, 378, 379, 380, 381, 382, 383, 292, 293, 295, 433, 434, 435, 436, 50, 325, 326, 437, 438, 439, 440, 55, 441, 442, 291, 601, 804, 805, 806, 807, 37, 38, 808, 928, 929, 930, 931, 932, 933, 934, 935, 936, 937, 938, 939, 940, 941, 980, 981, 982, 973, 974, 975, 976, 977, 978, 979] (by decide +kernel) (by decide +kernel)
set_option maxRecDepth 20000 in
theorem gL_law_X5_odds : GoodIn wsL_law (wsV RL 159 RX5 yX5_odds wsX5_odds) := goodIn_app (goodIn_of _ (by decide +kernel)) ggL_law_X5_odds
set_option maxRecDepth 20000 in
theorem ggL_law_X6_odds : GoodIn wsL_law wsX6_odds := goodIn_r _ [812, 303, 610, 611, 5, 612, 613, 109, 110, 111, 614, 615, 616, 617, 618, 619, 620, 82, 74, 547, 548, 549, 550, 454, 455, 456, 457, 458, 459, 460, 72, 71, 340, 341, 342, 407, 408, 409, 400, 401, 402, 410, 411, 412, 461, 462, 463, 464, 304, 343, 344, 345, 346, 347, 348, 349, 350, 351, 352, 353, 354, 73, 621, 622, 623, 813, 814, 815, 816, 609, 79, 942, 943, 944, 945, 946, 947, 948, 949, 950, 951, 952, 953, 954, 955, 956, 957, 958, 959, 960, 961, 962, 963, 964, 965, 966, 967, 968] (by decide +kernel) (by decide +kernel)
set_option maxRecDepth 20000 in
theorem gL_law_X6_odds : GoodIn wsL_law (wsV RL 162 RX6 yX6_odds wsX6_odds) := goodIn_app (goodIn_of _ (by decide +kernel)) ggL_law_X6_odds
set_option maxRecDepth 20000 in
theorem ggL_law_X5_mid : GoodIn wsL_law wsX5_mid := goodIn_r _ [820, 32, 27, 594, 595, 596, 2, 597, 628, 289, 629, 630, 325, 326, 631, 632, 633, 634, 635, 636, 637, 821, 599, 822, 430, 26, 431, 432, 49, 52, 51, 320, 321, 318, 319, 294, 365, 366, 367, 368, 369, 370, 371, 372, 373, 374, 375, 376, 377, 378, 379, 380, 381, 382, 383, 292, 293, 295, 433, 434, 435, 436, 50, 437, 438, 439, 440, 55, 441, 442, 291, 823, 804, 805, 806, 807, 37, 38, 808, 928, 929, 930, 931, 932, 933, 934, 935, 936, 937, 938, 939, 940, 941, 980, 981, 982, 973, 974, 975, 976, 977, 978, 979] (by decide +kernel) (by decide +kernel)
set_option maxRecDepth 20000 in
theorem gL_law_X5_mid : GoodIn wsL_law (wsV RL 163 RX5 yX5_mid wsX5_mid) := goodIn_app (goodIn_of _ (by decide +kernel)) ggL_law_X5_mid
set_option maxRecDepth 20000 in
theorem ggL_law_X6_mid : GoodIn wsL_law wsX6_mid := goodIn_r _ [827, 303, 610, 611, 5, 612, 613, 109, 110, 111, 614, 615, 616, 617, 618, 619, 620, 82, 74, 547, 548, 549, 550, 454, 455, 456, 457, 458, 459, 460, 72, 71, 340, 341, 342, 407, 408, 409, 400, 401, 402, 410, 411, 412, 461, 462, 463, 464, 304, 343, 344, 345, 346, 347, 348, 349, 350, 351, 352, 353, 354, 73, 621, 622, 623, 813, 814, 815, 816, 609, 79, 942, 943, 944, 945, 946, 947, 948, 949, 950, 951, 952, 953, 954, 955, 956, 957, 958, 959, 960, 961, 962, 963, 964, 965, 966, 967, 968] (by decide +kernel) (by decide +kernel)
set_option maxRecDepth 20000 in
theorem gL_law_X6_mid : GoodIn wsL_law (wsV RL 166 RX6 yX6_mid wsX6_mid) := goodIn_app (goodIn_of _ (by decide +kernel)) ggL_law_X6_mid
set_option maxRecDepth 20000 in
theorem ggL_law_X5_lots : GoodIn wsL_law wsX5_lots := goodIn_r _ [831, 832, 27, 32, 833, 834, 835, 628, 289, 629, 630, 325, 326, 631, 632, 633, 634, 635, 636, 637, 430, 26, 431, 432, 49, 52, 51, 320, 321, 318, 319, 294, 365, 366, 367, 368, 369, 370, 371, 372, 373, 374, 375, 376, 377, 378, 379, 380, 381, 382, 383, 292, 293, 295, 433, 434, 435, 436, 50, 437, 438, 439, 440, 55, 441, 442, 291, 443, 31, 444, 445, 59, 62, 60, 928, 929, 930, 931, 932, 933, 934, 935, 936, 937, 938, 939, 940, 941, 973, 974, 975, 976, 977, 978, 979, 980, 981, 982] (by decide +kernel) (by decide +kernel)
set_option maxRecDepth 20000 in
theorem gL_law_X5_lots : GoodIn wsL_law (wsV RL 167 RX5 yX5_lots wsX5_lots) := goodIn_app (goodIn_of _ (by decide +kernel)) ggL_law_X5_lots
set_option maxRecDepth 20000 in
theorem ggL_law_X6_lots : GoodIn wsL_law wsX6_lots := goodIn_r _ [839, 749, 840, 303, 305, 841, 842, 74, 843, 331, 109, 110, 5, 111, 450, 451, 452, 453, 75, 454, 455, 456, 457, 458, 459, 460, 72, 71, 340, 341, 342, 407, 408, 409, 400, 401, 402, 410, 411, 412, 461, 462, 463, 464, 304, 343, 344, 345, 346, 347, 348, 349, 350, 351, 352, 353, 354, 73, 621, 622, 623, 942, 943, 944, 945, 946, 947, 948, 949, 950, 951, 952, 953, 954, 955, 956, 957, 958, 959, 960, 961, 962, 963, 964, 965, 966, 967, 968] (by decide +kernel) (by decide +kernel)
set_option maxRecDepth 20000 in
theorem gL_law_X6_lots : GoodIn wsL_law (wsV RL 170 RX6 yX6_lots wsX6_lots) := goodIn_app (goodIn_of _ (by decide +kernel)) ggL_law_X6_lots
set_option maxRecDepth 20000 in
theorem ggL_law_X5_asked : GoodIn wsL_law wsX5_asked := goodIn_r _ [847, 36, 928, 929, 930, 931, 932, 933, 934, 935, 936, 937, 938, 939, 940, 941] (by decide +kernel) (by decide +kernel)
set_option maxRecDepth 20000 in
theorem gL_law_X5_asked : GoodIn wsL_law (wsV RL 171 RX5 yX5_asked wsX5_asked) := goodIn_app (goodIn_of _ (by decide +kernel)) ggL_law_X5_asked
set_option maxRecDepth 20000 in
theorem ggL_law_X6_asked : GoodIn wsL_law wsX6_asked := goodIn_r _ [851, 133, 942, 943, 944, 945, 946, 947, 948, 949, 950, 951, 952, 953, 954, 955, 956, 957, 958, 959, 960, 961, 962, 963, 964, 965, 966, 967, 968] (by decide +kernel) (by decide +kernel)
set_option maxRecDepth 20000 in
theorem gL_law_X6_asked : GoodIn wsL_law (wsV RL 174 RX6 yX6_asked wsX6_asked) := goodIn_app (goodIn_of _ (by decide +kernel)) ggL_law_X6_asked
set_option maxRecDepth 20000 in
theorem ggL_law_X5_upper : GoodIn wsL_law wsX5_upper := goodIn_r _ [855, 37, 928, 929, 930, 931, 932, 933, 934, 935, 936, 937, 938, 939, 940, 941] (by decide +kernel) (by decide +kernel)
set_option maxRecDepth 20000 in
theorem gL_law_X5_upper : GoodIn wsL_law (wsV RL 175 RX5 yX5_upper wsX5_upper) := goodIn_app (goodIn_of _ (by decide +kernel)) ggL_law_X5_upper
set_option maxRecDepth 20000 in
theorem ggL_law_X6_upper : GoodIn wsL_law wsX6_upper := goodIn_r _ [859, 609, 942, 943, 944, 945, 946, 947, 948, 949, 950, 951, 952, 953, 954, 955, 956, 957, 958, 959, 960, 961, 962, 963, 964, 965, 966, 967, 968] (by decide +kernel) (by decide +kernel)
set_option maxRecDepth 20000 in
theorem gL_law_X6_upper : GoodIn wsL_law (wsV RL 179 RX6 yX6_upper wsX6_upper) := goodIn_app (goodIn_of _ (by decide +kernel)) ggL_law_X6_upper
set_option maxRecDepth 20000 in
theorem ggL_law_X5_lower : GoodIn wsL_law wsX5_lower := goodIn_r _ [863, 38, 928, 929, 930, 931, 932, 933, 934, 935, 936, 937, 938, 939, 940, 941] (by decide +kernel) (by decide +kernel)
set_option maxRecDepth 20000 in
theorem gL_law_X5_lower : GoodIn wsL_law (wsV RL 180 RX5 yX5_lower wsX5_lower) := goodIn_app (goodIn_of _ (by decide +kernel)) ggL_law_X5_lower
set_option maxRecDepth 20000 in
theorem ggL_law_X6_lower : GoodIn wsL_law wsX6_lower := goodIn_r _ [867, 79, 942, 943, 944, 945, 946, 947, 948, 949, 950, 951, 952, 953, 954, 955, 956, 957, 958, 959, 960, 961, 962, 963, 964, 965, 966, 967, 968] (by decide +kernel) (by decide +kernel)
set_option maxRecDepth 20000 in
theorem gL_law_X6_lower : GoodIn wsL_law (wsV RL 183 RX6 yX6_lower wsX6_lower) := goodIn_app (goodIn_of _ (by decide +kernel)) ggL_law_X6_lower
set_option maxRecDepth 20000 in
theorem ggL_law_X5_count : GoodIn wsL_law wsX5_count := goodIn_r _ [871, 27, 32, 15, 19, 628, 289, 629, 630, 325, 326, 631, 632, 633, 634, 635, 636, 637, 540, 541, 542, 318, 319, 294, 872, 26, 873, 874, 49, 52, 360, 2, 361, 875, 876, 877, 878, 879, 880, 881, 33, 928, 929, 930, 931, 932, 933, 934, 935, 936, 937, 938, 939, 940, 941, 973, 974, 975, 976, 977, 978, 979, 980, 981, 982] (by decide +kernel) (by decide +kernel)
set_option maxRecDepth 20000 in
theorem gL_law_X5_count : GoodIn wsL_law (wsV RL 184 RX5 yX5_count wsX5_count) := goodIn_app (goodIn_of _ (by decide +kernel)) ggL_law_X5_count
set_option maxRecDepth 20000 in
theorem ggL_law_X6_count : GoodIn wsL_law wsX6_count := goodIn_r _ [885, 886, 109, 110, 5, 111, 887, 888, 889, 890, 67, 69, 78, 303, 304, 305, 74, 343, 344, 345, 346, 347, 348, 349, 350, 621, 622, 623, 551, 552, 553, 891, 892, 893, 894, 72, 400, 401, 402, 942, 943, 944, 945, 946, 947, 948, 949, 950, 951, 952, 953, 954, 955, 956, 957, 958, 959, 960, 961, 962, 963, 964, 965, 966, 967, 968] (by decide +kernel) (by decide +kernel)
set_option maxRecDepth 20000 in
theorem gL_law_X6_count : GoodIn wsL_law (wsV RL 187 RX6 yX6_count wsX6_count) := goodIn_app (goodIn_of _ (by decide +kernel)) ggL_law_X6_count
set_option maxRecDepth 20000 in
theorem ggL_law_X5_finding : GoodIn wsL_law wsX5_finding := goodIn_r _ [898, 35, 928, 929, 930, 931, 932, 933, 934, 935, 936, 937, 938, 939, 940, 941] (by decide +kernel) (by decide +kernel)
set_option maxRecDepth 20000 in
theorem gL_law_X5_finding : GoodIn wsL_law (wsV RL 188 RX5 yX5_finding wsX5_finding) := goodIn_app (goodIn_of _ (by decide +kernel)) ggL_law_X5_finding
set_option maxRecDepth 20000 in
theorem ggL_law_X6_finding : GoodIn wsL_law wsX6_finding := goodIn_r _ [902, 116, 942, 943, 944, 945, 946, 947, 948, 949, 950, 951, 952, 953, 954, 955, 956, 957, 958, 959, 960, 961, 962, 963, 964, 965, 966, 967, 968] (by decide +kernel) (by decide +kernel)
set_option maxRecDepth 20000 in
theorem gL_law_X6_finding : GoodIn wsL_law (wsV RL 191 RX6 yX6_finding wsX6_finding) := goodIn_app (goodIn_of _ (by decide +kernel)) ggL_law_X6_finding
set_option maxRecDepth 20000 in
theorem ggL_law_X5_findings : GoodIn wsL_law wsX5_findings := goodIn_r _ [906, 34, 928, 929, 930, 931, 932, 933, 934, 935, 936, 937, 938, 939, 940, 941] (by decide +kernel) (by decide +kernel)
set_option maxRecDepth 20000 in
theorem gL_law_X5_findings : GoodIn wsL_law (wsV RL 192 RX5 yX5_findings wsX5_findings) := goodIn_app (goodIn_of _ (by decide +kernel)) ggL_law_X5_findings
set_option maxRecDepth 20000 in
theorem ggL_law_X6_findings : GoodIn wsL_law wsX6_findings := goodIn_r _ [910, 108, 80, 109, 110, 5, 111, 942, 943, 944, 945, 946, 947, 948, 949, 950, 951, 952, 953, 954, 955, 956, 957, 958, 959, 960, 961, 962, 963, 964, 965, 966, 967, 968] (by decide +kernel) (by decide +kernel)
set_option maxRecDepth 20000 in
theorem gL_law_X6_findings : GoodIn wsL_law (wsV RL 195 RX6 yX6_findings wsX6_findings) := goodIn_app (goodIn_of _ (by decide +kernel)) ggL_law_X6_findings
set_option maxRecDepth 20000 in
theorem ggL_law_X5_digest : GoodIn wsL_law wsX5_digest := goodIn_r _ [914, 915, 916, 15, 14, 19, 18, 917, 869, 870, 2, 871, 27, 32, 628, 289, 629, 630, 325, 326, 631, 632, 633, 634, 635, 636, 637, 540, 541, 542, 318, 319, 294, 872, 26, 873, 874, 49, 52, 360, 361, 875, 876, 877, 878, 879, 880, 881, 33, 918, 919, 920, 921, 314, 315, 316, 317, 320, 321, 322, 323, 324, 55, 928, 929, 930, 931, 932, 933, 934, 935, 936, 937, 938, 939, 940, 941, 973, 974, 975, 976, 977, 978, 979, 980, 981, 982] (by decide +kernel) (by decide +kernel)
set_option maxRecDepth 20000 in
theorem gL_law_X5_digest : GoodIn wsL_law (wsV RL 196 RX5 yX5_digest wsX5_digest) := goodIn_app (goodIn_of _ (by decide +kernel)) ggL_law_X5_digest
set_option maxRecDepth 20000 in
theorem ggL_law_X6_digest : GoodIn wsL_law wsX6_digest := goodIn_r _ [925, 926, 927, 71, 303, 78, 76, 67, 68, 69, 70, 887, 888, 889, 5, 890, 304, 305, 74, 343, 344, 345, 346, 347, 348, 349, 350, 621, 622, 623, 551, 552, 553, 891, 892, 893, 894, 72, 400, 401, 402, 336, 337, 338, 339, 73, 340, 341, 342, 351, 352, 353, 354, 942, 943, 944, 945, 946, 947, 948, 949, 950, 951, 952, 953, 954, 955, 956, 957, 958, 959, 960, 961, 962, 963, 964, 965, 966, 967, 968] (by decide +kernel) (by decide +kernel)
set_option maxRecDepth 20000 in
theorem gL_law_X6_digest : GoodIn wsL_law (wsV RL 199 RX6 yX6_digest wsX6_digest) := goodIn_app (goodIn_of _ (by decide +kernel)) ggL_law_X6_digest
