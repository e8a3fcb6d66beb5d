set_option maxRecDepth 20000 in
theorem ggL_law_X5_stay : GoodIn wsL_law wsX5_stay := goodIn_r _ [593, 27, 32, 36, 37, 38, 594, 595, 596, 2, 597, 598, 599, 600, 430, 26, 431, 432, 49, 52, 51, 320, 289, 321, 318, 319, 294, 365, 366, 367, 368, 369, 370, 371, 372, 373, 374, 375, 376, 377, 378, 379, 380, 381, 382, 383, 292, 293, 295, 433, 434, 435, 436, 50, 325, 326, 437, 438, 439, 440, 55, 441, 442, 291, 601, 602, 603, 604, 928, 929, 930, 931, 932, 933, 934, 935, 936, 937, 938, 939, 940, 941, 980, 981, 982, 973, 974, 975, 976, 977, 978, 979] (by decide +kernel) (by decide +kernel)
set_option maxRecDepth 20000 in
theorem gL_law_X5_stay : GoodIn wsL_law (wsV RL 110 RX5 yX5_stay wsX5_stay) := goodIn_app (goodIn_of _ (by decide +kernel)) ggL_law_X5_stay
set_option maxRecDepth 20000 in
theorem ggL_law_X6_stay : GoodIn wsL_law wsX6_stay := goodIn_r _ [608, 303, 609, 79, 610, 611, 5, 612, 613, 109, 110, 111, 614, 615, 616, 617, 618, 619, 620, 82, 74, 547, 548, 549, 550, 454, 455, 456, 457, 458, 459, 460, 72, 71, 340, 341, 342, 407, 408, 409, 400, 401, 402, 410, 411, 412, 461, 462, 463, 464, 304, 343, 344, 345, 346, 347, 348, 349, 350, 351, 352, 353, 354, 73, 621, 622, 623, 129, 130, 131, 132, 133, 942, 943, 944, 945, 946, 947, 948, 949, 950, 951, 952, 953, 954, 955, 956, 957, 958, 959, 960, 961, 962, 963, 964, 965, 966, 967, 968] (by decide +kernel) (by decide +kernel)
set_option maxRecDepth 20000 in
theorem gL_law_X6_stay : GoodIn wsL_law (wsV RL 113 RX6 yX6_stay wsX6_stay) := goodIn_app (goodIn_of _ (by decide +kernel)) ggL_law_X6_stay
set_option maxRecDepth 20000 in
theorem ggL_law_X5_first : GoodIn wsL_law wsX5_first := goodIn_r _ [627, 27, 32, 90, 91, 2, 92, 594, 595, 596, 597, 628, 289, 629, 630, 325, 326, 631, 632, 633, 634, 635, 636, 637, 638, 599, 639, 430, 26, 431, 432, 49, 52, 51, 320, 321, 318, 319, 294, 365, 366, 367, 368, 369, 370, 371, 372, 373, 374, 375, 376, 377, 378, 379, 380, 381, 382, 383, 292, 293, 295, 433, 434, 435, 436, 50, 437, 438, 439, 440, 55, 441, 442, 291, 640, 641, 642, 643, 644, 14, 97, 98, 99, 100, 15, 928, 929, 930, 931, 932, 933, 934, 935, 936, 937, 938, 939, 940, 941, 980, 981, 982, 973, 974, 975, 976, 977, 978, 979] (by decide +kernel) (by decide +kernel)
set_option maxRecDepth 20000 in
theorem gL_law_X5_first : GoodIn wsL_law (wsV RL 114 RX5 yX5_first wsX5_first) := goodIn_app (goodIn_of _ (by decide +kernel)) ggL_law_X5_first
set_option maxRecDepth 20000 in
theorem ggL_law_X6_first : GoodIn wsL_law wsX6_first := goodIn_r _ [648, 303, 610, 611, 5, 612, 613, 109, 110, 111, 105, 106, 107, 108, 614, 615, 616, 617, 618, 619, 620, 82, 74, 547, 548, 549, 550, 454, 455, 456, 457, 458, 459, 460, 72, 71, 340, 341, 342, 407, 408, 409, 400, 401, 402, 410, 411, 412, 461, 462, 463, 464, 304, 343, 344, 345, 346, 347, 348, 349, 350, 351, 352, 353, 354, 73, 621, 622, 623, 649, 650, 651, 652, 67, 68, 942, 943, 944, 945, 946, 947, 948, 949, 950, 951, 952, 953, 954, 955, 956, 957, 958, 959, 960, 961, 962, 963, 964, 965, 966, 967, 968] (by decide +kernel) (by decide +kernel)
set_option maxRecDepth 20000 in
theorem gL_law_X6_first : GoodIn wsL_law (wsV RL 117 RX6 yX6_first wsX6_first) := goodIn_app (goodIn_of _ (by decide +kernel)) ggL_law_X6_first
set_option maxRecDepth 20000 in
theorem ggL_law_X5_fewest : GoodIn wsL_law wsX5_fewest := goodIn_r _ [656, 27, 32, 90, 91, 2, 92, 594, 595, 596, 597, 657, 599, 658, 659, 382, 373, 383, 628, 289, 629, 630, 325, 326, 631, 632, 633, 634, 635, 636, 637, 430, 26, 431, 432, 49, 52, 51, 320, 321, 318, 319, 294, 365, 366, 367, 368, 369, 370, 371, 372, 374, 375, 376, 377, 378, 379, 380, 381, 292, 293, 295, 433, 434, 435, 436, 50, 437, 438, 439, 440, 55, 441, 442, 291, 660, 638, 639, 640, 641, 642, 643, 644, 14, 97, 98, 99, 100, 15, 928, 929, 930, 931, 932, 933, 934, 935, 936, 937, 938, 939, 940, 941, 980, 981, 982, 973, 974, 975, 976, 977, 978, 979] (by decide +kernel) (by decide +kernel)
set_option maxRecDepth 20000 in
theorem gL_law_X5_fewest : GoodIn wsL_law (wsV RL 118 RX5 yX5_fewest wsX5_fewest) := goodIn_app (goodIn_of _ (by decide +kernel)) ggL_law_X5_fewest
set_option maxRecDepth 20000 in
theorem ggL_law_X6_fewest : GoodIn wsL_law wsX6_fewest := goodIn_r _ [664, 303, 665, 610, 611, 5, 612, 613, 109, 110, 111, 105, 106, 107, 108, 614, 615, 616, 617, 618, 619, 620, 82, 74, 547, 548, 549, 550, 454, 455, 456, 457, 458, 459, 460, 72, 71, 340, 341, 342, 407, 408, 409, 400, 401, 402, 410, 411, 412, 461, 462, 463, 464, 304, 343, 344, 345, 346, 347, 348, 349, 350, 351, 352, 353, 354, 73, 621, 622, 623, 649, 650, 651, 652, 67, 68, 942, 943, 944, 945, 946, 947, 948, 949, 950, 951, 952, 953, 954, 955, 956, 957, 958, 959, 960, 961, 962, 963, 964, 965, 966, 967, 968] (by decide +kernel) (by decide +kernel)
set_option maxRecDepth 20000 in
theorem gL_law_X6_fewest : GoodIn wsL_law (wsV RL 121 RX6 yX6_fewest wsX6_fewest) := goodIn_app (goodIn_of _ (by decide +kernel)) ggL_law_X6_fewest
set_option maxRecDepth 20000 in
theorem ggL_law_X5_gay : GoodIn wsL_law wsX5_gay := goodIn_r _ [669, 27, 32, 670, 599, 671, 540, 289, 541, 542, 318, 319, 294, 430, 26, 431, 432, 49, 52, 51, 320, 321, 365, 366, 367, 368, 369, 370, 371, 372, 373, 374, 375, 376, 377, 378, 379, 380, 381, 382, 383, 292, 293, 295, 433, 434, 435, 436, 50, 325, 326, 437, 438, 439, 440, 55, 441, 442, 291, 672, 928, 929, 930, 931, 932, 933, 934, 935, 936, 937, 938, 939, 940, 941, 973, 974, 975, 976, 977, 978, 979, 980, 981, 982] (by decide +kernel) (by decide +kernel)
set_option maxRecDepth 20000 in
theorem gL_law_X5_gay : GoodIn wsL_law (wsV RL 122 RX5 yX5_gay wsX5_gay) := goodIn_app (goodIn_of _ (by decide +kernel)) ggL_law_X5_gay
set_option maxRecDepth 20000 in
theorem ggL_law_X6_gay : GoodIn wsL_law wsX6_gay := goodIn_r _ [676, 303, 82, 614, 615, 5, 616, 617, 618, 619, 620, 74, 547, 548, 549, 550, 454, 455, 456, 457, 458, 459, 460, 72, 71, 340, 341, 342, 407, 408, 409, 400, 401, 402, 410, 411, 412, 461, 462, 463, 464, 304, 343, 344, 345, 346, 347, 348, 349, 350, 351, 352, 353, 354, 73, 621, 622, 623, 551, 552, 553, 942, 943, 944, 945, 946, 947, 948, 949, 950, 951, 952, 953, 954, 955, 956, 957, 958, 959, 960, 961, 962, 963, 964, 965, 966, 967, 968] (by decide +kernel) (by decide +kernel)
set_option maxRecDepth 20000 in
theorem gL_law_X6_gay : GoodIn wsL_law (wsV RL 125 RX6 yX6_gay wsX6_gay) := goodIn_app (goodIn_of _ (by decide +kernel)) ggL_law_X6_gay
set_option maxRecDepth 20000 in
theorem ggL_law_X5_ices : GoodIn wsL_law wsX5_ices := goodIn_r _ [680, 27, 90, 91, 2, 92, 570, 571, 572, 573, 15, 14, 417, 222, 223, 93, 94, 95, 96, 35, 34, 681, 682, 683, 684, 32, 325, 289, 326, 438, 26, 439, 440, 52, 55, 318, 319, 294, 379, 380, 371, 372, 373, 374, 381, 382, 383, 685, 686, 687, 51, 50, 365, 366, 367, 368, 369, 370, 375, 376, 377, 378, 928, 929, 930, 931, 932, 933, 934, 935, 936, 937, 938, 939, 940, 941, 973, 974, 975, 976, 977, 978, 979, 980, 981, 982] (by decide +kernel) (by decide +kernel)
set_option maxRecDepth 20000 in
theorem gL_law_X5_ices : GoodIn wsL_law (wsV RL 126 RX5 yX5_ices wsX5_ices) := goodIn_app (goodIn_of _ (by decide +kernel)) ggL_law_X5_ices
set_option maxRecDepth 20000 in
theorem ggL_law_X6_ices : GoodIn wsL_law wsX6_ices := goodIn_r _ [691, 303, 74, 105, 106, 5, 107, 108, 109, 110, 111, 578, 579, 580, 581, 67, 68, 112, 113, 114, 115, 116, 80, 423, 424, 425, 184, 340, 341, 342, 692, 693, 694, 695, 72, 71, 304, 410, 411, 412, 343, 344, 345, 346, 347, 348, 349, 350, 351, 352, 353, 354, 73, 407, 408, 409, 400, 401, 402, 942, 943, 944, 945, 946, 947, 948, 949, 950, 951, 952, 953, 954, 955, 956, 957, 958, 959, 960, 961, 962, 963, 964, 965, 966, 967, 968] (by decide +kernel) (by decide +kernel)
set_option maxRecDepth 20000 in
theorem gL_law_X6_ices : GoodIn wsL_law (wsV RL 129 RX6 yX6_ices wsX6_ices) := goodIn_app (goodIn_of _ (by decide +kernel)) ggL_law_X6_ices
set_option maxRecDepth 20000 in
theorem ggL_law_X5_aunt : GoodIn wsL_law wsX5_aunt := goodIn_r _ [699, 27, 32, 628, 289, 629, 630, 325, 326, 631, 632, 633, 634, 635, 636, 637, 700, 599, 701, 659, 382, 373, 383, 430, 26, 431, 432, 49, 52, 51, 320, 321, 318, 319, 294, 365, 366, 367, 368, 369, 370, 371, 372, 374, 375, 376, 377, 378, 379, 380, 381, 292, 293, 295, 433, 434, 435, 436, 50, 437, 438, 439, 440, 55, 441, 442, 291, 702, 703, 704, 705, 473, 474, 475, 476, 477, 478, 706, 928, 929, 930, 931, 932, 933, 934, 935, 936, 937, 938, 939, 940, 941, 973, 974, 975, 976, 977, 978, 979, 980, 981, 982] (by decide +kernel) (by decide +kernel)
set_option maxRecDepth 20000 in
theorem gL_law_X5_aunt : GoodIn wsL_law (wsV RL 130 RX5 yX5_aunt wsX5_aunt) := goodIn_app (goodIn_of _ (by decide +kernel)) ggL_law_X5_aunt
set_option maxRecDepth 20000 in
theorem ggL_law_X6_aunt : GoodIn wsL_law wsX6_aunt := goodIn_r _ [710, 184, 303, 74, 83, 84, 85, 82, 109, 110, 5, 111, 454, 455, 456, 711, 712, 713, 714, 665, 715, 716, 717, 718, 719, 720, 721, 722, 72, 343, 344, 345, 346, 347, 348, 349, 350, 457, 458, 459, 460, 71, 340, 341, 342, 407, 408, 409, 400, 401, 402, 410, 411, 412, 461, 462, 463, 464, 304, 351, 352, 353, 354, 73, 487, 488, 489, 621, 622, 623, 942, 943, 944, 945, 946, 947, 948, 949, 950, 951, 952, 953, 954, 955, 956, 957, 958, 959, 960, 961, 962, 963, 964, 965, 966, 967, 968] (by decide +kernel) (by decide +kernel)
set_option maxRecDepth 20000 in
theorem gL_law_X6_aunt : GoodIn wsL_law (wsV RL 133 RX6 yX6_aunt wsX6_aunt) := goodIn_app (goodIn_of _ (by decide +kernel)) ggL_law_X6_aunt
set_option maxRecDepth 20000 in
theorem ggL_law_X5_kinds : GoodIn wsL_law wsX5_kinds := goodIn_r _ [726, 32, 27, 14, 15, 727, 728, 729, 2, 730, 310, 311, 312, 313, 90, 91, 92, 320, 289, 321, 731, 732, 733, 734, 417, 222, 223, 735, 736, 737, 93, 94, 95, 96, 35, 34, 318, 319, 294, 738, 26, 739, 740, 51, 365, 366, 367, 368, 369, 370, 371, 372, 373, 374, 375, 376, 377, 378, 379, 380, 381, 382, 383, 928, 929, 930, 931, 932, 933, 934, 935, 936, 937, 938, 939, 940, 941, 980, 981, 982, 973, 974, 975, 976, 977, 978, 979] (by decide +kernel) (by decide +kernel)
set_option maxRecDepth 20000 in
theorem gL_law_X5_kinds : GoodIn wsL_law (wsV RL 134 RX5 yX5_kinds wsX5_kinds) := goodIn_app (goodIn_of _ (by decide +kernel)) ggL_law_X5_kinds
set_option maxRecDepth 20000 in
theorem ggL_law_X6_kinds : GoodIn wsL_law wsX6_kinds := goodIn_r _ [744, 74, 745, 746, 747, 5, 748, 67, 68, 749, 332, 333, 334, 335, 303, 109, 110, 111, 105, 106, 107, 108, 340, 341, 342, 112, 113, 114, 115, 116, 80, 423, 424, 425, 184, 750, 751, 752, 753, 71, 407, 408, 409, 400, 401, 402, 410, 411, 412, 942, 943, 944, 945, 946, 947, 948, 949, 950, 951, 952, 953, 954, 955, 956, 957, 958, 959, 960, 961, 962, 963, 964, 965, 966, 967, 968] (by decide +kernel) (by decide +kernel)
set_option maxRecDepth 20000 in
theorem gL_law_X6_kinds : GoodIn wsL_law (wsV RL 137 RX6 yX6_kinds wsX6_kinds) := goodIn_app (goodIn_of _ (by decide +kernel)) ggL_law_X6_kinds
set_option maxRecDepth 20000 in
theorem ggL_law_X5_came : GoodIn wsL_law wsX5_came := goodIn_r _ [757, 27, 14, 15, 727, 728, 729, 2, 730, 32, 310, 311, 312, 313, 90, 91, 92, 320, 289, 321, 731, 732, 733, 734, 417, 222, 223, 735, 736, 737, 93, 94, 95, 96, 35, 34, 738, 26, 739, 740, 51, 365, 366, 367, 368, 369, 370, 371, 372, 373, 374, 375, 376, 377, 378, 379, 380, 381, 382, 383, 928, 929, 930, 931, 932, 933, 934, 935, 936, 937, 938, 939, 940, 941, 973, 974, 975, 976, 977, 978, 979, 980, 981, 982] (by decide +kernel) (by decide +kernel)
set_option maxRecDepth 20000 in
theorem gL_law_X5_came : GoodIn wsL_law (wsV RL 138 RX5 yX5_came wsX5_came) := goodIn_app (goodIn_of _ (by decide +kernel)) ggL_law_X5_came
set_option maxRecDepth 20000 in
theorem ggL_law_X6_came : GoodIn wsL_law wsX6_came := goodIn_r _ [761, 72, 745, 746, 747, 5, 748, 74, 67, 68, 749, 332, 333, 334, 335, 303, 109, 110, 111, 105, 106, 107, 108, 340, 341, 342, 112, 113, 114, 115, 116, 80, 423, 424, 425, 184, 750, 751, 752, 753, 71, 407, 408, 409, 400, 401, 402, 410, 411, 412, 942, 943, 944, 945, 946, 947, 948, 949, 950, 951, 952, 953, 954, 955, 956, 957, 958, 959, 960, 961, 962, 963, 964, 965, 966, 967, 968] (by decide +kernel) (by decide +kernel)
set_option maxRecDepth 20000 in
theorem gL_law_X6_came : GoodIn wsL_law (wsV RL 141 RX6 yX6_came wsX6_came) := goodIn_app (goodIn_of _ (by decide +kernel)) ggL_law_X6_came
set_option maxRecDepth 20000 in
theorem ggL_law_X5_did : GoodIn wsL_law wsX5_did := goodIn_r _ [765, 27, 310, 311, 312, 2, 313, 417, 222, 223, 735, 736, 737, 366, 26, 367, 368, 369, 370, 371, 372, 373, 374, 375, 376, 377, 378, 379, 380, 381, 382, 383, 928, 929, 930, 931, 932, 933, 934, 935, 936, 937, 938, 939, 940, 941, 973, 974, 975, 976, 977, 978, 979] (by decide +kernel) (by decide +kernel)
set_option maxRecDepth 20000 in
theorem gL_law_X5_did : GoodIn wsL_law (wsV RL 142 RX5 yX5_did wsX5_did) := goodIn_app (goodIn_of _ (by decide +kernel)) ggL_law_X5_did
set_option maxRecDepth 20000 in
theorem ggL_law_X6_did : GoodIn wsL_law wsX6_did := goodIn_r _ [769, 749, 72, 332, 333, 334, 5, 335, 303, 109, 110, 111, 423, 424, 425, 184, 407, 408, 409, 400, 401, 402, 410, 411, 412, 942, 943, 944, 945, 946, 947, 948, 949, 950, 951, 952, 953, 954, 955, 956, 957, 958, 959, 960, 961, 962, 963, 964, 965, 966, 967, 968] (by decide +kernel) (by decide +kernel)
set_option maxRecDepth 20000 in
theorem gL_law_X6_did : GoodIn wsL_law (wsV RL 146 RX6 yX6_did wsX6_did) := goodIn_app (goodIn_of _ (by decide +kernel)) ggL_law_X6_did
set_option maxRecDepth 20000 in
theorem ggL_law_X5_wept : GoodIn wsL_law wsX5_wept := goodIn_r _ [773, 27, 32, 322, 26, 323, 324, 55, 325, 289, 326, 320, 321, 928, 929, 930, 931, 932, 933, 934, 935, 936, 937, 938, 939, 940, 941, 973, 974, 975, 976, 977, 978, 979, 980, 981, 982] (by decide +kernel) (by decide +kernel)
set_option maxRecDepth 20000 in
theorem gL_law_X5_wept : GoodIn wsL_law (wsV RL 147 RX5 yX5_wept wsX5_wept) := goodIn_app (goodIn_of _ (by decide +kernel)) ggL_law_X5_wept
set_option maxRecDepth 20000 in
theorem ggL_law_X6_wept : GoodIn wsL_law wsX6_wept := goodIn_r _ [777, 74, 303, 347, 348, 349, 5, 350, 109, 110, 111, 343, 344, 345, 346, 340, 341, 342, 351, 352, 353, 354, 73, 942, 943, 944, 945, 946, 947, 948, 949, 950, 951, 952, 953, 954, 955, 956, 957, 958, 959, 960, 961, 962, 963, 964, 965, 966, 967, 968] (by decide +kernel) (by decide +kernel)
set_option maxRecDepth 20000 in
theorem gL_law_X6_wept : GoodIn wsL_law (wsV RL 150 RX6 yX6_wept wsX6_wept) := goodIn_app (goodIn_of _ (by decide +kernel)) ggL_law_X6_wept
set_option maxRecDepth 20000 in
theorem ggL_law_X5_gets : GoodIn wsL_law wsX5_gets := goodIn_r _ [781, 32, 310, 311, 312, 2, 313, 27, 628, 289, 629, 630, 325, 326, 631, 632, 633, 634, 635, 636, 637, 320, 321, 782, 928, 929, 930, 931, 932, 933, 934, 935, 936, 937, 938, 939, 940, 941, 980, 981, 982, 973, 974, 975, 976, 977, 978, 979] (by decide +kernel) (by decide +kernel)
set_option maxRecDepth 20000 in
theorem gL_law_X5_gets : GoodIn wsL_law (wsV RL 151 RX5 yX5_gets wsX5_gets) := goodIn_app (goodIn_of _ (by decide +kernel)) ggL_law_X5_gets
set_option maxRecDepth 20000 in
theorem ggL_law_X6_gets : GoodIn wsL_law wsX6_gets := goodIn_r _ [786, 787, 74, 332, 333, 334, 5, 335, 303, 109, 110, 111, 343, 344, 345, 346, 347, 348, 349, 350, 340, 341, 342, 621, 622, 623, 942, 943, 944, 945, 946, 947, 948, 949, 950, 951, 952, 953, 954, 955, 956, 957, 958, 959, 960, 961, 962, 963, 964, 965, 966, 967, 968] (by decide +kernel) (by decide +kernel)
set_option maxRecDepth 20000 in
theorem gL_law_X6_gets : GoodIn wsL_law (wsV RL 154 RX6 yX6_gets wsX6_gets) := goodIn_app (goodIn_of _ (by decide +kernel)) ggL_law_X6_gets
set_option maxRecDepth 20000 in
theorem ggL_law_X5_stops : GoodIn wsL_law wsX5_stops := goodIn_r _ [791, 27, 32, 782, 632, 633, 634, 635, 636, 637, 325, 289, 326, 792, 793, 794, 2, 795, 318, 319, 294, 928, 929, 930, 931, 932, 933, 934, 935, 936, 937, 938, 939, 940, 941, 973, 974, 975, 976, 977, 978, 979, 980, 981, 982] (by decide +kernel) (by decide +kernel)
set_option maxRecDepth 20000 in
theorem gL_law_X5_stops : GoodIn wsL_law (wsV RL 155 RX5 yX5_stops wsX5_stops) := goodIn_app (goodIn_of _ (by decide +kernel)) ggL_law_X5_stops
set_option maxRecDepth 20000 in
theorem ggL_law_X6_stops : GoodIn wsL_law wsX6_stops := goodIn_r _ [799, 74, 303, 304, 343, 344, 345, 5, 346, 347, 348, 349, 350, 340, 341, 342, 621, 622, 623, 942, 943, 944, 945, 946, 947, 948, 949, 950, 951, 952, 953, 954, 955, 956, 957, 958, 959, 960, 961, 962, 963, 964, 965, 966, 967, 968] (by decide +kernel) (by decide +kernel)
set_option maxRecDepth 20000 in
theorem gL_law_X6_stops : GoodIn wsL_law (wsV RL 158 RX6 yX6_stops wsX6_stops) := goodIn_app (goodIn_of _ (by decide +kernel)) ggL_law_X6_stops
