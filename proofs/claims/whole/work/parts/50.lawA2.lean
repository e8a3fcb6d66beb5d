set_option maxRecDepth 20000 in
theorem in_wsL_law_r11 : ∀ w ∈ wsL_law_r11, w ∈ lw_tbl := my_inP [330, 12, 331, 869, 870, 871, 872, 873, 875, 47, 876, 754, 756, 757, 877, 879, 48, 880, 881, 883, 49, 884, 885, 887] (by decide +kernel)
set_option maxRecDepth 20000 in
theorem in_wsL_law_r12 : ∀ w ∈ wsL_law_r12, w ∈ lw_tbl := my_inP [50, 888, 889, 891, 51, 892, 893, 895, 52, 896, 897, 899, 53, 900, 901, 902, 903, 332, 333, 334, 335, 338, 13, 339] (by decide +kernel)
set_option maxRecDepth 20000 in
theorem in_wsL_law_r13 : ∀ w ∈ wsL_law_r13, w ∈ lw_tbl := my_inP [341, 85, 342, 343, 344, 345, 346, 347, 350, 14, 351, 904, 905, 906, 907, 739, 740, 745, 352, 353, 354, 355, 356, 358] (by decide +kernel)
set_option maxRecDepth 20000 in
theorem in_wsL_law_r14 : ∀ w ∈ wsL_law_r14, w ∈ lw_tbl := my_inP [15, 359, 360, 362, 16, 363, 365, 366, 368, 369, 372, 17, 373, 375, 376, 908, 909, 910, 911, 916, 912, 914, 54, 915] (by decide +kernel)
set_option maxRecDepth 20000 in
theorem in_wsL_law_r15 : ∀ w ∈ wsL_law_r15, w ∈ lw_tbl := my_inP [917, 919, 55, 920, 921, 922, 923, 924, 926, 56, 927, 928, 930, 57, 931, 932, 934, 58, 935, 377, 378, 379, 380, 381] (by decide +kernel)
set_option maxRecDepth 20000 in
theorem in_wsL_law_r16 : ∀ w ∈ wsL_law_r16, w ∈ lw_tbl := my_inP [382, 383, 386, 18, 387, 389, 390, 391, 392, 393, 394, 398, 399, 86, 400, 395, 396, 397, 401, 402, 403, 404, 405, 406] (by decide +kernel)
set_option maxRecDepth 20000 in
theorem in_wsL_law_r17 : ∀ w ∈ wsL_law_r17, w ∈ lw_tbl := my_inP [409, 19, 410, 413, 20, 414, 417, 21, 418, 421, 22, 422, 936, 937, 938, 939, 940, 941, 942, 943, 945, 59, 946, 947] (by decide +kernel)
set_option maxRecDepth 20000 in
theorem in_wsL_law_r18 : ∀ w ∈ wsL_law_r18, w ∈ lw_tbl := my_inP [948, 949, 950, 951, 952, 423, 424, 425, 426, 427, 953, 954, 955, 956, 960, 957, 958, 959, 428, 429, 430, 431, 435, 23] (by decide +kernel)
set_option maxRecDepth 20000 in
theorem in_wsL_law_r19 : ∀ w ∈ wsL_law_r19, w ∈ lw_tbl := my_inP [436, 439, 441, 24, 442, 443, 445, 25, 446, 448, 449, 452, 26, 453, 961, 962, 963, 964, 965, 967, 60, 968, 969, 970] (by decide +kernel)
set_option maxRecDepth 20000 in
theorem in_wsL_law_r20 : ∀ w ∈ wsL_law_r20, w ∈ lw_tbl := my_inP [971, 972, 974, 61, 975, 976, 978, 62, 979, 454, 455, 456, 457, 458, 460, 27, 461, 464, 28, 465, 466, 467, 468, 980] (by decide +kernel)
