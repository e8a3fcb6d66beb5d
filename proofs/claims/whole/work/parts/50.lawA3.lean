set_option maxRecDepth 20000 in
theorem in_wsL_law_r21 : ∀ w ∈ wsL_law_r21, w ∈ lw_tbl := my_inP [981, 982, 983, 984, 986, 63, 987, 988, 989, 990, 469, 470, 471, 472, 475, 29, 476, 991, 992, 993, 994, 477, 478, 479] (by decide +kernel)
set_option maxRecDepth 20000 in
theorem in_wsL_law_r22 : ∀ w ∈ wsL_law_r22, w ∈ lw_tbl := my_inP [480, 483, 30, 484, 995, 996, 997, 998, 485, 486, 487, 488, 489, 490, 491, 494, 31, 495, 496, 999, 1000, 1001, 1002, 1003] (by decide +kernel)
set_option maxRecDepth 20000 in
theorem in_wsL_law_r23 : ∀ w ∈ wsL_law_r23, w ∈ lw_tbl := my_inP [497, 498, 499, 500, 1004, 1005, 1006, 1007, 501, 502, 503, 504, 506, 507, 508, 1008, 1009, 1010, 1011, 1012, 1014, 64, 1015, 1016] (by decide +kernel)
set_option maxRecDepth 20000 in
theorem in_wsL_law_r24 : ∀ w ∈ wsL_law_r24, w ∈ lw_tbl := my_inP [1017, 1018, 1019, 1021, 65, 1022, 509, 510, 511, 512, 1023, 1024, 1025, 1026, 513, 514, 515, 516, 517, 519, 32, 520, 1027, 1028] (by decide +kernel)
set_option maxRecDepth 20000 in
theorem in_wsL_law_r25 : ∀ w ∈ wsL_law_r25, w ∈ lw_tbl := my_inP [1029, 1030, 1031, 1033, 66, 1034, 521, 522, 523, 524, 1035, 1036, 1037, 1038, 525, 526, 527, 528, 529, 531, 33, 532, 534, 87] (by decide +kernel)
set_option maxRecDepth 20000 in
theorem in_wsL_law_r26 : ∀ w ∈ wsL_law_r26, w ∈ lw_tbl := my_inP [535, 538, 539, 540, 541, 1039, 1040, 1041, 1042, 750, 1043, 1044, 1045, 1046, 1047, 1048, 1049, 1050, 1052, 67, 1053, 1054, 1055, 1056] (by decide +kernel)
set_option maxRecDepth 20000 in
theorem in_wsL_law_r27 : ∀ w ∈ wsL_law_r27, w ∈ lw_tbl := my_inP [542, 543, 544, 545, 547, 548, 549, 550, 551, 88, 552, 553, 554, 555, 557, 558, 560, 561, 563, 34, 564, 1057, 1058, 1059] (by decide +kernel)
set_option maxRecDepth 20000 in
theorem in_wsL_law_r28 : ∀ w ∈ wsL_law_r28, w ∈ lw_tbl := my_inP [1060, 1061, 1063, 68, 1064, 565, 566, 567, 568, 570, 571, 573, 572, 1065, 1066, 1067, 1068, 1069, 574, 575, 576, 577, 579, 580] (by decide +kernel)
set_option maxRecDepth 20000 in
theorem in_wsL_law_r29 : ∀ w ∈ wsL_law_r29, w ∈ lw_tbl := my_inP [582, 1070, 1071, 1072, 1073, 583, 584, 585, 586, 587, 589, 35, 590, 595, 36, 596, 1074, 1075, 1076, 1077, 1078, 1080, 69, 1081] (by decide +kernel)
set_option maxRecDepth 20000 in
theorem in_wsL_law_r30 : ∀ w ∈ wsL_law_r30, w ∈ lw_tbl := my_inP [597, 598, 599, 600, 602, 603, 604, 605, 606, 610, 609, 1082, 1083, 1084, 1085, 1086, 1088, 70, 1089, 1090, 1092, 71, 1093, 1094] (by decide +kernel)
