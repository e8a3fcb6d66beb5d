set_option maxRecDepth 20000 in
theorem in_wsL_law_r19 : ∀ w ∈ wsL_law_r19, w ∈ lw_tbl := my_inP [447, 449, 450, 451, 452, 453, 455, 20, 456, 457, 459, 21, 460, 461, 462, 463, 466, 22, 467, 468, 469, 470, 471, 637] (by decide +kernel)
set_option maxRecDepth 20000 in
theorem in_wsL_law_r20 : ∀ w ∈ wsL_law_r20, w ∈ lw_tbl := my_inP [638, 639, 640, 641, 642, 472, 473, 474, 475, 481, 482, 483, 484, 485, 477, 478, 479, 480, 486, 487, 488, 489, 490, 492] (by decide +kernel)
set_option maxRecDepth 20000 in
theorem in_wsL_law_r21 : ∀ w ∈ wsL_law_r21, w ∈ lw_tbl := my_inP [23, 493, 512, 513, 514, 515, 516, 517, 518, 519, 646, 647, 648] (by decide +kernel)
