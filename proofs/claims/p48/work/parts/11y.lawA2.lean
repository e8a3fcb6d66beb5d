set_option maxRecDepth 20000 in
theorem in_wsL_law_r7 : ∀ w ∈ wsL_law_r7, w ∈ lw_tbl := my_inP [37, 629, 631, 44, 632, 285, 271, 272, 227, 273, 635, 38, 636, 532, 533, 534, 535, 385, 386, 387, 236, 237, 388, 389] (by decide +kernel)
set_option maxRecDepth 20000 in
theorem in_wsL_law_r8 : ∀ w ∈ wsL_law_r8, w ∈ lw_tbl := my_inP [45, 390, 391, 392, 393, 344, 345, 346, 225, 226, 538, 25, 539, 541, 542, 543, 544, 545, 546, 548, 26, 549, 321, 322] (by decide +kernel)
set_option maxRecDepth 20000 in
theorem in_wsL_law_r9 : ∀ w ∈ wsL_law_r9, w ∈ lw_tbl := my_inP [323, 324, 325, 326, 327, 330, 14, 331, 332, 334, 333, 46, 649, 650, 651, 212, 213, 214, 215, 216, 218, 3, 219, 220] (by decide +kernel)
set_option maxRecDepth 20000 in
theorem in_wsL_law_r10 : ∀ w ∈ wsL_law_r10, w ∈ lw_tbl := my_inP [222, 4, 223, 229, 230, 233, 5, 234, 520, 521, 522, 523, 339, 340, 341, 342, 242, 248, 6, 249, 252, 253, 254, 255] (by decide +kernel)
set_option maxRecDepth 20000 in
theorem in_wsL_law_r11 : ∀ w ∈ wsL_law_r11, w ∈ lw_tbl := my_inP [256, 257, 261, 262, 47, 263, 258, 259, 260, 264, 265, 266, 267, 268, 269, 274, 276, 7, 277, 278, 280, 8, 281, 283] (by decide +kernel)
set_option maxRecDepth 20000 in
theorem in_wsL_law_r12 : ∀ w ∈ wsL_law_r12, w ∈ lw_tbl := my_inP [284, 347, 348, 349, 350, 238, 239, 240, 241, 288, 9, 289, 290, 291, 292, 293, 294, 296, 10, 297, 300, 11, 301, 302] (by decide +kernel)
