set_option maxRecDepth 20000 in
theorem in_wsL_law_r1 : ∀ w ∈ wsL_law_r1, w ∈ lw_tbl := my_inP [89, 90, 79, 729, 730, 83, 91, 92, 93, 94, 95, 96, 97, 120, 183, 184, 99, 121, 185, 186, 101, 102, 80, 187] (by decide +kernel)
set_option maxRecDepth 20000 in
theorem in_wsL_law_r2 : ∀ w ∈ wsL_law_r2, w ∈ lw_tbl := my_inP [122, 123, 81, 188, 189, 163, 164, 82, 190, 191, 192, 193, 194, 195, 196, 104, 105, 106, 107, 108, 109, 110, 125, 126] (by decide +kernel)
set_option maxRecDepth 20000 in
theorem in_wsL_law_r3 : ∀ w ∈ wsL_law_r3, w ∈ lw_tbl := my_inP [127, 128, 132, 135, 138, 141, 143, 146, 166, 167, 168, 169, 171, 181, 173, 731, 732, 733, 734, 735, 736, 737, 738, 741] (by decide +kernel)
set_option maxRecDepth 20000 in
theorem in_wsL_law_r4 : ∀ w ∈ wsL_law_r4, w ∈ lw_tbl := my_inP [742, 743, 744, 746, 747, 817, 748, 751, 753, 755, 758, 759, 760, 761, 226, 227, 228, 229, 230, 231, 232, 233, 235, 0] (by decide +kernel)
set_option maxRecDepth 20000 in
theorem in_wsL_law_r5 : ∀ w ∈ wsL_law_r5, w ∈ lw_tbl := my_inP [236, 237, 239, 1, 240, 818, 819, 820, 821, 822, 823, 824, 825, 826, 827, 828, 829, 831, 45, 832, 752, 241, 242, 243] (by decide +kernel)
set_option maxRecDepth 20000 in
theorem in_wsL_law_r6 : ∀ w ∈ wsL_law_r6, w ∈ lw_tbl := my_inP [244, 245, 247, 2, 248, 833, 834, 835, 836, 837, 839, 46, 840, 749, 249, 250, 251, 252, 841, 842, 843, 844, 253, 254] (by decide +kernel)
set_option maxRecDepth 20000 in
theorem in_wsL_law_r7 : ∀ w ∈ wsL_law_r7, w ∈ lw_tbl := my_inP [255, 256, 845, 846, 847, 848, 257, 258, 259, 260, 261, 263, 262, 84, 849, 850, 851, 852, 264, 265, 266, 267, 853, 854] (by decide +kernel)
set_option maxRecDepth 20000 in
theorem in_wsL_law_r8 : ∀ w ∈ wsL_law_r8, w ∈ lw_tbl := my_inP [855, 856, 268, 269, 270, 271, 272, 273, 274, 857, 858, 859, 860, 861, 862, 863, 864, 275, 276, 277, 278, 865, 866, 867] (by decide +kernel)
set_option maxRecDepth 20000 in
theorem in_wsL_law_r9 : ∀ w ∈ wsL_law_r9, w ∈ lw_tbl := my_inP [868, 279, 280, 281, 282, 285, 3, 286, 289, 4, 290, 291, 293, 5, 294, 295, 297, 6, 298, 299, 301, 7, 302, 303] (by decide +kernel)
set_option maxRecDepth 20000 in
theorem in_wsL_law_r10 : ∀ w ∈ wsL_law_r10, w ∈ lw_tbl := my_inP [305, 8, 306, 307, 308, 309, 311, 312, 313, 315, 9, 316, 317, 318, 319, 320, 322, 10, 323, 324, 326, 11, 327, 328] (by decide +kernel)
