set_option maxRecDepth 20000 in
theorem in_wsL_law_r13 : ∀ w ∈ wsL_law_r13, w ∈ lw_tbl := my_inP [303, 304, 305, 306, 307, 308, 311, 12, 312, 643, 644, 645, 313, 314, 315, 316, 319, 13, 320, 363, 364, 365, 366, 367] (by decide +kernel)
set_option maxRecDepth 20000 in
theorem in_wsL_law_r14 : ∀ w ∈ wsL_law_r14, w ∈ lw_tbl := my_inP [369, 16, 370, 372, 48, 373, 376, 377, 378, 379, 528, 529, 530, 531, 524, 525, 526, 527, 494, 495, 496, 497, 499, 501] (by decide +kernel)
set_option maxRecDepth 20000 in
theorem in_wsL_law_r15 : ∀ w ∈ wsL_law_r15, w ∈ lw_tbl := my_inP [24, 502, 503, 504, 505, 506, 507, 509, 510, 511, 185, 186, 187, 188, 189, 190, 191, 196, 198, 1, 199, 380, 381, 382] (by decide +kernel)
set_option maxRecDepth 20000 in
theorem in_wsL_law_r16 : ∀ w ∈ wsL_law_r16, w ∈ lw_tbl := my_inP [383, 395, 396, 398, 399, 401, 17, 402, 403, 404, 405, 406, 408, 409, 411, 410, 351, 352, 353, 354, 355, 357, 15, 358] (by decide +kernel)
set_option maxRecDepth 20000 in
theorem in_wsL_law_r17 : ∀ w ∈ wsL_law_r17, w ∈ lw_tbl := my_inP [208, 209, 210, 211, 204, 206, 2, 207, 335, 336, 337, 338, 200, 201, 202, 203, 421, 422, 423, 424, 425, 427, 18, 428] (by decide +kernel)
set_option maxRecDepth 20000 in
theorem in_wsL_law_r18 : ∀ w ∈ wsL_law_r18, w ∈ lw_tbl := my_inP [433, 19, 434, 359, 360, 361, 362, 412, 413, 414, 415, 417, 418, 420, 435, 436, 437, 438, 440, 441, 442, 443, 444, 448] (by decide +kernel)
