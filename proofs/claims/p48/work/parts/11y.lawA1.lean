set_option maxRecDepth 20000 in
theorem in_wsL_law_r1 : ∀ w ∈ wsL_law_r1, w ∈ lw_tbl := my_inP [49, 50, 40, 80, 652, 653, 654, 51, 52, 53, 54, 55, 56, 57, 142, 143, 59, 81, 144, 145, 61, 62, 41, 146] (by decide +kernel)
set_option maxRecDepth 20000 in
theorem in_wsL_law_r2 : ∀ w ∈ wsL_law_r2, w ∈ lw_tbl := my_inP [82, 83, 42, 147, 148, 122, 123, 43, 149, 150, 151, 152, 153, 154, 155, 64, 65, 66, 67, 68, 69, 70, 85, 86] (by decide +kernel)
set_option maxRecDepth 20000 in
theorem in_wsL_law_r3 : ∀ w ∈ wsL_law_r3, w ∈ lw_tbl := my_inP [87, 88, 92, 95, 97, 100, 102, 105, 125, 126, 127, 128, 130, 140, 132, 558, 559, 39, 560, 554, 555, 556, 557, 550] (by decide +kernel)
set_option maxRecDepth 20000 in
theorem in_wsL_law_r4 : ∀ w ∈ wsL_law_r4, w ∈ lw_tbl := my_inP [551, 552, 553, 561, 562, 563, 564, 565, 566, 567, 192, 194, 0, 195, 568, 569, 570, 571, 572, 573, 574, 575, 576, 577] (by decide +kernel)
set_option maxRecDepth 20000 in
theorem in_wsL_law_r5 : ∀ w ∈ wsL_law_r5, w ∈ lw_tbl := my_inP [578, 581, 27, 582, 585, 28, 586, 587, 589, 29, 590, 591, 593, 30, 594, 595, 597, 31, 598, 599, 601, 32, 602, 603] (by decide +kernel)
set_option maxRecDepth 20000 in
theorem in_wsL_law_r6 : ∀ w ∈ wsL_law_r6, w ∈ lw_tbl := my_inP [604, 605, 243, 244, 607, 609, 33, 610, 611, 612, 613, 614, 616, 34, 617, 618, 620, 35, 621, 622, 624, 36, 625, 628] (by decide +kernel)
