set_option maxRecDepth 20000 in
theorem in_wsL_law_r31 : ∀ w ∈ wsL_law_r31, w ∈ lw_tbl := my_inP [1096, 72, 1097, 611, 612, 613, 614, 615, 617, 37, 618, 619, 621, 38, 622, 623, 624, 625, 628, 39, 629, 1098, 1099, 1100] (by decide +kernel)
set_option maxRecDepth 20000 in
theorem in_wsL_law_r32 : ∀ w ∈ wsL_law_r32, w ∈ lw_tbl := my_inP [1101, 1102, 1104, 73, 1105, 1106, 1107, 1109, 74, 1110, 630, 631, 632, 633, 1111, 1112, 1113, 1114, 634, 635, 636, 637, 1115, 1116] (by decide +kernel)
set_option maxRecDepth 20000 in
theorem in_wsL_law_r33 : ∀ w ∈ wsL_law_r33, w ∈ lw_tbl := my_inP [1117, 1118, 639, 640, 641, 642, 1119, 1120, 1121, 1122, 643, 644, 645, 646, 647, 1123, 1124, 1125, 1126, 1127, 648, 649, 650, 651] (by decide +kernel)
set_option maxRecDepth 20000 in
theorem in_wsL_law_r34 : ∀ w ∈ wsL_law_r34, w ∈ lw_tbl := my_inP [652, 654, 40, 655, 1128, 1129, 1130, 1131, 656, 657, 658, 659, 661, 663, 41, 664, 665, 1132, 1133, 1134, 1135, 1136, 1138, 75] (by decide +kernel)
set_option maxRecDepth 20000 in
theorem in_wsL_law_r35 : ∀ w ∈ wsL_law_r35, w ∈ lw_tbl := my_inP [1139, 666, 667, 668, 669, 671, 672, 673, 1140, 1141, 1142, 1143, 674, 675, 676, 677, 678, 679, 680, 681, 1144, 1145, 1146, 1147] (by decide +kernel)
set_option maxRecDepth 20000 in
theorem in_wsL_law_r36 : ∀ w ∈ wsL_law_r36, w ∈ lw_tbl := my_inP [1148, 1149, 1150, 1151, 682, 683, 684, 685, 1152, 1153, 1154, 1155, 686, 687, 688, 689, 1156, 1157, 1158, 1159, 690, 691, 692, 693] (by decide +kernel)
set_option maxRecDepth 20000 in
theorem in_wsL_law_r37 : ∀ w ∈ wsL_law_r37, w ∈ lw_tbl := my_inP [1160, 1161, 1162, 1163, 694, 695, 696, 697, 700, 42, 701, 703, 704, 705, 706, 708, 43, 709, 1164, 1165, 1166, 1167, 1168, 1169] (by decide +kernel)
set_option maxRecDepth 20000 in
theorem in_wsL_law_r38 : ∀ w ∈ wsL_law_r38, w ∈ lw_tbl := my_inP [1171, 76, 1172, 1173, 1175, 77, 1176, 710, 711, 712, 713, 1177, 1178, 1179, 1180, 714, 715, 716, 717, 1181, 1182, 1183, 1184, 718] (by decide +kernel)
set_option maxRecDepth 20000 in
theorem in_wsL_law_r39 : ∀ w ∈ wsL_law_r39, w ∈ lw_tbl := my_inP [719, 720, 721, 722, 723, 724, 725, 727, 44, 728, 1185, 1186, 1187, 1188, 1189, 1190] (by decide +kernel)
