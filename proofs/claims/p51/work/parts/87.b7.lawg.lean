/-! ===== GOODS OF THE LAW: b7 ===== -/
set_option maxRecDepth 20000 in
theorem ggL_holds_L_isEvening_q0 : GoodIn wsL_holds [.code yL_isEvening cL_isEvening 7 (some .boolean)] := goodIn_r _ [762] (by decide +kernel) (by decide +kernel)
set_option maxRecDepth 20000 in
theorem ggL_holds_L_isEvening_q1 : GoodIn wsL_holds wsL_isEvening_r1 := goodIn_r _ [1, 17, 4, 763, 233, 28, 234, 5, 6, 7, 8, 9, 10, 11, 764, 765, 766, 33, 767, 65, 622, 146, 147, 148] (by decide +kernel) (by decide +kernel)
set_option maxRecDepth 20000 in
theorem ggL_holds_L_isEvening_q2 : GoodIn wsL_holds wsL_isEvening_r2 := goodIn_r _ [149, 35, 36, 42, 43, 44, 150, 151, 152, 153, 154, 45, 46, 47, 48, 49, 768, 769, 770, 771, 772, 64, 596, 773] (by decide +kernel) (by decide +kernel)
set_option maxRecDepth 20000 in
theorem ggL_holds_L_isEvening_q3 : GoodIn wsL_holds wsL_isEvening_r3 := goodIn_r _ [61, 518, 63, 581, 620, 629, 774, 775, 776, 777, 529, 37, 544, 545, 546, 115, 547, 117, 50, 51, 52, 53, 54, 55] (by decide +kernel) (by decide +kernel)
set_option maxRecDepth 20000 in
theorem ggL_holds_L_isEvening_q4 : GoodIn wsL_holds wsL_isEvening_r4 := goodIn_r _ [56, 57, 58, 59, 60, 62, 66, 67, 68, 69, 70, 71, 72, 73, 74, 75, 76, 77, 78, 79, 80, 81, 82, 83] (by decide +kernel) (by decide +kernel)
set_option maxRecDepth 20000 in
theorem ggL_holds_L_isEvening_q5 : GoodIn wsL_holds wsL_isEvening_r5 := goodIn_r _ [84, 85, 86, 87, 88, 89, 90, 91, 92, 93, 94, 95, 96, 97, 98, 99, 100, 101, 102, 103, 104, 105, 106, 107] (by decide +kernel) (by decide +kernel)
set_option maxRecDepth 20000 in
theorem ggL_holds_L_isEvening_q6 : GoodIn wsL_holds wsL_isEvening_r6 := goodIn_r _ [108, 109, 110, 111, 112, 113, 114, 116, 118, 119, 120, 121, 122, 123, 124, 125, 126, 127, 128, 129, 130, 131, 132, 133] (by decide +kernel) (by decide +kernel)
set_option maxRecDepth 20000 in
theorem ggL_holds_L_isEvening_q7 : GoodIn wsL_holds wsL_isEvening_r7 := goodIn_r _ [134, 135, 136, 137, 138, 139, 140, 778, 779, 780, 781, 782, 783, 784, 785, 786, 787, 788, 789, 790, 530, 791, 792, 793] (by decide +kernel) (by decide +kernel)
set_option maxRecDepth 20000 in
theorem ggL_holds_L_isEvening_q8 : GoodIn wsL_holds wsL_isEvening_r8 := goodIn_r _ [794, 521, 522, 523, 15, 524, 525, 526, 527, 528, 520, 531, 532, 533, 534, 535, 536, 537, 538, 539, 540, 541, 542, 543] (by decide +kernel) (by decide +kernel)
set_option maxRecDepth 20000 in
theorem ggL_holds_L_isEvening_q9 : GoodIn wsL_holds wsL_isEvening_r9 := goodIn_r _ [548, 549, 550, 551, 497, 498, 499, 795, 796, 797, 798, 799, 800, 801, 802, 803, 804, 805, 806, 807, 808, 809, 810, 811] (by decide +kernel) (by decide +kernel)
set_option maxRecDepth 20000 in
theorem ggL_holds_L_isEvening_q10 : GoodIn wsL_holds wsL_isEvening_r10 := goodIn_r _ [812, 813, 814, 815, 816, 817, 818, 819, 820, 821, 822, 823, 824, 825, 826, 827, 828, 829, 830, 831, 832, 833, 834] (by decide +kernel) (by decide +kernel)
set_option maxRecDepth 20000 in
theorem ggL_holds_L_isEvening_q11 : GoodIn wsL_holds wsL0 := goodIn_r _ [1123, 1124, 1125, 1126, 1127, 1128, 1129, 1130, 1131, 1132] (by decide +kernel) (by decide +kernel)
set_option maxRecDepth 20000 in
theorem ggL_holds_L_isEvening_q12 : GoodIn wsL_holds wsX120 := goodIn_r _ [1133] (by decide +kernel) (by decide +kernel)
set_option maxRecDepth 20000 in
theorem ggL_holds_L_isEvening_q13 : GoodIn wsL_holds wsX110 := goodIn_r _ [1138, 1139, 1140, 1141, 1142, 1143, 1144, 1145, 1146, 1147, 1148, 1149, 1150, 1151] (by decide +kernel) (by decide +kernel)
set_option maxRecDepth 20000 in
theorem ggL_holds_L_isEvening_q14 : GoodIn wsL_holds wsX00 := goodIn_r _ [1177] (by decide +kernel) (by decide +kernel)
set_option maxRecDepth 20000 in
theorem ggL_holds_L_isEvening_q15 : GoodIn wsL_holds wsX80 := goodIn_r _ [1152, 1153, 1154, 1155, 1156, 1157, 1158, 1159] (by decide +kernel) (by decide +kernel)
set_option maxRecDepth 20000 in
theorem ggL_holds_L_isEvening_q16 : GoodIn wsL_holds wsX50 := goodIn_r _ [1172, 1173, 1174, 1175, 1176] (by decide +kernel) (by decide +kernel)
set_option maxRecDepth 20000 in
theorem ggL_holds_L_isEvening_q17 : GoodIn wsL_holds wsX100 := goodIn_r _ [1160, 1161, 1162, 1163] (by decide +kernel) (by decide +kernel)
set_option maxRecDepth 20000 in
theorem ggL_holds_L_isEvening_q18 : GoodIn wsL_holds wsX20 := goodIn_r _ [1164, 1165, 1166, 1167, 1168, 1169, 1170, 1171] (by decide +kernel) (by decide +kernel)
set_option maxRecDepth 20000 in
theorem ggL_holds_L_isEvening_q19 : GoodIn wsL_holds wsX30 := goodIn_r _ [1178, 1179, 1180, 1181, 1182, 1183, 1184] (by decide +kernel) (by decide +kernel)
set_option maxRecDepth 20000 in
theorem ggL_holds_L_isEvening_q20 : GoodIn wsL_holds wsX40 := goodIn_r _ [1185, 1186] (by decide +kernel) (by decide +kernel)
set_option maxRecDepth 20000 in
theorem ggL_holds_L_isEvening_q21 : GoodIn wsL_holds wsX10 := goodIn_r _ [1187, 1188, 1189, 1190, 1191, 1192, 1193, 1194, 1195] (by decide +kernel) (by decide +kernel)
set_option maxRecDepth 20000 in
theorem ggL_holds_L_isEvening : GoodIn wsL_holds wsL_isEvening := goodIn_ca (goodIn_ca (goodIn_ca (goodIn_cn ggL_holds_L_isEvening_q0 (goodIn_app (goodIn_app (goodIn_app (goodIn_app (goodIn_app (goodIn_app (goodIn_app (goodIn_app (goodIn_app (goodIn_app (goodIn_app (goodIn_app ggL_holds_L_isEvening_q1 (goodIn_app ggL_holds_L_isEvening_q2 (goodIn_app ggL_holds_L_isEvening_q3 (goodIn_app ggL_holds_L_isEvening_q4 (goodIn_app ggL_holds_L_isEvening_q5 (goodIn_app ggL_holds_L_isEvening_q6 (goodIn_app ggL_holds_L_isEvening_q7 (goodIn_app ggL_holds_L_isEvening_q8 (goodIn_app ggL_holds_L_isEvening_q9 ggL_holds_L_isEvening_q10))))))))) ggL_holds_L_isEvening_q11) ggL_holds_L_isEvening_q12) ggL_holds_L_isEvening_q13) ggL_holds_L_isEvening_q14) ggL_holds_L_isEvening_q15) ggL_holds_L_isEvening_q16) ggL_holds_L_isEvening_q17) ggL_holds_L_isEvening_q18) ggL_holds_L_isEvening_q19) ggL_holds_L_isEvening_q20) ggL_holds_L_isEvening_q21)) (goodIn_sub (fun _ h => List.mem_cons_of_mem _ (List.mem_append_left _ (List.mem_append_right _ h))) (by decide +kernel))) (goodIn_sub (fun _ h => List.mem_cons_of_mem _ (List.mem_append_left _ (List.mem_append_left _ (List.mem_append_left _ (List.mem_append_right _ h))))) (by decide +kernel))) (goodIn_sub (fun _ h => List.mem_cons_of_mem _ (List.mem_append_left _ (List.mem_append_left _ (List.mem_append_right _ h)))) (by decide +kernel))
set_option maxRecDepth 20000 in
theorem gL_holds_L_isEvening : GoodIn wsL_holds (wsV RL 307 RL yL_isEvening wsL_isEvening) := goodIn_app (goodIn_of _ (by decide +kernel)) ggL_holds_L_isEvening
