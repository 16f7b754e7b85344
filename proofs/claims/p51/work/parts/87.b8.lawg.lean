/-! ===== GOODS OF THE LAW: b8 ===== -/
set_option maxRecDepth 20000 in
theorem ggL_holds_L_isMixed_q0 : GoodIn wsL_holds [.codeWith yL_isMixed cL_isMixed 22 (some .boolean) [(140, 155, 158, 229)]] := goodIn_r _ [838] (by decide +kernel) (by decide +kernel)
set_option maxRecDepth 20000 in
theorem ggL_holds_L_isMixed_q1 : GoodIn wsL_holds wsL_isMixed_r1 := goodIn_r _ [839, 22, 1, 4, 840, 841, 842, 843, 844, 845, 5, 6, 7, 8, 9, 10, 11, 846, 847, 848, 33, 849, 66, 850] (by decide +kernel) (by decide +kernel)
set_option maxRecDepth 20000 in
theorem ggL_holds_L_isMixed_q2 : GoodIn wsL_holds wsL_isMixed_r2 := goodIn_r _ [851, 852, 42, 43, 44, 150, 151, 152, 153, 154, 45, 46, 47, 48, 49, 55, 56, 57, 58, 59, 60, 61, 62, 35] (by decide +kernel) (by decide +kernel)
set_option maxRecDepth 20000 in
theorem ggL_holds_L_isMixed_q3 : GoodIn wsL_holds wsL_isMixed_r3 := goodIn_r _ [63, 64, 65, 67, 68, 69, 70, 71, 72, 73, 74, 75, 76, 77, 78, 79, 80, 81, 82, 83, 84, 85, 86, 87] (by decide +kernel) (by decide +kernel)
set_option maxRecDepth 20000 in
theorem ggL_holds_L_isMixed_q4 : GoodIn wsL_holds wsL_isMixed_r4 := goodIn_r _ [88, 89, 90, 91, 92, 93, 94, 95, 96, 97, 98, 99, 100, 101, 102, 103, 104, 105, 106, 107, 108, 109, 110, 111] (by decide +kernel) (by decide +kernel)
set_option maxRecDepth 20000 in
theorem ggL_holds_L_isMixed_q5 : GoodIn wsL_holds wsL_isMixed_r5 := goodIn_r _ [112, 113, 114, 115, 116, 117, 118, 119, 120, 121, 122, 123, 124, 125, 126, 127, 128, 129, 130, 131, 132, 133, 134, 135] (by decide +kernel) (by decide +kernel)
set_option maxRecDepth 20000 in
theorem ggL_holds_L_isMixed_q6 : GoodIn wsL_holds wsL_isMixed_r6 := goodIn_r _ [136, 137, 138, 139, 140, 853, 854, 855, 856, 857, 858, 859, 860, 861, 862, 863, 864, 865, 866, 867, 868, 869, 870, 871] (by decide +kernel) (by decide +kernel)
set_option maxRecDepth 20000 in
theorem ggL_holds_L_isMixed_q7 : GoodIn wsL_holds wsL_isMixed_r7 := goodIn_r _ [872, 873, 874, 875, 876, 877, 878, 879, 880, 881, 882, 883, 884, 885, 886, 887, 888, 889, 890, 891, 892, 893, 894, 895] (by decide +kernel) (by decide +kernel)
set_option maxRecDepth 20000 in
theorem ggL_holds_L_isMixed_q8 : GoodIn wsL_holds wsL_isMixed_r8 := goodIn_r _ [896, 897, 898, 899, 900, 901, 902, 903, 904, 905, 906, 907, 908, 909, 910, 911, 912, 913, 914, 915, 916, 15, 917, 918] (by decide +kernel) (by decide +kernel)
set_option maxRecDepth 20000 in
theorem ggL_holds_L_isMixed_q9 : GoodIn wsL_holds wsL_isMixed_r9 := goodIn_r _ [919, 920, 921, 922, 923, 924, 925, 926, 927, 928, 929, 930, 931, 932, 933] (by decide +kernel) (by decide +kernel)
set_option maxRecDepth 20000 in
theorem ggL_holds_L_isMixed_q10 : GoodIn wsL_holds wsL0 := goodIn_r _ [1123, 1124, 1125, 1126, 1127, 1128, 1129, 1130, 1131, 1132] (by decide +kernel) (by decide +kernel)
set_option maxRecDepth 20000 in
theorem ggL_holds_L_isMixed_q11 : GoodIn wsL_holds wsX120 := goodIn_r _ [1133] (by decide +kernel) (by decide +kernel)
set_option maxRecDepth 20000 in
theorem ggL_holds_L_isMixed_q12 : GoodIn wsL_holds wsX110 := goodIn_r _ [1138, 1139, 1140, 1141, 1142, 1143, 1144, 1145, 1146, 1147, 1148, 1149, 1150, 1151] (by decide +kernel) (by decide +kernel)
set_option maxRecDepth 20000 in
theorem ggL_holds_L_isMixed_q13 : GoodIn wsL_holds wsX30 := goodIn_r _ [1178, 1179, 1180, 1181, 1182, 1183, 1184] (by decide +kernel) (by decide +kernel)
set_option maxRecDepth 20000 in
theorem ggL_holds_L_isMixed_q14 : GoodIn wsL_holds wsX100 := goodIn_r _ [1160, 1161, 1162, 1163] (by decide +kernel) (by decide +kernel)
set_option maxRecDepth 20000 in
theorem ggL_holds_L_isMixed_q15 : GoodIn wsL_holds wsX80 := goodIn_r _ [1152, 1153, 1154, 1155, 1156, 1157, 1158, 1159] (by decide +kernel) (by decide +kernel)
set_option maxRecDepth 20000 in
theorem ggL_holds_L_isMixed_q16 : GoodIn wsL_holds wsX20 := goodIn_r _ [1164, 1165, 1166, 1167, 1168, 1169, 1170, 1171] (by decide +kernel) (by decide +kernel)
set_option maxRecDepth 20000 in
theorem ggL_holds_L_isMixed_q17 : GoodIn wsL_holds wsX50 := goodIn_r _ [1172, 1173, 1174, 1175, 1176] (by decide +kernel) (by decide +kernel)
set_option maxRecDepth 20000 in
theorem ggL_holds_L_isMixed_q18 : GoodIn wsL_holds wsX00 := goodIn_r _ [1177] (by decide +kernel) (by decide +kernel)
set_option maxRecDepth 20000 in
theorem ggL_holds_L_isMixed_q19 : GoodIn wsL_holds wsX40 := goodIn_r _ [1185, 1186] (by decide +kernel) (by decide +kernel)
set_option maxRecDepth 20000 in
theorem ggL_holds_L_isMixed_q20 : GoodIn wsL_holds wsX10 := goodIn_r _ [1187, 1188, 1189, 1190, 1191, 1192, 1193, 1194, 1195] (by decide +kernel) (by decide +kernel)
set_option maxRecDepth 20000 in
theorem ggL_holds_L_isMixed : GoodIn wsL_holds wsL_isMixed := goodIn_ca (goodIn_ca (goodIn_ca (goodIn_cn ggL_holds_L_isMixed_q0 (goodIn_app (goodIn_app (goodIn_app (goodIn_app (goodIn_app (goodIn_app (goodIn_app (goodIn_app (goodIn_app (goodIn_app (goodIn_app (goodIn_app ggL_holds_L_isMixed_q1 (goodIn_app ggL_holds_L_isMixed_q2 (goodIn_app ggL_holds_L_isMixed_q3 (goodIn_app ggL_holds_L_isMixed_q4 (goodIn_app ggL_holds_L_isMixed_q5 (goodIn_app ggL_holds_L_isMixed_q6 (goodIn_app ggL_holds_L_isMixed_q7 (goodIn_app ggL_holds_L_isMixed_q8 ggL_holds_L_isMixed_q9)))))))) ggL_holds_L_isMixed_q10) ggL_holds_L_isMixed_q11) ggL_holds_L_isMixed_q12) ggL_holds_L_isMixed_q13) ggL_holds_L_isMixed_q14) ggL_holds_L_isMixed_q15) ggL_holds_L_isMixed_q16) ggL_holds_L_isMixed_q17) ggL_holds_L_isMixed_q18) ggL_holds_L_isMixed_q19) ggL_holds_L_isMixed_q20)) (goodIn_sub (fun _ h => List.mem_cons_of_mem _ (List.mem_append_left _ (List.mem_append_right _ h))) (by decide +kernel))) (goodIn_sub (fun _ h => List.mem_cons_of_mem _ (List.mem_append_left _ (List.mem_append_left _ (List.mem_append_left _ (List.mem_append_right _ h))))) (by decide +kernel))) (goodIn_sub (fun _ h => List.mem_cons_of_mem _ (List.mem_append_right _ h)) (by decide +kernel))
set_option maxRecDepth 20000 in
theorem gL_holds_L_isMixed : GoodIn wsL_holds (wsV RL 310 RL yL_isMixed wsL_isMixed) := goodIn_app (goodIn_of _ (by decide +kernel)) ggL_holds_L_isMixed
set_option maxRecDepth 20000 in
theorem ggL_holds_L_isBest_q0 : GoodIn wsL_holds [.code yL_isBest cL_isBest 8 (some .boolean)] := goodIn_r _ [937] (by decide +kernel) (by decide +kernel)
set_option maxRecDepth 20000 in
theorem ggL_holds_L_isBest_q1 : GoodIn wsL_holds wsL_isBest_r1 := goodIn_r _ [1, 17, 4, 5, 6, 7, 8, 9, 10, 11, 938, 939, 940, 33, 941, 67, 942, 943, 146, 147, 148, 149, 35, 36] (by decide +kernel) (by decide +kernel)
set_option maxRecDepth 20000 in
theorem ggL_holds_L_isBest_q2 : GoodIn wsL_holds wsL_isBest_r2 := goodIn_r _ [42, 43, 44, 150, 151, 152, 153, 154, 45, 46, 47, 48, 49, 50, 51, 52, 53, 54, 55, 56, 57, 58, 59, 60] (by decide +kernel) (by decide +kernel)
set_option maxRecDepth 20000 in
theorem ggL_holds_L_isBest_q3 : GoodIn wsL_holds wsL_isBest_r3 := goodIn_r _ [61, 62, 63, 64, 65, 66, 68, 69, 70, 71, 72, 73, 74, 75, 76, 77, 78, 79, 80, 81, 82, 83, 84, 85] (by decide +kernel) (by decide +kernel)
set_option maxRecDepth 20000 in
theorem ggL_holds_L_isBest_q4 : GoodIn wsL_holds wsL_isBest_r4 := goodIn_r _ [86, 87, 88, 89, 90, 91, 92, 93, 94, 95, 96, 97, 98, 99, 100, 101, 102, 103, 104, 105, 106, 107, 108, 109] (by decide +kernel) (by decide +kernel)
set_option maxRecDepth 20000 in
theorem ggL_holds_L_isBest_q5 : GoodIn wsL_holds wsL_isBest_r5 := goodIn_r _ [110, 111, 112, 113, 114, 115, 116, 117, 118, 119, 120, 121, 122, 123, 124, 125, 126, 127, 128, 129, 130, 131, 132, 133] (by decide +kernel) (by decide +kernel)
set_option maxRecDepth 20000 in
theorem ggL_holds_L_isBest_q6 : GoodIn wsL_holds wsL_isBest_r6 := goodIn_r _ [134, 135, 136, 137, 138, 139, 140, 944, 945, 946, 947, 906, 907, 908, 909, 910, 948, 949, 950, 951, 952, 953, 954, 955] (by decide +kernel) (by decide +kernel)
set_option maxRecDepth 20000 in
theorem ggL_holds_L_isBest_q7 : GoodIn wsL_holds wsL_isBest_r7 := goodIn_r _ [956, 957, 958, 959, 960, 961] (by decide +kernel) (by decide +kernel)
set_option maxRecDepth 20000 in
theorem ggL_holds_L_isBest_q8 : GoodIn wsL_holds wsL0 := goodIn_r _ [1123, 1124, 1125, 1126, 1127, 1128, 1129, 1130, 1131, 1132] (by decide +kernel) (by decide +kernel)
set_option maxRecDepth 20000 in
theorem ggL_holds_L_isBest_q9 : GoodIn wsL_holds wsX120 := goodIn_r _ [1133] (by decide +kernel) (by decide +kernel)
set_option maxRecDepth 20000 in
theorem ggL_holds_L_isBest_q10 : GoodIn wsL_holds wsX110 := goodIn_r _ [1138, 1139, 1140, 1141, 1142, 1143, 1144, 1145, 1146, 1147, 1148, 1149, 1150, 1151] (by decide +kernel) (by decide +kernel)
set_option maxRecDepth 20000 in
theorem ggL_holds_L_isBest_q11 : GoodIn wsL_holds wsX40 := goodIn_r _ [1185, 1186] (by decide +kernel) (by decide +kernel)
set_option maxRecDepth 20000 in
theorem ggL_holds_L_isBest_q12 : GoodIn wsL_holds wsX80 := goodIn_r _ [1152, 1153, 1154, 1155, 1156, 1157, 1158, 1159] (by decide +kernel) (by decide +kernel)
set_option maxRecDepth 20000 in
theorem ggL_holds_L_isBest_q13 : GoodIn wsL_holds wsX100 := goodIn_r _ [1160, 1161, 1162, 1163] (by decide +kernel) (by decide +kernel)
set_option maxRecDepth 20000 in
theorem ggL_holds_L_isBest_q14 : GoodIn wsL_holds wsX20 := goodIn_r _ [1164, 1165, 1166, 1167, 1168, 1169, 1170, 1171] (by decide +kernel) (by decide +kernel)
set_option maxRecDepth 20000 in
theorem ggL_holds_L_isBest_q15 : GoodIn wsL_holds wsX50 := goodIn_r _ [1172, 1173, 1174, 1175, 1176] (by decide +kernel) (by decide +kernel)
set_option maxRecDepth 20000 in
theorem ggL_holds_L_isBest_q16 : GoodIn wsL_holds wsX00 := goodIn_r _ [1177] (by decide +kernel) (by decide +kernel)
set_option maxRecDepth 20000 in
theorem ggL_holds_L_isBest_q17 : GoodIn wsL_holds wsX30 := goodIn_r _ [1178, 1179, 1180, 1181, 1182, 1183, 1184] (by decide +kernel) (by decide +kernel)
set_option maxRecDepth 20000 in
theorem ggL_holds_L_isBest_q18 : GoodIn wsL_holds wsX10 := goodIn_r _ [1187, 1188, 1189, 1190, 1191, 1192, 1193, 1194, 1195] (by decide +kernel) (by decide +kernel)
set_option maxRecDepth 20000 in
theorem ggL_holds_L_isBest : GoodIn wsL_holds wsL_isBest := goodIn_ca (goodIn_ca (goodIn_ca (goodIn_ca (goodIn_cn ggL_holds_L_isBest_q0 (goodIn_app (goodIn_app (goodIn_app (goodIn_app (goodIn_app (goodIn_app (goodIn_app (goodIn_app (goodIn_app (goodIn_app (goodIn_app (goodIn_app ggL_holds_L_isBest_q1 (goodIn_app ggL_holds_L_isBest_q2 (goodIn_app ggL_holds_L_isBest_q3 (goodIn_app ggL_holds_L_isBest_q4 (goodIn_app ggL_holds_L_isBest_q5 (goodIn_app ggL_holds_L_isBest_q6 ggL_holds_L_isBest_q7)))))) ggL_holds_L_isBest_q8) ggL_holds_L_isBest_q9) ggL_holds_L_isBest_q10) ggL_holds_L_isBest_q11) ggL_holds_L_isBest_q12) ggL_holds_L_isBest_q13) ggL_holds_L_isBest_q14) ggL_holds_L_isBest_q15) ggL_holds_L_isBest_q16) ggL_holds_L_isBest_q17) ggL_holds_L_isBest_q18)) (goodIn_sub (fun _ h => List.mem_cons_of_mem _ (List.mem_append_left _ (List.mem_append_right _ h))) (by decide +kernel))) (goodIn_sub (fun _ h => List.mem_cons_of_mem _ (List.mem_append_left _ (List.mem_append_left _ (List.mem_append_left _ (List.mem_append_right _ h))))) (by decide +kernel))) (goodIn_sub (fun _ h => List.mem_cons_of_mem _ (List.mem_append_left _ (List.mem_append_left _ (List.mem_append_right _ h)))) (by decide +kernel))) (goodIn_sub (fun _ h => List.mem_cons_of_mem _ (List.mem_append_right _ h)) (by decide +kernel))
set_option maxRecDepth 20000 in
theorem gL_holds_L_isBest : GoodIn wsL_holds (wsV RL 313 RL yL_isBest wsL_isBest) := goodIn_app (goodIn_of _ (by decide +kernel)) ggL_holds_L_isBest
