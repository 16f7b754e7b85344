/-! ===== GOODS OF THE LAW: b9 ===== -/
set_option maxRecDepth 20000 in
theorem ggL_holds_L_isDriven_q0 : GoodIn wsL_holds [.code yL_isDriven cL_isDriven 8 (some .boolean)] := goodIn_r _ [965] (by decide +kernel) (by decide +kernel)
set_option maxRecDepth 20000 in
theorem ggL_holds_L_isDriven_q1 : GoodIn wsL_holds wsL_isDriven_r1 := goodIn_r _ [1, 4, 966, 5, 6, 7, 8, 9, 10, 11, 967, 968, 969, 33, 970, 68, 971, 972, 973, 974, 975, 976, 42, 43] (by decide +kernel) (by decide +kernel)
set_option maxRecDepth 20000 in
theorem ggL_holds_L_isDriven_q2 : GoodIn wsL_holds wsL_isDriven_r2 := goodIn_r _ [44, 45, 46, 47, 48, 49, 50, 51, 52, 53, 54, 55, 56, 57, 58, 59, 60, 61, 62, 35, 63, 64, 65, 66] (by decide +kernel) (by decide +kernel)
set_option maxRecDepth 20000 in
theorem ggL_holds_L_isDriven_q3 : GoodIn wsL_holds wsL_isDriven_r3 := goodIn_r _ [67, 69, 70, 71, 72, 73, 74, 75, 76, 77, 78, 79, 80, 81, 82, 83, 84, 85, 86, 87, 88, 89, 90, 91] (by decide +kernel) (by decide +kernel)
set_option maxRecDepth 20000 in
theorem ggL_holds_L_isDriven_q4 : GoodIn wsL_holds wsL_isDriven_r4 := goodIn_r _ [92, 93, 94, 95, 96, 97, 98, 99, 100, 101, 102, 103, 104, 105, 106, 107, 108, 109, 110, 111, 112, 113, 114, 115] (by decide +kernel) (by decide +kernel)
set_option maxRecDepth 20000 in
theorem ggL_holds_L_isDriven_q5 : GoodIn wsL_holds wsL_isDriven_r5 := goodIn_r _ [116, 117, 118, 119, 120, 121, 122, 123, 124, 125, 126, 127, 128, 129, 130, 131, 132, 133, 134, 135, 136, 137, 138, 139] (by decide +kernel) (by decide +kernel)
set_option maxRecDepth 20000 in
theorem ggL_holds_L_isDriven_q6 : GoodIn wsL_holds wsL_isDriven_r6 := goodIn_r _ [140, 977, 978, 15, 979, 980, 981, 982, 983, 984, 985, 986, 987, 988, 989, 990, 991, 992, 993, 994, 995, 996, 997, 998] (by decide +kernel) (by decide +kernel)
set_option maxRecDepth 20000 in
theorem ggL_holds_L_isDriven_q7 : GoodIn wsL_holds wsL_isDriven_r7 := goodIn_r _ [999, 216, 28, 217, 1000, 1001, 1002, 1003, 1004, 1005, 1006, 1007, 1008, 1009, 1010, 1011, 1012, 839, 1013, 1014, 1015, 1016, 1017, 1018] (by decide +kernel) (by decide +kernel)
set_option maxRecDepth 20000 in
theorem ggL_holds_L_isDriven_q8 : GoodIn wsL_holds wsL_isDriven_r8 := goodIn_r _ [1019, 1020, 1021, 1022, 1023, 1024, 1025, 1026, 1027, 906, 907, 908, 909, 910, 1028, 1029, 1030, 1031, 1032, 150, 151, 152, 153, 154] (by decide +kernel) (by decide +kernel)
set_option maxRecDepth 20000 in
theorem ggL_holds_L_isDriven_q9 : GoodIn wsL_holds wsL0 := goodIn_r _ [1123, 1124, 1125, 1126, 1127, 1128, 1129, 1130, 1131, 1132] (by decide +kernel) (by decide +kernel)
set_option maxRecDepth 20000 in
theorem ggL_holds_L_isDriven_q10 : GoodIn wsL_holds wsX120 := goodIn_r _ [1133] (by decide +kernel) (by decide +kernel)
set_option maxRecDepth 20000 in
theorem ggL_holds_L_isDriven_q11 : GoodIn wsL_holds wsX110 := goodIn_r _ [1138, 1139, 1140, 1141, 1142, 1143, 1144, 1145, 1146, 1147, 1148, 1149, 1150, 1151] (by decide +kernel) (by decide +kernel)
set_option maxRecDepth 20000 in
theorem ggL_holds_L_isDriven_q12 : GoodIn wsL_holds wsX10 := goodIn_r _ [1187, 1188, 1189, 1190, 1191, 1192, 1193, 1194, 1195] (by decide +kernel) (by decide +kernel)
set_option maxRecDepth 20000 in
theorem ggL_holds_L_isDriven_q13 : GoodIn wsL_holds wsX100 := goodIn_r _ [1160, 1161, 1162, 1163] (by decide +kernel) (by decide +kernel)
set_option maxRecDepth 20000 in
theorem ggL_holds_L_isDriven_q14 : GoodIn wsL_holds wsX80 := goodIn_r _ [1152, 1153, 1154, 1155, 1156, 1157, 1158, 1159] (by decide +kernel) (by decide +kernel)
set_option maxRecDepth 20000 in
theorem ggL_holds_L_isDriven_q15 : GoodIn wsL_holds wsX20 := goodIn_r _ [1164, 1165, 1166, 1167, 1168, 1169, 1170, 1171] (by decide +kernel) (by decide +kernel)
set_option maxRecDepth 20000 in
theorem ggL_holds_L_isDriven_q16 : GoodIn wsL_holds wsX50 := goodIn_r _ [1172, 1173, 1174, 1175, 1176] (by decide +kernel) (by decide +kernel)
set_option maxRecDepth 20000 in
theorem ggL_holds_L_isDriven_q17 : GoodIn wsL_holds wsX00 := goodIn_r _ [1177] (by decide +kernel) (by decide +kernel)
set_option maxRecDepth 20000 in
theorem ggL_holds_L_isDriven_q18 : GoodIn wsL_holds wsX30 := goodIn_r _ [1178, 1179, 1180, 1181, 1182, 1183, 1184] (by decide +kernel) (by decide +kernel)
set_option maxRecDepth 20000 in
theorem ggL_holds_L_isDriven_q19 : GoodIn wsL_holds wsX40 := goodIn_r _ [1185, 1186] (by decide +kernel) (by decide +kernel)
set_option maxRecDepth 20000 in
theorem ggL_holds_L_isDriven : GoodIn wsL_holds wsL_isDriven := goodIn_ca (goodIn_ca (goodIn_ca (goodIn_ca (goodIn_cn ggL_holds_L_isDriven_q0 (goodIn_app (goodIn_app (goodIn_app (goodIn_app (goodIn_app (goodIn_app (goodIn_app (goodIn_app (goodIn_app (goodIn_app (goodIn_app (goodIn_app ggL_holds_L_isDriven_q1 (goodIn_app ggL_holds_L_isDriven_q2 (goodIn_app ggL_holds_L_isDriven_q3 (goodIn_app ggL_holds_L_isDriven_q4 (goodIn_app ggL_holds_L_isDriven_q5 (goodIn_app ggL_holds_L_isDriven_q6 (goodIn_app ggL_holds_L_isDriven_q7 ggL_holds_L_isDriven_q8))))))) ggL_holds_L_isDriven_q9) ggL_holds_L_isDriven_q10) ggL_holds_L_isDriven_q11) ggL_holds_L_isDriven_q12) ggL_holds_L_isDriven_q13) ggL_holds_L_isDriven_q14) ggL_holds_L_isDriven_q15) ggL_holds_L_isDriven_q16) ggL_holds_L_isDriven_q17) ggL_holds_L_isDriven_q18) ggL_holds_L_isDriven_q19)) (goodIn_sub (fun _ h => List.mem_cons_of_mem _ (List.mem_append_left _ (List.mem_append_left _ (List.mem_append_left _ (List.mem_append_right _ h))))) (by decide +kernel))) (goodIn_sub (fun _ h => List.mem_cons_of_mem _ (List.mem_append_left _ (List.mem_append_left _ (List.mem_append_right _ h)))) (by decide +kernel))) (goodIn_sub (fun _ h => List.mem_cons_of_mem _ (List.mem_append_right _ h)) (by decide +kernel))) (goodIn_sub (fun _ h => List.mem_cons_of_mem _ (List.mem_append_left _ (List.mem_append_right _ h))) (by decide +kernel))
set_option maxRecDepth 20000 in
theorem gL_holds_L_isDriven : GoodIn wsL_holds (wsV RL 316 RL yL_isDriven wsL_isDriven) := goodIn_app (goodIn_of _ (by decide +kernel)) ggL_holds_L_isDriven
set_option maxRecDepth 20000 in
theorem ggL_holds_L_isClean_q0 : GoodIn wsL_holds [.code yL_isClean cL_isClean 8 (some .boolean)] := goodIn_r _ [1036] (by decide +kernel) (by decide +kernel)
set_option maxRecDepth 20000 in
theorem ggL_holds_L_isClean_q1 : GoodIn wsL_holds wsL_isClean_r1 := goodIn_r _ [1, 17, 4, 5, 6, 7, 8, 9, 10, 11, 1037, 1038, 1039, 33, 1040, 1041, 1042, 1043, 1044, 1045, 1046, 35, 36, 42] (by decide +kernel) (by decide +kernel)
set_option maxRecDepth 20000 in
theorem ggL_holds_L_isClean_q2 : GoodIn wsL_holds wsL_isClean_r2 := goodIn_r _ [43, 44, 45, 46, 47, 48, 49, 1047, 1048, 1049, 1050, 1051, 1052, 1053, 1054, 1055, 1056, 1057, 1058, 76, 77, 78, 1059, 1060] (by decide +kernel) (by decide +kernel)
set_option maxRecDepth 20000 in
theorem ggL_holds_L_isClean_q3 : GoodIn wsL_holds wsL_isClean_r3 := goodIn_r _ [1061, 1062, 1063, 1064, 1065, 1066, 1067, 1068, 1069, 1070, 1071, 1072, 324, 1073, 1074, 1075, 1076, 150, 151, 152, 153, 154, 1077, 1078] (by decide +kernel) (by decide +kernel)
set_option maxRecDepth 20000 in
theorem ggL_holds_L_isClean_q4 : GoodIn wsL_holds wsL_isClean_r4 := goodIn_r _ [1079, 15, 1080, 20, 1081, 1082, 1083, 1084, 1085, 966, 763, 233, 28, 234] (by decide +kernel) (by decide +kernel)
set_option maxRecDepth 20000 in
theorem ggL_holds_L_isClean_q5 : GoodIn wsL_holds wsL0 := goodIn_r _ [1123, 1124, 1125, 1126, 1127, 1128, 1129, 1130, 1131, 1132] (by decide +kernel) (by decide +kernel)
set_option maxRecDepth 20000 in
theorem ggL_holds_L_isClean_q6 : GoodIn wsL_holds wsX120 := goodIn_r _ [1133] (by decide +kernel) (by decide +kernel)
set_option maxRecDepth 20000 in
theorem ggL_holds_L_isClean_q7 : GoodIn wsL_holds wsX110 := goodIn_r _ [1138, 1139, 1140, 1141, 1142, 1143, 1144, 1145, 1146, 1147, 1148, 1149, 1150, 1151] (by decide +kernel) (by decide +kernel)
set_option maxRecDepth 20000 in
theorem ggL_holds_L_isClean_q8 : GoodIn wsL_holds wsX90 := goodIn_r _ [1211, 1212, 1213, 1214] (by decide +kernel) (by decide +kernel)
set_option maxRecDepth 20000 in
theorem ggL_holds_L_isClean_q9 : GoodIn wsL_holds wsX80 := goodIn_r _ [1152, 1153, 1154, 1155, 1156, 1157, 1158, 1159] (by decide +kernel) (by decide +kernel)
set_option maxRecDepth 20000 in
theorem ggL_holds_L_isClean : GoodIn wsL_holds wsL_isClean := goodIn_ca (goodIn_ca (goodIn_cn ggL_holds_L_isClean_q0 (goodIn_app (goodIn_app (goodIn_app (goodIn_app (goodIn_app (goodIn_app ggL_holds_L_isClean_q1 (goodIn_app ggL_holds_L_isClean_q2 (goodIn_app ggL_holds_L_isClean_q3 ggL_holds_L_isClean_q4))) ggL_holds_L_isClean_q5) ggL_holds_L_isClean_q6) ggL_holds_L_isClean_q7) ggL_holds_L_isClean_q8) ggL_holds_L_isClean_q9)) (goodIn_sub (fun _ h => List.mem_cons_of_mem _ (List.mem_append_left _ (List.mem_append_left _ (List.mem_append_left _ (List.mem_append_right _ h))))) (by decide +kernel))) (goodIn_sub (fun _ h => List.mem_cons_of_mem _ (List.mem_append_left _ (List.mem_append_right _ h))) (by decide +kernel))
set_option maxRecDepth 20000 in
theorem gL_holds_L_isClean : GoodIn wsL_holds (wsV RL 319 RL yL_isClean wsL_isClean) := goodIn_app (goodIn_of _ (by decide +kernel)) ggL_holds_L_isClean
set_option maxRecDepth 20000 in
theorem ggL_holds_X11_errors_q0 : GoodIn wsL_holds [.code yX11_errors cX11_errors 2 (some .int)] := goodIn_r _ [1089] (by decide +kernel) (by decide +kernel)
set_option maxRecDepth 20000 in
theorem ggL_holds_X11_errors_q1 : GoodIn wsL_holds wsX11_errors_r1 := goodIn_r _ [61, 520, 688, 68, 1090, 1091, 1092, 33, 1093, 529, 530, 63, 531, 532, 533, 72, 534, 74, 535, 536, 537, 94, 538, 96] (by decide +kernel) (by decide +kernel)
set_option maxRecDepth 20000 in
theorem ggL_holds_X11_errors_q2 : GoodIn wsL_holds wsX11_errors_r2 := goodIn_r _ [99, 539, 540, 541, 542, 543, 35, 36, 65, 37, 544, 545, 546, 115, 547, 117, 1094, 1095, 1096, 693, 1097, 695, 696, 1098] (by decide +kernel) (by decide +kernel)
set_option maxRecDepth 20000 in
theorem ggL_holds_X11_errors_q3 : GoodIn wsL_holds wsX11_errors_r3 := goodIn_r _ [1099, 691, 692, 694, 697, 698, 699, 700, 701, 702, 703, 704, 705, 706, 707, 708, 709, 710, 711, 712, 713, 714, 715, 716] (by decide +kernel) (by decide +kernel)
set_option maxRecDepth 20000 in
theorem ggL_holds_X11_errors_q4 : GoodIn wsL_holds wsX11_errors_r4 := goodIn_r _ [717, 718, 216, 28, 217, 719, 720, 608, 609, 105, 610, 108, 611, 43, 44, 721, 722, 723, 724, 725, 726, 727, 728, 729] (by decide +kernel) (by decide +kernel)
set_option maxRecDepth 20000 in
theorem ggL_holds_X11_errors_q5 : GoodIn wsL_holds wsX11_errors_r5 := goodIn_r _ [730, 731, 732, 733, 1100, 739, 740, 741, 742, 743, 744, 745, 1101, 751, 752, 753, 1102, 1103, 1104, 1105, 1106, 1107, 457, 224] (by decide +kernel) (by decide +kernel)
set_option maxRecDepth 20000 in
theorem ggL_holds_X11_errors_q6 : GoodIn wsL_holds wsX11_errors_r6 := goodIn_r _ [458, 1108, 1109, 1110, 1111, 1112, 1113, 1114, 1115, 1116, 1117, 1118, 1119, 138, 1120, 140, 988, 1022, 1121, 1019, 1020, 1021, 1023, 1024] (by decide +kernel) (by decide +kernel)
set_option maxRecDepth 20000 in
theorem ggL_holds_X11_errors_q7 : GoodIn wsL_holds wsX11_errors_r7 := goodIn_r _ [1025, 1026, 1027, 76, 77, 78, 1001, 1002, 1003, 1004, 1005, 1006, 1007, 1008, 1009, 993, 994, 995, 996, 997, 998, 999, 1000, 1122] (by decide +kernel) (by decide +kernel)
set_option maxRecDepth 20000 in
theorem ggL_holds_X11_errors_q8 : GoodIn wsL_holds wsX11_errors_r8 := goodIn_r _ [990, 991, 992] (by decide +kernel) (by decide +kernel)
set_option maxRecDepth 20000 in
theorem ggL_holds_X11_errors_q9 : GoodIn wsL_holds wsX110 := goodIn_r _ [1138, 1139, 1140, 1141, 1142, 1143, 1144, 1145, 1146, 1147, 1148, 1149, 1150, 1151] (by decide +kernel) (by decide +kernel)
set_option maxRecDepth 20000 in
theorem ggL_holds_X11_errors_q10 : GoodIn wsL_holds wsX100 := goodIn_r _ [1160, 1161, 1162, 1163] (by decide +kernel) (by decide +kernel)
set_option maxRecDepth 20000 in
theorem ggL_holds_X11_errors_q11 : GoodIn wsL_holds wsX20 := goodIn_r _ [1164, 1165, 1166, 1167, 1168, 1169, 1170, 1171] (by decide +kernel) (by decide +kernel)
set_option maxRecDepth 20000 in
theorem ggL_holds_X11_errors_q12 : GoodIn wsL_holds wsX80 := goodIn_r _ [1152, 1153, 1154, 1155, 1156, 1157, 1158, 1159] (by decide +kernel) (by decide +kernel)
set_option maxRecDepth 20000 in
theorem ggL_holds_X11_errors_q13 : GoodIn wsL_holds wsX00 := goodIn_r _ [1177] (by decide +kernel) (by decide +kernel)
set_option maxRecDepth 20000 in
theorem ggL_holds_X11_errors_q14 : GoodIn wsL_holds wsX70 := goodIn_r _ [1203, 1204, 1205, 1206, 1207, 1208, 1209, 1210] (by decide +kernel) (by decide +kernel)
set_option maxRecDepth 20000 in
theorem ggL_holds_X11_errors_q15 : GoodIn wsL_holds wsX50 := goodIn_r _ [1172, 1173, 1174, 1175, 1176] (by decide +kernel) (by decide +kernel)
set_option maxRecDepth 20000 in
theorem ggL_holds_X11_errors_q16 : GoodIn wsL_holds wsX10 := goodIn_r _ [1187, 1188, 1189, 1190, 1191, 1192, 1193, 1194, 1195] (by decide +kernel) (by decide +kernel)
set_option maxRecDepth 20000 in
theorem ggL_holds_X11_errors : GoodIn wsL_holds wsX11_errors := goodIn_cn ggL_holds_X11_errors_q0 (goodIn_app (goodIn_app (goodIn_app (goodIn_app (goodIn_app (goodIn_app (goodIn_app (goodIn_app (goodIn_app ggL_holds_X11_errors_q1 (goodIn_app ggL_holds_X11_errors_q2 (goodIn_app ggL_holds_X11_errors_q3 (goodIn_app ggL_holds_X11_errors_q4 (goodIn_app ggL_holds_X11_errors_q5 (goodIn_app ggL_holds_X11_errors_q6 (goodIn_app ggL_holds_X11_errors_q7 ggL_holds_X11_errors_q8))))))) ggL_holds_X11_errors_q9) ggL_holds_X11_errors_q10) ggL_holds_X11_errors_q11) ggL_holds_X11_errors_q12) ggL_holds_X11_errors_q13) ggL_holds_X11_errors_q14) ggL_holds_X11_errors_q15) ggL_holds_X11_errors_q16)
set_option maxRecDepth 20000 in
theorem gL_holds_X11_errors : GoodIn wsL_holds (wsV RL 322 RX11 yX11_errors wsX11_errors) := goodIn_app (goodIn_of _ (by decide +kernel)) ggL_holds_X11_errors
