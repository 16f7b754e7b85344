/-! ===== THE LAW'S OWN WORDS 4 ===== -/
set_option maxRecDepth 20000 in
theorem lt_wsL_holds_17 : GoodIn lw_tbl2 wsL_holds_r18 := goodIn_r _ [11, 946, 947, 948, 949, 950, 951, 952, 953, 954, 955, 956, 957, 958, 959, 960, 961, 962, 963, 964, 965, 966, 428, 408] (by decide +kernel) (by decide +kernel)
set_option maxRecDepth 20000 in
theorem lt_wsL_holds_18 : GoodIn lw_tbl2 wsL_holds_r19 := goodIn_r _ [967, 968, 969, 69, 970, 971, 972, 973, 975, 976, 977, 978, 407, 406, 979, 980, 981, 982, 983, 984, 985, 986, 409, 987] (by decide +kernel) (by decide +kernel)
set_option maxRecDepth 20000 in
theorem lt_wsL_holds_19 : GoodIn lw_tbl2 wsL_holds_r20 := goodIn_r _ [988, 989, 990, 992, 12, 993, 994, 996, 13, 997, 998, 1000, 14, 1001, 1002, 1004, 15, 1005, 1006, 1007, 1008, 1009, 1010, 1011] (by decide +kernel) (by decide +kernel)
set_option maxRecDepth 20000 in
theorem lt_wsL_holds_20 : GoodIn lw_tbl2 wsL_holds_r21 := goodIn_r _ [1012, 1013, 1014, 1015, 410, 153, 1016, 1017, 1018, 1019, 1020, 1021, 1022, 1023, 1024, 1028, 1025, 1026, 1027, 1029, 1030, 1031, 1032, 1033] (by decide +kernel) (by decide +kernel)
set_option maxRecDepth 20000 in
theorem lt_wsL_holds_21 : GoodIn lw_tbl2 wsL_holds_r22 := goodIn_r _ [1034, 1035, 1036, 1037, 1038, 1040, 16, 1041, 1045, 1046, 1047, 1048, 1049, 113, 1050, 114, 1051, 1053, 17, 1054, 1055, 1056, 1057, 1058] (by decide +kernel) (by decide +kernel)
set_option maxRecDepth 20000 in
theorem lt_wsL_holds_22 : GoodIn lw_tbl2 wsL_holds_r23 := goodIn_r _ [117, 119, 1059, 1060, 1061, 1062, 1063, 1064, 1065, 1066, 184, 1067, 1069, 18, 1070, 1071, 1072, 1073, 1074, 1075, 1076, 1077, 1078, 1079] (by decide +kernel) (by decide +kernel)
set_option maxRecDepth 20000 in
theorem lt_wsL_holds_23 : GoodIn lw_tbl2 wsL_holds_r24 := goodIn_r _ [1081, 19, 1082, 475, 1083, 1084, 1085, 1086, 234, 232, 1087, 1088, 1089, 1090, 230, 1091, 1092, 1093, 1094, 227, 1095, 1096, 1097, 1098] (by decide +kernel) (by decide +kernel)
set_option maxRecDepth 20000 in
theorem lt_wsL_holds_24 : GoodIn lw_tbl2 wsL_holds_r25 := goodIn_r _ [1099, 1100, 1101, 1102, 199, 1103, 1105, 20, 1106, 1107, 1108, 1109, 1110, 179, 182, 1111, 1112, 1113, 1114, 225, 1115, 1116, 1117, 1118] (by decide +kernel) (by decide +kernel)
set_option maxRecDepth 20000 in
theorem lt_wsL_holds_25 : GoodIn lw_tbl2 wsL_holds_r26 := goodIn_r _ [1119, 1120, 1121, 1122, 1123, 1124, 1125, 1126, 1127, 1128, 1129, 1132, 1133, 1134, 1135, 1136, 1138, 21, 1139, 191, 196, 285, 181, 183] (by decide +kernel) (by decide +kernel)
set_option maxRecDepth 20000 in
theorem lt_wsL_holds_26 : GoodIn lw_tbl2 wsL_holds_r27 := goodIn_r _ [1140, 1141, 1142, 1143, 188, 185, 194, 1144, 1146, 22, 1147, 1148, 1149, 1150, 1151, 1152, 1154, 23, 1155, 1156, 1157, 1158, 1159, 138] (by decide +kernel) (by decide +kernel)
