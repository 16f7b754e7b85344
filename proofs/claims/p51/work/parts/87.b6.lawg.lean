/-! ===== GOODS OF THE LAW: b6 ===== -/
set_option maxRecDepth 20000 in
theorem ggL_holds_L_isDay_q0 : GoodIn wsL_holds [.code yL_isDay cL_isDay 7 (some .boolean)] := goodIn_r _ [555] (by decide +kernel) (by decide +kernel)
set_option maxRecDepth 20000 in
theorem ggL_holds_L_isDay_q1 : GoodIn wsL_holds wsL_isDay_r1 := goodIn_r _ [4, 1, 2, 3, 17, 556, 18, 19, 5, 6, 7, 8, 9, 10, 11, 557, 558, 559, 33, 560, 64, 561, 562, 42] (by decide +kernel) (by decide +kernel)
set_option maxRecDepth 20000 in
theorem ggL_holds_L_isDay_q2 : GoodIn wsL_holds wsL_isDay_r2 := goodIn_r _ [43, 44, 45, 46, 47, 48, 49, 55, 56, 57, 58, 59, 60, 61, 62, 35, 63, 65, 66, 67, 68, 69, 70, 71] (by decide +kernel) (by decide +kernel)
set_option maxRecDepth 20000 in
theorem ggL_holds_L_isDay_q3 : GoodIn wsL_holds wsL_isDay_r3 := goodIn_r _ [72, 73, 74, 75, 76, 77, 78, 79, 80, 81, 82, 83, 84, 85, 86, 87, 88, 89, 90, 91, 92, 93, 94, 95] (by decide +kernel) (by decide +kernel)
set_option maxRecDepth 20000 in
theorem ggL_holds_L_isDay_q4 : GoodIn wsL_holds wsL_isDay_r4 := goodIn_r _ [96, 97, 98, 99, 100, 101, 102, 103, 104, 105, 106, 107, 108, 109, 110, 111, 112, 113, 114, 115, 116, 117, 118, 119] (by decide +kernel) (by decide +kernel)
set_option maxRecDepth 20000 in
theorem ggL_holds_L_isDay_q5 : GoodIn wsL_holds wsL_isDay_r5 := goodIn_r _ [120, 121, 122, 123, 124, 125, 126, 127, 128, 129, 130, 131, 132, 133, 134, 135, 136, 137, 138, 139, 140, 563, 564, 565] (by decide +kernel) (by decide +kernel)
set_option maxRecDepth 20000 in
theorem ggL_holds_L_isDay_q6 : GoodIn wsL_holds wsL_isDay_r6 := goodIn_r _ [566, 567, 568, 569, 570, 571, 572, 573, 574, 15, 575, 576, 577, 578, 579, 580, 37, 581, 518, 146, 147, 148, 149, 36] (by decide +kernel) (by decide +kernel)
set_option maxRecDepth 20000 in
theorem ggL_holds_L_isDay_q7 : GoodIn wsL_holds wsL_isDay_r7 := goodIn_r _ [150, 151, 152, 153, 154, 500, 501, 502, 503, 504, 489, 490, 491, 582, 583, 584, 585, 505, 506, 507, 508, 509, 510, 511] (by decide +kernel) (by decide +kernel)
set_option maxRecDepth 20000 in
theorem ggL_holds_L_isDay_q8 : GoodIn wsL_holds wsL_isDay_r8 := goodIn_r _ [512, 50, 51, 52, 53, 54, 586, 587, 588, 589, 590, 591, 539, 592, 593, 594, 595, 596, 597, 598, 599, 600, 496, 601] (by decide +kernel) (by decide +kernel)
set_option maxRecDepth 20000 in
theorem ggL_holds_L_isDay_q9 : GoodIn wsL_holds wsL_isDay_r9 := goodIn_r _ [602, 603, 604, 605, 233, 28, 234, 606, 216, 217, 607, 608, 609, 610, 611, 612, 613, 614, 615, 616, 617, 618, 619, 620] (by decide +kernel) (by decide +kernel)
set_option maxRecDepth 20000 in
theorem ggL_holds_L_isDay_q10 : GoodIn wsL_holds wsL_isDay_r10 := goodIn_r _ [621, 622, 623, 624, 625, 626, 627, 628, 629, 630, 631, 632, 633, 634, 635, 636, 637, 638, 639, 640, 641, 642, 643, 644] (by decide +kernel) (by decide +kernel)
set_option maxRecDepth 20000 in
theorem ggL_holds_L_isDay_q11 : GoodIn wsL_holds wsL_isDay_r11 := goodIn_r _ [645, 646, 647, 648, 649, 650, 651, 652, 653, 654, 655, 656, 657, 658, 659, 660, 145, 661, 662, 663, 664, 40, 665, 666] (by decide +kernel) (by decide +kernel)
set_option maxRecDepth 20000 in
theorem ggL_holds_L_isDay_q12 : GoodIn wsL_holds wsL_isDay_r12 := goodIn_r _ [667, 668, 669, 670, 671, 672, 521, 522, 523, 524, 525, 526, 527, 528, 520, 529, 530, 531, 532, 533, 534, 535, 536, 537] (by decide +kernel) (by decide +kernel)
set_option maxRecDepth 20000 in
theorem ggL_holds_L_isDay_q13 : GoodIn wsL_holds wsL_isDay_r13 := goodIn_r _ [538, 540, 541, 542, 543, 544, 545, 546, 547, 548, 549, 550, 551, 497, 498, 499, 673, 674, 675, 676, 677, 22, 678, 679] (by decide +kernel) (by decide +kernel)
set_option maxRecDepth 20000 in
theorem ggL_holds_L_isDay_q14 : GoodIn wsL_holds wsL_isDay_r14 := goodIn_r _ [680, 681, 682, 21, 683, 684, 685, 686, 687, 688, 689, 690, 691, 692, 693, 694, 695, 696, 697, 698, 699, 700, 701, 702] (by decide +kernel) (by decide +kernel)
set_option maxRecDepth 20000 in
theorem ggL_holds_L_isDay_q15 : GoodIn wsL_holds wsL_isDay_r15 := goodIn_r _ [703, 704, 705, 706, 707, 708, 709, 710, 711, 712, 713, 714, 715, 716, 717, 718, 719, 720, 721, 722, 723, 724, 725, 726] (by decide +kernel) (by decide +kernel)
set_option maxRecDepth 20000 in
theorem ggL_holds_L_isDay_q16 : GoodIn wsL_holds wsL_isDay_r16 := goodIn_r _ [727, 728, 729, 730, 731, 732, 733, 734, 735, 736, 737, 738, 739, 740, 741, 742, 743, 744, 745, 746, 747, 748, 749, 750] (by decide +kernel) (by decide +kernel)
set_option maxRecDepth 20000 in
theorem ggL_holds_L_isDay_q17 : GoodIn wsL_holds wsL_isDay_r17 := goodIn_r _ [751, 752, 753, 754, 755, 756, 757, 758] (by decide +kernel) (by decide +kernel)
set_option maxRecDepth 20000 in
theorem ggL_holds_L_isDay_q18 : GoodIn wsL_holds wsL0 := goodIn_r _ [1123, 1124, 1125, 1126, 1127, 1128, 1129, 1130, 1131, 1132] (by decide +kernel) (by decide +kernel)
set_option maxRecDepth 20000 in
theorem ggL_holds_L_isDay_q19 : GoodIn wsL_holds wsX120 := goodIn_r _ [1133] (by decide +kernel) (by decide +kernel)
set_option maxRecDepth 20000 in
theorem ggL_holds_L_isDay_q20 : GoodIn wsL_holds wsX110 := goodIn_r _ [1138, 1139, 1140, 1141, 1142, 1143, 1144, 1145, 1146, 1147, 1148, 1149, 1150, 1151] (by decide +kernel) (by decide +kernel)
set_option maxRecDepth 20000 in
theorem ggL_holds_L_isDay_q21 : GoodIn wsL_holds wsX50 := goodIn_r _ [1172, 1173, 1174, 1175, 1176] (by decide +kernel) (by decide +kernel)
set_option maxRecDepth 20000 in
theorem ggL_holds_L_isDay_q22 : GoodIn wsL_holds wsX100 := goodIn_r _ [1160, 1161, 1162, 1163] (by decide +kernel) (by decide +kernel)
set_option maxRecDepth 20000 in
theorem ggL_holds_L_isDay_q23 : GoodIn wsL_holds wsX80 := goodIn_r _ [1152, 1153, 1154, 1155, 1156, 1157, 1158, 1159] (by decide +kernel) (by decide +kernel)
set_option maxRecDepth 20000 in
theorem ggL_holds_L_isDay_q24 : GoodIn wsL_holds wsX20 := goodIn_r _ [1164, 1165, 1166, 1167, 1168, 1169, 1170, 1171] (by decide +kernel) (by decide +kernel)
set_option maxRecDepth 20000 in
theorem ggL_holds_L_isDay_q25 : GoodIn wsL_holds wsX00 := goodIn_r _ [1177] (by decide +kernel) (by decide +kernel)
set_option maxRecDepth 20000 in
theorem ggL_holds_L_isDay_q26 : GoodIn wsL_holds wsX30 := goodIn_r _ [1178, 1179, 1180, 1181, 1182, 1183, 1184] (by decide +kernel) (by decide +kernel)
set_option maxRecDepth 20000 in
theorem ggL_holds_L_isDay_q27 : GoodIn wsL_holds wsX40 := goodIn_r _ [1185, 1186] (by decide +kernel) (by decide +kernel)
set_option maxRecDepth 20000 in
theorem ggL_holds_L_isDay_q28 : GoodIn wsL_holds wsX10 := goodIn_r _ [1187, 1188, 1189, 1190, 1191, 1192, 1193, 1194, 1195] (by decide +kernel) (by decide +kernel)
set_option maxRecDepth 20000 in
theorem ggL_holds_L_isDay_q29 : GoodIn wsL_holds wsX70 := goodIn_r _ [1203, 1204, 1205, 1206, 1207, 1208, 1209, 1210] (by decide +kernel) (by decide +kernel)
set_option maxRecDepth 20000 in
theorem ggL_holds_L_isDay : GoodIn wsL_holds wsL_isDay := goodIn_ca (goodIn_ca (goodIn_ca (goodIn_cn ggL_holds_L_isDay_q0 (goodIn_app (goodIn_app (goodIn_app (goodIn_app (goodIn_app (goodIn_app (goodIn_app (goodIn_app (goodIn_app (goodIn_app (goodIn_app (goodIn_app (goodIn_app ggL_holds_L_isDay_q1 (goodIn_app ggL_holds_L_isDay_q2 (goodIn_app ggL_holds_L_isDay_q3 (goodIn_app ggL_holds_L_isDay_q4 (goodIn_app ggL_holds_L_isDay_q5 (goodIn_app ggL_holds_L_isDay_q6 (goodIn_app ggL_holds_L_isDay_q7 (goodIn_app ggL_holds_L_isDay_q8 (goodIn_app ggL_holds_L_isDay_q9 (goodIn_app ggL_holds_L_isDay_q10 (goodIn_app ggL_holds_L_isDay_q11 (goodIn_app ggL_holds_L_isDay_q12 (goodIn_app ggL_holds_L_isDay_q13 (goodIn_app ggL_holds_L_isDay_q14 (goodIn_app ggL_holds_L_isDay_q15 (goodIn_app ggL_holds_L_isDay_q16 ggL_holds_L_isDay_q17)))))))))))))))) ggL_holds_L_isDay_q18) ggL_holds_L_isDay_q19) ggL_holds_L_isDay_q20) ggL_holds_L_isDay_q21) ggL_holds_L_isDay_q22) ggL_holds_L_isDay_q23) ggL_holds_L_isDay_q24) ggL_holds_L_isDay_q25) ggL_holds_L_isDay_q26) ggL_holds_L_isDay_q27) ggL_holds_L_isDay_q28) ggL_holds_L_isDay_q29)) (goodIn_sub (fun _ h => List.mem_cons_of_mem _ (List.mem_append_left _ (List.mem_append_left _ (List.mem_append_left _ (List.mem_append_right _ h))))) (by decide +kernel))) (goodIn_sub (fun _ h => List.mem_cons_of_mem _ (List.mem_append_left _ (List.mem_append_right _ h))) (by decide +kernel))) (goodIn_sub (fun _ h => List.mem_cons_of_mem _ (List.mem_append_left _ (List.mem_append_left _ (List.mem_append_right _ h)))) (by decide +kernel))
set_option maxRecDepth 20000 in
theorem gL_holds_L_isDay : GoodIn wsL_holds (wsV RL 304 RL yL_isDay wsL_isDay) := goodIn_app (goodIn_of _ (by decide +kernel)) ggL_holds_L_isDay
