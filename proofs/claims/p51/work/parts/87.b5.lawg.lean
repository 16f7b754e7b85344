/-! ===== GOODS OF THE LAW: b5 ===== -/
theorem goodIn_cn {big a : List Cond} {c : Cond} (hc : GoodIn big [c]) (ha : GoodIn big a) : GoodIn big (c :: a) := fun w h => (List.mem_cons.mp h).elim (fun e => hc w (List.mem_cons.mpr (Or.inl e))) (ha w)
set_option maxRecDepth 20000 in
theorem ggL_holds_X12_next : GoodIn wsL_holds wsX12_next := goodIn_r _ [9, 10, 11, 1133] (by decide +kernel) (by decide +kernel)
set_option maxRecDepth 20000 in
theorem gL_holds_X12_next : GoodIn wsL_holds (wsV RL 59 RX12 yX12_next wsX12_next) := goodIn_app (goodIn_of _ (by decide +kernel)) ggL_holds_X12_next
set_option maxRecDepth 20000 in
theorem ggL_holds_L_areMade_q0 : GoodIn wsL_holds [.code yL_areMade cL_areMade 9 (some .boolean)] := goodIn_r _ [16] (by decide +kernel) (by decide +kernel)
set_option maxRecDepth 20000 in
theorem ggL_holds_L_areMade_q1 : GoodIn wsL_holds wsL_areMade_r1 := goodIn_r _ [1, 17, 18, 19, 20, 21, 4, 22, 23, 24, 25, 26, 27, 28, 29, 5, 6, 7, 8, 9, 10, 11, 30, 31] (by decide +kernel) (by decide +kernel)
set_option maxRecDepth 20000 in
theorem ggL_holds_L_areMade_q2 : GoodIn wsL_holds wsL_areMade_r2 := goodIn_r _ [32, 33, 34, 35, 36, 37, 38, 39, 40, 41, 42, 43, 44, 45, 46, 47, 48, 49, 50, 51, 52, 53, 54, 55] (by decide +kernel) (by decide +kernel)
set_option maxRecDepth 20000 in
theorem ggL_holds_L_areMade_q3 : GoodIn wsL_holds wsL_areMade_r3 := goodIn_r _ [56, 57, 58, 59, 60, 61, 62, 63, 64, 65, 66, 67, 68, 69, 70, 71, 72, 73, 74, 75, 76, 77, 78, 79] (by decide +kernel) (by decide +kernel)
set_option maxRecDepth 20000 in
theorem ggL_holds_L_areMade_q4 : GoodIn wsL_holds wsL_areMade_r4 := goodIn_r _ [80, 81, 82, 83, 84, 85, 86, 87, 88, 89, 90, 91, 92, 93, 94, 95, 96, 97, 98, 99, 100, 101, 102, 103] (by decide +kernel) (by decide +kernel)
set_option maxRecDepth 20000 in
theorem ggL_holds_L_areMade_q5 : GoodIn wsL_holds wsL_areMade_r5 := goodIn_r _ [104, 105, 106, 107, 108, 109, 110, 111, 112, 113, 114, 115, 116, 117, 118, 119, 120, 121, 122, 123, 124, 125, 126, 127] (by decide +kernel) (by decide +kernel)
set_option maxRecDepth 20000 in
theorem ggL_holds_L_areMade_q6 : GoodIn wsL_holds wsL_areMade_r6 := goodIn_r _ [128, 129, 130, 131, 132, 133, 134, 135, 136, 137, 138, 139, 140, 141, 142, 143, 144, 145, 146, 147, 148, 149, 150, 151] (by decide +kernel) (by decide +kernel)
set_option maxRecDepth 20000 in
theorem ggL_holds_L_areMade_q7 : GoodIn wsL_holds wsL_areMade_r7 := goodIn_r _ [152, 153, 154, 155, 156, 157, 158, 159, 160, 161, 162, 163, 164, 165, 166, 167, 168, 169, 170, 171, 172, 173, 174, 175] (by decide +kernel) (by decide +kernel)
set_option maxRecDepth 20000 in
theorem ggL_holds_L_areMade_q8 : GoodIn wsL_holds wsL_areMade_r8 := goodIn_r _ [176, 177, 178, 179, 180, 181, 182, 183, 184, 185, 186, 187, 188, 189, 190, 191, 192, 193, 194, 195, 196, 197, 198, 199] (by decide +kernel) (by decide +kernel)
set_option maxRecDepth 20000 in
theorem ggL_holds_L_areMade_q9 : GoodIn wsL_holds wsL_areMade_r9 := goodIn_r _ [200, 201, 202, 203, 204, 205, 206, 207, 208, 209, 210, 211, 212, 213, 214, 215, 216, 217, 218, 219, 220, 221, 222, 223] (by decide +kernel) (by decide +kernel)
set_option maxRecDepth 20000 in
theorem ggL_holds_L_areMade_q10 : GoodIn wsL_holds wsL_areMade_r10 := goodIn_r _ [224, 225, 226, 227, 228, 229, 230, 231, 232, 233, 234, 235, 236, 237, 238, 239, 240, 241, 242, 243, 244, 245, 246, 247] (by decide +kernel) (by decide +kernel)
set_option maxRecDepth 20000 in
theorem ggL_holds_L_areMade_q11 : GoodIn wsL_holds wsL_areMade_r11 := goodIn_r _ [248, 249, 250, 251, 252, 253, 254, 255, 256, 257, 258, 259, 260, 261, 262, 263, 264, 265, 266, 267, 268, 269, 270, 271] (by decide +kernel) (by decide +kernel)
set_option maxRecDepth 20000 in
theorem ggL_holds_L_areMade_q12 : GoodIn wsL_holds wsL_areMade_r12 := goodIn_r _ [272, 273, 274, 275, 276, 277, 278, 279, 280, 281, 282, 283, 284, 285, 286, 287, 288, 289, 290, 291, 292, 293, 294, 295] (by decide +kernel) (by decide +kernel)
set_option maxRecDepth 20000 in
theorem ggL_holds_L_areMade_q13 : GoodIn wsL_holds wsL_areMade_r13 := goodIn_r _ [296, 297, 298, 299, 300, 301, 302, 303, 304, 305, 306, 307, 308, 309, 310, 311, 312, 313, 314, 315, 316, 317, 318, 319] (by decide +kernel) (by decide +kernel)
set_option maxRecDepth 20000 in
theorem ggL_holds_L_areMade_q14 : GoodIn wsL_holds wsL_areMade_r14 := goodIn_r _ [320, 321, 322, 323, 324, 325, 326, 327, 328, 329, 330, 331, 332, 333, 334, 335, 336, 337, 338, 339, 340, 341, 342, 343] (by decide +kernel) (by decide +kernel)
set_option maxRecDepth 20000 in
theorem ggL_holds_L_areMade_q15 : GoodIn wsL_holds wsL_areMade_r15 := goodIn_r _ [344, 345, 346, 347, 348, 349, 350, 351, 352, 353, 354, 355, 356, 357, 358, 359, 360, 361, 362, 363, 364, 365, 366, 367] (by decide +kernel) (by decide +kernel)
set_option maxRecDepth 20000 in
theorem ggL_holds_L_areMade_q16 : GoodIn wsL_holds wsL_areMade_r16 := goodIn_r _ [368, 369, 370, 371, 372, 373, 374, 375, 376, 377, 378, 379, 380, 381, 382, 383, 384, 385, 386, 387, 388, 389, 390, 391] (by decide +kernel) (by decide +kernel)
set_option maxRecDepth 20000 in
theorem ggL_holds_L_areMade_q17 : GoodIn wsL_holds wsL_areMade_r17 := goodIn_r _ [392, 393, 394, 395, 396, 397, 398, 399, 400, 401, 402, 403, 404, 405, 406, 407, 408, 409, 15, 410, 411, 412, 413, 414] (by decide +kernel) (by decide +kernel)
set_option maxRecDepth 20000 in
theorem ggL_holds_L_areMade_q18 : GoodIn wsL_holds wsL_areMade_r18 := goodIn_r _ [415, 416, 417, 418, 419, 420, 421, 422, 423, 424, 425, 426, 427, 428, 429, 430, 431, 432, 433, 434, 435, 436, 437, 438] (by decide +kernel) (by decide +kernel)
set_option maxRecDepth 20000 in
theorem ggL_holds_L_areMade_q19 : GoodIn wsL_holds wsL_areMade_r19 := goodIn_r _ [439, 440, 441, 442, 443, 444, 445, 446, 447, 448, 449, 450, 451, 452, 453, 454, 455, 456, 457, 458, 459, 460, 461, 462] (by decide +kernel) (by decide +kernel)
set_option maxRecDepth 20000 in
theorem ggL_holds_L_areMade_q20 : GoodIn wsL_holds wsL_areMade_r20 := goodIn_r _ [463, 464, 465, 466, 467, 468, 469, 470, 471, 472, 473, 474, 475, 476, 477, 478, 479, 480, 481, 482, 483, 484, 485, 486] (by decide +kernel) (by decide +kernel)
set_option maxRecDepth 20000 in
theorem ggL_holds_L_areMade_q21 : GoodIn wsL_holds wsL_areMade_r21 := goodIn_r _ [487, 488, 489, 490, 491, 492, 493, 494, 495, 496, 497, 498, 499, 500, 501, 502, 503, 504, 505, 506, 507, 508, 509, 510] (by decide +kernel) (by decide +kernel)
set_option maxRecDepth 20000 in
theorem ggL_holds_L_areMade_q22 : GoodIn wsL_holds wsL_areMade_r22 := goodIn_r _ [511, 512, 513, 514, 515, 516, 517, 518, 519, 520, 521, 522, 523, 524, 525, 526, 527, 528, 529, 530, 531, 532, 533, 534] (by decide +kernel) (by decide +kernel)
set_option maxRecDepth 20000 in
theorem ggL_holds_L_areMade_q23 : GoodIn wsL_holds wsL_areMade_r23 := goodIn_r _ [535, 536, 537, 538, 539, 540, 541, 542, 543, 544, 545, 546, 547, 548, 549, 550, 551] (by decide +kernel) (by decide +kernel)
set_option maxRecDepth 20000 in
theorem ggL_holds_L_areMade_q24 : GoodIn wsL_holds wsL0 := goodIn_r _ [1123, 1124, 1125, 1126, 1127, 1128, 1129, 1130, 1131, 1132] (by decide +kernel) (by decide +kernel)
set_option maxRecDepth 20000 in
theorem ggL_holds_L_areMade_q25 : GoodIn wsL_holds wsJ40 := goodIn_r _ [1134, 1135, 1136, 1137] (by decide +kernel) (by decide +kernel)
set_option maxRecDepth 20000 in
theorem ggL_holds_L_areMade_q26 : GoodIn wsL_holds wsX120 := goodIn_r _ [1133] (by decide +kernel) (by decide +kernel)
set_option maxRecDepth 20000 in
theorem ggL_holds_L_areMade_q27 : GoodIn wsL_holds wsX110 := goodIn_r _ [1138, 1139, 1140, 1141, 1142, 1143, 1144, 1145, 1146, 1147, 1148, 1149, 1150, 1151] (by decide +kernel) (by decide +kernel)
set_option maxRecDepth 20000 in
theorem ggL_holds_L_areMade_q28 : GoodIn wsL_holds wsX80 := goodIn_r _ [1152, 1153, 1154, 1155, 1156, 1157, 1158, 1159] (by decide +kernel) (by decide +kernel)
set_option maxRecDepth 20000 in
theorem ggL_holds_L_areMade_q29 : GoodIn wsL_holds wsX100 := goodIn_r _ [1160, 1161, 1162, 1163] (by decide +kernel) (by decide +kernel)
set_option maxRecDepth 20000 in
theorem ggL_holds_L_areMade_q30 : GoodIn wsL_holds wsX20 := goodIn_r _ [1164, 1165, 1166, 1167, 1168, 1169, 1170, 1171] (by decide +kernel) (by decide +kernel)
set_option maxRecDepth 20000 in
theorem ggL_holds_L_areMade_q31 : GoodIn wsL_holds wsX50 := goodIn_r _ [1172, 1173, 1174, 1175, 1176] (by decide +kernel) (by decide +kernel)
set_option maxRecDepth 20000 in
theorem ggL_holds_L_areMade_q32 : GoodIn wsL_holds wsX00 := goodIn_r _ [1177] (by decide +kernel) (by decide +kernel)
set_option maxRecDepth 20000 in
theorem ggL_holds_L_areMade_q33 : GoodIn wsL_holds wsX30 := goodIn_r _ [1178, 1179, 1180, 1181, 1182, 1183, 1184] (by decide +kernel) (by decide +kernel)
set_option maxRecDepth 20000 in
theorem ggL_holds_L_areMade_q34 : GoodIn wsL_holds wsX40 := goodIn_r _ [1185, 1186] (by decide +kernel) (by decide +kernel)
set_option maxRecDepth 20000 in
theorem ggL_holds_L_areMade_q35 : GoodIn wsL_holds wsX10 := goodIn_r _ [1187, 1188, 1189, 1190, 1191, 1192, 1193, 1194, 1195] (by decide +kernel) (by decide +kernel)
set_option maxRecDepth 20000 in
theorem ggL_holds_L_areMade_q36 : GoodIn wsL_holds wsJ00 := goodIn_r _ [1196, 1197, 1198, 1199] (by decide +kernel) (by decide +kernel)
set_option maxRecDepth 20000 in
theorem ggL_holds_L_areMade_q37 : GoodIn wsL_holds wsX60 := goodIn_r _ [1200, 1201, 1202] (by decide +kernel) (by decide +kernel)
set_option maxRecDepth 20000 in
theorem ggL_holds_L_areMade : GoodIn wsL_holds wsL_areMade := goodIn_ca (goodIn_ca (goodIn_ca (goodIn_cn ggL_holds_L_areMade_q0 (goodIn_app (goodIn_app (goodIn_app (goodIn_app (goodIn_app (goodIn_app (goodIn_app (goodIn_app (goodIn_app (goodIn_app (goodIn_app (goodIn_app (goodIn_app (goodIn_app (goodIn_app ggL_holds_L_areMade_q1 (goodIn_app ggL_holds_L_areMade_q2 (goodIn_app ggL_holds_L_areMade_q3 (goodIn_app ggL_holds_L_areMade_q4 (goodIn_app ggL_holds_L_areMade_q5 (goodIn_app ggL_holds_L_areMade_q6 (goodIn_app ggL_holds_L_areMade_q7 (goodIn_app ggL_holds_L_areMade_q8 (goodIn_app ggL_holds_L_areMade_q9 (goodIn_app ggL_holds_L_areMade_q10 (goodIn_app ggL_holds_L_areMade_q11 (goodIn_app ggL_holds_L_areMade_q12 (goodIn_app ggL_holds_L_areMade_q13 (goodIn_app ggL_holds_L_areMade_q14 (goodIn_app ggL_holds_L_areMade_q15 (goodIn_app ggL_holds_L_areMade_q16 (goodIn_app ggL_holds_L_areMade_q17 (goodIn_app ggL_holds_L_areMade_q18 (goodIn_app ggL_holds_L_areMade_q19 (goodIn_app ggL_holds_L_areMade_q20 (goodIn_app ggL_holds_L_areMade_q21 (goodIn_app ggL_holds_L_areMade_q22 ggL_holds_L_areMade_q23)))))))))))))))))))))) ggL_holds_L_areMade_q24) ggL_holds_L_areMade_q25) ggL_holds_L_areMade_q26) ggL_holds_L_areMade_q27) ggL_holds_L_areMade_q28) ggL_holds_L_areMade_q29) ggL_holds_L_areMade_q30) ggL_holds_L_areMade_q31) ggL_holds_L_areMade_q32) ggL_holds_L_areMade_q33) ggL_holds_L_areMade_q34) ggL_holds_L_areMade_q35) ggL_holds_L_areMade_q36) ggL_holds_L_areMade_q37)) (goodIn_sub (fun _ h => List.mem_cons_of_mem _ (List.mem_append_left _ (List.mem_append_left _ (List.mem_append_left _ (List.mem_append_right _ h))))) (by decide +kernel))) (goodIn_sub (fun _ h => List.mem_cons_of_mem _ (List.mem_append_left _ (List.mem_append_left _ (List.mem_append_right _ h)))) (by decide +kernel))) (goodIn_sub (fun _ h => List.mem_cons_of_mem _ (List.mem_append_left _ (List.mem_append_right _ h))) (by decide +kernel))
set_option maxRecDepth 20000 in
theorem gL_holds_L_areMade : GoodIn wsL_holds (wsV RL 301 RL yL_areMade wsL_areMade) := goodIn_app (goodIn_of _ (by decide +kernel)) ggL_holds_L_areMade
