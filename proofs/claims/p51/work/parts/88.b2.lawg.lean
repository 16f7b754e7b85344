/-! ===== THE LAW'S OWN WORDS 2 ===== -/
set_option maxRecDepth 20000 in
theorem lt_wsL_init_19 : GoodIn lw_tbl2 wsX90 := goodIn_r _ [391, 393, 395, 397] (by decide +kernel) (by decide +kernel)
set_option maxRecDepth 20000 in
theorem lt_wsL_init_20 : GoodIn lw_tbl2 wsX60 := goodIn_r _ [411, 413, 415] (by decide +kernel) (by decide +kernel)
set_option maxRecDepth 20000 in
theorem lt_wsL_holds_c : GoodIn lw_tbl [.code yL_holds cL_holds 1 (some .boolean)] := goodIn_of _ (by decide +kernel)
set_option maxRecDepth 20000 in
theorem lt_wsL_holds_0 : GoodIn lw_tbl2 wsL_holds_r1 := goodIn_r _ [473, 476, 477, 472, 507, 508, 509, 70, 510, 468, 511, 512, 514, 7, 57, 515, 474, 478, 479, 481, 480, 129, 685, 686] (by decide +kernel) (by decide +kernel)
set_option maxRecDepth 20000 in
theorem lt_wsL_holds_1 : GoodIn lw_tbl2 wsL_holds_r2 := goodIn_r _ [79, 1042, 1043, 83, 1044, 516, 517, 518, 58, 519, 419, 154, 137, 139, 142, 145, 148, 520, 521, 522, 523, 524, 525, 526] (by decide +kernel) (by decide +kernel)
set_option maxRecDepth 20000 in
theorem lt_wsL_holds_2 : GoodIn lw_tbl2 wsL_holds_r3 := goodIn_r _ [74, 595, 596, 597, 598, 75, 614, 616, 9, 617, 430, 431, 418, 429, 420, 421, 423, 424, 425, 426, 618, 619, 620, 59] (by decide +kernel) (by decide +kernel)
set_option maxRecDepth 20000 in
theorem lt_wsL_holds_3 : GoodIn lw_tbl2 wsL_holds_r4 := goodIn_r _ [621, 112, 622, 624, 623, 76, 115, 116, 118, 625, 626, 627, 60, 628, 155, 149, 629, 152, 630, 631, 632, 61, 633, 197] (by decide +kernel) (by decide +kernel)
set_option maxRecDepth 20000 in
theorem lt_wsL_holds_4 : GoodIn lw_tbl2 wsL_holds_r5 := goodIn_r _ [186, 634, 189, 192, 195, 635, 636, 637, 62, 638, 223, 226, 228, 231, 233, 639, 640, 641, 64, 642, 284, 643, 644, 645] (by decide +kernel) (by decide +kernel)
set_option maxRecDepth 20000 in
theorem lt_wsL_holds_5 : GoodIn lw_tbl2 wsL_holds_r6 := goodIn_r _ [646, 65, 647, 295, 648, 297, 299, 649, 650, 651, 66, 652, 330, 653, 654, 655, 656, 67, 657, 353, 658, 659, 660, 661] (by decide +kernel) (by decide +kernel)
set_option maxRecDepth 20000 in
theorem lt_wsL_holds_6 : GoodIn lw_tbl2 wsL_holds_r7 := goodIn_r _ [150, 662, 664, 10, 665, 666, 667, 668, 669, 77, 687, 688, 689, 690, 691, 78, 692, 693, 98, 99, 694, 594, 703, 704] (by decide +kernel) (by decide +kernel)
