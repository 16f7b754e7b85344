/-! ===== THE LAW'S OWN WORDS 0 ===== -/
set_option maxRecDepth 20000 in
theorem lt_wsL_init_c : GoodIn lw_tbl [.code yL_init cL_init 2 none] := goodIn_of _ (by decide +kernel)
set_option maxRecDepth 20000 in
theorem lt_wsL_init_0 : GoodIn lw_tbl2 wsL_init_r1 := goodIn_r _ [97, 98, 99, 100, 101, 58, 472, 129, 478, 479, 480, 481, 461, 462, 70, 473, 102, 103, 104, 105, 106, 107, 59, 418] (by decide +kernel) (by decide +kernel)
set_option maxRecDepth 20000 in
theorem lt_wsL_init_1 : GoodIn lw_tbl2 wsL_init_r2 := goodIn_r _ [130, 131, 60, 419, 173, 174, 61, 420, 217, 218, 62, 421, 246, 247, 63, 422, 278, 279, 64, 423, 289, 290, 65, 424] (by decide +kernel) (by decide +kernel)
set_option maxRecDepth 20000 in
theorem lt_wsL_init_2 : GoodIn lw_tbl2 wsL_init_r3 := goodIn_r _ [322, 323, 66, 425, 337, 338, 67, 426, 379, 380, 68, 427, 400, 401, 69, 428, 429, 109, 110, 111, 112, 132, 133, 134] (by decide +kernel) (by decide +kernel)
set_option maxRecDepth 20000 in
theorem lt_wsL_init_3 : GoodIn lw_tbl2 wsL_init_r4 := goodIn_r _ [135, 136, 138, 141, 144, 146, 149, 152, 176, 177, 178, 179, 182, 184, 186, 189, 192, 195, 220, 221, 222, 226, 228, 231] (by decide +kernel) (by decide +kernel)
set_option maxRecDepth 20000 in
theorem lt_wsL_init_4 : GoodIn lw_tbl2 wsL_init_r5 := goodIn_r _ [233, 248, 249, 250, 251, 255, 256, 257, 259, 260, 252, 253, 254, 281, 282, 283, 284, 291, 292, 293, 294, 295, 297, 299] (by decide +kernel) (by decide +kernel)
set_option maxRecDepth 20000 in
theorem lt_wsL_init_5 : GoodIn lw_tbl2 wsL_init_r6 := goodIn_r _ [301, 305, 325, 326, 327, 328, 330, 340, 341, 342, 343, 345, 347, 349, 351, 355, 359, 381, 382, 383, 384, 386, 387, 385] (by decide +kernel) (by decide +kernel)
set_option maxRecDepth 20000 in
theorem lt_wsL_init_6 : GoodIn lw_tbl2 wsL_init_r7 := goodIn_r _ [403, 404, 405, 406, 409, 463, 464, 465, 466, 468, 467] (by decide +kernel) (by decide +kernel)
set_option maxRecDepth 20000 in
theorem lt_wsL_init_7 : GoodIn lw_tbl2 wsX110 := goodIn_r _ [432, 434, 436, 438, 440, 442, 444, 446, 448, 450, 452, 454, 456, 458] (by decide +kernel) (by decide +kernel)
set_option maxRecDepth 20000 in
theorem lt_wsL_init_8 : GoodIn lw_tbl2 wsL0 := goodIn_r _ [482, 484, 486, 488, 490, 492, 494, 496, 498, 500] (by decide +kernel) (by decide +kernel)
