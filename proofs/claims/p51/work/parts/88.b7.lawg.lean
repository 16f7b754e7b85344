/-! ===== THE LAW'S OWN WORDS 7 ===== -/
set_option maxRecDepth 20000 in
theorem lt_wsL_holds_47 : GoodIn lw_tbl2 wsL0 := goodIn_r _ [482, 484, 486, 488, 490, 492, 494, 496, 498, 500] (by decide +kernel) (by decide +kernel)
set_option maxRecDepth 20000 in
theorem lt_wsL_holds_48 : GoodIn lw_tbl2 wsX120 := goodIn_r _ [469] (by decide +kernel) (by decide +kernel)
set_option maxRecDepth 20000 in
theorem lt_wsL_holds_49 : GoodIn lw_tbl2 wsJ40 := goodIn_r _ [707, 709, 711, 713] (by decide +kernel) (by decide +kernel)
set_option maxRecDepth 20000 in
theorem lt_wsL_holds_50 : GoodIn lw_tbl2 wsX110 := goodIn_r _ [432, 434, 436, 438, 440, 442, 444, 446, 448, 450, 452, 454, 456, 458] (by decide +kernel) (by decide +kernel)
set_option maxRecDepth 20000 in
theorem lt_wsL_holds_51 : GoodIn lw_tbl2 wsX80 := goodIn_r _ [156, 158, 160, 162, 164, 166, 168, 170] (by decide +kernel) (by decide +kernel)
set_option maxRecDepth 20000 in
theorem lt_wsL_holds_52 : GoodIn lw_tbl2 wsX100 := goodIn_r _ [120, 122, 124, 126] (by decide +kernel) (by decide +kernel)
set_option maxRecDepth 20000 in
theorem lt_wsL_holds_53 : GoodIn lw_tbl2 wsX20 := goodIn_r _ [200, 202, 204, 206, 208, 210, 212, 214] (by decide +kernel) (by decide +kernel)
set_option maxRecDepth 20000 in
theorem lt_wsL_holds_54 : GoodIn lw_tbl2 wsX50 := goodIn_r _ [235, 237, 239, 241, 243] (by decide +kernel) (by decide +kernel)
set_option maxRecDepth 20000 in
theorem lt_wsL_holds_55 : GoodIn lw_tbl2 wsX00 := goodIn_r _ [286] (by decide +kernel) (by decide +kernel)
set_option maxRecDepth 20000 in
theorem lt_wsL_holds_56 : GoodIn lw_tbl2 wsX30 := goodIn_r _ [307, 309, 311, 313, 315, 317, 319] (by decide +kernel) (by decide +kernel)
