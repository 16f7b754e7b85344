/-! ===== THE LAW'S OWN WORDS 1 ===== -/
set_option maxRecDepth 20000 in
theorem lt_wsL_init_9 : GoodIn lw_tbl2 wsX120 := goodIn_r _ [469] (by decide +kernel) (by decide +kernel)
set_option maxRecDepth 20000 in
theorem lt_wsL_init_10 : GoodIn lw_tbl2 wsX100 := goodIn_r _ [120, 122, 124, 126] (by decide +kernel) (by decide +kernel)
set_option maxRecDepth 20000 in
theorem lt_wsL_init_11 : GoodIn lw_tbl2 wsX80 := goodIn_r _ [156, 158, 160, 162, 164, 166, 168, 170] (by decide +kernel) (by decide +kernel)
set_option maxRecDepth 20000 in
theorem lt_wsL_init_12 : GoodIn lw_tbl2 wsX20 := goodIn_r _ [200, 202, 204, 206, 208, 210, 212, 214] (by decide +kernel) (by decide +kernel)
set_option maxRecDepth 20000 in
theorem lt_wsL_init_13 : GoodIn lw_tbl2 wsX50 := goodIn_r _ [235, 237, 239, 241, 243] (by decide +kernel) (by decide +kernel)
set_option maxRecDepth 20000 in
theorem lt_wsL_init_14 : GoodIn lw_tbl2 wsX70 := goodIn_r _ [261, 263, 265, 267, 269, 271, 273, 275] (by decide +kernel) (by decide +kernel)
set_option maxRecDepth 20000 in
theorem lt_wsL_init_15 : GoodIn lw_tbl2 wsX00 := goodIn_r _ [286] (by decide +kernel) (by decide +kernel)
set_option maxRecDepth 20000 in
theorem lt_wsL_init_16 : GoodIn lw_tbl2 wsX30 := goodIn_r _ [307, 309, 311, 313, 315, 317, 319] (by decide +kernel) (by decide +kernel)
set_option maxRecDepth 20000 in
theorem lt_wsL_init_17 : GoodIn lw_tbl2 wsX40 := goodIn_r _ [332, 334] (by decide +kernel) (by decide +kernel)
set_option maxRecDepth 20000 in
theorem lt_wsL_init_18 : GoodIn lw_tbl2 wsX10 := goodIn_r _ [360, 362, 364, 366, 368, 370, 372, 374, 376] (by decide +kernel) (by decide +kernel)
