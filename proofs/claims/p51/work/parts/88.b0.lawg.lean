/-! ===== THE LAW'S OWN WORDS 0 ===== -/
set_option maxRecDepth 20000 in
theorem lt_wsL_init_c : GoodIn lw_tbl [.code yL_init cL_init 2 none] := goodIn_of _ (by decide +kernel)
set_option maxRecDepth 20000 in
theorem lt_wsL_init_0 : GoodIn lw_tbl wsL_init_r1 := goodIn_of _ (by decide +kernel)
set_option maxRecDepth 20000 in
theorem lt_wsL_init_1 : GoodIn lw_tbl wsL_init_r2 := goodIn_of _ (by decide +kernel)
set_option maxRecDepth 20000 in
theorem lt_wsL_init_2 : GoodIn lw_tbl wsL_init_r3 := goodIn_of _ (by decide +kernel)
set_option maxRecDepth 20000 in
theorem lt_wsL_init_3 : GoodIn lw_tbl wsL_init_r4 := goodIn_of _ (by decide +kernel)
set_option maxRecDepth 20000 in
theorem lt_wsL_init_4 : GoodIn lw_tbl wsL_init_r5 := goodIn_of _ (by decide +kernel)
set_option maxRecDepth 20000 in
theorem lt_wsL_init_5 : GoodIn lw_tbl wsL_init_r6 := goodIn_of _ (by decide +kernel)
set_option maxRecDepth 20000 in
theorem lt_wsL_init_6 : GoodIn lw_tbl wsL_init_r7 := goodIn_of _ (by decide +kernel)
set_option maxRecDepth 20000 in
theorem lt_wsL_init_7 : GoodIn lw_tbl wsX110 := goodIn_of _ (by decide +kernel)
set_option maxRecDepth 20000 in
theorem lt_wsL_init_8 : GoodIn lw_tbl wsL0 := goodIn_of _ (by decide +kernel)
set_option maxRecDepth 20000 in
theorem lt_wsL_init_9 : GoodIn lw_tbl wsX120 := goodIn_of _ (by decide +kernel)
set_option maxRecDepth 20000 in
theorem lt_wsL_init_10 : GoodIn lw_tbl wsX100 := goodIn_of _ (by decide +kernel)
