/-! ===== THE LAW'S OWN WORDS 2 ===== -/
set_option maxRecDepth 20000 in
theorem lt_wsL_holds_1 : GoodIn lw_tbl wsL_holds_r2 := goodIn_of _ (by decide +kernel)
set_option maxRecDepth 20000 in
theorem lt_wsL_holds_2 : GoodIn lw_tbl wsL_holds_r3 := goodIn_of _ (by decide +kernel)
set_option maxRecDepth 20000 in
theorem lt_wsL_holds_3 : GoodIn lw_tbl wsL_holds_r4 := goodIn_of _ (by decide +kernel)
set_option maxRecDepth 20000 in
theorem lt_wsL_holds_4 : GoodIn lw_tbl wsL_holds_r5 := goodIn_of _ (by decide +kernel)
set_option maxRecDepth 20000 in
theorem lt_wsL_holds_5 : GoodIn lw_tbl wsL_holds_r6 := goodIn_of _ (by decide +kernel)
set_option maxRecDepth 20000 in
theorem lt_wsL_holds_6 : GoodIn lw_tbl wsL_holds_r7 := goodIn_of _ (by decide +kernel)
set_option maxRecDepth 20000 in
theorem lt_wsL_holds_7 : GoodIn lw_tbl wsL_holds_r8 := goodIn_of _ (by decide +kernel)
set_option maxRecDepth 20000 in
theorem lt_wsL_holds_8 : GoodIn lw_tbl2 wsL_holds_r9 := goodIn_of _ (by decide +kernel)
set_option maxRecDepth 20000 in
theorem lt_wsL_holds_9 : GoodIn lw_tbl wsL_holds_r10 := goodIn_of _ (by decide +kernel)
set_option maxRecDepth 20000 in
theorem lt_wsL_holds_10 : GoodIn lw_tbl wsL_holds_r11 := goodIn_of _ (by decide +kernel)
set_option maxRecDepth 20000 in
theorem lt_wsL_holds_11 : GoodIn lw_tbl2 wsL_holds_r12 := goodIn_of _ (by decide +kernel)
set_option maxRecDepth 20000 in
theorem lt_wsL_holds_12 : GoodIn lw_tbl2 wsL_holds_r13 := goodIn_of _ (by decide +kernel)
