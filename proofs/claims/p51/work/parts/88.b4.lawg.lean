/-! ===== THE LAW'S OWN WORDS 4 ===== -/
set_option maxRecDepth 20000 in
theorem lt_wsL_holds_25 : GoodIn lw_tbl wsL_holds_r26 := goodIn_of _ (by decide +kernel)
set_option maxRecDepth 20000 in
theorem lt_wsL_holds_26 : GoodIn lw_tbl wsL_holds_r27 := goodIn_of _ (by decide +kernel)
set_option maxRecDepth 20000 in
theorem lt_wsL_holds_27 : GoodIn lw_tbl wsL_holds_r28 := goodIn_of _ (by decide +kernel)
set_option maxRecDepth 20000 in
theorem lt_wsL_holds_28 : GoodIn lw_tbl wsL_holds_r29 := goodIn_of _ (by decide +kernel)
set_option maxRecDepth 20000 in
theorem lt_wsL_holds_29 : GoodIn lw_tbl wsL_holds_r30 := goodIn_of _ (by decide +kernel)
set_option maxRecDepth 20000 in
theorem lt_wsL_holds_30 : GoodIn lw_tbl wsL_holds_r31 := goodIn_of _ (by decide +kernel)
set_option maxRecDepth 20000 in
theorem lt_wsL_holds_31 : GoodIn lw_tbl wsL_holds_r32 := goodIn_of _ (by decide +kernel)
set_option maxRecDepth 20000 in
theorem lt_wsL_holds_32 : GoodIn lw_tbl wsL_holds_r33 := goodIn_of _ (by decide +kernel)
set_option maxRecDepth 20000 in
theorem lt_wsL_holds_33 : GoodIn lw_tbl wsL_holds_r34 := goodIn_of _ (by decide +kernel)
set_option maxRecDepth 20000 in
theorem lt_wsL_holds_34 : GoodIn lw_tbl wsL_holds_r35 := goodIn_of _ (by decide +kernel)
set_option maxRecDepth 20000 in
theorem lt_wsL_holds_35 : GoodIn lw_tbl wsL_holds_r36 := goodIn_of _ (by decide +kernel)
set_option maxRecDepth 20000 in
theorem lt_wsL_holds_36 : GoodIn lw_tbl wsL_holds_r37 := goodIn_of _ (by decide +kernel)
