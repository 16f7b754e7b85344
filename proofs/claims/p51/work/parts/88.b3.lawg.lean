/-! ===== THE LAW'S OWN WORDS 3 ===== -/
set_option maxRecDepth 20000 in
theorem lt_wsL_holds_13 : GoodIn lw_tbl wsL_holds_r14 := goodIn_of _ (by decide +kernel)
set_option maxRecDepth 20000 in
theorem lt_wsL_holds_14 : GoodIn lw_tbl wsL_holds_r15 := goodIn_of _ (by decide +kernel)
set_option maxRecDepth 20000 in
theorem lt_wsL_holds_15 : GoodIn lw_tbl wsL_holds_r16 := goodIn_of _ (by decide +kernel)
set_option maxRecDepth 20000 in
theorem lt_wsL_holds_16 : GoodIn lw_tbl wsL_holds_r17 := goodIn_of _ (by decide +kernel)
set_option maxRecDepth 20000 in
theorem lt_wsL_holds_17 : GoodIn lw_tbl wsL_holds_r18 := goodIn_of _ (by decide +kernel)
set_option maxRecDepth 20000 in
theorem lt_wsL_holds_18 : GoodIn lw_tbl wsL_holds_r19 := goodIn_of _ (by decide +kernel)
set_option maxRecDepth 20000 in
theorem lt_wsL_holds_19 : GoodIn lw_tbl wsL_holds_r20 := goodIn_of _ (by decide +kernel)
set_option maxRecDepth 20000 in
theorem lt_wsL_holds_20 : GoodIn lw_tbl wsL_holds_r21 := goodIn_of _ (by decide +kernel)
set_option maxRecDepth 20000 in
theorem lt_wsL_holds_21 : GoodIn lw_tbl wsL_holds_r22 := goodIn_of _ (by decide +kernel)
set_option maxRecDepth 20000 in
theorem lt_wsL_holds_22 : GoodIn lw_tbl wsL_holds_r23 := goodIn_of _ (by decide +kernel)
set_option maxRecDepth 20000 in
theorem lt_wsL_holds_23 : GoodIn lw_tbl wsL_holds_r24 := goodIn_of _ (by decide +kernel)
set_option maxRecDepth 20000 in
theorem lt_wsL_holds_24 : GoodIn lw_tbl wsL_holds_r25 := goodIn_of _ (by decide +kernel)
