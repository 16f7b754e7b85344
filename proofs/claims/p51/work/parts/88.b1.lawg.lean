/-! ===== THE LAW'S OWN WORDS 1 ===== -/
set_option maxRecDepth 20000 in
theorem lt_wsL_init_11 : GoodIn lw_tbl wsX80 := goodIn_of _ (by decide +kernel)
set_option maxRecDepth 20000 in
theorem lt_wsL_init_12 : GoodIn lw_tbl wsX20 := goodIn_of _ (by decide +kernel)
set_option maxRecDepth 20000 in
theorem lt_wsL_init_13 : GoodIn lw_tbl wsX50 := goodIn_of _ (by decide +kernel)
set_option maxRecDepth 20000 in
theorem lt_wsL_init_14 : GoodIn lw_tbl wsX70 := goodIn_of _ (by decide +kernel)
set_option maxRecDepth 20000 in
theorem lt_wsL_init_15 : GoodIn lw_tbl wsX00 := goodIn_of _ (by decide +kernel)
set_option maxRecDepth 20000 in
theorem lt_wsL_init_16 : GoodIn lw_tbl wsX30 := goodIn_of _ (by decide +kernel)
set_option maxRecDepth 20000 in
theorem lt_wsL_init_17 : GoodIn lw_tbl wsX40 := goodIn_of _ (by decide +kernel)
set_option maxRecDepth 20000 in
theorem lt_wsL_init_18 : GoodIn lw_tbl wsX10 := goodIn_of _ (by decide +kernel)
set_option maxRecDepth 20000 in
theorem lt_wsL_init_19 : GoodIn lw_tbl wsX90 := goodIn_of _ (by decide +kernel)
set_option maxRecDepth 20000 in
theorem lt_wsL_init_20 : GoodIn lw_tbl wsX60 := goodIn_of _ (by decide +kernel)
set_option maxRecDepth 20000 in
theorem lt_wsL_holds_c : GoodIn lw_tbl [.code yL_holds cL_holds 1 (some .boolean)] := goodIn_of _ (by decide +kernel)
set_option maxRecDepth 20000 in
theorem lt_wsL_holds_0 : GoodIn lw_tbl wsL_holds_r1 := goodIn_of _ (by decide +kernel)
