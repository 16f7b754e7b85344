/-! ===== THE LAW'S OWN WORDS 6 ===== -/
set_option maxRecDepth 20000 in
theorem lt_wsL_holds_49 : GoodIn lw_tbl wsJ40 := goodIn_of _ (by decide +kernel)
set_option maxRecDepth 20000 in
theorem lt_wsL_holds_50 : GoodIn lw_tbl wsX110 := goodIn_of _ (by decide +kernel)
set_option maxRecDepth 20000 in
theorem lt_wsL_holds_51 : GoodIn lw_tbl wsX80 := goodIn_of _ (by decide +kernel)
set_option maxRecDepth 20000 in
theorem lt_wsL_holds_52 : GoodIn lw_tbl wsX100 := goodIn_of _ (by decide +kernel)
set_option maxRecDepth 20000 in
theorem lt_wsL_holds_53 : GoodIn lw_tbl wsX20 := goodIn_of _ (by decide +kernel)
set_option maxRecDepth 20000 in
theorem lt_wsL_holds_54 : GoodIn lw_tbl wsX50 := goodIn_of _ (by decide +kernel)
set_option maxRecDepth 20000 in
theorem lt_wsL_holds_55 : GoodIn lw_tbl wsX00 := goodIn_of _ (by decide +kernel)
set_option maxRecDepth 20000 in
theorem lt_wsL_holds_56 : GoodIn lw_tbl wsX30 := goodIn_of _ (by decide +kernel)
set_option maxRecDepth 20000 in
theorem lt_wsL_holds_57 : GoodIn lw_tbl wsX40 := goodIn_of _ (by decide +kernel)
set_option maxRecDepth 20000 in
theorem lt_wsL_holds_58 : GoodIn lw_tbl wsX10 := goodIn_of _ (by decide +kernel)
set_option maxRecDepth 20000 in
theorem lt_wsL_holds_59 : GoodIn lw_tbl wsJ00 := goodIn_of _ (by decide +kernel)
set_option maxRecDepth 20000 in
theorem lt_wsL_holds_60 : GoodIn lw_tbl wsX60 := goodIn_of _ (by decide +kernel)
