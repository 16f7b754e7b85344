/-! ===== THE LAW'S OWN WORDS 5 ===== -/
set_option maxRecDepth 20000 in
theorem lt_wsL_holds_37 : GoodIn lw_tbl wsL_holds_r38 := goodIn_of _ (by decide +kernel)
set_option maxRecDepth 20000 in
theorem lt_wsL_holds_38 : GoodIn lw_tbl wsL_holds_r39 := goodIn_of _ (by decide +kernel)
set_option maxRecDepth 20000 in
theorem lt_wsL_holds_39 : GoodIn lw_tbl wsL_holds_r40 := goodIn_of _ (by decide +kernel)
set_option maxRecDepth 20000 in
theorem lt_wsL_holds_40 : GoodIn lw_tbl wsL_holds_r41 := goodIn_of _ (by decide +kernel)
set_option maxRecDepth 20000 in
theorem lt_wsL_holds_41 : GoodIn lw_tbl wsL_holds_r42 := goodIn_of _ (by decide +kernel)
set_option maxRecDepth 20000 in
theorem lt_wsL_holds_42 : GoodIn lw_tbl wsL_holds_r43 := goodIn_of _ (by decide +kernel)
set_option maxRecDepth 20000 in
theorem lt_wsL_holds_43 : GoodIn lw_tbl wsL_holds_r44 := goodIn_of _ (by decide +kernel)
set_option maxRecDepth 20000 in
theorem lt_wsL_holds_44 : GoodIn lw_tbl wsL_holds_r45 := goodIn_of _ (by decide +kernel)
set_option maxRecDepth 20000 in
theorem lt_wsL_holds_45 : GoodIn lw_tbl wsL_holds_r46 := goodIn_of _ (by decide +kernel)
set_option maxRecDepth 20000 in
theorem lt_wsL_holds_46 : GoodIn lw_tbl wsL_holds_r47 := goodIn_of _ (by decide +kernel)
set_option maxRecDepth 20000 in
theorem lt_wsL_holds_47 : GoodIn lw_tbl wsL0 := goodIn_of _ (by decide +kernel)
set_option maxRecDepth 20000 in
theorem lt_wsL_holds_48 : GoodIn lw_tbl wsX120 := goodIn_of _ (by decide +kernel)
