/-! ===== THE LAW'S OWN WORDS 7 ===== -/
set_option maxRecDepth 20000 in
theorem lt_wsL_holds_61 : GoodIn lw_tbl wsX70 := goodIn_of _ (by decide +kernel)
set_option maxRecDepth 20000 in
theorem lt_wsL_holds_62 : GoodIn lw_tbl wsX90 := goodIn_of _ (by decide +kernel)
set_option maxRecDepth 20000 in
theorem lt_wsL_holds_63 : GoodIn lw_tbl ((vx_atS RX11 415 "java/lang/IllegalArgumentException" ["java/lang/RuntimeException", "java/lang/Exception"]).filter goodWord) := goodIn_of _ (by decide +kernel)
set_option maxRecDepth 20000 in
theorem lt_wsL_holds_64 : GoodIn lw_tbl ((vx_atS RX11 420 "java/lang/IllegalStateException" ["java/lang/RuntimeException", "java/lang/Exception"]).filter goodWord) := goodIn_of _ (by decide +kernel)
set_option maxRecDepth 20000 in
theorem lt_wsL_holds_65 : GoodIn lw_tbl ((vx_atS RX11 408 "java/lang/IndexOutOfBoundsException" ["java/lang/RuntimeException", "java/lang/Exception"]).filter goodWord) := goodIn_of _ (by decide +kernel)
set_option maxRecDepth 20000 in
theorem lt_wsL_holds_66 : GoodIn lw_tbl ((xat13 RX11 425).filter goodWord) := goodIn_of _ (by decide +kernel)
