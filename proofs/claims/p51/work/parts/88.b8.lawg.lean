/-! ===== THE LAW'S OWN WORDS 8 ===== -/
set_option maxRecDepth 20000 in
theorem lt_wsL_holds_57 : GoodIn lw_tbl2 wsX40 := goodIn_r _ [332, 334] (by decide +kernel) (by decide +kernel)
set_option maxRecDepth 20000 in
theorem lt_wsL_holds_58 : GoodIn lw_tbl2 wsX10 := goodIn_r _ [360, 362, 364, 366, 368, 370, 372, 374, 376] (by decide +kernel) (by decide +kernel)
set_option maxRecDepth 20000 in
theorem lt_wsL_holds_59 : GoodIn lw_tbl2 wsJ00 := goodIn_r _ [934, 936, 938, 940] (by decide +kernel) (by decide +kernel)
set_option maxRecDepth 20000 in
theorem lt_wsL_holds_60 : GoodIn lw_tbl2 wsX60 := goodIn_r _ [411, 413, 415] (by decide +kernel) (by decide +kernel)
set_option maxRecDepth 20000 in
theorem lt_wsL_holds_61 : GoodIn lw_tbl2 wsX70 := goodIn_r _ [261, 263, 265, 267, 269, 271, 273, 275] (by decide +kernel) (by decide +kernel)
set_option maxRecDepth 20000 in
theorem lt_wsL_holds_62 : GoodIn lw_tbl2 wsX90 := goodIn_r _ [391, 393, 395, 397] (by decide +kernel) (by decide +kernel)
set_option maxRecDepth 20000 in
theorem lt_wsL_holds_63 : GoodIn lw_tbl2 ((vx_atS RX11 415 "java/lang/IllegalArgumentException" ["java/lang/RuntimeException", "java/lang/Exception"]).filter goodWord) := goodIn_up (goodIn_of _ (by decide +kernel))
set_option maxRecDepth 20000 in
theorem lt_wsL_holds_64 : GoodIn lw_tbl2 ((vx_atS RX11 420 "java/lang/IllegalStateException" ["java/lang/RuntimeException", "java/lang/Exception"]).filter goodWord) := goodIn_up (goodIn_of _ (by decide +kernel))
set_option maxRecDepth 20000 in
theorem lt_wsL_holds_65 : GoodIn lw_tbl2 ((vx_atS RX11 408 "java/lang/IndexOutOfBoundsException" ["java/lang/RuntimeException", "java/lang/Exception"]).filter goodWord) := goodIn_up (goodIn_of _ (by decide +kernel))
set_option maxRecDepth 20000 in
theorem lt_wsL_holds_66 : GoodIn lw_tbl2 ((xat13 RX11 425).filter goodWord) := goodIn_up (goodIn_of _ (by decide +kernel))
