/-! ===== GOODS OF THE LAW: b4 ===== -/
set_option maxRecDepth 20000 in
theorem ggL_isMixed_X12_next : GoodIn wsL_isMixed wsX12_next := goodIn_r _ [15, 16, 17, 218] (by decide +kernel) (by decide +kernel)
set_option maxRecDepth 20000 in
theorem gL_isMixed_X12_next : GoodIn wsL_isMixed (wsV RL 59 RX12 yX12_next wsX12_next) := goodIn_app (goodIn_of _ (by decide +kernel)) ggL_isMixed_X12_next
set_option maxRecDepth 20000 in
theorem ggL_isMixed_X11_setFlour : GoodIn wsL_isMixed wsX11_setFlour := goodIn_ca (goodIn_ca (goodIn_r _ [22, 23, 24, 25, 26, 27, 28, 21, 29, 30, 31, 32, 33, 34, 35, 36, 37, 38, 39, 40, 41, 42, 43, 44, 45, 46, 47, 48, 49, 50, 51, 52, 53, 54, 55, 56, 57, 58, 59, 60, 61, 62, 63, 64, 65, 66, 67, 68, 69, 70, 71, 72, 73, 74, 75, 76, 77, 78, 79, 80, 81, 82, 83, 84, 85, 86, 87, 88, 89, 90, 91, 92, 93, 94, 95, 96, 97, 98, 99, 100, 101, 102, 103, 104, 105, 106, 107, 108, 109, 110, 111, 112, 113, 114, 115, 116, 117, 118, 119, 120, 121, 122, 123, 124, 125, 219, 220, 221, 222, 223, 224, 225, 226, 227, 228, 229, 230, 231, 232, 233, 234, 235, 236, 237, 238, 239, 240, 241, 242, 243, 244, 245, 246, 247, 248, 249, 250, 251, 252, 253, 254, 255, 256, 257, 258, 259, 260, 261, 262, 263, 264, 265, 266, 267, 268, 269, 270, 271, 272, 273, 274, 275, 276] (by decide +kernel) (by decide +kernel)) (goodIn_sub (fun _ h => List.mem_cons_of_mem _ (List.mem_append_left _ (List.mem_append_left _ (List.mem_append_right _ h)))) (by decide +kernel))) (goodIn_sub (fun _ h => List.mem_cons_of_mem _ (List.mem_append_left _ (List.mem_append_right _ h))) (by decide +kernel))
set_option maxRecDepth 20000 in
theorem gL_isMixed_X11_setFlour : GoodIn wsL_isMixed (wsV RL 221 RX11 yX11_setFlour wsX11_setFlour) := goodIn_app (goodIn_of _ (by decide +kernel)) ggL_isMixed_X11_setFlour
set_option maxRecDepth 20000 in
theorem ggL_isMixed_X11_mixCost : GoodIn wsL_isMixed wsX11_mixCost := goodIn_ca (goodIn_ca (goodIn_r _ [129, 23, 130, 131, 27, 28, 21, 29, 35, 36, 37, 38, 39, 132, 133, 134, 107, 135, 136, 137, 138, 139, 140, 141, 142, 143, 144, 112, 145, 146, 147, 148, 149, 150, 110, 61, 62, 63, 151, 152, 153, 154, 109, 155, 156, 157, 158, 159, 160, 161, 162, 111, 163, 164, 165, 166, 167, 168, 169, 170, 171, 172, 173, 174, 175, 176, 177, 178, 179, 180, 181, 182, 183, 184, 185, 186, 187, 219, 220, 221, 222, 223, 224, 225, 226, 227, 228, 229, 230, 231, 232, 233, 234, 235, 236, 237, 238, 239] (by decide +kernel) (by decide +kernel)) (goodIn_sub (fun _ h => List.mem_cons_of_mem _ (List.mem_append_left _ (List.mem_append_right _ h))) (by decide +kernel))) (goodIn_sub (fun _ h => List.mem_cons_of_mem _ (List.mem_append_right _ h)) (by decide +kernel))
set_option maxRecDepth 20000 in
theorem gL_isMixed_X11_mixCost : GoodIn wsL_isMixed (wsV RL 225 RX11 yX11_mixCost wsX11_mixCost) := goodIn_app (goodIn_of _ (by decide +kernel)) ggL_isMixed_X11_mixCost
set_option maxRecDepth 20000 in
theorem ggL_isMixed_L_isNone : GoodIn wsL_isMixed wsL_isNone := goodIn_r _ [191] (by decide +kernel) (by decide +kernel)
set_option maxRecDepth 20000 in
theorem gL_isMixed_L_isNone : GoodIn wsL_isMixed (va_wsS RL 231 yL_isNone wsL_isNone) := goodIn_app (goodIn_of _ (by decide +kernel)) ggL_isMixed_L_isNone
set_option maxRecDepth 20000 in
theorem ggL_isMixed_X11_mixShare : GoodIn wsL_isMixed wsX11_mixShare := goodIn_ca (goodIn_ca (goodIn_ca (goodIn_r _ [195, 23, 130, 131, 27, 28, 21, 29, 30, 31, 32, 33, 34, 35, 36, 37, 38, 39, 132, 133, 134, 107, 135, 136, 137, 138, 139, 140, 141, 142, 143, 144, 112, 145, 146, 147, 148, 149, 150, 110, 61, 62, 63, 151, 152, 153, 154, 109, 155, 156, 157, 158, 159, 160, 161, 162, 111, 163, 164, 165, 166, 167, 168, 169, 170, 171, 172, 173, 174, 175, 176, 177, 178, 179, 180, 181, 182, 183, 185, 186, 187, 219, 220, 221, 222, 223, 224, 225, 226, 227, 228, 229, 230, 231, 232, 233, 234, 235, 236, 237, 238, 239] (by decide +kernel) (by decide +kernel)) (goodIn_sub (fun _ h => List.mem_cons_of_mem _ (List.mem_append_left _ (List.mem_append_left _ (List.mem_append_right _ h)))) (by decide +kernel))) (goodIn_sub (fun _ h => List.mem_cons_of_mem _ (List.mem_append_left _ (List.mem_append_right _ h))) (by decide +kernel))) (goodIn_sub (fun _ h => List.mem_cons_of_mem _ (List.mem_append_right _ h)) (by decide +kernel))
set_option maxRecDepth 20000 in
theorem gL_isMixed_X11_mixShare : GoodIn wsL_isMixed (wsV RL 235 RX11 yX11_mixShare wsX11_mixShare) := goodIn_app (goodIn_of _ (by decide +kernel)) ggL_isMixed_X11_mixShare
set_option maxRecDepth 20000 in
theorem ggL_isMixed_J9_abs_294c1 : GoodIn wsL_isMixed wsJ9_abs_294c1 := goodIn_r _ [199, 200, 201, 202, 203, 204, 205, 206, 207] (by decide +kernel) (by decide +kernel)
set_option maxRecDepth 20000 in
theorem gL_isMixed_J9_abs_294c1 : GoodIn wsL_isMixed (va_wsS RL 243 yJ9_abs_294c1 wsJ9_abs_294c1) := goodIn_app (goodIn_of _ (by decide +kernel)) ggL_isMixed_J9_abs_294c1
