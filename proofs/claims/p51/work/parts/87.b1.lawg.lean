/-! ===== GOODS OF THE LAW: b1 ===== -/
set_option maxRecDepth 20000 in
theorem ggL_type_J0_length_8abf5 : GoodIn wsL_type wsJ0_length_8abf5 := goodIn_r _ [6, 7, 8, 9, 10, 5, 11, 12, 13, 94, 95, 96, 97] (by decide +kernel) (by decide +kernel)
set_option maxRecDepth 20000 in
theorem gL_type_J0_length_8abf5 : GoodIn wsL_type (wsV RL 45 RJ0 yJ0_length_8abf5 wsJ0_length_8abf5) := goodIn_app (goodIn_of _ (by decide +kernel)) ggL_type_J0_length_8abf5
set_option maxRecDepth 20000 in
theorem ggL_type_J0_charAt_5068e : GoodIn wsL_type wsJ0_charAt_5068e := goodIn_r _ [17, 7, 18, 19, 20, 5, 21, 12, 13, 22, 23, 24, 25, 26, 27, 28, 29, 30, 31, 32, 33, 34, 35, 36, 37, 38, 39, 40, 41, 42, 43, 44, 45, 46, 47, 48, 49, 50, 94, 95, 96, 97] (by decide +kernel) (by decide +kernel)
set_option maxRecDepth 20000 in
theorem gL_type_J0_charAt_5068e : GoodIn wsL_type (wsV RL 51 RJ0 yJ0_charAt_5068e wsJ0_charAt_5068e) := goodIn_app (goodIn_of _ (by decide +kernel)) ggL_type_J0_charAt_5068e
set_option maxRecDepth 20000 in
theorem ggL_type_X11_type : GoodIn wsL_type wsX11_type := goodIn_ca (goodIn_ca (goodIn_r _ [55, 56, 57, 58, 59, 60, 61, 62, 63, 64, 65, 66, 54, 67, 68, 69, 70, 71, 72, 73, 74, 75, 76, 77, 78, 79, 80, 81, 82, 83, 98, 99, 100, 101, 102, 103, 104, 105, 106, 107, 108, 109, 110, 111, 112, 113, 114] (by decide +kernel) (by decide +kernel)) (goodIn_sub (fun _ h => List.mem_cons_of_mem _ (List.mem_append_left _ (List.mem_append_right _ h))) (by decide +kernel))) (goodIn_sub (fun _ h => List.mem_cons_of_mem _ (List.mem_append_right _ h)) (by decide +kernel))
set_option maxRecDepth 20000 in
theorem gL_type_X11_type : GoodIn wsL_type (wsV RL 55 RX11 yX11_type wsX11_type) := goodIn_app (goodIn_of _ (by decide +kernel)) ggL_type_X11_type
set_option maxRecDepth 20000 in
theorem ggL_areMade_X12_next : GoodIn wsL_areMade wsX12_next := goodIn_r _ [20, 21, 22, 560] (by decide +kernel) (by decide +kernel)
set_option maxRecDepth 20000 in
theorem gL_areMade_X12_next : GoodIn wsL_areMade (wsV RL 59 RX12 yX12_next wsX12_next) := goodIn_app (goodIn_of _ (by decide +kernel)) ggL_areMade_X12_next
set_option maxRecDepth 20000 in
theorem ggL_areMade_X11_addRecipe : GoodIn wsL_areMade wsX11_addRecipe := goodIn_ca (goodIn_ca (goodIn_r _ [27, 28, 29, 30, 31, 32, 33, 34, 35, 36, 26, 37, 38, 39, 40, 41, 42, 43, 44, 45, 46, 47, 48, 49, 50, 51, 52, 53, 54, 55, 56, 57, 58, 59, 60, 61, 62, 63, 64, 65, 66, 67, 68, 69, 70, 71, 72, 73, 74, 75, 76, 77, 78, 79, 80, 81, 82, 83, 84, 85, 86, 87, 88, 89, 90, 91, 92, 93, 94, 95, 96, 97, 98, 99, 100, 101, 102, 103, 104, 105, 106, 107, 108, 109, 110, 111, 112, 113, 114, 115, 116, 117, 118, 119, 120, 121, 122, 123, 124, 125, 126, 127, 128, 129, 130, 131, 132, 133, 561, 562, 563, 564, 565, 566, 567, 568, 569, 570, 571, 572, 573, 574, 575, 576, 577, 578, 579, 580, 581, 582, 583, 584, 585, 586, 587, 588, 589, 590, 591, 592, 593, 594, 595, 596, 597, 598, 599, 600, 601, 602, 603, 604, 605, 606, 607, 608, 609, 610, 611, 612, 613, 614, 615, 616, 617, 618] (by decide +kernel) (by decide +kernel)) (goodIn_sub (fun _ h => List.mem_cons_of_mem _ (List.mem_append_left _ (List.mem_append_left _ (List.mem_append_right _ h)))) (by decide +kernel))) (goodIn_sub (fun _ h => List.mem_cons_of_mem _ (List.mem_append_left _ (List.mem_append_right _ h))) (by decide +kernel))
set_option maxRecDepth 20000 in
theorem gL_areMade_X11_addRecipe : GoodIn wsL_areMade (wsV RL 66 RX11 yX11_addRecipe wsX11_addRecipe) := goodIn_app (goodIn_of _ (by decide +kernel)) ggL_areMade_X11_addRecipe
set_option maxRecDepth 20000 in
theorem ggL_areMade_X11_setWait : GoodIn wsL_areMade wsX11_setWait := goodIn_ca (goodIn_ca (goodIn_r _ [137, 28, 138, 139, 140, 141, 26, 142, 29, 35, 36, 37, 143, 144, 145, 146, 147, 38, 39, 40, 41, 42, 48, 49, 50, 51, 52, 53, 54, 55, 56, 57, 58, 59, 60, 61, 62, 63, 64, 65, 66, 67, 68, 69, 70, 71, 72, 73, 74, 75, 76, 77, 78, 79, 80, 81, 82, 83, 84, 85, 86, 87, 88, 89, 90, 91, 92, 93, 94, 95, 96, 97, 98, 99, 100, 101, 102, 103, 104, 105, 106, 107, 108, 109, 110, 111, 112, 113, 114, 115, 116, 117, 118, 119, 120, 121, 122, 123, 124, 125, 126, 127, 128, 129, 130, 131, 132, 133, 561, 562, 563, 564, 565, 566, 567, 568, 569, 570, 571, 572, 573, 574, 575, 576, 577, 578, 579, 580, 581, 582, 583, 584, 585, 586, 587, 588, 589, 590, 591, 592, 593, 594, 595, 596, 597, 598, 599, 600, 601, 602, 603, 604, 605, 606, 607, 608, 609, 610, 611, 612, 613, 614, 615, 616, 617, 618] (by decide +kernel) (by decide +kernel)) (goodIn_sub (fun _ h => List.mem_cons_of_mem _ (List.mem_append_right _ h)) (by decide +kernel))) (goodIn_sub (fun _ h => List.mem_cons_of_mem _ (List.mem_append_left _ (List.mem_append_left _ (List.mem_append_right _ h)))) (by decide +kernel))
set_option maxRecDepth 20000 in
theorem gL_areMade_X11_setWait : GoodIn wsL_areMade (wsV RL 70 RX11 yX11_setWait wsX11_setWait) := goodIn_app (goodIn_of _ (by decide +kernel)) ggL_areMade_X11_setWait
set_option maxRecDepth 20000 in
theorem ggL_areMade_J4_init_da8c8 : GoodIn wsL_areMade wsJ4_init_da8c8 := goodIn_r _ [150, 151, 152, 153, 154, 155, 156, 157, 158, 159, 160, 161, 162, 163, 164, 165, 166, 167, 168, 169, 556, 557, 558, 559] (by decide +kernel) (by decide +kernel)
set_option maxRecDepth 20000 in
theorem gL_areMade_J4_init_da8c8 : GoodIn wsL_areMade (wsJ4_init_da8c8) := ggL_areMade_J4_init_da8c8
set_option maxRecDepth 20000 in
theorem ggL_areMade_J4_length_8abf5 : GoodIn wsL_areMade wsJ4_length_8abf5 := goodIn_r _ [173, 174, 175, 176, 177, 153, 178, 179, 556, 557, 558, 559] (by decide +kernel) (by decide +kernel)
set_option maxRecDepth 20000 in
theorem gL_areMade_J4_length_8abf5 : GoodIn wsL_areMade (wsV RL 77 RJ4 yJ4_length_8abf5 wsJ4_length_8abf5) := goodIn_app (goodIn_of _ (by decide +kernel)) ggL_areMade_J4_length_8abf5
set_option maxRecDepth 20000 in
theorem ggL_areMade_J4_append_15ec4 : GoodIn wsL_areMade wsJ4_append_15ec4 := goodIn_r _ [183, 184, 185, 176, 186, 153, 187, 179, 188, 189, 190, 191, 192, 160, 193, 194, 195, 196, 197, 161, 198, 199, 200, 201, 202, 203, 204, 205, 206, 207, 208, 209, 14, 210, 211, 212, 213, 214, 215, 216, 217, 218, 219, 220, 221, 222, 223, 224, 159, 225, 226, 227, 228, 69, 70, 71, 229, 230, 231, 232, 233, 158, 234, 235, 164, 236, 237, 238, 239, 240, 241, 242, 243, 244, 245, 246, 247, 248, 249, 250, 251, 252, 253, 254, 255, 256, 257, 258, 259, 260, 261, 262, 263, 264, 265, 266, 267, 268, 269, 270, 271, 272, 273, 274, 275, 276, 277, 278, 279, 280, 281, 282, 283, 284, 162, 163, 165, 166, 167, 168, 169, 285, 286, 287, 288, 289, 290, 291, 292, 293, 294, 295, 296, 297, 298, 299, 300, 301, 302, 303, 304, 305, 306, 556, 557, 558, 559, 619, 620, 621, 622] (by decide +kernel) (by decide +kernel)
set_option maxRecDepth 20000 in
theorem gL_areMade_J4_append_15ec4 : GoodIn wsL_areMade (wsV RL 82 RJ4 yJ4_append_15ec4 wsJ4_append_15ec4) := goodIn_app (goodIn_of _ (by decide +kernel)) ggL_areMade_J4_append_15ec4
set_option maxRecDepth 20000 in
theorem ggL_areMade_J4_append_bf812 : GoodIn wsL_areMade wsJ4_append_bf812 := goodIn_r _ [310, 311, 312, 176, 313, 153, 314, 179, 160, 315, 316, 317, 318, 193, 194, 195, 196, 197, 161, 198, 199, 200, 201, 202, 203, 204, 205, 206, 207, 208, 209, 14, 210, 211, 212, 213, 214, 215, 216, 217, 218, 219, 220, 221, 222, 223, 224, 159, 225, 226, 227, 228, 69, 70, 71, 229, 230, 231, 232, 233, 158, 319, 320, 321, 322, 323, 324, 325, 164, 326, 237, 238, 239, 240, 241, 242, 243, 244, 245, 246, 247, 248, 249, 250, 251, 252, 327, 328, 329, 330, 331, 253, 254, 255, 256, 257, 556, 557, 558, 559] (by decide +kernel) (by decide +kernel)
set_option maxRecDepth 20000 in
theorem gL_areMade_J4_append_bf812 : GoodIn wsL_areMade (wsV RL 86 RJ4 yJ4_append_bf812 wsJ4_append_bf812) := goodIn_app (goodIn_of _ (by decide +kernel)) ggL_areMade_J4_append_bf812
