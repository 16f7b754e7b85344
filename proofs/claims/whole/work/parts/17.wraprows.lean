set_option maxRecDepth 20000 in
theorem ggL_receive_X11_receive : GoodIn wsL_receive wsX11_receive := goodIn_ca (goodIn_ca (goodIn_ca (goodIn_r _ [8, 9, 10, 11, 12, 13, 14, 15, 7, 16, 17, 18, 19, 20, 21, 22, 23, 24, 25, 26, 27, 28, 29, 30, 31, 32, 33, 34, 35, 36, 37, 38, 39, 40, 41, 42, 43, 44, 45, 46, 47, 48, 49, 50, 51, 52, 53, 54, 55, 56, 57, 58, 59, 60, 61, 62, 63, 64, 65, 66, 67, 68, 69, 70, 71, 72, 73, 74, 75, 76, 77, 78, 79, 80, 81, 82, 83, 84, 85, 86, 87, 88, 89, 90, 91, 92, 93, 94, 95, 96, 97, 98, 99, 100, 101, 102, 103, 104, 105, 106, 107, 108, 109, 110, 111, 112, 113, 114, 115, 116, 117, 118, 119, 120, 121, 122, 123, 124, 125, 126, 127, 128, 129, 130, 131, 132, 133, 134, 135, 136, 137, 138, 139, 140, 141, 142, 143, 144, 145, 146, 147, 148, 149, 150, 151, 152, 153, 154, 155, 156, 157, 158, 159, 160, 161, 162, 163, 164, 165, 166, 167, 168, 169, 170, 171, 172, 173, 174, 175, 176, 177, 178] (by decide +kernel) (by decide +kernel)) (goodIn_sub (fun _ h => List.mem_cons_of_mem _ (List.mem_append_left _ (List.mem_append_left _ (List.mem_append_right _ h)))) (by decide +kernel))) (goodIn_sub (fun _ h => List.mem_cons_of_mem _ (List.mem_append_left _ (List.mem_append_right _ h))) (by decide +kernel))) (goodIn_sub (fun _ h => List.mem_cons_of_mem _ (List.mem_append_right _ h)) (by decide +kernel))
set_option maxRecDepth 20000 in
theorem gL_receive_X11_receive : GoodIn wsL_receive (wsV RL 7 RX11 yX11_receive wsX11_receive) := goodIn_app (goodIn_of _ (by decide +kernel)) ggL_receive_X11_receive
theorem dL_receive_0 : decode cL_receive 0 = .ok (.aload_n 3, 1) := by decide +kernel
theorem dL_receive_1 : decode cL_receive 1 = .ok (.iconst 0, 1) := by decide +kernel
theorem dL_receive_2 : decode cL_receive 2 = .ok (.aload_n 0, 1) := by decide +kernel
theorem dL_receive_3 : decode cL_receive 3 = .ok (.iload_n 1, 1) := by decide +kernel
theorem dL_receive_4 : decode cL_receive 4 = .ok (.iload_n 2, 1) := by decide +kernel
theorem dL_receive_5 : decode cL_receive 5 = .ok (.invokevirtual 7, 3) := by decide +kernel
theorem dL_receive_8 : decode cL_receive 8 = .ok (.i2l, 1) := by decide +kernel
theorem dL_receive_9 : decode cL_receive 9 = .ok (.lastore, 1) := by decide +kernel
theorem dL_receive_10 : decode cL_receive 10 = .ok (.goto 15, 3) := by decide +kernel
theorem dL_receive_13 : decode cL_receive 13 = .ok (.astore 4, 2) := by decide +kernel
theorem dL_receive_15 : decode cL_receive 15 = .ok (.iconst 1, 1) := by decide +kernel
theorem dL_receive_16 : decode cL_receive 16 = .ok (.ireturn, 1) := by decide +kernel
theorem dL_receive_17 : decode cL_receive 17 = .ok (.astore 4, 2) := by decide +kernel
theorem dL_receive_19 : decode cL_receive 19 = .ok (.iconst 2, 1) := by decide +kernel
theorem dL_receive_20 : decode cL_receive 20 = .ok (.ireturn, 1) := by decide +kernel
theorem dL_receive_21 : decode cL_receive 21 = .ok (.astore 4, 2) := by decide +kernel
theorem dL_receive_23 : decode cL_receive 23 = .ok (.iconst 3, 1) := by decide +kernel
theorem dL_receive_24 : decode cL_receive 24 = .ok (.ireturn, 1) := by decide +kernel
theorem dL_receive_25 : decode cL_receive 25 = .ok (.iconst 0, 1) := by decide +kernel
theorem dL_receive_26 : decode cL_receive 26 = .ok (.ireturn, 1) := by decide +kernel
set_option maxRecDepth 20000 in
theorem ggL_store_X11_store : GoodIn wsL_store wsX11_store := goodIn_ca (goodIn_r _ [6, 7, 8, 9, 10, 5, 11, 12, 13, 14, 15, 16, 17, 18, 19, 20, 21, 22, 23, 24, 25, 26, 27, 28, 29, 30, 31, 32, 33, 34, 35, 36, 37] (by decide +kernel) (by decide +kernel)) (goodIn_sub (fun _ h => List.mem_cons_of_mem _ (List.mem_append_right _ h)) (by decide +kernel))
set_option maxRecDepth 20000 in
theorem gL_store_X11_store : GoodIn wsL_store (wsV RL 19 RX11 yX11_store wsX11_store) := goodIn_app (goodIn_of _ (by decide +kernel)) ggL_store_X11_store
theorem dL_store_0 : decode cL_store 0 = .ok (.aload_n 2, 1) := by decide +kernel
theorem dL_store_1 : decode cL_store 1 = .ok (.iconst 0, 1) := by decide +kernel
theorem dL_store_2 : decode cL_store 2 = .ok (.aload_n 0, 1) := by decide +kernel
theorem dL_store_3 : decode cL_store 3 = .ok (.iload_n 1, 1) := by decide +kernel
theorem dL_store_4 : decode cL_store 4 = .ok (.invokevirtual 19, 3) := by decide +kernel
theorem dL_store_7 : decode cL_store 7 = .ok (.i2l, 1) := by decide +kernel
theorem dL_store_8 : decode cL_store 8 = .ok (.lastore, 1) := by decide +kernel
theorem dL_store_9 : decode cL_store 9 = .ok (.goto 6, 3) := by decide +kernel
theorem dL_store_12 : decode cL_store 12 = .ok (.astore_n 3, 1) := by decide +kernel
theorem dL_store_13 : decode cL_store 13 = .ok (.iconst 1, 1) := by decide +kernel
theorem dL_store_14 : decode cL_store 14 = .ok (.ireturn, 1) := by decide +kernel
theorem dL_store_15 : decode cL_store 15 = .ok (.iconst 0, 1) := by decide +kernel
theorem dL_store_16 : decode cL_store 16 = .ok (.ireturn, 1) := by decide +kernel
set_option maxRecDepth 20000 in
theorem ggL_addRecipe_X11_addRecipe : GoodIn wsL_addRecipe wsX11_addRecipe := goodIn_ca (goodIn_ca (goodIn_r _ [7, 8, 9, 10, 11, 12, 13, 14, 15, 16, 6, 17, 18, 19, 20, 21, 22, 23, 24, 25, 26, 27, 28, 29, 30, 31, 32, 33, 34, 35, 36, 37, 38, 39, 40, 41, 42, 43, 44, 45, 46, 47, 48, 49, 50, 51, 52, 53, 54, 55, 56, 57, 58, 59, 60, 61, 62, 63, 64, 65, 66, 67, 68, 69, 70, 71, 72, 73, 74, 75, 76, 77, 78, 79, 80, 81, 82, 83, 84, 85, 86, 87, 88, 89, 90, 91, 92, 93, 94, 95, 96, 97, 98, 99, 100, 101, 102, 103, 104, 105, 106, 107, 108, 109, 110, 111, 112, 113, 114, 115, 116, 117, 118, 119, 120, 121, 122, 123, 124, 125, 126, 127, 128, 129, 130, 131, 132, 133, 134, 135, 136, 137, 138, 139, 140, 141, 142, 143, 144, 145, 146, 147, 148, 149, 150, 151, 152, 153, 154, 155, 156, 157, 158, 159, 160, 161, 162, 163, 164, 165, 166, 167, 168, 169, 170, 171] (by decide +kernel) (by decide +kernel)) (goodIn_sub (fun _ h => List.mem_cons_of_mem _ (List.mem_append_left _ (List.mem_append_right _ h))) (by decide +kernel))) (goodIn_sub (fun _ h => List.mem_cons_of_mem _ (List.mem_append_right _ h)) (by decide +kernel))
set_option maxRecDepth 20000 in
theorem gL_addRecipe_X11_addRecipe : GoodIn wsL_addRecipe (wsV RL 23 RX11 yX11_addRecipe wsX11_addRecipe) := goodIn_app (goodIn_of _ (by decide +kernel)) ggL_addRecipe_X11_addRecipe
theorem dL_addRecipe_0 : decode cL_addRecipe 0 = .ok (.aload 6, 2) := by decide +kernel
theorem dL_addRecipe_2 : decode cL_addRecipe 2 = .ok (.iconst 0, 1) := by decide +kernel
theorem dL_addRecipe_3 : decode cL_addRecipe 3 = .ok (.aload_n 0, 1) := by decide +kernel
theorem dL_addRecipe_4 : decode cL_addRecipe 4 = .ok (.iload_n 1, 1) := by decide +kernel
theorem dL_addRecipe_5 : decode cL_addRecipe 5 = .ok (.iload_n 2, 1) := by decide +kernel
theorem dL_addRecipe_6 : decode cL_addRecipe 6 = .ok (.iload_n 3, 1) := by decide +kernel
theorem dL_addRecipe_7 : decode cL_addRecipe 7 = .ok (.iload 4, 2) := by decide +kernel
theorem dL_addRecipe_9 : decode cL_addRecipe 9 = .ok (.iload 5, 2) := by decide +kernel
theorem dL_addRecipe_11 : decode cL_addRecipe 11 = .ok (.invokevirtual 23, 3) := by decide +kernel
theorem dL_addRecipe_14 : decode cL_addRecipe 14 = .ok (.i2l, 1) := by decide +kernel
theorem dL_addRecipe_15 : decode cL_addRecipe 15 = .ok (.lastore, 1) := by decide +kernel
theorem dL_addRecipe_16 : decode cL_addRecipe 16 = .ok (.goto 11, 3) := by decide +kernel
theorem dL_addRecipe_19 : decode cL_addRecipe 19 = .ok (.astore 7, 2) := by decide +kernel
theorem dL_addRecipe_21 : decode cL_addRecipe 21 = .ok (.iconst 1, 1) := by decide +kernel
theorem dL_addRecipe_22 : decode cL_addRecipe 22 = .ok (.ireturn, 1) := by decide +kernel
theorem dL_addRecipe_23 : decode cL_addRecipe 23 = .ok (.astore 7, 2) := by decide +kernel
theorem dL_addRecipe_25 : decode cL_addRecipe 25 = .ok (.iconst 2, 1) := by decide +kernel
theorem dL_addRecipe_26 : decode cL_addRecipe 26 = .ok (.ireturn, 1) := by decide +kernel
theorem dL_addRecipe_27 : decode cL_addRecipe 27 = .ok (.iconst 0, 1) := by decide +kernel
theorem dL_addRecipe_28 : decode cL_addRecipe 28 = .ok (.ireturn, 1) := by decide +kernel
set_option maxRecDepth 20000 in
theorem ggL_setWait_X11_setWait : GoodIn wsL_setWait wsX11_setWait := goodIn_ca (goodIn_ca (goodIn_r _ [7, 8, 9, 10, 11, 12, 6, 13, 14, 15, 16, 17, 18, 19, 20, 21, 22, 23, 24, 25, 26, 27, 28, 29, 30, 31, 32, 33, 34, 35, 36, 37, 38, 39, 40, 41, 42, 43, 44, 45, 46, 47, 48, 49, 50, 51, 52, 53, 54, 55, 56, 57, 58, 59, 60, 61, 62, 63, 64, 65, 66, 67, 68, 69, 70, 71, 72, 73, 74, 75, 76, 77, 78, 79, 80, 81, 82, 83, 84, 85, 86, 87, 88, 89, 90, 91, 92, 93, 94, 95, 96, 97, 98, 99, 100, 101, 102, 103, 104, 105, 106, 107, 108, 109, 110, 111, 112, 113, 114, 115, 116, 117, 118, 119, 120, 121, 122, 123, 124, 125, 126, 127, 128, 129, 130, 131, 132, 133, 134, 135, 136, 137, 138, 139, 140, 141, 142, 143, 144, 145, 146, 147, 148, 149, 150, 151, 152, 153, 154, 155, 156, 157, 158, 159, 160, 161, 162, 163, 164, 165, 166, 167, 168, 169, 170, 171] (by decide +kernel) (by decide +kernel)) (goodIn_sub (fun _ h => List.mem_cons_of_mem _ (List.mem_append_left _ (List.mem_append_right _ h))) (by decide +kernel))) (goodIn_sub (fun _ h => List.mem_cons_of_mem _ (List.mem_append_right _ h)) (by decide +kernel))
set_option maxRecDepth 20000 in
theorem gL_setWait_X11_setWait : GoodIn wsL_setWait (wsV RL 27 RX11 yX11_setWait wsX11_setWait) := goodIn_app (goodIn_of _ (by decide +kernel)) ggL_setWait_X11_setWait
theorem dL_setWait_0 : decode cL_setWait 0 = .ok (.aload_n 3, 1) := by decide +kernel
theorem dL_setWait_1 : decode cL_setWait 1 = .ok (.iconst 0, 1) := by decide +kernel
theorem dL_setWait_2 : decode cL_setWait 2 = .ok (.aload_n 0, 1) := by decide +kernel
theorem dL_setWait_3 : decode cL_setWait 3 = .ok (.iload_n 1, 1) := by decide +kernel
theorem dL_setWait_4 : decode cL_setWait 4 = .ok (.iload_n 2, 1) := by decide +kernel
theorem dL_setWait_5 : decode cL_setWait 5 = .ok (.invokevirtual 27, 3) := by decide +kernel
theorem dL_setWait_8 : decode cL_setWait 8 = .ok (.i2l, 1) := by decide +kernel
theorem dL_setWait_9 : decode cL_setWait 9 = .ok (.lastore, 1) := by decide +kernel
theorem dL_setWait_10 : decode cL_setWait 10 = .ok (.goto 11, 3) := by decide +kernel
theorem dL_setWait_13 : decode cL_setWait 13 = .ok (.astore 4, 2) := by decide +kernel
theorem dL_setWait_15 : decode cL_setWait 15 = .ok (.iconst 1, 1) := by decide +kernel
theorem dL_setWait_16 : decode cL_setWait 16 = .ok (.ireturn, 1) := by decide +kernel
theorem dL_setWait_17 : decode cL_setWait 17 = .ok (.astore 4, 2) := by decide +kernel
theorem dL_setWait_19 : decode cL_setWait 19 = .ok (.iconst 2, 1) := by decide +kernel
theorem dL_setWait_20 : decode cL_setWait 20 = .ok (.ireturn, 1) := by decide +kernel
theorem dL_setWait_21 : decode cL_setWait 21 = .ok (.iconst 0, 1) := by decide +kernel
theorem dL_setWait_22 : decode cL_setWait 22 = .ok (.ireturn, 1) := by decide +kernel
set_option maxRecDepth 20000 in
theorem ggL_setPart_X11_setPart : GoodIn wsL_setPart wsX11_setPart := goodIn_ca (goodIn_ca (goodIn_r _ [7, 8, 9, 10, 11, 12, 6, 13, 14, 15, 16, 17, 18, 19, 20, 21, 22, 23, 24, 25, 26, 27, 28, 29, 30, 31, 32, 33, 34, 35, 36, 37, 38, 39, 40, 41, 42, 43, 44, 45, 46, 47, 48, 49, 50, 51, 52, 53, 54, 55, 56, 57, 58, 59, 60, 61, 62, 63, 64, 65, 66, 67, 68, 69, 70, 71, 72, 73, 74, 75, 76, 77, 78, 79, 80, 81, 82, 83, 84, 85, 86, 87, 88, 89, 90, 91, 92, 93, 94, 95, 96, 97, 98, 99, 100, 101, 102, 103, 104, 105, 106, 107, 108, 109, 110, 111, 112, 113, 114, 115, 116, 117, 118, 119, 120, 121, 122, 123, 124, 125, 126, 127, 128, 129, 130, 131, 132, 133, 134, 135, 136, 137, 138, 139, 140, 141, 142, 143, 144, 145, 146, 147, 148, 149, 150, 151, 152, 153, 154, 155, 156, 157, 158, 159, 160, 161, 162, 163, 164, 165, 166, 167, 168, 169, 170, 171, 172, 173, 174] (by decide +kernel) (by decide +kernel)) (goodIn_sub (fun _ h => List.mem_cons_of_mem _ (List.mem_append_left _ (List.mem_append_right _ h))) (by decide +kernel))) (goodIn_sub (fun _ h => List.mem_cons_of_mem _ (List.mem_append_right _ h)) (by decide +kernel))
set_option maxRecDepth 20000 in
theorem gL_setPart_X11_setPart : GoodIn wsL_setPart (wsV RL 30 RX11 yX11_setPart wsX11_setPart) := goodIn_app (goodIn_of _ (by decide +kernel)) ggL_setPart_X11_setPart
theorem dL_setPart_0 : decode cL_setPart 0 = .ok (.aload 4, 2) := by decide +kernel
theorem dL_setPart_2 : decode cL_setPart 2 = .ok (.iconst 0, 1) := by decide +kernel
theorem dL_setPart_3 : decode cL_setPart 3 = .ok (.aload_n 0, 1) := by decide +kernel
theorem dL_setPart_4 : decode cL_setPart 4 = .ok (.iload_n 1, 1) := by decide +kernel
theorem dL_setPart_5 : decode cL_setPart 5 = .ok (.iload_n 2, 1) := by decide +kernel
theorem dL_setPart_6 : decode cL_setPart 6 = .ok (.iload_n 3, 1) := by decide +kernel
theorem dL_setPart_7 : decode cL_setPart 7 = .ok (.invokevirtual 30, 3) := by decide +kernel
theorem dL_setPart_10 : decode cL_setPart 10 = .ok (.i2l, 1) := by decide +kernel
theorem dL_setPart_11 : decode cL_setPart 11 = .ok (.lastore, 1) := by decide +kernel
theorem dL_setPart_12 : decode cL_setPart 12 = .ok (.goto 11, 3) := by decide +kernel
theorem dL_setPart_15 : decode cL_setPart 15 = .ok (.astore 5, 2) := by decide +kernel
theorem dL_setPart_17 : decode cL_setPart 17 = .ok (.iconst 1, 1) := by decide +kernel
theorem dL_setPart_18 : decode cL_setPart 18 = .ok (.ireturn, 1) := by decide +kernel
theorem dL_setPart_19 : decode cL_setPart 19 = .ok (.astore 5, 2) := by decide +kernel
theorem dL_setPart_21 : decode cL_setPart 21 = .ok (.iconst 2, 1) := by decide +kernel
theorem dL_setPart_22 : decode cL_setPart 22 = .ok (.ireturn, 1) := by decide +kernel
theorem dL_setPart_23 : decode cL_setPart 23 = .ok (.iconst 0, 1) := by decide +kernel
theorem dL_setPart_24 : decode cL_setPart 24 = .ok (.ireturn, 1) := by decide +kernel
set_option maxRecDepth 20000 in
theorem ggL_readParts_X11_readParts : GoodIn wsL_readParts wsX11_readParts := goodIn_ca (goodIn_ca (goodIn_r _ [7, 8, 9, 10, 11, 12, 13, 14, 15, 16, 17, 18, 19, 20, 21, 22, 23, 24, 25, 26, 27, 28, 29, 30, 31, 32, 33, 34, 35, 36, 37, 38, 39, 40, 41, 6, 42, 43, 44, 45, 46, 47, 48, 49, 50, 51, 52, 53, 54, 55, 56, 57, 58, 59, 60, 61, 62, 63, 64, 65, 66, 67, 68, 69, 70, 71, 72, 73, 74, 75, 76, 77, 78, 79, 80, 81, 82, 83, 84, 85, 86, 87, 88, 89, 90, 91, 92, 93, 94, 95, 96, 97, 98, 99, 100, 101, 102, 103, 104, 105, 106, 107, 108, 109, 110, 111, 112, 113, 114, 115, 116, 117, 118, 119, 120, 121, 122, 123, 124, 125, 126, 127, 128, 129, 130, 131, 132, 133, 134, 135, 136, 137, 138, 139, 140, 141, 142, 143, 144, 145, 146, 147, 148, 149, 150, 151, 152, 153, 154, 155, 156, 157, 158, 159, 160, 161, 162, 163, 164, 165, 166, 167, 168, 169, 170, 171, 172, 173, 174, 175, 176, 177, 178, 179, 180, 181, 182, 183, 184, 185, 186, 187, 188, 189, 190, 191, 192, 193, 194, 195, 196, 197, 198, 199, 200, 201, 202, 203, 204, 205, 206, 207, 208, 209, 210, 211, 212, 213, 214, 215, 216] (by decide +kernel) (by decide +kernel)) (goodIn_sub (fun _ h => List.mem_cons_of_mem _ (List.mem_append_left _ (List.mem_append_right _ h))) (by decide +kernel))) (goodIn_sub (fun _ h => List.mem_cons_of_mem _ (List.mem_append_right _ h)) (by decide +kernel))
set_option maxRecDepth 20000 in
theorem gL_readParts_X11_readParts : GoodIn wsL_readParts (wsV RL 34 RX11 yX11_readParts wsX11_readParts) := goodIn_app (goodIn_of _ (by decide +kernel)) ggL_readParts_X11_readParts
theorem dL_readParts_0 : decode cL_readParts 0 = .ok (.aload_n 2, 1) := by decide +kernel
theorem dL_readParts_1 : decode cL_readParts 1 = .ok (.iconst 0, 1) := by decide +kernel
theorem dL_readParts_2 : decode cL_readParts 2 = .ok (.aload_n 0, 1) := by decide +kernel
theorem dL_readParts_3 : decode cL_readParts 3 = .ok (.iload_n 1, 1) := by decide +kernel
theorem dL_readParts_4 : decode cL_readParts 4 = .ok (.invokevirtual 34, 3) := by decide +kernel
theorem dL_readParts_7 : decode cL_readParts 7 = .ok (.i2l, 1) := by decide +kernel
theorem dL_readParts_8 : decode cL_readParts 8 = .ok (.lastore, 1) := by decide +kernel
theorem dL_readParts_9 : decode cL_readParts 9 = .ok (.goto 9, 3) := by decide +kernel
theorem dL_readParts_12 : decode cL_readParts 12 = .ok (.astore_n 3, 1) := by decide +kernel
theorem dL_readParts_13 : decode cL_readParts 13 = .ok (.iconst 1, 1) := by decide +kernel
theorem dL_readParts_14 : decode cL_readParts 14 = .ok (.ireturn, 1) := by decide +kernel
theorem dL_readParts_15 : decode cL_readParts 15 = .ok (.astore_n 3, 1) := by decide +kernel
theorem dL_readParts_16 : decode cL_readParts 16 = .ok (.iconst 2, 1) := by decide +kernel
theorem dL_readParts_17 : decode cL_readParts 17 = .ok (.ireturn, 1) := by decide +kernel
theorem dL_readParts_18 : decode cL_readParts 18 = .ok (.iconst 0, 1) := by decide +kernel
theorem dL_readParts_19 : decode cL_readParts 19 = .ok (.ireturn, 1) := by decide +kernel
set_option maxRecDepth 20000 in
theorem ggL_amount_X11_amount : GoodIn wsL_amount wsX11_amount := goodIn_ca (goodIn_ca (goodIn_ca (goodIn_r _ [8, 9, 10, 11, 12, 13, 7, 14, 15, 16, 17, 18, 19, 20, 21, 22, 23, 24, 25, 26, 27, 28, 29, 30, 31, 32, 33, 34, 35, 36, 37, 38, 39, 40, 41, 42, 43, 44, 45, 46, 47, 48, 49, 50, 51, 52, 53, 54, 55, 56, 57, 58, 59, 60, 61, 62, 63, 64, 65, 66, 67, 68, 69, 70, 71, 72, 73, 74, 75, 76] (by decide +kernel) (by decide +kernel)) (goodIn_sub (fun _ h => List.mem_cons_of_mem _ (List.mem_append_left _ (List.mem_append_left _ (List.mem_append_right _ h)))) (by decide +kernel))) (goodIn_sub (fun _ h => List.mem_cons_of_mem _ (List.mem_append_left _ (List.mem_append_right _ h))) (by decide +kernel))) (goodIn_sub (fun _ h => List.mem_cons_of_mem _ (List.mem_append_right _ h)) (by decide +kernel))
set_option maxRecDepth 20000 in
theorem gL_amount_X11_amount : GoodIn wsL_amount (wsV RL 37 RX11 yX11_amount wsX11_amount) := goodIn_app (goodIn_of _ (by decide +kernel)) ggL_amount_X11_amount
theorem dL_amount_0 : decode cL_amount 0 = .ok (.aload 4, 2) := by decide +kernel
theorem dL_amount_2 : decode cL_amount 2 = .ok (.iconst 0, 1) := by decide +kernel
theorem dL_amount_3 : decode cL_amount 3 = .ok (.aload_n 0, 1) := by decide +kernel
theorem dL_amount_4 : decode cL_amount 4 = .ok (.iload_n 1, 1) := by decide +kernel
theorem dL_amount_5 : decode cL_amount 5 = .ok (.iload_n 2, 1) := by decide +kernel
theorem dL_amount_6 : decode cL_amount 6 = .ok (.iload_n 3, 1) := by decide +kernel
theorem dL_amount_7 : decode cL_amount 7 = .ok (.invokevirtual 37, 3) := by decide +kernel
theorem dL_amount_10 : decode cL_amount 10 = .ok (.i2l, 1) := by decide +kernel
theorem dL_amount_11 : decode cL_amount 11 = .ok (.lastore, 1) := by decide +kernel
theorem dL_amount_12 : decode cL_amount 12 = .ok (.goto 15, 3) := by decide +kernel
theorem dL_amount_15 : decode cL_amount 15 = .ok (.astore 5, 2) := by decide +kernel
theorem dL_amount_17 : decode cL_amount 17 = .ok (.iconst 1, 1) := by decide +kernel
theorem dL_amount_18 : decode cL_amount 18 = .ok (.ireturn, 1) := by decide +kernel
theorem dL_amount_19 : decode cL_amount 19 = .ok (.astore 5, 2) := by decide +kernel
theorem dL_amount_21 : decode cL_amount 21 = .ok (.iconst 2, 1) := by decide +kernel
theorem dL_amount_22 : decode cL_amount 22 = .ok (.ireturn, 1) := by decide +kernel
theorem dL_amount_23 : decode cL_amount 23 = .ok (.astore 5, 2) := by decide +kernel
theorem dL_amount_25 : decode cL_amount 25 = .ok (.iconst 3, 1) := by decide +kernel
theorem dL_amount_26 : decode cL_amount 26 = .ok (.ireturn, 1) := by decide +kernel
theorem dL_amount_27 : decode cL_amount 27 = .ok (.iconst 0, 1) := by decide +kernel
theorem dL_amount_28 : decode cL_amount 28 = .ok (.ireturn, 1) := by decide +kernel
set_option maxRecDepth 20000 in
theorem ggL_mix_X11_mix : GoodIn wsL_mix wsX11_mix := goodIn_ca (goodIn_ca (goodIn_ca (goodIn_r _ [8, 9, 10, 11, 12, 13, 14, 15, 16, 17, 7, 18, 19, 20, 21, 22, 23, 24, 25, 26, 27, 28, 29, 30, 31, 32, 33, 34, 35, 36, 37, 38, 39, 40, 41, 42, 43, 44, 45, 46, 47, 48, 49, 50, 51, 52, 53, 54, 55, 56, 57, 58, 59, 60, 61, 62, 63, 64, 65, 66, 67, 68, 69, 70, 71, 72, 73, 74, 75, 76, 77, 78, 79, 80, 81, 82, 83, 84, 85, 86, 87, 88, 89, 90, 91, 92, 93, 94, 95, 96, 97, 98, 99, 100, 101, 102, 103, 104, 105, 106, 107, 108, 109, 110, 111, 112, 113, 114, 115, 116, 117, 118, 119, 120, 121, 122, 123, 124, 125, 126, 127, 128, 129, 130, 131, 132, 133, 134, 135, 136, 137, 138, 139, 140, 141, 142, 143, 144, 145, 146, 147, 148, 149, 150, 151, 152, 153, 154, 155, 156, 157, 158, 159, 160, 161, 162, 163, 164, 165, 166, 167, 168, 169, 170, 171, 172, 173, 174, 175, 176, 177, 178, 179, 180, 181, 182, 183, 184, 185, 186, 187, 188, 189, 190, 191, 192, 193, 194, 195, 196, 197, 198, 199, 200, 201, 202, 203, 204, 205, 206] (by decide +kernel) (by decide +kernel)) (goodIn_sub (fun _ h => List.mem_cons_of_mem _ (List.mem_append_left _ (List.mem_append_left _ (List.mem_append_right _ h)))) (by decide +kernel))) (goodIn_sub (fun _ h => List.mem_cons_of_mem _ (List.mem_append_left _ (List.mem_append_right _ h))) (by decide +kernel))) (goodIn_sub (fun _ h => List.mem_cons_of_mem _ (List.mem_append_right _ h)) (by decide +kernel))
set_option maxRecDepth 20000 in
theorem gL_mix_X11_mix : GoodIn wsL_mix (wsV RL 40 RX11 yX11_mix wsX11_mix) := goodIn_app (goodIn_of _ (by decide +kernel)) ggL_mix_X11_mix
theorem dL_mix_0 : decode cL_mix 0 = .ok (.aload_n 3, 1) := by decide +kernel
theorem dL_mix_1 : decode cL_mix 1 = .ok (.iconst 0, 1) := by decide +kernel
theorem dL_mix_2 : decode cL_mix 2 = .ok (.aload_n 0, 1) := by decide +kernel
theorem dL_mix_3 : decode cL_mix 3 = .ok (.iload_n 1, 1) := by decide +kernel
theorem dL_mix_4 : decode cL_mix 4 = .ok (.iload_n 2, 1) := by decide +kernel
theorem dL_mix_5 : decode cL_mix 5 = .ok (.invokevirtual 40, 3) := by decide +kernel
theorem dL_mix_8 : decode cL_mix 8 = .ok (.i2l, 1) := by decide +kernel
theorem dL_mix_9 : decode cL_mix 9 = .ok (.lastore, 1) := by decide +kernel
theorem dL_mix_10 : decode cL_mix 10 = .ok (.goto 15, 3) := by decide +kernel
theorem dL_mix_13 : decode cL_mix 13 = .ok (.astore 4, 2) := by decide +kernel
theorem dL_mix_15 : decode cL_mix 15 = .ok (.iconst 1, 1) := by decide +kernel
theorem dL_mix_16 : decode cL_mix 16 = .ok (.ireturn, 1) := by decide +kernel
theorem dL_mix_17 : decode cL_mix 17 = .ok (.astore 4, 2) := by decide +kernel
theorem dL_mix_19 : decode cL_mix 19 = .ok (.iconst 2, 1) := by decide +kernel
theorem dL_mix_20 : decode cL_mix 20 = .ok (.ireturn, 1) := by decide +kernel
theorem dL_mix_21 : decode cL_mix 21 = .ok (.astore 4, 2) := by decide +kernel
theorem dL_mix_23 : decode cL_mix 23 = .ok (.iconst 3, 1) := by decide +kernel
theorem dL_mix_24 : decode cL_mix 24 = .ok (.ireturn, 1) := by decide +kernel
theorem dL_mix_25 : decode cL_mix 25 = .ok (.iconst 0, 1) := by decide +kernel
theorem dL_mix_26 : decode cL_mix 26 = .ok (.ireturn, 1) := by decide +kernel
set_option maxRecDepth 20000 in
theorem ggL_setWarmth_X11_setWarmth : GoodIn wsL_setWarmth wsX11_setWarmth := goodIn_ca (goodIn_r _ [6, 7, 8, 9, 10, 5, 11, 12, 13, 14, 15, 16, 17, 18, 19, 20, 21, 22, 23, 24, 25, 26, 27, 28, 29, 30, 31, 32, 33, 34, 35, 36, 37, 38, 39, 40, 41, 42, 43, 44, 45, 46, 47, 48, 49, 50, 51, 52, 53, 54, 55, 56, 57, 58, 59, 60, 61, 62, 63, 64, 65, 66, 67, 68, 69, 70, 71, 72, 73, 74, 75, 76, 77, 78, 79, 80, 81, 82, 83, 84, 85, 86, 87, 88, 89, 90, 91, 92, 93, 94, 95, 96, 97, 98, 99, 100, 101, 102, 103, 104, 105, 106, 107, 108, 109, 110, 111, 112, 113, 114, 115, 116, 117, 118, 119, 120, 121, 122, 123, 124, 125, 126, 127, 128, 129, 130, 131, 132, 133, 134, 135, 136, 137, 138, 139, 140, 141, 142, 143, 144, 145, 146, 147, 148, 149, 150, 151, 152, 153, 154, 155, 156, 157, 158, 159, 160] (by decide +kernel) (by decide +kernel)) (goodIn_sub (fun _ h => List.mem_cons_of_mem _ (List.mem_append_right _ h)) (by decide +kernel))
set_option maxRecDepth 20000 in
theorem gL_setWarmth_X11_setWarmth : GoodIn wsL_setWarmth (wsV RL 43 RX11 yX11_setWarmth wsX11_setWarmth) := goodIn_app (goodIn_of _ (by decide +kernel)) ggL_setWarmth_X11_setWarmth
theorem dL_setWarmth_0 : decode cL_setWarmth 0 = .ok (.aload_n 2, 1) := by decide +kernel
theorem dL_setWarmth_1 : decode cL_setWarmth 1 = .ok (.iconst 0, 1) := by decide +kernel
theorem dL_setWarmth_2 : decode cL_setWarmth 2 = .ok (.aload_n 0, 1) := by decide +kernel
theorem dL_setWarmth_3 : decode cL_setWarmth 3 = .ok (.iload_n 1, 1) := by decide +kernel
theorem dL_setWarmth_4 : decode cL_setWarmth 4 = .ok (.invokevirtual 43, 3) := by decide +kernel
theorem dL_setWarmth_7 : decode cL_setWarmth 7 = .ok (.i2l, 1) := by decide +kernel
theorem dL_setWarmth_8 : decode cL_setWarmth 8 = .ok (.lastore, 1) := by decide +kernel
theorem dL_setWarmth_9 : decode cL_setWarmth 9 = .ok (.goto 6, 3) := by decide +kernel
theorem dL_setWarmth_12 : decode cL_setWarmth 12 = .ok (.astore_n 3, 1) := by decide +kernel
theorem dL_setWarmth_13 : decode cL_setWarmth 13 = .ok (.iconst 1, 1) := by decide +kernel
theorem dL_setWarmth_14 : decode cL_setWarmth 14 = .ok (.ireturn, 1) := by decide +kernel
theorem dL_setWarmth_15 : decode cL_setWarmth 15 = .ok (.iconst 0, 1) := by decide +kernel
theorem dL_setWarmth_16 : decode cL_setWarmth 16 = .ok (.ireturn, 1) := by decide +kernel
set_option maxRecDepth 20000 in
theorem ggL_pass_X11_pass : GoodIn wsL_pass wsX11_pass := goodIn_ca (goodIn_ca (goodIn_r _ [7, 8, 9, 10, 11, 12, 13, 6, 14, 15, 16, 17, 18, 19, 20, 21, 22, 23, 24, 25, 26, 27, 28, 29, 30, 31, 32, 33, 34, 35, 36, 37, 38, 39, 40, 41, 42, 43, 44, 45, 46, 47, 48, 49, 50, 51, 52, 53, 54, 55, 56, 57, 58, 59, 60, 61, 62, 63, 64, 65, 66, 67, 68, 69, 70, 71, 72, 73, 74, 75, 76, 77, 78, 79, 80, 81, 82, 83, 84, 85, 86, 87, 88, 89, 90, 91, 92, 93, 94, 95, 96, 97, 98, 99, 100, 101, 102, 103, 104, 105, 106, 107, 108, 109, 110, 111, 112, 113, 114, 115, 116, 117, 118, 119, 120, 121, 122, 123, 124, 125, 126, 127, 128, 129, 130, 131, 132, 133, 134, 135, 136, 137, 138, 139, 140, 141, 142, 143, 144, 145, 146, 147, 148, 149, 150, 151, 152, 153, 154, 155, 156, 157, 158, 159, 160, 161, 162, 163, 164, 165, 166, 167, 168, 169, 170, 171, 172, 173, 174, 175, 176, 177, 178, 179, 180, 181, 182, 183, 184, 185, 186, 187, 188, 189, 190, 191, 192, 193, 194, 195, 196, 197] (by decide +kernel) (by decide +kernel)) (goodIn_sub (fun _ h => List.mem_cons_of_mem _ (List.mem_append_left _ (List.mem_append_right _ h))) (by decide +kernel))) (goodIn_sub (fun _ h => List.mem_cons_of_mem _ (List.mem_append_right _ h)) (by decide +kernel))
set_option maxRecDepth 20000 in
theorem gL_pass_X11_pass : GoodIn wsL_pass (wsV RL 46 RX11 yX11_pass wsX11_pass) := goodIn_app (goodIn_of _ (by decide +kernel)) ggL_pass_X11_pass
theorem dL_pass_0 : decode cL_pass 0 = .ok (.aload_n 2, 1) := by decide +kernel
theorem dL_pass_1 : decode cL_pass 1 = .ok (.iconst 0, 1) := by decide +kernel
theorem dL_pass_2 : decode cL_pass 2 = .ok (.aload_n 0, 1) := by decide +kernel
theorem dL_pass_3 : decode cL_pass 3 = .ok (.iload_n 1, 1) := by decide +kernel
theorem dL_pass_4 : decode cL_pass 4 = .ok (.invokevirtual 46, 3) := by decide +kernel
theorem dL_pass_7 : decode cL_pass 7 = .ok (.i2l, 1) := by decide +kernel
theorem dL_pass_8 : decode cL_pass 8 = .ok (.lastore, 1) := by decide +kernel
theorem dL_pass_9 : decode cL_pass 9 = .ok (.goto 9, 3) := by decide +kernel
theorem dL_pass_12 : decode cL_pass 12 = .ok (.astore_n 3, 1) := by decide +kernel
theorem dL_pass_13 : decode cL_pass 13 = .ok (.iconst 1, 1) := by decide +kernel
theorem dL_pass_14 : decode cL_pass 14 = .ok (.ireturn, 1) := by decide +kernel
theorem dL_pass_15 : decode cL_pass 15 = .ok (.astore_n 3, 1) := by decide +kernel
theorem dL_pass_16 : decode cL_pass 16 = .ok (.iconst 2, 1) := by decide +kernel
theorem dL_pass_17 : decode cL_pass 17 = .ok (.ireturn, 1) := by decide +kernel
theorem dL_pass_18 : decode cL_pass 18 = .ok (.iconst 0, 1) := by decide +kernel
theorem dL_pass_19 : decode cL_pass 19 = .ok (.ireturn, 1) := by decide +kernel
set_option maxRecDepth 20000 in
theorem ggL_shape_X11_shape : GoodIn wsL_shape wsX11_shape := goodIn_ca (goodIn_ca (goodIn_r _ [7, 8, 9, 10, 11, 12, 13, 14, 15, 16, 6, 17, 18, 19, 20, 21, 22, 23, 24, 25, 26, 27, 28, 29, 30, 31, 32, 33, 34, 35, 36, 37, 38, 39, 40, 41, 42, 43, 44, 45, 46, 47, 48, 49, 50, 51, 52, 53, 54, 55, 56, 57, 58, 59, 60, 61, 62, 63, 64, 65, 66, 67, 68, 69, 70, 71, 72, 73, 74, 75, 76, 77, 78, 79, 80, 81, 82, 83, 84, 85, 86, 87, 88, 89, 90, 91, 92, 93, 94, 95, 96, 97, 98, 99, 100, 101, 102, 103, 104, 105, 106, 107, 108, 109, 110, 111, 112, 113, 114, 115, 116, 117, 118, 119, 120, 121, 122, 123, 124, 125, 126, 127, 128, 129, 130, 131, 132, 133, 134, 135, 136, 137, 138, 139, 140, 141, 142, 143, 144, 145, 146, 147, 148, 149, 150, 151, 152, 153, 154, 155, 156, 157, 158, 159, 160, 161, 162, 163, 164, 165, 166, 167, 168, 169, 170, 171, 172, 173, 174, 175, 176, 177, 178, 179, 180, 181, 182, 183, 184, 185] (by decide +kernel) (by decide +kernel)) (goodIn_sub (fun _ h => List.mem_cons_of_mem _ (List.mem_append_left _ (List.mem_append_right _ h))) (by decide +kernel))) (goodIn_sub (fun _ h => List.mem_cons_of_mem _ (List.mem_append_right _ h)) (by decide +kernel))
set_option maxRecDepth 20000 in
theorem gL_shape_X11_shape : GoodIn wsL_shape (wsV RL 49 RX11 yX11_shape wsX11_shape) := goodIn_app (goodIn_of _ (by decide +kernel)) ggL_shape_X11_shape
theorem dL_shape_0 : decode cL_shape 0 = .ok (.aload_n 2, 1) := by decide +kernel
theorem dL_shape_1 : decode cL_shape 1 = .ok (.iconst 0, 1) := by decide +kernel
theorem dL_shape_2 : decode cL_shape 2 = .ok (.aload_n 0, 1) := by decide +kernel
theorem dL_shape_3 : decode cL_shape 3 = .ok (.iload_n 1, 1) := by decide +kernel
theorem dL_shape_4 : decode cL_shape 4 = .ok (.invokevirtual 49, 3) := by decide +kernel
theorem dL_shape_7 : decode cL_shape 7 = .ok (.i2l, 1) := by decide +kernel
theorem dL_shape_8 : decode cL_shape 8 = .ok (.lastore, 1) := by decide +kernel
theorem dL_shape_9 : decode cL_shape 9 = .ok (.goto 9, 3) := by decide +kernel
theorem dL_shape_12 : decode cL_shape 12 = .ok (.astore_n 3, 1) := by decide +kernel
theorem dL_shape_13 : decode cL_shape 13 = .ok (.iconst 1, 1) := by decide +kernel
theorem dL_shape_14 : decode cL_shape 14 = .ok (.ireturn, 1) := by decide +kernel
theorem dL_shape_15 : decode cL_shape 15 = .ok (.astore_n 3, 1) := by decide +kernel
theorem dL_shape_16 : decode cL_shape 16 = .ok (.iconst 2, 1) := by decide +kernel
theorem dL_shape_17 : decode cL_shape 17 = .ok (.ireturn, 1) := by decide +kernel
theorem dL_shape_18 : decode cL_shape 18 = .ok (.iconst 0, 1) := by decide +kernel
theorem dL_shape_19 : decode cL_shape 19 = .ok (.ireturn, 1) := by decide +kernel
set_option maxRecDepth 20000 in
theorem ggL_doughAt_X11_doughAt : GoodIn wsL_doughAt wsX11_doughAt := goodIn_ca (goodIn_ca (goodIn_r _ [7, 8, 9, 10, 11, 12, 13, 14, 15, 16, 17, 18, 6, 19, 20, 21, 22, 23, 24, 25, 26, 27, 28, 29, 30, 31, 32, 33, 34, 35, 36, 37, 38, 39, 40, 41, 42, 43, 44, 45, 46, 47, 48, 49, 50, 51, 52, 53, 54, 55] (by decide +kernel) (by decide +kernel)) (goodIn_sub (fun _ h => List.mem_cons_of_mem _ (List.mem_append_left _ (List.mem_append_right _ h))) (by decide +kernel))) (goodIn_sub (fun _ h => List.mem_cons_of_mem _ (List.mem_append_right _ h)) (by decide +kernel))
set_option maxRecDepth 20000 in
theorem gL_doughAt_X11_doughAt : GoodIn wsL_doughAt (wsV RL 52 RX11 yX11_doughAt wsX11_doughAt) := goodIn_app (goodIn_of _ (by decide +kernel)) ggL_doughAt_X11_doughAt
theorem dL_doughAt_0 : decode cL_doughAt 0 = .ok (.aload_n 3, 1) := by decide +kernel
theorem dL_doughAt_1 : decode cL_doughAt 1 = .ok (.iconst 0, 1) := by decide +kernel
theorem dL_doughAt_2 : decode cL_doughAt 2 = .ok (.aload_n 0, 1) := by decide +kernel
theorem dL_doughAt_3 : decode cL_doughAt 3 = .ok (.iload_n 1, 1) := by decide +kernel
theorem dL_doughAt_4 : decode cL_doughAt 4 = .ok (.iload_n 2, 1) := by decide +kernel
theorem dL_doughAt_5 : decode cL_doughAt 5 = .ok (.invokevirtual 52, 3) := by decide +kernel
theorem dL_doughAt_8 : decode cL_doughAt 8 = .ok (.i2l, 1) := by decide +kernel
theorem dL_doughAt_9 : decode cL_doughAt 9 = .ok (.lastore, 1) := by decide +kernel
theorem dL_doughAt_10 : decode cL_doughAt 10 = .ok (.goto 11, 3) := by decide +kernel
theorem dL_doughAt_13 : decode cL_doughAt 13 = .ok (.astore 4, 2) := by decide +kernel
theorem dL_doughAt_15 : decode cL_doughAt 15 = .ok (.iconst 1, 1) := by decide +kernel
theorem dL_doughAt_16 : decode cL_doughAt 16 = .ok (.ireturn, 1) := by decide +kernel
theorem dL_doughAt_17 : decode cL_doughAt 17 = .ok (.astore 4, 2) := by decide +kernel
theorem dL_doughAt_19 : decode cL_doughAt 19 = .ok (.iconst 2, 1) := by decide +kernel
theorem dL_doughAt_20 : decode cL_doughAt 20 = .ok (.ireturn, 1) := by decide +kernel
theorem dL_doughAt_21 : decode cL_doughAt 21 = .ok (.iconst 0, 1) := by decide +kernel
theorem dL_doughAt_22 : decode cL_doughAt 22 = .ok (.ireturn, 1) := by decide +kernel
set_option maxRecDepth 20000 in
theorem ggL_throwAway_X11_throwAway : GoodIn wsL_throwAway wsX11_throwAway := goodIn_ca (goodIn_ca (goodIn_r _ [7, 8, 9, 10, 11, 12, 13, 14, 15, 6, 16, 17, 18, 19, 20, 21, 22, 23, 24, 25, 26, 27, 28, 29, 30, 31, 32, 33, 34, 35, 36, 37, 38, 39, 40, 41, 42, 43, 44, 45, 46, 47, 48, 49, 50, 51, 52, 53, 54, 55, 56, 57, 58, 59, 60, 61, 62, 63, 64, 65, 66, 67, 68, 69, 70, 71, 72, 73, 74, 75, 76, 77, 78, 79, 80, 81, 82, 83, 84, 85, 86, 87, 88, 89, 90, 91, 92, 93, 94, 95, 96, 97, 98, 99, 100, 101, 102, 103, 104, 105, 106, 107, 108, 109, 110, 111, 112, 113, 114, 115, 116, 117, 118, 119, 120, 121, 122, 123, 124, 125, 126, 127, 128, 129, 130, 131, 132, 133, 134, 135, 136, 137, 138, 139, 140, 141, 142, 143, 144, 145, 146, 147, 148, 149, 150, 151, 152, 153, 154, 155, 156, 157, 158, 159, 160, 161, 162, 163, 164, 165, 166, 167, 168, 169, 170, 171, 172, 173, 174, 175, 176, 177] (by decide +kernel) (by decide +kernel)) (goodIn_sub (fun _ h => List.mem_cons_of_mem _ (List.mem_append_left _ (List.mem_append_right _ h))) (by decide +kernel))) (goodIn_sub (fun _ h => List.mem_cons_of_mem _ (List.mem_append_right _ h)) (by decide +kernel))
set_option maxRecDepth 20000 in
theorem gL_throwAway_X11_throwAway : GoodIn wsL_throwAway (wsV RL 55 RX11 yX11_throwAway wsX11_throwAway) := goodIn_app (goodIn_of _ (by decide +kernel)) ggL_throwAway_X11_throwAway
theorem dL_throwAway_0 : decode cL_throwAway 0 = .ok (.aload_n 2, 1) := by decide +kernel
theorem dL_throwAway_1 : decode cL_throwAway 1 = .ok (.iconst 0, 1) := by decide +kernel
theorem dL_throwAway_2 : decode cL_throwAway 2 = .ok (.aload_n 0, 1) := by decide +kernel
theorem dL_throwAway_3 : decode cL_throwAway 3 = .ok (.iload_n 1, 1) := by decide +kernel
theorem dL_throwAway_4 : decode cL_throwAway 4 = .ok (.invokevirtual 55, 3) := by decide +kernel
theorem dL_throwAway_7 : decode cL_throwAway 7 = .ok (.i2l, 1) := by decide +kernel
theorem dL_throwAway_8 : decode cL_throwAway 8 = .ok (.lastore, 1) := by decide +kernel
theorem dL_throwAway_9 : decode cL_throwAway 9 = .ok (.goto 9, 3) := by decide +kernel
theorem dL_throwAway_12 : decode cL_throwAway 12 = .ok (.astore_n 3, 1) := by decide +kernel
theorem dL_throwAway_13 : decode cL_throwAway 13 = .ok (.iconst 1, 1) := by decide +kernel
theorem dL_throwAway_14 : decode cL_throwAway 14 = .ok (.ireturn, 1) := by decide +kernel
theorem dL_throwAway_15 : decode cL_throwAway 15 = .ok (.astore_n 3, 1) := by decide +kernel
theorem dL_throwAway_16 : decode cL_throwAway 16 = .ok (.iconst 2, 1) := by decide +kernel
theorem dL_throwAway_17 : decode cL_throwAway 17 = .ok (.ireturn, 1) := by decide +kernel
theorem dL_throwAway_18 : decode cL_throwAway 18 = .ok (.iconst 0, 1) := by decide +kernel
theorem dL_throwAway_19 : decode cL_throwAway 19 = .ok (.ireturn, 1) := by decide +kernel
set_option maxRecDepth 20000 in
theorem ggL_setHeat_X11_setHeat : GoodIn wsL_setHeat wsX11_setHeat := goodIn_ca (goodIn_r _ [6, 7, 8, 9, 10, 11, 5, 12, 13, 14, 15, 16, 17, 18, 19, 20, 21, 22, 23, 24, 25, 26, 27, 28, 29, 30, 31, 32, 33, 34, 35, 36, 37, 38, 39, 40, 41, 42, 43, 44, 45, 46, 47, 48, 49, 50, 51, 52, 53, 54, 55, 56, 57, 58, 59, 60, 61, 62, 63, 64, 65, 66, 67, 68, 69, 70, 71, 72, 73, 74, 75, 76, 77, 78, 79, 80, 81, 82, 83, 84, 85, 86, 87, 88, 89, 90, 91, 92, 93, 94, 95, 96, 97, 98, 99, 100, 101, 102, 103, 104, 105, 106, 107, 108, 109, 110, 111, 112, 113, 114, 115, 116, 117, 118, 119, 120, 121, 122, 123, 124, 125, 126, 127, 128, 129, 130, 131, 132, 133, 134, 135, 136, 137, 138, 139, 140, 141, 142, 143, 144, 145, 146, 147, 148, 149, 150, 151, 152, 153, 154, 155, 156, 157, 158, 159, 160, 161] (by decide +kernel) (by decide +kernel)) (goodIn_sub (fun _ h => List.mem_cons_of_mem _ (List.mem_append_right _ h)) (by decide +kernel))
set_option maxRecDepth 20000 in
theorem gL_setHeat_X11_setHeat : GoodIn wsL_setHeat (wsV RL 58 RX11 yX11_setHeat wsX11_setHeat) := goodIn_app (goodIn_of _ (by decide +kernel)) ggL_setHeat_X11_setHeat
theorem dL_setHeat_0 : decode cL_setHeat 0 = .ok (.aload_n 2, 1) := by decide +kernel
theorem dL_setHeat_1 : decode cL_setHeat 1 = .ok (.iconst 0, 1) := by decide +kernel
theorem dL_setHeat_2 : decode cL_setHeat 2 = .ok (.aload_n 0, 1) := by decide +kernel
theorem dL_setHeat_3 : decode cL_setHeat 3 = .ok (.iload_n 1, 1) := by decide +kernel
theorem dL_setHeat_4 : decode cL_setHeat 4 = .ok (.invokevirtual 58, 3) := by decide +kernel
theorem dL_setHeat_7 : decode cL_setHeat 7 = .ok (.i2l, 1) := by decide +kernel
theorem dL_setHeat_8 : decode cL_setHeat 8 = .ok (.lastore, 1) := by decide +kernel
theorem dL_setHeat_9 : decode cL_setHeat 9 = .ok (.goto 6, 3) := by decide +kernel
theorem dL_setHeat_12 : decode cL_setHeat 12 = .ok (.astore_n 3, 1) := by decide +kernel
theorem dL_setHeat_13 : decode cL_setHeat 13 = .ok (.iconst 1, 1) := by decide +kernel
theorem dL_setHeat_14 : decode cL_setHeat 14 = .ok (.ireturn, 1) := by decide +kernel
theorem dL_setHeat_15 : decode cL_setHeat 15 = .ok (.iconst 0, 1) := by decide +kernel
theorem dL_setHeat_16 : decode cL_setHeat 16 = .ok (.ireturn, 1) := by decide +kernel
set_option maxRecDepth 20000 in
theorem ggL_setDecks_X11_setDecks : GoodIn wsL_setDecks wsX11_setDecks := goodIn_ca (goodIn_r _ [6, 7, 8, 9, 10, 5, 11, 12, 13, 14, 15, 16, 17, 18, 19, 20, 21, 22, 23, 24, 25, 26, 27, 28, 29, 30, 31, 32, 33, 34, 35, 36, 37, 38, 39, 40, 41, 42, 43, 44, 45, 46, 47, 48, 49, 50, 51, 52, 53, 54, 55, 56, 57, 58, 59, 60, 61, 62, 63, 64, 65, 66, 67, 68, 69, 70, 71, 72, 73, 74, 75, 76, 77, 78, 79, 80, 81, 82, 83, 84, 85, 86, 87, 88, 89, 90, 91, 92, 93, 94, 95, 96, 97, 98, 99, 100, 101, 102, 103, 104, 105, 106, 107, 108, 109, 110, 111, 112, 113, 114, 115, 116, 117, 118, 119, 120, 121, 122, 123, 124, 125, 126, 127, 128, 129, 130, 131, 132, 133, 134, 135, 136, 137, 138, 139, 140, 141, 142, 143, 144, 145, 146, 147, 148, 149, 150, 151, 152, 153, 154, 155, 156, 157, 158, 159, 160] (by decide +kernel) (by decide +kernel)) (goodIn_sub (fun _ h => List.mem_cons_of_mem _ (List.mem_append_right _ h)) (by decide +kernel))
set_option maxRecDepth 20000 in
theorem gL_setDecks_X11_setDecks : GoodIn wsL_setDecks (wsV RL 61 RX11 yX11_setDecks wsX11_setDecks) := goodIn_app (goodIn_of _ (by decide +kernel)) ggL_setDecks_X11_setDecks
theorem dL_setDecks_0 : decode cL_setDecks 0 = .ok (.aload_n 2, 1) := by decide +kernel
theorem dL_setDecks_1 : decode cL_setDecks 1 = .ok (.iconst 0, 1) := by decide +kernel
theorem dL_setDecks_2 : decode cL_setDecks 2 = .ok (.aload_n 0, 1) := by decide +kernel
theorem dL_setDecks_3 : decode cL_setDecks 3 = .ok (.iload_n 1, 1) := by decide +kernel
theorem dL_setDecks_4 : decode cL_setDecks 4 = .ok (.invokevirtual 61, 3) := by decide +kernel
theorem dL_setDecks_7 : decode cL_setDecks 7 = .ok (.i2l, 1) := by decide +kernel
theorem dL_setDecks_8 : decode cL_setDecks 8 = .ok (.lastore, 1) := by decide +kernel
theorem dL_setDecks_9 : decode cL_setDecks 9 = .ok (.goto 6, 3) := by decide +kernel
theorem dL_setDecks_12 : decode cL_setDecks 12 = .ok (.astore_n 3, 1) := by decide +kernel
theorem dL_setDecks_13 : decode cL_setDecks 13 = .ok (.iconst 1, 1) := by decide +kernel
theorem dL_setDecks_14 : decode cL_setDecks 14 = .ok (.ireturn, 1) := by decide +kernel
theorem dL_setDecks_15 : decode cL_setDecks 15 = .ok (.iconst 0, 1) := by decide +kernel
theorem dL_setDecks_16 : decode cL_setDecks 16 = .ok (.ireturn, 1) := by decide +kernel
set_option maxRecDepth 20000 in
theorem ggL_bake_X11_bake : GoodIn wsL_bake wsX11_bake := goodIn_ca (goodIn_ca (goodIn_r _ [7, 8, 9, 10, 11, 12, 13, 14, 15, 16, 6, 17, 18, 19, 20, 21, 22, 23, 24, 25, 26, 27, 28, 29, 30, 31, 32, 33, 34, 35, 36, 37, 38, 39, 40, 41, 42, 43, 44, 45, 46, 47, 48, 49, 50, 51, 52, 53, 54, 55, 56, 57, 58, 59, 60, 61, 62, 63, 64, 65, 66, 67, 68, 69, 70, 71, 72, 73, 74, 75, 76, 77, 78, 79, 80, 81, 82, 83, 84, 85, 86, 87, 88, 89, 90, 91, 92, 93, 94, 95, 96, 97, 98, 99, 100, 101, 102, 103, 104, 105, 106, 107, 108, 109, 110, 111, 112, 113, 114, 115, 116, 117, 118, 119, 120, 121, 122, 123, 124, 125, 126, 127, 128, 129, 130, 131, 132, 133, 134, 135, 136, 137, 138, 139, 140, 141, 142, 143, 144, 145, 146, 147, 148, 149, 150, 151, 152, 153, 154, 155, 156, 157, 158, 159, 160, 161, 162, 163, 164, 165, 166, 167, 168, 169, 170, 171, 172, 173, 174, 175, 176, 177, 178, 179, 180, 181, 182, 183, 184, 185, 186, 187, 188, 189, 190, 191, 192, 193, 194, 195, 196, 197, 198, 199, 200, 201, 202] (by decide +kernel) (by decide +kernel)) (goodIn_sub (fun _ h => List.mem_cons_of_mem _ (List.mem_append_left _ (List.mem_append_right _ h))) (by decide +kernel))) (goodIn_sub (fun _ h => List.mem_cons_of_mem _ (List.mem_append_right _ h)) (by decide +kernel))
set_option maxRecDepth 20000 in
theorem gL_bake_X11_bake : GoodIn wsL_bake (wsV RL 64 RX11 yX11_bake wsX11_bake) := goodIn_app (goodIn_of _ (by decide +kernel)) ggL_bake_X11_bake
theorem dL_bake_0 : decode cL_bake 0 = .ok (.aload_n 2, 1) := by decide +kernel
theorem dL_bake_1 : decode cL_bake 1 = .ok (.iconst 0, 1) := by decide +kernel
theorem dL_bake_2 : decode cL_bake 2 = .ok (.aload_n 0, 1) := by decide +kernel
theorem dL_bake_3 : decode cL_bake 3 = .ok (.iload_n 1, 1) := by decide +kernel
theorem dL_bake_4 : decode cL_bake 4 = .ok (.invokevirtual 64, 3) := by decide +kernel
theorem dL_bake_7 : decode cL_bake 7 = .ok (.i2l, 1) := by decide +kernel
theorem dL_bake_8 : decode cL_bake 8 = .ok (.lastore, 1) := by decide +kernel
theorem dL_bake_9 : decode cL_bake 9 = .ok (.goto 9, 3) := by decide +kernel
theorem dL_bake_12 : decode cL_bake 12 = .ok (.astore_n 3, 1) := by decide +kernel
theorem dL_bake_13 : decode cL_bake 13 = .ok (.iconst 1, 1) := by decide +kernel
theorem dL_bake_14 : decode cL_bake 14 = .ok (.ireturn, 1) := by decide +kernel
theorem dL_bake_15 : decode cL_bake 15 = .ok (.astore_n 3, 1) := by decide +kernel
theorem dL_bake_16 : decode cL_bake 16 = .ok (.iconst 2, 1) := by decide +kernel
theorem dL_bake_17 : decode cL_bake 17 = .ok (.ireturn, 1) := by decide +kernel
theorem dL_bake_18 : decode cL_bake 18 = .ok (.iconst 0, 1) := by decide +kernel
theorem dL_bake_19 : decode cL_bake 19 = .ok (.ireturn, 1) := by decide +kernel
set_option maxRecDepth 20000 in
theorem ggL_planned_X11_planned : GoodIn wsL_planned wsX11_planned := goodIn_ca (goodIn_r _ [6, 7, 8, 9, 10, 11, 5, 12, 13, 14, 15, 16, 17, 18, 19, 20, 21, 22, 23, 24, 25, 26, 27, 28, 29, 30, 31, 32, 33, 34, 35, 36, 37, 38, 39, 40, 41, 42, 43, 44, 45, 46, 47, 48, 49, 50, 51, 52, 53, 54, 55, 56, 57, 58, 59, 60, 61, 62, 63, 64, 65, 66, 67, 68, 69, 70, 71, 72, 73, 74, 75, 76, 77, 78, 79, 80, 81, 82, 83, 84, 85, 86, 87, 88, 89, 90, 91, 92, 93, 94, 95, 96, 97, 98, 99, 100, 101, 102, 103, 104, 105, 106, 107, 108, 109, 110, 111, 112, 113, 114, 115, 116, 117, 118] (by decide +kernel) (by decide +kernel)) (goodIn_sub (fun _ h => List.mem_cons_of_mem _ (List.mem_append_right _ h)) (by decide +kernel))
set_option maxRecDepth 20000 in
theorem gL_planned_X11_planned : GoodIn wsL_planned (wsV RL 67 RX11 yX11_planned wsX11_planned) := goodIn_app (goodIn_of _ (by decide +kernel)) ggL_planned_X11_planned
theorem dL_planned_0 : decode cL_planned 0 = .ok (.aload_n 2, 1) := by decide +kernel
theorem dL_planned_1 : decode cL_planned 1 = .ok (.iconst 0, 1) := by decide +kernel
theorem dL_planned_2 : decode cL_planned 2 = .ok (.aload_n 0, 1) := by decide +kernel
theorem dL_planned_3 : decode cL_planned 3 = .ok (.iload_n 1, 1) := by decide +kernel
theorem dL_planned_4 : decode cL_planned 4 = .ok (.invokevirtual 67, 3) := by decide +kernel
theorem dL_planned_7 : decode cL_planned 7 = .ok (.i2l, 1) := by decide +kernel
theorem dL_planned_8 : decode cL_planned 8 = .ok (.lastore, 1) := by decide +kernel
theorem dL_planned_9 : decode cL_planned 9 = .ok (.goto 6, 3) := by decide +kernel
theorem dL_planned_12 : decode cL_planned 12 = .ok (.astore_n 3, 1) := by decide +kernel
theorem dL_planned_13 : decode cL_planned 13 = .ok (.iconst 1, 1) := by decide +kernel
theorem dL_planned_14 : decode cL_planned 14 = .ok (.ireturn, 1) := by decide +kernel
theorem dL_planned_15 : decode cL_planned 15 = .ok (.iconst 0, 1) := by decide +kernel
theorem dL_planned_16 : decode cL_planned 16 = .ok (.ireturn, 1) := by decide +kernel
set_option maxRecDepth 20000 in
theorem ggL_breads_X11_breads : GoodIn wsL_breads wsX11_breads := goodIn_ca (goodIn_ca (goodIn_r _ [7, 8, 9, 10, 11, 12, 6, 13, 14, 15, 16, 17, 18, 19, 20, 21, 22, 23, 24, 25, 26, 27, 28, 29, 30, 31, 32, 33, 34, 35, 36, 37, 38, 39, 40, 41, 42, 43, 44, 45, 46, 47, 48, 49, 50, 51] (by decide +kernel) (by decide +kernel)) (goodIn_sub (fun _ h => List.mem_cons_of_mem _ (List.mem_append_left _ (List.mem_append_right _ h))) (by decide +kernel))) (goodIn_sub (fun _ h => List.mem_cons_of_mem _ (List.mem_append_right _ h)) (by decide +kernel))
set_option maxRecDepth 20000 in
theorem gL_breads_X11_breads : GoodIn wsL_breads (wsV RL 70 RX11 yX11_breads wsX11_breads) := goodIn_app (goodIn_of _ (by decide +kernel)) ggL_breads_X11_breads
theorem dL_breads_0 : decode cL_breads 0 = .ok (.aload_n 3, 1) := by decide +kernel
theorem dL_breads_1 : decode cL_breads 1 = .ok (.iconst 0, 1) := by decide +kernel
theorem dL_breads_2 : decode cL_breads 2 = .ok (.aload_n 0, 1) := by decide +kernel
theorem dL_breads_3 : decode cL_breads 3 = .ok (.iload_n 1, 1) := by decide +kernel
theorem dL_breads_4 : decode cL_breads 4 = .ok (.iload_n 2, 1) := by decide +kernel
theorem dL_breads_5 : decode cL_breads 5 = .ok (.invokevirtual 70, 3) := by decide +kernel
theorem dL_breads_8 : decode cL_breads 8 = .ok (.i2l, 1) := by decide +kernel
theorem dL_breads_9 : decode cL_breads 9 = .ok (.lastore, 1) := by decide +kernel
theorem dL_breads_10 : decode cL_breads 10 = .ok (.goto 11, 3) := by decide +kernel
theorem dL_breads_13 : decode cL_breads 13 = .ok (.astore 4, 2) := by decide +kernel
theorem dL_breads_15 : decode cL_breads 15 = .ok (.iconst 1, 1) := by decide +kernel
theorem dL_breads_16 : decode cL_breads 16 = .ok (.ireturn, 1) := by decide +kernel
theorem dL_breads_17 : decode cL_breads 17 = .ok (.astore 4, 2) := by decide +kernel
theorem dL_breads_19 : decode cL_breads 19 = .ok (.iconst 2, 1) := by decide +kernel
theorem dL_breads_20 : decode cL_breads 20 = .ok (.ireturn, 1) := by decide +kernel
theorem dL_breads_21 : decode cL_breads 21 = .ok (.iconst 0, 1) := by decide +kernel
theorem dL_breads_22 : decode cL_breads 22 = .ok (.ireturn, 1) := by decide +kernel
set_option maxRecDepth 20000 in
theorem ggL_sell_X11_sell : GoodIn wsL_sell wsX11_sell := goodIn_ca (goodIn_ca (goodIn_ca (goodIn_r _ [8, 9, 10, 11, 12, 13, 14, 15, 16, 7, 17, 18, 19, 20, 21, 22, 23, 24, 25, 26, 27, 28, 29, 30, 31, 32, 33, 34, 35, 36, 37, 38, 39, 40, 41, 42, 43, 44, 45, 46, 47, 48, 49, 50, 51, 52, 53, 54, 55, 56, 57, 58, 59, 60, 61, 62, 63, 64, 65, 66, 67, 68, 69, 70, 71, 72, 73, 74, 75, 76, 77, 78, 79, 80, 81, 82, 83, 84, 85, 86, 87, 88, 89, 90, 91, 92, 93, 94, 95, 96, 97, 98, 99, 100, 101, 102, 103, 104, 105, 106, 107, 108, 109, 110, 111, 112, 113, 114, 115, 116, 117, 118, 119, 120, 121, 122, 123, 124, 125, 126, 127, 128, 129, 130, 131, 132, 133, 134, 135, 136, 137, 138, 139, 140, 141, 142, 143, 144, 145, 146, 147, 148, 149, 150, 151, 152, 153, 154, 155, 156, 157, 158, 159, 160, 161, 162, 163, 164, 165, 166, 167, 168, 169, 170, 171, 172, 173, 174, 175, 176, 177, 178, 179, 180, 181, 182, 183, 184, 185, 186, 187, 188, 189, 190] (by decide +kernel) (by decide +kernel)) (goodIn_sub (fun _ h => List.mem_cons_of_mem _ (List.mem_append_left _ (List.mem_append_left _ (List.mem_append_right _ h)))) (by decide +kernel))) (goodIn_sub (fun _ h => List.mem_cons_of_mem _ (List.mem_append_left _ (List.mem_append_right _ h))) (by decide +kernel))) (goodIn_sub (fun _ h => List.mem_cons_of_mem _ (List.mem_append_right _ h)) (by decide +kernel))
set_option maxRecDepth 20000 in
theorem gL_sell_X11_sell : GoodIn wsL_sell (wsV RL 73 RX11 yX11_sell wsX11_sell) := goodIn_app (goodIn_of _ (by decide +kernel)) ggL_sell_X11_sell
theorem dL_sell_0 : decode cL_sell 0 = .ok (.aload_n 3, 1) := by decide +kernel
theorem dL_sell_1 : decode cL_sell 1 = .ok (.iconst 0, 1) := by decide +kernel
theorem dL_sell_2 : decode cL_sell 2 = .ok (.aload_n 0, 1) := by decide +kernel
theorem dL_sell_3 : decode cL_sell 3 = .ok (.iload_n 1, 1) := by decide +kernel
theorem dL_sell_4 : decode cL_sell 4 = .ok (.iload_n 2, 1) := by decide +kernel
theorem dL_sell_5 : decode cL_sell 5 = .ok (.invokevirtual 73, 3) := by decide +kernel
theorem dL_sell_8 : decode cL_sell 8 = .ok (.i2l, 1) := by decide +kernel
theorem dL_sell_9 : decode cL_sell 9 = .ok (.lastore, 1) := by decide +kernel
theorem dL_sell_10 : decode cL_sell 10 = .ok (.goto 15, 3) := by decide +kernel
theorem dL_sell_13 : decode cL_sell 13 = .ok (.astore 4, 2) := by decide +kernel
theorem dL_sell_15 : decode cL_sell 15 = .ok (.iconst 1, 1) := by decide +kernel
theorem dL_sell_16 : decode cL_sell 16 = .ok (.ireturn, 1) := by decide +kernel
theorem dL_sell_17 : decode cL_sell 17 = .ok (.astore 4, 2) := by decide +kernel
theorem dL_sell_19 : decode cL_sell 19 = .ok (.iconst 2, 1) := by decide +kernel
theorem dL_sell_20 : decode cL_sell 20 = .ok (.ireturn, 1) := by decide +kernel
theorem dL_sell_21 : decode cL_sell 21 = .ok (.astore 4, 2) := by decide +kernel
theorem dL_sell_23 : decode cL_sell 23 = .ok (.iconst 3, 1) := by decide +kernel
theorem dL_sell_24 : decode cL_sell 24 = .ok (.ireturn, 1) := by decide +kernel
theorem dL_sell_25 : decode cL_sell 25 = .ok (.iconst 0, 1) := by decide +kernel
theorem dL_sell_26 : decode cL_sell 26 = .ok (.ireturn, 1) := by decide +kernel
set_option maxRecDepth 20000 in
theorem ggL_crumble_X11_crumble : GoodIn wsL_crumble wsX11_crumble := goodIn_ca (goodIn_r _ [6, 7, 8, 9, 10, 11, 12, 13, 14, 15, 5, 16, 17, 18, 19, 20, 21, 22, 23, 24, 25, 26, 27, 28, 29, 30, 31, 32, 33, 34, 35, 36, 37, 38, 39, 40, 41, 42, 43, 44, 45, 46, 47, 48, 49, 50, 51, 52, 53, 54, 55, 56, 57, 58, 59, 60, 61, 62, 63, 64, 65, 66, 67, 68, 69, 70, 71, 72, 73, 74, 75, 76, 77, 78, 79, 80, 81, 82, 83, 84, 85, 86, 87, 88, 89, 90, 91, 92, 93, 94, 95, 96, 97, 98, 99, 100, 101, 102, 103, 104, 105, 106, 107, 108, 109, 110, 111, 112, 113, 114, 115, 116, 117, 118, 119, 120, 121, 122, 123, 124, 125, 126, 127, 128, 129, 130, 131, 132, 133, 134, 135, 136, 137, 138, 139, 140, 141, 142, 143, 144, 145, 146, 147, 148, 149, 150, 151, 152, 153, 154, 155, 156, 157, 158, 159, 160, 161, 162, 163, 164, 165, 166, 167, 168, 169, 170, 171] (by decide +kernel) (by decide +kernel)) (goodIn_sub (fun _ h => List.mem_cons_of_mem _ (List.mem_append_right _ h)) (by decide +kernel))
set_option maxRecDepth 20000 in
theorem gL_crumble_X11_crumble : GoodIn wsL_crumble (wsV RL 76 RX11 yX11_crumble wsX11_crumble) := goodIn_app (goodIn_of _ (by decide +kernel)) ggL_crumble_X11_crumble
theorem dL_crumble_0 : decode cL_crumble 0 = .ok (.aload_n 2, 1) := by decide +kernel
theorem dL_crumble_1 : decode cL_crumble 1 = .ok (.iconst 0, 1) := by decide +kernel
theorem dL_crumble_2 : decode cL_crumble 2 = .ok (.aload_n 0, 1) := by decide +kernel
theorem dL_crumble_3 : decode cL_crumble 3 = .ok (.iload_n 1, 1) := by decide +kernel
theorem dL_crumble_4 : decode cL_crumble 4 = .ok (.invokevirtual 76, 3) := by decide +kernel
theorem dL_crumble_7 : decode cL_crumble 7 = .ok (.i2l, 1) := by decide +kernel
theorem dL_crumble_8 : decode cL_crumble 8 = .ok (.lastore, 1) := by decide +kernel
theorem dL_crumble_9 : decode cL_crumble 9 = .ok (.goto 6, 3) := by decide +kernel
theorem dL_crumble_12 : decode cL_crumble 12 = .ok (.astore_n 3, 1) := by decide +kernel
theorem dL_crumble_13 : decode cL_crumble 13 = .ok (.iconst 1, 1) := by decide +kernel
theorem dL_crumble_14 : decode cL_crumble 14 = .ok (.ireturn, 1) := by decide +kernel
theorem dL_crumble_15 : decode cL_crumble 15 = .ok (.iconst 0, 1) := by decide +kernel
theorem dL_crumble_16 : decode cL_crumble 16 = .ok (.ireturn, 1) := by decide +kernel
set_option maxRecDepth 20000 in
theorem ggL_setFlour_X11_setFlour : GoodIn wsL_setFlour wsX11_setFlour := goodIn_ca (goodIn_ca (goodIn_r _ [7, 8, 9, 10, 11, 12, 13, 6, 14, 15, 16, 17, 18, 19, 20, 21, 22, 23, 24, 25, 26, 27, 28, 29, 30, 31, 32, 33, 34, 35, 36, 37, 38, 39, 40, 41, 42, 43, 44, 45, 46, 47, 48, 49, 50, 51, 52, 53, 54, 55, 56, 57, 58, 59, 60, 61, 62, 63, 64, 65, 66, 67, 68, 69, 70, 71, 72, 73, 74, 75, 76, 77, 78, 79, 80, 81, 82, 83, 84, 85, 86, 87, 88, 89, 90, 91, 92, 93, 94, 95, 96, 97, 98, 99, 100, 101, 102, 103, 104, 105, 106, 107, 108, 109, 110, 111, 112, 113, 114, 115, 116, 117, 118, 119, 120, 121, 122, 123, 124, 125, 126, 127, 128, 129, 130, 131, 132, 133, 134, 135, 136, 137, 138, 139, 140, 141, 142, 143, 144, 145, 146, 147, 148, 149, 150, 151, 152, 153, 154, 155, 156, 157, 158, 159, 160, 161, 162, 163, 164, 165, 166, 167, 168] (by decide +kernel) (by decide +kernel)) (goodIn_sub (fun _ h => List.mem_cons_of_mem _ (List.mem_append_left _ (List.mem_append_right _ h))) (by decide +kernel))) (goodIn_sub (fun _ h => List.mem_cons_of_mem _ (List.mem_append_right _ h)) (by decide +kernel))
set_option maxRecDepth 20000 in
theorem gL_setFlour_X11_setFlour : GoodIn wsL_setFlour (wsV RL 79 RX11 yX11_setFlour wsX11_setFlour) := goodIn_app (goodIn_of _ (by decide +kernel)) ggL_setFlour_X11_setFlour
theorem dL_setFlour_0 : decode cL_setFlour 0 = .ok (.aload 5, 2) := by decide +kernel
theorem dL_setFlour_2 : decode cL_setFlour 2 = .ok (.iconst 0, 1) := by decide +kernel
theorem dL_setFlour_3 : decode cL_setFlour 3 = .ok (.aload_n 0, 1) := by decide +kernel
theorem dL_setFlour_4 : decode cL_setFlour 4 = .ok (.iload_n 1, 1) := by decide +kernel
theorem dL_setFlour_5 : decode cL_setFlour 5 = .ok (.iload_n 2, 1) := by decide +kernel
theorem dL_setFlour_6 : decode cL_setFlour 6 = .ok (.iload_n 3, 1) := by decide +kernel
theorem dL_setFlour_7 : decode cL_setFlour 7 = .ok (.iload 4, 2) := by decide +kernel
theorem dL_setFlour_9 : decode cL_setFlour 9 = .ok (.invokevirtual 79, 3) := by decide +kernel
theorem dL_setFlour_12 : decode cL_setFlour 12 = .ok (.i2l, 1) := by decide +kernel
theorem dL_setFlour_13 : decode cL_setFlour 13 = .ok (.lastore, 1) := by decide +kernel
theorem dL_setFlour_14 : decode cL_setFlour 14 = .ok (.goto 11, 3) := by decide +kernel
theorem dL_setFlour_17 : decode cL_setFlour 17 = .ok (.astore 6, 2) := by decide +kernel
theorem dL_setFlour_19 : decode cL_setFlour 19 = .ok (.iconst 1, 1) := by decide +kernel
theorem dL_setFlour_20 : decode cL_setFlour 20 = .ok (.ireturn, 1) := by decide +kernel
theorem dL_setFlour_21 : decode cL_setFlour 21 = .ok (.astore 6, 2) := by decide +kernel
theorem dL_setFlour_23 : decode cL_setFlour 23 = .ok (.iconst 2, 1) := by decide +kernel
theorem dL_setFlour_24 : decode cL_setFlour 24 = .ok (.ireturn, 1) := by decide +kernel
theorem dL_setFlour_25 : decode cL_setFlour 25 = .ok (.iconst 0, 1) := by decide +kernel
theorem dL_setFlour_26 : decode cL_setFlour 26 = .ok (.ireturn, 1) := by decide +kernel
set_option maxRecDepth 20000 in
theorem ggL_mixCost_X11_mixCost : GoodIn wsL_mixCost wsX11_mixCost := goodIn_ca (goodIn_ca (goodIn_r _ [7, 8, 9, 10, 11, 12, 6, 13, 14, 15, 16, 17, 18, 19, 20, 21, 22, 23, 24, 25, 26, 27, 28, 29, 30, 31, 32, 33, 34, 35, 36, 37, 38, 39, 40, 41, 42, 43, 44, 45, 46, 47, 48, 49, 50, 51, 52, 53, 54, 55, 56, 57, 58, 59, 60, 61, 62, 63, 64, 65, 66, 67, 68, 69, 70, 71, 72, 73, 74, 75, 76, 77, 78, 79, 80, 81, 82, 83, 84, 85, 86, 87, 88, 89, 90, 91, 92, 93, 94, 95, 96, 97, 98, 99, 100, 101, 102, 103] (by decide +kernel) (by decide +kernel)) (goodIn_sub (fun _ h => List.mem_cons_of_mem _ (List.mem_append_left _ (List.mem_append_right _ h))) (by decide +kernel))) (goodIn_sub (fun _ h => List.mem_cons_of_mem _ (List.mem_append_right _ h)) (by decide +kernel))
set_option maxRecDepth 20000 in
theorem gL_mixCost_X11_mixCost : GoodIn wsL_mixCost (wsV RL 83 RX11 yX11_mixCost wsX11_mixCost) := goodIn_app (goodIn_of _ (by decide +kernel)) ggL_mixCost_X11_mixCost
theorem dL_mixCost_0 : decode cL_mixCost 0 = .ok (.aload 4, 2) := by decide +kernel
theorem dL_mixCost_2 : decode cL_mixCost 2 = .ok (.iconst 0, 1) := by decide +kernel
theorem dL_mixCost_3 : decode cL_mixCost 3 = .ok (.aload_n 0, 1) := by decide +kernel
theorem dL_mixCost_4 : decode cL_mixCost 4 = .ok (.iload_n 1, 1) := by decide +kernel
theorem dL_mixCost_5 : decode cL_mixCost 5 = .ok (.iload_n 2, 1) := by decide +kernel
theorem dL_mixCost_6 : decode cL_mixCost 6 = .ok (.iload_n 3, 1) := by decide +kernel
theorem dL_mixCost_7 : decode cL_mixCost 7 = .ok (.invokevirtual 83, 3) := by decide +kernel
theorem dL_mixCost_10 : decode cL_mixCost 10 = .ok (.i2l, 1) := by decide +kernel
theorem dL_mixCost_11 : decode cL_mixCost 11 = .ok (.lastore, 1) := by decide +kernel
theorem dL_mixCost_12 : decode cL_mixCost 12 = .ok (.goto 11, 3) := by decide +kernel
theorem dL_mixCost_15 : decode cL_mixCost 15 = .ok (.astore 5, 2) := by decide +kernel
theorem dL_mixCost_17 : decode cL_mixCost 17 = .ok (.iconst 1, 1) := by decide +kernel
theorem dL_mixCost_18 : decode cL_mixCost 18 = .ok (.ireturn, 1) := by decide +kernel
theorem dL_mixCost_19 : decode cL_mixCost 19 = .ok (.astore 5, 2) := by decide +kernel
theorem dL_mixCost_21 : decode cL_mixCost 21 = .ok (.iconst 2, 1) := by decide +kernel
theorem dL_mixCost_22 : decode cL_mixCost 22 = .ok (.ireturn, 1) := by decide +kernel
theorem dL_mixCost_23 : decode cL_mixCost 23 = .ok (.iconst 0, 1) := by decide +kernel
theorem dL_mixCost_24 : decode cL_mixCost 24 = .ok (.ireturn, 1) := by decide +kernel
set_option maxRecDepth 20000 in
theorem ggL_mixShare_X11_mixShare : GoodIn wsL_mixShare wsX11_mixShare := goodIn_ca (goodIn_ca (goodIn_ca (goodIn_r _ [8, 9, 10, 11, 12, 13, 7, 14, 15, 16, 17, 18, 19, 20, 21, 22, 23, 24, 25, 26, 27, 28, 29, 30, 31, 32, 33, 34, 35, 36, 37, 38, 39, 40, 41, 42, 43, 44, 45, 46, 47, 48, 49, 50, 51, 52, 53, 54, 55, 56, 57, 58, 59, 60, 61, 62, 63, 64, 65, 66, 67, 68, 69, 70, 71, 72, 73, 74, 75, 76, 77, 78, 79, 80, 81, 82, 83, 84, 85, 86, 87, 88, 89, 90, 91, 92, 93, 94, 95, 96, 97, 98, 99, 100, 101, 102, 103, 104, 105, 106, 107, 108] (by decide +kernel) (by decide +kernel)) (goodIn_sub (fun _ h => List.mem_cons_of_mem _ (List.mem_append_left _ (List.mem_append_left _ (List.mem_append_right _ h)))) (by decide +kernel))) (goodIn_sub (fun _ h => List.mem_cons_of_mem _ (List.mem_append_left _ (List.mem_append_right _ h))) (by decide +kernel))) (goodIn_sub (fun _ h => List.mem_cons_of_mem _ (List.mem_append_right _ h)) (by decide +kernel))
set_option maxRecDepth 20000 in
theorem gL_mixShare_X11_mixShare : GoodIn wsL_mixShare (wsV RL 89 RX11 yX11_mixShare wsX11_mixShare) := goodIn_app (goodIn_of _ (by decide +kernel)) ggL_mixShare_X11_mixShare
theorem dL_mixShare_0 : decode cL_mixShare 0 = .ok (.aload 5, 2) := by decide +kernel
theorem dL_mixShare_2 : decode cL_mixShare 2 = .ok (.iconst 0, 1) := by decide +kernel
theorem dL_mixShare_3 : decode cL_mixShare 3 = .ok (.aload_n 0, 1) := by decide +kernel
theorem dL_mixShare_4 : decode cL_mixShare 4 = .ok (.iload_n 1, 1) := by decide +kernel
theorem dL_mixShare_5 : decode cL_mixShare 5 = .ok (.iload_n 2, 1) := by decide +kernel
theorem dL_mixShare_6 : decode cL_mixShare 6 = .ok (.iload_n 3, 1) := by decide +kernel
theorem dL_mixShare_7 : decode cL_mixShare 7 = .ok (.iload 4, 2) := by decide +kernel
theorem dL_mixShare_9 : decode cL_mixShare 9 = .ok (.invokevirtual 89, 3) := by decide +kernel
theorem dL_mixShare_12 : decode cL_mixShare 12 = .ok (.i2l, 1) := by decide +kernel
theorem dL_mixShare_13 : decode cL_mixShare 13 = .ok (.lastore, 1) := by decide +kernel
theorem dL_mixShare_14 : decode cL_mixShare 14 = .ok (.goto 15, 3) := by decide +kernel
theorem dL_mixShare_17 : decode cL_mixShare 17 = .ok (.astore 6, 2) := by decide +kernel
theorem dL_mixShare_19 : decode cL_mixShare 19 = .ok (.iconst 1, 1) := by decide +kernel
theorem dL_mixShare_20 : decode cL_mixShare 20 = .ok (.ireturn, 1) := by decide +kernel
theorem dL_mixShare_21 : decode cL_mixShare 21 = .ok (.astore 6, 2) := by decide +kernel
theorem dL_mixShare_23 : decode cL_mixShare 23 = .ok (.iconst 2, 1) := by decide +kernel
theorem dL_mixShare_24 : decode cL_mixShare 24 = .ok (.ireturn, 1) := by decide +kernel
theorem dL_mixShare_25 : decode cL_mixShare 25 = .ok (.astore 6, 2) := by decide +kernel
theorem dL_mixShare_27 : decode cL_mixShare 27 = .ok (.iconst 3, 1) := by decide +kernel
theorem dL_mixShare_28 : decode cL_mixShare 28 = .ok (.ireturn, 1) := by decide +kernel
theorem dL_mixShare_29 : decode cL_mixShare 29 = .ok (.iconst 0, 1) := by decide +kernel
theorem dL_mixShare_30 : decode cL_mixShare 30 = .ok (.ireturn, 1) := by decide +kernel
set_option maxRecDepth 20000 in
theorem ggL_note_X11_note : GoodIn wsL_note wsX11_note := goodIn_ca (goodIn_ca (goodIn_ca (goodIn_r _ [8, 9, 10, 11, 12, 13, 14, 7, 15, 16, 17, 18, 19, 20, 21, 22, 23, 24, 25, 26, 27, 28, 29, 30, 31, 32, 33, 34, 35, 36, 37, 38, 39, 40, 41, 42, 43, 44, 45, 46, 47, 48, 49, 50, 51, 52, 53, 54, 55, 56, 57, 58, 59, 60, 61, 62, 63, 64, 65, 66, 67, 68, 69, 70, 71, 72, 73, 74, 75, 76, 77, 78, 79, 80, 81, 82, 83, 84, 85, 86, 87, 88, 89, 90, 91, 92, 93, 94, 95, 96, 97, 98, 99, 100, 101, 102, 103, 104, 105, 106, 107, 108, 109, 110, 111, 112, 113, 114, 115, 116, 117, 118, 119, 120, 121, 122, 123, 124, 125, 126, 127, 128, 129, 130, 131, 132, 133, 134, 135, 136, 137, 138, 139, 140, 141, 142, 143, 144, 145, 146, 147, 148, 149, 150, 151, 152, 153, 154, 155, 156, 157, 158, 159, 160, 161, 162, 163, 164, 165, 166, 167, 168, 169, 170, 171, 172, 173, 174, 175, 176, 177, 178] (by decide +kernel) (by decide +kernel)) (goodIn_sub (fun _ h => List.mem_cons_of_mem _ (List.mem_append_left _ (List.mem_append_left _ (List.mem_append_right _ h)))) (by decide +kernel))) (goodIn_sub (fun _ h => List.mem_cons_of_mem _ (List.mem_append_left _ (List.mem_append_right _ h))) (by decide +kernel))) (goodIn_sub (fun _ h => List.mem_cons_of_mem _ (List.mem_append_right _ h)) (by decide +kernel))
set_option maxRecDepth 20000 in
theorem gL_note_X11_note : GoodIn wsL_note (wsV RL 93 RX11 yX11_note wsX11_note) := goodIn_app (goodIn_of _ (by decide +kernel)) ggL_note_X11_note
theorem dL_note_0 : decode cL_note 0 = .ok (.aload_n 3, 1) := by decide +kernel
theorem dL_note_1 : decode cL_note 1 = .ok (.iconst 0, 1) := by decide +kernel
theorem dL_note_2 : decode cL_note 2 = .ok (.aload_n 0, 1) := by decide +kernel
theorem dL_note_3 : decode cL_note 3 = .ok (.iload_n 1, 1) := by decide +kernel
theorem dL_note_4 : decode cL_note 4 = .ok (.iload_n 2, 1) := by decide +kernel
theorem dL_note_5 : decode cL_note 5 = .ok (.invokevirtual 93, 3) := by decide +kernel
theorem dL_note_8 : decode cL_note 8 = .ok (.i2l, 1) := by decide +kernel
theorem dL_note_9 : decode cL_note 9 = .ok (.lastore, 1) := by decide +kernel
theorem dL_note_10 : decode cL_note 10 = .ok (.goto 15, 3) := by decide +kernel
theorem dL_note_13 : decode cL_note 13 = .ok (.astore 4, 2) := by decide +kernel
theorem dL_note_15 : decode cL_note 15 = .ok (.iconst 1, 1) := by decide +kernel
theorem dL_note_16 : decode cL_note 16 = .ok (.ireturn, 1) := by decide +kernel
theorem dL_note_17 : decode cL_note 17 = .ok (.astore 4, 2) := by decide +kernel
theorem dL_note_19 : decode cL_note 19 = .ok (.iconst 2, 1) := by decide +kernel
theorem dL_note_20 : decode cL_note 20 = .ok (.ireturn, 1) := by decide +kernel
theorem dL_note_21 : decode cL_note 21 = .ok (.astore 4, 2) := by decide +kernel
theorem dL_note_23 : decode cL_note 23 = .ok (.iconst 3, 1) := by decide +kernel
theorem dL_note_24 : decode cL_note 24 = .ok (.ireturn, 1) := by decide +kernel
theorem dL_note_25 : decode cL_note 25 = .ok (.iconst 0, 1) := by decide +kernel
theorem dL_note_26 : decode cL_note 26 = .ok (.ireturn, 1) := by decide +kernel
set_option maxRecDepth 20000 in
theorem ggL_bestNumber_X11_bestNumber : GoodIn wsL_bestNumber wsX11_bestNumber := goodIn_ca (goodIn_ca (goodIn_ca (goodIn_r _ [8, 9, 10, 11, 12, 13, 7, 14, 15, 16, 17, 18, 19, 20, 21, 22, 23, 24, 25, 26, 27, 28, 29, 30, 31, 32, 33, 34, 35, 36, 37, 38, 39, 40, 41, 42, 43, 44, 45, 46, 47, 48, 49, 50, 51, 52, 53, 54, 55, 56, 57, 58, 59, 60, 61, 62, 63, 64, 65, 66, 67, 68, 69] (by decide +kernel) (by decide +kernel)) (goodIn_sub (fun _ h => List.mem_cons_of_mem _ (List.mem_append_left _ (List.mem_append_left _ (List.mem_append_right _ h)))) (by decide +kernel))) (goodIn_sub (fun _ h => List.mem_cons_of_mem _ (List.mem_append_left _ (List.mem_append_right _ h))) (by decide +kernel))) (goodIn_sub (fun _ h => List.mem_cons_of_mem _ (List.mem_append_right _ h)) (by decide +kernel))
set_option maxRecDepth 20000 in
theorem gL_bestNumber_X11_bestNumber : GoodIn wsL_bestNumber (wsV RL 96 RX11 yX11_bestNumber wsX11_bestNumber) := goodIn_app (goodIn_of _ (by decide +kernel)) ggL_bestNumber_X11_bestNumber
theorem dL_bestNumber_0 : decode cL_bestNumber 0 = .ok (.aload 4, 2) := by decide +kernel
theorem dL_bestNumber_2 : decode cL_bestNumber 2 = .ok (.iconst 0, 1) := by decide +kernel
theorem dL_bestNumber_3 : decode cL_bestNumber 3 = .ok (.aload_n 0, 1) := by decide +kernel
theorem dL_bestNumber_4 : decode cL_bestNumber 4 = .ok (.iload_n 1, 1) := by decide +kernel
theorem dL_bestNumber_5 : decode cL_bestNumber 5 = .ok (.iload_n 2, 1) := by decide +kernel
theorem dL_bestNumber_6 : decode cL_bestNumber 6 = .ok (.iload_n 3, 1) := by decide +kernel
theorem dL_bestNumber_7 : decode cL_bestNumber 7 = .ok (.invokevirtual 96, 3) := by decide +kernel
theorem dL_bestNumber_10 : decode cL_bestNumber 10 = .ok (.i2l, 1) := by decide +kernel
theorem dL_bestNumber_11 : decode cL_bestNumber 11 = .ok (.lastore, 1) := by decide +kernel
theorem dL_bestNumber_12 : decode cL_bestNumber 12 = .ok (.goto 15, 3) := by decide +kernel
theorem dL_bestNumber_15 : decode cL_bestNumber 15 = .ok (.astore 5, 2) := by decide +kernel
theorem dL_bestNumber_17 : decode cL_bestNumber 17 = .ok (.iconst 1, 1) := by decide +kernel
theorem dL_bestNumber_18 : decode cL_bestNumber 18 = .ok (.ireturn, 1) := by decide +kernel
theorem dL_bestNumber_19 : decode cL_bestNumber 19 = .ok (.astore 5, 2) := by decide +kernel
theorem dL_bestNumber_21 : decode cL_bestNumber 21 = .ok (.iconst 2, 1) := by decide +kernel
theorem dL_bestNumber_22 : decode cL_bestNumber 22 = .ok (.ireturn, 1) := by decide +kernel
theorem dL_bestNumber_23 : decode cL_bestNumber 23 = .ok (.astore 5, 2) := by decide +kernel
theorem dL_bestNumber_25 : decode cL_bestNumber 25 = .ok (.iconst 3, 1) := by decide +kernel
theorem dL_bestNumber_26 : decode cL_bestNumber 26 = .ok (.ireturn, 1) := by decide +kernel
theorem dL_bestNumber_27 : decode cL_bestNumber 27 = .ok (.iconst 0, 1) := by decide +kernel
theorem dL_bestNumber_28 : decode cL_bestNumber 28 = .ok (.ireturn, 1) := by decide +kernel
set_option maxRecDepth 20000 in
theorem ggL_loss_X11_loss : GoodIn wsL_loss wsX11_loss := goodIn_ca (goodIn_ca (goodIn_r _ [7, 8, 9, 10, 11, 6, 12, 13, 14, 15, 16, 17, 18, 19, 20, 21, 22, 23, 24, 25, 26, 27, 28, 29, 30, 31, 32, 33, 34, 35, 36, 37, 38, 39, 40, 41, 42, 43, 44, 45, 46, 47, 48, 49, 50, 51, 52, 53, 54, 55, 56, 57, 58] (by decide +kernel) (by decide +kernel)) (goodIn_sub (fun _ h => List.mem_cons_of_mem _ (List.mem_append_left _ (List.mem_append_right _ h))) (by decide +kernel))) (goodIn_sub (fun _ h => List.mem_cons_of_mem _ (List.mem_append_right _ h)) (by decide +kernel))
set_option maxRecDepth 20000 in
theorem gL_loss_X11_loss : GoodIn wsL_loss (wsV RL 99 RX11 yX11_loss wsX11_loss) := goodIn_app (goodIn_of _ (by decide +kernel)) ggL_loss_X11_loss
theorem dL_loss_0 : decode cL_loss 0 = .ok (.aload 5, 2) := by decide +kernel
theorem dL_loss_2 : decode cL_loss 2 = .ok (.iconst 0, 1) := by decide +kernel
theorem dL_loss_3 : decode cL_loss 3 = .ok (.aload_n 0, 1) := by decide +kernel
theorem dL_loss_4 : decode cL_loss 4 = .ok (.iload_n 1, 1) := by decide +kernel
theorem dL_loss_5 : decode cL_loss 5 = .ok (.iload_n 2, 1) := by decide +kernel
theorem dL_loss_6 : decode cL_loss 6 = .ok (.iload_n 3, 1) := by decide +kernel
theorem dL_loss_7 : decode cL_loss 7 = .ok (.iload 4, 2) := by decide +kernel
theorem dL_loss_9 : decode cL_loss 9 = .ok (.invokevirtual 99, 3) := by decide +kernel
theorem dL_loss_12 : decode cL_loss 12 = .ok (.i2l, 1) := by decide +kernel
theorem dL_loss_13 : decode cL_loss 13 = .ok (.lastore, 1) := by decide +kernel
theorem dL_loss_14 : decode cL_loss 14 = .ok (.goto 11, 3) := by decide +kernel
theorem dL_loss_17 : decode cL_loss 17 = .ok (.astore 6, 2) := by decide +kernel
theorem dL_loss_19 : decode cL_loss 19 = .ok (.iconst 1, 1) := by decide +kernel
theorem dL_loss_20 : decode cL_loss 20 = .ok (.ireturn, 1) := by decide +kernel
theorem dL_loss_21 : decode cL_loss 21 = .ok (.astore 6, 2) := by decide +kernel
theorem dL_loss_23 : decode cL_loss 23 = .ok (.iconst 2, 1) := by decide +kernel
theorem dL_loss_24 : decode cL_loss 24 = .ok (.ireturn, 1) := by decide +kernel
theorem dL_loss_25 : decode cL_loss 25 = .ok (.iconst 0, 1) := by decide +kernel
theorem dL_loss_26 : decode cL_loss 26 = .ok (.ireturn, 1) := by decide +kernel
set_option maxRecDepth 20000 in
theorem ggL_addShop_X11_addShop : GoodIn wsL_addShop wsX11_addShop := goodIn_ca (goodIn_ca (goodIn_r _ [7, 8, 9, 10, 11, 12, 13, 14, 15, 16, 6, 17, 18, 19, 20, 21, 22, 23, 24, 25, 26, 27, 28, 29, 30, 31, 32, 33, 34, 35, 36, 37, 38, 39, 40, 41, 42, 43, 44, 45, 46, 47, 48, 49, 50, 51, 52, 53, 54, 55, 56, 57, 58, 59, 60, 61, 62, 63, 64, 65, 66, 67, 68, 69, 70, 71, 72, 73, 74, 75, 76, 77, 78, 79, 80, 81, 82, 83, 84, 85, 86, 87, 88, 89, 90, 91, 92, 93, 94, 95, 96, 97, 98, 99, 100, 101, 102, 103, 104, 105, 106, 107, 108, 109, 110, 111, 112, 113, 114, 115, 116, 117, 118, 119, 120, 121, 122, 123, 124, 125, 126, 127, 128, 129, 130, 131, 132, 133, 134, 135, 136, 137, 138, 139, 140, 141, 142, 143, 144, 145, 146, 147, 148, 149, 150, 151, 152, 153, 154, 155, 156, 157, 158, 159, 160, 161, 162, 163, 164, 165, 166, 167, 168, 169, 170, 171] (by decide +kernel) (by decide +kernel)) (goodIn_sub (fun _ h => List.mem_cons_of_mem _ (List.mem_append_left _ (List.mem_append_right _ h))) (by decide +kernel))) (goodIn_sub (fun _ h => List.mem_cons_of_mem _ (List.mem_append_right _ h)) (by decide +kernel))
set_option maxRecDepth 20000 in
theorem gL_addShop_X11_addShop : GoodIn wsL_addShop (wsV RL 102 RX11 yX11_addShop wsX11_addShop) := goodIn_app (goodIn_of _ (by decide +kernel)) ggL_addShop_X11_addShop
theorem dL_addShop_0 : decode cL_addShop 0 = .ok (.aload 6, 2) := by decide +kernel
theorem dL_addShop_2 : decode cL_addShop 2 = .ok (.iconst 0, 1) := by decide +kernel
theorem dL_addShop_3 : decode cL_addShop 3 = .ok (.aload_n 0, 1) := by decide +kernel
theorem dL_addShop_4 : decode cL_addShop 4 = .ok (.iload_n 1, 1) := by decide +kernel
theorem dL_addShop_5 : decode cL_addShop 5 = .ok (.iload_n 2, 1) := by decide +kernel
theorem dL_addShop_6 : decode cL_addShop 6 = .ok (.iload_n 3, 1) := by decide +kernel
theorem dL_addShop_7 : decode cL_addShop 7 = .ok (.iload 4, 2) := by decide +kernel
theorem dL_addShop_9 : decode cL_addShop 9 = .ok (.iload 5, 2) := by decide +kernel
theorem dL_addShop_11 : decode cL_addShop 11 = .ok (.invokevirtual 102, 3) := by decide +kernel
theorem dL_addShop_14 : decode cL_addShop 14 = .ok (.i2l, 1) := by decide +kernel
theorem dL_addShop_15 : decode cL_addShop 15 = .ok (.lastore, 1) := by decide +kernel
theorem dL_addShop_16 : decode cL_addShop 16 = .ok (.goto 11, 3) := by decide +kernel
theorem dL_addShop_19 : decode cL_addShop 19 = .ok (.astore 7, 2) := by decide +kernel
theorem dL_addShop_21 : decode cL_addShop 21 = .ok (.iconst 1, 1) := by decide +kernel
theorem dL_addShop_22 : decode cL_addShop 22 = .ok (.ireturn, 1) := by decide +kernel
theorem dL_addShop_23 : decode cL_addShop 23 = .ok (.astore 7, 2) := by decide +kernel
theorem dL_addShop_25 : decode cL_addShop 25 = .ok (.iconst 2, 1) := by decide +kernel
theorem dL_addShop_26 : decode cL_addShop 26 = .ok (.ireturn, 1) := by decide +kernel
theorem dL_addShop_27 : decode cL_addShop 27 = .ok (.iconst 0, 1) := by decide +kernel
theorem dL_addShop_28 : decode cL_addShop 28 = .ok (.ireturn, 1) := by decide +kernel
set_option maxRecDepth 20000 in
theorem ggL_comesBack_X11_comesBack : GoodIn wsL_comesBack wsX11_comesBack := goodIn_ca (goodIn_ca (goodIn_r _ [7, 8, 9, 10, 11, 6, 12, 13, 14, 15, 16, 17, 18, 19, 20, 21, 22, 23, 24, 25, 26, 27, 28, 29, 30, 31, 32, 33, 34, 35, 36, 37, 38, 39, 40, 41, 42, 43, 44, 45, 46, 47, 48, 49, 50, 51, 52, 53, 54, 55, 56, 57, 58, 59, 60, 61, 62, 63, 64, 65, 66, 67, 68, 69, 70, 71, 72, 73, 74, 75, 76, 77, 78, 79, 80, 81] (by decide +kernel) (by decide +kernel)) (goodIn_sub (fun _ h => List.mem_cons_of_mem _ (List.mem_append_left _ (List.mem_append_right _ h))) (by decide +kernel))) (goodIn_sub (fun _ h => List.mem_cons_of_mem _ (List.mem_append_right _ h)) (by decide +kernel))
set_option maxRecDepth 20000 in
theorem gL_comesBack_X11_comesBack : GoodIn wsL_comesBack (wsV RL 105 RX11 yX11_comesBack wsX11_comesBack) := goodIn_app (goodIn_of _ (by decide +kernel)) ggL_comesBack_X11_comesBack
theorem dL_comesBack_0 : decode cL_comesBack 0 = .ok (.aload_n 2, 1) := by decide +kernel
theorem dL_comesBack_1 : decode cL_comesBack 1 = .ok (.iconst 0, 1) := by decide +kernel
theorem dL_comesBack_2 : decode cL_comesBack 2 = .ok (.aload_n 0, 1) := by decide +kernel
theorem dL_comesBack_3 : decode cL_comesBack 3 = .ok (.iload_n 1, 1) := by decide +kernel
theorem dL_comesBack_4 : decode cL_comesBack 4 = .ok (.invokevirtual 105, 3) := by decide +kernel
theorem dL_comesBack_7 : decode cL_comesBack 7 = .ok (.i2l, 1) := by decide +kernel
theorem dL_comesBack_8 : decode cL_comesBack 8 = .ok (.lastore, 1) := by decide +kernel
theorem dL_comesBack_9 : decode cL_comesBack 9 = .ok (.goto 9, 3) := by decide +kernel
theorem dL_comesBack_12 : decode cL_comesBack 12 = .ok (.astore_n 3, 1) := by decide +kernel
theorem dL_comesBack_13 : decode cL_comesBack 13 = .ok (.iconst 1, 1) := by decide +kernel
theorem dL_comesBack_14 : decode cL_comesBack 14 = .ok (.ireturn, 1) := by decide +kernel
theorem dL_comesBack_15 : decode cL_comesBack 15 = .ok (.astore_n 3, 1) := by decide +kernel
theorem dL_comesBack_16 : decode cL_comesBack 16 = .ok (.iconst 2, 1) := by decide +kernel
theorem dL_comesBack_17 : decode cL_comesBack 17 = .ok (.ireturn, 1) := by decide +kernel
theorem dL_comesBack_18 : decode cL_comesBack 18 = .ok (.iconst 0, 1) := by decide +kernel
theorem dL_comesBack_19 : decode cL_comesBack 19 = .ok (.ireturn, 1) := by decide +kernel
set_option maxRecDepth 20000 in
theorem ggL_shopOf_X11_shopOf : GoodIn wsL_shopOf wsX11_shopOf := goodIn_ca (goodIn_ca (goodIn_ca (goodIn_r _ [8, 9, 10, 11, 12, 13, 7, 14, 15, 16, 17, 18, 19, 20, 21, 22, 23, 24, 25, 26, 27, 28, 29, 30, 31, 32, 33, 34, 35, 36, 37, 38, 39, 40, 41, 42, 43, 44, 45, 46, 47, 48, 49, 50, 51, 52, 53, 54, 55, 56, 57, 58, 59, 60, 61, 62, 63, 64, 65, 66, 67, 68, 69, 70, 71, 72, 73, 74, 75, 76, 77, 78, 79, 80, 81, 82, 83, 84, 85, 86, 87, 88] (by decide +kernel) (by decide +kernel)) (goodIn_sub (fun _ h => List.mem_cons_of_mem _ (List.mem_append_left _ (List.mem_append_left _ (List.mem_append_right _ h)))) (by decide +kernel))) (goodIn_sub (fun _ h => List.mem_cons_of_mem _ (List.mem_append_left _ (List.mem_append_right _ h))) (by decide +kernel))) (goodIn_sub (fun _ h => List.mem_cons_of_mem _ (List.mem_append_right _ h)) (by decide +kernel))
set_option maxRecDepth 20000 in
theorem gL_shopOf_X11_shopOf : GoodIn wsL_shopOf (wsV RL 108 RX11 yX11_shopOf wsX11_shopOf) := goodIn_app (goodIn_of _ (by decide +kernel)) ggL_shopOf_X11_shopOf
theorem dL_shopOf_0 : decode cL_shopOf 0 = .ok (.aload_n 3, 1) := by decide +kernel
theorem dL_shopOf_1 : decode cL_shopOf 1 = .ok (.iconst 0, 1) := by decide +kernel
theorem dL_shopOf_2 : decode cL_shopOf 2 = .ok (.aload_n 0, 1) := by decide +kernel
theorem dL_shopOf_3 : decode cL_shopOf 3 = .ok (.iload_n 1, 1) := by decide +kernel
theorem dL_shopOf_4 : decode cL_shopOf 4 = .ok (.iload_n 2, 1) := by decide +kernel
theorem dL_shopOf_5 : decode cL_shopOf 5 = .ok (.invokevirtual 108, 3) := by decide +kernel
theorem dL_shopOf_8 : decode cL_shopOf 8 = .ok (.i2l, 1) := by decide +kernel
theorem dL_shopOf_9 : decode cL_shopOf 9 = .ok (.lastore, 1) := by decide +kernel
theorem dL_shopOf_10 : decode cL_shopOf 10 = .ok (.goto 15, 3) := by decide +kernel
theorem dL_shopOf_13 : decode cL_shopOf 13 = .ok (.astore 4, 2) := by decide +kernel
theorem dL_shopOf_15 : decode cL_shopOf 15 = .ok (.iconst 1, 1) := by decide +kernel
theorem dL_shopOf_16 : decode cL_shopOf 16 = .ok (.ireturn, 1) := by decide +kernel
theorem dL_shopOf_17 : decode cL_shopOf 17 = .ok (.astore 4, 2) := by decide +kernel
theorem dL_shopOf_19 : decode cL_shopOf 19 = .ok (.iconst 2, 1) := by decide +kernel
theorem dL_shopOf_20 : decode cL_shopOf 20 = .ok (.ireturn, 1) := by decide +kernel
theorem dL_shopOf_21 : decode cL_shopOf 21 = .ok (.astore 4, 2) := by decide +kernel
theorem dL_shopOf_23 : decode cL_shopOf 23 = .ok (.iconst 3, 1) := by decide +kernel
theorem dL_shopOf_24 : decode cL_shopOf 24 = .ok (.ireturn, 1) := by decide +kernel
theorem dL_shopOf_25 : decode cL_shopOf 25 = .ok (.iconst 0, 1) := by decide +kernel
theorem dL_shopOf_26 : decode cL_shopOf 26 = .ok (.ireturn, 1) := by decide +kernel
set_option maxRecDepth 20000 in
theorem ggL_wayBack_X11_wayBack : GoodIn wsL_wayBack wsX11_wayBack := goodIn_ca (goodIn_r _ [6, 7, 8, 9, 5, 10, 11, 12, 13, 14, 15, 16, 17, 18, 19, 20, 21, 22, 23, 24, 25, 26, 27, 28, 29, 30, 31, 32, 33, 34, 35, 36, 37, 38, 39, 40, 41, 42, 43, 44, 45, 46, 47, 48, 49, 50, 51, 52, 53, 54, 55, 56, 57, 58, 59, 60, 61, 62, 63, 64, 65, 66, 67, 68, 69] (by decide +kernel) (by decide +kernel)) (goodIn_sub (fun _ h => List.mem_cons_of_mem _ (List.mem_append_right _ h)) (by decide +kernel))
set_option maxRecDepth 20000 in
theorem gL_wayBack_X11_wayBack : GoodIn wsL_wayBack (wsV RL 111 RX11 yX11_wayBack wsX11_wayBack) := goodIn_app (goodIn_of _ (by decide +kernel)) ggL_wayBack_X11_wayBack
theorem dL_wayBack_0 : decode cL_wayBack 0 = .ok (.aload_n 3, 1) := by decide +kernel
theorem dL_wayBack_1 : decode cL_wayBack 1 = .ok (.iconst 0, 1) := by decide +kernel
theorem dL_wayBack_2 : decode cL_wayBack 2 = .ok (.aload_n 0, 1) := by decide +kernel
theorem dL_wayBack_3 : decode cL_wayBack 3 = .ok (.iload_n 1, 1) := by decide +kernel
theorem dL_wayBack_4 : decode cL_wayBack 4 = .ok (.iload_n 2, 1) := by decide +kernel
theorem dL_wayBack_5 : decode cL_wayBack 5 = .ok (.invokevirtual 111, 3) := by decide +kernel
theorem dL_wayBack_8 : decode cL_wayBack 8 = .ok (.i2l, 1) := by decide +kernel
theorem dL_wayBack_9 : decode cL_wayBack 9 = .ok (.lastore, 1) := by decide +kernel
theorem dL_wayBack_10 : decode cL_wayBack 10 = .ok (.goto 7, 3) := by decide +kernel
theorem dL_wayBack_13 : decode cL_wayBack 13 = .ok (.astore 4, 2) := by decide +kernel
theorem dL_wayBack_15 : decode cL_wayBack 15 = .ok (.iconst 1, 1) := by decide +kernel
theorem dL_wayBack_16 : decode cL_wayBack 16 = .ok (.ireturn, 1) := by decide +kernel
theorem dL_wayBack_17 : decode cL_wayBack 17 = .ok (.iconst 0, 1) := by decide +kernel
theorem dL_wayBack_18 : decode cL_wayBack 18 = .ok (.ireturn, 1) := by decide +kernel
set_option maxRecDepth 20000 in
theorem ggL_cleaning_X11_cleaning : GoodIn wsL_cleaning wsX11_cleaning := goodIn_ca (goodIn_r _ [6, 7, 8, 9, 10, 11, 5, 12, 13, 14, 15, 16, 17, 18, 19, 20, 21, 22, 23, 24, 25, 26, 27, 28, 29, 30, 31, 32, 33, 34, 35, 36, 37, 38, 39, 40, 41, 42, 43, 44, 45, 46, 47, 48, 49, 50, 51, 52, 53, 54, 55, 56, 57, 58, 59, 60, 61, 62, 63, 64, 65, 66, 67, 68, 69, 70] (by decide +kernel) (by decide +kernel)) (goodIn_sub (fun _ h => List.mem_cons_of_mem _ (List.mem_append_right _ h)) (by decide +kernel))
set_option maxRecDepth 20000 in
theorem gL_cleaning_X11_cleaning : GoodIn wsL_cleaning (wsV RL 114 RX11 yX11_cleaning wsX11_cleaning) := goodIn_app (goodIn_of _ (by decide +kernel)) ggL_cleaning_X11_cleaning
theorem dL_cleaning_0 : decode cL_cleaning 0 = .ok (.aload_n 2, 1) := by decide +kernel
theorem dL_cleaning_1 : decode cL_cleaning 1 = .ok (.iconst 0, 1) := by decide +kernel
theorem dL_cleaning_2 : decode cL_cleaning 2 = .ok (.aload_n 0, 1) := by decide +kernel
theorem dL_cleaning_3 : decode cL_cleaning 3 = .ok (.iload_n 1, 1) := by decide +kernel
theorem dL_cleaning_4 : decode cL_cleaning 4 = .ok (.invokevirtual 114, 3) := by decide +kernel
theorem dL_cleaning_7 : decode cL_cleaning 7 = .ok (.i2l, 1) := by decide +kernel
theorem dL_cleaning_8 : decode cL_cleaning 8 = .ok (.lastore, 1) := by decide +kernel
theorem dL_cleaning_9 : decode cL_cleaning 9 = .ok (.goto 6, 3) := by decide +kernel
theorem dL_cleaning_12 : decode cL_cleaning 12 = .ok (.astore_n 3, 1) := by decide +kernel
theorem dL_cleaning_13 : decode cL_cleaning 13 = .ok (.iconst 1, 1) := by decide +kernel
theorem dL_cleaning_14 : decode cL_cleaning 14 = .ok (.ireturn, 1) := by decide +kernel
theorem dL_cleaning_15 : decode cL_cleaning 15 = .ok (.iconst 0, 1) := by decide +kernel
theorem dL_cleaning_16 : decode cL_cleaning 16 = .ok (.ireturn, 1) := by decide +kernel
set_option maxRecDepth 20000 in
theorem ggL_rowAt_X11_rowAt : GoodIn wsL_rowAt wsX11_rowAt := goodIn_ca (goodIn_ca (goodIn_r _ [7, 8, 9, 10, 11, 12, 6, 13, 14, 15, 16, 17, 18, 19, 20, 21, 22, 23, 24, 25, 26, 27, 28, 29, 30, 31, 32, 33, 34, 35, 36, 37, 38, 39, 40, 41, 42, 43, 44, 45, 46, 47, 48, 49, 50, 51, 52, 53, 54, 55, 56, 57, 58, 59, 60, 61, 62, 63, 64, 65, 66, 67, 68, 69, 70, 71, 72, 73, 74, 75, 76, 77, 78, 79, 80, 81, 82, 83] (by decide +kernel) (by decide +kernel)) (goodIn_sub (fun _ h => List.mem_cons_of_mem _ (List.mem_append_left _ (List.mem_append_right _ h))) (by decide +kernel))) (goodIn_sub (fun _ h => List.mem_cons_of_mem _ (List.mem_append_right _ h)) (by decide +kernel))
set_option maxRecDepth 20000 in
theorem gL_rowAt_X11_rowAt : GoodIn wsL_rowAt (wsV RL 117 RX11 yX11_rowAt wsX11_rowAt) := goodIn_app (goodIn_of _ (by decide +kernel)) ggL_rowAt_X11_rowAt
theorem dL_rowAt_0 : decode cL_rowAt 0 = .ok (.aload_n 3, 1) := by decide +kernel
theorem dL_rowAt_1 : decode cL_rowAt 1 = .ok (.iconst 0, 1) := by decide +kernel
theorem dL_rowAt_2 : decode cL_rowAt 2 = .ok (.aload_n 0, 1) := by decide +kernel
theorem dL_rowAt_3 : decode cL_rowAt 3 = .ok (.iload_n 1, 1) := by decide +kernel
theorem dL_rowAt_4 : decode cL_rowAt 4 = .ok (.iload_n 2, 1) := by decide +kernel
theorem dL_rowAt_5 : decode cL_rowAt 5 = .ok (.invokevirtual 117, 3) := by decide +kernel
theorem dL_rowAt_8 : decode cL_rowAt 8 = .ok (.i2l, 1) := by decide +kernel
theorem dL_rowAt_9 : decode cL_rowAt 9 = .ok (.lastore, 1) := by decide +kernel
theorem dL_rowAt_10 : decode cL_rowAt 10 = .ok (.goto 11, 3) := by decide +kernel
theorem dL_rowAt_13 : decode cL_rowAt 13 = .ok (.astore 4, 2) := by decide +kernel
theorem dL_rowAt_15 : decode cL_rowAt 15 = .ok (.iconst 1, 1) := by decide +kernel
theorem dL_rowAt_16 : decode cL_rowAt 16 = .ok (.ireturn, 1) := by decide +kernel
theorem dL_rowAt_17 : decode cL_rowAt 17 = .ok (.astore 4, 2) := by decide +kernel
theorem dL_rowAt_19 : decode cL_rowAt 19 = .ok (.iconst 2, 1) := by decide +kernel
theorem dL_rowAt_20 : decode cL_rowAt 20 = .ok (.ireturn, 1) := by decide +kernel
theorem dL_rowAt_21 : decode cL_rowAt 21 = .ok (.iconst 0, 1) := by decide +kernel
theorem dL_rowAt_22 : decode cL_rowAt 22 = .ok (.ireturn, 1) := by decide +kernel
set_option maxRecDepth 20000 in
theorem ggL_book_X11_book : GoodIn wsL_book wsX11_book := goodIn_ca (goodIn_r _ [6, 7, 8, 9, 10, 11, 12, 13, 5, 14, 15, 16, 17, 18, 19, 20, 21, 22, 23, 24, 25, 26, 27, 28, 29, 30, 31, 32, 33, 34, 35, 36, 37, 38, 39, 40, 41, 42, 43, 44, 45, 46, 47, 48, 49, 50, 51, 52, 53, 54, 55, 56, 57, 58, 59, 60, 61, 62, 63, 64, 65, 66, 67, 68, 69, 70, 71, 72, 73, 74, 75, 76, 77, 78, 79, 80, 81, 82] (by decide +kernel) (by decide +kernel)) (goodIn_sub (fun _ h => List.mem_cons_of_mem _ (List.mem_append_right _ h)) (by decide +kernel))
set_option maxRecDepth 20000 in
theorem gL_book_X11_book : GoodIn wsL_book (wsV RL 120 RX11 yX11_book wsX11_book) := goodIn_app (goodIn_of _ (by decide +kernel)) ggL_book_X11_book
theorem dL_book_0 : decode cL_book 0 = .ok (.aload_n 2, 1) := by decide +kernel
theorem dL_book_1 : decode cL_book 1 = .ok (.iconst 0, 1) := by decide +kernel
theorem dL_book_2 : decode cL_book 2 = .ok (.aload_n 0, 1) := by decide +kernel
theorem dL_book_3 : decode cL_book 3 = .ok (.iload_n 1, 1) := by decide +kernel
theorem dL_book_4 : decode cL_book 4 = .ok (.invokevirtual 120, 3) := by decide +kernel
theorem dL_book_7 : decode cL_book 7 = .ok (.i2l, 1) := by decide +kernel
theorem dL_book_8 : decode cL_book 8 = .ok (.lastore, 1) := by decide +kernel
theorem dL_book_9 : decode cL_book 9 = .ok (.goto 6, 3) := by decide +kernel
theorem dL_book_12 : decode cL_book 12 = .ok (.astore_n 3, 1) := by decide +kernel
theorem dL_book_13 : decode cL_book 13 = .ok (.iconst 1, 1) := by decide +kernel
theorem dL_book_14 : decode cL_book 14 = .ok (.ireturn, 1) := by decide +kernel
theorem dL_book_15 : decode cL_book 15 = .ok (.iconst 0, 1) := by decide +kernel
theorem dL_book_16 : decode cL_book 16 = .ok (.ireturn, 1) := by decide +kernel
set_option maxRecDepth 20000 in
theorem ggL_type_X11_type : GoodIn wsL_type wsX11_type := goodIn_ca (goodIn_ca (goodIn_r _ [7, 8, 9, 10, 11, 12, 13, 14, 15, 16, 17, 18, 6, 19, 20, 21, 22, 23, 24, 25, 26, 27, 28, 29, 30, 31, 32, 33, 34, 35, 36, 37, 38, 39, 40, 41, 42, 43, 44, 45, 46, 47, 48, 49, 50, 51, 52] (by decide +kernel) (by decide +kernel)) (goodIn_sub (fun _ h => List.mem_cons_of_mem _ (List.mem_append_left _ (List.mem_append_right _ h))) (by decide +kernel))) (goodIn_sub (fun _ h => List.mem_cons_of_mem _ (List.mem_append_right _ h)) (by decide +kernel))
set_option maxRecDepth 20000 in
theorem gL_type_X11_type : GoodIn wsL_type (wsV RL 123 RX11 yX11_type wsX11_type) := goodIn_app (goodIn_of _ (by decide +kernel)) ggL_type_X11_type
theorem dL_type_0 : decode cL_type 0 = .ok (.aload_n 3, 1) := by decide +kernel
theorem dL_type_1 : decode cL_type 1 = .ok (.iconst 0, 1) := by decide +kernel
theorem dL_type_2 : decode cL_type 2 = .ok (.aload_n 0, 1) := by decide +kernel
theorem dL_type_3 : decode cL_type 3 = .ok (.lload_n 1, 1) := by decide +kernel
theorem dL_type_4 : decode cL_type 4 = .ok (.invokevirtual 123, 3) := by decide +kernel
theorem dL_type_7 : decode cL_type 7 = .ok (.i2l, 1) := by decide +kernel
theorem dL_type_8 : decode cL_type 8 = .ok (.lastore, 1) := by decide +kernel
theorem dL_type_9 : decode cL_type 9 = .ok (.goto 11, 3) := by decide +kernel
theorem dL_type_12 : decode cL_type 12 = .ok (.astore 4, 2) := by decide +kernel
theorem dL_type_14 : decode cL_type 14 = .ok (.iconst 1, 1) := by decide +kernel
theorem dL_type_15 : decode cL_type 15 = .ok (.ireturn, 1) := by decide +kernel
theorem dL_type_16 : decode cL_type 16 = .ok (.astore 4, 2) := by decide +kernel
theorem dL_type_18 : decode cL_type 18 = .ok (.iconst 2, 1) := by decide +kernel
theorem dL_type_19 : decode cL_type 19 = .ok (.ireturn, 1) := by decide +kernel
theorem dL_type_20 : decode cL_type 20 = .ok (.iconst 0, 1) := by decide +kernel
theorem dL_type_21 : decode cL_type 21 = .ok (.ireturn, 1) := by decide +kernel
set_option maxRecDepth 20000 in
theorem ggL_undo_X11_undo : GoodIn wsL_undo wsX11_undo := goodIn_ca (goodIn_r _ [6, 7, 8, 9, 10, 5, 11, 12, 13, 14, 15, 16, 17, 18, 19, 20, 21, 22, 23, 24, 25, 26, 27, 28, 29, 30, 31, 32, 33, 34, 35, 36, 37, 38, 39, 40, 41, 42, 43, 44, 45, 46, 47, 48, 49, 50, 51, 52, 53, 54, 55, 56, 57, 58, 59, 60, 61, 62, 63, 64, 65, 66, 67, 68, 69, 70, 71, 72, 73, 74, 75, 76, 77, 78, 79, 80, 81, 82, 83, 84, 85, 86, 87, 88, 89, 90, 91, 92, 93, 94, 95, 96, 97, 98, 99, 100, 101, 102, 103, 104, 105, 106, 107, 108, 109, 110, 111, 112, 113, 114, 115, 116, 117, 118, 119, 120, 121, 122, 123, 124, 125, 126, 127, 128, 129, 130, 131, 132, 133, 134, 135, 136, 137, 138, 139, 140, 141, 142, 143, 144, 145, 146, 147, 148, 149, 150, 151, 152, 153, 154, 155, 156] (by decide +kernel) (by decide +kernel)) (goodIn_sub (fun _ h => List.mem_cons_of_mem _ (List.mem_append_right _ h)) (by decide +kernel))
set_option maxRecDepth 20000 in
theorem gL_undo_X11_undo : GoodIn wsL_undo (wsV RL 127 RX11 yX11_undo wsX11_undo) := goodIn_app (goodIn_of _ (by decide +kernel)) ggL_undo_X11_undo
theorem dL_undo_0 : decode cL_undo 0 = .ok (.aload_n 1, 1) := by decide +kernel
theorem dL_undo_1 : decode cL_undo 1 = .ok (.iconst 0, 1) := by decide +kernel
theorem dL_undo_2 : decode cL_undo 2 = .ok (.aload_n 0, 1) := by decide +kernel
theorem dL_undo_3 : decode cL_undo 3 = .ok (.invokevirtual 127, 3) := by decide +kernel
theorem dL_undo_6 : decode cL_undo 6 = .ok (.i2l, 1) := by decide +kernel
theorem dL_undo_7 : decode cL_undo 7 = .ok (.lastore, 1) := by decide +kernel
theorem dL_undo_8 : decode cL_undo 8 = .ok (.goto 6, 3) := by decide +kernel
theorem dL_undo_11 : decode cL_undo 11 = .ok (.astore_n 2, 1) := by decide +kernel
theorem dL_undo_12 : decode cL_undo 12 = .ok (.iconst 1, 1) := by decide +kernel
theorem dL_undo_13 : decode cL_undo 13 = .ok (.ireturn, 1) := by decide +kernel
theorem dL_undo_14 : decode cL_undo 14 = .ok (.iconst 0, 1) := by decide +kernel
theorem dL_undo_15 : decode cL_undo 15 = .ok (.ireturn, 1) := by decide +kernel
