set_option maxRecDepth 20000 in
theorem ggX11_init_X10_init : GoodIn wsX11_init wsX10_init := goodIn_r _ [51, 52, 2, 3, 48, 53, 134, 135, 136, 137] (by decide +kernel) (by decide +kernel)
set_option maxRecDepth 20000 in
theorem gX11_init_X10_init_n23 : GoodIn wsX11_init (wsX10_init) := ggX11_init_X10_init
set_option maxRecDepth 20000 in
theorem ggX11_init_X8_init : GoodIn wsX11_init wsX8_init := goodIn_r _ [56, 57, 2, 3, 48, 58, 59, 60, 61, 62, 63, 64, 152, 153, 154, 155, 156, 157, 158, 159] (by decide +kernel) (by decide +kernel)
set_option maxRecDepth 20000 in
theorem gX11_init_X8_init : GoodIn wsX11_init (wsX8_init) := ggX11_init_X8_init
set_option maxRecDepth 20000 in
theorem ggX11_init_X2_init : GoodIn wsX11_init wsX2_init := goodIn_r _ [66, 67, 2, 3, 48, 68, 69, 70, 71, 72, 73, 74, 160, 161, 162, 163, 164, 165, 166, 167] (by decide +kernel) (by decide +kernel)
set_option maxRecDepth 20000 in
theorem gX11_init_X2_init_n35 : GoodIn wsX11_init (wsX2_init) := ggX11_init_X2_init
set_option maxRecDepth 20000 in
theorem ggX11_init_X5_init : GoodIn wsX11_init wsX5_init := goodIn_r _ [76, 77, 2, 3, 78, 79, 80, 81, 168, 169, 170, 171, 172] (by decide +kernel) (by decide +kernel)
set_option maxRecDepth 20000 in
theorem gX11_init_X5_init_n40 : GoodIn wsX11_init (wsX5_init) := ggX11_init_X5_init
set_option maxRecDepth 20000 in
theorem ggX11_init_X7_init : GoodIn wsX11_init wsX7_init := goodIn_r _ [84, 85, 2, 3, 48, 86, 87, 88, 89, 90, 91, 92, 93, 173, 174, 175, 176, 177, 178, 179, 180] (by decide +kernel) (by decide +kernel)
set_option maxRecDepth 20000 in
theorem gX11_init_X7_init : GoodIn wsX11_init (wsX7_init) := ggX11_init_X7_init
set_option maxRecDepth 20000 in
theorem ggX11_init_X0_init : GoodIn wsX11_init wsX0_init := goodIn_r _ [95, 96, 2, 3, 48, 97, 181] (by decide +kernel) (by decide +kernel)
set_option maxRecDepth 20000 in
theorem gX11_init_X0_init_n54 : GoodIn wsX11_init (wsX0_init) := ggX11_init_X0_init
set_option maxRecDepth 20000 in
theorem ggX11_init_X3_init : GoodIn wsX11_init wsX3_init := goodIn_r _ [100, 101, 2, 3, 48, 102, 103, 104, 105, 106, 182, 183, 184, 185, 186, 187, 188] (by decide +kernel) (by decide +kernel)
set_option maxRecDepth 20000 in
theorem gX11_init_X3_init : GoodIn wsX11_init (wsX3_init) := ggX11_init_X3_init
set_option maxRecDepth 20000 in
theorem ggX11_init_X4_init : GoodIn wsX11_init wsX4_init := goodIn_r _ [108, 109, 2, 3, 48, 110, 111, 189, 190] (by decide +kernel) (by decide +kernel)
set_option maxRecDepth 20000 in
theorem gX11_init_X4_init_n64 : GoodIn wsX11_init (wsX4_init) := ggX11_init_X4_init
set_option maxRecDepth 20000 in
theorem ggX11_init_X1_init : GoodIn wsX11_init wsX1_init := goodIn_r _ [113, 114, 2, 3, 48, 115, 116, 117, 118, 119, 120, 121, 191, 192, 193, 194, 195, 196, 197, 198, 199] (by decide +kernel) (by decide +kernel)
set_option maxRecDepth 20000 in
theorem gX11_init_X1_init_n69 : GoodIn wsX11_init (wsX1_init) := ggX11_init_X1_init
set_option maxRecDepth 20000 in
theorem ggX11_init_X9_init : GoodIn wsX11_init wsX9_init := goodIn_r _ [124, 125, 2, 3, 48, 126, 127, 128, 200, 201, 202, 203] (by decide +kernel) (by decide +kernel)
set_option maxRecDepth 20000 in
theorem gX11_init_X9_init : GoodIn wsX11_init (wsX9_init) := ggX11_init_X9_init
set_option maxRecDepth 20000 in
theorem ggX11_init_X6_init : GoodIn wsX11_init wsX6_init := goodIn_r _ [130, 131, 2, 3, 48, 132, 133, 204, 205, 206] (by decide +kernel) (by decide +kernel)
set_option maxRecDepth 20000 in
theorem gX11_init_X6_init_n85 : GoodIn wsX11_init (wsX6_init) := ggX11_init_X6_init
theorem dX11_init_0 : decode cX11_init 0 = .ok (.aload_n 0, 1) := by decide +kernel
theorem dX11_init_1 : decode cX11_init 1 = .ok (.invokespecial 17, 3) := by decide +kernel
theorem dX11_init_4 : decode cX11_init 4 = .ok (.aload_n 0, 1) := by decide +kernel
theorem dX11_init_5 : decode cX11_init 5 = .ok (.new 1, 3) := by decide +kernel
theorem dX11_init_8 : decode cX11_init 8 = .ok (.dup, 1) := by decide +kernel
theorem dX11_init_9 : decode cX11_init 9 = .ok (.invokespecial 23, 3) := by decide +kernel
theorem dX11_init_12 : decode cX11_init 12 = .ok (.putfield 24, 3) := by decide +kernel
theorem dX11_init_15 : decode cX11_init 15 = .ok (.aload_n 0, 1) := by decide +kernel
theorem dX11_init_16 : decode cX11_init 16 = .ok (.new 3, 3) := by decide +kernel
theorem dX11_init_19 : decode cX11_init 19 = .ok (.dup, 1) := by decide +kernel
theorem dX11_init_20 : decode cX11_init 20 = .ok (.invokespecial 30, 3) := by decide +kernel
theorem dX11_init_23 : decode cX11_init 23 = .ok (.putfield 31, 3) := by decide +kernel
theorem dX11_init_26 : decode cX11_init 26 = .ok (.aload_n 0, 1) := by decide +kernel
theorem dX11_init_27 : decode cX11_init 27 = .ok (.new 5, 3) := by decide +kernel
theorem dX11_init_30 : decode cX11_init 30 = .ok (.dup, 1) := by decide +kernel
theorem dX11_init_31 : decode cX11_init 31 = .ok (.invokespecial 35, 3) := by decide +kernel
theorem dX11_init_34 : decode cX11_init 34 = .ok (.putfield 36, 3) := by decide +kernel
theorem dX11_init_37 : decode cX11_init 37 = .ok (.aload_n 0, 1) := by decide +kernel
theorem dX11_init_38 : decode cX11_init 38 = .ok (.new 7, 3) := by decide +kernel
theorem dX11_init_41 : decode cX11_init 41 = .ok (.dup, 1) := by decide +kernel
theorem dX11_init_42 : decode cX11_init 42 = .ok (.invokespecial 40, 3) := by decide +kernel
theorem dX11_init_45 : decode cX11_init 45 = .ok (.putfield 41, 3) := by decide +kernel
theorem dX11_init_48 : decode cX11_init 48 = .ok (.aload_n 0, 1) := by decide +kernel
theorem dX11_init_49 : decode cX11_init 49 = .ok (.new 45, 3) := by decide +kernel
theorem dX11_init_52 : decode cX11_init 52 = .ok (.dup, 1) := by decide +kernel
theorem dX11_init_53 : decode cX11_init 53 = .ok (.aload_n 0, 1) := by decide +kernel
theorem dX11_init_54 : decode cX11_init 54 = .ok (.getfield 31, 3) := by decide +kernel
theorem dX11_init_57 : decode cX11_init 57 = .ok (.aload_n 0, 1) := by decide +kernel
theorem dX11_init_58 : decode cX11_init 58 = .ok (.getfield 36, 3) := by decide +kernel
theorem dX11_init_61 : decode cX11_init 61 = .ok (.aload_n 0, 1) := by decide +kernel
theorem dX11_init_62 : decode cX11_init 62 = .ok (.getfield 41, 3) := by decide +kernel
theorem dX11_init_65 : decode cX11_init 65 = .ok (.invokespecial 47, 3) := by decide +kernel
theorem dX11_init_68 : decode cX11_init 68 = .ok (.putfield 50, 3) := by decide +kernel
theorem dX11_init_71 : decode cX11_init 71 = .ok (.aload_n 0, 1) := by decide +kernel
theorem dX11_init_72 : decode cX11_init 72 = .ok (.new 9, 3) := by decide +kernel
theorem dX11_init_75 : decode cX11_init 75 = .ok (.dup, 1) := by decide +kernel
theorem dX11_init_76 : decode cX11_init 76 = .ok (.invokespecial 54, 3) := by decide +kernel
theorem dX11_init_79 : decode cX11_init 79 = .ok (.putfield 55, 3) := by decide +kernel
theorem dX11_init_82 : decode cX11_init 82 = .ok (.aload_n 0, 1) := by decide +kernel
theorem dX11_init_83 : decode cX11_init 83 = .ok (.new 11, 3) := by decide +kernel
theorem dX11_init_86 : decode cX11_init 86 = .ok (.dup, 1) := by decide +kernel
theorem dX11_init_87 : decode cX11_init 87 = .ok (.invokespecial 59, 3) := by decide +kernel
theorem dX11_init_90 : decode cX11_init 90 = .ok (.putfield 60, 3) := by decide +kernel
theorem dX11_init_93 : decode cX11_init 93 = .ok (.aload_n 0, 1) := by decide +kernel
theorem dX11_init_94 : decode cX11_init 94 = .ok (.new 13, 3) := by decide +kernel
theorem dX11_init_97 : decode cX11_init 97 = .ok (.dup, 1) := by decide +kernel
theorem dX11_init_98 : decode cX11_init 98 = .ok (.invokespecial 64, 3) := by decide +kernel
theorem dX11_init_101 : decode cX11_init 101 = .ok (.putfield 65, 3) := by decide +kernel
theorem dX11_init_104 : decode cX11_init 104 = .ok (.aload_n 0, 1) := by decide +kernel
theorem dX11_init_105 : decode cX11_init 105 = .ok (.new 15, 3) := by decide +kernel
theorem dX11_init_108 : decode cX11_init 108 = .ok (.dup, 1) := by decide +kernel
theorem dX11_init_109 : decode cX11_init 109 = .ok (.invokespecial 69, 3) := by decide +kernel
theorem dX11_init_112 : decode cX11_init 112 = .ok (.putfield 70, 3) := by decide +kernel
theorem dX11_init_115 : decode cX11_init 115 = .ok (.aload_n 0, 1) := by decide +kernel
theorem dX11_init_116 : decode cX11_init 116 = .ok (.new 74, 3) := by decide +kernel
theorem dX11_init_119 : decode cX11_init 119 = .ok (.dup, 1) := by decide +kernel
theorem dX11_init_120 : decode cX11_init 120 = .ok (.aload_n 0, 1) := by decide +kernel
theorem dX11_init_121 : decode cX11_init 121 = .ok (.getfield 31, 3) := by decide +kernel
theorem dX11_init_124 : decode cX11_init 124 = .ok (.invokespecial 76, 3) := by decide +kernel
theorem dX11_init_127 : decode cX11_init 127 = .ok (.putfield 79, 3) := by decide +kernel
theorem dX11_init_130 : decode cX11_init 130 = .ok (.aload_n 0, 1) := by decide +kernel
theorem dX11_init_131 : decode cX11_init 131 = .ok (.new 83, 3) := by decide +kernel
theorem dX11_init_134 : decode cX11_init 134 = .ok (.dup, 1) := by decide +kernel
theorem dX11_init_135 : decode cX11_init 135 = .ok (.invokespecial 85, 3) := by decide +kernel
theorem dX11_init_138 : decode cX11_init 138 = .ok (.putfield 86, 3) := by decide +kernel
theorem dX11_init_141 : decode cX11_init 141 = .ok (.aload_n 0, 1) := by decide +kernel
theorem dX11_init_142 : decode cX11_init 142 = .ok (.sipush 1560, 3) := by decide +kernel
theorem dX11_init_145 : decode cX11_init 145 = .ok (.newarray .int, 2) := by decide +kernel
theorem dX11_init_147 : decode cX11_init 147 = .ok (.putfield 90, 3) := by decide +kernel
theorem dX11_init_150 : decode cX11_init 150 = .ok (.return_, 1) := by decide +kernel
set_option maxRecDepth 20000 in
theorem ggX11_receive_X11_needGood : GoodIn wsX11_receive wsX11_needGood := goodIn_ca (goodIn_r _ [9, 10, 11, 8, 12, 13, 14, 15, 16, 17] (by decide +kernel) (by decide +kernel)) (goodIn_sub (fun _ h => List.mem_cons_of_mem _ (List.mem_append_left _ (List.mem_append_left _ (List.mem_append_right _ h)))) (by decide +kernel))
set_option maxRecDepth 20000 in
theorem gX11_receive_X11_needGood : GoodIn wsX11_receive (va_wsS RX11 94 yX11_needGood wsX11_needGood) := goodIn_app (goodIn_of _ (by decide +kernel)) ggX11_receive_X11_needGood
set_option maxRecDepth 20000 in
theorem ggX11_receive_X11_isWithin : GoodIn wsX11_receive wsX11_isWithin := goodIn_r _ [12] (by decide +kernel) (by decide +kernel)
set_option maxRecDepth 20000 in
theorem gX11_receive_X11_isWithin : GoodIn wsX11_receive (va_wsS RX11 99 yX11_isWithin wsX11_isWithin) := goodIn_app (goodIn_of _ (by decide +kernel)) ggX11_receive_X11_isWithin
set_option maxRecDepth 20000 in
theorem ggX11_receive_X11_needArgument : GoodIn wsX11_receive wsX11_needArgument := goodIn_ca (goodIn_r _ [20, 21, 22] (by decide +kernel) (by decide +kernel)) (goodIn_sub (fun _ h => List.mem_cons_of_mem _ (List.mem_append_left _ (List.mem_append_right _ h))) (by decide +kernel))
set_option maxRecDepth 20000 in
theorem gX11_receive_X11_needArgument : GoodIn wsX11_receive (va_wsS RX11 103 yX11_needArgument wsX11_needArgument) := goodIn_app (goodIn_of _ (by decide +kernel)) ggX11_receive_X11_needArgument
set_option maxRecDepth 20000 in
theorem ggX11_receive_X11_needState : GoodIn wsX11_receive wsX11_needState := goodIn_ca (goodIn_r _ [25, 26, 27] (by decide +kernel) (by decide +kernel)) (goodIn_sub (fun _ h => List.mem_cons_of_mem _ (List.mem_append_right _ h)) (by decide +kernel))
set_option maxRecDepth 20000 in
theorem gX11_receive_X11_needState : GoodIn wsX11_receive (va_wsS RX11 111 yX11_needState wsX11_needState) := goodIn_app (goodIn_of _ (by decide +kernel)) ggX11_receive_X11_needState
set_option maxRecDepth 20000 in
theorem ggX11_receive_X11_remember : GoodIn wsX11_receive wsX11_remember := goodIn_r _ [31, 32, 33, 2, 34, 35, 36, 37, 38, 39, 40, 41, 42, 43, 44, 45, 46, 47, 48, 49, 50, 51, 52, 53, 54, 55, 56, 57, 58, 59, 60, 61, 62, 63, 64, 65, 66, 67, 68, 69, 70, 71, 72, 73, 74, 75, 76, 77, 78, 79, 80, 81, 82, 83, 84, 85, 86, 87, 88, 89, 90, 91, 92, 93, 94, 95, 96, 97, 98, 99, 100, 101, 102, 103, 104, 105, 106, 107, 108, 109, 110, 111, 112, 113, 114, 115, 116, 117, 118, 119, 120, 121, 122, 123, 124, 125, 126, 127, 128, 129, 130, 131, 132, 133, 134, 135, 136, 137, 138, 139, 140, 141, 142, 143, 144, 145, 146, 147, 148, 149, 150, 151, 152, 153, 154, 155, 156, 157, 158, 159, 160, 161, 162, 163, 164, 165, 166, 167, 168, 169, 170, 171] (by decide +kernel) (by decide +kernel)
set_option maxRecDepth 20000 in
theorem gX11_receive_X11_remember : GoodIn wsX11_receive (wsV RX11 114 RX11 yX11_remember wsX11_remember) := goodIn_app (goodIn_of _ (by decide +kernel)) ggX11_receive_X11_remember
theorem dX11_receive_0 : decode cX11_receive 0 = .ok (.iload_n 1, 1) := by decide +kernel
theorem dX11_receive_1 : decode cX11_receive 1 = .ok (.invokestatic 94, 3) := by decide +kernel
theorem dX11_receive_4 : decode cX11_receive 4 = .ok (.iload_n 1, 1) := by decide +kernel
theorem dX11_receive_5 : decode cX11_receive 5 = .ok (.bipush 7, 2) := by decide +kernel
theorem dX11_receive_7 : decode cX11_receive 7 = .ok (.if_icmp .eq 17, 3) := by decide +kernel
theorem dX11_receive_10 : decode cX11_receive 10 = .ok (.iload_n 2, 1) := by decide +kernel
theorem dX11_receive_11 : decode cX11_receive 11 = .ok (.iconst 1, 1) := by decide +kernel
theorem dX11_receive_12 : decode cX11_receive 12 = .ok (.ldc 98, 2) := by decide +kernel
theorem dX11_receive_14 : decode cX11_receive 14 = .ok (.invokestatic 99, 3) := by decide +kernel
theorem dX11_receive_17 : decode cX11_receive 17 = .ok (.ifCond .eq 7, 3) := by decide +kernel
theorem dX11_receive_20 : decode cX11_receive 20 = .ok (.iconst 1, 1) := by decide +kernel
theorem dX11_receive_21 : decode cX11_receive 21 = .ok (.goto 4, 3) := by decide +kernel
theorem dX11_receive_24 : decode cX11_receive 24 = .ok (.iconst 0, 1) := by decide +kernel
theorem dX11_receive_25 : decode cX11_receive 25 = .ok (.invokestatic 103, 3) := by decide +kernel
theorem dX11_receive_28 : decode cX11_receive 28 = .ok (.aload_n 0, 1) := by decide +kernel
theorem dX11_receive_29 : decode cX11_receive 29 = .ok (.getfield 24, 3) := by decide +kernel
theorem dX11_receive_32 : decode cX11_receive 32 = .ok (.getfield 107, 3) := by decide +kernel
theorem dX11_receive_35 : decode cX11_receive 35 = .ok (.iload_n 1, 1) := by decide +kernel
theorem dX11_receive_36 : decode cX11_receive 36 = .ok (.iaload, 1) := by decide +kernel
theorem dX11_receive_37 : decode cX11_receive 37 = .ok (.iload_n 2, 1) := by decide +kernel
theorem dX11_receive_38 : decode cX11_receive 38 = .ok (.iadd, 1) := by decide +kernel
theorem dX11_receive_39 : decode cX11_receive 39 = .ok (.ldc 110, 2) := by decide +kernel
theorem dX11_receive_41 : decode cX11_receive 41 = .ok (.if_icmp .gt 7, 3) := by decide +kernel
theorem dX11_receive_44 : decode cX11_receive 44 = .ok (.iconst 1, 1) := by decide +kernel
theorem dX11_receive_45 : decode cX11_receive 45 = .ok (.goto 4, 3) := by decide +kernel
theorem dX11_receive_48 : decode cX11_receive 48 = .ok (.iconst 0, 1) := by decide +kernel
theorem dX11_receive_49 : decode cX11_receive 49 = .ok (.invokestatic 111, 3) := by decide +kernel
theorem dX11_receive_52 : decode cX11_receive 52 = .ok (.aload_n 0, 1) := by decide +kernel
theorem dX11_receive_53 : decode cX11_receive 53 = .ok (.invokevirtual 114, 3) := by decide +kernel
theorem dX11_receive_56 : decode cX11_receive 56 = .ok (.aload_n 0, 1) := by decide +kernel
theorem dX11_receive_57 : decode cX11_receive 57 = .ok (.getfield 24, 3) := by decide +kernel
theorem dX11_receive_60 : decode cX11_receive 60 = .ok (.getfield 107, 3) := by decide +kernel
theorem dX11_receive_63 : decode cX11_receive 63 = .ok (.iload_n 1, 1) := by decide +kernel
theorem dX11_receive_64 : decode cX11_receive 64 = .ok (.dup2, 1) := by decide +kernel
theorem dX11_receive_65 : decode cX11_receive 65 = .ok (.iaload, 1) := by decide +kernel
theorem dX11_receive_66 : decode cX11_receive 66 = .ok (.iload_n 2, 1) := by decide +kernel
theorem dX11_receive_67 : decode cX11_receive 67 = .ok (.iadd, 1) := by decide +kernel
theorem dX11_receive_68 : decode cX11_receive 68 = .ok (.iastore, 1) := by decide +kernel
theorem dX11_receive_69 : decode cX11_receive 69 = .ok (.aload_n 0, 1) := by decide +kernel
theorem dX11_receive_70 : decode cX11_receive 70 = .ok (.getfield 24, 3) := by decide +kernel
theorem dX11_receive_73 : decode cX11_receive 73 = .ok (.dup, 1) := by decide +kernel
theorem dX11_receive_74 : decode cX11_receive 74 = .ok (.getfield 117, 3) := by decide +kernel
theorem dX11_receive_77 : decode cX11_receive 77 = .ok (.iload_n 2, 1) := by decide +kernel
theorem dX11_receive_78 : decode cX11_receive 78 = .ok (.iadd, 1) := by decide +kernel
theorem dX11_receive_79 : decode cX11_receive 79 = .ok (.putfield 117, 3) := by decide +kernel
theorem dX11_receive_82 : decode cX11_receive 82 = .ok (.aload_n 0, 1) := by decide +kernel
theorem dX11_receive_83 : decode cX11_receive 83 = .ok (.getfield 24, 3) := by decide +kernel
theorem dX11_receive_86 : decode cX11_receive 86 = .ok (.getfield 107, 3) := by decide +kernel
theorem dX11_receive_89 : decode cX11_receive 89 = .ok (.iload_n 1, 1) := by decide +kernel
theorem dX11_receive_90 : decode cX11_receive 90 = .ok (.iaload, 1) := by decide +kernel
theorem dX11_receive_91 : decode cX11_receive 91 = .ok (.ireturn, 1) := by decide +kernel
set_option maxRecDepth 20000 in
theorem ggX11_store_X11_needGood : GoodIn wsX11_store wsX11_needGood := goodIn_ca (goodIn_r _ [6, 7, 8, 5, 9, 10, 11, 12, 13, 14] (by decide +kernel) (by decide +kernel)) (goodIn_sub (fun _ h => List.mem_cons_of_mem _ (List.mem_append_right _ h)) (by decide +kernel))
set_option maxRecDepth 20000 in
theorem gX11_store_X11_needGood : GoodIn wsX11_store (va_wsS RX11 94 yX11_needGood wsX11_needGood) := goodIn_app (goodIn_of _ (by decide +kernel)) ggX11_store_X11_needGood
theorem dX11_store_0 : decode cX11_store 0 = .ok (.iload_n 1, 1) := by decide +kernel
theorem dX11_store_1 : decode cX11_store 1 = .ok (.invokestatic 94, 3) := by decide +kernel
theorem dX11_store_4 : decode cX11_store 4 = .ok (.aload_n 0, 1) := by decide +kernel
theorem dX11_store_5 : decode cX11_store 5 = .ok (.getfield 24, 3) := by decide +kernel
theorem dX11_store_8 : decode cX11_store 8 = .ok (.getfield 107, 3) := by decide +kernel
theorem dX11_store_11 : decode cX11_store 11 = .ok (.iload_n 1, 1) := by decide +kernel
theorem dX11_store_12 : decode cX11_store 12 = .ok (.iaload, 1) := by decide +kernel
theorem dX11_store_13 : decode cX11_store 13 = .ok (.ireturn, 1) := by decide +kernel
set_option maxRecDepth 20000 in
theorem ggX11_addRecipe_X11_isWithin : GoodIn wsX11_addRecipe wsX11_isWithin := goodIn_r _ [11] (by decide +kernel) (by decide +kernel)
set_option maxRecDepth 20000 in
theorem gX11_addRecipe_X11_isWithin : GoodIn wsX11_addRecipe (va_wsS RX11 99 yX11_isWithin wsX11_isWithin) := goodIn_app (goodIn_of _ (by decide +kernel)) ggX11_addRecipe_X11_isWithin
set_option maxRecDepth 20000 in
theorem ggX11_addRecipe_X11_needArgument : GoodIn wsX11_addRecipe wsX11_needArgument := goodIn_ca (goodIn_r _ [14, 15, 16] (by decide +kernel) (by decide +kernel)) (goodIn_sub (fun _ h => List.mem_cons_of_mem _ (List.mem_append_left _ (List.mem_append_right _ h))) (by decide +kernel))
set_option maxRecDepth 20000 in
theorem gX11_addRecipe_X11_needArgument : GoodIn wsX11_addRecipe (va_wsS RX11 103 yX11_needArgument wsX11_needArgument) := goodIn_app (goodIn_of _ (by decide +kernel)) ggX11_addRecipe_X11_needArgument
set_option maxRecDepth 20000 in
theorem ggX11_addRecipe_X11_needState : GoodIn wsX11_addRecipe wsX11_needState := goodIn_ca (goodIn_r _ [19, 20, 21] (by decide +kernel) (by decide +kernel)) (goodIn_sub (fun _ h => List.mem_cons_of_mem _ (List.mem_append_right _ h)) (by decide +kernel))
set_option maxRecDepth 20000 in
theorem gX11_addRecipe_X11_needState : GoodIn wsX11_addRecipe (va_wsS RX11 111 yX11_needState wsX11_needState) := goodIn_app (goodIn_of _ (by decide +kernel)) ggX11_addRecipe_X11_needState
set_option maxRecDepth 20000 in
theorem ggX11_addRecipe_X11_remember : GoodIn wsX11_addRecipe wsX11_remember := goodIn_r _ [25, 26, 27, 28, 29, 1, 30, 31, 32, 33, 34, 35, 36, 37, 38, 39, 40, 41, 42, 43, 44, 45, 46, 47, 48, 49, 50, 51, 52, 53, 54, 55, 56, 57, 58, 59, 60, 61, 62, 63, 64, 65, 66, 67, 68, 69, 70, 71, 72, 73, 74, 75, 76, 77, 78, 79, 80, 81, 82, 83, 84, 85, 86, 87, 88, 89, 90, 91, 92, 93, 94, 95, 96, 97, 98, 99, 100, 101, 102, 103, 104, 105, 106, 107, 108, 109, 110, 111, 112, 113, 114, 115, 116, 117, 118, 119, 120, 121, 130, 131, 132, 133, 122, 123, 124, 125, 126, 127, 128, 129, 134, 135, 136, 137, 138, 139, 140, 141, 142, 143, 144, 145, 146, 147, 148, 149, 150, 151, 152, 153, 154, 155, 156, 157, 158, 159, 160, 161, 162, 163, 164, 165] (by decide +kernel) (by decide +kernel)
set_option maxRecDepth 20000 in
theorem gX11_addRecipe_X11_remember : GoodIn wsX11_addRecipe (wsV RX11 114 RX11 yX11_remember wsX11_remember) := goodIn_app (goodIn_of _ (by decide +kernel)) ggX11_addRecipe_X11_remember
theorem dX11_addRecipe_0 : decode cX11_addRecipe 0 = .ok (.iload_n 1, 1) := by decide +kernel
theorem dX11_addRecipe_1 : decode cX11_addRecipe 1 = .ok (.bipush 50, 2) := by decide +kernel
theorem dX11_addRecipe_3 : decode cX11_addRecipe 3 = .ok (.sipush 2000, 3) := by decide +kernel
theorem dX11_addRecipe_6 : decode cX11_addRecipe 6 = .ok (.invokestatic 99, 3) := by decide +kernel
theorem dX11_addRecipe_9 : decode cX11_addRecipe 9 = .ok (.ifCond .eq 53, 3) := by decide +kernel
theorem dX11_addRecipe_12 : decode cX11_addRecipe 12 = .ok (.iload_n 2, 1) := by decide +kernel
theorem dX11_addRecipe_13 : decode cX11_addRecipe 13 = .ok (.iconst 1, 1) := by decide +kernel
theorem dX11_addRecipe_14 : decode cX11_addRecipe 14 = .ok (.sipush 200, 3) := by decide +kernel
theorem dX11_addRecipe_17 : decode cX11_addRecipe 17 = .ok (.invokestatic 99, 3) := by decide +kernel
theorem dX11_addRecipe_20 : decode cX11_addRecipe 20 = .ok (.ifCond .eq 42, 3) := by decide +kernel
theorem dX11_addRecipe_23 : decode cX11_addRecipe 23 = .ok (.iload_n 3, 1) := by decide +kernel
theorem dX11_addRecipe_24 : decode cX11_addRecipe 24 = .ok (.iload_n 2, 1) := by decide +kernel
theorem dX11_addRecipe_25 : decode cX11_addRecipe 25 = .ok (.sipush 200, 3) := by decide +kernel
theorem dX11_addRecipe_28 : decode cX11_addRecipe 28 = .ok (.invokestatic 99, 3) := by decide +kernel
theorem dX11_addRecipe_31 : decode cX11_addRecipe 31 = .ok (.ifCond .eq 31, 3) := by decide +kernel
theorem dX11_addRecipe_34 : decode cX11_addRecipe 34 = .ok (.iload 4, 2) := by decide +kernel
theorem dX11_addRecipe_36 : decode cX11_addRecipe 36 = .ok (.bipush 100, 2) := by decide +kernel
theorem dX11_addRecipe_38 : decode cX11_addRecipe 38 = .ok (.sipush 300, 3) := by decide +kernel
theorem dX11_addRecipe_41 : decode cX11_addRecipe 41 = .ok (.invokestatic 99, 3) := by decide +kernel
theorem dX11_addRecipe_44 : decode cX11_addRecipe 44 = .ok (.ifCond .eq 18, 3) := by decide +kernel
theorem dX11_addRecipe_47 : decode cX11_addRecipe 47 = .ok (.iload 5, 2) := by decide +kernel
theorem dX11_addRecipe_49 : decode cX11_addRecipe 49 = .ok (.iconst 0, 1) := by decide +kernel
theorem dX11_addRecipe_50 : decode cX11_addRecipe 50 = .ok (.bipush 15, 2) := by decide +kernel
theorem dX11_addRecipe_52 : decode cX11_addRecipe 52 = .ok (.invokestatic 99, 3) := by decide +kernel
theorem dX11_addRecipe_55 : decode cX11_addRecipe 55 = .ok (.ifCond .eq 7, 3) := by decide +kernel
theorem dX11_addRecipe_58 : decode cX11_addRecipe 58 = .ok (.iconst 1, 1) := by decide +kernel
theorem dX11_addRecipe_59 : decode cX11_addRecipe 59 = .ok (.goto 4, 3) := by decide +kernel
theorem dX11_addRecipe_62 : decode cX11_addRecipe 62 = .ok (.iconst 0, 1) := by decide +kernel
theorem dX11_addRecipe_63 : decode cX11_addRecipe 63 = .ok (.invokestatic 103, 3) := by decide +kernel
theorem dX11_addRecipe_66 : decode cX11_addRecipe 66 = .ok (.aload_n 0, 1) := by decide +kernel
theorem dX11_addRecipe_67 : decode cX11_addRecipe 67 = .ok (.getfield 31, 3) := by decide +kernel
theorem dX11_addRecipe_70 : decode cX11_addRecipe 70 = .ok (.getfield 121, 3) := by decide +kernel
theorem dX11_addRecipe_73 : decode cX11_addRecipe 73 = .ok (.bipush 6, 2) := by decide +kernel
theorem dX11_addRecipe_75 : decode cX11_addRecipe 75 = .ok (.if_icmp .ge 7, 3) := by decide +kernel
theorem dX11_addRecipe_78 : decode cX11_addRecipe 78 = .ok (.iconst 1, 1) := by decide +kernel
theorem dX11_addRecipe_79 : decode cX11_addRecipe 79 = .ok (.goto 4, 3) := by decide +kernel
theorem dX11_addRecipe_82 : decode cX11_addRecipe 82 = .ok (.iconst 0, 1) := by decide +kernel
theorem dX11_addRecipe_83 : decode cX11_addRecipe 83 = .ok (.invokestatic 111, 3) := by decide +kernel
theorem dX11_addRecipe_86 : decode cX11_addRecipe 86 = .ok (.aload_n 0, 1) := by decide +kernel
theorem dX11_addRecipe_87 : decode cX11_addRecipe 87 = .ok (.invokevirtual 114, 3) := by decide +kernel
theorem dX11_addRecipe_90 : decode cX11_addRecipe 90 = .ok (.aload_n 0, 1) := by decide +kernel
theorem dX11_addRecipe_91 : decode cX11_addRecipe 91 = .ok (.getfield 31, 3) := by decide +kernel
theorem dX11_addRecipe_94 : decode cX11_addRecipe 94 = .ok (.getfield 121, 3) := by decide +kernel
theorem dX11_addRecipe_97 : decode cX11_addRecipe 97 = .ok (.istore 6, 2) := by decide +kernel
theorem dX11_addRecipe_99 : decode cX11_addRecipe 99 = .ok (.aload_n 0, 1) := by decide +kernel
theorem dX11_addRecipe_100 : decode cX11_addRecipe 100 = .ok (.getfield 31, 3) := by decide +kernel
theorem dX11_addRecipe_103 : decode cX11_addRecipe 103 = .ok (.getfield 124, 3) := by decide +kernel
theorem dX11_addRecipe_106 : decode cX11_addRecipe 106 = .ok (.iload 6, 2) := by decide +kernel
theorem dX11_addRecipe_108 : decode cX11_addRecipe 108 = .ok (.iload_n 1, 1) := by decide +kernel
theorem dX11_addRecipe_109 : decode cX11_addRecipe 109 = .ok (.iastore, 1) := by decide +kernel
theorem dX11_addRecipe_110 : decode cX11_addRecipe 110 = .ok (.aload_n 0, 1) := by decide +kernel
theorem dX11_addRecipe_111 : decode cX11_addRecipe 111 = .ok (.getfield 31, 3) := by decide +kernel
theorem dX11_addRecipe_114 : decode cX11_addRecipe 114 = .ok (.getfield 127, 3) := by decide +kernel
theorem dX11_addRecipe_117 : decode cX11_addRecipe 117 = .ok (.iload 6, 2) := by decide +kernel
theorem dX11_addRecipe_119 : decode cX11_addRecipe 119 = .ok (.iload_n 2, 1) := by decide +kernel
theorem dX11_addRecipe_120 : decode cX11_addRecipe 120 = .ok (.iastore, 1) := by decide +kernel
theorem dX11_addRecipe_121 : decode cX11_addRecipe 121 = .ok (.aload_n 0, 1) := by decide +kernel
theorem dX11_addRecipe_122 : decode cX11_addRecipe 122 = .ok (.getfield 31, 3) := by decide +kernel
theorem dX11_addRecipe_125 : decode cX11_addRecipe 125 = .ok (.getfield 130, 3) := by decide +kernel
theorem dX11_addRecipe_128 : decode cX11_addRecipe 128 = .ok (.iload 6, 2) := by decide +kernel
theorem dX11_addRecipe_130 : decode cX11_addRecipe 130 = .ok (.iload_n 3, 1) := by decide +kernel
theorem dX11_addRecipe_131 : decode cX11_addRecipe 131 = .ok (.iastore, 1) := by decide +kernel
theorem dX11_addRecipe_132 : decode cX11_addRecipe 132 = .ok (.aload_n 0, 1) := by decide +kernel
theorem dX11_addRecipe_133 : decode cX11_addRecipe 133 = .ok (.getfield 31, 3) := by decide +kernel
theorem dX11_addRecipe_136 : decode cX11_addRecipe 136 = .ok (.getfield 133, 3) := by decide +kernel
theorem dX11_addRecipe_139 : decode cX11_addRecipe 139 = .ok (.iload 6, 2) := by decide +kernel
theorem dX11_addRecipe_141 : decode cX11_addRecipe 141 = .ok (.iload 4, 2) := by decide +kernel
theorem dX11_addRecipe_143 : decode cX11_addRecipe 143 = .ok (.iastore, 1) := by decide +kernel
theorem dX11_addRecipe_144 : decode cX11_addRecipe 144 = .ok (.aload_n 0, 1) := by decide +kernel
theorem dX11_addRecipe_145 : decode cX11_addRecipe 145 = .ok (.getfield 31, 3) := by decide +kernel
theorem dX11_addRecipe_148 : decode cX11_addRecipe 148 = .ok (.getfield 136, 3) := by decide +kernel
theorem dX11_addRecipe_151 : decode cX11_addRecipe 151 = .ok (.iload 6, 2) := by decide +kernel
theorem dX11_addRecipe_153 : decode cX11_addRecipe 153 = .ok (.iload 5, 2) := by decide +kernel
theorem dX11_addRecipe_155 : decode cX11_addRecipe 155 = .ok (.iastore, 1) := by decide +kernel
theorem dX11_addRecipe_156 : decode cX11_addRecipe 156 = .ok (.aload_n 0, 1) := by decide +kernel
theorem dX11_addRecipe_157 : decode cX11_addRecipe 157 = .ok (.getfield 31, 3) := by decide +kernel
theorem dX11_addRecipe_160 : decode cX11_addRecipe 160 = .ok (.dup, 1) := by decide +kernel
theorem dX11_addRecipe_161 : decode cX11_addRecipe 161 = .ok (.getfield 121, 3) := by decide +kernel
theorem dX11_addRecipe_164 : decode cX11_addRecipe 164 = .ok (.iconst 1, 1) := by decide +kernel
theorem dX11_addRecipe_165 : decode cX11_addRecipe 165 = .ok (.iadd, 1) := by decide +kernel
theorem dX11_addRecipe_166 : decode cX11_addRecipe 166 = .ok (.putfield 121, 3) := by decide +kernel
theorem dX11_addRecipe_169 : decode cX11_addRecipe 169 = .ok (.iload 6, 2) := by decide +kernel
theorem dX11_addRecipe_171 : decode cX11_addRecipe 171 = .ok (.ireturn, 1) := by decide +kernel
set_option maxRecDepth 20000 in
theorem ggX11_setWait_X11_needRecipe : GoodIn wsX11_setWait wsX11_needRecipe := goodIn_ca (goodIn_r _ [7, 1, 8, 9, 10, 6, 11, 12, 13, 14, 15, 16, 108, 109, 110, 111, 112, 113, 114, 115, 116, 117, 118, 119, 120, 121, 122, 123, 124, 125, 126, 127, 128, 129] (by decide +kernel) (by decide +kernel)) (goodIn_sub (fun _ h => List.mem_cons_of_mem _ (List.mem_append_left _ (List.mem_append_right _ h))) (by decide +kernel))
set_option maxRecDepth 20000 in
theorem gX11_setWait_X11_needRecipe : GoodIn wsX11_setWait (wsV RX11 139 RX11 yX11_needRecipe wsX11_needRecipe) := goodIn_app (goodIn_of _ (by decide +kernel)) ggX11_setWait_X11_needRecipe
set_option maxRecDepth 20000 in
theorem ggX11_setWait_X11_isWithin : GoodIn wsX11_setWait wsX11_isWithin := goodIn_r _ [11] (by decide +kernel) (by decide +kernel)
set_option maxRecDepth 20000 in
theorem gX11_setWait_X11_isWithin : GoodIn wsX11_setWait (va_wsS RX11 99 yX11_isWithin wsX11_isWithin) := goodIn_app (goodIn_of _ (by decide +kernel)) ggX11_setWait_X11_isWithin
set_option maxRecDepth 20000 in
theorem ggX11_setWait_X11_needArgument : GoodIn wsX11_setWait wsX11_needArgument := goodIn_ca (goodIn_r _ [19, 20, 21] (by decide +kernel) (by decide +kernel)) (goodIn_sub (fun _ h => List.mem_cons_of_mem _ (List.mem_append_right _ h)) (by decide +kernel))
set_option maxRecDepth 20000 in
theorem gX11_setWait_X11_needArgument : GoodIn wsX11_setWait (va_wsS RX11 103 yX11_needArgument wsX11_needArgument) := goodIn_app (goodIn_of _ (by decide +kernel)) ggX11_setWait_X11_needArgument
set_option maxRecDepth 20000 in
theorem ggX11_setWait_X11_remember : GoodIn wsX11_setWait wsX11_remember := goodIn_r _ [25, 26, 27, 28, 29, 1, 30, 31, 32, 33, 34, 35, 36, 37, 38, 39, 40, 41, 42, 43, 44, 45, 46, 47, 48, 49, 50, 51, 52, 53, 54, 55, 56, 57, 58, 59, 60, 61, 62, 63, 64, 65, 66, 67, 68, 69, 70, 71, 72, 73, 74, 75, 76, 77, 78, 79, 80, 81, 82, 83, 84, 85, 86, 87, 88, 89, 90, 91, 92, 93, 94, 95, 96, 97, 98, 99, 100, 101, 102, 103, 104, 105, 106, 107, 108, 109, 110, 111, 112, 113, 114, 115, 116, 117, 118, 119, 120, 121, 130, 131, 132, 133, 122, 123, 124, 125, 126, 127, 128, 129, 134, 135, 136, 137, 138, 139, 140, 141, 142, 143, 144, 145, 146, 147, 148, 149, 150, 151, 152, 153, 154, 155, 156, 157, 158, 159, 160, 161, 162, 163, 164, 165] (by decide +kernel) (by decide +kernel)
set_option maxRecDepth 20000 in
theorem gX11_setWait_X11_remember : GoodIn wsX11_setWait (wsV RX11 114 RX11 yX11_remember wsX11_remember) := goodIn_app (goodIn_of _ (by decide +kernel)) ggX11_setWait_X11_remember
theorem dX11_setWait_0 : decode cX11_setWait 0 = .ok (.aload_n 0, 1) := by decide +kernel
theorem dX11_setWait_1 : decode cX11_setWait 1 = .ok (.iload_n 1, 1) := by decide +kernel
theorem dX11_setWait_2 : decode cX11_setWait 2 = .ok (.invokevirtual 139, 3) := by decide +kernel
theorem dX11_setWait_5 : decode cX11_setWait 5 = .ok (.iload_n 2, 1) := by decide +kernel
theorem dX11_setWait_6 : decode cX11_setWait 6 = .ok (.iconst 0, 1) := by decide +kernel
theorem dX11_setWait_7 : decode cX11_setWait 7 = .ok (.bipush 99, 2) := by decide +kernel
theorem dX11_setWait_9 : decode cX11_setWait 9 = .ok (.invokestatic 99, 3) := by decide +kernel
theorem dX11_setWait_12 : decode cX11_setWait 12 = .ok (.invokestatic 103, 3) := by decide +kernel
theorem dX11_setWait_15 : decode cX11_setWait 15 = .ok (.aload_n 0, 1) := by decide +kernel
theorem dX11_setWait_16 : decode cX11_setWait 16 = .ok (.invokevirtual 114, 3) := by decide +kernel
theorem dX11_setWait_19 : decode cX11_setWait 19 = .ok (.aload_n 0, 1) := by decide +kernel
theorem dX11_setWait_20 : decode cX11_setWait 20 = .ok (.getfield 31, 3) := by decide +kernel
theorem dX11_setWait_23 : decode cX11_setWait 23 = .ok (.getfield 142, 3) := by decide +kernel
theorem dX11_setWait_26 : decode cX11_setWait 26 = .ok (.iload_n 1, 1) := by decide +kernel
theorem dX11_setWait_27 : decode cX11_setWait 27 = .ok (.iaload, 1) := by decide +kernel
theorem dX11_setWait_28 : decode cX11_setWait 28 = .ok (.istore_n 3, 1) := by decide +kernel
theorem dX11_setWait_29 : decode cX11_setWait 29 = .ok (.aload_n 0, 1) := by decide +kernel
theorem dX11_setWait_30 : decode cX11_setWait 30 = .ok (.getfield 31, 3) := by decide +kernel
theorem dX11_setWait_33 : decode cX11_setWait 33 = .ok (.getfield 142, 3) := by decide +kernel
theorem dX11_setWait_36 : decode cX11_setWait 36 = .ok (.iload_n 1, 1) := by decide +kernel
theorem dX11_setWait_37 : decode cX11_setWait 37 = .ok (.iload_n 2, 1) := by decide +kernel
theorem dX11_setWait_38 : decode cX11_setWait 38 = .ok (.iastore, 1) := by decide +kernel
theorem dX11_setWait_39 : decode cX11_setWait 39 = .ok (.iload_n 3, 1) := by decide +kernel
theorem dX11_setWait_40 : decode cX11_setWait 40 = .ok (.ireturn, 1) := by decide +kernel
set_option maxRecDepth 20000 in
theorem ggX11_readParts_X6_read : GoodIn wsX11_readParts wsX6_read := goodIn_r _ [14, 15, 16, 17, 18, 19, 20, 21, 22, 23, 13, 24, 25, 26, 27, 28, 29, 30, 31, 32, 33, 34, 35, 36, 37, 38, 39, 40, 41, 42, 43, 44, 45, 46, 164, 165, 166] (by decide +kernel) (by decide +kernel)
set_option maxRecDepth 20000 in
theorem gX11_readParts_X6_read : GoodIn wsX11_readParts (wsV RX11 148 RX6 yX6_read wsX6_read) := goodIn_app (goodIn_of _ (by decide +kernel)) ggX11_readParts_X6_read
set_option maxRecDepth 20000 in
theorem ggX11_readParts_X11_needRecipe : GoodIn wsX11_readParts wsX11_needRecipe := goodIn_ca (goodIn_r _ [50, 4, 51, 52, 34, 35, 36, 53, 54, 55, 56, 57, 150, 151, 152, 153, 154, 155, 156, 157, 158, 159, 160, 161, 162, 163, 167, 168, 169, 170, 171, 172, 173, 174] (by decide +kernel) (by decide +kernel)) (goodIn_sub (fun _ h => List.mem_cons_of_mem _ (List.mem_append_left _ (List.mem_append_right _ h))) (by decide +kernel))
set_option maxRecDepth 20000 in
theorem gX11_readParts_X11_needRecipe : GoodIn wsX11_readParts (wsV RX11 139 RX11 yX11_needRecipe wsX11_needRecipe) := goodIn_app (goodIn_of _ (by decide +kernel)) ggX11_readParts_X11_needRecipe
set_option maxRecDepth 20000 in
theorem ggX11_readParts_X11_needArgument : GoodIn wsX11_readParts wsX11_needArgument := goodIn_ca (goodIn_r _ [60, 61, 62] (by decide +kernel) (by decide +kernel)) (goodIn_sub (fun _ h => List.mem_cons_of_mem _ (List.mem_append_right _ h)) (by decide +kernel))
set_option maxRecDepth 20000 in
theorem gX11_readParts_X11_needArgument : GoodIn wsX11_readParts (va_wsS RX11 103 yX11_needArgument wsX11_needArgument) := goodIn_app (goodIn_of _ (by decide +kernel)) ggX11_readParts_X11_needArgument
set_option maxRecDepth 20000 in
theorem ggX11_readParts_X11_remember : GoodIn wsX11_readParts wsX11_remember := goodIn_r _ [66, 67, 68, 69, 70, 4, 71, 72, 73, 74, 75, 76, 77, 78, 79, 80, 81, 82, 83, 7, 8, 9, 84, 85, 86, 87, 88, 89, 90, 91, 92, 93, 94, 95, 96, 97, 98, 99, 100, 101, 102, 103, 104, 105, 106, 107, 108, 109, 110, 111, 112, 113, 114, 115, 116, 117, 118, 119, 120, 121, 122, 123, 124, 125, 126, 127, 128, 129, 130, 131, 132, 133, 134, 135, 136, 137, 138, 139, 140, 141, 142, 143, 144, 145, 150, 151, 152, 153, 154, 155, 156, 157, 158, 159, 160, 161, 162, 163, 175, 176, 177, 178, 167, 168, 169, 170, 171, 172, 173, 174, 179, 180, 181, 182, 183, 184, 185, 186, 187, 188, 189, 190, 191, 192, 193, 194, 195, 196, 197, 198, 199, 200, 201, 202, 203, 204, 205, 206, 207, 208, 209, 210] (by decide +kernel) (by decide +kernel)
set_option maxRecDepth 20000 in
theorem gX11_readParts_X11_remember : GoodIn wsX11_readParts (wsV RX11 114 RX11 yX11_remember wsX11_remember) := goodIn_app (goodIn_of _ (by decide +kernel)) ggX11_readParts_X11_remember
set_option maxRecDepth 20000 in
theorem ggX11_readParts_X8_partsUpTo : GoodIn wsX11_readParts wsX8_partsUpTo := goodIn_r _ [149, 95, 167, 168, 169, 170, 171, 172, 173, 174] (by decide +kernel) (by decide +kernel)
set_option maxRecDepth 20000 in
theorem gX11_readParts_X8_partsUpTo : GoodIn wsX11_readParts (wsV RX11 162 RX8 yX8_partsUpTo wsX8_partsUpTo) := goodIn_app (goodIn_of _ (by decide +kernel)) ggX11_readParts_X8_partsUpTo
theorem dX11_readParts_0 : decode cX11_readParts 0 = .ok (.aload_n 0, 1) := by decide +kernel
theorem dX11_readParts_1 : decode cX11_readParts 1 = .ok (.getfield 86, 3) := by decide +kernel
theorem dX11_readParts_4 : decode cX11_readParts 4 = .ok (.invokevirtual 148, 3) := by decide +kernel
theorem dX11_readParts_7 : decode cX11_readParts 7 = .ok (.istore_n 2, 1) := by decide +kernel
theorem dX11_readParts_8 : decode cX11_readParts 8 = .ok (.aload_n 0, 1) := by decide +kernel
theorem dX11_readParts_9 : decode cX11_readParts 9 = .ok (.getfield 86, 3) := by decide +kernel
theorem dX11_readParts_12 : decode cX11_readParts 12 = .ok (.iconst 0, 1) := by decide +kernel
theorem dX11_readParts_13 : decode cX11_readParts 13 = .ok (.putfield 152, 3) := by decide +kernel
theorem dX11_readParts_16 : decode cX11_readParts 16 = .ok (.aload_n 0, 1) := by decide +kernel
theorem dX11_readParts_17 : decode cX11_readParts 17 = .ok (.iload_n 1, 1) := by decide +kernel
theorem dX11_readParts_18 : decode cX11_readParts 18 = .ok (.invokevirtual 139, 3) := by decide +kernel
theorem dX11_readParts_21 : decode cX11_readParts 21 = .ok (.iload_n 2, 1) := by decide +kernel
theorem dX11_readParts_22 : decode cX11_readParts 22 = .ok (.iconst (-1), 1) := by decide +kernel
theorem dX11_readParts_23 : decode cX11_readParts 23 = .ok (.if_icmp .ne 7, 3) := by decide +kernel
theorem dX11_readParts_26 : decode cX11_readParts 26 = .ok (.iconst 1, 1) := by decide +kernel
theorem dX11_readParts_27 : decode cX11_readParts 27 = .ok (.goto 4, 3) := by decide +kernel
theorem dX11_readParts_30 : decode cX11_readParts 30 = .ok (.iconst 0, 1) := by decide +kernel
theorem dX11_readParts_31 : decode cX11_readParts 31 = .ok (.invokestatic 103, 3) := by decide +kernel
theorem dX11_readParts_34 : decode cX11_readParts 34 = .ok (.aload_n 0, 1) := by decide +kernel
theorem dX11_readParts_35 : decode cX11_readParts 35 = .ok (.invokevirtual 114, 3) := by decide +kernel
theorem dX11_readParts_38 : decode cX11_readParts 38 = .ok (.aload_n 0, 1) := by decide +kernel
theorem dX11_readParts_39 : decode cX11_readParts 39 = .ok (.getfield 86, 3) := by decide +kernel
theorem dX11_readParts_42 : decode cX11_readParts 42 = .ok (.getfield 155, 3) := by decide +kernel
theorem dX11_readParts_45 : decode cX11_readParts 45 = .ok (.iconst 0, 1) := by decide +kernel
theorem dX11_readParts_46 : decode cX11_readParts 46 = .ok (.aload_n 0, 1) := by decide +kernel
theorem dX11_readParts_47 : decode cX11_readParts 47 = .ok (.getfield 31, 3) := by decide +kernel
theorem dX11_readParts_50 : decode cX11_readParts 50 = .ok (.getfield 145, 3) := by decide +kernel
theorem dX11_readParts_53 : decode cX11_readParts 53 = .ok (.iload_n 1, 1) := by decide +kernel
theorem dX11_readParts_54 : decode cX11_readParts 54 = .ok (.bipush 8, 2) := by decide +kernel
theorem dX11_readParts_56 : decode cX11_readParts 56 = .ok (.imul, 1) := by decide +kernel
theorem dX11_readParts_57 : decode cX11_readParts 57 = .ok (.bipush 8, 2) := by decide +kernel
theorem dX11_readParts_59 : decode cX11_readParts 59 = .ok (.invokestatic 156, 3) := by decide +kernel
theorem dX11_readParts_62 : decode cX11_readParts 62 = .ok (.aload_n 0, 1) := by decide +kernel
theorem dX11_readParts_63 : decode cX11_readParts 63 = .ok (.getfield 31, 3) := by decide +kernel
theorem dX11_readParts_66 : decode cX11_readParts 66 = .ok (.iload_n 1, 1) := by decide +kernel
theorem dX11_readParts_67 : decode cX11_readParts 67 = .ok (.bipush 7, 2) := by decide +kernel
theorem dX11_readParts_69 : decode cX11_readParts 69 = .ok (.invokevirtual 162, 3) := by decide +kernel
theorem dX11_readParts_72 : decode cX11_readParts 72 = .ok (.ireturn, 1) := by decide +kernel
set_option maxRecDepth 20000 in
theorem ggX11_amount_X11_needRecipe : GoodIn wsX11_amount wsX11_needRecipe := goodIn_ca (goodIn_r _ [7, 2, 8, 9, 10, 6, 11, 12, 13, 14, 15, 16, 48, 49, 50, 51, 52, 53, 54, 55, 56, 57, 58, 59, 60, 61, 62, 63, 64, 65, 66, 67, 68, 69] (by decide +kernel) (by decide +kernel)) (goodIn_sub (fun _ h => List.mem_cons_of_mem _ (List.mem_append_left _ (List.mem_append_left _ (List.mem_append_right _ h)))) (by decide +kernel))
set_option maxRecDepth 20000 in
theorem gX11_amount_X11_needRecipe : GoodIn wsX11_amount (wsV RX11 139 RX11 yX11_needRecipe wsX11_needRecipe) := goodIn_app (goodIn_of _ (by decide +kernel)) ggX11_amount_X11_needRecipe
set_option maxRecDepth 20000 in
theorem ggX11_amount_X11_needGood : GoodIn wsX11_amount wsX11_needGood := goodIn_ca (goodIn_r _ [19, 9, 10, 6, 11, 12, 13, 14, 15, 16] (by decide +kernel) (by decide +kernel)) (goodIn_sub (fun _ h => List.mem_cons_of_mem _ (List.mem_append_left _ (List.mem_append_left _ (List.mem_append_right _ h)))) (by decide +kernel))
set_option maxRecDepth 20000 in
theorem gX11_amount_X11_needGood : GoodIn wsX11_amount (va_wsS RX11 94 yX11_needGood wsX11_needGood) := goodIn_app (goodIn_of _ (by decide +kernel)) ggX11_amount_X11_needGood
set_option maxRecDepth 20000 in
theorem ggX11_amount_X11_isWithin : GoodIn wsX11_amount wsX11_isWithin := goodIn_r _ [11] (by decide +kernel) (by decide +kernel)
set_option maxRecDepth 20000 in
theorem gX11_amount_X11_isWithin : GoodIn wsX11_amount (va_wsS RX11 99 yX11_isWithin wsX11_isWithin) := goodIn_app (goodIn_of _ (by decide +kernel)) ggX11_amount_X11_isWithin
set_option maxRecDepth 20000 in
theorem ggX11_amount_X11_needArgument : GoodIn wsX11_amount wsX11_needArgument := goodIn_ca (goodIn_r _ [22, 23, 24] (by decide +kernel) (by decide +kernel)) (goodIn_sub (fun _ h => List.mem_cons_of_mem _ (List.mem_append_left _ (List.mem_append_right _ h))) (by decide +kernel))
set_option maxRecDepth 20000 in
theorem gX11_amount_X11_needArgument : GoodIn wsX11_amount (va_wsS RX11 103 yX11_needArgument wsX11_needArgument) := goodIn_app (goodIn_of _ (by decide +kernel)) ggX11_amount_X11_needArgument
set_option maxRecDepth 20000 in
theorem ggX11_amount_X8_hasParts : GoodIn wsX11_amount wsX8_hasParts := goodIn_r _ [29, 30, 31, 32, 28, 33, 34, 62, 63, 64, 65, 66, 67, 68, 69] (by decide +kernel) (by decide +kernel)
set_option maxRecDepth 20000 in
theorem gX11_amount_X8_hasParts : GoodIn wsX11_amount (wsV RX11 167 RX8 yX8_hasParts wsX8_hasParts) := goodIn_app (goodIn_of _ (by decide +kernel)) ggX11_amount_X8_hasParts
set_option maxRecDepth 20000 in
theorem ggX11_amount_X11_needState : GoodIn wsX11_amount wsX11_needState := goodIn_ca (goodIn_r _ [37, 38, 39] (by decide +kernel) (by decide +kernel)) (goodIn_sub (fun _ h => List.mem_cons_of_mem _ (List.mem_append_right _ h)) (by decide +kernel))
set_option maxRecDepth 20000 in
theorem gX11_amount_X11_needState : GoodIn wsX11_amount (va_wsS RX11 111 yX11_needState wsX11_needState) := goodIn_app (goodIn_of _ (by decide +kernel)) ggX11_amount_X11_needState
set_option maxRecDepth 20000 in
theorem ggX11_amount_X8_scaled : GoodIn wsX11_amount wsX8_scaled := goodIn_r _ [43, 44, 45, 46, 28, 47, 30, 31, 32, 33, 34, 62, 63, 64, 65, 66, 67, 68, 69] (by decide +kernel) (by decide +kernel)
set_option maxRecDepth 20000 in
theorem gX11_amount_X8_scaled : GoodIn wsX11_amount (wsV RX11 171 RX8 yX8_scaled wsX8_scaled) := goodIn_app (goodIn_of _ (by decide +kernel)) ggX11_amount_X8_scaled
theorem dX11_amount_0 : decode cX11_amount 0 = .ok (.aload_n 0, 1) := by decide +kernel
theorem dX11_amount_1 : decode cX11_amount 1 = .ok (.iload_n 1, 1) := by decide +kernel
theorem dX11_amount_2 : decode cX11_amount 2 = .ok (.invokevirtual 139, 3) := by decide +kernel
theorem dX11_amount_5 : decode cX11_amount 5 = .ok (.iload_n 3, 1) := by decide +kernel
theorem dX11_amount_6 : decode cX11_amount 6 = .ok (.invokestatic 94, 3) := by decide +kernel
theorem dX11_amount_9 : decode cX11_amount 9 = .ok (.iload_n 2, 1) := by decide +kernel
theorem dX11_amount_10 : decode cX11_amount 10 = .ok (.iconst 1, 1) := by decide +kernel
theorem dX11_amount_11 : decode cX11_amount 11 = .ok (.ldc 166, 2) := by decide +kernel
theorem dX11_amount_13 : decode cX11_amount 13 = .ok (.invokestatic 99, 3) := by decide +kernel
theorem dX11_amount_16 : decode cX11_amount 16 = .ok (.invokestatic 103, 3) := by decide +kernel
theorem dX11_amount_19 : decode cX11_amount 19 = .ok (.aload_n 0, 1) := by decide +kernel
theorem dX11_amount_20 : decode cX11_amount 20 = .ok (.getfield 31, 3) := by decide +kernel
theorem dX11_amount_23 : decode cX11_amount 23 = .ok (.iload_n 1, 1) := by decide +kernel
theorem dX11_amount_24 : decode cX11_amount 24 = .ok (.invokevirtual 167, 3) := by decide +kernel
theorem dX11_amount_27 : decode cX11_amount 27 = .ok (.invokestatic 111, 3) := by decide +kernel
theorem dX11_amount_30 : decode cX11_amount 30 = .ok (.aload_n 0, 1) := by decide +kernel
theorem dX11_amount_31 : decode cX11_amount 31 = .ok (.getfield 31, 3) := by decide +kernel
theorem dX11_amount_34 : decode cX11_amount 34 = .ok (.iload_n 1, 1) := by decide +kernel
theorem dX11_amount_35 : decode cX11_amount 35 = .ok (.iload_n 2, 1) := by decide +kernel
theorem dX11_amount_36 : decode cX11_amount 36 = .ok (.iload_n 3, 1) := by decide +kernel
theorem dX11_amount_37 : decode cX11_amount 37 = .ok (.invokevirtual 171, 3) := by decide +kernel
theorem dX11_amount_40 : decode cX11_amount 40 = .ok (.ireturn, 1) := by decide +kernel
set_option maxRecDepth 20000 in
theorem ggX11_mix_X11_needRecipe : GoodIn wsX11_mix wsX11_needRecipe := goodIn_ca (goodIn_r _ [11, 1, 12, 13, 14, 10, 15, 16, 17, 18, 19, 20, 142, 143, 144, 145, 146, 147, 148, 149, 150, 151, 152, 153, 154, 155, 156, 157, 158, 159, 160, 161, 162, 163] (by decide +kernel) (by decide +kernel)) (goodIn_sub (fun _ h => List.mem_cons_of_mem _ (List.mem_append_left _ (List.mem_append_left _ (List.mem_append_right _ h)))) (by decide +kernel))
set_option maxRecDepth 20000 in
theorem gX11_mix_X11_needRecipe : GoodIn wsX11_mix (wsV RX11 139 RX11 yX11_needRecipe wsX11_needRecipe) := goodIn_app (goodIn_of _ (by decide +kernel)) ggX11_mix_X11_needRecipe
set_option maxRecDepth 20000 in
theorem ggX11_mix_X11_isWithin : GoodIn wsX11_mix wsX11_isWithin := goodIn_r _ [15] (by decide +kernel) (by decide +kernel)
set_option maxRecDepth 20000 in
theorem gX11_mix_X11_isWithin : GoodIn wsX11_mix (va_wsS RX11 99 yX11_isWithin wsX11_isWithin) := goodIn_app (goodIn_of _ (by decide +kernel)) ggX11_mix_X11_isWithin
set_option maxRecDepth 20000 in
theorem ggX11_mix_X11_needArgument : GoodIn wsX11_mix wsX11_needArgument := goodIn_ca (goodIn_r _ [23, 24, 25] (by decide +kernel) (by decide +kernel)) (goodIn_sub (fun _ h => List.mem_cons_of_mem _ (List.mem_append_left _ (List.mem_append_right _ h))) (by decide +kernel))
set_option maxRecDepth 20000 in
theorem gX11_mix_X11_needArgument : GoodIn wsX11_mix (va_wsS RX11 103 yX11_needArgument wsX11_needArgument) := goodIn_app (goodIn_of _ (by decide +kernel)) ggX11_mix_X11_needArgument
set_option maxRecDepth 20000 in
theorem ggX11_mix_X8_hasParts : GoodIn wsX11_mix wsX8_hasParts := goodIn_r _ [30, 31, 32, 33, 29, 34, 35, 156, 157, 158, 159, 160, 161, 162, 163] (by decide +kernel) (by decide +kernel)
set_option maxRecDepth 20000 in
theorem gX11_mix_X8_hasParts : GoodIn wsX11_mix (wsV RX11 167 RX8 yX8_hasParts wsX8_hasParts) := goodIn_app (goodIn_of _ (by decide +kernel)) ggX11_mix_X8_hasParts
set_option maxRecDepth 20000 in
theorem ggX11_mix_X11_isEnoughFor : GoodIn wsX11_mix wsX11_isEnoughFor := goodIn_r _ [39, 5, 6, 1, 40, 41, 42, 29, 43, 44, 45, 46, 47, 31, 32, 33, 34, 35, 142, 143, 144, 145, 146, 147, 148, 149, 150, 151, 152, 153, 154, 155, 172, 173, 174, 175, 156, 157, 158, 159, 160, 161, 162, 163] (by decide +kernel) (by decide +kernel)
set_option maxRecDepth 20000 in
theorem gX11_mix_X11_isEnoughFor : GoodIn wsX11_mix (wsV RX11 176 RX11 yX11_isEnoughFor wsX11_isEnoughFor) := goodIn_app (goodIn_of _ (by decide +kernel)) ggX11_mix_X11_isEnoughFor
set_option maxRecDepth 20000 in
theorem ggX11_mix_X11_needState : GoodIn wsX11_mix wsX11_needState := goodIn_ca (goodIn_r _ [50, 51, 52] (by decide +kernel) (by decide +kernel)) (goodIn_sub (fun _ h => List.mem_cons_of_mem _ (List.mem_append_right _ h)) (by decide +kernel))
set_option maxRecDepth 20000 in
theorem gX11_mix_X11_needState : GoodIn wsX11_mix (va_wsS RX11 111 yX11_needState wsX11_needState) := goodIn_app (goodIn_of _ (by decide +kernel)) ggX11_mix_X11_needState
set_option maxRecDepth 20000 in
theorem ggX11_mix_X11_remember : GoodIn wsX11_mix wsX11_remember := goodIn_r _ [56, 57, 58, 5, 59, 1, 3, 60, 61, 62, 63, 64, 65, 66, 67, 68, 69, 70, 71, 72, 73, 74, 75, 76, 77, 78, 79, 80, 29, 81, 82, 83, 84, 35, 85, 86, 87, 88, 89, 90, 91, 92, 93, 94, 95, 96, 97, 98, 99, 100, 101, 102, 103, 104, 105, 106, 107, 108, 109, 110, 111, 112, 113, 114, 115, 116, 117, 118, 119, 120, 121, 122, 123, 124, 125, 126, 127, 128, 129, 130, 131, 132, 133, 134, 142, 143, 144, 145, 146, 147, 148, 149, 150, 151, 152, 153, 154, 155, 172, 173, 174, 175, 156, 157, 158, 159, 160, 161, 162, 163, 164, 165, 166, 167, 168, 169, 170, 171, 176, 177, 178, 179, 180, 181, 182, 183, 184, 185, 186, 187, 188, 189, 190, 191, 192, 193, 194, 195, 196, 197, 198, 199] (by decide +kernel) (by decide +kernel)
set_option maxRecDepth 20000 in
theorem gX11_mix_X11_remember : GoodIn wsX11_mix (wsV RX11 114 RX11 yX11_remember wsX11_remember) := goodIn_app (goodIn_of _ (by decide +kernel)) ggX11_mix_X11_remember
set_option maxRecDepth 20000 in
theorem ggX11_mix_X8_scaled : GoodIn wsX11_mix wsX8_scaled := goodIn_r _ [43, 44, 45, 46, 29, 47, 31, 32, 33, 34, 35, 156, 157, 158, 159, 160, 161, 162, 163] (by decide +kernel) (by decide +kernel)
set_option maxRecDepth 20000 in
theorem gX11_mix_X8_scaled : GoodIn wsX11_mix (wsV RX11 171 RX8 yX8_scaled wsX8_scaled) := goodIn_app (goodIn_of _ (by decide +kernel)) ggX11_mix_X8_scaled
set_option maxRecDepth 20000 in
theorem ggX11_mix_X2_add : GoodIn wsX11_mix wsX2_add := goodIn_r _ [138, 90, 139, 140, 141, 91, 93, 94, 95, 164, 165, 166, 167, 168, 169, 170, 171] (by decide +kernel) (by decide +kernel)
set_option maxRecDepth 20000 in
theorem gX11_mix_X2_add : GoodIn wsX11_mix (wsV RX11 180 RX2 yX2_add wsX2_add) := goodIn_app (goodIn_of _ (by decide +kernel)) ggX11_mix_X2_add
theorem dX11_mix_0 : decode cX11_mix 0 = .ok (.aload_n 0, 1) := by decide +kernel
theorem dX11_mix_1 : decode cX11_mix 1 = .ok (.iload_n 1, 1) := by decide +kernel
theorem dX11_mix_2 : decode cX11_mix 2 = .ok (.invokevirtual 139, 3) := by decide +kernel
theorem dX11_mix_5 : decode cX11_mix 5 = .ok (.iload_n 2, 1) := by decide +kernel
theorem dX11_mix_6 : decode cX11_mix 6 = .ok (.iconst 1, 1) := by decide +kernel
theorem dX11_mix_7 : decode cX11_mix 7 = .ok (.bipush 40, 2) := by decide +kernel
theorem dX11_mix_9 : decode cX11_mix 9 = .ok (.invokestatic 99, 3) := by decide +kernel
theorem dX11_mix_12 : decode cX11_mix 12 = .ok (.invokestatic 103, 3) := by decide +kernel
theorem dX11_mix_15 : decode cX11_mix 15 = .ok (.iload_n 2, 1) := by decide +kernel
theorem dX11_mix_16 : decode cX11_mix 16 = .ok (.aload_n 0, 1) := by decide +kernel
theorem dX11_mix_17 : decode cX11_mix 17 = .ok (.getfield 31, 3) := by decide +kernel
theorem dX11_mix_20 : decode cX11_mix 20 = .ok (.getfield 124, 3) := by decide +kernel
theorem dX11_mix_23 : decode cX11_mix 23 = .ok (.iload_n 1, 1) := by decide +kernel
theorem dX11_mix_24 : decode cX11_mix 24 = .ok (.iaload, 1) := by decide +kernel
theorem dX11_mix_25 : decode cX11_mix 25 = .ok (.imul, 1) := by decide +kernel
theorem dX11_mix_26 : decode cX11_mix 26 = .ok (.istore_n 3, 1) := by decide +kernel
theorem dX11_mix_27 : decode cX11_mix 27 = .ok (.aload_n 0, 1) := by decide +kernel
theorem dX11_mix_28 : decode cX11_mix 28 = .ok (.getfield 36, 3) := by decide +kernel
theorem dX11_mix_31 : decode cX11_mix 31 = .ok (.getfield 175, 3) := by decide +kernel
theorem dX11_mix_34 : decode cX11_mix 34 = .ok (.bipush 20, 2) := by decide +kernel
theorem dX11_mix_36 : decode cX11_mix 36 = .ok (.if_icmp .ge 27, 3) := by decide +kernel
theorem dX11_mix_39 : decode cX11_mix 39 = .ok (.aload_n 0, 1) := by decide +kernel
theorem dX11_mix_40 : decode cX11_mix 40 = .ok (.getfield 31, 3) := by decide +kernel
theorem dX11_mix_43 : decode cX11_mix 43 = .ok (.iload_n 1, 1) := by decide +kernel
theorem dX11_mix_44 : decode cX11_mix 44 = .ok (.invokevirtual 167, 3) := by decide +kernel
theorem dX11_mix_47 : decode cX11_mix 47 = .ok (.ifCond .eq 16, 3) := by decide +kernel
theorem dX11_mix_50 : decode cX11_mix 50 = .ok (.aload_n 0, 1) := by decide +kernel
theorem dX11_mix_51 : decode cX11_mix 51 = .ok (.iload_n 1, 1) := by decide +kernel
theorem dX11_mix_52 : decode cX11_mix 52 = .ok (.iload_n 3, 1) := by decide +kernel
theorem dX11_mix_53 : decode cX11_mix 53 = .ok (.invokevirtual 176, 3) := by decide +kernel
theorem dX11_mix_56 : decode cX11_mix 56 = .ok (.ifCond .eq 7, 3) := by decide +kernel
theorem dX11_mix_59 : decode cX11_mix 59 = .ok (.iconst 1, 1) := by decide +kernel
theorem dX11_mix_60 : decode cX11_mix 60 = .ok (.goto 4, 3) := by decide +kernel
theorem dX11_mix_63 : decode cX11_mix 63 = .ok (.iconst 0, 1) := by decide +kernel
theorem dX11_mix_64 : decode cX11_mix 64 = .ok (.invokestatic 111, 3) := by decide +kernel
theorem dX11_mix_67 : decode cX11_mix 67 = .ok (.aload_n 0, 1) := by decide +kernel
theorem dX11_mix_68 : decode cX11_mix 68 = .ok (.invokevirtual 114, 3) := by decide +kernel
theorem dX11_mix_71 : decode cX11_mix 71 = .ok (.iconst 0, 1) := by decide +kernel
theorem dX11_mix_72 : decode cX11_mix 72 = .ok (.istore 4, 2) := by decide +kernel
theorem dX11_mix_74 : decode cX11_mix 74 = .ok (.iload 4, 2) := by decide +kernel
theorem dX11_mix_76 : decode cX11_mix 76 = .ok (.bipush 8, 2) := by decide +kernel
theorem dX11_mix_78 : decode cX11_mix 78 = .ok (.if_icmp .ge 33, 3) := by decide +kernel
theorem dX11_mix_81 : decode cX11_mix 81 = .ok (.aload_n 0, 1) := by decide +kernel
theorem dX11_mix_82 : decode cX11_mix 82 = .ok (.getfield 24, 3) := by decide +kernel
theorem dX11_mix_85 : decode cX11_mix 85 = .ok (.getfield 107, 3) := by decide +kernel
theorem dX11_mix_88 : decode cX11_mix 88 = .ok (.iload 4, 2) := by decide +kernel
theorem dX11_mix_90 : decode cX11_mix 90 = .ok (.dup2, 1) := by decide +kernel
theorem dX11_mix_91 : decode cX11_mix 91 = .ok (.iaload, 1) := by decide +kernel
theorem dX11_mix_92 : decode cX11_mix 92 = .ok (.aload_n 0, 1) := by decide +kernel
theorem dX11_mix_93 : decode cX11_mix 93 = .ok (.getfield 31, 3) := by decide +kernel
theorem dX11_mix_96 : decode cX11_mix 96 = .ok (.iload_n 1, 1) := by decide +kernel
theorem dX11_mix_97 : decode cX11_mix 97 = .ok (.iload_n 3, 1) := by decide +kernel
theorem dX11_mix_98 : decode cX11_mix 98 = .ok (.iload 4, 2) := by decide +kernel
theorem dX11_mix_100 : decode cX11_mix 100 = .ok (.invokevirtual 171, 3) := by decide +kernel
theorem dX11_mix_103 : decode cX11_mix 103 = .ok (.isub, 1) := by decide +kernel
theorem dX11_mix_104 : decode cX11_mix 104 = .ok (.iastore, 1) := by decide +kernel
theorem dX11_mix_105 : decode cX11_mix 105 = .ok (.iinc 4 1, 3) := by decide +kernel
theorem dX11_mix_108 : decode cX11_mix 108 = .ok (.goto (-34), 3) := by decide +kernel
theorem dX11_mix_111 : decode cX11_mix 111 = .ok (.aload_n 0, 1) := by decide +kernel
theorem dX11_mix_112 : decode cX11_mix 112 = .ok (.getfield 36, 3) := by decide +kernel
theorem dX11_mix_115 : decode cX11_mix 115 = .ok (.iload_n 1, 1) := by decide +kernel
theorem dX11_mix_116 : decode cX11_mix 116 = .ok (.iload_n 2, 1) := by decide +kernel
theorem dX11_mix_117 : decode cX11_mix 117 = .ok (.iload_n 3, 1) := by decide +kernel
theorem dX11_mix_118 : decode cX11_mix 118 = .ok (.invokevirtual 180, 3) := by decide +kernel
theorem dX11_mix_121 : decode cX11_mix 121 = .ok (.ireturn, 1) := by decide +kernel
set_option maxRecDepth 20000 in
theorem ggX11_setWarmth_X11_isWithin : GoodIn wsX11_setWarmth wsX11_isWithin := goodIn_r _ [6] (by decide +kernel) (by decide +kernel)
set_option maxRecDepth 20000 in
theorem gX11_setWarmth_X11_isWithin : GoodIn wsX11_setWarmth (va_wsS RX11 99 yX11_isWithin wsX11_isWithin) := goodIn_app (goodIn_of _ (by decide +kernel)) ggX11_setWarmth_X11_isWithin
set_option maxRecDepth 20000 in
theorem ggX11_setWarmth_X11_needArgument : GoodIn wsX11_setWarmth wsX11_needArgument := goodIn_ca (goodIn_r _ [9, 10, 11] (by decide +kernel) (by decide +kernel)) (goodIn_sub (fun _ h => List.mem_cons_of_mem _ (List.mem_append_right _ h)) (by decide +kernel))
set_option maxRecDepth 20000 in
theorem gX11_setWarmth_X11_needArgument : GoodIn wsX11_setWarmth (va_wsS RX11 103 yX11_needArgument wsX11_needArgument) := goodIn_app (goodIn_of _ (by decide +kernel)) ggX11_setWarmth_X11_needArgument
set_option maxRecDepth 20000 in
theorem ggX11_setWarmth_X11_remember : GoodIn wsX11_setWarmth wsX11_remember := goodIn_r _ [15, 16, 17, 18, 19, 20, 21, 1, 22, 23, 24, 25, 26, 27, 28, 29, 30, 31, 32, 33, 34, 35, 36, 37, 38, 39, 40, 41, 42, 43, 44, 45, 46, 47, 48, 49, 50, 51, 52, 53, 54, 55, 56, 57, 58, 59, 60, 61, 62, 63, 64, 65, 66, 67, 68, 69, 70, 71, 72, 73, 74, 75, 76, 77, 78, 79, 80, 81, 82, 83, 84, 85, 86, 87, 88, 89, 90, 91, 92, 93, 94, 95, 96, 97, 98, 99, 100, 101, 102, 103, 104, 105, 106, 107, 108, 109, 110, 111, 117, 118, 119, 120, 121, 122, 123, 124, 125, 126, 127, 128, 129, 130, 131, 132, 133, 134, 135, 136, 112, 113, 114, 115, 116, 137, 138, 139, 140, 141, 142, 143, 144, 145, 146, 147, 148, 149, 150, 151, 152, 153, 154, 155] (by decide +kernel) (by decide +kernel)
set_option maxRecDepth 20000 in
theorem gX11_setWarmth_X11_remember : GoodIn wsX11_setWarmth (wsV RX11 114 RX11 yX11_remember wsX11_remember) := goodIn_app (goodIn_of _ (by decide +kernel)) ggX11_setWarmth_X11_remember
theorem dX11_setWarmth_0 : decode cX11_setWarmth 0 = .ok (.iload_n 1, 1) := by decide +kernel
theorem dX11_setWarmth_1 : decode cX11_setWarmth 1 = .ok (.iconst 0, 1) := by decide +kernel
theorem dX11_setWarmth_2 : decode cX11_setWarmth 2 = .ok (.iconst 5, 1) := by decide +kernel
theorem dX11_setWarmth_3 : decode cX11_setWarmth 3 = .ok (.invokestatic 99, 3) := by decide +kernel
theorem dX11_setWarmth_6 : decode cX11_setWarmth 6 = .ok (.invokestatic 103, 3) := by decide +kernel
theorem dX11_setWarmth_9 : decode cX11_setWarmth 9 = .ok (.aload_n 0, 1) := by decide +kernel
theorem dX11_setWarmth_10 : decode cX11_setWarmth 10 = .ok (.invokevirtual 114, 3) := by decide +kernel
theorem dX11_setWarmth_13 : decode cX11_setWarmth 13 = .ok (.aload_n 0, 1) := by decide +kernel
theorem dX11_setWarmth_14 : decode cX11_setWarmth 14 = .ok (.getfield 41, 3) := by decide +kernel
theorem dX11_setWarmth_17 : decode cX11_setWarmth 17 = .ok (.getfield 183, 3) := by decide +kernel
theorem dX11_setWarmth_20 : decode cX11_setWarmth 20 = .ok (.istore_n 2, 1) := by decide +kernel
theorem dX11_setWarmth_21 : decode cX11_setWarmth 21 = .ok (.aload_n 0, 1) := by decide +kernel
theorem dX11_setWarmth_22 : decode cX11_setWarmth 22 = .ok (.getfield 41, 3) := by decide +kernel
theorem dX11_setWarmth_25 : decode cX11_setWarmth 25 = .ok (.iload_n 1, 1) := by decide +kernel
theorem dX11_setWarmth_26 : decode cX11_setWarmth 26 = .ok (.putfield 183, 3) := by decide +kernel
theorem dX11_setWarmth_29 : decode cX11_setWarmth 29 = .ok (.iload_n 2, 1) := by decide +kernel
theorem dX11_setWarmth_30 : decode cX11_setWarmth 30 = .ok (.ireturn, 1) := by decide +kernel
set_option maxRecDepth 20000 in
theorem ggX11_pass_X11_isWithin : GoodIn wsX11_pass wsX11_isWithin := goodIn_r _ [8] (by decide +kernel) (by decide +kernel)
set_option maxRecDepth 20000 in
theorem gX11_pass_X11_isWithin : GoodIn wsX11_pass (va_wsS RX11 99 yX11_isWithin wsX11_isWithin) := goodIn_app (goodIn_of _ (by decide +kernel)) ggX11_pass_X11_isWithin
set_option maxRecDepth 20000 in
theorem ggX11_pass_X11_needArgument : GoodIn wsX11_pass wsX11_needArgument := goodIn_ca (goodIn_r _ [11, 12, 13] (by decide +kernel) (by decide +kernel)) (goodIn_sub (fun _ h => List.mem_cons_of_mem _ (List.mem_append_left _ (List.mem_append_right _ h))) (by decide +kernel))
set_option maxRecDepth 20000 in
theorem gX11_pass_X11_needArgument : GoodIn wsX11_pass (va_wsS RX11 103 yX11_needArgument wsX11_needArgument) := goodIn_app (goodIn_of _ (by decide +kernel)) ggX11_pass_X11_needArgument
set_option maxRecDepth 20000 in
theorem ggX11_pass_X11_needState : GoodIn wsX11_pass wsX11_needState := goodIn_ca (goodIn_r _ [16, 17, 18] (by decide +kernel) (by decide +kernel)) (goodIn_sub (fun _ h => List.mem_cons_of_mem _ (List.mem_append_right _ h)) (by decide +kernel))
set_option maxRecDepth 20000 in
theorem gX11_pass_X11_needState : GoodIn wsX11_pass (va_wsS RX11 111 yX11_needState wsX11_needState) := goodIn_app (goodIn_of _ (by decide +kernel)) ggX11_pass_X11_needState
set_option maxRecDepth 20000 in
theorem ggX11_pass_X11_remember : GoodIn wsX11_pass wsX11_remember := goodIn_r _ [22, 23, 24, 25, 26, 27, 4, 1, 28, 29, 30, 31, 32, 33, 34, 35, 36, 37, 38, 39, 40, 41, 42, 43, 44, 45, 46, 47, 48, 49, 50, 51, 52, 53, 54, 55, 56, 57, 58, 59, 60, 61, 62, 63, 64, 65, 66, 67, 68, 69, 70, 71, 72, 73, 74, 75, 76, 77, 78, 79, 80, 81, 82, 83, 84, 85, 86, 87, 88, 89, 90, 91, 92, 93, 94, 95, 96, 97, 98, 99, 100, 101, 102, 103, 134, 135, 136, 137, 138, 139, 140, 141, 142, 143, 144, 145, 146, 147, 153, 154, 155, 156, 157, 158, 159, 160, 161, 162, 163, 164, 165, 166, 167, 168, 169, 170, 171, 172, 148, 149, 150, 151, 152, 173, 174, 175, 176, 177, 178, 179, 180, 181, 182, 183, 184, 185, 186, 187, 188, 189, 190, 191] (by decide +kernel) (by decide +kernel)
set_option maxRecDepth 20000 in
theorem gX11_pass_X11_remember : GoodIn wsX11_pass (wsV RX11 114 RX11 yX11_remember wsX11_remember) := goodIn_app (goodIn_of _ (by decide +kernel)) ggX11_pass_X11_remember
set_option maxRecDepth 20000 in
theorem ggX11_pass_X5_letPass : GoodIn wsX11_pass wsX5_letPass := goodIn_r _ [107, 70, 73, 74, 108, 109, 110, 111, 112, 113, 114, 148, 149, 150, 151, 152] (by decide +kernel) (by decide +kernel)
set_option maxRecDepth 20000 in
theorem gX11_pass_X5_letPass : GoodIn wsX11_pass (wsV RX11 189 RX5 yX5_letPass wsX5_letPass) := goodIn_app (goodIn_of _ (by decide +kernel)) ggX11_pass_X5_letPass
set_option maxRecDepth 20000 in
theorem ggX11_pass_X5_pointsOfATick : GoodIn wsX11_pass wsX5_pointsOfATick := goodIn_r _ [118, 71, 119, 6, 7, 8, 148, 149, 150, 151, 152] (by decide +kernel) (by decide +kernel)
set_option maxRecDepth 20000 in
theorem gX11_pass_X5_pointsOfATick : GoodIn wsX11_pass (wsV RX11 192 RX5 yX5_pointsOfATick wsX5_pointsOfATick) := goodIn_app (goodIn_of _ (by decide +kernel)) ggX11_pass_X5_pointsOfATick
set_option maxRecDepth 20000 in
theorem ggX11_pass_X2_rise : GoodIn wsX11_pass wsX2_rise := goodIn_r _ [123, 59, 62, 60, 165, 166, 167, 168, 169, 170, 171, 172] (by decide +kernel) (by decide +kernel)
set_option maxRecDepth 20000 in
theorem gX11_pass_X2_rise : GoodIn wsX11_pass (wsV RX11 195 RX2 yX2_rise wsX2_rise) := goodIn_app (goodIn_of _ (by decide +kernel)) ggX11_pass_X2_rise
set_option maxRecDepth 20000 in
theorem ggX11_pass_X11_takeOutOfOven : GoodIn wsX11_pass wsX11_takeOutOfOven := goodIn_r _ [127, 4, 128, 129, 130, 1, 2, 28, 131, 132, 133, 134, 135, 136, 137, 138, 139, 140, 141, 142, 143, 144, 145, 146, 147, 165, 166, 167, 168, 169, 170, 171, 172, 148, 149, 150, 151, 152, 173] (by decide +kernel) (by decide +kernel)
set_option maxRecDepth 20000 in
theorem gX11_pass_X11_takeOutOfOven : GoodIn wsX11_pass (wsV RX11 198 RX11 yX11_takeOutOfOven wsX11_takeOutOfOven) := goodIn_app (goodIn_of _ (by decide +kernel)) ggX11_pass_X11_takeOutOfOven
theorem dX11_pass_0 : decode cX11_pass 0 = .ok (.iload_n 1, 1) := by decide +kernel
theorem dX11_pass_1 : decode cX11_pass 1 = .ok (.iconst 1, 1) := by decide +kernel
theorem dX11_pass_2 : decode cX11_pass 2 = .ok (.sipush 200, 3) := by decide +kernel
theorem dX11_pass_5 : decode cX11_pass 5 = .ok (.invokestatic 99, 3) := by decide +kernel
theorem dX11_pass_8 : decode cX11_pass 8 = .ok (.invokestatic 103, 3) := by decide +kernel
theorem dX11_pass_11 : decode cX11_pass 11 = .ok (.aload_n 0, 1) := by decide +kernel
theorem dX11_pass_12 : decode cX11_pass 12 = .ok (.getfield 41, 3) := by decide +kernel
theorem dX11_pass_15 : decode cX11_pass 15 = .ok (.getfield 186, 3) := by decide +kernel
theorem dX11_pass_18 : decode cX11_pass 18 = .ok (.iload_n 1, 1) := by decide +kernel
theorem dX11_pass_19 : decode cX11_pass 19 = .ok (.iadd, 1) := by decide +kernel
theorem dX11_pass_20 : decode cX11_pass 20 = .ok (.ldc 166, 2) := by decide +kernel
theorem dX11_pass_22 : decode cX11_pass 22 = .ok (.if_icmp .gt 7, 3) := by decide +kernel
theorem dX11_pass_25 : decode cX11_pass 25 = .ok (.iconst 1, 1) := by decide +kernel
theorem dX11_pass_26 : decode cX11_pass 26 = .ok (.goto 4, 3) := by decide +kernel
theorem dX11_pass_29 : decode cX11_pass 29 = .ok (.iconst 0, 1) := by decide +kernel
theorem dX11_pass_30 : decode cX11_pass 30 = .ok (.invokestatic 111, 3) := by decide +kernel
theorem dX11_pass_33 : decode cX11_pass 33 = .ok (.aload_n 0, 1) := by decide +kernel
theorem dX11_pass_34 : decode cX11_pass 34 = .ok (.invokevirtual 114, 3) := by decide +kernel
theorem dX11_pass_37 : decode cX11_pass 37 = .ok (.aload_n 0, 1) := by decide +kernel
theorem dX11_pass_38 : decode cX11_pass 38 = .ok (.getfield 41, 3) := by decide +kernel
theorem dX11_pass_41 : decode cX11_pass 41 = .ok (.iload_n 1, 1) := by decide +kernel
theorem dX11_pass_42 : decode cX11_pass 42 = .ok (.invokevirtual 189, 3) := by decide +kernel
theorem dX11_pass_45 : decode cX11_pass 45 = .ok (.aload_n 0, 1) := by decide +kernel
theorem dX11_pass_46 : decode cX11_pass 46 = .ok (.getfield 36, 3) := by decide +kernel
theorem dX11_pass_49 : decode cX11_pass 49 = .ok (.iload_n 1, 1) := by decide +kernel
theorem dX11_pass_50 : decode cX11_pass 50 = .ok (.aload_n 0, 1) := by decide +kernel
theorem dX11_pass_51 : decode cX11_pass 51 = .ok (.getfield 41, 3) := by decide +kernel
theorem dX11_pass_54 : decode cX11_pass 54 = .ok (.invokevirtual 192, 3) := by decide +kernel
theorem dX11_pass_57 : decode cX11_pass 57 = .ok (.imul, 1) := by decide +kernel
theorem dX11_pass_58 : decode cX11_pass 58 = .ok (.invokevirtual 195, 3) := by decide +kernel
theorem dX11_pass_61 : decode cX11_pass 61 = .ok (.aload_n 0, 1) := by decide +kernel
theorem dX11_pass_62 : decode cX11_pass 62 = .ok (.invokevirtual 198, 3) := by decide +kernel
theorem dX11_pass_65 : decode cX11_pass 65 = .ok (.aload_n 0, 1) := by decide +kernel
theorem dX11_pass_66 : decode cX11_pass 66 = .ok (.getfield 41, 3) := by decide +kernel
theorem dX11_pass_69 : decode cX11_pass 69 = .ok (.getfield 186, 3) := by decide +kernel
theorem dX11_pass_72 : decode cX11_pass 72 = .ok (.ireturn, 1) := by decide +kernel
theorem dX11_now_0 : decode cX11_now 0 = .ok (.aload_n 0, 1) := by decide +kernel
theorem dX11_now_1 : decode cX11_now 1 = .ok (.getfield 41, 3) := by decide +kernel
theorem dX11_now_4 : decode cX11_now 4 = .ok (.getfield 186, 3) := by decide +kernel
theorem dX11_now_7 : decode cX11_now 7 = .ok (.ireturn, 1) := by decide +kernel
set_option maxRecDepth 20000 in
theorem ggX11_shape_X11_needDough : GoodIn wsX11_shape wsX11_needDough := goodIn_ca (goodIn_r _ [11, 1, 12, 13, 14, 10, 15, 16, 17, 18, 19, 20, 122, 123, 124, 125, 126, 127, 128, 129, 130, 131, 132, 133, 134, 135, 136, 137, 138, 139, 140, 141, 142, 143] (by decide +kernel) (by decide +kernel)) (goodIn_sub (fun _ h => List.mem_cons_of_mem _ (List.mem_append_left _ (List.mem_append_right _ h))) (by decide +kernel))
set_option maxRecDepth 20000 in
theorem gX11_shape_X11_needDough : GoodIn wsX11_shape (wsV RX11 201 RX11 yX11_needDough wsX11_needDough) := goodIn_app (goodIn_of _ (by decide +kernel)) ggX11_shape_X11_needDough
set_option maxRecDepth 20000 in
theorem ggX11_shape_X11_isRipe : GoodIn wsX11_shape wsX11_isRipe := goodIn_r _ [24, 1, 2, 25, 26, 6, 27, 28, 29, 30, 31, 32, 33, 14, 10, 15, 122, 123, 124, 125, 126, 127, 128, 129, 130, 131, 132, 133, 134, 135, 136, 137, 138, 139, 140, 141, 142, 143, 149, 150, 151, 152, 153, 154, 155, 156] (by decide +kernel) (by decide +kernel)
set_option maxRecDepth 20000 in
theorem gX11_shape_X11_isRipe : GoodIn wsX11_shape (wsV RX11 204 RX11 yX11_isRipe wsX11_isRipe) := goodIn_app (goodIn_of _ (by decide +kernel)) ggX11_shape_X11_isRipe
set_option maxRecDepth 20000 in
theorem ggX11_shape_X11_needState : GoodIn wsX11_shape wsX11_needState := goodIn_ca (goodIn_r _ [36, 37, 38] (by decide +kernel) (by decide +kernel)) (goodIn_sub (fun _ h => List.mem_cons_of_mem _ (List.mem_append_right _ h)) (by decide +kernel))
set_option maxRecDepth 20000 in
theorem gX11_shape_X11_needState : GoodIn wsX11_shape (va_wsS RX11 111 yX11_needState wsX11_needState) := goodIn_app (goodIn_of _ (by decide +kernel)) ggX11_shape_X11_needState
set_option maxRecDepth 20000 in
theorem ggX11_shape_X11_remember : GoodIn wsX11_shape wsX11_remember := goodIn_r _ [42, 43, 44, 45, 46, 25, 1, 4, 47, 48, 49, 50, 51, 52, 53, 54, 55, 56, 57, 58, 59, 60, 61, 62, 63, 64, 65, 66, 30, 67, 68, 69, 70, 71, 72, 73, 74, 75, 76, 77, 78, 79, 80, 81, 82, 83, 84, 85, 86, 87, 88, 89, 90, 91, 92, 93, 94, 95, 96, 97, 98, 99, 100, 101, 102, 103, 104, 105, 106, 107, 108, 109, 110, 111, 112, 113, 114, 115, 116, 117, 118, 119, 120, 121, 122, 123, 124, 125, 126, 127, 128, 129, 130, 131, 132, 133, 134, 135, 157, 158, 159, 160, 149, 150, 151, 152, 153, 154, 155, 156, 136, 137, 138, 139, 140, 141, 142, 143, 144, 145, 146, 147, 148, 161, 162, 163, 164, 165, 166, 167, 168, 169, 170, 171, 172, 173, 174, 175, 176, 177, 178, 179] (by decide +kernel) (by decide +kernel)
set_option maxRecDepth 20000 in
theorem gX11_shape_X11_remember : GoodIn wsX11_shape (wsV RX11 114 RX11 yX11_remember wsX11_remember) := goodIn_app (goodIn_of _ (by decide +kernel)) ggX11_shape_X11_remember
theorem dX11_shape_0 : decode cX11_shape 0 = .ok (.aload_n 0, 1) := by decide +kernel
theorem dX11_shape_1 : decode cX11_shape 1 = .ok (.iload_n 1, 1) := by decide +kernel
theorem dX11_shape_2 : decode cX11_shape 2 = .ok (.invokevirtual 201, 3) := by decide +kernel
theorem dX11_shape_5 : decode cX11_shape 5 = .ok (.aload_n 0, 1) := by decide +kernel
theorem dX11_shape_6 : decode cX11_shape 6 = .ok (.iload_n 1, 1) := by decide +kernel
theorem dX11_shape_7 : decode cX11_shape 7 = .ok (.invokevirtual 204, 3) := by decide +kernel
theorem dX11_shape_10 : decode cX11_shape 10 = .ok (.invokestatic 111, 3) := by decide +kernel
theorem dX11_shape_13 : decode cX11_shape 13 = .ok (.aload_n 0, 1) := by decide +kernel
theorem dX11_shape_14 : decode cX11_shape 14 = .ok (.invokevirtual 114, 3) := by decide +kernel
theorem dX11_shape_17 : decode cX11_shape 17 = .ok (.aload_n 0, 1) := by decide +kernel
theorem dX11_shape_18 : decode cX11_shape 18 = .ok (.getfield 36, 3) := by decide +kernel
theorem dX11_shape_21 : decode cX11_shape 21 = .ok (.getfield 207, 3) := by decide +kernel
theorem dX11_shape_24 : decode cX11_shape 24 = .ok (.iload_n 1, 1) := by decide +kernel
theorem dX11_shape_25 : decode cX11_shape 25 = .ok (.iconst 1, 1) := by decide +kernel
theorem dX11_shape_26 : decode cX11_shape 26 = .ok (.iastore, 1) := by decide +kernel
theorem dX11_shape_27 : decode cX11_shape 27 = .ok (.aload_n 0, 1) := by decide +kernel
theorem dX11_shape_28 : decode cX11_shape 28 = .ok (.getfield 36, 3) := by decide +kernel
theorem dX11_shape_31 : decode cX11_shape 31 = .ok (.getfield 210, 3) := by decide +kernel
theorem dX11_shape_34 : decode cX11_shape 34 = .ok (.iload_n 1, 1) := by decide +kernel
theorem dX11_shape_35 : decode cX11_shape 35 = .ok (.aload_n 0, 1) := by decide +kernel
theorem dX11_shape_36 : decode cX11_shape 36 = .ok (.getfield 41, 3) := by decide +kernel
theorem dX11_shape_39 : decode cX11_shape 39 = .ok (.getfield 186, 3) := by decide +kernel
theorem dX11_shape_42 : decode cX11_shape 42 = .ok (.iastore, 1) := by decide +kernel
theorem dX11_shape_43 : decode cX11_shape 43 = .ok (.aload_n 0, 1) := by decide +kernel
theorem dX11_shape_44 : decode cX11_shape 44 = .ok (.getfield 36, 3) := by decide +kernel
theorem dX11_shape_47 : decode cX11_shape 47 = .ok (.getfield 213, 3) := by decide +kernel
theorem dX11_shape_50 : decode cX11_shape 50 = .ok (.iload_n 1, 1) := by decide +kernel
theorem dX11_shape_51 : decode cX11_shape 51 = .ok (.iaload, 1) := by decide +kernel
theorem dX11_shape_52 : decode cX11_shape 52 = .ok (.ireturn, 1) := by decide +kernel
set_option maxRecDepth 20000 in
theorem ggX11_doughAt_X11_needDough : GoodIn wsX11_doughAt wsX11_needDough := goodIn_ca (goodIn_r _ [13, 1, 14, 15, 16, 12, 17, 18, 19, 20, 21, 22, 28, 29, 30, 31, 32, 33, 34, 35, 36, 37, 38, 39, 40, 41, 42, 43, 44, 45, 46, 47, 48, 49] (by decide +kernel) (by decide +kernel)) (goodIn_sub (fun _ h => List.mem_cons_of_mem _ (List.mem_append_left _ (List.mem_append_right _ h))) (by decide +kernel))
set_option maxRecDepth 20000 in
theorem gX11_doughAt_X11_needDough : GoodIn wsX11_doughAt (wsV RX11 201 RX11 yX11_needDough wsX11_needDough) := goodIn_app (goodIn_of _ (by decide +kernel)) ggX11_doughAt_X11_needDough
set_option maxRecDepth 20000 in
theorem ggX11_doughAt_X11_isWithin : GoodIn wsX11_doughAt wsX11_isWithin := goodIn_r _ [17] (by decide +kernel) (by decide +kernel)
set_option maxRecDepth 20000 in
theorem gX11_doughAt_X11_isWithin : GoodIn wsX11_doughAt (va_wsS RX11 99 yX11_isWithin wsX11_isWithin) := goodIn_app (goodIn_of _ (by decide +kernel)) ggX11_doughAt_X11_isWithin
set_option maxRecDepth 20000 in
theorem ggX11_doughAt_X11_needArgument : GoodIn wsX11_doughAt wsX11_needArgument := goodIn_ca (goodIn_r _ [25, 26, 27] (by decide +kernel) (by decide +kernel)) (goodIn_sub (fun _ h => List.mem_cons_of_mem _ (List.mem_append_right _ h)) (by decide +kernel))
set_option maxRecDepth 20000 in
theorem gX11_doughAt_X11_needArgument : GoodIn wsX11_doughAt (va_wsS RX11 103 yX11_needArgument wsX11_needArgument) := goodIn_app (goodIn_of _ (by decide +kernel)) ggX11_doughAt_X11_needArgument
theorem dX11_doughAt_0 : decode cX11_doughAt 0 = .ok (.aload_n 0, 1) := by decide +kernel
theorem dX11_doughAt_1 : decode cX11_doughAt 1 = .ok (.iload_n 1, 1) := by decide +kernel
theorem dX11_doughAt_2 : decode cX11_doughAt 2 = .ok (.invokevirtual 201, 3) := by decide +kernel
theorem dX11_doughAt_5 : decode cX11_doughAt 5 = .ok (.iload_n 2, 1) := by decide +kernel
theorem dX11_doughAt_6 : decode cX11_doughAt 6 = .ok (.iconst 0, 1) := by decide +kernel
theorem dX11_doughAt_7 : decode cX11_doughAt 7 = .ok (.bipush 6, 2) := by decide +kernel
theorem dX11_doughAt_9 : decode cX11_doughAt 9 = .ok (.invokestatic 99, 3) := by decide +kernel
theorem dX11_doughAt_12 : decode cX11_doughAt 12 = .ok (.invokestatic 103, 3) := by decide +kernel
theorem dX11_doughAt_15 : decode cX11_doughAt 15 = .ok (.iload_n 2, 1) := by decide +kernel
theorem dX11_doughAt_16 : decode cX11_doughAt 16 = .ok (.tableswitch 100 0 5 #[40, 50, 60, 70, 80, 90], 40) := by decide +kernel
theorem dX11_doughAt_56 : decode cX11_doughAt 56 = .ok (.aload_n 0, 1) := by decide +kernel
theorem dX11_doughAt_57 : decode cX11_doughAt 57 = .ok (.getfield 36, 3) := by decide +kernel
theorem dX11_doughAt_60 : decode cX11_doughAt 60 = .ok (.getfield 216, 3) := by decide +kernel
theorem dX11_doughAt_63 : decode cX11_doughAt 63 = .ok (.iload_n 1, 1) := by decide +kernel
theorem dX11_doughAt_64 : decode cX11_doughAt 64 = .ok (.iaload, 1) := by decide +kernel
theorem dX11_doughAt_65 : decode cX11_doughAt 65 = .ok (.ireturn, 1) := by decide +kernel
theorem dX11_doughAt_66 : decode cX11_doughAt 66 = .ok (.aload_n 0, 1) := by decide +kernel
theorem dX11_doughAt_67 : decode cX11_doughAt 67 = .ok (.getfield 36, 3) := by decide +kernel
theorem dX11_doughAt_70 : decode cX11_doughAt 70 = .ok (.getfield 219, 3) := by decide +kernel
theorem dX11_doughAt_73 : decode cX11_doughAt 73 = .ok (.iload_n 1, 1) := by decide +kernel
theorem dX11_doughAt_74 : decode cX11_doughAt 74 = .ok (.iaload, 1) := by decide +kernel
theorem dX11_doughAt_75 : decode cX11_doughAt 75 = .ok (.ireturn, 1) := by decide +kernel
theorem dX11_doughAt_76 : decode cX11_doughAt 76 = .ok (.aload_n 0, 1) := by decide +kernel
theorem dX11_doughAt_77 : decode cX11_doughAt 77 = .ok (.getfield 36, 3) := by decide +kernel
theorem dX11_doughAt_80 : decode cX11_doughAt 80 = .ok (.getfield 213, 3) := by decide +kernel
theorem dX11_doughAt_83 : decode cX11_doughAt 83 = .ok (.iload_n 1, 1) := by decide +kernel
theorem dX11_doughAt_84 : decode cX11_doughAt 84 = .ok (.iaload, 1) := by decide +kernel
theorem dX11_doughAt_85 : decode cX11_doughAt 85 = .ok (.ireturn, 1) := by decide +kernel
theorem dX11_doughAt_86 : decode cX11_doughAt 86 = .ok (.aload_n 0, 1) := by decide +kernel
theorem dX11_doughAt_87 : decode cX11_doughAt 87 = .ok (.getfield 36, 3) := by decide +kernel
theorem dX11_doughAt_90 : decode cX11_doughAt 90 = .ok (.getfield 207, 3) := by decide +kernel
theorem dX11_doughAt_93 : decode cX11_doughAt 93 = .ok (.iload_n 1, 1) := by decide +kernel
theorem dX11_doughAt_94 : decode cX11_doughAt 94 = .ok (.iaload, 1) := by decide +kernel
theorem dX11_doughAt_95 : decode cX11_doughAt 95 = .ok (.ireturn, 1) := by decide +kernel
theorem dX11_doughAt_96 : decode cX11_doughAt 96 = .ok (.aload_n 0, 1) := by decide +kernel
theorem dX11_doughAt_97 : decode cX11_doughAt 97 = .ok (.getfield 36, 3) := by decide +kernel
theorem dX11_doughAt_100 : decode cX11_doughAt 100 = .ok (.getfield 222, 3) := by decide +kernel
theorem dX11_doughAt_103 : decode cX11_doughAt 103 = .ok (.iload_n 1, 1) := by decide +kernel
theorem dX11_doughAt_104 : decode cX11_doughAt 104 = .ok (.iaload, 1) := by decide +kernel
theorem dX11_doughAt_105 : decode cX11_doughAt 105 = .ok (.ireturn, 1) := by decide +kernel
theorem dX11_doughAt_106 : decode cX11_doughAt 106 = .ok (.aload_n 0, 1) := by decide +kernel
theorem dX11_doughAt_107 : decode cX11_doughAt 107 = .ok (.getfield 36, 3) := by decide +kernel
theorem dX11_doughAt_110 : decode cX11_doughAt 110 = .ok (.getfield 210, 3) := by decide +kernel
theorem dX11_doughAt_113 : decode cX11_doughAt 113 = .ok (.iload_n 1, 1) := by decide +kernel
theorem dX11_doughAt_114 : decode cX11_doughAt 114 = .ok (.iaload, 1) := by decide +kernel
theorem dX11_doughAt_115 : decode cX11_doughAt 115 = .ok (.ireturn, 1) := by decide +kernel
theorem dX11_doughAt_116 : decode cX11_doughAt 116 = .ok (.aload_n 0, 1) := by decide +kernel
theorem dX11_doughAt_117 : decode cX11_doughAt 117 = .ok (.getfield 36, 3) := by decide +kernel
theorem dX11_doughAt_120 : decode cX11_doughAt 120 = .ok (.getfield 223, 3) := by decide +kernel
theorem dX11_doughAt_123 : decode cX11_doughAt 123 = .ok (.iload_n 1, 1) := by decide +kernel
theorem dX11_doughAt_124 : decode cX11_doughAt 124 = .ok (.iaload, 1) := by decide +kernel
theorem dX11_doughAt_125 : decode cX11_doughAt 125 = .ok (.ireturn, 1) := by decide +kernel
theorem dX11_doughCount_0 : decode cX11_doughCount 0 = .ok (.aload_n 0, 1) := by decide +kernel
theorem dX11_doughCount_1 : decode cX11_doughCount 1 = .ok (.getfield 36, 3) := by decide +kernel
theorem dX11_doughCount_4 : decode cX11_doughCount 4 = .ok (.getfield 175, 3) := by decide +kernel
theorem dX11_doughCount_7 : decode cX11_doughCount 7 = .ok (.ireturn, 1) := by decide +kernel
set_option maxRecDepth 20000 in
theorem ggX11_setHeat_X11_isWithin : GoodIn wsX11_setHeat wsX11_isWithin := goodIn_r _ [7] (by decide +kernel) (by decide +kernel)
set_option maxRecDepth 20000 in
theorem gX11_setHeat_X11_isWithin : GoodIn wsX11_setHeat (va_wsS RX11 99 yX11_isWithin wsX11_isWithin) := goodIn_app (goodIn_of _ (by decide +kernel)) ggX11_setHeat_X11_isWithin
set_option maxRecDepth 20000 in
theorem ggX11_setHeat_X11_needArgument : GoodIn wsX11_setHeat wsX11_needArgument := goodIn_ca (goodIn_r _ [10, 11, 12] (by decide +kernel) (by decide +kernel)) (goodIn_sub (fun _ h => List.mem_cons_of_mem _ (List.mem_append_right _ h)) (by decide +kernel))
set_option maxRecDepth 20000 in
theorem gX11_setHeat_X11_needArgument : GoodIn wsX11_setHeat (va_wsS RX11 103 yX11_needArgument wsX11_needArgument) := goodIn_app (goodIn_of _ (by decide +kernel)) ggX11_setHeat_X11_needArgument
set_option maxRecDepth 20000 in
theorem ggX11_setHeat_X11_remember : GoodIn wsX11_setHeat wsX11_remember := goodIn_r _ [16, 17, 18, 19, 20, 21, 22, 1, 23, 24, 25, 26, 27, 28, 29, 30, 31, 32, 33, 34, 35, 36, 37, 38, 39, 40, 41, 42, 43, 44, 45, 46, 47, 48, 49, 50, 51, 52, 53, 54, 55, 56, 57, 58, 59, 60, 61, 62, 63, 64, 65, 66, 67, 68, 69, 70, 71, 72, 73, 74, 75, 76, 77, 78, 79, 80, 81, 82, 83, 84, 85, 86, 87, 88, 89, 90, 91, 92, 93, 94, 95, 96, 97, 98, 99, 100, 101, 102, 103, 104, 105, 106, 107, 108, 109, 110, 111, 112, 118, 119, 120, 121, 122, 123, 124, 125, 126, 127, 128, 129, 130, 131, 132, 133, 134, 135, 136, 137, 113, 114, 115, 116, 117, 138, 139, 140, 141, 142, 143, 144, 145, 146, 147, 148, 149, 150, 151, 152, 153, 154, 155, 156] (by decide +kernel) (by decide +kernel)
set_option maxRecDepth 20000 in
theorem gX11_setHeat_X11_remember : GoodIn wsX11_setHeat (wsV RX11 114 RX11 yX11_remember wsX11_remember) := goodIn_app (goodIn_of _ (by decide +kernel)) ggX11_setHeat_X11_remember
theorem dX11_setHeat_0 : decode cX11_setHeat 0 = .ok (.iload_n 1, 1) := by decide +kernel
theorem dX11_setHeat_1 : decode cX11_setHeat 1 = .ok (.bipush 20, 2) := by decide +kernel
theorem dX11_setHeat_3 : decode cX11_setHeat 3 = .ok (.sipush 320, 3) := by decide +kernel
theorem dX11_setHeat_6 : decode cX11_setHeat 6 = .ok (.invokestatic 99, 3) := by decide +kernel
theorem dX11_setHeat_9 : decode cX11_setHeat 9 = .ok (.invokestatic 103, 3) := by decide +kernel
theorem dX11_setHeat_12 : decode cX11_setHeat 12 = .ok (.aload_n 0, 1) := by decide +kernel
theorem dX11_setHeat_13 : decode cX11_setHeat 13 = .ok (.invokevirtual 114, 3) := by decide +kernel
theorem dX11_setHeat_16 : decode cX11_setHeat 16 = .ok (.aload_n 0, 1) := by decide +kernel
theorem dX11_setHeat_17 : decode cX11_setHeat 17 = .ok (.getfield 41, 3) := by decide +kernel
theorem dX11_setHeat_20 : decode cX11_setHeat 20 = .ok (.iload_n 1, 1) := by decide +kernel
theorem dX11_setHeat_21 : decode cX11_setHeat 21 = .ok (.putfield 232, 3) := by decide +kernel
theorem dX11_setHeat_24 : decode cX11_setHeat 24 = .ok (.aload_n 0, 1) := by decide +kernel
theorem dX11_setHeat_25 : decode cX11_setHeat 25 = .ok (.getfield 41, 3) := by decide +kernel
theorem dX11_setHeat_28 : decode cX11_setHeat 28 = .ok (.getfield 235, 3) := by decide +kernel
theorem dX11_setHeat_31 : decode cX11_setHeat 31 = .ok (.ireturn, 1) := by decide +kernel
set_option maxRecDepth 20000 in
theorem ggX11_setDecks_X11_isWithin : GoodIn wsX11_setDecks wsX11_isWithin := goodIn_r _ [6] (by decide +kernel) (by decide +kernel)
set_option maxRecDepth 20000 in
theorem gX11_setDecks_X11_isWithin : GoodIn wsX11_setDecks (va_wsS RX11 99 yX11_isWithin wsX11_isWithin) := goodIn_app (goodIn_of _ (by decide +kernel)) ggX11_setDecks_X11_isWithin
set_option maxRecDepth 20000 in
theorem ggX11_setDecks_X11_needArgument : GoodIn wsX11_setDecks wsX11_needArgument := goodIn_ca (goodIn_r _ [9, 10, 11] (by decide +kernel) (by decide +kernel)) (goodIn_sub (fun _ h => List.mem_cons_of_mem _ (List.mem_append_right _ h)) (by decide +kernel))
set_option maxRecDepth 20000 in
theorem gX11_setDecks_X11_needArgument : GoodIn wsX11_setDecks (va_wsS RX11 103 yX11_needArgument wsX11_needArgument) := goodIn_app (goodIn_of _ (by decide +kernel)) ggX11_setDecks_X11_needArgument
set_option maxRecDepth 20000 in
theorem ggX11_setDecks_X11_remember : GoodIn wsX11_setDecks wsX11_remember := goodIn_r _ [15, 16, 17, 18, 19, 20, 21, 1, 22, 23, 24, 25, 26, 27, 28, 29, 30, 31, 32, 33, 34, 35, 36, 37, 38, 39, 40, 41, 42, 43, 44, 45, 46, 47, 48, 49, 50, 51, 52, 53, 54, 55, 56, 57, 58, 59, 60, 61, 62, 63, 64, 65, 66, 67, 68, 69, 70, 71, 72, 73, 74, 75, 76, 77, 78, 79, 80, 81, 82, 83, 84, 85, 86, 87, 88, 89, 90, 91, 92, 93, 94, 95, 96, 97, 98, 99, 100, 101, 102, 103, 104, 105, 106, 107, 108, 109, 110, 111, 117, 118, 119, 120, 121, 122, 123, 124, 125, 126, 127, 128, 129, 130, 131, 132, 133, 134, 135, 136, 112, 113, 114, 115, 116, 137, 138, 139, 140, 141, 142, 143, 144, 145, 146, 147, 148, 149, 150, 151, 152, 153, 154, 155] (by decide +kernel) (by decide +kernel)
set_option maxRecDepth 20000 in
theorem gX11_setDecks_X11_remember : GoodIn wsX11_setDecks (wsV RX11 114 RX11 yX11_remember wsX11_remember) := goodIn_app (goodIn_of _ (by decide +kernel)) ggX11_setDecks_X11_remember
theorem dX11_setDecks_0 : decode cX11_setDecks 0 = .ok (.iload_n 1, 1) := by decide +kernel
theorem dX11_setDecks_1 : decode cX11_setDecks 1 = .ok (.iconst 1, 1) := by decide +kernel
theorem dX11_setDecks_2 : decode cX11_setDecks 2 = .ok (.iconst 4, 1) := by decide +kernel
theorem dX11_setDecks_3 : decode cX11_setDecks 3 = .ok (.invokestatic 99, 3) := by decide +kernel
theorem dX11_setDecks_6 : decode cX11_setDecks 6 = .ok (.invokestatic 103, 3) := by decide +kernel
theorem dX11_setDecks_9 : decode cX11_setDecks 9 = .ok (.aload_n 0, 1) := by decide +kernel
theorem dX11_setDecks_10 : decode cX11_setDecks 10 = .ok (.invokevirtual 114, 3) := by decide +kernel
theorem dX11_setDecks_13 : decode cX11_setDecks 13 = .ok (.aload_n 0, 1) := by decide +kernel
theorem dX11_setDecks_14 : decode cX11_setDecks 14 = .ok (.getfield 41, 3) := by decide +kernel
theorem dX11_setDecks_17 : decode cX11_setDecks 17 = .ok (.getfield 237, 3) := by decide +kernel
theorem dX11_setDecks_20 : decode cX11_setDecks 20 = .ok (.istore_n 2, 1) := by decide +kernel
theorem dX11_setDecks_21 : decode cX11_setDecks 21 = .ok (.aload_n 0, 1) := by decide +kernel
theorem dX11_setDecks_22 : decode cX11_setDecks 22 = .ok (.getfield 41, 3) := by decide +kernel
theorem dX11_setDecks_25 : decode cX11_setDecks 25 = .ok (.iload_n 1, 1) := by decide +kernel
theorem dX11_setDecks_26 : decode cX11_setDecks 26 = .ok (.putfield 237, 3) := by decide +kernel
theorem dX11_setDecks_29 : decode cX11_setDecks 29 = .ok (.iload_n 2, 1) := by decide +kernel
theorem dX11_setDecks_30 : decode cX11_setDecks 30 = .ok (.ireturn, 1) := by decide +kernel
set_option maxRecDepth 20000 in
theorem ggX11_bake_X11_needDough : GoodIn wsX11_bake wsX11_needDough := goodIn_ca (goodIn_r _ [11, 1, 12, 13, 14, 10, 15, 16, 17, 18, 19, 20, 139, 140, 141, 142, 143, 144, 145, 146, 147, 148, 149, 150, 151, 152, 153, 154, 155, 156, 157, 158, 159, 160] (by decide +kernel) (by decide +kernel)) (goodIn_sub (fun _ h => List.mem_cons_of_mem _ (List.mem_append_left _ (List.mem_append_right _ h))) (by decide +kernel))
set_option maxRecDepth 20000 in
theorem gX11_bake_X11_needDough : GoodIn wsX11_bake (wsV RX11 201 RX11 yX11_needDough wsX11_needDough) := goodIn_app (goodIn_of _ (by decide +kernel)) ggX11_bake_X11_needDough
set_option maxRecDepth 20000 in
theorem ggX11_bake_X11_isForOven : GoodIn wsX11_bake wsX11_isForOven := goodIn_r _ [24, 1, 3, 5, 6, 25, 26, 27, 2, 28, 29, 30, 10, 31, 32, 33, 34, 35, 36, 37, 38, 39, 14, 15, 139, 140, 141, 142, 143, 144, 145, 146, 147, 148, 149, 150, 151, 152, 153, 154, 155, 156, 157, 158, 159, 160, 161, 162, 163, 164, 165, 166, 167, 168, 169, 170, 171, 172, 173] (by decide +kernel) (by decide +kernel)
set_option maxRecDepth 20000 in
theorem gX11_bake_X11_isForOven : GoodIn wsX11_bake (wsV RX11 240 RX11 yX11_isForOven wsX11_isForOven) := goodIn_app (goodIn_of _ (by decide +kernel)) ggX11_bake_X11_isForOven
set_option maxRecDepth 20000 in
theorem ggX11_bake_X11_isOvenFor : GoodIn wsX11_bake wsX11_isOvenFor := goodIn_r _ [43, 5, 6, 1, 44, 45, 26, 46, 47, 48, 49, 50, 51, 52, 53, 13, 14, 10, 15, 139, 140, 141, 142, 143, 144, 145, 146, 147, 148, 149, 150, 151, 152, 161, 162, 163, 164, 165, 166, 167, 168, 169, 170, 171, 172, 173, 153, 154, 155, 156, 157, 158, 159, 160] (by decide +kernel) (by decide +kernel)
set_option maxRecDepth 20000 in
theorem gX11_bake_X11_isOvenFor : GoodIn wsX11_bake (wsV RX11 243 RX11 yX11_isOvenFor wsX11_isOvenFor) := goodIn_app (goodIn_of _ (by decide +kernel)) ggX11_bake_X11_isOvenFor
set_option maxRecDepth 20000 in
theorem ggX11_bake_X11_needState : GoodIn wsX11_bake wsX11_needState := goodIn_ca (goodIn_r _ [56, 57, 58] (by decide +kernel) (by decide +kernel)) (goodIn_sub (fun _ h => List.mem_cons_of_mem _ (List.mem_append_right _ h)) (by decide +kernel))
set_option maxRecDepth 20000 in
theorem gX11_bake_X11_needState : GoodIn wsX11_bake (va_wsS RX11 111 yX11_needState wsX11_needState) := goodIn_app (goodIn_of _ (by decide +kernel)) ggX11_bake_X11_needState
set_option maxRecDepth 20000 in
theorem ggX11_bake_X11_remember : GoodIn wsX11_bake wsX11_remember := goodIn_r _ [62, 63, 64, 65, 66, 26, 1, 5, 67, 68, 69, 70, 71, 72, 73, 74, 75, 76, 77, 78, 79, 80, 81, 82, 83, 84, 85, 86, 36, 87, 88, 89, 90, 91, 92, 93, 94, 50, 95, 52, 96, 97, 98, 99, 53, 100, 101, 102, 103, 104, 105, 106, 107, 108, 109, 110, 111, 112, 113, 114, 115, 116, 117, 118, 119, 120, 121, 122, 123, 124, 125, 126, 127, 128, 129, 130, 131, 132, 133, 134, 135, 136, 137, 138, 139, 140, 141, 142, 143, 144, 145, 146, 147, 148, 149, 150, 151, 152, 174, 175, 176, 177, 166, 167, 168, 169, 170, 171, 172, 173, 153, 154, 155, 156, 157, 158, 159, 160, 161, 162, 163, 164, 165, 178, 179, 180, 181, 182, 183, 184, 185, 186, 187, 188, 189, 190, 191, 192, 193, 194, 195, 196] (by decide +kernel) (by decide +kernel)
set_option maxRecDepth 20000 in
theorem gX11_bake_X11_remember : GoodIn wsX11_bake (wsV RX11 114 RX11 yX11_remember wsX11_remember) := goodIn_app (goodIn_of _ (by decide +kernel)) ggX11_bake_X11_remember
theorem dX11_bake_0 : decode cX11_bake 0 = .ok (.aload_n 0, 1) := by decide +kernel
theorem dX11_bake_1 : decode cX11_bake 1 = .ok (.iload_n 1, 1) := by decide +kernel
theorem dX11_bake_2 : decode cX11_bake 2 = .ok (.invokevirtual 201, 3) := by decide +kernel
theorem dX11_bake_5 : decode cX11_bake 5 = .ok (.aload_n 0, 1) := by decide +kernel
theorem dX11_bake_6 : decode cX11_bake 6 = .ok (.iload_n 1, 1) := by decide +kernel
theorem dX11_bake_7 : decode cX11_bake 7 = .ok (.invokevirtual 240, 3) := by decide +kernel
theorem dX11_bake_10 : decode cX11_bake 10 = .ok (.ifCond .eq 23, 3) := by decide +kernel
theorem dX11_bake_13 : decode cX11_bake 13 = .ok (.aload_n 0, 1) := by decide +kernel
theorem dX11_bake_14 : decode cX11_bake 14 = .ok (.aload_n 0, 1) := by decide +kernel
theorem dX11_bake_15 : decode cX11_bake 15 = .ok (.getfield 36, 3) := by decide +kernel
theorem dX11_bake_18 : decode cX11_bake 18 = .ok (.getfield 216, 3) := by decide +kernel
theorem dX11_bake_21 : decode cX11_bake 21 = .ok (.iload_n 1, 1) := by decide +kernel
theorem dX11_bake_22 : decode cX11_bake 22 = .ok (.iaload, 1) := by decide +kernel
theorem dX11_bake_23 : decode cX11_bake 23 = .ok (.invokevirtual 243, 3) := by decide +kernel
theorem dX11_bake_26 : decode cX11_bake 26 = .ok (.ifCond .eq 7, 3) := by decide +kernel
theorem dX11_bake_29 : decode cX11_bake 29 = .ok (.iconst 1, 1) := by decide +kernel
theorem dX11_bake_30 : decode cX11_bake 30 = .ok (.goto 4, 3) := by decide +kernel
theorem dX11_bake_33 : decode cX11_bake 33 = .ok (.iconst 0, 1) := by decide +kernel
theorem dX11_bake_34 : decode cX11_bake 34 = .ok (.invokestatic 111, 3) := by decide +kernel
theorem dX11_bake_37 : decode cX11_bake 37 = .ok (.aload_n 0, 1) := by decide +kernel
theorem dX11_bake_38 : decode cX11_bake 38 = .ok (.invokevirtual 114, 3) := by decide +kernel
theorem dX11_bake_41 : decode cX11_bake 41 = .ok (.aload_n 0, 1) := by decide +kernel
theorem dX11_bake_42 : decode cX11_bake 42 = .ok (.getfield 36, 3) := by decide +kernel
theorem dX11_bake_45 : decode cX11_bake 45 = .ok (.getfield 207, 3) := by decide +kernel
theorem dX11_bake_48 : decode cX11_bake 48 = .ok (.iload_n 1, 1) := by decide +kernel
theorem dX11_bake_49 : decode cX11_bake 49 = .ok (.iconst 2, 1) := by decide +kernel
theorem dX11_bake_50 : decode cX11_bake 50 = .ok (.iastore, 1) := by decide +kernel
theorem dX11_bake_51 : decode cX11_bake 51 = .ok (.aload_n 0, 1) := by decide +kernel
theorem dX11_bake_52 : decode cX11_bake 52 = .ok (.getfield 36, 3) := by decide +kernel
theorem dX11_bake_55 : decode cX11_bake 55 = .ok (.getfield 223, 3) := by decide +kernel
theorem dX11_bake_58 : decode cX11_bake 58 = .ok (.iload_n 1, 1) := by decide +kernel
theorem dX11_bake_59 : decode cX11_bake 59 = .ok (.aload_n 0, 1) := by decide +kernel
theorem dX11_bake_60 : decode cX11_bake 60 = .ok (.getfield 41, 3) := by decide +kernel
theorem dX11_bake_63 : decode cX11_bake 63 = .ok (.getfield 186, 3) := by decide +kernel
theorem dX11_bake_66 : decode cX11_bake 66 = .ok (.iastore, 1) := by decide +kernel
theorem dX11_bake_67 : decode cX11_bake 67 = .ok (.aload_n 0, 1) := by decide +kernel
theorem dX11_bake_68 : decode cX11_bake 68 = .ok (.getfield 41, 3) := by decide +kernel
theorem dX11_bake_71 : decode cX11_bake 71 = .ok (.getfield 186, 3) := by decide +kernel
theorem dX11_bake_74 : decode cX11_bake 74 = .ok (.bipush 10, 2) := by decide +kernel
theorem dX11_bake_76 : decode cX11_bake 76 = .ok (.iadd, 1) := by decide +kernel
theorem dX11_bake_77 : decode cX11_bake 77 = .ok (.ireturn, 1) := by decide +kernel
set_option maxRecDepth 20000 in
theorem ggX11_planned_X11_needDough : GoodIn wsX11_planned wsX11_needDough := goodIn_ca (goodIn_r _ [7, 8, 9, 10, 11, 6, 12, 13, 14, 15, 16, 17, 71, 72, 73, 74, 75, 76, 77, 78, 79, 80, 81, 82, 83, 84, 93, 94, 95, 96, 97, 98, 99, 100] (by decide +kernel) (by decide +kernel)) (goodIn_sub (fun _ h => List.mem_cons_of_mem _ (List.mem_append_right _ h)) (by decide +kernel))
set_option maxRecDepth 20000 in
theorem gX11_planned_X11_needDough : GoodIn wsX11_planned (wsV RX11 201 RX11 yX11_needDough wsX11_needDough) := goodIn_app (goodIn_of _ (by decide +kernel)) ggX11_planned_X11_needDough
set_option maxRecDepth 20000 in
theorem ggX11_planned_X7_make : GoodIn wsX11_planned wsX7_make := goodIn_r _ [22, 23, 24, 25, 26, 27, 28, 21, 29, 30, 31, 32, 33, 34, 35, 36, 37, 38, 39, 40, 41, 42, 43, 44, 45, 46, 47, 48, 49, 50, 51, 52, 53, 54, 55, 56, 57, 11, 6, 12, 58, 59, 60, 61, 62, 63, 64, 65, 66, 67, 68, 69, 70, 85, 86, 87, 88, 89, 90, 91, 92, 93, 94, 95, 96, 97, 98, 99, 100, 101, 102, 103, 104, 105, 106, 107, 108, 109, 110, 111, 112, 113] (by decide +kernel) (by decide +kernel)
set_option maxRecDepth 20000 in
theorem gX11_planned_X7_make : GoodIn wsX11_planned (wsV RX11 246 RX7 yX7_make wsX7_make) := goodIn_app (goodIn_of _ (by decide +kernel)) ggX11_planned_X7_make
theorem dX11_planned_0 : decode cX11_planned 0 = .ok (.aload_n 0, 1) := by decide +kernel
theorem dX11_planned_1 : decode cX11_planned 1 = .ok (.iload_n 1, 1) := by decide +kernel
theorem dX11_planned_2 : decode cX11_planned 2 = .ok (.invokevirtual 201, 3) := by decide +kernel
theorem dX11_planned_5 : decode cX11_planned 5 = .ok (.aload_n 0, 1) := by decide +kernel
theorem dX11_planned_6 : decode cX11_planned 6 = .ok (.getfield 50, 3) := by decide +kernel
theorem dX11_planned_9 : decode cX11_planned 9 = .ok (.invokevirtual 246, 3) := by decide +kernel
theorem dX11_planned_12 : decode cX11_planned 12 = .ok (.aload_n 0, 1) := by decide +kernel
theorem dX11_planned_13 : decode cX11_planned 13 = .ok (.getfield 50, 3) := by decide +kernel
theorem dX11_planned_16 : decode cX11_planned 16 = .ok (.getfield 249, 3) := by decide +kernel
theorem dX11_planned_19 : decode cX11_planned 19 = .ok (.iload_n 1, 1) := by decide +kernel
theorem dX11_planned_20 : decode cX11_planned 20 = .ok (.iaload, 1) := by decide +kernel
theorem dX11_planned_21 : decode cX11_planned 21 = .ok (.ireturn, 1) := by decide +kernel
set_option maxRecDepth 20000 in
theorem ggX11_inPlan_X7_make : GoodIn wsX11_inPlan wsX7_make := goodIn_r _ [6, 7, 8, 9, 10, 11, 12, 5, 13, 14, 15, 16, 17, 18, 19, 20, 21, 22, 23, 24, 25, 26, 27, 28, 29, 30, 31, 32, 33, 34, 35, 36, 37, 38, 39, 40, 41, 42, 43, 44, 45, 46, 47, 48, 49, 50, 51, 52, 53, 54, 55, 56, 57, 80, 81, 82, 83, 84, 85, 86, 87, 88, 89, 90, 91, 92, 93, 94, 95, 96, 97, 98, 99, 100, 101, 102, 103, 104, 105, 106, 107, 108] (by decide +kernel) (by decide +kernel)
set_option maxRecDepth 20000 in
theorem gX11_inPlan_X7_make : GoodIn wsX11_inPlan (wsV RX11 246 RX7 yX7_make wsX7_make) := goodIn_app (goodIn_of _ (by decide +kernel)) ggX11_inPlan_X7_make
set_option maxRecDepth 20000 in
theorem ggX11_inPlan_X7_doughsInPlan : GoodIn wsX11_inPlan wsX7_doughsInPlan := goodIn_r _ [61, 7, 8, 62, 63, 64, 5, 65, 14, 17, 80, 81, 82, 83, 84, 85, 86, 87, 88, 89, 90, 91, 92, 93, 94, 95] (by decide +kernel) (by decide +kernel)
set_option maxRecDepth 20000 in
theorem gX11_inPlan_X7_doughsInPlan : GoodIn wsX11_inPlan (wsV RX11 252 RX7 yX7_doughsInPlan wsX7_doughsInPlan) := goodIn_app (goodIn_of _ (by decide +kernel)) ggX11_inPlan_X7_doughsInPlan
theorem dX11_inPlan_0 : decode cX11_inPlan 0 = .ok (.aload_n 0, 1) := by decide +kernel
theorem dX11_inPlan_1 : decode cX11_inPlan 1 = .ok (.getfield 50, 3) := by decide +kernel
theorem dX11_inPlan_4 : decode cX11_inPlan 4 = .ok (.invokevirtual 246, 3) := by decide +kernel
theorem dX11_inPlan_7 : decode cX11_inPlan 7 = .ok (.aload_n 0, 1) := by decide +kernel
theorem dX11_inPlan_8 : decode cX11_inPlan 8 = .ok (.getfield 50, 3) := by decide +kernel
theorem dX11_inPlan_11 : decode cX11_inPlan 11 = .ok (.invokevirtual 252, 3) := by decide +kernel
theorem dX11_inPlan_14 : decode cX11_inPlan 14 = .ok (.ireturn, 1) := by decide +kernel
set_option maxRecDepth 20000 in
theorem ggX11_late_X7_make : GoodIn wsX11_late wsX7_make := goodIn_r _ [6, 7, 8, 9, 10, 11, 12, 5, 13, 14, 15, 16, 17, 18, 19, 20, 21, 22, 23, 24, 25, 26, 27, 28, 29, 30, 31, 32, 33, 34, 35, 36, 37, 38, 39, 40, 41, 42, 43, 44, 45, 46, 47, 48, 49, 50, 51, 52, 53, 54, 55, 56, 57, 80, 81, 82, 83, 84, 85, 86, 87, 88, 89, 90, 91, 92, 93, 94, 95, 96, 97, 98, 99, 100, 101, 102, 103, 104, 105, 106, 107, 108] (by decide +kernel) (by decide +kernel)
set_option maxRecDepth 20000 in
theorem gX11_late_X7_make : GoodIn wsX11_late (wsV RX11 246 RX7 yX7_make wsX7_make) := goodIn_app (goodIn_of _ (by decide +kernel)) ggX11_late_X7_make
set_option maxRecDepth 20000 in
theorem ggX11_late_X7_doughsWithoutRound : GoodIn wsX11_late wsX7_doughsWithoutRound := goodIn_r _ [61, 7, 8, 9, 62, 63, 64, 5, 65, 14, 17, 80, 81, 82, 83, 84, 85, 86, 87, 88, 89, 90, 91, 92, 93, 94, 95] (by decide +kernel) (by decide +kernel)
set_option maxRecDepth 20000 in
theorem gX11_late_X7_doughsWithoutRound : GoodIn wsX11_late (wsV RX11 255 RX7 yX7_doughsWithoutRound wsX7_doughsWithoutRound) := goodIn_app (goodIn_of _ (by decide +kernel)) ggX11_late_X7_doughsWithoutRound
theorem dX11_late_0 : decode cX11_late 0 = .ok (.aload_n 0, 1) := by decide +kernel
theorem dX11_late_1 : decode cX11_late 1 = .ok (.getfield 50, 3) := by decide +kernel
theorem dX11_late_4 : decode cX11_late 4 = .ok (.invokevirtual 246, 3) := by decide +kernel
theorem dX11_late_7 : decode cX11_late 7 = .ok (.aload_n 0, 1) := by decide +kernel
theorem dX11_late_8 : decode cX11_late 8 = .ok (.getfield 50, 3) := by decide +kernel
theorem dX11_late_11 : decode cX11_late 11 = .ok (.invokevirtual 255, 3) := by decide +kernel
theorem dX11_late_14 : decode cX11_late 14 = .ok (.ireturn, 1) := by decide +kernel
set_option maxRecDepth 20000 in
theorem ggX11_breads_X11_needRecipe : GoodIn wsX11_breads wsX11_needRecipe := goodIn_ca (goodIn_r _ [7, 8, 9, 10, 11, 6, 12, 13, 14, 15, 16, 17, 23, 24, 25, 26, 27, 28, 29, 30, 31, 32, 33, 34, 35, 36, 38, 39, 40, 41, 42, 43, 44, 45] (by decide +kernel) (by decide +kernel)) (goodIn_sub (fun _ h => List.mem_cons_of_mem _ (List.mem_append_left _ (List.mem_append_right _ h))) (by decide +kernel))
set_option maxRecDepth 20000 in
theorem gX11_breads_X11_needRecipe : GoodIn wsX11_breads (wsV RX11 139 RX11 yX11_needRecipe wsX11_needRecipe) := goodIn_app (goodIn_of _ (by decide +kernel)) ggX11_breads_X11_needRecipe
set_option maxRecDepth 20000 in
theorem ggX11_breads_X11_isWithin : GoodIn wsX11_breads wsX11_isWithin := goodIn_r _ [12] (by decide +kernel) (by decide +kernel)
set_option maxRecDepth 20000 in
theorem gX11_breads_X11_isWithin : GoodIn wsX11_breads (va_wsS RX11 99 yX11_isWithin wsX11_isWithin) := goodIn_app (goodIn_of _ (by decide +kernel)) ggX11_breads_X11_isWithin
set_option maxRecDepth 20000 in
theorem ggX11_breads_X11_needArgument : GoodIn wsX11_breads wsX11_needArgument := goodIn_ca (goodIn_r _ [20, 21, 22] (by decide +kernel) (by decide +kernel)) (goodIn_sub (fun _ h => List.mem_cons_of_mem _ (List.mem_append_right _ h)) (by decide +kernel))
set_option maxRecDepth 20000 in
theorem gX11_breads_X11_needArgument : GoodIn wsX11_breads (va_wsS RX11 103 yX11_needArgument wsX11_needArgument) := goodIn_app (goodIn_of _ (by decide +kernel)) ggX11_breads_X11_needArgument
theorem dX11_breads_0 : decode cX11_breads 0 = .ok (.aload_n 0, 1) := by decide +kernel
theorem dX11_breads_1 : decode cX11_breads 1 = .ok (.iload_n 1, 1) := by decide +kernel
theorem dX11_breads_2 : decode cX11_breads 2 = .ok (.invokevirtual 139, 3) := by decide +kernel
theorem dX11_breads_5 : decode cX11_breads 5 = .ok (.iload_n 2, 1) := by decide +kernel
theorem dX11_breads_6 : decode cX11_breads 6 = .ok (.iconst 0, 1) := by decide +kernel
theorem dX11_breads_7 : decode cX11_breads 7 = .ok (.iconst 3, 1) := by decide +kernel
theorem dX11_breads_8 : decode cX11_breads 8 = .ok (.invokestatic 99, 3) := by decide +kernel
theorem dX11_breads_11 : decode cX11_breads 11 = .ok (.invokestatic 103, 3) := by decide +kernel
theorem dX11_breads_14 : decode cX11_breads 14 = .ok (.aload_n 0, 1) := by decide +kernel
theorem dX11_breads_15 : decode cX11_breads 15 = .ok (.getfield 55, 3) := by decide +kernel
theorem dX11_breads_18 : decode cX11_breads 18 = .ok (.getfield 258, 3) := by decide +kernel
theorem dX11_breads_21 : decode cX11_breads 21 = .ok (.iload_n 1, 1) := by decide +kernel
theorem dX11_breads_22 : decode cX11_breads 22 = .ok (.iconst 4, 1) := by decide +kernel
theorem dX11_breads_23 : decode cX11_breads 23 = .ok (.imul, 1) := by decide +kernel
theorem dX11_breads_24 : decode cX11_breads 24 = .ok (.iload_n 2, 1) := by decide +kernel
theorem dX11_breads_25 : decode cX11_breads 25 = .ok (.iadd, 1) := by decide +kernel
theorem dX11_breads_26 : decode cX11_breads 26 = .ok (.iaload, 1) := by decide +kernel
theorem dX11_breads_27 : decode cX11_breads 27 = .ok (.ireturn, 1) := by decide +kernel
set_option maxRecDepth 20000 in
theorem ggX11_endDay_X11_remember : GoodIn wsX11_endDay wsX11_remember := goodIn_r _ [11, 12, 13, 4, 14, 1, 15, 16, 3, 17, 18, 19, 20, 21, 22, 23, 24, 25, 26, 27, 28, 29, 30, 31, 32, 33, 34, 35, 36, 37, 38, 39, 40, 41, 42, 43, 44, 45, 46, 47, 48, 49, 50, 51, 52, 53, 54, 55, 56, 57, 58, 59, 60, 61, 62, 63, 64, 65, 66, 67, 68, 69, 70, 71, 72, 73, 74, 75, 76, 77, 78, 79, 80, 81, 82, 83, 84, 85, 86, 87, 88, 89, 90, 91, 96, 97, 98, 99, 100, 101, 102, 103, 104, 105, 106, 107, 108, 109, 118, 119, 120, 121, 110, 111, 112, 113, 114, 115, 116, 117, 122, 123, 124, 125, 126, 127, 128, 129, 130, 131, 132, 133, 134, 135, 136, 137, 138, 139, 140, 141, 142, 143, 144, 145, 146, 147, 148, 149, 150, 151, 152, 153] (by decide +kernel) (by decide +kernel)
set_option maxRecDepth 20000 in
theorem gX11_endDay_X11_remember : GoodIn wsX11_endDay (wsV RX11 114 RX11 yX11_remember wsX11_remember) := goodIn_app (goodIn_of _ (by decide +kernel)) ggX11_endDay_X11_remember
set_option maxRecDepth 20000 in
theorem ggX11_endDay_X0_growOlder : GoodIn wsX11_endDay wsX0_growOlder := goodIn_r _ [95, 68, 135] (by decide +kernel) (by decide +kernel)
set_option maxRecDepth 20000 in
theorem gX11_endDay_X0_growOlder : GoodIn wsX11_endDay (wsV RX11 259 RX0 yX0_growOlder wsX0_growOlder) := goodIn_app (goodIn_of _ (by decide +kernel)) ggX11_endDay_X0_growOlder
theorem dX11_endDay_0 : decode cX11_endDay 0 = .ok (.aload_n 0, 1) := by decide +kernel
theorem dX11_endDay_1 : decode cX11_endDay 1 = .ok (.invokevirtual 114, 3) := by decide +kernel
theorem dX11_endDay_4 : decode cX11_endDay 4 = .ok (.iconst 0, 1) := by decide +kernel
theorem dX11_endDay_5 : decode cX11_endDay 5 = .ok (.istore_n 1, 1) := by decide +kernel
theorem dX11_endDay_6 : decode cX11_endDay 6 = .ok (.iconst 0, 1) := by decide +kernel
theorem dX11_endDay_7 : decode cX11_endDay 7 = .ok (.istore_n 2, 1) := by decide +kernel
theorem dX11_endDay_8 : decode cX11_endDay 8 = .ok (.iload_n 2, 1) := by decide +kernel
theorem dX11_endDay_9 : decode cX11_endDay 9 = .ok (.aload_n 0, 1) := by decide +kernel
theorem dX11_endDay_10 : decode cX11_endDay 10 = .ok (.getfield 31, 3) := by decide +kernel
theorem dX11_endDay_13 : decode cX11_endDay 13 = .ok (.getfield 121, 3) := by decide +kernel
theorem dX11_endDay_16 : decode cX11_endDay 16 = .ok (.if_icmp .ge 45, 3) := by decide +kernel
theorem dX11_endDay_19 : decode cX11_endDay 19 = .ok (.aload_n 0, 1) := by decide +kernel
theorem dX11_endDay_20 : decode cX11_endDay 20 = .ok (.getfield 55, 3) := by decide +kernel
theorem dX11_endDay_23 : decode cX11_endDay 23 = .ok (.iload_n 2, 1) := by decide +kernel
theorem dX11_endDay_24 : decode cX11_endDay 24 = .ok (.invokevirtual 259, 3) := by decide +kernel
theorem dX11_endDay_27 : decode cX11_endDay 27 = .ok (.istore_n 3, 1) := by decide +kernel
theorem dX11_endDay_28 : decode cX11_endDay 28 = .ok (.iload_n 1, 1) := by decide +kernel
theorem dX11_endDay_29 : decode cX11_endDay 29 = .ok (.iload_n 3, 1) := by decide +kernel
theorem dX11_endDay_30 : decode cX11_endDay 30 = .ok (.iadd, 1) := by decide +kernel
theorem dX11_endDay_31 : decode cX11_endDay 31 = .ok (.istore_n 1, 1) := by decide +kernel
theorem dX11_endDay_32 : decode cX11_endDay 32 = .ok (.aload_n 0, 1) := by decide +kernel
theorem dX11_endDay_33 : decode cX11_endDay 33 = .ok (.getfield 24, 3) := by decide +kernel
theorem dX11_endDay_36 : decode cX11_endDay 36 = .ok (.dup, 1) := by decide +kernel
theorem dX11_endDay_37 : decode cX11_endDay 37 = .ok (.getfield 229, 3) := by decide +kernel
theorem dX11_endDay_40 : decode cX11_endDay 40 = .ok (.iload_n 3, 1) := by decide +kernel
theorem dX11_endDay_41 : decode cX11_endDay 41 = .ok (.aload_n 0, 1) := by decide +kernel
theorem dX11_endDay_42 : decode cX11_endDay 42 = .ok (.getfield 31, 3) := by decide +kernel
theorem dX11_endDay_45 : decode cX11_endDay 45 = .ok (.getfield 124, 3) := by decide +kernel
theorem dX11_endDay_48 : decode cX11_endDay 48 = .ok (.iload_n 2, 1) := by decide +kernel
theorem dX11_endDay_49 : decode cX11_endDay 49 = .ok (.iaload, 1) := by decide +kernel
theorem dX11_endDay_50 : decode cX11_endDay 50 = .ok (.imul, 1) := by decide +kernel
theorem dX11_endDay_51 : decode cX11_endDay 51 = .ok (.iadd, 1) := by decide +kernel
theorem dX11_endDay_52 : decode cX11_endDay 52 = .ok (.putfield 229, 3) := by decide +kernel
theorem dX11_endDay_55 : decode cX11_endDay 55 = .ok (.iinc 2 1, 3) := by decide +kernel
theorem dX11_endDay_58 : decode cX11_endDay 58 = .ok (.goto (-50), 3) := by decide +kernel
theorem dX11_endDay_61 : decode cX11_endDay 61 = .ok (.iload_n 1, 1) := by decide +kernel
theorem dX11_endDay_62 : decode cX11_endDay 62 = .ok (.ireturn, 1) := by decide +kernel
set_option maxRecDepth 20000 in
theorem ggX11_sell_X11_needRecipe : GoodIn wsX11_sell wsX11_needRecipe := goodIn_ca (goodIn_r _ [10, 4, 11, 12, 13, 9, 14, 15, 16, 17, 18, 19, 126, 127, 128, 129, 130, 131, 132, 133, 134, 135, 136, 137, 138, 139, 144, 145, 146, 147, 148, 149, 150, 151] (by decide +kernel) (by decide +kernel)) (goodIn_sub (fun _ h => List.mem_cons_of_mem _ (List.mem_append_left _ (List.mem_append_left _ (List.mem_append_right _ h)))) (by decide +kernel))
set_option maxRecDepth 20000 in
theorem gX11_sell_X11_needRecipe : GoodIn wsX11_sell (wsV RX11 139 RX11 yX11_needRecipe wsX11_needRecipe) := goodIn_app (goodIn_of _ (by decide +kernel)) ggX11_sell_X11_needRecipe
set_option maxRecDepth 20000 in
theorem ggX11_sell_X11_isWithin : GoodIn wsX11_sell wsX11_isWithin := goodIn_r _ [14] (by decide +kernel) (by decide +kernel)
set_option maxRecDepth 20000 in
theorem gX11_sell_X11_isWithin : GoodIn wsX11_sell (va_wsS RX11 99 yX11_isWithin wsX11_isWithin) := goodIn_app (goodIn_of _ (by decide +kernel)) ggX11_sell_X11_isWithin
set_option maxRecDepth 20000 in
theorem ggX11_sell_X11_needArgument : GoodIn wsX11_sell wsX11_needArgument := goodIn_ca (goodIn_r _ [22, 23, 24] (by decide +kernel) (by decide +kernel)) (goodIn_sub (fun _ h => List.mem_cons_of_mem _ (List.mem_append_left _ (List.mem_append_right _ h))) (by decide +kernel))
set_option maxRecDepth 20000 in
theorem gX11_sell_X11_needArgument : GoodIn wsX11_sell (va_wsS RX11 103 yX11_needArgument wsX11_needArgument) := goodIn_app (goodIn_of _ (by decide +kernel)) ggX11_sell_X11_needArgument
set_option maxRecDepth 20000 in
theorem ggX11_sell_X0_from : GoodIn wsX11_sell wsX0_from := goodIn_r _ [29, 30, 152] (by decide +kernel) (by decide +kernel)
set_option maxRecDepth 20000 in
theorem gX11_sell_X0_from : GoodIn wsX11_sell (wsV RX11 263 RX0 yX0_from wsX0_from) := goodIn_app (goodIn_of _ (by decide +kernel)) ggX11_sell_X0_from
set_option maxRecDepth 20000 in
theorem ggX11_sell_X11_needState : GoodIn wsX11_sell wsX11_needState := goodIn_ca (goodIn_r _ [33, 34, 35] (by decide +kernel) (by decide +kernel)) (goodIn_sub (fun _ h => List.mem_cons_of_mem _ (List.mem_append_right _ h)) (by decide +kernel))
set_option maxRecDepth 20000 in
theorem gX11_sell_X11_needState : GoodIn wsX11_sell (va_wsS RX11 111 yX11_needState wsX11_needState) := goodIn_app (goodIn_of _ (by decide +kernel)) ggX11_sell_X11_needState
set_option maxRecDepth 20000 in
theorem ggX11_sell_X11_remember : GoodIn wsX11_sell wsX11_remember := goodIn_r _ [39, 40, 41, 2, 42, 4, 43, 44, 1, 45, 46, 47, 48, 49, 50, 51, 52, 53, 54, 55, 56, 57, 58, 59, 60, 61, 62, 63, 64, 65, 66, 67, 68, 69, 70, 71, 72, 73, 74, 75, 76, 77, 78, 79, 80, 81, 82, 83, 84, 85, 86, 87, 88, 89, 90, 91, 92, 93, 28, 94, 30, 95, 96, 97, 98, 99, 100, 101, 102, 103, 104, 105, 106, 107, 108, 109, 110, 111, 112, 113, 114, 115, 116, 117, 126, 127, 128, 129, 130, 131, 132, 133, 134, 135, 136, 137, 138, 139, 140, 141, 142, 143, 144, 145, 146, 147, 148, 149, 150, 151, 153, 154, 155, 156, 157, 158, 159, 160, 161, 162, 163, 164, 165, 152, 166, 167, 168, 169, 170, 171, 172, 173, 174, 175, 176, 177, 178, 179, 180, 181, 182, 183] (by decide +kernel) (by decide +kernel)
set_option maxRecDepth 20000 in
theorem gX11_sell_X11_remember : GoodIn wsX11_sell (wsV RX11 114 RX11 yX11_remember wsX11_remember) := goodIn_app (goodIn_of _ (by decide +kernel)) ggX11_sell_X11_remember
set_option maxRecDepth 20000 in
theorem ggX11_sell_X0_takeOldest : GoodIn wsX11_sell wsX0_takeOldest := goodIn_r _ [121, 30, 122, 123, 124, 125, 152] (by decide +kernel) (by decide +kernel)
set_option maxRecDepth 20000 in
theorem gX11_sell_X0_takeOldest : GoodIn wsX11_sell (wsV RX11 269 RX0 yX0_takeOldest wsX0_takeOldest) := goodIn_app (goodIn_of _ (by decide +kernel)) ggX11_sell_X0_takeOldest
theorem dX11_sell_0 : decode cX11_sell 0 = .ok (.aload_n 0, 1) := by decide +kernel
theorem dX11_sell_1 : decode cX11_sell 1 = .ok (.iload_n 1, 1) := by decide +kernel
theorem dX11_sell_2 : decode cX11_sell 2 = .ok (.invokevirtual 139, 3) := by decide +kernel
theorem dX11_sell_5 : decode cX11_sell 5 = .ok (.iload_n 2, 1) := by decide +kernel
theorem dX11_sell_6 : decode cX11_sell 6 = .ok (.iconst 1, 1) := by decide +kernel
theorem dX11_sell_7 : decode cX11_sell 7 = .ok (.bipush 99, 2) := by decide +kernel
theorem dX11_sell_9 : decode cX11_sell 9 = .ok (.invokestatic 99, 3) := by decide +kernel
theorem dX11_sell_12 : decode cX11_sell 12 = .ok (.invokestatic 103, 3) := by decide +kernel
theorem dX11_sell_15 : decode cX11_sell 15 = .ok (.aload_n 0, 1) := by decide +kernel
theorem dX11_sell_16 : decode cX11_sell 16 = .ok (.getfield 55, 3) := by decide +kernel
theorem dX11_sell_19 : decode cX11_sell 19 = .ok (.iload_n 1, 1) := by decide +kernel
theorem dX11_sell_20 : decode cX11_sell 20 = .ok (.iconst 0, 1) := by decide +kernel
theorem dX11_sell_21 : decode cX11_sell 21 = .ok (.invokevirtual 263, 3) := by decide +kernel
theorem dX11_sell_24 : decode cX11_sell 24 = .ok (.iload_n 2, 1) := by decide +kernel
theorem dX11_sell_25 : decode cX11_sell 25 = .ok (.if_icmp .lt 7, 3) := by decide +kernel
theorem dX11_sell_28 : decode cX11_sell 28 = .ok (.iconst 1, 1) := by decide +kernel
theorem dX11_sell_29 : decode cX11_sell 29 = .ok (.goto 4, 3) := by decide +kernel
theorem dX11_sell_32 : decode cX11_sell 32 = .ok (.iconst 0, 1) := by decide +kernel
theorem dX11_sell_33 : decode cX11_sell 33 = .ok (.invokestatic 111, 3) := by decide +kernel
theorem dX11_sell_36 : decode cX11_sell 36 = .ok (.aload_n 0, 1) := by decide +kernel
theorem dX11_sell_37 : decode cX11_sell 37 = .ok (.invokevirtual 114, 3) := by decide +kernel
theorem dX11_sell_40 : decode cX11_sell 40 = .ok (.aload_n 0, 1) := by decide +kernel
theorem dX11_sell_41 : decode cX11_sell 41 = .ok (.getfield 24, 3) := by decide +kernel
theorem dX11_sell_44 : decode cX11_sell 44 = .ok (.dup, 1) := by decide +kernel
theorem dX11_sell_45 : decode cX11_sell 45 = .ok (.getfield 266, 3) := by decide +kernel
theorem dX11_sell_48 : decode cX11_sell 48 = .ok (.iload_n 2, 1) := by decide +kernel
theorem dX11_sell_49 : decode cX11_sell 49 = .ok (.aload_n 0, 1) := by decide +kernel
theorem dX11_sell_50 : decode cX11_sell 50 = .ok (.getfield 31, 3) := by decide +kernel
theorem dX11_sell_53 : decode cX11_sell 53 = .ok (.getfield 124, 3) := by decide +kernel
theorem dX11_sell_56 : decode cX11_sell 56 = .ok (.iload_n 1, 1) := by decide +kernel
theorem dX11_sell_57 : decode cX11_sell 57 = .ok (.iaload, 1) := by decide +kernel
theorem dX11_sell_58 : decode cX11_sell 58 = .ok (.imul, 1) := by decide +kernel
theorem dX11_sell_59 : decode cX11_sell 59 = .ok (.iadd, 1) := by decide +kernel
theorem dX11_sell_60 : decode cX11_sell 60 = .ok (.putfield 266, 3) := by decide +kernel
theorem dX11_sell_63 : decode cX11_sell 63 = .ok (.aload_n 0, 1) := by decide +kernel
theorem dX11_sell_64 : decode cX11_sell 64 = .ok (.getfield 55, 3) := by decide +kernel
theorem dX11_sell_67 : decode cX11_sell 67 = .ok (.iload_n 1, 1) := by decide +kernel
theorem dX11_sell_68 : decode cX11_sell 68 = .ok (.iload_n 2, 1) := by decide +kernel
theorem dX11_sell_69 : decode cX11_sell 69 = .ok (.invokevirtual 269, 3) := by decide +kernel
theorem dX11_sell_72 : decode cX11_sell 72 = .ok (.ireturn, 1) := by decide +kernel
set_option maxRecDepth 20000 in
theorem ggX11_crumble_X11_needRecipe : GoodIn wsX11_crumble wsX11_needRecipe := goodIn_ca (goodIn_r _ [11, 2, 12, 13, 14, 10, 15, 16, 17, 18, 19, 20, 109, 110, 111, 112, 113, 114, 115, 116, 117, 118, 119, 120, 121, 122, 123, 124, 125, 126, 127, 128, 129, 130] (by decide +kernel) (by decide +kernel)) (goodIn_sub (fun _ h => List.mem_cons_of_mem _ (List.mem_append_right _ h)) (by decide +kernel))
set_option maxRecDepth 20000 in
theorem gX11_crumble_X11_needRecipe : GoodIn wsX11_crumble (wsV RX11 139 RX11 yX11_needRecipe wsX11_needRecipe) := goodIn_app (goodIn_of _ (by decide +kernel)) ggX11_crumble_X11_needRecipe
set_option maxRecDepth 20000 in
theorem ggX11_crumble_X11_remember : GoodIn wsX11_crumble wsX11_remember := goodIn_r _ [24, 25, 26, 5, 27, 2, 28, 29, 1, 30, 31, 32, 33, 34, 35, 36, 37, 38, 39, 40, 41, 42, 43, 44, 45, 46, 47, 48, 49, 50, 51, 52, 53, 54, 55, 56, 57, 58, 59, 60, 61, 62, 63, 64, 65, 66, 67, 68, 69, 70, 71, 72, 73, 74, 75, 76, 77, 78, 79, 80, 81, 82, 83, 84, 85, 86, 87, 88, 89, 90, 91, 92, 93, 94, 95, 96, 97, 98, 99, 100, 101, 102, 103, 104, 109, 110, 111, 112, 113, 114, 115, 116, 117, 118, 119, 120, 121, 122, 132, 133, 134, 135, 123, 124, 125, 126, 127, 128, 129, 130, 136, 137, 138, 139, 140, 141, 142, 143, 144, 145, 146, 147, 148, 131, 149, 150, 151, 152, 153, 154, 155, 156, 157, 158, 159, 160, 161, 162, 163, 164, 165, 166] (by decide +kernel) (by decide +kernel)
set_option maxRecDepth 20000 in
theorem gX11_crumble_X11_remember : GoodIn wsX11_crumble (wsV RX11 114 RX11 yX11_remember wsX11_remember) := goodIn_app (goodIn_of _ (by decide +kernel)) ggX11_crumble_X11_remember
set_option maxRecDepth 20000 in
theorem ggX11_crumble_X0_from : GoodIn wsX11_crumble wsX0_from := goodIn_r _ [108, 81, 131] (by decide +kernel) (by decide +kernel)
set_option maxRecDepth 20000 in
theorem gX11_crumble_X0_from : GoodIn wsX11_crumble (wsV RX11 263 RX0 yX0_from wsX0_from) := goodIn_app (goodIn_of _ (by decide +kernel)) ggX11_crumble_X0_from
theorem dX11_crumble_0 : decode cX11_crumble 0 = .ok (.aload_n 0, 1) := by decide +kernel
theorem dX11_crumble_1 : decode cX11_crumble 1 = .ok (.iload_n 1, 1) := by decide +kernel
theorem dX11_crumble_2 : decode cX11_crumble 2 = .ok (.invokevirtual 139, 3) := by decide +kernel
theorem dX11_crumble_5 : decode cX11_crumble 5 = .ok (.aload_n 0, 1) := by decide +kernel
theorem dX11_crumble_6 : decode cX11_crumble 6 = .ok (.invokevirtual 114, 3) := by decide +kernel
theorem dX11_crumble_9 : decode cX11_crumble 9 = .ok (.aload_n 0, 1) := by decide +kernel
theorem dX11_crumble_10 : decode cX11_crumble 10 = .ok (.getfield 55, 3) := by decide +kernel
theorem dX11_crumble_13 : decode cX11_crumble 13 = .ok (.iload_n 1, 1) := by decide +kernel
theorem dX11_crumble_14 : decode cX11_crumble 14 = .ok (.iconst 1, 1) := by decide +kernel
theorem dX11_crumble_15 : decode cX11_crumble 15 = .ok (.invokevirtual 263, 3) := by decide +kernel
theorem dX11_crumble_18 : decode cX11_crumble 18 = .ok (.aload_n 0, 1) := by decide +kernel
theorem dX11_crumble_19 : decode cX11_crumble 19 = .ok (.getfield 31, 3) := by decide +kernel
theorem dX11_crumble_22 : decode cX11_crumble 22 = .ok (.getfield 124, 3) := by decide +kernel
theorem dX11_crumble_25 : decode cX11_crumble 25 = .ok (.iload_n 1, 1) := by decide +kernel
theorem dX11_crumble_26 : decode cX11_crumble 26 = .ok (.iaload, 1) := by decide +kernel
theorem dX11_crumble_27 : decode cX11_crumble 27 = .ok (.imul, 1) := by decide +kernel
theorem dX11_crumble_28 : decode cX11_crumble 28 = .ok (.istore_n 2, 1) := by decide +kernel
theorem dX11_crumble_29 : decode cX11_crumble 29 = .ok (.iconst 1, 1) := by decide +kernel
theorem dX11_crumble_30 : decode cX11_crumble 30 = .ok (.istore_n 3, 1) := by decide +kernel
theorem dX11_crumble_31 : decode cX11_crumble 31 = .ok (.iload_n 3, 1) := by decide +kernel
theorem dX11_crumble_32 : decode cX11_crumble 32 = .ok (.iconst 4, 1) := by decide +kernel
theorem dX11_crumble_33 : decode cX11_crumble 33 = .ok (.if_icmp .ge 23, 3) := by decide +kernel
theorem dX11_crumble_36 : decode cX11_crumble 36 = .ok (.aload_n 0, 1) := by decide +kernel
theorem dX11_crumble_37 : decode cX11_crumble 37 = .ok (.getfield 55, 3) := by decide +kernel
theorem dX11_crumble_40 : decode cX11_crumble 40 = .ok (.getfield 258, 3) := by decide +kernel
theorem dX11_crumble_43 : decode cX11_crumble 43 = .ok (.iload_n 1, 1) := by decide +kernel
theorem dX11_crumble_44 : decode cX11_crumble 44 = .ok (.iconst 4, 1) := by decide +kernel
theorem dX11_crumble_45 : decode cX11_crumble 45 = .ok (.imul, 1) := by decide +kernel
theorem dX11_crumble_46 : decode cX11_crumble 46 = .ok (.iload_n 3, 1) := by decide +kernel
theorem dX11_crumble_47 : decode cX11_crumble 47 = .ok (.iadd, 1) := by decide +kernel
theorem dX11_crumble_48 : decode cX11_crumble 48 = .ok (.iconst 0, 1) := by decide +kernel
theorem dX11_crumble_49 : decode cX11_crumble 49 = .ok (.iastore, 1) := by decide +kernel
theorem dX11_crumble_50 : decode cX11_crumble 50 = .ok (.iinc 3 1, 3) := by decide +kernel
theorem dX11_crumble_53 : decode cX11_crumble 53 = .ok (.goto (-22), 3) := by decide +kernel
theorem dX11_crumble_56 : decode cX11_crumble 56 = .ok (.aload_n 0, 1) := by decide +kernel
theorem dX11_crumble_57 : decode cX11_crumble 57 = .ok (.getfield 24, 3) := by decide +kernel
theorem dX11_crumble_60 : decode cX11_crumble 60 = .ok (.getfield 107, 3) := by decide +kernel
theorem dX11_crumble_63 : decode cX11_crumble 63 = .ok (.bipush 7, 2) := by decide +kernel
theorem dX11_crumble_65 : decode cX11_crumble 65 = .ok (.dup2, 1) := by decide +kernel
theorem dX11_crumble_66 : decode cX11_crumble 66 = .ok (.iaload, 1) := by decide +kernel
theorem dX11_crumble_67 : decode cX11_crumble 67 = .ok (.iload_n 2, 1) := by decide +kernel
theorem dX11_crumble_68 : decode cX11_crumble 68 = .ok (.iadd, 1) := by decide +kernel
theorem dX11_crumble_69 : decode cX11_crumble 69 = .ok (.iastore, 1) := by decide +kernel
theorem dX11_crumble_70 : decode cX11_crumble 70 = .ok (.iload_n 2, 1) := by decide +kernel
theorem dX11_crumble_71 : decode cX11_crumble 71 = .ok (.ireturn, 1) := by decide +kernel
set_option maxRecDepth 20000 in
theorem ggX11_setFlour_X11_isWithin : GoodIn wsX11_setFlour wsX11_isWithin := goodIn_r _ [8] (by decide +kernel) (by decide +kernel)
set_option maxRecDepth 20000 in
theorem gX11_setFlour_X11_isWithin : GoodIn wsX11_setFlour (va_wsS RX11 99 yX11_isWithin wsX11_isWithin) := goodIn_app (goodIn_of _ (by decide +kernel)) ggX11_setFlour_X11_isWithin
set_option maxRecDepth 20000 in
theorem ggX11_setFlour_X11_needIndex : GoodIn wsX11_setFlour wsX11_needIndex := goodIn_ca (goodIn_r _ [11, 12, 13] (by decide +kernel) (by decide +kernel)) (goodIn_sub (fun _ h => List.mem_cons_of_mem _ (List.mem_append_left _ (List.mem_append_right _ h))) (by decide +kernel))
set_option maxRecDepth 20000 in
theorem gX11_setFlour_X11_needIndex : GoodIn wsX11_setFlour (va_wsS RX11 272 yX11_needIndex wsX11_needIndex) := goodIn_app (goodIn_of _ (by decide +kernel)) ggX11_setFlour_X11_needIndex
set_option maxRecDepth 20000 in
theorem ggX11_setFlour_X11_needArgument : GoodIn wsX11_setFlour wsX11_needArgument := goodIn_ca (goodIn_r _ [16, 17, 18] (by decide +kernel) (by decide +kernel)) (goodIn_sub (fun _ h => List.mem_cons_of_mem _ (List.mem_append_right _ h)) (by decide +kernel))
set_option maxRecDepth 20000 in
theorem gX11_setFlour_X11_needArgument : GoodIn wsX11_setFlour (va_wsS RX11 103 yX11_needArgument wsX11_needArgument) := goodIn_app (goodIn_of _ (by decide +kernel)) ggX11_setFlour_X11_needArgument
set_option maxRecDepth 20000 in
theorem ggX11_setFlour_X11_remember : GoodIn wsX11_setFlour wsX11_remember := goodIn_r _ [22, 23, 24, 25, 26, 27, 28, 29, 30, 1, 31, 32, 33, 34, 35, 36, 37, 38, 39, 40, 41, 42, 43, 44, 45, 46, 47, 48, 49, 50, 51, 52, 53, 54, 55, 56, 57, 58, 59, 60, 61, 62, 63, 64, 65, 66, 67, 68, 69, 70, 71, 72, 73, 74, 75, 76, 77, 78, 79, 80, 81, 82, 83, 84, 85, 86, 87, 88, 89, 90, 91, 92, 93, 94, 95, 96, 97, 98, 99, 100, 101, 102, 103, 104, 105, 106, 107, 108, 109, 110, 111, 112, 113, 114, 115, 116, 117, 118, 126, 127, 128, 129, 130, 131, 132, 133, 134, 135, 136, 137, 138, 139, 140, 141, 142, 143, 144, 145, 146, 147, 148, 149, 150, 151, 119, 120, 121, 122, 123, 124, 125, 152, 153, 154, 155, 156, 157, 158, 159, 160, 161, 162] (by decide +kernel) (by decide +kernel)
set_option maxRecDepth 20000 in
theorem gX11_setFlour_X11_remember : GoodIn wsX11_setFlour (wsV RX11 114 RX11 yX11_remember wsX11_remember) := goodIn_app (goodIn_of _ (by decide +kernel)) ggX11_setFlour_X11_remember
theorem dX11_setFlour_0 : decode cX11_setFlour 0 = .ok (.iload_n 1, 1) := by decide +kernel
theorem dX11_setFlour_1 : decode cX11_setFlour 1 = .ok (.iconst 0, 1) := by decide +kernel
theorem dX11_setFlour_2 : decode cX11_setFlour 2 = .ok (.iconst 3, 1) := by decide +kernel
theorem dX11_setFlour_3 : decode cX11_setFlour 3 = .ok (.invokestatic 99, 3) := by decide +kernel
theorem dX11_setFlour_6 : decode cX11_setFlour 6 = .ok (.invokestatic 272, 3) := by decide +kernel
theorem dX11_setFlour_9 : decode cX11_setFlour 9 = .ok (.iload_n 2, 1) := by decide +kernel
theorem dX11_setFlour_10 : decode cX11_setFlour 10 = .ok (.iconst 0, 1) := by decide +kernel
theorem dX11_setFlour_11 : decode cX11_setFlour 11 = .ok (.sipush 200, 3) := by decide +kernel
theorem dX11_setFlour_14 : decode cX11_setFlour 14 = .ok (.invokestatic 99, 3) := by decide +kernel
theorem dX11_setFlour_17 : decode cX11_setFlour 17 = .ok (.ifCond .eq 29, 3) := by decide +kernel
theorem dX11_setFlour_20 : decode cX11_setFlour 20 = .ok (.iload_n 3, 1) := by decide +kernel
theorem dX11_setFlour_21 : decode cX11_setFlour 21 = .ok (.iconst 0, 1) := by decide +kernel
theorem dX11_setFlour_22 : decode cX11_setFlour 22 = .ok (.sipush 999, 3) := by decide +kernel
theorem dX11_setFlour_25 : decode cX11_setFlour 25 = .ok (.invokestatic 99, 3) := by decide +kernel
theorem dX11_setFlour_28 : decode cX11_setFlour 28 = .ok (.ifCond .eq 18, 3) := by decide +kernel
theorem dX11_setFlour_31 : decode cX11_setFlour 31 = .ok (.iload 4, 2) := by decide +kernel
theorem dX11_setFlour_33 : decode cX11_setFlour 33 = .ok (.iconst 0, 1) := by decide +kernel
theorem dX11_setFlour_34 : decode cX11_setFlour 34 = .ok (.bipush 100, 2) := by decide +kernel
theorem dX11_setFlour_36 : decode cX11_setFlour 36 = .ok (.invokestatic 99, 3) := by decide +kernel
theorem dX11_setFlour_39 : decode cX11_setFlour 39 = .ok (.ifCond .eq 7, 3) := by decide +kernel
theorem dX11_setFlour_42 : decode cX11_setFlour 42 = .ok (.iconst 1, 1) := by decide +kernel
theorem dX11_setFlour_43 : decode cX11_setFlour 43 = .ok (.goto 4, 3) := by decide +kernel
theorem dX11_setFlour_46 : decode cX11_setFlour 46 = .ok (.iconst 0, 1) := by decide +kernel
theorem dX11_setFlour_47 : decode cX11_setFlour 47 = .ok (.invokestatic 103, 3) := by decide +kernel
theorem dX11_setFlour_50 : decode cX11_setFlour 50 = .ok (.aload_n 0, 1) := by decide +kernel
theorem dX11_setFlour_51 : decode cX11_setFlour 51 = .ok (.invokevirtual 114, 3) := by decide +kernel
theorem dX11_setFlour_54 : decode cX11_setFlour 54 = .ok (.aload_n 0, 1) := by decide +kernel
theorem dX11_setFlour_55 : decode cX11_setFlour 55 = .ok (.getfield 60, 3) := by decide +kernel
theorem dX11_setFlour_58 : decode cX11_setFlour 58 = .ok (.getfield 275, 3) := by decide +kernel
theorem dX11_setFlour_61 : decode cX11_setFlour 61 = .ok (.iload_n 1, 1) := by decide +kernel
theorem dX11_setFlour_62 : decode cX11_setFlour 62 = .ok (.iaload, 1) := by decide +kernel
theorem dX11_setFlour_63 : decode cX11_setFlour 63 = .ok (.istore 5, 2) := by decide +kernel
theorem dX11_setFlour_65 : decode cX11_setFlour 65 = .ok (.aload_n 0, 1) := by decide +kernel
theorem dX11_setFlour_66 : decode cX11_setFlour 66 = .ok (.getfield 60, 3) := by decide +kernel
theorem dX11_setFlour_69 : decode cX11_setFlour 69 = .ok (.getfield 278, 3) := by decide +kernel
theorem dX11_setFlour_72 : decode cX11_setFlour 72 = .ok (.iload_n 1, 1) := by decide +kernel
theorem dX11_setFlour_73 : decode cX11_setFlour 73 = .ok (.iload_n 2, 1) := by decide +kernel
theorem dX11_setFlour_74 : decode cX11_setFlour 74 = .ok (.iastore, 1) := by decide +kernel
theorem dX11_setFlour_75 : decode cX11_setFlour 75 = .ok (.aload_n 0, 1) := by decide +kernel
theorem dX11_setFlour_76 : decode cX11_setFlour 76 = .ok (.getfield 60, 3) := by decide +kernel
theorem dX11_setFlour_79 : decode cX11_setFlour 79 = .ok (.getfield 275, 3) := by decide +kernel
theorem dX11_setFlour_82 : decode cX11_setFlour 82 = .ok (.iload_n 1, 1) := by decide +kernel
theorem dX11_setFlour_83 : decode cX11_setFlour 83 = .ok (.iload_n 3, 1) := by decide +kernel
theorem dX11_setFlour_84 : decode cX11_setFlour 84 = .ok (.iastore, 1) := by decide +kernel
theorem dX11_setFlour_85 : decode cX11_setFlour 85 = .ok (.aload_n 0, 1) := by decide +kernel
theorem dX11_setFlour_86 : decode cX11_setFlour 86 = .ok (.getfield 60, 3) := by decide +kernel
theorem dX11_setFlour_89 : decode cX11_setFlour 89 = .ok (.getfield 281, 3) := by decide +kernel
theorem dX11_setFlour_92 : decode cX11_setFlour 92 = .ok (.iload_n 1, 1) := by decide +kernel
theorem dX11_setFlour_93 : decode cX11_setFlour 93 = .ok (.iload 4, 2) := by decide +kernel
theorem dX11_setFlour_95 : decode cX11_setFlour 95 = .ok (.iastore, 1) := by decide +kernel
theorem dX11_setFlour_96 : decode cX11_setFlour 96 = .ok (.iload 5, 2) := by decide +kernel
theorem dX11_setFlour_98 : decode cX11_setFlour 98 = .ok (.ireturn, 1) := by decide +kernel
set_option maxRecDepth 20000 in
theorem ggX11_mixCost_X11_isWithin : GoodIn wsX11_mixCost wsX11_isWithin := goodIn_r _ [7] (by decide +kernel) (by decide +kernel)
set_option maxRecDepth 20000 in
theorem gX11_mixCost_X11_isWithin : GoodIn wsX11_mixCost (va_wsS RX11 99 yX11_isWithin wsX11_isWithin) := goodIn_app (goodIn_of _ (by decide +kernel)) ggX11_mixCost_X11_isWithin
set_option maxRecDepth 20000 in
theorem ggX11_mixCost_X11_needArgument : GoodIn wsX11_mixCost wsX11_needArgument := goodIn_ca (goodIn_r _ [10, 11, 12] (by decide +kernel) (by decide +kernel)) (goodIn_sub (fun _ h => List.mem_cons_of_mem _ (List.mem_append_left _ (List.mem_append_right _ h))) (by decide +kernel))
set_option maxRecDepth 20000 in
theorem gX11_mixCost_X11_needArgument : GoodIn wsX11_mixCost (va_wsS RX11 103 yX11_needArgument wsX11_needArgument) := goodIn_app (goodIn_of _ (by decide +kernel)) ggX11_mixCost_X11_needArgument
set_option maxRecDepth 20000 in
theorem ggX11_mixCost_X3_findMix : GoodIn wsX11_mixCost wsX3_findMix := goodIn_r _ [17, 18, 19, 20, 16, 21, 22, 23, 24, 25, 26, 27, 28, 29, 30, 31, 32, 33, 34, 35, 36, 37, 38, 39, 40, 41, 42, 5, 6, 7, 43, 44, 45, 46, 47, 48, 49, 50, 51, 52, 53, 54, 55, 56, 57, 58, 59, 60, 61, 62, 63, 64, 65, 66, 67, 91, 92, 93, 94, 95, 96, 97] (by decide +kernel) (by decide +kernel)
set_option maxRecDepth 20000 in
theorem gX11_mixCost_X3_findMix : GoodIn wsX11_mixCost (wsV RX11 284 RX3 yX3_findMix wsX3_findMix) := goodIn_app (goodIn_of _ (by decide +kernel)) ggX11_mixCost_X3_findMix
set_option maxRecDepth 20000 in
theorem ggX11_mixCost_X11_needElement : GoodIn wsX11_mixCost wsX11_needElement := goodIn_ca (goodIn_r _ [70, 71, 72] (by decide +kernel) (by decide +kernel)) (goodIn_sub (fun _ h => List.mem_cons_of_mem _ (List.mem_append_right _ h)) (by decide +kernel))
set_option maxRecDepth 20000 in
theorem gX11_mixCost_X11_needElement : GoodIn wsX11_mixCost (va_wsS RX11 287 yX11_needElement wsX11_needElement) := goodIn_app (goodIn_of _ (by decide +kernel)) ggX11_mixCost_X11_needElement
set_option maxRecDepth 20000 in
theorem ggX11_mixCost_X3_costOf : GoodIn wsX11_mixCost wsX3_costOf := goodIn_r _ [50, 51, 91, 92, 93, 94, 95, 96, 97] (by decide +kernel) (by decide +kernel)
set_option maxRecDepth 20000 in
theorem gX11_mixCost_X3_costOf : GoodIn wsX11_mixCost (wsV RX11 293 RX3 yX3_costOf wsX3_costOf) := goodIn_app (goodIn_of _ (by decide +kernel)) ggX11_mixCost_X3_costOf
set_option maxRecDepth 20000 in
theorem ggX11_mixCost_X11_lowestTerm : GoodIn wsX11_mixCost wsX11_lowestTerm := goodIn_r _ [76] (by decide +kernel) (by decide +kernel)
set_option maxRecDepth 20000 in
theorem gX11_mixCost_X11_lowestTerm : GoodIn wsX11_mixCost (va_wsS RX11 300 yX11_lowestTerm wsX11_lowestTerm) := goodIn_app (goodIn_of _ (by decide +kernel)) ggX11_mixCost_X11_lowestTerm
theorem dX11_mixCost_0 : decode cX11_mixCost 0 = .ok (.iload_n 1, 1) := by decide +kernel
theorem dX11_mixCost_1 : decode cX11_mixCost 1 = .ok (.iconst 0, 1) := by decide +kernel
theorem dX11_mixCost_2 : decode cX11_mixCost 2 = .ok (.sipush 200, 3) := by decide +kernel
theorem dX11_mixCost_5 : decode cX11_mixCost 5 = .ok (.invokestatic 99, 3) := by decide +kernel
theorem dX11_mixCost_8 : decode cX11_mixCost 8 = .ok (.ifCond .eq 18, 3) := by decide +kernel
theorem dX11_mixCost_11 : decode cX11_mixCost 11 = .ok (.iload_n 2, 1) := by decide +kernel
theorem dX11_mixCost_12 : decode cX11_mixCost 12 = .ok (.iload_n 1, 1) := by decide +kernel
theorem dX11_mixCost_13 : decode cX11_mixCost 13 = .ok (.sipush 200, 3) := by decide +kernel
theorem dX11_mixCost_16 : decode cX11_mixCost 16 = .ok (.invokestatic 99, 3) := by decide +kernel
theorem dX11_mixCost_19 : decode cX11_mixCost 19 = .ok (.ifCond .eq 7, 3) := by decide +kernel
theorem dX11_mixCost_22 : decode cX11_mixCost 22 = .ok (.iconst 1, 1) := by decide +kernel
theorem dX11_mixCost_23 : decode cX11_mixCost 23 = .ok (.goto 4, 3) := by decide +kernel
theorem dX11_mixCost_26 : decode cX11_mixCost 26 = .ok (.iconst 0, 1) := by decide +kernel
theorem dX11_mixCost_27 : decode cX11_mixCost 27 = .ok (.invokestatic 103, 3) := by decide +kernel
theorem dX11_mixCost_30 : decode cX11_mixCost 30 = .ok (.aload_n 0, 1) := by decide +kernel
theorem dX11_mixCost_31 : decode cX11_mixCost 31 = .ok (.getfield 60, 3) := by decide +kernel
theorem dX11_mixCost_34 : decode cX11_mixCost 34 = .ok (.iload_n 1, 1) := by decide +kernel
theorem dX11_mixCost_35 : decode cX11_mixCost 35 = .ok (.iload_n 2, 1) := by decide +kernel
theorem dX11_mixCost_36 : decode cX11_mixCost 36 = .ok (.invokevirtual 284, 3) := by decide +kernel
theorem dX11_mixCost_39 : decode cX11_mixCost 39 = .ok (.invokestatic 287, 3) := by decide +kernel
theorem dX11_mixCost_42 : decode cX11_mixCost 42 = .ok (.aload_n 0, 1) := by decide +kernel
theorem dX11_mixCost_43 : decode cX11_mixCost 43 = .ok (.getfield 60, 3) := by decide +kernel
theorem dX11_mixCost_46 : decode cX11_mixCost 46 = .ok (.aload_n 0, 1) := by decide +kernel
theorem dX11_mixCost_47 : decode cX11_mixCost 47 = .ok (.getfield 60, 3) := by decide +kernel
theorem dX11_mixCost_50 : decode cX11_mixCost 50 = .ok (.getfield 290, 3) := by decide +kernel
theorem dX11_mixCost_53 : decode cX11_mixCost 53 = .ok (.invokevirtual 293, 3) := by decide +kernel
theorem dX11_mixCost_56 : decode cX11_mixCost 56 = .ok (.aload_n 0, 1) := by decide +kernel
theorem dX11_mixCost_57 : decode cX11_mixCost 57 = .ok (.getfield 60, 3) := by decide +kernel
theorem dX11_mixCost_60 : decode cX11_mixCost 60 = .ok (.getfield 297, 3) := by decide +kernel
theorem dX11_mixCost_63 : decode cX11_mixCost 63 = .ok (.iload_n 3, 1) := by decide +kernel
theorem dX11_mixCost_64 : decode cX11_mixCost 64 = .ok (.invokestatic 300, 3) := by decide +kernel
theorem dX11_mixCost_67 : decode cX11_mixCost 67 = .ok (.ireturn, 1) := by decide +kernel
set_option maxRecDepth 20000 in
theorem ggX11_mixShare_X11_isWithin : GoodIn wsX11_mixShare wsX11_isWithin := goodIn_r _ [7] (by decide +kernel) (by decide +kernel)
set_option maxRecDepth 20000 in
theorem gX11_mixShare_X11_isWithin : GoodIn wsX11_mixShare (va_wsS RX11 99 yX11_isWithin wsX11_isWithin) := goodIn_app (goodIn_of _ (by decide +kernel)) ggX11_mixShare_X11_isWithin
set_option maxRecDepth 20000 in
theorem ggX11_mixShare_X11_needIndex : GoodIn wsX11_mixShare wsX11_needIndex := goodIn_ca (goodIn_r _ [10, 11, 12] (by decide +kernel) (by decide +kernel)) (goodIn_sub (fun _ h => List.mem_cons_of_mem _ (List.mem_append_left _ (List.mem_append_left _ (List.mem_append_right _ h)))) (by decide +kernel))
set_option maxRecDepth 20000 in
theorem gX11_mixShare_X11_needIndex : GoodIn wsX11_mixShare (va_wsS RX11 272 yX11_needIndex wsX11_needIndex) := goodIn_app (goodIn_of _ (by decide +kernel)) ggX11_mixShare_X11_needIndex
set_option maxRecDepth 20000 in
theorem ggX11_mixShare_X11_needArgument : GoodIn wsX11_mixShare wsX11_needArgument := goodIn_ca (goodIn_r _ [15, 16, 17] (by decide +kernel) (by decide +kernel)) (goodIn_sub (fun _ h => List.mem_cons_of_mem _ (List.mem_append_left _ (List.mem_append_right _ h))) (by decide +kernel))
set_option maxRecDepth 20000 in
theorem gX11_mixShare_X11_needArgument : GoodIn wsX11_mixShare (va_wsS RX11 103 yX11_needArgument wsX11_needArgument) := goodIn_app (goodIn_of _ (by decide +kernel)) ggX11_mixShare_X11_needArgument
set_option maxRecDepth 20000 in
theorem ggX11_mixShare_X3_findMix : GoodIn wsX11_mixShare wsX3_findMix := goodIn_r _ [22, 23, 24, 25, 21, 26, 27, 28, 29, 30, 31, 32, 33, 34, 35, 36, 37, 38, 39, 40, 41, 42, 43, 44, 45, 46, 47, 5, 6, 7, 48, 49, 50, 51, 52, 53, 54, 55, 56, 57, 58, 59, 60, 61, 62, 63, 64, 65, 66, 67, 68, 69, 70, 71, 72, 95, 96, 97, 98, 99, 100, 101] (by decide +kernel) (by decide +kernel)
set_option maxRecDepth 20000 in
theorem gX11_mixShare_X3_findMix : GoodIn wsX11_mixShare (wsV RX11 284 RX3 yX3_findMix wsX3_findMix) := goodIn_app (goodIn_of _ (by decide +kernel)) ggX11_mixShare_X3_findMix
set_option maxRecDepth 20000 in
theorem ggX11_mixShare_X11_needElement : GoodIn wsX11_mixShare wsX11_needElement := goodIn_ca (goodIn_r _ [75, 76, 77] (by decide +kernel) (by decide +kernel)) (goodIn_sub (fun _ h => List.mem_cons_of_mem _ (List.mem_append_right _ h)) (by decide +kernel))
set_option maxRecDepth 20000 in
theorem gX11_mixShare_X11_needElement : GoodIn wsX11_mixShare (va_wsS RX11 287 yX11_needElement wsX11_needElement) := goodIn_app (goodIn_of _ (by decide +kernel)) ggX11_mixShare_X11_needElement
set_option maxRecDepth 20000 in
theorem ggX11_mixShare_X11_lowestTerm : GoodIn wsX11_mixShare wsX11_lowestTerm := goodIn_r _ [80] (by decide +kernel) (by decide +kernel)
set_option maxRecDepth 20000 in
theorem gX11_mixShare_X11_lowestTerm : GoodIn wsX11_mixShare (va_wsS RX11 300 yX11_lowestTerm wsX11_lowestTerm) := goodIn_app (goodIn_of _ (by decide +kernel)) ggX11_mixShare_X11_lowestTerm
theorem dX11_mixShare_0 : decode cX11_mixShare 0 = .ok (.iload_n 3, 1) := by decide +kernel
theorem dX11_mixShare_1 : decode cX11_mixShare 1 = .ok (.iconst 0, 1) := by decide +kernel
theorem dX11_mixShare_2 : decode cX11_mixShare 2 = .ok (.iconst 3, 1) := by decide +kernel
theorem dX11_mixShare_3 : decode cX11_mixShare 3 = .ok (.invokestatic 99, 3) := by decide +kernel
theorem dX11_mixShare_6 : decode cX11_mixShare 6 = .ok (.invokestatic 272, 3) := by decide +kernel
theorem dX11_mixShare_9 : decode cX11_mixShare 9 = .ok (.iload_n 1, 1) := by decide +kernel
theorem dX11_mixShare_10 : decode cX11_mixShare 10 = .ok (.iconst 0, 1) := by decide +kernel
theorem dX11_mixShare_11 : decode cX11_mixShare 11 = .ok (.sipush 200, 3) := by decide +kernel
theorem dX11_mixShare_14 : decode cX11_mixShare 14 = .ok (.invokestatic 99, 3) := by decide +kernel
theorem dX11_mixShare_17 : decode cX11_mixShare 17 = .ok (.ifCond .eq 18, 3) := by decide +kernel
theorem dX11_mixShare_20 : decode cX11_mixShare 20 = .ok (.iload_n 2, 1) := by decide +kernel
theorem dX11_mixShare_21 : decode cX11_mixShare 21 = .ok (.iload_n 1, 1) := by decide +kernel
theorem dX11_mixShare_22 : decode cX11_mixShare 22 = .ok (.sipush 200, 3) := by decide +kernel
theorem dX11_mixShare_25 : decode cX11_mixShare 25 = .ok (.invokestatic 99, 3) := by decide +kernel
theorem dX11_mixShare_28 : decode cX11_mixShare 28 = .ok (.ifCond .eq 7, 3) := by decide +kernel
theorem dX11_mixShare_31 : decode cX11_mixShare 31 = .ok (.iconst 1, 1) := by decide +kernel
theorem dX11_mixShare_32 : decode cX11_mixShare 32 = .ok (.goto 4, 3) := by decide +kernel
theorem dX11_mixShare_35 : decode cX11_mixShare 35 = .ok (.iconst 0, 1) := by decide +kernel
theorem dX11_mixShare_36 : decode cX11_mixShare 36 = .ok (.invokestatic 103, 3) := by decide +kernel
theorem dX11_mixShare_39 : decode cX11_mixShare 39 = .ok (.aload_n 0, 1) := by decide +kernel
theorem dX11_mixShare_40 : decode cX11_mixShare 40 = .ok (.getfield 60, 3) := by decide +kernel
theorem dX11_mixShare_43 : decode cX11_mixShare 43 = .ok (.iload_n 1, 1) := by decide +kernel
theorem dX11_mixShare_44 : decode cX11_mixShare 44 = .ok (.iload_n 2, 1) := by decide +kernel
theorem dX11_mixShare_45 : decode cX11_mixShare 45 = .ok (.invokevirtual 284, 3) := by decide +kernel
theorem dX11_mixShare_48 : decode cX11_mixShare 48 = .ok (.invokestatic 287, 3) := by decide +kernel
theorem dX11_mixShare_51 : decode cX11_mixShare 51 = .ok (.aload_n 0, 1) := by decide +kernel
theorem dX11_mixShare_52 : decode cX11_mixShare 52 = .ok (.getfield 60, 3) := by decide +kernel
theorem dX11_mixShare_55 : decode cX11_mixShare 55 = .ok (.getfield 290, 3) := by decide +kernel
theorem dX11_mixShare_58 : decode cX11_mixShare 58 = .ok (.iload_n 3, 1) := by decide +kernel
theorem dX11_mixShare_59 : decode cX11_mixShare 59 = .ok (.iaload, 1) := by decide +kernel
theorem dX11_mixShare_60 : decode cX11_mixShare 60 = .ok (.aload_n 0, 1) := by decide +kernel
theorem dX11_mixShare_61 : decode cX11_mixShare 61 = .ok (.getfield 60, 3) := by decide +kernel
theorem dX11_mixShare_64 : decode cX11_mixShare 64 = .ok (.getfield 297, 3) := by decide +kernel
theorem dX11_mixShare_67 : decode cX11_mixShare 67 = .ok (.iload 4, 2) := by decide +kernel
theorem dX11_mixShare_69 : decode cX11_mixShare 69 = .ok (.invokestatic 300, 3) := by decide +kernel
theorem dX11_mixShare_72 : decode cX11_mixShare 72 = .ok (.ireturn, 1) := by decide +kernel
set_option maxRecDepth 20000 in
theorem ggX11_note_X11_needRecipe : GoodIn wsX11_note wsX11_needRecipe := goodIn_ca (goodIn_r _ [8, 9, 10, 11, 12, 7, 13, 14, 15, 16, 17, 18, 114, 115, 116, 117, 118, 119, 120, 121, 122, 123, 124, 125, 126, 127, 130, 131, 132, 133, 134, 135, 136, 137] (by decide +kernel) (by decide +kernel)) (goodIn_sub (fun _ h => List.mem_cons_of_mem _ (List.mem_append_left _ (List.mem_append_left _ (List.mem_append_right _ h)))) (by decide +kernel))
set_option maxRecDepth 20000 in
theorem gX11_note_X11_needRecipe : GoodIn wsX11_note (wsV RX11 139 RX11 yX11_needRecipe wsX11_needRecipe) := goodIn_app (goodIn_of _ (by decide +kernel)) ggX11_note_X11_needRecipe
set_option maxRecDepth 20000 in
theorem ggX11_note_X11_isWithin : GoodIn wsX11_note wsX11_isWithin := goodIn_r _ [13] (by decide +kernel) (by decide +kernel)
set_option maxRecDepth 20000 in
theorem gX11_note_X11_isWithin : GoodIn wsX11_note (va_wsS RX11 99 yX11_isWithin wsX11_isWithin) := goodIn_app (goodIn_of _ (by decide +kernel)) ggX11_note_X11_isWithin
set_option maxRecDepth 20000 in
theorem ggX11_note_X11_needArgument : GoodIn wsX11_note wsX11_needArgument := goodIn_ca (goodIn_r _ [21, 22, 23] (by decide +kernel) (by decide +kernel)) (goodIn_sub (fun _ h => List.mem_cons_of_mem _ (List.mem_append_left _ (List.mem_append_right _ h))) (by decide +kernel))
set_option maxRecDepth 20000 in
theorem gX11_note_X11_needArgument : GoodIn wsX11_note (va_wsS RX11 103 yX11_needArgument wsX11_needArgument) := goodIn_app (goodIn_of _ (by decide +kernel)) ggX11_note_X11_needArgument
set_option maxRecDepth 20000 in
theorem ggX11_note_X11_needState : GoodIn wsX11_note wsX11_needState := goodIn_ca (goodIn_r _ [26, 27, 28] (by decide +kernel) (by decide +kernel)) (goodIn_sub (fun _ h => List.mem_cons_of_mem _ (List.mem_append_right _ h)) (by decide +kernel))
set_option maxRecDepth 20000 in
theorem gX11_note_X11_needState : GoodIn wsX11_note (va_wsS RX11 111 yX11_needState wsX11_needState) := goodIn_app (goodIn_of _ (by decide +kernel)) ggX11_note_X11_needState
set_option maxRecDepth 20000 in
theorem ggX11_note_X11_remember : GoodIn wsX11_note wsX11_remember := goodIn_r _ [32, 33, 34, 35, 36, 9, 37, 38, 39, 40, 1, 41, 42, 43, 44, 45, 46, 47, 48, 49, 50, 51, 52, 53, 54, 55, 56, 57, 58, 59, 60, 61, 62, 63, 64, 65, 66, 67, 68, 69, 70, 71, 72, 73, 74, 75, 76, 77, 78, 79, 80, 81, 82, 83, 84, 85, 86, 87, 88, 89, 90, 91, 92, 93, 94, 95, 96, 97, 98, 99, 100, 101, 102, 103, 104, 105, 106, 107, 108, 109, 110, 111, 112, 113, 114, 115, 116, 117, 118, 119, 120, 121, 122, 123, 124, 125, 126, 127, 138, 139, 140, 141, 130, 131, 132, 133, 134, 135, 136, 137, 142, 143, 144, 145, 146, 147, 148, 149, 150, 151, 152, 153, 154, 155, 156, 157, 158, 159, 160, 161, 162, 128, 129, 163, 164, 165, 166, 167, 168, 169, 170, 171] (by decide +kernel) (by decide +kernel)
set_option maxRecDepth 20000 in
theorem gX11_note_X11_remember : GoodIn wsX11_note (wsV RX11 114 RX11 yX11_remember wsX11_remember) := goodIn_app (goodIn_of _ (by decide +kernel)) ggX11_note_X11_remember
theorem dX11_note_0 : decode cX11_note 0 = .ok (.aload_n 0, 1) := by decide +kernel
theorem dX11_note_1 : decode cX11_note 1 = .ok (.iload_n 1, 1) := by decide +kernel
theorem dX11_note_2 : decode cX11_note 2 = .ok (.invokevirtual 139, 3) := by decide +kernel
theorem dX11_note_5 : decode cX11_note 5 = .ok (.iload_n 2, 1) := by decide +kernel
theorem dX11_note_6 : decode cX11_note 6 = .ok (.iconst 0, 1) := by decide +kernel
theorem dX11_note_7 : decode cX11_note 7 = .ok (.bipush 99, 2) := by decide +kernel
theorem dX11_note_9 : decode cX11_note 9 = .ok (.invokestatic 99, 3) := by decide +kernel
theorem dX11_note_12 : decode cX11_note 12 = .ok (.invokestatic 103, 3) := by decide +kernel
theorem dX11_note_15 : decode cX11_note 15 = .ok (.aload_n 0, 1) := by decide +kernel
theorem dX11_note_16 : decode cX11_note 16 = .ok (.getfield 65, 3) := by decide +kernel
theorem dX11_note_19 : decode cX11_note 19 = .ok (.getfield 304, 3) := by decide +kernel
theorem dX11_note_22 : decode cX11_note 22 = .ok (.iload_n 1, 1) := by decide +kernel
theorem dX11_note_23 : decode cX11_note 23 = .ok (.iaload, 1) := by decide +kernel
theorem dX11_note_24 : decode cX11_note 24 = .ok (.bipush 60, 2) := by decide +kernel
theorem dX11_note_26 : decode cX11_note 26 = .ok (.if_icmp .ge 7, 3) := by decide +kernel
theorem dX11_note_29 : decode cX11_note 29 = .ok (.iconst 1, 1) := by decide +kernel
theorem dX11_note_30 : decode cX11_note 30 = .ok (.goto 4, 3) := by decide +kernel
theorem dX11_note_33 : decode cX11_note 33 = .ok (.iconst 0, 1) := by decide +kernel
theorem dX11_note_34 : decode cX11_note 34 = .ok (.invokestatic 111, 3) := by decide +kernel
theorem dX11_note_37 : decode cX11_note 37 = .ok (.aload_n 0, 1) := by decide +kernel
theorem dX11_note_38 : decode cX11_note 38 = .ok (.invokevirtual 114, 3) := by decide +kernel
theorem dX11_note_41 : decode cX11_note 41 = .ok (.aload_n 0, 1) := by decide +kernel
theorem dX11_note_42 : decode cX11_note 42 = .ok (.getfield 65, 3) := by decide +kernel
theorem dX11_note_45 : decode cX11_note 45 = .ok (.getfield 306, 3) := by decide +kernel
theorem dX11_note_48 : decode cX11_note 48 = .ok (.iload_n 1, 1) := by decide +kernel
theorem dX11_note_49 : decode cX11_note 49 = .ok (.bipush 60, 2) := by decide +kernel
theorem dX11_note_51 : decode cX11_note 51 = .ok (.imul, 1) := by decide +kernel
theorem dX11_note_52 : decode cX11_note 52 = .ok (.aload_n 0, 1) := by decide +kernel
theorem dX11_note_53 : decode cX11_note 53 = .ok (.getfield 65, 3) := by decide +kernel
theorem dX11_note_56 : decode cX11_note 56 = .ok (.getfield 304, 3) := by decide +kernel
theorem dX11_note_59 : decode cX11_note 59 = .ok (.iload_n 1, 1) := by decide +kernel
theorem dX11_note_60 : decode cX11_note 60 = .ok (.iaload, 1) := by decide +kernel
theorem dX11_note_61 : decode cX11_note 61 = .ok (.iadd, 1) := by decide +kernel
theorem dX11_note_62 : decode cX11_note 62 = .ok (.iload_n 2, 1) := by decide +kernel
theorem dX11_note_63 : decode cX11_note 63 = .ok (.iastore, 1) := by decide +kernel
theorem dX11_note_64 : decode cX11_note 64 = .ok (.aload_n 0, 1) := by decide +kernel
theorem dX11_note_65 : decode cX11_note 65 = .ok (.getfield 65, 3) := by decide +kernel
theorem dX11_note_68 : decode cX11_note 68 = .ok (.getfield 304, 3) := by decide +kernel
theorem dX11_note_71 : decode cX11_note 71 = .ok (.iload_n 1, 1) := by decide +kernel
theorem dX11_note_72 : decode cX11_note 72 = .ok (.dup2, 1) := by decide +kernel
theorem dX11_note_73 : decode cX11_note 73 = .ok (.iaload, 1) := by decide +kernel
theorem dX11_note_74 : decode cX11_note 74 = .ok (.iconst 1, 1) := by decide +kernel
theorem dX11_note_75 : decode cX11_note 75 = .ok (.iadd, 1) := by decide +kernel
theorem dX11_note_76 : decode cX11_note 76 = .ok (.iastore, 1) := by decide +kernel
theorem dX11_note_77 : decode cX11_note 77 = .ok (.aload_n 0, 1) := by decide +kernel
theorem dX11_note_78 : decode cX11_note 78 = .ok (.getfield 65, 3) := by decide +kernel
theorem dX11_note_81 : decode cX11_note 81 = .ok (.getfield 304, 3) := by decide +kernel
theorem dX11_note_84 : decode cX11_note 84 = .ok (.iload_n 1, 1) := by decide +kernel
theorem dX11_note_85 : decode cX11_note 85 = .ok (.iaload, 1) := by decide +kernel
theorem dX11_note_86 : decode cX11_note 86 = .ok (.ireturn, 1) := by decide +kernel
set_option maxRecDepth 20000 in
theorem ggX11_bestNumber_X11_needRecipe : GoodIn wsX11_bestNumber wsX11_needRecipe := goodIn_ca (goodIn_r _ [7, 8, 9, 10, 11, 6, 12, 13, 14, 15, 16, 17, 39, 40, 41, 42, 43, 44, 45, 46, 47, 48, 49, 50, 51, 52, 55, 56, 57, 58, 59, 60, 61, 62] (by decide +kernel) (by decide +kernel)) (goodIn_sub (fun _ h => List.mem_cons_of_mem _ (List.mem_append_left _ (List.mem_append_left _ (List.mem_append_right _ h)))) (by decide +kernel))
set_option maxRecDepth 20000 in
theorem gX11_bestNumber_X11_needRecipe : GoodIn wsX11_bestNumber (wsV RX11 139 RX11 yX11_needRecipe wsX11_needRecipe) := goodIn_app (goodIn_of _ (by decide +kernel)) ggX11_bestNumber_X11_needRecipe
set_option maxRecDepth 20000 in
theorem ggX11_bestNumber_X11_isWithin : GoodIn wsX11_bestNumber wsX11_isWithin := goodIn_r _ [12] (by decide +kernel) (by decide +kernel)
set_option maxRecDepth 20000 in
theorem gX11_bestNumber_X11_isWithin : GoodIn wsX11_bestNumber (va_wsS RX11 99 yX11_isWithin wsX11_isWithin) := goodIn_app (goodIn_of _ (by decide +kernel)) ggX11_bestNumber_X11_isWithin
set_option maxRecDepth 20000 in
theorem ggX11_bestNumber_X11_needArgument : GoodIn wsX11_bestNumber wsX11_needArgument := goodIn_ca (goodIn_r _ [20, 21, 22] (by decide +kernel) (by decide +kernel)) (goodIn_sub (fun _ h => List.mem_cons_of_mem _ (List.mem_append_left _ (List.mem_append_right _ h))) (by decide +kernel))
set_option maxRecDepth 20000 in
theorem gX11_bestNumber_X11_needArgument : GoodIn wsX11_bestNumber (va_wsS RX11 103 yX11_needArgument wsX11_needArgument) := goodIn_app (goodIn_of _ (by decide +kernel)) ggX11_bestNumber_X11_needArgument
set_option maxRecDepth 20000 in
theorem ggX11_bestNumber_X11_needElement : GoodIn wsX11_bestNumber wsX11_needElement := goodIn_ca (goodIn_r _ [25, 26, 27] (by decide +kernel) (by decide +kernel)) (goodIn_sub (fun _ h => List.mem_cons_of_mem _ (List.mem_append_right _ h)) (by decide +kernel))
set_option maxRecDepth 20000 in
theorem gX11_bestNumber_X11_needElement : GoodIn wsX11_bestNumber (va_wsS RX11 287 yX11_needElement wsX11_needElement) := goodIn_app (goodIn_of _ (by decide +kernel)) ggX11_bestNumber_X11_needElement
set_option maxRecDepth 20000 in
theorem ggX11_bestNumber_X4_bestFor : GoodIn wsX11_bestNumber wsX4_bestFor := goodIn_r _ [32, 33, 34, 35, 31, 36, 37, 38, 53, 54] (by decide +kernel) (by decide +kernel)
set_option maxRecDepth 20000 in
theorem gX11_bestNumber_X4_bestFor : GoodIn wsX11_bestNumber (wsV RX11 309 RX4 yX4_bestFor wsX4_bestFor) := goodIn_app (goodIn_of _ (by decide +kernel)) ggX11_bestNumber_X4_bestFor
theorem dX11_bestNumber_0 : decode cX11_bestNumber 0 = .ok (.aload_n 0, 1) := by decide +kernel
theorem dX11_bestNumber_1 : decode cX11_bestNumber 1 = .ok (.iload_n 1, 1) := by decide +kernel
theorem dX11_bestNumber_2 : decode cX11_bestNumber 2 = .ok (.invokevirtual 139, 3) := by decide +kernel
theorem dX11_bestNumber_5 : decode cX11_bestNumber 5 = .ok (.iload_n 2, 1) := by decide +kernel
theorem dX11_bestNumber_6 : decode cX11_bestNumber 6 = .ok (.iconst 0, 1) := by decide +kernel
theorem dX11_bestNumber_7 : decode cX11_bestNumber 7 = .ok (.bipush 99, 2) := by decide +kernel
theorem dX11_bestNumber_9 : decode cX11_bestNumber 9 = .ok (.invokestatic 99, 3) := by decide +kernel
theorem dX11_bestNumber_12 : decode cX11_bestNumber 12 = .ok (.ifCond .eq 17, 3) := by decide +kernel
theorem dX11_bestNumber_15 : decode cX11_bestNumber 15 = .ok (.iload_n 3, 1) := by decide +kernel
theorem dX11_bestNumber_16 : decode cX11_bestNumber 16 = .ok (.iconst 0, 1) := by decide +kernel
theorem dX11_bestNumber_17 : decode cX11_bestNumber 17 = .ok (.bipush 99, 2) := by decide +kernel
theorem dX11_bestNumber_19 : decode cX11_bestNumber 19 = .ok (.invokestatic 99, 3) := by decide +kernel
theorem dX11_bestNumber_22 : decode cX11_bestNumber 22 = .ok (.ifCond .eq 7, 3) := by decide +kernel
theorem dX11_bestNumber_25 : decode cX11_bestNumber 25 = .ok (.iconst 1, 1) := by decide +kernel
theorem dX11_bestNumber_26 : decode cX11_bestNumber 26 = .ok (.goto 4, 3) := by decide +kernel
theorem dX11_bestNumber_29 : decode cX11_bestNumber 29 = .ok (.iconst 0, 1) := by decide +kernel
theorem dX11_bestNumber_30 : decode cX11_bestNumber 30 = .ok (.invokestatic 103, 3) := by decide +kernel
theorem dX11_bestNumber_33 : decode cX11_bestNumber 33 = .ok (.aload_n 0, 1) := by decide +kernel
theorem dX11_bestNumber_34 : decode cX11_bestNumber 34 = .ok (.getfield 65, 3) := by decide +kernel
theorem dX11_bestNumber_37 : decode cX11_bestNumber 37 = .ok (.getfield 304, 3) := by decide +kernel
theorem dX11_bestNumber_40 : decode cX11_bestNumber 40 = .ok (.iload_n 1, 1) := by decide +kernel
theorem dX11_bestNumber_41 : decode cX11_bestNumber 41 = .ok (.iaload, 1) := by decide +kernel
theorem dX11_bestNumber_42 : decode cX11_bestNumber 42 = .ok (.ifCond .le 7, 3) := by decide +kernel
theorem dX11_bestNumber_45 : decode cX11_bestNumber 45 = .ok (.iconst 1, 1) := by decide +kernel
theorem dX11_bestNumber_46 : decode cX11_bestNumber 46 = .ok (.goto 4, 3) := by decide +kernel
theorem dX11_bestNumber_49 : decode cX11_bestNumber 49 = .ok (.iconst 0, 1) := by decide +kernel
theorem dX11_bestNumber_50 : decode cX11_bestNumber 50 = .ok (.invokestatic 287, 3) := by decide +kernel
theorem dX11_bestNumber_53 : decode cX11_bestNumber 53 = .ok (.aload_n 0, 1) := by decide +kernel
theorem dX11_bestNumber_54 : decode cX11_bestNumber 54 = .ok (.getfield 65, 3) := by decide +kernel
theorem dX11_bestNumber_57 : decode cX11_bestNumber 57 = .ok (.iload_n 1, 1) := by decide +kernel
theorem dX11_bestNumber_58 : decode cX11_bestNumber 58 = .ok (.iload_n 2, 1) := by decide +kernel
theorem dX11_bestNumber_59 : decode cX11_bestNumber 59 = .ok (.iload_n 3, 1) := by decide +kernel
theorem dX11_bestNumber_60 : decode cX11_bestNumber 60 = .ok (.invokevirtual 309, 3) := by decide +kernel
theorem dX11_bestNumber_63 : decode cX11_bestNumber 63 = .ok (.ireturn, 1) := by decide +kernel
set_option maxRecDepth 20000 in
theorem ggX11_loss_X11_needRecipe : GoodIn wsX11_loss wsX11_needRecipe := goodIn_ca (goodIn_r _ [6, 7, 8, 9, 10, 5, 11, 12, 13, 14, 15, 16, 29, 30, 31, 32, 33, 34, 35, 36, 37, 38, 39, 40, 41, 42, 43, 44, 45, 46, 47, 48, 49, 50] (by decide +kernel) (by decide +kernel)) (goodIn_sub (fun _ h => List.mem_cons_of_mem _ (List.mem_append_left _ (List.mem_append_right _ h))) (by decide +kernel))
set_option maxRecDepth 20000 in
theorem gX11_loss_X11_needRecipe : GoodIn wsX11_loss (wsV RX11 139 RX11 yX11_needRecipe wsX11_needRecipe) := goodIn_app (goodIn_of _ (by decide +kernel)) ggX11_loss_X11_needRecipe
set_option maxRecDepth 20000 in
theorem ggX11_loss_X11_isWithin : GoodIn wsX11_loss wsX11_isWithin := goodIn_r _ [11] (by decide +kernel) (by decide +kernel)
set_option maxRecDepth 20000 in
theorem gX11_loss_X11_isWithin : GoodIn wsX11_loss (va_wsS RX11 99 yX11_isWithin wsX11_isWithin) := goodIn_app (goodIn_of _ (by decide +kernel)) ggX11_loss_X11_isWithin
set_option maxRecDepth 20000 in
theorem ggX11_loss_X11_needArgument : GoodIn wsX11_loss wsX11_needArgument := goodIn_ca (goodIn_r _ [19, 20, 21] (by decide +kernel) (by decide +kernel)) (goodIn_sub (fun _ h => List.mem_cons_of_mem _ (List.mem_append_right _ h)) (by decide +kernel))
set_option maxRecDepth 20000 in
theorem gX11_loss_X11_needArgument : GoodIn wsX11_loss (va_wsS RX11 103 yX11_needArgument wsX11_needArgument) := goodIn_app (goodIn_of _ (by decide +kernel)) ggX11_loss_X11_needArgument
set_option maxRecDepth 20000 in
theorem ggX11_loss_X4_lossOf : GoodIn wsX11_loss wsX4_lossOf := goodIn_r _ [26, 27, 28, 51, 52] (by decide +kernel) (by decide +kernel)
set_option maxRecDepth 20000 in
theorem gX11_loss_X4_lossOf : GoodIn wsX11_loss (wsV RX11 312 RX4 yX4_lossOf wsX4_lossOf) := goodIn_app (goodIn_of _ (by decide +kernel)) ggX11_loss_X4_lossOf
theorem dX11_loss_0 : decode cX11_loss 0 = .ok (.aload_n 0, 1) := by decide +kernel
theorem dX11_loss_1 : decode cX11_loss 1 = .ok (.iload_n 1, 1) := by decide +kernel
theorem dX11_loss_2 : decode cX11_loss 2 = .ok (.invokevirtual 139, 3) := by decide +kernel
theorem dX11_loss_5 : decode cX11_loss 5 = .ok (.iload_n 2, 1) := by decide +kernel
theorem dX11_loss_6 : decode cX11_loss 6 = .ok (.iconst 0, 1) := by decide +kernel
theorem dX11_loss_7 : decode cX11_loss 7 = .ok (.bipush 99, 2) := by decide +kernel
theorem dX11_loss_9 : decode cX11_loss 9 = .ok (.invokestatic 99, 3) := by decide +kernel
theorem dX11_loss_12 : decode cX11_loss 12 = .ok (.ifCond .eq 28, 3) := by decide +kernel
theorem dX11_loss_15 : decode cX11_loss 15 = .ok (.iload_n 3, 1) := by decide +kernel
theorem dX11_loss_16 : decode cX11_loss 16 = .ok (.iconst 0, 1) := by decide +kernel
theorem dX11_loss_17 : decode cX11_loss 17 = .ok (.bipush 99, 2) := by decide +kernel
theorem dX11_loss_19 : decode cX11_loss 19 = .ok (.invokestatic 99, 3) := by decide +kernel
theorem dX11_loss_22 : decode cX11_loss 22 = .ok (.ifCond .eq 18, 3) := by decide +kernel
theorem dX11_loss_25 : decode cX11_loss 25 = .ok (.iload 4, 2) := by decide +kernel
theorem dX11_loss_27 : decode cX11_loss 27 = .ok (.iconst 0, 1) := by decide +kernel
theorem dX11_loss_28 : decode cX11_loss 28 = .ok (.bipush 99, 2) := by decide +kernel
theorem dX11_loss_30 : decode cX11_loss 30 = .ok (.invokestatic 99, 3) := by decide +kernel
theorem dX11_loss_33 : decode cX11_loss 33 = .ok (.ifCond .eq 7, 3) := by decide +kernel
theorem dX11_loss_36 : decode cX11_loss 36 = .ok (.iconst 1, 1) := by decide +kernel
theorem dX11_loss_37 : decode cX11_loss 37 = .ok (.goto 4, 3) := by decide +kernel
theorem dX11_loss_40 : decode cX11_loss 40 = .ok (.iconst 0, 1) := by decide +kernel
theorem dX11_loss_41 : decode cX11_loss 41 = .ok (.invokestatic 103, 3) := by decide +kernel
theorem dX11_loss_44 : decode cX11_loss 44 = .ok (.aload_n 0, 1) := by decide +kernel
theorem dX11_loss_45 : decode cX11_loss 45 = .ok (.getfield 65, 3) := by decide +kernel
theorem dX11_loss_48 : decode cX11_loss 48 = .ok (.iload_n 1, 1) := by decide +kernel
theorem dX11_loss_49 : decode cX11_loss 49 = .ok (.iload_n 2, 1) := by decide +kernel
theorem dX11_loss_50 : decode cX11_loss 50 = .ok (.iload_n 3, 1) := by decide +kernel
theorem dX11_loss_51 : decode cX11_loss 51 = .ok (.iload 4, 2) := by decide +kernel
theorem dX11_loss_53 : decode cX11_loss 53 = .ok (.invokevirtual 312, 3) := by decide +kernel
theorem dX11_loss_56 : decode cX11_loss 56 = .ok (.ireturn, 1) := by decide +kernel
set_option maxRecDepth 20000 in
theorem ggX11_addShop_X11_isWithin : GoodIn wsX11_addShop wsX11_isWithin := goodIn_r _ [11] (by decide +kernel) (by decide +kernel)
set_option maxRecDepth 20000 in
theorem gX11_addShop_X11_isWithin : GoodIn wsX11_addShop (va_wsS RX11 99 yX11_isWithin wsX11_isWithin) := goodIn_app (goodIn_of _ (by decide +kernel)) ggX11_addShop_X11_isWithin
set_option maxRecDepth 20000 in
theorem ggX11_addShop_X11_needArgument : GoodIn wsX11_addShop wsX11_needArgument := goodIn_ca (goodIn_r _ [14, 15, 16] (by decide +kernel) (by decide +kernel)) (goodIn_sub (fun _ h => List.mem_cons_of_mem _ (List.mem_append_left _ (List.mem_append_right _ h))) (by decide +kernel))
set_option maxRecDepth 20000 in
theorem gX11_addShop_X11_needArgument : GoodIn wsX11_addShop (va_wsS RX11 103 yX11_needArgument wsX11_needArgument) := goodIn_app (goodIn_of _ (by decide +kernel)) ggX11_addShop_X11_needArgument
set_option maxRecDepth 20000 in
theorem ggX11_addShop_X11_needState : GoodIn wsX11_addShop wsX11_needState := goodIn_ca (goodIn_r _ [19, 20, 21] (by decide +kernel) (by decide +kernel)) (goodIn_sub (fun _ h => List.mem_cons_of_mem _ (List.mem_append_right _ h)) (by decide +kernel))
set_option maxRecDepth 20000 in
theorem gX11_addShop_X11_needState : GoodIn wsX11_addShop (va_wsS RX11 111 yX11_needState wsX11_needState) := goodIn_app (goodIn_of _ (by decide +kernel)) ggX11_addShop_X11_needState
set_option maxRecDepth 20000 in
theorem ggX11_addShop_X11_remember : GoodIn wsX11_addShop wsX11_remember := goodIn_r _ [25, 26, 27, 28, 29, 30, 31, 32, 33, 34, 35, 1, 36, 37, 38, 39, 40, 41, 42, 43, 44, 45, 46, 47, 48, 49, 50, 51, 52, 53, 54, 55, 56, 57, 58, 59, 60, 61, 62, 63, 64, 65, 66, 67, 68, 69, 70, 71, 72, 73, 74, 75, 76, 77, 78, 79, 80, 81, 82, 83, 84, 85, 86, 87, 88, 89, 90, 91, 92, 93, 94, 95, 96, 97, 98, 99, 100, 101, 102, 103, 104, 105, 106, 107, 108, 109, 110, 111, 112, 113, 114, 115, 116, 117, 118, 119, 120, 121, 131, 132, 133, 134, 135, 136, 137, 138, 139, 140, 141, 142, 143, 144, 145, 146, 147, 148, 149, 150, 151, 152, 153, 154, 155, 156, 157, 158, 159, 160, 161, 162, 163, 164, 165, 122, 123, 124, 125, 126, 127, 128, 129, 130] (by decide +kernel) (by decide +kernel)
set_option maxRecDepth 20000 in
theorem gX11_addShop_X11_remember : GoodIn wsX11_addShop (wsV RX11 114 RX11 yX11_remember wsX11_remember) := goodIn_app (goodIn_of _ (by decide +kernel)) ggX11_addShop_X11_remember
theorem dX11_addShop_0 : decode cX11_addShop 0 = .ok (.iload_n 1, 1) := by decide +kernel
theorem dX11_addShop_1 : decode cX11_addShop 1 = .ok (.iconst 0, 1) := by decide +kernel
theorem dX11_addShop_2 : decode cX11_addShop 2 = .ok (.bipush 20, 2) := by decide +kernel
theorem dX11_addShop_4 : decode cX11_addShop 4 = .ok (.invokestatic 99, 3) := by decide +kernel
theorem dX11_addShop_7 : decode cX11_addShop 7 = .ok (.ifCond .eq 51, 3) := by decide +kernel
theorem dX11_addShop_10 : decode cX11_addShop 10 = .ok (.iload_n 2, 1) := by decide +kernel
theorem dX11_addShop_11 : decode cX11_addShop 11 = .ok (.iconst 0, 1) := by decide +kernel
theorem dX11_addShop_12 : decode cX11_addShop 12 = .ok (.bipush 20, 2) := by decide +kernel
theorem dX11_addShop_14 : decode cX11_addShop 14 = .ok (.invokestatic 99, 3) := by decide +kernel
theorem dX11_addShop_17 : decode cX11_addShop 17 = .ok (.ifCond .eq 41, 3) := by decide +kernel
theorem dX11_addShop_20 : decode cX11_addShop 20 = .ok (.iload_n 3, 1) := by decide +kernel
theorem dX11_addShop_21 : decode cX11_addShop 21 = .ok (.iconst 0, 1) := by decide +kernel
theorem dX11_addShop_22 : decode cX11_addShop 22 = .ok (.sipush 600, 3) := by decide +kernel
theorem dX11_addShop_25 : decode cX11_addShop 25 = .ok (.invokestatic 99, 3) := by decide +kernel
theorem dX11_addShop_28 : decode cX11_addShop 28 = .ok (.ifCond .eq 30, 3) := by decide +kernel
theorem dX11_addShop_31 : decode cX11_addShop 31 = .ok (.iload 4, 2) := by decide +kernel
theorem dX11_addShop_33 : decode cX11_addShop 33 = .ok (.iload_n 3, 1) := by decide +kernel
theorem dX11_addShop_34 : decode cX11_addShop 34 = .ok (.sipush 600, 3) := by decide +kernel
theorem dX11_addShop_37 : decode cX11_addShop 37 = .ok (.invokestatic 99, 3) := by decide +kernel
theorem dX11_addShop_40 : decode cX11_addShop 40 = .ok (.ifCond .eq 18, 3) := by decide +kernel
theorem dX11_addShop_43 : decode cX11_addShop 43 = .ok (.iload 5, 2) := by decide +kernel
theorem dX11_addShop_45 : decode cX11_addShop 45 = .ok (.iconst 0, 1) := by decide +kernel
theorem dX11_addShop_46 : decode cX11_addShop 46 = .ok (.bipush 30, 2) := by decide +kernel
theorem dX11_addShop_48 : decode cX11_addShop 48 = .ok (.invokestatic 99, 3) := by decide +kernel
theorem dX11_addShop_51 : decode cX11_addShop 51 = .ok (.ifCond .eq 7, 3) := by decide +kernel
theorem dX11_addShop_54 : decode cX11_addShop 54 = .ok (.iconst 1, 1) := by decide +kernel
theorem dX11_addShop_55 : decode cX11_addShop 55 = .ok (.goto 4, 3) := by decide +kernel
theorem dX11_addShop_58 : decode cX11_addShop 58 = .ok (.iconst 0, 1) := by decide +kernel
theorem dX11_addShop_59 : decode cX11_addShop 59 = .ok (.invokestatic 103, 3) := by decide +kernel
theorem dX11_addShop_62 : decode cX11_addShop 62 = .ok (.aload_n 0, 1) := by decide +kernel
theorem dX11_addShop_63 : decode cX11_addShop 63 = .ok (.getfield 70, 3) := by decide +kernel
theorem dX11_addShop_66 : decode cX11_addShop 66 = .ok (.getfield 316, 3) := by decide +kernel
theorem dX11_addShop_69 : decode cX11_addShop 69 = .ok (.bipush 7, 2) := by decide +kernel
theorem dX11_addShop_71 : decode cX11_addShop 71 = .ok (.if_icmp .ge 7, 3) := by decide +kernel
theorem dX11_addShop_74 : decode cX11_addShop 74 = .ok (.iconst 1, 1) := by decide +kernel
theorem dX11_addShop_75 : decode cX11_addShop 75 = .ok (.goto 4, 3) := by decide +kernel
theorem dX11_addShop_78 : decode cX11_addShop 78 = .ok (.iconst 0, 1) := by decide +kernel
theorem dX11_addShop_79 : decode cX11_addShop 79 = .ok (.invokestatic 111, 3) := by decide +kernel
theorem dX11_addShop_82 : decode cX11_addShop 82 = .ok (.aload_n 0, 1) := by decide +kernel
theorem dX11_addShop_83 : decode cX11_addShop 83 = .ok (.invokevirtual 114, 3) := by decide +kernel
theorem dX11_addShop_86 : decode cX11_addShop 86 = .ok (.aload_n 0, 1) := by decide +kernel
theorem dX11_addShop_87 : decode cX11_addShop 87 = .ok (.getfield 70, 3) := by decide +kernel
theorem dX11_addShop_90 : decode cX11_addShop 90 = .ok (.getfield 316, 3) := by decide +kernel
theorem dX11_addShop_93 : decode cX11_addShop 93 = .ok (.istore 6, 2) := by decide +kernel
theorem dX11_addShop_95 : decode cX11_addShop 95 = .ok (.aload_n 0, 1) := by decide +kernel
theorem dX11_addShop_96 : decode cX11_addShop 96 = .ok (.getfield 70, 3) := by decide +kernel
theorem dX11_addShop_99 : decode cX11_addShop 99 = .ok (.getfield 317, 3) := by decide +kernel
theorem dX11_addShop_102 : decode cX11_addShop 102 = .ok (.iload 6, 2) := by decide +kernel
theorem dX11_addShop_104 : decode cX11_addShop 104 = .ok (.iload_n 1, 1) := by decide +kernel
theorem dX11_addShop_105 : decode cX11_addShop 105 = .ok (.iastore, 1) := by decide +kernel
theorem dX11_addShop_106 : decode cX11_addShop 106 = .ok (.aload_n 0, 1) := by decide +kernel
theorem dX11_addShop_107 : decode cX11_addShop 107 = .ok (.getfield 70, 3) := by decide +kernel
theorem dX11_addShop_110 : decode cX11_addShop 110 = .ok (.getfield 320, 3) := by decide +kernel
theorem dX11_addShop_113 : decode cX11_addShop 113 = .ok (.iload 6, 2) := by decide +kernel
theorem dX11_addShop_115 : decode cX11_addShop 115 = .ok (.iload_n 2, 1) := by decide +kernel
theorem dX11_addShop_116 : decode cX11_addShop 116 = .ok (.iastore, 1) := by decide +kernel
theorem dX11_addShop_117 : decode cX11_addShop 117 = .ok (.aload_n 0, 1) := by decide +kernel
theorem dX11_addShop_118 : decode cX11_addShop 118 = .ok (.getfield 70, 3) := by decide +kernel
theorem dX11_addShop_121 : decode cX11_addShop 121 = .ok (.getfield 323, 3) := by decide +kernel
theorem dX11_addShop_124 : decode cX11_addShop 124 = .ok (.iload 6, 2) := by decide +kernel
theorem dX11_addShop_126 : decode cX11_addShop 126 = .ok (.iload_n 3, 1) := by decide +kernel
theorem dX11_addShop_127 : decode cX11_addShop 127 = .ok (.iastore, 1) := by decide +kernel
theorem dX11_addShop_128 : decode cX11_addShop 128 = .ok (.aload_n 0, 1) := by decide +kernel
theorem dX11_addShop_129 : decode cX11_addShop 129 = .ok (.getfield 70, 3) := by decide +kernel
theorem dX11_addShop_132 : decode cX11_addShop 132 = .ok (.getfield 326, 3) := by decide +kernel
theorem dX11_addShop_135 : decode cX11_addShop 135 = .ok (.iload 6, 2) := by decide +kernel
theorem dX11_addShop_137 : decode cX11_addShop 137 = .ok (.iload 4, 2) := by decide +kernel
theorem dX11_addShop_139 : decode cX11_addShop 139 = .ok (.iastore, 1) := by decide +kernel
theorem dX11_addShop_140 : decode cX11_addShop 140 = .ok (.aload_n 0, 1) := by decide +kernel
theorem dX11_addShop_141 : decode cX11_addShop 141 = .ok (.getfield 70, 3) := by decide +kernel
theorem dX11_addShop_144 : decode cX11_addShop 144 = .ok (.getfield 329, 3) := by decide +kernel
theorem dX11_addShop_147 : decode cX11_addShop 147 = .ok (.iload 6, 2) := by decide +kernel
theorem dX11_addShop_149 : decode cX11_addShop 149 = .ok (.iload 5, 2) := by decide +kernel
theorem dX11_addShop_151 : decode cX11_addShop 151 = .ok (.iastore, 1) := by decide +kernel
theorem dX11_addShop_152 : decode cX11_addShop 152 = .ok (.aload_n 0, 1) := by decide +kernel
theorem dX11_addShop_153 : decode cX11_addShop 153 = .ok (.getfield 70, 3) := by decide +kernel
theorem dX11_addShop_156 : decode cX11_addShop 156 = .ok (.dup, 1) := by decide +kernel
theorem dX11_addShop_157 : decode cX11_addShop 157 = .ok (.getfield 316, 3) := by decide +kernel
theorem dX11_addShop_160 : decode cX11_addShop 160 = .ok (.iconst 1, 1) := by decide +kernel
theorem dX11_addShop_161 : decode cX11_addShop 161 = .ok (.iadd, 1) := by decide +kernel
theorem dX11_addShop_162 : decode cX11_addShop 162 = .ok (.putfield 316, 3) := by decide +kernel
theorem dX11_addShop_165 : decode cX11_addShop 165 = .ok (.iload 6, 2) := by decide +kernel
theorem dX11_addShop_167 : decode cX11_addShop 167 = .ok (.ireturn, 1) := by decide +kernel
set_option maxRecDepth 20000 in
theorem ggX11_comesBack_X11_isWithin : GoodIn wsX11_comesBack wsX11_isWithin := goodIn_r _ [6] (by decide +kernel) (by decide +kernel)
set_option maxRecDepth 20000 in
theorem gX11_comesBack_X11_isWithin : GoodIn wsX11_comesBack (va_wsS RX11 99 yX11_isWithin wsX11_isWithin) := goodIn_app (goodIn_of _ (by decide +kernel)) ggX11_comesBack_X11_isWithin
set_option maxRecDepth 20000 in
theorem ggX11_comesBack_X11_needArgument : GoodIn wsX11_comesBack wsX11_needArgument := goodIn_ca (goodIn_r _ [9, 10, 11] (by decide +kernel) (by decide +kernel)) (goodIn_sub (fun _ h => List.mem_cons_of_mem _ (List.mem_append_left _ (List.mem_append_right _ h))) (by decide +kernel))
set_option maxRecDepth 20000 in
theorem gX11_comesBack_X11_needArgument : GoodIn wsX11_comesBack (va_wsS RX11 103 yX11_needArgument wsX11_needArgument) := goodIn_app (goodIn_of _ (by decide +kernel)) ggX11_comesBack_X11_needArgument
set_option maxRecDepth 20000 in
theorem ggX11_comesBack_X1_findWay : GoodIn wsX11_comesBack wsX1_findWay := goodIn_r _ [16, 17, 18, 19, 15, 20, 21, 22, 23, 24, 25, 26, 27, 28, 29, 30, 31, 32, 33, 34, 35, 36, 37, 38, 39, 40, 41, 42, 43, 44, 45, 46, 47, 67, 68, 69, 70, 71, 72, 73, 74, 75] (by decide +kernel) (by decide +kernel)
set_option maxRecDepth 20000 in
theorem gX11_comesBack_X1_findWay : GoodIn wsX11_comesBack (wsV RX11 332 RX1 yX1_findWay wsX1_findWay) := goodIn_app (goodIn_of _ (by decide +kernel)) ggX11_comesBack_X1_findWay
set_option maxRecDepth 20000 in
theorem ggX11_comesBack_X11_needElement : GoodIn wsX11_comesBack wsX11_needElement := goodIn_ca (goodIn_r _ [50, 51, 52] (by decide +kernel) (by decide +kernel)) (goodIn_sub (fun _ h => List.mem_cons_of_mem _ (List.mem_append_right _ h)) (by decide +kernel))
set_option maxRecDepth 20000 in
theorem gX11_comesBack_X11_needElement : GoodIn wsX11_comesBack (va_wsS RX11 287 yX11_needElement wsX11_needElement) := goodIn_app (goodIn_of _ (by decide +kernel)) ggX11_comesBack_X11_needElement
theorem dX11_comesBack_0 : decode cX11_comesBack 0 = .ok (.iload_n 1, 1) := by decide +kernel
theorem dX11_comesBack_1 : decode cX11_comesBack 1 = .ok (.iconst 0, 1) := by decide +kernel
theorem dX11_comesBack_2 : decode cX11_comesBack 2 = .ok (.sipush 600, 3) := by decide +kernel
theorem dX11_comesBack_5 : decode cX11_comesBack 5 = .ok (.invokestatic 99, 3) := by decide +kernel
theorem dX11_comesBack_8 : decode cX11_comesBack 8 = .ok (.invokestatic 103, 3) := by decide +kernel
theorem dX11_comesBack_11 : decode cX11_comesBack 11 = .ok (.aload_n 0, 1) := by decide +kernel
theorem dX11_comesBack_12 : decode cX11_comesBack 12 = .ok (.getfield 70, 3) := by decide +kernel
theorem dX11_comesBack_15 : decode cX11_comesBack 15 = .ok (.iload_n 1, 1) := by decide +kernel
theorem dX11_comesBack_16 : decode cX11_comesBack 16 = .ok (.invokevirtual 332, 3) := by decide +kernel
theorem dX11_comesBack_19 : decode cX11_comesBack 19 = .ok (.invokestatic 287, 3) := by decide +kernel
theorem dX11_comesBack_22 : decode cX11_comesBack 22 = .ok (.aload_n 0, 1) := by decide +kernel
theorem dX11_comesBack_23 : decode cX11_comesBack 23 = .ok (.getfield 70, 3) := by decide +kernel
theorem dX11_comesBack_26 : decode cX11_comesBack 26 = .ok (.getfield 335, 3) := by decide +kernel
theorem dX11_comesBack_29 : decode cX11_comesBack 29 = .ok (.ireturn, 1) := by decide +kernel
set_option maxRecDepth 20000 in
theorem ggX11_shopOf_X11_isWithin : GoodIn wsX11_shopOf wsX11_isWithin := goodIn_r _ [7] (by decide +kernel) (by decide +kernel)
set_option maxRecDepth 20000 in
theorem gX11_shopOf_X11_isWithin : GoodIn wsX11_shopOf (va_wsS RX11 99 yX11_isWithin wsX11_isWithin) := goodIn_app (goodIn_of _ (by decide +kernel)) ggX11_shopOf_X11_isWithin
set_option maxRecDepth 20000 in
theorem ggX11_shopOf_X11_needIndex : GoodIn wsX11_shopOf wsX11_needIndex := goodIn_ca (goodIn_r _ [10, 11, 12] (by decide +kernel) (by decide +kernel)) (goodIn_sub (fun _ h => List.mem_cons_of_mem _ (List.mem_append_left _ (List.mem_append_left _ (List.mem_append_right _ h)))) (by decide +kernel))
set_option maxRecDepth 20000 in
theorem gX11_shopOf_X11_needIndex : GoodIn wsX11_shopOf (va_wsS RX11 272 yX11_needIndex wsX11_needIndex) := goodIn_app (goodIn_of _ (by decide +kernel)) ggX11_shopOf_X11_needIndex
set_option maxRecDepth 20000 in
theorem ggX11_shopOf_X11_needArgument : GoodIn wsX11_shopOf wsX11_needArgument := goodIn_ca (goodIn_r _ [15, 16, 17] (by decide +kernel) (by decide +kernel)) (goodIn_sub (fun _ h => List.mem_cons_of_mem _ (List.mem_append_left _ (List.mem_append_right _ h))) (by decide +kernel))
set_option maxRecDepth 20000 in
theorem gX11_shopOf_X11_needArgument : GoodIn wsX11_shopOf (va_wsS RX11 103 yX11_needArgument wsX11_needArgument) := goodIn_app (goodIn_of _ (by decide +kernel)) ggX11_shopOf_X11_needArgument
set_option maxRecDepth 20000 in
theorem ggX11_shopOf_X1_findWay : GoodIn wsX11_shopOf wsX1_findWay := goodIn_r _ [22, 23, 24, 25, 21, 26, 27, 28, 29, 30, 31, 32, 33, 34, 35, 36, 37, 38, 39, 40, 41, 42, 43, 44, 45, 46, 47, 48, 49, 50, 51, 52, 53, 73, 74, 75, 76, 77, 78, 79, 80, 81] (by decide +kernel) (by decide +kernel)
set_option maxRecDepth 20000 in
theorem gX11_shopOf_X1_findWay : GoodIn wsX11_shopOf (wsV RX11 332 RX1 yX1_findWay wsX1_findWay) := goodIn_app (goodIn_of _ (by decide +kernel)) ggX11_shopOf_X1_findWay
set_option maxRecDepth 20000 in
theorem ggX11_shopOf_X11_needElement : GoodIn wsX11_shopOf wsX11_needElement := goodIn_ca (goodIn_r _ [56, 57, 58] (by decide +kernel) (by decide +kernel)) (goodIn_sub (fun _ h => List.mem_cons_of_mem _ (List.mem_append_right _ h)) (by decide +kernel))
set_option maxRecDepth 20000 in
theorem gX11_shopOf_X11_needElement : GoodIn wsX11_shopOf (va_wsS RX11 287 yX11_needElement wsX11_needElement) := goodIn_app (goodIn_of _ (by decide +kernel)) ggX11_shopOf_X11_needElement
theorem dX11_shopOf_0 : decode cX11_shopOf 0 = .ok (.iload_n 2, 1) := by decide +kernel
theorem dX11_shopOf_1 : decode cX11_shopOf 1 = .ok (.iconst 0, 1) := by decide +kernel
theorem dX11_shopOf_2 : decode cX11_shopOf 2 = .ok (.aload_n 0, 1) := by decide +kernel
theorem dX11_shopOf_3 : decode cX11_shopOf 3 = .ok (.getfield 70, 3) := by decide +kernel
theorem dX11_shopOf_6 : decode cX11_shopOf 6 = .ok (.getfield 316, 3) := by decide +kernel
theorem dX11_shopOf_9 : decode cX11_shopOf 9 = .ok (.iconst 1, 1) := by decide +kernel
theorem dX11_shopOf_10 : decode cX11_shopOf 10 = .ok (.isub, 1) := by decide +kernel
theorem dX11_shopOf_11 : decode cX11_shopOf 11 = .ok (.invokestatic 99, 3) := by decide +kernel
theorem dX11_shopOf_14 : decode cX11_shopOf 14 = .ok (.invokestatic 272, 3) := by decide +kernel
theorem dX11_shopOf_17 : decode cX11_shopOf 17 = .ok (.iload_n 1, 1) := by decide +kernel
theorem dX11_shopOf_18 : decode cX11_shopOf 18 = .ok (.iconst 0, 1) := by decide +kernel
theorem dX11_shopOf_19 : decode cX11_shopOf 19 = .ok (.sipush 600, 3) := by decide +kernel
theorem dX11_shopOf_22 : decode cX11_shopOf 22 = .ok (.invokestatic 99, 3) := by decide +kernel
theorem dX11_shopOf_25 : decode cX11_shopOf 25 = .ok (.invokestatic 103, 3) := by decide +kernel
theorem dX11_shopOf_28 : decode cX11_shopOf 28 = .ok (.aload_n 0, 1) := by decide +kernel
theorem dX11_shopOf_29 : decode cX11_shopOf 29 = .ok (.getfield 70, 3) := by decide +kernel
theorem dX11_shopOf_32 : decode cX11_shopOf 32 = .ok (.iload_n 1, 1) := by decide +kernel
theorem dX11_shopOf_33 : decode cX11_shopOf 33 = .ok (.invokevirtual 332, 3) := by decide +kernel
theorem dX11_shopOf_36 : decode cX11_shopOf 36 = .ok (.invokestatic 287, 3) := by decide +kernel
theorem dX11_shopOf_39 : decode cX11_shopOf 39 = .ok (.aload_n 0, 1) := by decide +kernel
theorem dX11_shopOf_40 : decode cX11_shopOf 40 = .ok (.getfield 70, 3) := by decide +kernel
theorem dX11_shopOf_43 : decode cX11_shopOf 43 = .ok (.getfield 338, 3) := by decide +kernel
theorem dX11_shopOf_46 : decode cX11_shopOf 46 = .ok (.iload_n 2, 1) := by decide +kernel
theorem dX11_shopOf_47 : decode cX11_shopOf 47 = .ok (.iaload, 1) := by decide +kernel
theorem dX11_shopOf_48 : decode cX11_shopOf 48 = .ok (.ireturn, 1) := by decide +kernel
set_option maxRecDepth 20000 in
theorem ggX11_wayBack_X11_isWithin : GoodIn wsX11_wayBack wsX11_isWithin := goodIn_r _ [5] (by decide +kernel) (by decide +kernel)
set_option maxRecDepth 20000 in
theorem gX11_wayBack_X11_isWithin : GoodIn wsX11_wayBack (va_wsS RX11 99 yX11_isWithin wsX11_isWithin) := goodIn_app (goodIn_of _ (by decide +kernel)) ggX11_wayBack_X11_isWithin
set_option maxRecDepth 20000 in
theorem ggX11_wayBack_X1_readWay : GoodIn wsX11_wayBack wsX1_readWay := goodIn_r _ [10, 11, 12, 3, 4, 5, 56, 57, 58, 59, 60, 61, 62, 63, 64] (by decide +kernel) (by decide +kernel)
set_option maxRecDepth 20000 in
theorem gX11_wayBack_X1_readWay : GoodIn wsX11_wayBack (wsV RX11 341 RX1 yX1_readWay wsX1_readWay) := goodIn_app (goodIn_of _ (by decide +kernel)) ggX11_wayBack_X1_readWay
set_option maxRecDepth 20000 in
theorem ggX11_wayBack_X11_needArgument : GoodIn wsX11_wayBack wsX11_needArgument := goodIn_ca (goodIn_r _ [15, 16, 17] (by decide +kernel) (by decide +kernel)) (goodIn_sub (fun _ h => List.mem_cons_of_mem _ (List.mem_append_right _ h)) (by decide +kernel))
set_option maxRecDepth 20000 in
theorem gX11_wayBack_X11_needArgument : GoodIn wsX11_wayBack (va_wsS RX11 103 yX11_needArgument wsX11_needArgument) := goodIn_app (goodIn_of _ (by decide +kernel)) ggX11_wayBack_X11_needArgument
set_option maxRecDepth 20000 in
theorem ggX11_wayBack_X1_walk : GoodIn wsX11_wayBack wsX1_walk := goodIn_r _ [21, 11, 12, 22, 23, 24, 9, 25, 26, 27, 28, 29, 30, 31, 32, 33, 34, 35, 36, 37, 38, 39, 40, 41, 56, 57, 58, 59, 60, 61, 62, 63, 64] (by decide +kernel) (by decide +kernel)
set_option maxRecDepth 20000 in
theorem gX11_wayBack_X1_walk : GoodIn wsX11_wayBack (wsV RX11 344 RX1 yX1_walk wsX1_walk) := goodIn_app (goodIn_of _ (by decide +kernel)) ggX11_wayBack_X1_walk
theorem dX11_wayBack_0 : decode cX11_wayBack 0 = .ok (.iload_n 1, 1) := by decide +kernel
theorem dX11_wayBack_1 : decode cX11_wayBack 1 = .ok (.iconst 0, 1) := by decide +kernel
theorem dX11_wayBack_2 : decode cX11_wayBack 2 = .ok (.sipush 600, 3) := by decide +kernel
theorem dX11_wayBack_5 : decode cX11_wayBack 5 = .ok (.invokestatic 99, 3) := by decide +kernel
theorem dX11_wayBack_8 : decode cX11_wayBack 8 = .ok (.ifCond .eq 18, 3) := by decide +kernel
theorem dX11_wayBack_11 : decode cX11_wayBack 11 = .ok (.aload_n 0, 1) := by decide +kernel
theorem dX11_wayBack_12 : decode cX11_wayBack 12 = .ok (.getfield 70, 3) := by decide +kernel
theorem dX11_wayBack_15 : decode cX11_wayBack 15 = .ok (.iload_n 2, 1) := by decide +kernel
theorem dX11_wayBack_16 : decode cX11_wayBack 16 = .ok (.invokevirtual 341, 3) := by decide +kernel
theorem dX11_wayBack_19 : decode cX11_wayBack 19 = .ok (.ifCond .eq 7, 3) := by decide +kernel
theorem dX11_wayBack_22 : decode cX11_wayBack 22 = .ok (.iconst 1, 1) := by decide +kernel
theorem dX11_wayBack_23 : decode cX11_wayBack 23 = .ok (.goto 4, 3) := by decide +kernel
theorem dX11_wayBack_26 : decode cX11_wayBack 26 = .ok (.iconst 0, 1) := by decide +kernel
theorem dX11_wayBack_27 : decode cX11_wayBack 27 = .ok (.invokestatic 103, 3) := by decide +kernel
theorem dX11_wayBack_30 : decode cX11_wayBack 30 = .ok (.aload_n 0, 1) := by decide +kernel
theorem dX11_wayBack_31 : decode cX11_wayBack 31 = .ok (.getfield 70, 3) := by decide +kernel
theorem dX11_wayBack_34 : decode cX11_wayBack 34 = .ok (.iload_n 1, 1) := by decide +kernel
theorem dX11_wayBack_35 : decode cX11_wayBack 35 = .ok (.invokevirtual 344, 3) := by decide +kernel
theorem dX11_wayBack_38 : decode cX11_wayBack 38 = .ok (.ireturn, 1) := by decide +kernel
set_option maxRecDepth 20000 in
theorem ggX11_cleaning_X11_isSetOfRecipes : GoodIn wsX11_cleaning wsX11_isSetOfRecipes := goodIn_r _ [7, 8, 9, 10, 11, 6, 12, 40, 41, 42, 43, 44, 45, 46, 47, 48, 49, 50, 51, 52, 53, 58, 59, 60, 61, 62, 63, 64, 65] (by decide +kernel) (by decide +kernel)
set_option maxRecDepth 20000 in
theorem gX11_cleaning_X11_isSetOfRecipes : GoodIn wsX11_cleaning (wsV RX11 347 RX11 yX11_isSetOfRecipes wsX11_isSetOfRecipes) := goodIn_app (goodIn_of _ (by decide +kernel)) ggX11_cleaning_X11_isSetOfRecipes
set_option maxRecDepth 20000 in
theorem ggX11_cleaning_X11_needArgument : GoodIn wsX11_cleaning wsX11_needArgument := goodIn_ca (goodIn_r _ [15, 16, 17] (by decide +kernel) (by decide +kernel)) (goodIn_sub (fun _ h => List.mem_cons_of_mem _ (List.mem_append_right _ h)) (by decide +kernel))
set_option maxRecDepth 20000 in
theorem gX11_cleaning_X11_needArgument : GoodIn wsX11_cleaning (va_wsS RX11 103 yX11_needArgument wsX11_needArgument) := goodIn_app (goodIn_of _ (by decide +kernel)) ggX11_cleaning_X11_needArgument
set_option maxRecDepth 20000 in
theorem ggX11_cleaning_X9_find : GoodIn wsX11_cleaning wsX9_find := goodIn_r _ [22, 23, 24, 25, 21, 26, 27, 28, 29, 30, 31, 32, 33, 34, 35, 36, 37, 38, 39, 54, 55, 56, 57, 58, 59, 60, 61, 62, 63, 64, 65] (by decide +kernel) (by decide +kernel)
set_option maxRecDepth 20000 in
theorem gX11_cleaning_X9_find : GoodIn wsX11_cleaning (wsV RX11 350 RX9 yX9_find wsX9_find) := goodIn_app (goodIn_of _ (by decide +kernel)) ggX11_cleaning_X9_find
theorem dX11_cleaning_0 : decode cX11_cleaning 0 = .ok (.aload_n 0, 1) := by decide +kernel
theorem dX11_cleaning_1 : decode cX11_cleaning 1 = .ok (.iload_n 1, 1) := by decide +kernel
theorem dX11_cleaning_2 : decode cX11_cleaning 2 = .ok (.invokevirtual 347, 3) := by decide +kernel
theorem dX11_cleaning_5 : decode cX11_cleaning 5 = .ok (.invokestatic 103, 3) := by decide +kernel
theorem dX11_cleaning_8 : decode cX11_cleaning 8 = .ok (.aload_n 0, 1) := by decide +kernel
theorem dX11_cleaning_9 : decode cX11_cleaning 9 = .ok (.getfield 79, 3) := by decide +kernel
theorem dX11_cleaning_12 : decode cX11_cleaning 12 = .ok (.iload_n 1, 1) := by decide +kernel
theorem dX11_cleaning_13 : decode cX11_cleaning 13 = .ok (.invokevirtual 350, 3) := by decide +kernel
theorem dX11_cleaning_16 : decode cX11_cleaning 16 = .ok (.aload_n 0, 1) := by decide +kernel
theorem dX11_cleaning_17 : decode cX11_cleaning 17 = .ok (.getfield 79, 3) := by decide +kernel
theorem dX11_cleaning_20 : decode cX11_cleaning 20 = .ok (.getfield 353, 3) := by decide +kernel
theorem dX11_cleaning_23 : decode cX11_cleaning 23 = .ok (.ireturn, 1) := by decide +kernel
set_option maxRecDepth 20000 in
theorem ggX11_rowAt_X11_isSetOfRecipes : GoodIn wsX11_rowAt wsX11_isSetOfRecipes := goodIn_r _ [7, 8, 9, 10, 11, 6, 12, 52, 53, 54, 55, 56, 57, 58, 59, 60, 61, 62, 63, 64, 65, 70, 71, 72, 73, 74, 75, 76, 77] (by decide +kernel) (by decide +kernel)
set_option maxRecDepth 20000 in
theorem gX11_rowAt_X11_isSetOfRecipes : GoodIn wsX11_rowAt (wsV RX11 347 RX11 yX11_isSetOfRecipes wsX11_isSetOfRecipes) := goodIn_app (goodIn_of _ (by decide +kernel)) ggX11_rowAt_X11_isSetOfRecipes
set_option maxRecDepth 20000 in
theorem ggX11_rowAt_X11_needArgument : GoodIn wsX11_rowAt wsX11_needArgument := goodIn_ca (goodIn_r _ [15, 16, 17] (by decide +kernel) (by decide +kernel)) (goodIn_sub (fun _ h => List.mem_cons_of_mem _ (List.mem_append_left _ (List.mem_append_right _ h))) (by decide +kernel))
set_option maxRecDepth 20000 in
theorem gX11_rowAt_X11_needArgument : GoodIn wsX11_rowAt (va_wsS RX11 103 yX11_needArgument wsX11_needArgument) := goodIn_app (goodIn_of _ (by decide +kernel)) ggX11_rowAt_X11_needArgument
set_option maxRecDepth 20000 in
theorem ggX11_rowAt_J6_bitCount_0f7a4 : GoodIn wsX11_rowAt wsJ6_bitCount_0f7a4 := goodIn_r _ [21, 22, 23, 24] (by decide +kernel) (by decide +kernel)
set_option maxRecDepth 20000 in
theorem gX11_rowAt_J6_bitCount_0f7a4 : GoodIn wsX11_rowAt (va_wsS RX11 356 yJ6_bitCount_0f7a4 wsJ6_bitCount_0f7a4) := goodIn_app (goodIn_of _ (by decide +kernel)) ggX11_rowAt_J6_bitCount_0f7a4
set_option maxRecDepth 20000 in
theorem ggX11_rowAt_X11_isWithin : GoodIn wsX11_rowAt wsX11_isWithin := goodIn_r _ [12] (by decide +kernel) (by decide +kernel)
set_option maxRecDepth 20000 in
theorem gX11_rowAt_X11_isWithin : GoodIn wsX11_rowAt (va_wsS RX11 99 yX11_isWithin wsX11_isWithin) := goodIn_app (goodIn_of _ (by decide +kernel)) ggX11_rowAt_X11_isWithin
set_option maxRecDepth 20000 in
theorem ggX11_rowAt_X11_needIndex : GoodIn wsX11_rowAt wsX11_needIndex := goodIn_ca (goodIn_r _ [27, 28, 29] (by decide +kernel) (by decide +kernel)) (goodIn_sub (fun _ h => List.mem_cons_of_mem _ (List.mem_append_right _ h)) (by decide +kernel))
set_option maxRecDepth 20000 in
theorem gX11_rowAt_X11_needIndex : GoodIn wsX11_rowAt (va_wsS RX11 272 yX11_needIndex wsX11_needIndex) := goodIn_app (goodIn_of _ (by decide +kernel)) ggX11_rowAt_X11_needIndex
set_option maxRecDepth 20000 in
theorem ggX11_rowAt_X9_find : GoodIn wsX11_rowAt wsX9_find := goodIn_r _ [34, 35, 36, 37, 33, 38, 39, 40, 41, 42, 43, 44, 45, 46, 47, 48, 49, 50, 51, 66, 67, 68, 69, 70, 71, 72, 73, 74, 75, 76, 77] (by decide +kernel) (by decide +kernel)
set_option maxRecDepth 20000 in
theorem gX11_rowAt_X9_find : GoodIn wsX11_rowAt (wsV RX11 350 RX9 yX9_find wsX9_find) := goodIn_app (goodIn_of _ (by decide +kernel)) ggX11_rowAt_X9_find
theorem dX11_rowAt_0 : decode cX11_rowAt 0 = .ok (.aload_n 0, 1) := by decide +kernel
theorem dX11_rowAt_1 : decode cX11_rowAt 1 = .ok (.iload_n 1, 1) := by decide +kernel
theorem dX11_rowAt_2 : decode cX11_rowAt 2 = .ok (.invokevirtual 347, 3) := by decide +kernel
theorem dX11_rowAt_5 : decode cX11_rowAt 5 = .ok (.invokestatic 103, 3) := by decide +kernel
theorem dX11_rowAt_8 : decode cX11_rowAt 8 = .ok (.iload_n 2, 1) := by decide +kernel
theorem dX11_rowAt_9 : decode cX11_rowAt 9 = .ok (.iconst 0, 1) := by decide +kernel
theorem dX11_rowAt_10 : decode cX11_rowAt 10 = .ok (.iload_n 1, 1) := by decide +kernel
theorem dX11_rowAt_11 : decode cX11_rowAt 11 = .ok (.invokestatic 356, 3) := by decide +kernel
theorem dX11_rowAt_14 : decode cX11_rowAt 14 = .ok (.iconst 1, 1) := by decide +kernel
theorem dX11_rowAt_15 : decode cX11_rowAt 15 = .ok (.isub, 1) := by decide +kernel
theorem dX11_rowAt_16 : decode cX11_rowAt 16 = .ok (.invokestatic 99, 3) := by decide +kernel
theorem dX11_rowAt_19 : decode cX11_rowAt 19 = .ok (.invokestatic 272, 3) := by decide +kernel
theorem dX11_rowAt_22 : decode cX11_rowAt 22 = .ok (.aload_n 0, 1) := by decide +kernel
theorem dX11_rowAt_23 : decode cX11_rowAt 23 = .ok (.getfield 79, 3) := by decide +kernel
theorem dX11_rowAt_26 : decode cX11_rowAt 26 = .ok (.iload_n 1, 1) := by decide +kernel
theorem dX11_rowAt_27 : decode cX11_rowAt 27 = .ok (.invokevirtual 350, 3) := by decide +kernel
theorem dX11_rowAt_30 : decode cX11_rowAt 30 = .ok (.aload_n 0, 1) := by decide +kernel
theorem dX11_rowAt_31 : decode cX11_rowAt 31 = .ok (.getfield 79, 3) := by decide +kernel
theorem dX11_rowAt_34 : decode cX11_rowAt 34 = .ok (.getfield 361, 3) := by decide +kernel
theorem dX11_rowAt_37 : decode cX11_rowAt 37 = .ok (.iload_n 2, 1) := by decide +kernel
theorem dX11_rowAt_38 : decode cX11_rowAt 38 = .ok (.iaload, 1) := by decide +kernel
theorem dX11_rowAt_39 : decode cX11_rowAt 39 = .ok (.ireturn, 1) := by decide +kernel
set_option maxRecDepth 20000 in
theorem ggX11_book_X11_isWithin : GoodIn wsX11_book wsX11_isWithin := goodIn_r _ [9] (by decide +kernel) (by decide +kernel)
set_option maxRecDepth 20000 in
theorem gX11_book_X11_isWithin : GoodIn wsX11_book (va_wsS RX11 99 yX11_isWithin wsX11_isWithin) := goodIn_app (goodIn_of _ (by decide +kernel)) ggX11_book_X11_isWithin
set_option maxRecDepth 20000 in
theorem ggX11_book_X11_needArgument : GoodIn wsX11_book wsX11_needArgument := goodIn_ca (goodIn_r _ [12, 13, 14] (by decide +kernel) (by decide +kernel)) (goodIn_sub (fun _ h => List.mem_cons_of_mem _ (List.mem_append_right _ h)) (by decide +kernel))
set_option maxRecDepth 20000 in
theorem gX11_book_X11_needArgument : GoodIn wsX11_book (va_wsS RX11 103 yX11_needArgument wsX11_needArgument) := goodIn_app (goodIn_of _ (by decide +kernel)) ggX11_book_X11_needArgument
set_option maxRecDepth 20000 in
theorem ggX11_book_X10_allGrams : GoodIn wsX11_book wsX10_allGrams := goodIn_r _ [19, 20, 57, 58, 59, 60] (by decide +kernel) (by decide +kernel)
set_option maxRecDepth 20000 in
theorem gX11_book_X10_allGrams : GoodIn wsX11_book (wsV RX11 364 RX10 yX10_allGrams wsX10_allGrams) := goodIn_app (goodIn_of _ (by decide +kernel)) ggX11_book_X10_allGrams
set_option maxRecDepth 20000 in
theorem ggX11_book_X2_gramsIn : GoodIn wsX11_book wsX2_gramsIn := goodIn_r _ [25, 26, 27, 28, 61, 62, 63, 64, 65, 66, 67, 68] (by decide +kernel) (by decide +kernel)
set_option maxRecDepth 20000 in
theorem gX11_book_X2_gramsIn : GoodIn wsX11_book (wsV RX11 367 RX2 yX2_gramsIn wsX2_gramsIn) := goodIn_app (goodIn_of _ (by decide +kernel)) ggX11_book_X2_gramsIn
set_option maxRecDepth 20000 in
theorem ggX11_book_X11_gramsInBreads : GoodIn wsX11_book wsX11_gramsInBreads := goodIn_r _ [32, 33, 34, 35, 36, 37, 38, 39, 40, 41, 42, 43, 44, 45, 46, 47, 48, 49, 50, 51, 52, 53, 54, 55, 56, 69, 70, 71, 72, 73, 74, 75, 76, 77] (by decide +kernel) (by decide +kernel)
set_option maxRecDepth 20000 in
theorem gX11_book_X11_gramsInBreads : GoodIn wsX11_book (wsV RX11 370 RX11 yX11_gramsInBreads wsX11_gramsInBreads) := goodIn_app (goodIn_of _ (by decide +kernel)) ggX11_book_X11_gramsInBreads
theorem dX11_book_0 : decode cX11_book 0 = .ok (.iload_n 1, 1) := by decide +kernel
theorem dX11_book_1 : decode cX11_book 1 = .ok (.iconst 0, 1) := by decide +kernel
theorem dX11_book_2 : decode cX11_book 2 = .ok (.bipush 6, 2) := by decide +kernel
theorem dX11_book_4 : decode cX11_book 4 = .ok (.invokestatic 99, 3) := by decide +kernel
theorem dX11_book_7 : decode cX11_book 7 = .ok (.invokestatic 103, 3) := by decide +kernel
theorem dX11_book_10 : decode cX11_book 10 = .ok (.iload_n 1, 1) := by decide +kernel
theorem dX11_book_11 : decode cX11_book 11 = .ok (.tableswitch 96 0 5 #[37, 45, 53, 61, 69, 87], 37) := by decide +kernel
theorem dX11_book_48 : decode cX11_book 48 = .ok (.aload_n 0, 1) := by decide +kernel
theorem dX11_book_49 : decode cX11_book 49 = .ok (.getfield 24, 3) := by decide +kernel
theorem dX11_book_52 : decode cX11_book 52 = .ok (.getfield 117, 3) := by decide +kernel
theorem dX11_book_55 : decode cX11_book 55 = .ok (.ireturn, 1) := by decide +kernel
theorem dX11_book_56 : decode cX11_book 56 = .ok (.aload_n 0, 1) := by decide +kernel
theorem dX11_book_57 : decode cX11_book 57 = .ok (.getfield 24, 3) := by decide +kernel
theorem dX11_book_60 : decode cX11_book 60 = .ok (.getfield 266, 3) := by decide +kernel
theorem dX11_book_63 : decode cX11_book 63 = .ok (.ireturn, 1) := by decide +kernel
theorem dX11_book_64 : decode cX11_book 64 = .ok (.aload_n 0, 1) := by decide +kernel
theorem dX11_book_65 : decode cX11_book 65 = .ok (.getfield 24, 3) := by decide +kernel
theorem dX11_book_68 : decode cX11_book 68 = .ok (.getfield 229, 3) := by decide +kernel
theorem dX11_book_71 : decode cX11_book 71 = .ok (.ireturn, 1) := by decide +kernel
theorem dX11_book_72 : decode cX11_book 72 = .ok (.aload_n 0, 1) := by decide +kernel
theorem dX11_book_73 : decode cX11_book 73 = .ok (.getfield 24, 3) := by decide +kernel
theorem dX11_book_76 : decode cX11_book 76 = .ok (.invokevirtual 364, 3) := by decide +kernel
theorem dX11_book_79 : decode cX11_book 79 = .ok (.ireturn, 1) := by decide +kernel
theorem dX11_book_80 : decode cX11_book 80 = .ok (.aload_n 0, 1) := by decide +kernel
theorem dX11_book_81 : decode cX11_book 81 = .ok (.getfield 36, 3) := by decide +kernel
theorem dX11_book_84 : decode cX11_book 84 = .ok (.iconst 0, 1) := by decide +kernel
theorem dX11_book_85 : decode cX11_book 85 = .ok (.invokevirtual 367, 3) := by decide +kernel
theorem dX11_book_88 : decode cX11_book 88 = .ok (.aload_n 0, 1) := by decide +kernel
theorem dX11_book_89 : decode cX11_book 89 = .ok (.getfield 36, 3) := by decide +kernel
theorem dX11_book_92 : decode cX11_book 92 = .ok (.iconst 1, 1) := by decide +kernel
theorem dX11_book_93 : decode cX11_book 93 = .ok (.invokevirtual 367, 3) := by decide +kernel
theorem dX11_book_96 : decode cX11_book 96 = .ok (.iadd, 1) := by decide +kernel
theorem dX11_book_97 : decode cX11_book 97 = .ok (.ireturn, 1) := by decide +kernel
theorem dX11_book_98 : decode cX11_book 98 = .ok (.aload_n 0, 1) := by decide +kernel
theorem dX11_book_99 : decode cX11_book 99 = .ok (.getfield 36, 3) := by decide +kernel
theorem dX11_book_102 : decode cX11_book 102 = .ok (.iconst 2, 1) := by decide +kernel
theorem dX11_book_103 : decode cX11_book 103 = .ok (.invokevirtual 367, 3) := by decide +kernel
theorem dX11_book_106 : decode cX11_book 106 = .ok (.ireturn, 1) := by decide +kernel
theorem dX11_book_107 : decode cX11_book 107 = .ok (.aload_n 0, 1) := by decide +kernel
theorem dX11_book_108 : decode cX11_book 108 = .ok (.invokevirtual 370, 3) := by decide +kernel
theorem dX11_book_111 : decode cX11_book 111 = .ok (.ireturn, 1) := by decide +kernel
set_option maxRecDepth 20000 in
theorem ggX11_type_X6_countBytes : GoodIn wsX11_type wsX6_countBytes := goodIn_r _ [7, 8, 9, 6, 10, 11, 12, 13] (by decide +kernel) (by decide +kernel)
set_option maxRecDepth 20000 in
theorem gX11_type_X6_countBytes : GoodIn wsX11_type (wsV RX11 373 RX6 yX6_countBytes wsX6_countBytes) := goodIn_app (goodIn_of _ (by decide +kernel)) ggX11_type_X6_countBytes
set_option maxRecDepth 20000 in
theorem ggX11_type_X11_needArgument : GoodIn wsX11_type wsX11_needArgument := goodIn_ca (goodIn_r _ [16, 17, 18] (by decide +kernel) (by decide +kernel)) (goodIn_sub (fun _ h => List.mem_cons_of_mem _ (List.mem_append_left _ (List.mem_append_right _ h))) (by decide +kernel))
set_option maxRecDepth 20000 in
theorem gX11_type_X11_needArgument : GoodIn wsX11_type (va_wsS RX11 103 yX11_needArgument wsX11_needArgument) := goodIn_app (goodIn_of _ (by decide +kernel)) ggX11_type_X11_needArgument
set_option maxRecDepth 20000 in
theorem ggX11_type_X11_needState : GoodIn wsX11_type wsX11_needState := goodIn_ca (goodIn_r _ [21, 22, 23] (by decide +kernel) (by decide +kernel)) (goodIn_sub (fun _ h => List.mem_cons_of_mem _ (List.mem_append_right _ h)) (by decide +kernel))
set_option maxRecDepth 20000 in
theorem gX11_type_X11_needState : GoodIn wsX11_type (va_wsS RX11 111 yX11_needState wsX11_needState) := goodIn_app (goodIn_of _ (by decide +kernel)) ggX11_type_X11_needState
set_option maxRecDepth 20000 in
theorem ggX11_type_X6_append : GoodIn wsX11_type wsX6_append := goodIn_r _ [27, 28, 29, 8, 9, 6, 10, 44, 45, 46] (by decide +kernel) (by decide +kernel)
set_option maxRecDepth 20000 in
theorem gX11_type_X6_append : GoodIn wsX11_type (wsV RX11 377 RX6 yX6_append wsX6_append) := goodIn_app (goodIn_of _ (by decide +kernel)) ggX11_type_X6_append
theorem dX11_type_0 : decode cX11_type 0 = .ok (.aload_n 0, 1) := by decide +kernel
theorem dX11_type_1 : decode cX11_type 1 = .ok (.getfield 86, 3) := by decide +kernel
theorem dX11_type_4 : decode cX11_type 4 = .ok (.lload_n 1, 1) := by decide +kernel
theorem dX11_type_5 : decode cX11_type 5 = .ok (.invokevirtual 373, 3) := by decide +kernel
theorem dX11_type_8 : decode cX11_type 8 = .ok (.istore_n 3, 1) := by decide +kernel
theorem dX11_type_9 : decode cX11_type 9 = .ok (.iload_n 3, 1) := by decide +kernel
theorem dX11_type_10 : decode cX11_type 10 = .ok (.iconst (-1), 1) := by decide +kernel
theorem dX11_type_11 : decode cX11_type 11 = .ok (.if_icmp .eq 7, 3) := by decide +kernel
theorem dX11_type_14 : decode cX11_type 14 = .ok (.iconst 1, 1) := by decide +kernel
theorem dX11_type_15 : decode cX11_type 15 = .ok (.goto 4, 3) := by decide +kernel
theorem dX11_type_18 : decode cX11_type 18 = .ok (.iconst 0, 1) := by decide +kernel
theorem dX11_type_19 : decode cX11_type 19 = .ok (.invokestatic 103, 3) := by decide +kernel
theorem dX11_type_22 : decode cX11_type 22 = .ok (.aload_n 0, 1) := by decide +kernel
theorem dX11_type_23 : decode cX11_type 23 = .ok (.getfield 86, 3) := by decide +kernel
theorem dX11_type_26 : decode cX11_type 26 = .ok (.getfield 152, 3) := by decide +kernel
theorem dX11_type_29 : decode cX11_type 29 = .ok (.iload_n 3, 1) := by decide +kernel
theorem dX11_type_30 : decode cX11_type 30 = .ok (.iadd, 1) := by decide +kernel
theorem dX11_type_31 : decode cX11_type 31 = .ok (.bipush 80, 2) := by decide +kernel
theorem dX11_type_33 : decode cX11_type 33 = .ok (.if_icmp .gt 7, 3) := by decide +kernel
theorem dX11_type_36 : decode cX11_type 36 = .ok (.iconst 1, 1) := by decide +kernel
theorem dX11_type_37 : decode cX11_type 37 = .ok (.goto 4, 3) := by decide +kernel
theorem dX11_type_40 : decode cX11_type 40 = .ok (.iconst 0, 1) := by decide +kernel
theorem dX11_type_41 : decode cX11_type 41 = .ok (.invokestatic 111, 3) := by decide +kernel
theorem dX11_type_44 : decode cX11_type 44 = .ok (.aload_n 0, 1) := by decide +kernel
theorem dX11_type_45 : decode cX11_type 45 = .ok (.getfield 86, 3) := by decide +kernel
theorem dX11_type_48 : decode cX11_type 48 = .ok (.lload_n 1, 1) := by decide +kernel
theorem dX11_type_49 : decode cX11_type 49 = .ok (.invokevirtual 377, 3) := by decide +kernel
theorem dX11_type_52 : decode cX11_type 52 = .ok (.aload_n 0, 1) := by decide +kernel
theorem dX11_type_53 : decode cX11_type 53 = .ok (.getfield 86, 3) := by decide +kernel
theorem dX11_type_56 : decode cX11_type 56 = .ok (.getfield 152, 3) := by decide +kernel
theorem dX11_type_59 : decode cX11_type 59 = .ok (.ireturn, 1) := by decide +kernel
set_option maxRecDepth 20000 in
theorem ggX11_fault_X6_read : GoodIn wsX11_fault wsX6_read := goodIn_r _ [6, 7, 8, 9, 10, 11, 12, 13, 14, 15, 5, 16, 17, 18, 19, 20, 21, 22, 23, 24, 25, 26, 27, 28, 29, 30, 31, 32, 33, 34, 35, 36, 37, 38, 53, 54, 55] (by decide +kernel) (by decide +kernel)
set_option maxRecDepth 20000 in
theorem gX11_fault_X6_read : GoodIn wsX11_fault (wsV RX11 148 RX6 yX6_read wsX6_read) := goodIn_app (goodIn_of _ (by decide +kernel)) ggX11_fault_X6_read
theorem dX11_fault_0 : decode cX11_fault 0 = .ok (.aload_n 0, 1) := by decide +kernel
theorem dX11_fault_1 : decode cX11_fault 1 = .ok (.getfield 86, 3) := by decide +kernel
theorem dX11_fault_4 : decode cX11_fault 4 = .ok (.invokevirtual 148, 3) := by decide +kernel
theorem dX11_fault_7 : decode cX11_fault 7 = .ok (.ireturn, 1) := by decide +kernel
set_option maxRecDepth 20000 in
theorem ggX11_undo_X11_needState : GoodIn wsX11_undo wsX11_needState := goodIn_ca (goodIn_r _ [6, 7, 8] (by decide +kernel) (by decide +kernel)) (goodIn_sub (fun _ h => List.mem_cons_of_mem _ (List.mem_append_right _ h)) (by decide +kernel))
set_option maxRecDepth 20000 in
theorem gX11_undo_X11_needState : GoodIn wsX11_undo (va_wsS RX11 111 yX11_needState wsX11_needState) := goodIn_app (goodIn_of _ (by decide +kernel)) ggX11_undo_X11_needState
set_option maxRecDepth 20000 in
theorem ggX11_undo_X11_bringBack : GoodIn wsX11_undo wsX11_bringBack := goodIn_r _ [12, 13, 14, 15, 16, 17, 18, 19, 20, 21, 22, 23, 24, 25, 26, 27, 28, 29, 30, 31, 32, 33, 34, 35, 36, 37, 38, 39, 40, 41, 42, 43, 44, 45, 46, 47, 48, 49, 50, 51, 52, 53, 54, 55, 56, 57, 58, 59, 60, 61, 62, 63, 64, 65, 66, 67, 68, 69, 70, 71, 72, 73, 74, 75, 76, 77, 78, 79, 80, 81, 82, 83, 84, 85, 86, 87, 88, 89, 90, 91, 92, 93, 94, 95, 96, 97, 98, 99, 100, 101, 102, 103, 104, 105, 106, 107, 108, 109, 110, 111, 112, 113, 114, 115, 116, 117, 118, 119, 120, 121, 122, 123, 124, 125, 126, 127, 128, 129, 130, 131, 132, 133, 134, 135, 136, 137, 138, 139, 140, 141, 142, 143, 144, 145, 146, 147, 148, 149, 150, 151] (by decide +kernel) (by decide +kernel)
set_option maxRecDepth 20000 in
theorem gX11_undo_X11_bringBack : GoodIn wsX11_undo (wsV RX11 387 RX11 yX11_bringBack wsX11_bringBack) := goodIn_app (goodIn_of _ (by decide +kernel)) ggX11_undo_X11_bringBack
theorem dX11_undo_0 : decode cX11_undo 0 = .ok (.aload_n 0, 1) := by decide +kernel
theorem dX11_undo_1 : decode cX11_undo 1 = .ok (.getfield 381, 3) := by decide +kernel
theorem dX11_undo_4 : decode cX11_undo 4 = .ok (.ifCond .le 7, 3) := by decide +kernel
theorem dX11_undo_7 : decode cX11_undo 7 = .ok (.iconst 1, 1) := by decide +kernel
theorem dX11_undo_8 : decode cX11_undo 8 = .ok (.goto 4, 3) := by decide +kernel
theorem dX11_undo_11 : decode cX11_undo 11 = .ok (.iconst 0, 1) := by decide +kernel
theorem dX11_undo_12 : decode cX11_undo 12 = .ok (.invokestatic 111, 3) := by decide +kernel
theorem dX11_undo_15 : decode cX11_undo 15 = .ok (.aload_n 0, 1) := by decide +kernel
theorem dX11_undo_16 : decode cX11_undo 16 = .ok (.dup, 1) := by decide +kernel
theorem dX11_undo_17 : decode cX11_undo 17 = .ok (.getfield 381, 3) := by decide +kernel
theorem dX11_undo_20 : decode cX11_undo 20 = .ok (.iconst 1, 1) := by decide +kernel
theorem dX11_undo_21 : decode cX11_undo 21 = .ok (.isub, 1) := by decide +kernel
theorem dX11_undo_22 : decode cX11_undo 22 = .ok (.putfield 381, 3) := by decide +kernel
theorem dX11_undo_25 : decode cX11_undo 25 = .ok (.aload_n 0, 1) := by decide +kernel
theorem dX11_undo_26 : decode cX11_undo 26 = .ok (.aload_n 0, 1) := by decide +kernel
theorem dX11_undo_27 : decode cX11_undo 27 = .ok (.getfield 384, 3) := by decide +kernel
theorem dX11_undo_30 : decode cX11_undo 30 = .ok (.aload_n 0, 1) := by decide +kernel
theorem dX11_undo_31 : decode cX11_undo 31 = .ok (.getfield 381, 3) := by decide +kernel
theorem dX11_undo_34 : decode cX11_undo 34 = .ok (.iadd, 1) := by decide +kernel
theorem dX11_undo_35 : decode cX11_undo 35 = .ok (.bipush 8, 2) := by decide +kernel
theorem dX11_undo_37 : decode cX11_undo 37 = .ok (.irem, 1) := by decide +kernel
theorem dX11_undo_38 : decode cX11_undo 38 = .ok (.sipush 195, 3) := by decide +kernel
theorem dX11_undo_41 : decode cX11_undo 41 = .ok (.imul, 1) := by decide +kernel
theorem dX11_undo_42 : decode cX11_undo 42 = .ok (.invokevirtual 387, 3) := by decide +kernel
theorem dX11_undo_45 : decode cX11_undo 45 = .ok (.aload_n 0, 1) := by decide +kernel
theorem dX11_undo_46 : decode cX11_undo 46 = .ok (.getfield 381, 3) := by decide +kernel
theorem dX11_undo_49 : decode cX11_undo 49 = .ok (.ireturn, 1) := by decide +kernel
theorem dX11_checksum_0 : decode cX11_checksum 0 = .ok (.ldc2_w 390, 3) := by decide +kernel
theorem dX11_checksum_3 : decode cX11_checksum 3 = .ok (.aload_n 0, 1) := by decide +kernel
theorem dX11_checksum_4 : decode cX11_checksum 4 = .ok (.getfield 41, 3) := by decide +kernel
theorem dX11_checksum_7 : decode cX11_checksum 7 = .ok (.getfield 186, 3) := by decide +kernel
theorem dX11_checksum_10 : decode cX11_checksum 10 = .ok (.i2l, 1) := by decide +kernel
theorem dX11_checksum_11 : decode cX11_checksum 11 = .ok (.ladd, 1) := by decide +kernel
theorem dX11_checksum_12 : decode cX11_checksum 12 = .ok (.lstore_n 1, 1) := by decide +kernel
theorem dX11_checksum_13 : decode cX11_checksum 13 = .ok (.iconst 0, 1) := by decide +kernel
theorem dX11_checksum_14 : decode cX11_checksum 14 = .ok (.istore_n 3, 1) := by decide +kernel
theorem dX11_checksum_15 : decode cX11_checksum 15 = .ok (.iload_n 3, 1) := by decide +kernel
theorem dX11_checksum_16 : decode cX11_checksum 16 = .ok (.bipush 8, 2) := by decide +kernel
theorem dX11_checksum_18 : decode cX11_checksum 18 = .ok (.if_icmp .ge 26, 3) := by decide +kernel
theorem dX11_checksum_21 : decode cX11_checksum 21 = .ok (.ldc2_w 392, 3) := by decide +kernel
theorem dX11_checksum_24 : decode cX11_checksum 24 = .ok (.lload_n 1, 1) := by decide +kernel
theorem dX11_checksum_25 : decode cX11_checksum 25 = .ok (.lmul, 1) := by decide +kernel
theorem dX11_checksum_26 : decode cX11_checksum 26 = .ok (.aload_n 0, 1) := by decide +kernel
theorem dX11_checksum_27 : decode cX11_checksum 27 = .ok (.getfield 24, 3) := by decide +kernel
theorem dX11_checksum_30 : decode cX11_checksum 30 = .ok (.getfield 107, 3) := by decide +kernel
theorem dX11_checksum_33 : decode cX11_checksum 33 = .ok (.iload_n 3, 1) := by decide +kernel
theorem dX11_checksum_34 : decode cX11_checksum 34 = .ok (.iaload, 1) := by decide +kernel
theorem dX11_checksum_35 : decode cX11_checksum 35 = .ok (.i2l, 1) := by decide +kernel
theorem dX11_checksum_36 : decode cX11_checksum 36 = .ok (.ladd, 1) := by decide +kernel
theorem dX11_checksum_37 : decode cX11_checksum 37 = .ok (.lstore_n 1, 1) := by decide +kernel
theorem dX11_checksum_38 : decode cX11_checksum 38 = .ok (.iinc 3 1, 3) := by decide +kernel
theorem dX11_checksum_41 : decode cX11_checksum 41 = .ok (.goto (-26), 3) := by decide +kernel
theorem dX11_checksum_44 : decode cX11_checksum 44 = .ok (.iconst 0, 1) := by decide +kernel
theorem dX11_checksum_45 : decode cX11_checksum 45 = .ok (.istore_n 3, 1) := by decide +kernel
theorem dX11_checksum_46 : decode cX11_checksum 46 = .ok (.iload_n 3, 1) := by decide +kernel
theorem dX11_checksum_47 : decode cX11_checksum 47 = .ok (.aload_n 0, 1) := by decide +kernel
theorem dX11_checksum_48 : decode cX11_checksum 48 = .ok (.getfield 36, 3) := by decide +kernel
theorem dX11_checksum_51 : decode cX11_checksum 51 = .ok (.getfield 175, 3) := by decide +kernel
theorem dX11_checksum_54 : decode cX11_checksum 54 = .ok (.if_icmp .ge 43, 3) := by decide +kernel
theorem dX11_checksum_57 : decode cX11_checksum 57 = .ok (.ldc2_w 392, 3) := by decide +kernel
theorem dX11_checksum_60 : decode cX11_checksum 60 = .ok (.lload_n 1, 1) := by decide +kernel
theorem dX11_checksum_61 : decode cX11_checksum 61 = .ok (.lmul, 1) := by decide +kernel
theorem dX11_checksum_62 : decode cX11_checksum 62 = .ok (.aload_n 0, 1) := by decide +kernel
theorem dX11_checksum_63 : decode cX11_checksum 63 = .ok (.getfield 36, 3) := by decide +kernel
theorem dX11_checksum_66 : decode cX11_checksum 66 = .ok (.getfield 207, 3) := by decide +kernel
theorem dX11_checksum_69 : decode cX11_checksum 69 = .ok (.iload_n 3, 1) := by decide +kernel
theorem dX11_checksum_70 : decode cX11_checksum 70 = .ok (.iaload, 1) := by decide +kernel
theorem dX11_checksum_71 : decode cX11_checksum 71 = .ok (.i2l, 1) := by decide +kernel
theorem dX11_checksum_72 : decode cX11_checksum 72 = .ok (.ladd, 1) := by decide +kernel
theorem dX11_checksum_73 : decode cX11_checksum 73 = .ok (.lstore_n 1, 1) := by decide +kernel
theorem dX11_checksum_74 : decode cX11_checksum 74 = .ok (.ldc2_w 392, 3) := by decide +kernel
theorem dX11_checksum_77 : decode cX11_checksum 77 = .ok (.lload_n 1, 1) := by decide +kernel
theorem dX11_checksum_78 : decode cX11_checksum 78 = .ok (.lmul, 1) := by decide +kernel
theorem dX11_checksum_79 : decode cX11_checksum 79 = .ok (.aload_n 0, 1) := by decide +kernel
theorem dX11_checksum_80 : decode cX11_checksum 80 = .ok (.getfield 36, 3) := by decide +kernel
theorem dX11_checksum_83 : decode cX11_checksum 83 = .ok (.getfield 213, 3) := by decide +kernel
theorem dX11_checksum_86 : decode cX11_checksum 86 = .ok (.iload_n 3, 1) := by decide +kernel
theorem dX11_checksum_87 : decode cX11_checksum 87 = .ok (.iaload, 1) := by decide +kernel
theorem dX11_checksum_88 : decode cX11_checksum 88 = .ok (.i2l, 1) := by decide +kernel
theorem dX11_checksum_89 : decode cX11_checksum 89 = .ok (.ladd, 1) := by decide +kernel
theorem dX11_checksum_90 : decode cX11_checksum 90 = .ok (.lstore_n 1, 1) := by decide +kernel
theorem dX11_checksum_91 : decode cX11_checksum 91 = .ok (.iinc 3 1, 3) := by decide +kernel
theorem dX11_checksum_94 : decode cX11_checksum 94 = .ok (.goto (-48), 3) := by decide +kernel
theorem dX11_checksum_97 : decode cX11_checksum 97 = .ok (.iconst 0, 1) := by decide +kernel
theorem dX11_checksum_98 : decode cX11_checksum 98 = .ok (.istore_n 3, 1) := by decide +kernel
theorem dX11_checksum_99 : decode cX11_checksum 99 = .ok (.iload_n 3, 1) := by decide +kernel
theorem dX11_checksum_100 : decode cX11_checksum 100 = .ok (.aload_n 0, 1) := by decide +kernel
theorem dX11_checksum_101 : decode cX11_checksum 101 = .ok (.getfield 31, 3) := by decide +kernel
theorem dX11_checksum_104 : decode cX11_checksum 104 = .ok (.getfield 121, 3) := by decide +kernel
theorem dX11_checksum_107 : decode cX11_checksum 107 = .ok (.iconst 4, 1) := by decide +kernel
theorem dX11_checksum_108 : decode cX11_checksum 108 = .ok (.imul, 1) := by decide +kernel
theorem dX11_checksum_109 : decode cX11_checksum 109 = .ok (.if_icmp .ge 26, 3) := by decide +kernel
theorem dX11_checksum_112 : decode cX11_checksum 112 = .ok (.ldc2_w 392, 3) := by decide +kernel
theorem dX11_checksum_115 : decode cX11_checksum 115 = .ok (.lload_n 1, 1) := by decide +kernel
theorem dX11_checksum_116 : decode cX11_checksum 116 = .ok (.lmul, 1) := by decide +kernel
theorem dX11_checksum_117 : decode cX11_checksum 117 = .ok (.aload_n 0, 1) := by decide +kernel
theorem dX11_checksum_118 : decode cX11_checksum 118 = .ok (.getfield 55, 3) := by decide +kernel
theorem dX11_checksum_121 : decode cX11_checksum 121 = .ok (.getfield 258, 3) := by decide +kernel
theorem dX11_checksum_124 : decode cX11_checksum 124 = .ok (.iload_n 3, 1) := by decide +kernel
theorem dX11_checksum_125 : decode cX11_checksum 125 = .ok (.iaload, 1) := by decide +kernel
theorem dX11_checksum_126 : decode cX11_checksum 126 = .ok (.i2l, 1) := by decide +kernel
theorem dX11_checksum_127 : decode cX11_checksum 127 = .ok (.ladd, 1) := by decide +kernel
theorem dX11_checksum_128 : decode cX11_checksum 128 = .ok (.lstore_n 1, 1) := by decide +kernel
theorem dX11_checksum_129 : decode cX11_checksum 129 = .ok (.iinc 3 1, 3) := by decide +kernel
theorem dX11_checksum_132 : decode cX11_checksum 132 = .ok (.goto (-33), 3) := by decide +kernel
theorem dX11_checksum_135 : decode cX11_checksum 135 = .ok (.lload_n 1, 1) := by decide +kernel
theorem dX11_checksum_136 : decode cX11_checksum 136 = .ok (.lreturn, 1) := by decide +kernel
set_option maxRecDepth 20000 in
theorem ggX11_errors_X11_gramsToldOf : GoodIn wsX11_errors wsX11_gramsToldOf := goodIn_r _ [9, 1, 10, 11, 12, 13, 14, 15, 16, 17, 18, 19, 20, 21, 22, 23, 24, 25, 26, 27, 28, 29, 8, 30, 31, 32, 33, 34, 35, 36, 37, 38, 39, 40, 172, 173, 174, 175, 176, 177, 178, 179, 180, 181, 182, 183, 184, 185, 186, 187, 188, 189, 190, 191, 192, 193, 194, 195, 196, 197, 198, 199, 200, 201, 202, 203, 204, 205, 206] (by decide +kernel) (by decide +kernel)
set_option maxRecDepth 20000 in
theorem gX11_errors_X11_gramsToldOf : GoodIn wsX11_errors (wsV RX11 394 RX11 yX11_gramsToldOf wsX11_gramsToldOf) := goodIn_app (goodIn_of _ (by decide +kernel)) ggX11_errors_X11_gramsToldOf
set_option maxRecDepth 20000 in
theorem ggX11_errors_X7_leavesOneInVain : GoodIn wsX11_errors wsX7_leavesOneInVain := goodIn_r _ [45, 46, 47, 48, 49, 50, 51, 44, 52, 53, 54, 55, 56, 57, 58, 59, 60, 61, 62, 63, 64, 65, 66, 67, 68, 69, 70, 71, 72, 73, 74, 75, 76, 77, 78, 79, 80, 81, 82, 83, 84, 85, 86, 8, 87, 88, 89, 90, 91, 92, 93, 94, 95, 96, 97, 98, 99, 100, 101, 102, 103, 104, 105, 106, 107, 108, 109, 110, 111, 112, 113, 114, 115, 116, 117, 118, 119, 120, 121, 122, 123, 124, 125, 126, 127, 128, 129, 130, 207, 208, 209, 210, 211, 212, 213, 214, 190, 191, 192, 193, 194, 195, 196, 197, 215, 216, 217, 218, 219, 198, 199, 200, 201, 202, 203, 204, 205] (by decide +kernel) (by decide +kernel)
set_option maxRecDepth 20000 in
theorem gX11_errors_X7_leavesOneInVain : GoodIn wsX11_errors (wsV RX11 397 RX7 yX7_leavesOneInVain wsX7_leavesOneInVain) := goodIn_app (goodIn_of _ (by decide +kernel)) ggX11_errors_X7_leavesOneInVain
set_option maxRecDepth 20000 in
theorem ggX11_errors_X1_hasEarlierWay : GoodIn wsX11_errors wsX1_hasEarlierWay := goodIn_r _ [135, 136, 137, 138, 139, 140, 141, 134, 142, 143, 144, 145, 146, 147, 148, 149, 150, 151, 152, 153, 154, 155, 156, 157, 76, 158, 159, 160, 161, 162, 163, 164, 165, 166, 75, 77, 167, 168, 169, 170, 171, 126, 8, 127, 128, 129, 130, 220, 221, 222, 223, 224, 225, 226, 227, 228] (by decide +kernel) (by decide +kernel)
set_option maxRecDepth 20000 in
theorem gX11_errors_X1_hasEarlierWay : GoodIn wsX11_errors (wsV RX11 401 RX1 yX1_hasEarlierWay wsX1_hasEarlierWay) := goodIn_app (goodIn_of _ (by decide +kernel)) ggX11_errors_X1_hasEarlierWay
theorem dX11_errors_0 : decode cX11_errors 0 = .ok (.iconst 0, 1) := by decide +kernel
theorem dX11_errors_1 : decode cX11_errors 1 = .ok (.istore_n 1, 1) := by decide +kernel
theorem dX11_errors_2 : decode cX11_errors 2 = .ok (.aload_n 0, 1) := by decide +kernel
theorem dX11_errors_3 : decode cX11_errors 3 = .ok (.getfield 24, 3) := by decide +kernel
theorem dX11_errors_6 : decode cX11_errors 6 = .ok (.getfield 117, 3) := by decide +kernel
theorem dX11_errors_9 : decode cX11_errors 9 = .ok (.aload_n 0, 1) := by decide +kernel
theorem dX11_errors_10 : decode cX11_errors 10 = .ok (.invokevirtual 394, 3) := by decide +kernel
theorem dX11_errors_13 : decode cX11_errors 13 = .ok (.if_icmp .eq 6, 3) := by decide +kernel
theorem dX11_errors_16 : decode cX11_errors 16 = .ok (.iinc 1 1, 3) := by decide +kernel
theorem dX11_errors_19 : decode cX11_errors 19 = .ok (.aload_n 0, 1) := by decide +kernel
theorem dX11_errors_20 : decode cX11_errors 20 = .ok (.getfield 50, 3) := by decide +kernel
theorem dX11_errors_23 : decode cX11_errors 23 = .ok (.invokevirtual 397, 3) := by decide +kernel
theorem dX11_errors_26 : decode cX11_errors 26 = .ok (.ifCond .eq 6, 3) := by decide +kernel
theorem dX11_errors_29 : decode cX11_errors 29 = .ok (.iinc 1 1, 3) := by decide +kernel
theorem dX11_errors_32 : decode cX11_errors 32 = .ok (.aload_n 0, 1) := by decide +kernel
theorem dX11_errors_33 : decode cX11_errors 33 = .ok (.getfield 70, 3) := by decide +kernel
theorem dX11_errors_36 : decode cX11_errors 36 = .ok (.invokevirtual 401, 3) := by decide +kernel
theorem dX11_errors_39 : decode cX11_errors 39 = .ok (.ifCond .eq 6, 3) := by decide +kernel
theorem dX11_errors_42 : decode cX11_errors 42 = .ok (.iinc 1 1, 3) := by decide +kernel
theorem dX11_errors_45 : decode cX11_errors 45 = .ok (.iload_n 1, 1) := by decide +kernel
theorem dX11_errors_46 : decode cX11_errors 46 = .ok (.ireturn, 1) := by decide +kernel
theorem dX11_isWithin_0 : decode cX11_isWithin 0 = .ok (.iload_n 0, 1) := by decide +kernel
theorem dX11_isWithin_1 : decode cX11_isWithin 1 = .ok (.iload_n 1, 1) := by decide +kernel
theorem dX11_isWithin_2 : decode cX11_isWithin 2 = .ok (.if_icmp .lt 12, 3) := by decide +kernel
theorem dX11_isWithin_5 : decode cX11_isWithin 5 = .ok (.iload_n 0, 1) := by decide +kernel
theorem dX11_isWithin_6 : decode cX11_isWithin 6 = .ok (.iload_n 2, 1) := by decide +kernel
theorem dX11_isWithin_7 : decode cX11_isWithin 7 = .ok (.if_icmp .gt 7, 3) := by decide +kernel
theorem dX11_isWithin_10 : decode cX11_isWithin 10 = .ok (.iconst 1, 1) := by decide +kernel
theorem dX11_isWithin_11 : decode cX11_isWithin 11 = .ok (.goto 4, 3) := by decide +kernel
theorem dX11_isWithin_14 : decode cX11_isWithin 14 = .ok (.iconst 0, 1) := by decide +kernel
theorem dX11_isWithin_15 : decode cX11_isWithin 15 = .ok (.ireturn, 1) := by decide +kernel
theorem dX11_needIndex_0 : decode cX11_needIndex 0 = .ok (.iload_n 0, 1) := by decide +kernel
theorem dX11_needIndex_1 : decode cX11_needIndex 1 = .ok (.ifCond .ne 14, 3) := by decide +kernel
theorem dX11_needIndex_4 : decode cX11_needIndex 4 = .ok (.new 404, 3) := by decide +kernel
theorem dX11_needIndex_7 : decode cX11_needIndex 7 = .ok (.dup, 1) := by decide +kernel
theorem dX11_needIndex_8 : decode cX11_needIndex 8 = .ok (.ldc_w 406, 3) := by decide +kernel
theorem dX11_needIndex_11 : decode cX11_needIndex 11 = .ok (.invokespecial 408, 3) := by decide +kernel
theorem dX11_needIndex_14 : decode cX11_needIndex 14 = .ok (.athrow, 1) := by decide +kernel
theorem dX11_needIndex_15 : decode cX11_needIndex 15 = .ok (.return_, 1) := by decide +kernel
theorem dX11_needArgument_0 : decode cX11_needArgument 0 = .ok (.iload_n 0, 1) := by decide +kernel
theorem dX11_needArgument_1 : decode cX11_needArgument 1 = .ok (.ifCond .ne 14, 3) := by decide +kernel
theorem dX11_needArgument_4 : decode cX11_needArgument 4 = .ok (.new 411, 3) := by decide +kernel
theorem dX11_needArgument_7 : decode cX11_needArgument 7 = .ok (.dup, 1) := by decide +kernel
theorem dX11_needArgument_8 : decode cX11_needArgument 8 = .ok (.ldc_w 413, 3) := by decide +kernel
theorem dX11_needArgument_11 : decode cX11_needArgument 11 = .ok (.invokespecial 415, 3) := by decide +kernel
theorem dX11_needArgument_14 : decode cX11_needArgument 14 = .ok (.athrow, 1) := by decide +kernel
theorem dX11_needArgument_15 : decode cX11_needArgument 15 = .ok (.return_, 1) := by decide +kernel
theorem dX11_needState_0 : decode cX11_needState 0 = .ok (.iload_n 0, 1) := by decide +kernel
theorem dX11_needState_1 : decode cX11_needState 1 = .ok (.ifCond .ne 14, 3) := by decide +kernel
theorem dX11_needState_4 : decode cX11_needState 4 = .ok (.new 416, 3) := by decide +kernel
theorem dX11_needState_7 : decode cX11_needState 7 = .ok (.dup, 1) := by decide +kernel
theorem dX11_needState_8 : decode cX11_needState 8 = .ok (.ldc_w 418, 3) := by decide +kernel
theorem dX11_needState_11 : decode cX11_needState 11 = .ok (.invokespecial 420, 3) := by decide +kernel
theorem dX11_needState_14 : decode cX11_needState 14 = .ok (.athrow, 1) := by decide +kernel
theorem dX11_needState_15 : decode cX11_needState 15 = .ok (.return_, 1) := by decide +kernel
theorem dX11_needElement_0 : decode cX11_needElement 0 = .ok (.iload_n 0, 1) := by decide +kernel
theorem dX11_needElement_1 : decode cX11_needElement 1 = .ok (.ifCond .ne 14, 3) := by decide +kernel
theorem dX11_needElement_4 : decode cX11_needElement 4 = .ok (.new 421, 3) := by decide +kernel
theorem dX11_needElement_7 : decode cX11_needElement 7 = .ok (.dup, 1) := by decide +kernel
theorem dX11_needElement_8 : decode cX11_needElement 8 = .ok (.ldc_w 423, 3) := by decide +kernel
theorem dX11_needElement_11 : decode cX11_needElement 11 = .ok (.invokespecial 425, 3) := by decide +kernel
theorem dX11_needElement_14 : decode cX11_needElement 14 = .ok (.athrow, 1) := by decide +kernel
theorem dX11_needElement_15 : decode cX11_needElement 15 = .ok (.return_, 1) := by decide +kernel
set_option maxRecDepth 20000 in
theorem ggX11_needGood_X11_isWithin : GoodIn wsX11_needGood wsX11_isWithin := goodIn_r _ [4] (by decide +kernel) (by decide +kernel)
set_option maxRecDepth 20000 in
theorem gX11_needGood_X11_isWithin : GoodIn wsX11_needGood (va_wsS RX11 99 yX11_isWithin wsX11_isWithin) := goodIn_app (goodIn_of _ (by decide +kernel)) ggX11_needGood_X11_isWithin
set_option maxRecDepth 20000 in
theorem ggX11_needGood_X11_needIndex : GoodIn wsX11_needGood wsX11_needIndex := goodIn_ca (goodIn_r _ [7, 8, 9] (by decide +kernel) (by decide +kernel)) (goodIn_sub (fun _ h => List.mem_cons_of_mem _ (List.mem_append_right _ h)) (by decide +kernel))
set_option maxRecDepth 20000 in
theorem gX11_needGood_X11_needIndex : GoodIn wsX11_needGood (va_wsS RX11 272 yX11_needIndex wsX11_needIndex) := goodIn_app (goodIn_of _ (by decide +kernel)) ggX11_needGood_X11_needIndex
theorem dX11_needGood_0 : decode cX11_needGood 0 = .ok (.iload_n 0, 1) := by decide +kernel
theorem dX11_needGood_1 : decode cX11_needGood 1 = .ok (.iconst 0, 1) := by decide +kernel
theorem dX11_needGood_2 : decode cX11_needGood 2 = .ok (.bipush 7, 2) := by decide +kernel
theorem dX11_needGood_4 : decode cX11_needGood 4 = .ok (.invokestatic 99, 3) := by decide +kernel
theorem dX11_needGood_7 : decode cX11_needGood 7 = .ok (.invokestatic 272, 3) := by decide +kernel
theorem dX11_needGood_10 : decode cX11_needGood 10 = .ok (.return_, 1) := by decide +kernel
set_option maxRecDepth 20000 in
theorem ggX11_needRecipe_X11_isWithin : GoodIn wsX11_needRecipe wsX11_isWithin := goodIn_r _ [6] (by decide +kernel) (by decide +kernel)
set_option maxRecDepth 20000 in
theorem gX11_needRecipe_X11_isWithin : GoodIn wsX11_needRecipe (va_wsS RX11 99 yX11_isWithin wsX11_isWithin) := goodIn_app (goodIn_of _ (by decide +kernel)) ggX11_needRecipe_X11_isWithin
set_option maxRecDepth 20000 in
theorem ggX11_needRecipe_X11_needIndex : GoodIn wsX11_needRecipe wsX11_needIndex := goodIn_ca (goodIn_r _ [9, 10, 11] (by decide +kernel) (by decide +kernel)) (goodIn_sub (fun _ h => List.mem_cons_of_mem _ (List.mem_append_right _ h)) (by decide +kernel))
set_option maxRecDepth 20000 in
theorem gX11_needRecipe_X11_needIndex : GoodIn wsX11_needRecipe (va_wsS RX11 272 yX11_needIndex wsX11_needIndex) := goodIn_app (goodIn_of _ (by decide +kernel)) ggX11_needRecipe_X11_needIndex
theorem dX11_needRecipe_0 : decode cX11_needRecipe 0 = .ok (.iload_n 1, 1) := by decide +kernel
theorem dX11_needRecipe_1 : decode cX11_needRecipe 1 = .ok (.iconst 0, 1) := by decide +kernel
theorem dX11_needRecipe_2 : decode cX11_needRecipe 2 = .ok (.aload_n 0, 1) := by decide +kernel
theorem dX11_needRecipe_3 : decode cX11_needRecipe 3 = .ok (.getfield 31, 3) := by decide +kernel
theorem dX11_needRecipe_6 : decode cX11_needRecipe 6 = .ok (.getfield 121, 3) := by decide +kernel
theorem dX11_needRecipe_9 : decode cX11_needRecipe 9 = .ok (.iconst 1, 1) := by decide +kernel
theorem dX11_needRecipe_10 : decode cX11_needRecipe 10 = .ok (.isub, 1) := by decide +kernel
theorem dX11_needRecipe_11 : decode cX11_needRecipe 11 = .ok (.invokestatic 99, 3) := by decide +kernel
theorem dX11_needRecipe_14 : decode cX11_needRecipe 14 = .ok (.invokestatic 272, 3) := by decide +kernel
theorem dX11_needRecipe_17 : decode cX11_needRecipe 17 = .ok (.return_, 1) := by decide +kernel
set_option maxRecDepth 20000 in
theorem ggX11_needDough_X11_isWithin : GoodIn wsX11_needDough wsX11_isWithin := goodIn_r _ [6] (by decide +kernel) (by decide +kernel)
set_option maxRecDepth 20000 in
theorem gX11_needDough_X11_isWithin : GoodIn wsX11_needDough (va_wsS RX11 99 yX11_isWithin wsX11_isWithin) := goodIn_app (goodIn_of _ (by decide +kernel)) ggX11_needDough_X11_isWithin
set_option maxRecDepth 20000 in
theorem ggX11_needDough_X11_needIndex : GoodIn wsX11_needDough wsX11_needIndex := goodIn_ca (goodIn_r _ [9, 10, 11] (by decide +kernel) (by decide +kernel)) (goodIn_sub (fun _ h => List.mem_cons_of_mem _ (List.mem_append_right _ h)) (by decide +kernel))
set_option maxRecDepth 20000 in
theorem gX11_needDough_X11_needIndex : GoodIn wsX11_needDough (va_wsS RX11 272 yX11_needIndex wsX11_needIndex) := goodIn_app (goodIn_of _ (by decide +kernel)) ggX11_needDough_X11_needIndex
theorem dX11_needDough_0 : decode cX11_needDough 0 = .ok (.iload_n 1, 1) := by decide +kernel
theorem dX11_needDough_1 : decode cX11_needDough 1 = .ok (.iconst 0, 1) := by decide +kernel
theorem dX11_needDough_2 : decode cX11_needDough 2 = .ok (.aload_n 0, 1) := by decide +kernel
theorem dX11_needDough_3 : decode cX11_needDough 3 = .ok (.getfield 36, 3) := by decide +kernel
theorem dX11_needDough_6 : decode cX11_needDough 6 = .ok (.getfield 175, 3) := by decide +kernel
theorem dX11_needDough_9 : decode cX11_needDough 9 = .ok (.iconst 1, 1) := by decide +kernel
theorem dX11_needDough_10 : decode cX11_needDough 10 = .ok (.isub, 1) := by decide +kernel
theorem dX11_needDough_11 : decode cX11_needDough 11 = .ok (.invokestatic 99, 3) := by decide +kernel
theorem dX11_needDough_14 : decode cX11_needDough 14 = .ok (.invokestatic 272, 3) := by decide +kernel
theorem dX11_needDough_17 : decode cX11_needDough 17 = .ok (.return_, 1) := by decide +kernel
set_option maxRecDepth 20000 in
theorem ggX11_isSetOfRecipes_X11_isWithin : GoodIn wsX11_isSetOfRecipes wsX11_isWithin := goodIn_r _ [6] (by decide +kernel) (by decide +kernel)
set_option maxRecDepth 20000 in
theorem gX11_isSetOfRecipes_X11_isWithin : GoodIn wsX11_isSetOfRecipes (va_wsS RX11 99 yX11_isWithin wsX11_isWithin) := goodIn_app (goodIn_of _ (by decide +kernel)) ggX11_isSetOfRecipes_X11_isWithin
theorem dX11_isSetOfRecipes_0 : decode cX11_isSetOfRecipes 0 = .ok (.iload_n 1, 1) := by decide +kernel
theorem dX11_isSetOfRecipes_1 : decode cX11_isSetOfRecipes 1 = .ok (.iconst 0, 1) := by decide +kernel
theorem dX11_isSetOfRecipes_2 : decode cX11_isSetOfRecipes 2 = .ok (.iconst 1, 1) := by decide +kernel
theorem dX11_isSetOfRecipes_3 : decode cX11_isSetOfRecipes 3 = .ok (.aload_n 0, 1) := by decide +kernel
theorem dX11_isSetOfRecipes_4 : decode cX11_isSetOfRecipes 4 = .ok (.getfield 31, 3) := by decide +kernel
theorem dX11_isSetOfRecipes_7 : decode cX11_isSetOfRecipes 7 = .ok (.getfield 121, 3) := by decide +kernel
theorem dX11_isSetOfRecipes_10 : decode cX11_isSetOfRecipes 10 = .ok (.ishl, 1) := by decide +kernel
theorem dX11_isSetOfRecipes_11 : decode cX11_isSetOfRecipes 11 = .ok (.iconst 1, 1) := by decide +kernel
theorem dX11_isSetOfRecipes_12 : decode cX11_isSetOfRecipes 12 = .ok (.isub, 1) := by decide +kernel
theorem dX11_isSetOfRecipes_13 : decode cX11_isSetOfRecipes 13 = .ok (.invokestatic 99, 3) := by decide +kernel
theorem dX11_isSetOfRecipes_16 : decode cX11_isSetOfRecipes 16 = .ok (.ireturn, 1) := by decide +kernel
set_option maxRecDepth 20000 in
theorem ggX11_isEnoughFor_X8_scaled : GoodIn wsX11_isEnoughFor wsX8_scaled := goodIn_r _ [8, 9, 10, 11, 7, 12, 13, 14, 15, 16, 17, 36, 37, 38, 39, 40, 41, 42, 43] (by decide +kernel) (by decide +kernel)
set_option maxRecDepth 20000 in
theorem gX11_isEnoughFor_X8_scaled : GoodIn wsX11_isEnoughFor (wsV RX11 171 RX8 yX8_scaled wsX8_scaled) := goodIn_app (goodIn_of _ (by decide +kernel)) ggX11_isEnoughFor_X8_scaled
theorem dX11_isEnoughFor_0 : decode cX11_isEnoughFor 0 = .ok (.iconst 0, 1) := by decide +kernel
theorem dX11_isEnoughFor_1 : decode cX11_isEnoughFor 1 = .ok (.istore_n 3, 1) := by decide +kernel
theorem dX11_isEnoughFor_2 : decode cX11_isEnoughFor 2 = .ok (.iload_n 3, 1) := by decide +kernel
theorem dX11_isEnoughFor_3 : decode cX11_isEnoughFor 3 = .ok (.bipush 8, 2) := by decide +kernel
theorem dX11_isEnoughFor_5 : decode cX11_isEnoughFor 5 = .ok (.if_icmp .ge 33, 3) := by decide +kernel
theorem dX11_isEnoughFor_8 : decode cX11_isEnoughFor 8 = .ok (.aload_n 0, 1) := by decide +kernel
theorem dX11_isEnoughFor_9 : decode cX11_isEnoughFor 9 = .ok (.getfield 24, 3) := by decide +kernel
theorem dX11_isEnoughFor_12 : decode cX11_isEnoughFor 12 = .ok (.getfield 107, 3) := by decide +kernel
theorem dX11_isEnoughFor_15 : decode cX11_isEnoughFor 15 = .ok (.iload_n 3, 1) := by decide +kernel
theorem dX11_isEnoughFor_16 : decode cX11_isEnoughFor 16 = .ok (.iaload, 1) := by decide +kernel
theorem dX11_isEnoughFor_17 : decode cX11_isEnoughFor 17 = .ok (.aload_n 0, 1) := by decide +kernel
theorem dX11_isEnoughFor_18 : decode cX11_isEnoughFor 18 = .ok (.getfield 31, 3) := by decide +kernel
theorem dX11_isEnoughFor_21 : decode cX11_isEnoughFor 21 = .ok (.iload_n 1, 1) := by decide +kernel
theorem dX11_isEnoughFor_22 : decode cX11_isEnoughFor 22 = .ok (.iload_n 2, 1) := by decide +kernel
theorem dX11_isEnoughFor_23 : decode cX11_isEnoughFor 23 = .ok (.iload_n 3, 1) := by decide +kernel
theorem dX11_isEnoughFor_24 : decode cX11_isEnoughFor 24 = .ok (.invokevirtual 171, 3) := by decide +kernel
theorem dX11_isEnoughFor_27 : decode cX11_isEnoughFor 27 = .ok (.if_icmp .ge 5, 3) := by decide +kernel
theorem dX11_isEnoughFor_30 : decode cX11_isEnoughFor 30 = .ok (.iconst 0, 1) := by decide +kernel
theorem dX11_isEnoughFor_31 : decode cX11_isEnoughFor 31 = .ok (.ireturn, 1) := by decide +kernel
theorem dX11_isEnoughFor_32 : decode cX11_isEnoughFor 32 = .ok (.iinc 3 1, 3) := by decide +kernel
theorem dX11_isEnoughFor_35 : decode cX11_isEnoughFor 35 = .ok (.goto (-33), 3) := by decide +kernel
theorem dX11_isEnoughFor_38 : decode cX11_isEnoughFor 38 = .ok (.iconst 1, 1) := by decide +kernel
theorem dX11_isEnoughFor_39 : decode cX11_isEnoughFor 39 = .ok (.ireturn, 1) := by decide +kernel
set_option maxRecDepth 20000 in
theorem ggX11_isRipe_X8_isRipeWith : GoodIn wsX11_isRipe wsX8_isRipeWith := goodIn_r _ [10, 11, 12, 13, 14, 15, 38, 39, 40, 41, 42, 43, 44, 45] (by decide +kernel) (by decide +kernel)
set_option maxRecDepth 20000 in
theorem gX11_isRipe_X8_isRipeWith : GoodIn wsX11_isRipe (wsV RX11 426 RX8 yX8_isRipeWith wsX8_isRipeWith) := goodIn_app (goodIn_of _ (by decide +kernel)) ggX11_isRipe_X8_isRipeWith
theorem dX11_isRipe_0 : decode cX11_isRipe 0 = .ok (.aload_n 0, 1) := by decide +kernel
theorem dX11_isRipe_1 : decode cX11_isRipe 1 = .ok (.getfield 36, 3) := by decide +kernel
theorem dX11_isRipe_4 : decode cX11_isRipe 4 = .ok (.getfield 207, 3) := by decide +kernel
theorem dX11_isRipe_7 : decode cX11_isRipe 7 = .ok (.iload_n 1, 1) := by decide +kernel
theorem dX11_isRipe_8 : decode cX11_isRipe 8 = .ok (.iaload, 1) := by decide +kernel
theorem dX11_isRipe_9 : decode cX11_isRipe 9 = .ok (.ifCond .ne 35, 3) := by decide +kernel
theorem dX11_isRipe_12 : decode cX11_isRipe 12 = .ok (.aload_n 0, 1) := by decide +kernel
theorem dX11_isRipe_13 : decode cX11_isRipe 13 = .ok (.getfield 31, 3) := by decide +kernel
theorem dX11_isRipe_16 : decode cX11_isRipe 16 = .ok (.aload_n 0, 1) := by decide +kernel
theorem dX11_isRipe_17 : decode cX11_isRipe 17 = .ok (.getfield 36, 3) := by decide +kernel
theorem dX11_isRipe_20 : decode cX11_isRipe 20 = .ok (.getfield 216, 3) := by decide +kernel
theorem dX11_isRipe_23 : decode cX11_isRipe 23 = .ok (.iload_n 1, 1) := by decide +kernel
theorem dX11_isRipe_24 : decode cX11_isRipe 24 = .ok (.iaload, 1) := by decide +kernel
theorem dX11_isRipe_25 : decode cX11_isRipe 25 = .ok (.aload_n 0, 1) := by decide +kernel
theorem dX11_isRipe_26 : decode cX11_isRipe 26 = .ok (.getfield 36, 3) := by decide +kernel
theorem dX11_isRipe_29 : decode cX11_isRipe 29 = .ok (.getfield 213, 3) := by decide +kernel
theorem dX11_isRipe_32 : decode cX11_isRipe 32 = .ok (.iload_n 1, 1) := by decide +kernel
theorem dX11_isRipe_33 : decode cX11_isRipe 33 = .ok (.iaload, 1) := by decide +kernel
theorem dX11_isRipe_34 : decode cX11_isRipe 34 = .ok (.invokevirtual 426, 3) := by decide +kernel
theorem dX11_isRipe_37 : decode cX11_isRipe 37 = .ok (.ifCond .eq 7, 3) := by decide +kernel
theorem dX11_isRipe_40 : decode cX11_isRipe 40 = .ok (.iconst 1, 1) := by decide +kernel
theorem dX11_isRipe_41 : decode cX11_isRipe 41 = .ok (.goto 4, 3) := by decide +kernel
theorem dX11_isRipe_44 : decode cX11_isRipe 44 = .ok (.iconst 0, 1) := by decide +kernel
theorem dX11_isRipe_45 : decode cX11_isRipe 45 = .ok (.ireturn, 1) := by decide +kernel
set_option maxRecDepth 20000 in
theorem ggX11_isForOven_X11_isRipe : GoodIn wsX11_isForOven wsX11_isRipe := goodIn_r _ [13, 1, 2, 6, 8, 14, 15, 16, 17, 18, 19, 20, 21, 22, 12, 23, 24, 25, 26, 27, 28, 29, 30, 31, 32, 33, 34, 35, 36, 37, 38, 39, 40, 41, 42, 43, 44, 45, 51, 52, 53, 54, 55, 56, 57, 58] (by decide +kernel) (by decide +kernel)
set_option maxRecDepth 20000 in
theorem gX11_isForOven_X11_isRipe : GoodIn wsX11_isForOven (wsV RX11 204 RX11 yX11_isRipe wsX11_isRipe) := goodIn_app (goodIn_of _ (by decide +kernel)) ggX11_isForOven_X11_isRipe
theorem dX11_isForOven_0 : decode cX11_isForOven 0 = .ok (.aload_n 0, 1) := by decide +kernel
theorem dX11_isForOven_1 : decode cX11_isForOven 1 = .ok (.getfield 36, 3) := by decide +kernel
theorem dX11_isForOven_4 : decode cX11_isForOven 4 = .ok (.getfield 207, 3) := by decide +kernel
theorem dX11_isForOven_7 : decode cX11_isForOven 7 = .ok (.iload_n 1, 1) := by decide +kernel
theorem dX11_isForOven_8 : decode cX11_isForOven 8 = .ok (.iaload, 1) := by decide +kernel
theorem dX11_isForOven_9 : decode cX11_isForOven 9 = .ok (.iconst 1, 1) := by decide +kernel
theorem dX11_isForOven_10 : decode cX11_isForOven 10 = .ok (.if_icmp .ne 44, 3) := by decide +kernel
theorem dX11_isForOven_13 : decode cX11_isForOven 13 = .ok (.aload_n 0, 1) := by decide +kernel
theorem dX11_isForOven_14 : decode cX11_isForOven 14 = .ok (.getfield 41, 3) := by decide +kernel
theorem dX11_isForOven_17 : decode cX11_isForOven 17 = .ok (.getfield 186, 3) := by decide +kernel
theorem dX11_isForOven_20 : decode cX11_isForOven 20 = .ok (.aload_n 0, 1) := by decide +kernel
theorem dX11_isForOven_21 : decode cX11_isForOven 21 = .ok (.getfield 36, 3) := by decide +kernel
theorem dX11_isForOven_24 : decode cX11_isForOven 24 = .ok (.getfield 210, 3) := by decide +kernel
theorem dX11_isForOven_27 : decode cX11_isForOven 27 = .ok (.iload_n 1, 1) := by decide +kernel
theorem dX11_isForOven_28 : decode cX11_isForOven 28 = .ok (.iaload, 1) := by decide +kernel
theorem dX11_isForOven_29 : decode cX11_isForOven 29 = .ok (.isub, 1) := by decide +kernel
theorem dX11_isForOven_30 : decode cX11_isForOven 30 = .ok (.aload_n 0, 1) := by decide +kernel
theorem dX11_isForOven_31 : decode cX11_isForOven 31 = .ok (.getfield 31, 3) := by decide +kernel
theorem dX11_isForOven_34 : decode cX11_isForOven 34 = .ok (.getfield 142, 3) := by decide +kernel
theorem dX11_isForOven_37 : decode cX11_isForOven 37 = .ok (.aload_n 0, 1) := by decide +kernel
theorem dX11_isForOven_38 : decode cX11_isForOven 38 = .ok (.getfield 36, 3) := by decide +kernel
theorem dX11_isForOven_41 : decode cX11_isForOven 41 = .ok (.getfield 216, 3) := by decide +kernel
theorem dX11_isForOven_44 : decode cX11_isForOven 44 = .ok (.iload_n 1, 1) := by decide +kernel
theorem dX11_isForOven_45 : decode cX11_isForOven 45 = .ok (.iaload, 1) := by decide +kernel
theorem dX11_isForOven_46 : decode cX11_isForOven 46 = .ok (.iaload, 1) := by decide +kernel
theorem dX11_isForOven_47 : decode cX11_isForOven 47 = .ok (.if_icmp .gt 7, 3) := by decide +kernel
theorem dX11_isForOven_50 : decode cX11_isForOven 50 = .ok (.iconst 1, 1) := by decide +kernel
theorem dX11_isForOven_51 : decode cX11_isForOven 51 = .ok (.goto 4, 3) := by decide +kernel
theorem dX11_isForOven_54 : decode cX11_isForOven 54 = .ok (.iconst 0, 1) := by decide +kernel
theorem dX11_isForOven_55 : decode cX11_isForOven 55 = .ok (.istore_n 2, 1) := by decide +kernel
theorem dX11_isForOven_56 : decode cX11_isForOven 56 = .ok (.iload_n 2, 1) := by decide +kernel
theorem dX11_isForOven_57 : decode cX11_isForOven 57 = .ok (.ifCond .ne 11, 3) := by decide +kernel
theorem dX11_isForOven_60 : decode cX11_isForOven 60 = .ok (.aload_n 0, 1) := by decide +kernel
theorem dX11_isForOven_61 : decode cX11_isForOven 61 = .ok (.iload_n 1, 1) := by decide +kernel
theorem dX11_isForOven_62 : decode cX11_isForOven 62 = .ok (.invokevirtual 204, 3) := by decide +kernel
theorem dX11_isForOven_65 : decode cX11_isForOven 65 = .ok (.ifCond .eq 7, 3) := by decide +kernel
theorem dX11_isForOven_68 : decode cX11_isForOven 68 = .ok (.iconst 1, 1) := by decide +kernel
theorem dX11_isForOven_69 : decode cX11_isForOven 69 = .ok (.goto 4, 3) := by decide +kernel
theorem dX11_isForOven_72 : decode cX11_isForOven 72 = .ok (.iconst 0, 1) := by decide +kernel
theorem dX11_isForOven_73 : decode cX11_isForOven 73 = .ok (.ireturn, 1) := by decide +kernel
set_option maxRecDepth 20000 in
theorem ggX11_isOvenFor_X2_wentIntoOvenAt : GoodIn wsX11_isOvenFor wsX2_wentIntoOvenAt := goodIn_r _ [12, 13, 14, 46, 47, 48, 49, 50, 51, 52, 53] (by decide +kernel) (by decide +kernel)
set_option maxRecDepth 20000 in
theorem gX11_isOvenFor_X2_wentIntoOvenAt : GoodIn wsX11_isOvenFor (wsV RX11 429 RX2 yX2_wentIntoOvenAt wsX2_wentIntoOvenAt) := goodIn_app (goodIn_of _ (by decide +kernel)) ggX11_isOvenFor_X2_wentIntoOvenAt
set_option maxRecDepth 20000 in
theorem ggX11_isOvenFor_X11_isWithin : GoodIn wsX11_isOvenFor wsX11_isWithin := goodIn_r _ [18] (by decide +kernel) (by decide +kernel)
set_option maxRecDepth 20000 in
theorem gX11_isOvenFor_X11_isWithin : GoodIn wsX11_isOvenFor (va_wsS RX11 99 yX11_isWithin wsX11_isWithin) := goodIn_app (goodIn_of _ (by decide +kernel)) ggX11_isOvenFor_X11_isWithin
theorem dX11_isOvenFor_0 : decode cX11_isOvenFor 0 = .ok (.aload_n 0, 1) := by decide +kernel
theorem dX11_isOvenFor_1 : decode cX11_isOvenFor 1 = .ok (.getfield 41, 3) := by decide +kernel
theorem dX11_isOvenFor_4 : decode cX11_isOvenFor 4 = .ok (.getfield 186, 3) := by decide +kernel
theorem dX11_isOvenFor_7 : decode cX11_isOvenFor 7 = .ok (.bipush 10, 2) := by decide +kernel
theorem dX11_isOvenFor_9 : decode cX11_isOvenFor 9 = .ok (.irem, 1) := by decide +kernel
theorem dX11_isOvenFor_10 : decode cX11_isOvenFor 10 = .ok (.ifCond .ne 65, 3) := by decide +kernel
theorem dX11_isOvenFor_13 : decode cX11_isOvenFor 13 = .ok (.aload_n 0, 1) := by decide +kernel
theorem dX11_isOvenFor_14 : decode cX11_isOvenFor 14 = .ok (.getfield 36, 3) := by decide +kernel
theorem dX11_isOvenFor_17 : decode cX11_isOvenFor 17 = .ok (.aload_n 0, 1) := by decide +kernel
theorem dX11_isOvenFor_18 : decode cX11_isOvenFor 18 = .ok (.getfield 41, 3) := by decide +kernel
theorem dX11_isOvenFor_21 : decode cX11_isOvenFor 21 = .ok (.getfield 186, 3) := by decide +kernel
theorem dX11_isOvenFor_24 : decode cX11_isOvenFor 24 = .ok (.invokevirtual 429, 3) := by decide +kernel
theorem dX11_isOvenFor_27 : decode cX11_isOvenFor 27 = .ok (.aload_n 0, 1) := by decide +kernel
theorem dX11_isOvenFor_28 : decode cX11_isOvenFor 28 = .ok (.getfield 41, 3) := by decide +kernel
theorem dX11_isOvenFor_31 : decode cX11_isOvenFor 31 = .ok (.getfield 237, 3) := by decide +kernel
theorem dX11_isOvenFor_34 : decode cX11_isOvenFor 34 = .ok (.if_icmp .ge 41, 3) := by decide +kernel
theorem dX11_isOvenFor_37 : decode cX11_isOvenFor 37 = .ok (.aload_n 0, 1) := by decide +kernel
theorem dX11_isOvenFor_38 : decode cX11_isOvenFor 38 = .ok (.getfield 41, 3) := by decide +kernel
theorem dX11_isOvenFor_41 : decode cX11_isOvenFor 41 = .ok (.getfield 235, 3) := by decide +kernel
theorem dX11_isOvenFor_44 : decode cX11_isOvenFor 44 = .ok (.aload_n 0, 1) := by decide +kernel
theorem dX11_isOvenFor_45 : decode cX11_isOvenFor 45 = .ok (.getfield 31, 3) := by decide +kernel
theorem dX11_isOvenFor_48 : decode cX11_isOvenFor 48 = .ok (.getfield 133, 3) := by decide +kernel
theorem dX11_isOvenFor_51 : decode cX11_isOvenFor 51 = .ok (.iload_n 1, 1) := by decide +kernel
theorem dX11_isOvenFor_52 : decode cX11_isOvenFor 52 = .ok (.iaload, 1) := by decide +kernel
theorem dX11_isOvenFor_53 : decode cX11_isOvenFor 53 = .ok (.aload_n 0, 1) := by decide +kernel
theorem dX11_isOvenFor_54 : decode cX11_isOvenFor 54 = .ok (.getfield 31, 3) := by decide +kernel
theorem dX11_isOvenFor_57 : decode cX11_isOvenFor 57 = .ok (.getfield 133, 3) := by decide +kernel
theorem dX11_isOvenFor_60 : decode cX11_isOvenFor 60 = .ok (.iload_n 1, 1) := by decide +kernel
theorem dX11_isOvenFor_61 : decode cX11_isOvenFor 61 = .ok (.iaload, 1) := by decide +kernel
theorem dX11_isOvenFor_62 : decode cX11_isOvenFor 62 = .ok (.bipush 40, 2) := by decide +kernel
theorem dX11_isOvenFor_64 : decode cX11_isOvenFor 64 = .ok (.iadd, 1) := by decide +kernel
theorem dX11_isOvenFor_65 : decode cX11_isOvenFor 65 = .ok (.invokestatic 99, 3) := by decide +kernel
theorem dX11_isOvenFor_68 : decode cX11_isOvenFor 68 = .ok (.ifCond .eq 7, 3) := by decide +kernel
theorem dX11_isOvenFor_71 : decode cX11_isOvenFor 71 = .ok (.iconst 1, 1) := by decide +kernel
theorem dX11_isOvenFor_72 : decode cX11_isOvenFor 72 = .ok (.goto 4, 3) := by decide +kernel
theorem dX11_isOvenFor_75 : decode cX11_isOvenFor 75 = .ok (.iconst 0, 1) := by decide +kernel
theorem dX11_isOvenFor_76 : decode cX11_isOvenFor 76 = .ok (.ireturn, 1) := by decide +kernel
theorem dX11_takeOutOfOven_0 : decode cX11_takeOutOfOven 0 = .ok (.iconst 0, 1) := by decide +kernel
theorem dX11_takeOutOfOven_1 : decode cX11_takeOutOfOven 1 = .ok (.istore_n 1, 1) := by decide +kernel
theorem dX11_takeOutOfOven_2 : decode cX11_takeOutOfOven 2 = .ok (.iload_n 1, 1) := by decide +kernel
theorem dX11_takeOutOfOven_3 : decode cX11_takeOutOfOven 3 = .ok (.aload_n 0, 1) := by decide +kernel
theorem dX11_takeOutOfOven_4 : decode cX11_takeOutOfOven 4 = .ok (.getfield 36, 3) := by decide +kernel
theorem dX11_takeOutOfOven_7 : decode cX11_takeOutOfOven 7 = .ok (.getfield 175, 3) := by decide +kernel
theorem dX11_takeOutOfOven_10 : decode cX11_takeOutOfOven 10 = .ok (.if_icmp .ge 85, 3) := by decide +kernel
theorem dX11_takeOutOfOven_13 : decode cX11_takeOutOfOven 13 = .ok (.aload_n 0, 1) := by decide +kernel
theorem dX11_takeOutOfOven_14 : decode cX11_takeOutOfOven 14 = .ok (.getfield 36, 3) := by decide +kernel
theorem dX11_takeOutOfOven_17 : decode cX11_takeOutOfOven 17 = .ok (.getfield 207, 3) := by decide +kernel
theorem dX11_takeOutOfOven_20 : decode cX11_takeOutOfOven 20 = .ok (.iload_n 1, 1) := by decide +kernel
theorem dX11_takeOutOfOven_21 : decode cX11_takeOutOfOven 21 = .ok (.iaload, 1) := by decide +kernel
theorem dX11_takeOutOfOven_22 : decode cX11_takeOutOfOven 22 = .ok (.iconst 2, 1) := by decide +kernel
theorem dX11_takeOutOfOven_23 : decode cX11_takeOutOfOven 23 = .ok (.if_icmp .ne 66, 3) := by decide +kernel
theorem dX11_takeOutOfOven_26 : decode cX11_takeOutOfOven 26 = .ok (.aload_n 0, 1) := by decide +kernel
theorem dX11_takeOutOfOven_27 : decode cX11_takeOutOfOven 27 = .ok (.getfield 36, 3) := by decide +kernel
theorem dX11_takeOutOfOven_30 : decode cX11_takeOutOfOven 30 = .ok (.getfield 223, 3) := by decide +kernel
theorem dX11_takeOutOfOven_33 : decode cX11_takeOutOfOven 33 = .ok (.iload_n 1, 1) := by decide +kernel
theorem dX11_takeOutOfOven_34 : decode cX11_takeOutOfOven 34 = .ok (.iaload, 1) := by decide +kernel
theorem dX11_takeOutOfOven_35 : decode cX11_takeOutOfOven 35 = .ok (.bipush 10, 2) := by decide +kernel
theorem dX11_takeOutOfOven_37 : decode cX11_takeOutOfOven 37 = .ok (.iadd, 1) := by decide +kernel
theorem dX11_takeOutOfOven_38 : decode cX11_takeOutOfOven 38 = .ok (.aload_n 0, 1) := by decide +kernel
theorem dX11_takeOutOfOven_39 : decode cX11_takeOutOfOven 39 = .ok (.getfield 41, 3) := by decide +kernel
theorem dX11_takeOutOfOven_42 : decode cX11_takeOutOfOven 42 = .ok (.getfield 186, 3) := by decide +kernel
theorem dX11_takeOutOfOven_45 : decode cX11_takeOutOfOven 45 = .ok (.if_icmp .gt 44, 3) := by decide +kernel
theorem dX11_takeOutOfOven_48 : decode cX11_takeOutOfOven 48 = .ok (.aload_n 0, 1) := by decide +kernel
theorem dX11_takeOutOfOven_49 : decode cX11_takeOutOfOven 49 = .ok (.getfield 36, 3) := by decide +kernel
theorem dX11_takeOutOfOven_52 : decode cX11_takeOutOfOven 52 = .ok (.getfield 207, 3) := by decide +kernel
theorem dX11_takeOutOfOven_55 : decode cX11_takeOutOfOven 55 = .ok (.iload_n 1, 1) := by decide +kernel
theorem dX11_takeOutOfOven_56 : decode cX11_takeOutOfOven 56 = .ok (.iconst 3, 1) := by decide +kernel
theorem dX11_takeOutOfOven_57 : decode cX11_takeOutOfOven 57 = .ok (.iastore, 1) := by decide +kernel
theorem dX11_takeOutOfOven_58 : decode cX11_takeOutOfOven 58 = .ok (.aload_n 0, 1) := by decide +kernel
theorem dX11_takeOutOfOven_59 : decode cX11_takeOutOfOven 59 = .ok (.getfield 55, 3) := by decide +kernel
theorem dX11_takeOutOfOven_62 : decode cX11_takeOutOfOven 62 = .ok (.getfield 258, 3) := by decide +kernel
theorem dX11_takeOutOfOven_65 : decode cX11_takeOutOfOven 65 = .ok (.aload_n 0, 1) := by decide +kernel
theorem dX11_takeOutOfOven_66 : decode cX11_takeOutOfOven 66 = .ok (.getfield 36, 3) := by decide +kernel
theorem dX11_takeOutOfOven_69 : decode cX11_takeOutOfOven 69 = .ok (.getfield 216, 3) := by decide +kernel
theorem dX11_takeOutOfOven_72 : decode cX11_takeOutOfOven 72 = .ok (.iload_n 1, 1) := by decide +kernel
theorem dX11_takeOutOfOven_73 : decode cX11_takeOutOfOven 73 = .ok (.iaload, 1) := by decide +kernel
theorem dX11_takeOutOfOven_74 : decode cX11_takeOutOfOven 74 = .ok (.iconst 4, 1) := by decide +kernel
theorem dX11_takeOutOfOven_75 : decode cX11_takeOutOfOven 75 = .ok (.imul, 1) := by decide +kernel
theorem dX11_takeOutOfOven_76 : decode cX11_takeOutOfOven 76 = .ok (.dup2, 1) := by decide +kernel
theorem dX11_takeOutOfOven_77 : decode cX11_takeOutOfOven 77 = .ok (.iaload, 1) := by decide +kernel
theorem dX11_takeOutOfOven_78 : decode cX11_takeOutOfOven 78 = .ok (.aload_n 0, 1) := by decide +kernel
theorem dX11_takeOutOfOven_79 : decode cX11_takeOutOfOven 79 = .ok (.getfield 36, 3) := by decide +kernel
theorem dX11_takeOutOfOven_82 : decode cX11_takeOutOfOven 82 = .ok (.getfield 219, 3) := by decide +kernel
theorem dX11_takeOutOfOven_85 : decode cX11_takeOutOfOven 85 = .ok (.iload_n 1, 1) := by decide +kernel
theorem dX11_takeOutOfOven_86 : decode cX11_takeOutOfOven 86 = .ok (.iaload, 1) := by decide +kernel
theorem dX11_takeOutOfOven_87 : decode cX11_takeOutOfOven 87 = .ok (.iadd, 1) := by decide +kernel
theorem dX11_takeOutOfOven_88 : decode cX11_takeOutOfOven 88 = .ok (.iastore, 1) := by decide +kernel
theorem dX11_takeOutOfOven_89 : decode cX11_takeOutOfOven 89 = .ok (.iinc 1 1, 3) := by decide +kernel
theorem dX11_takeOutOfOven_92 : decode cX11_takeOutOfOven 92 = .ok (.goto (-90), 3) := by decide +kernel
theorem dX11_takeOutOfOven_95 : decode cX11_takeOutOfOven 95 = .ok (.return_, 1) := by decide +kernel
set_option maxRecDepth 20000 in
theorem ggX11_gramsInBreads_X0_from : GoodIn wsX11_gramsInBreads wsX0_from := goodIn_r _ [9, 10, 33] (by decide +kernel) (by decide +kernel)
set_option maxRecDepth 20000 in
theorem gX11_gramsInBreads_X0_from : GoodIn wsX11_gramsInBreads (wsV RX11 263 RX0 yX0_from wsX0_from) := goodIn_app (goodIn_of _ (by decide +kernel)) ggX11_gramsInBreads_X0_from
theorem dX11_gramsInBreads_0 : decode cX11_gramsInBreads 0 = .ok (.iconst 0, 1) := by decide +kernel
theorem dX11_gramsInBreads_1 : decode cX11_gramsInBreads 1 = .ok (.istore_n 1, 1) := by decide +kernel
theorem dX11_gramsInBreads_2 : decode cX11_gramsInBreads 2 = .ok (.iconst 0, 1) := by decide +kernel
theorem dX11_gramsInBreads_3 : decode cX11_gramsInBreads 3 = .ok (.istore_n 2, 1) := by decide +kernel
theorem dX11_gramsInBreads_4 : decode cX11_gramsInBreads 4 = .ok (.iload_n 2, 1) := by decide +kernel
theorem dX11_gramsInBreads_5 : decode cX11_gramsInBreads 5 = .ok (.aload_n 0, 1) := by decide +kernel
theorem dX11_gramsInBreads_6 : decode cX11_gramsInBreads 6 = .ok (.getfield 31, 3) := by decide +kernel
theorem dX11_gramsInBreads_9 : decode cX11_gramsInBreads 9 = .ok (.getfield 121, 3) := by decide +kernel
theorem dX11_gramsInBreads_12 : decode cX11_gramsInBreads 12 = .ok (.if_icmp .ge 31, 3) := by decide +kernel
theorem dX11_gramsInBreads_15 : decode cX11_gramsInBreads 15 = .ok (.iload_n 1, 1) := by decide +kernel
theorem dX11_gramsInBreads_16 : decode cX11_gramsInBreads 16 = .ok (.aload_n 0, 1) := by decide +kernel
theorem dX11_gramsInBreads_17 : decode cX11_gramsInBreads 17 = .ok (.getfield 55, 3) := by decide +kernel
theorem dX11_gramsInBreads_20 : decode cX11_gramsInBreads 20 = .ok (.iload_n 2, 1) := by decide +kernel
theorem dX11_gramsInBreads_21 : decode cX11_gramsInBreads 21 = .ok (.iconst 0, 1) := by decide +kernel
theorem dX11_gramsInBreads_22 : decode cX11_gramsInBreads 22 = .ok (.invokevirtual 263, 3) := by decide +kernel
theorem dX11_gramsInBreads_25 : decode cX11_gramsInBreads 25 = .ok (.aload_n 0, 1) := by decide +kernel
theorem dX11_gramsInBreads_26 : decode cX11_gramsInBreads 26 = .ok (.getfield 31, 3) := by decide +kernel
theorem dX11_gramsInBreads_29 : decode cX11_gramsInBreads 29 = .ok (.getfield 124, 3) := by decide +kernel
theorem dX11_gramsInBreads_32 : decode cX11_gramsInBreads 32 = .ok (.iload_n 2, 1) := by decide +kernel
theorem dX11_gramsInBreads_33 : decode cX11_gramsInBreads 33 = .ok (.iaload, 1) := by decide +kernel
theorem dX11_gramsInBreads_34 : decode cX11_gramsInBreads 34 = .ok (.imul, 1) := by decide +kernel
theorem dX11_gramsInBreads_35 : decode cX11_gramsInBreads 35 = .ok (.iadd, 1) := by decide +kernel
theorem dX11_gramsInBreads_36 : decode cX11_gramsInBreads 36 = .ok (.istore_n 1, 1) := by decide +kernel
theorem dX11_gramsInBreads_37 : decode cX11_gramsInBreads 37 = .ok (.iinc 2 1, 3) := by decide +kernel
theorem dX11_gramsInBreads_40 : decode cX11_gramsInBreads 40 = .ok (.goto (-36), 3) := by decide +kernel
theorem dX11_gramsInBreads_43 : decode cX11_gramsInBreads 43 = .ok (.iload_n 1, 1) := by decide +kernel
theorem dX11_gramsInBreads_44 : decode cX11_gramsInBreads 44 = .ok (.ireturn, 1) := by decide +kernel
set_option maxRecDepth 20000 in
theorem ggX11_gramsToldOf_X10_allGrams : GoodIn wsX11_gramsToldOf wsX10_allGrams := goodIn_r _ [9, 10, 48, 49, 50, 51] (by decide +kernel) (by decide +kernel)
set_option maxRecDepth 20000 in
theorem gX11_gramsToldOf_X10_allGrams : GoodIn wsX11_gramsToldOf (wsV RX11 364 RX10 yX10_allGrams wsX10_allGrams) := goodIn_app (goodIn_of _ (by decide +kernel)) ggX11_gramsToldOf_X10_allGrams
set_option maxRecDepth 20000 in
theorem ggX11_gramsToldOf_X2_gramsIn : GoodIn wsX11_gramsToldOf wsX2_gramsIn := goodIn_r _ [15, 16, 17, 18, 52, 53, 54, 55, 56, 57, 58, 59] (by decide +kernel) (by decide +kernel)
set_option maxRecDepth 20000 in
theorem gX11_gramsToldOf_X2_gramsIn : GoodIn wsX11_gramsToldOf (wsV RX11 367 RX2 yX2_gramsIn wsX2_gramsIn) := goodIn_app (goodIn_of _ (by decide +kernel)) ggX11_gramsToldOf_X2_gramsIn
set_option maxRecDepth 20000 in
theorem ggX11_gramsToldOf_X11_gramsInBreads : GoodIn wsX11_gramsToldOf wsX11_gramsInBreads := goodIn_r _ [23, 24, 25, 26, 27, 28, 29, 30, 31, 32, 33, 34, 35, 36, 37, 38, 39, 40, 41, 42, 43, 44, 45, 46, 47, 60, 61, 62, 63, 64, 65, 66, 67, 68] (by decide +kernel) (by decide +kernel)
set_option maxRecDepth 20000 in
theorem gX11_gramsToldOf_X11_gramsInBreads : GoodIn wsX11_gramsToldOf (wsV RX11 370 RX11 yX11_gramsInBreads wsX11_gramsInBreads) := goodIn_app (goodIn_of _ (by decide +kernel)) ggX11_gramsToldOf_X11_gramsInBreads
theorem dX11_gramsToldOf_0 : decode cX11_gramsToldOf 0 = .ok (.aload_n 0, 1) := by decide +kernel
theorem dX11_gramsToldOf_1 : decode cX11_gramsToldOf 1 = .ok (.getfield 24, 3) := by decide +kernel
theorem dX11_gramsToldOf_4 : decode cX11_gramsToldOf 4 = .ok (.getfield 266, 3) := by decide +kernel
theorem dX11_gramsToldOf_7 : decode cX11_gramsToldOf 7 = .ok (.aload_n 0, 1) := by decide +kernel
theorem dX11_gramsToldOf_8 : decode cX11_gramsToldOf 8 = .ok (.getfield 24, 3) := by decide +kernel
theorem dX11_gramsToldOf_11 : decode cX11_gramsToldOf 11 = .ok (.getfield 229, 3) := by decide +kernel
theorem dX11_gramsToldOf_14 : decode cX11_gramsToldOf 14 = .ok (.iadd, 1) := by decide +kernel
theorem dX11_gramsToldOf_15 : decode cX11_gramsToldOf 15 = .ok (.aload_n 0, 1) := by decide +kernel
theorem dX11_gramsToldOf_16 : decode cX11_gramsToldOf 16 = .ok (.getfield 24, 3) := by decide +kernel
theorem dX11_gramsToldOf_19 : decode cX11_gramsToldOf 19 = .ok (.invokevirtual 364, 3) := by decide +kernel
theorem dX11_gramsToldOf_22 : decode cX11_gramsToldOf 22 = .ok (.iadd, 1) := by decide +kernel
theorem dX11_gramsToldOf_23 : decode cX11_gramsToldOf 23 = .ok (.aload_n 0, 1) := by decide +kernel
theorem dX11_gramsToldOf_24 : decode cX11_gramsToldOf 24 = .ok (.getfield 36, 3) := by decide +kernel
theorem dX11_gramsToldOf_27 : decode cX11_gramsToldOf 27 = .ok (.iconst 0, 1) := by decide +kernel
theorem dX11_gramsToldOf_28 : decode cX11_gramsToldOf 28 = .ok (.invokevirtual 367, 3) := by decide +kernel
theorem dX11_gramsToldOf_31 : decode cX11_gramsToldOf 31 = .ok (.iadd, 1) := by decide +kernel
theorem dX11_gramsToldOf_32 : decode cX11_gramsToldOf 32 = .ok (.aload_n 0, 1) := by decide +kernel
theorem dX11_gramsToldOf_33 : decode cX11_gramsToldOf 33 = .ok (.getfield 36, 3) := by decide +kernel
theorem dX11_gramsToldOf_36 : decode cX11_gramsToldOf 36 = .ok (.iconst 1, 1) := by decide +kernel
theorem dX11_gramsToldOf_37 : decode cX11_gramsToldOf 37 = .ok (.invokevirtual 367, 3) := by decide +kernel
theorem dX11_gramsToldOf_40 : decode cX11_gramsToldOf 40 = .ok (.iadd, 1) := by decide +kernel
theorem dX11_gramsToldOf_41 : decode cX11_gramsToldOf 41 = .ok (.aload_n 0, 1) := by decide +kernel
theorem dX11_gramsToldOf_42 : decode cX11_gramsToldOf 42 = .ok (.getfield 36, 3) := by decide +kernel
theorem dX11_gramsToldOf_45 : decode cX11_gramsToldOf 45 = .ok (.iconst 2, 1) := by decide +kernel
theorem dX11_gramsToldOf_46 : decode cX11_gramsToldOf 46 = .ok (.invokevirtual 367, 3) := by decide +kernel
theorem dX11_gramsToldOf_49 : decode cX11_gramsToldOf 49 = .ok (.iadd, 1) := by decide +kernel
theorem dX11_gramsToldOf_50 : decode cX11_gramsToldOf 50 = .ok (.aload_n 0, 1) := by decide +kernel
theorem dX11_gramsToldOf_51 : decode cX11_gramsToldOf 51 = .ok (.invokevirtual 370, 3) := by decide +kernel
theorem dX11_gramsToldOf_54 : decode cX11_gramsToldOf 54 = .ok (.iadd, 1) := by decide +kernel
theorem dX11_gramsToldOf_55 : decode cX11_gramsToldOf 55 = .ok (.ireturn, 1) := by decide +kernel
theorem dX11_lowestTerm_0 : decode cX11_lowestTerm 0 = .ok (.iload_n 1, 1) := by decide +kernel
theorem dX11_lowestTerm_1 : decode cX11_lowestTerm 1 = .ok (.istore_n 3, 1) := by decide +kernel
theorem dX11_lowestTerm_2 : decode cX11_lowestTerm 2 = .ok (.iload_n 0, 1) := by decide +kernel
theorem dX11_lowestTerm_3 : decode cX11_lowestTerm 3 = .ok (.istore 4, 2) := by decide +kernel
theorem dX11_lowestTerm_5 : decode cX11_lowestTerm 5 = .ok (.iconst 0, 1) := by decide +kernel
theorem dX11_lowestTerm_6 : decode cX11_lowestTerm 6 = .ok (.istore 5, 2) := by decide +kernel
theorem dX11_lowestTerm_8 : decode cX11_lowestTerm 8 = .ok (.iload 5, 2) := by decide +kernel
theorem dX11_lowestTerm_10 : decode cX11_lowestTerm 10 = .ok (.bipush 64, 2) := by decide +kernel
theorem dX11_lowestTerm_12 : decode cX11_lowestTerm 12 = .ok (.if_icmp .ge 27, 3) := by decide +kernel
theorem dX11_lowestTerm_15 : decode cX11_lowestTerm 15 = .ok (.iload 4, 2) := by decide +kernel
theorem dX11_lowestTerm_17 : decode cX11_lowestTerm 17 = .ok (.ifCond .eq 22, 3) := by decide +kernel
theorem dX11_lowestTerm_20 : decode cX11_lowestTerm 20 = .ok (.iload_n 3, 1) := by decide +kernel
theorem dX11_lowestTerm_21 : decode cX11_lowestTerm 21 = .ok (.iload 4, 2) := by decide +kernel
theorem dX11_lowestTerm_23 : decode cX11_lowestTerm 23 = .ok (.irem, 1) := by decide +kernel
theorem dX11_lowestTerm_24 : decode cX11_lowestTerm 24 = .ok (.istore 6, 2) := by decide +kernel
theorem dX11_lowestTerm_26 : decode cX11_lowestTerm 26 = .ok (.iload 4, 2) := by decide +kernel
theorem dX11_lowestTerm_28 : decode cX11_lowestTerm 28 = .ok (.istore_n 3, 1) := by decide +kernel
theorem dX11_lowestTerm_29 : decode cX11_lowestTerm 29 = .ok (.iload 6, 2) := by decide +kernel
theorem dX11_lowestTerm_31 : decode cX11_lowestTerm 31 = .ok (.istore 4, 2) := by decide +kernel
theorem dX11_lowestTerm_33 : decode cX11_lowestTerm 33 = .ok (.iinc 5 1, 3) := by decide +kernel
theorem dX11_lowestTerm_36 : decode cX11_lowestTerm 36 = .ok (.goto (-28), 3) := by decide +kernel
theorem dX11_lowestTerm_39 : decode cX11_lowestTerm 39 = .ok (.iload_n 3, 1) := by decide +kernel
theorem dX11_lowestTerm_40 : decode cX11_lowestTerm 40 = .ok (.ifCond .ne 5, 3) := by decide +kernel
theorem dX11_lowestTerm_43 : decode cX11_lowestTerm 43 = .ok (.iconst 0, 1) := by decide +kernel
theorem dX11_lowestTerm_44 : decode cX11_lowestTerm 44 = .ok (.ireturn, 1) := by decide +kernel
theorem dX11_lowestTerm_45 : decode cX11_lowestTerm 45 = .ok (.iload_n 2, 1) := by decide +kernel
theorem dX11_lowestTerm_46 : decode cX11_lowestTerm 46 = .ok (.ifCond .eq 7, 3) := by decide +kernel
theorem dX11_lowestTerm_49 : decode cX11_lowestTerm 49 = .ok (.iload_n 1, 1) := by decide +kernel
theorem dX11_lowestTerm_50 : decode cX11_lowestTerm 50 = .ok (.goto 4, 3) := by decide +kernel
theorem dX11_lowestTerm_53 : decode cX11_lowestTerm 53 = .ok (.iload_n 0, 1) := by decide +kernel
theorem dX11_lowestTerm_54 : decode cX11_lowestTerm 54 = .ok (.iload_n 3, 1) := by decide +kernel
theorem dX11_lowestTerm_55 : decode cX11_lowestTerm 55 = .ok (.idiv, 1) := by decide +kernel
theorem dX11_lowestTerm_56 : decode cX11_lowestTerm 56 = .ok (.ireturn, 1) := by decide +kernel
set_option maxRecDepth 20000 in
theorem ggX11_makeNextOrder_X11_swap : GoodIn wsX11_makeNextOrder wsX11_swap := goodIn_r _ [4] (by decide +kernel) (by decide +kernel)
set_option maxRecDepth 20000 in
theorem gX11_makeNextOrder_X11_swap : GoodIn wsX11_makeNextOrder (va_wsS RX11 432 yX11_swap wsX11_swap) := goodIn_app (goodIn_of _ (by decide +kernel)) ggX11_makeNextOrder_X11_swap
theorem dX11_makeNextOrder_0 : decode cX11_makeNextOrder 0 = .ok (.iload_n 1, 1) := by decide +kernel
theorem dX11_makeNextOrder_1 : decode cX11_makeNextOrder 1 = .ok (.iconst 2, 1) := by decide +kernel
theorem dX11_makeNextOrder_2 : decode cX11_makeNextOrder 2 = .ok (.isub, 1) := by decide +kernel
theorem dX11_makeNextOrder_3 : decode cX11_makeNextOrder 3 = .ok (.istore_n 2, 1) := by decide +kernel
theorem dX11_makeNextOrder_4 : decode cX11_makeNextOrder 4 = .ok (.iload_n 2, 1) := by decide +kernel
theorem dX11_makeNextOrder_5 : decode cX11_makeNextOrder 5 = .ok (.ifCond .lt 20, 3) := by decide +kernel
theorem dX11_makeNextOrder_8 : decode cX11_makeNextOrder 8 = .ok (.aload_n 0, 1) := by decide +kernel
theorem dX11_makeNextOrder_9 : decode cX11_makeNextOrder 9 = .ok (.iload_n 2, 1) := by decide +kernel
theorem dX11_makeNextOrder_10 : decode cX11_makeNextOrder 10 = .ok (.iaload, 1) := by decide +kernel
theorem dX11_makeNextOrder_11 : decode cX11_makeNextOrder 11 = .ok (.aload_n 0, 1) := by decide +kernel
theorem dX11_makeNextOrder_12 : decode cX11_makeNextOrder 12 = .ok (.iload_n 2, 1) := by decide +kernel
theorem dX11_makeNextOrder_13 : decode cX11_makeNextOrder 13 = .ok (.iconst 1, 1) := by decide +kernel
theorem dX11_makeNextOrder_14 : decode cX11_makeNextOrder 14 = .ok (.iadd, 1) := by decide +kernel
theorem dX11_makeNextOrder_15 : decode cX11_makeNextOrder 15 = .ok (.iaload, 1) := by decide +kernel
theorem dX11_makeNextOrder_16 : decode cX11_makeNextOrder 16 = .ok (.if_icmp .le 9, 3) := by decide +kernel
theorem dX11_makeNextOrder_19 : decode cX11_makeNextOrder 19 = .ok (.iinc 2 (-1), 3) := by decide +kernel
theorem dX11_makeNextOrder_22 : decode cX11_makeNextOrder 22 = .ok (.goto (-18), 3) := by decide +kernel
theorem dX11_makeNextOrder_25 : decode cX11_makeNextOrder 25 = .ok (.iload_n 2, 1) := by decide +kernel
theorem dX11_makeNextOrder_26 : decode cX11_makeNextOrder 26 = .ok (.ifCond .ge 5, 3) := by decide +kernel
theorem dX11_makeNextOrder_29 : decode cX11_makeNextOrder 29 = .ok (.iconst 0, 1) := by decide +kernel
theorem dX11_makeNextOrder_30 : decode cX11_makeNextOrder 30 = .ok (.ireturn, 1) := by decide +kernel
theorem dX11_makeNextOrder_31 : decode cX11_makeNextOrder 31 = .ok (.iload_n 1, 1) := by decide +kernel
theorem dX11_makeNextOrder_32 : decode cX11_makeNextOrder 32 = .ok (.iconst 1, 1) := by decide +kernel
theorem dX11_makeNextOrder_33 : decode cX11_makeNextOrder 33 = .ok (.isub, 1) := by decide +kernel
theorem dX11_makeNextOrder_34 : decode cX11_makeNextOrder 34 = .ok (.istore_n 3, 1) := by decide +kernel
theorem dX11_makeNextOrder_35 : decode cX11_makeNextOrder 35 = .ok (.iload_n 3, 1) := by decide +kernel
theorem dX11_makeNextOrder_36 : decode cX11_makeNextOrder 36 = .ok (.iload_n 2, 1) := by decide +kernel
theorem dX11_makeNextOrder_37 : decode cX11_makeNextOrder 37 = .ok (.if_icmp .le 18, 3) := by decide +kernel
theorem dX11_makeNextOrder_40 : decode cX11_makeNextOrder 40 = .ok (.aload_n 0, 1) := by decide +kernel
theorem dX11_makeNextOrder_41 : decode cX11_makeNextOrder 41 = .ok (.iload_n 3, 1) := by decide +kernel
theorem dX11_makeNextOrder_42 : decode cX11_makeNextOrder 42 = .ok (.iaload, 1) := by decide +kernel
theorem dX11_makeNextOrder_43 : decode cX11_makeNextOrder 43 = .ok (.aload_n 0, 1) := by decide +kernel
theorem dX11_makeNextOrder_44 : decode cX11_makeNextOrder 44 = .ok (.iload_n 2, 1) := by decide +kernel
theorem dX11_makeNextOrder_45 : decode cX11_makeNextOrder 45 = .ok (.iaload, 1) := by decide +kernel
theorem dX11_makeNextOrder_46 : decode cX11_makeNextOrder 46 = .ok (.if_icmp .ge 9, 3) := by decide +kernel
theorem dX11_makeNextOrder_49 : decode cX11_makeNextOrder 49 = .ok (.iinc 3 (-1), 3) := by decide +kernel
theorem dX11_makeNextOrder_52 : decode cX11_makeNextOrder 52 = .ok (.goto (-17), 3) := by decide +kernel
theorem dX11_makeNextOrder_55 : decode cX11_makeNextOrder 55 = .ok (.aload_n 0, 1) := by decide +kernel
theorem dX11_makeNextOrder_56 : decode cX11_makeNextOrder 56 = .ok (.iload_n 2, 1) := by decide +kernel
theorem dX11_makeNextOrder_57 : decode cX11_makeNextOrder 57 = .ok (.iload_n 3, 1) := by decide +kernel
theorem dX11_makeNextOrder_58 : decode cX11_makeNextOrder 58 = .ok (.invokestatic 432, 3) := by decide +kernel
theorem dX11_makeNextOrder_61 : decode cX11_makeNextOrder 61 = .ok (.iload_n 2, 1) := by decide +kernel
theorem dX11_makeNextOrder_62 : decode cX11_makeNextOrder 62 = .ok (.iconst 1, 1) := by decide +kernel
theorem dX11_makeNextOrder_63 : decode cX11_makeNextOrder 63 = .ok (.iadd, 1) := by decide +kernel
theorem dX11_makeNextOrder_64 : decode cX11_makeNextOrder 64 = .ok (.istore 4, 2) := by decide +kernel
theorem dX11_makeNextOrder_66 : decode cX11_makeNextOrder 66 = .ok (.iload_n 1, 1) := by decide +kernel
theorem dX11_makeNextOrder_67 : decode cX11_makeNextOrder 67 = .ok (.iconst 1, 1) := by decide +kernel
theorem dX11_makeNextOrder_68 : decode cX11_makeNextOrder 68 = .ok (.isub, 1) := by decide +kernel
theorem dX11_makeNextOrder_69 : decode cX11_makeNextOrder 69 = .ok (.istore 5, 2) := by decide +kernel
theorem dX11_makeNextOrder_71 : decode cX11_makeNextOrder 71 = .ok (.iload 4, 2) := by decide +kernel
theorem dX11_makeNextOrder_73 : decode cX11_makeNextOrder 73 = .ok (.iload 5, 2) := by decide +kernel
theorem dX11_makeNextOrder_75 : decode cX11_makeNextOrder 75 = .ok (.if_icmp .ge 20, 3) := by decide +kernel
theorem dX11_makeNextOrder_78 : decode cX11_makeNextOrder 78 = .ok (.aload_n 0, 1) := by decide +kernel
theorem dX11_makeNextOrder_79 : decode cX11_makeNextOrder 79 = .ok (.iload 4, 2) := by decide +kernel
theorem dX11_makeNextOrder_81 : decode cX11_makeNextOrder 81 = .ok (.iload 5, 2) := by decide +kernel
theorem dX11_makeNextOrder_83 : decode cX11_makeNextOrder 83 = .ok (.invokestatic 432, 3) := by decide +kernel
theorem dX11_makeNextOrder_86 : decode cX11_makeNextOrder 86 = .ok (.iinc 4 1, 3) := by decide +kernel
theorem dX11_makeNextOrder_89 : decode cX11_makeNextOrder 89 = .ok (.iinc 5 (-1), 3) := by decide +kernel
theorem dX11_makeNextOrder_92 : decode cX11_makeNextOrder 92 = .ok (.goto (-21), 3) := by decide +kernel
theorem dX11_makeNextOrder_95 : decode cX11_makeNextOrder 95 = .ok (.iconst 1, 1) := by decide +kernel
theorem dX11_makeNextOrder_96 : decode cX11_makeNextOrder 96 = .ok (.ireturn, 1) := by decide +kernel
theorem dX11_swap_0 : decode cX11_swap 0 = .ok (.aload_n 0, 1) := by decide +kernel
theorem dX11_swap_1 : decode cX11_swap 1 = .ok (.iload_n 1, 1) := by decide +kernel
theorem dX11_swap_2 : decode cX11_swap 2 = .ok (.iaload, 1) := by decide +kernel
theorem dX11_swap_3 : decode cX11_swap 3 = .ok (.istore_n 3, 1) := by decide +kernel
theorem dX11_swap_4 : decode cX11_swap 4 = .ok (.aload_n 0, 1) := by decide +kernel
theorem dX11_swap_5 : decode cX11_swap 5 = .ok (.iload_n 1, 1) := by decide +kernel
theorem dX11_swap_6 : decode cX11_swap 6 = .ok (.aload_n 0, 1) := by decide +kernel
theorem dX11_swap_7 : decode cX11_swap 7 = .ok (.iload_n 2, 1) := by decide +kernel
theorem dX11_swap_8 : decode cX11_swap 8 = .ok (.iaload, 1) := by decide +kernel
theorem dX11_swap_9 : decode cX11_swap 9 = .ok (.iastore, 1) := by decide +kernel
theorem dX11_swap_10 : decode cX11_swap 10 = .ok (.aload_n 0, 1) := by decide +kernel
theorem dX11_swap_11 : decode cX11_swap 11 = .ok (.iload_n 2, 1) := by decide +kernel
theorem dX11_swap_12 : decode cX11_swap 12 = .ok (.iload_n 3, 1) := by decide +kernel
theorem dX11_swap_13 : decode cX11_swap 13 = .ok (.iastore, 1) := by decide +kernel
theorem dX11_swap_14 : decode cX11_swap 14 = .ok (.return_, 1) := by decide +kernel
set_option maxRecDepth 20000 in
theorem ggX11_remember_X10_save : GoodIn wsX11_remember wsX10_save := goodIn_r _ [16, 17, 18, 19, 20, 21, 22, 23, 24, 98, 99, 100, 101] (by decide +kernel) (by decide +kernel)
set_option maxRecDepth 20000 in
theorem gX11_remember_X10_save : GoodIn wsX11_remember (wsV RX11 436 RX10 yX10_save wsX10_save) := goodIn_app (goodIn_of _ (by decide +kernel)) ggX11_remember_X10_save
set_option maxRecDepth 20000 in
theorem ggX11_remember_X8_save : GoodIn wsX11_remember wsX8_save := goodIn_r _ [29, 30, 31, 32, 19, 20, 21, 33, 102, 103, 104, 105, 106, 107, 108, 109] (by decide +kernel) (by decide +kernel)
set_option maxRecDepth 20000 in
theorem gX11_remember_X8_save : GoodIn wsX11_remember (wsV RX11 440 RX8 yX8_save wsX8_save) := goodIn_app (goodIn_of _ (by decide +kernel)) ggX11_remember_X8_save
set_option maxRecDepth 20000 in
theorem ggX11_remember_X2_save : GoodIn wsX11_remember wsX2_save := goodIn_r _ [38, 39, 40, 41, 19, 20, 21, 42, 43, 44, 110, 111, 112, 113, 114, 115, 116, 117] (by decide +kernel) (by decide +kernel)
set_option maxRecDepth 20000 in
theorem gX11_remember_X2_save : GoodIn wsX11_remember (wsV RX11 441 RX2 yX2_save wsX2_save) := goodIn_app (goodIn_of _ (by decide +kernel)) ggX11_remember_X2_save
set_option maxRecDepth 20000 in
theorem ggX11_remember_X5_save : GoodIn wsX11_remember wsX5_save := goodIn_r _ [49, 50, 51, 52, 53, 54, 118, 119, 120, 121, 122] (by decide +kernel) (by decide +kernel)
set_option maxRecDepth 20000 in
theorem gX11_remember_X5_save : GoodIn wsX11_remember (wsV RX11 442 RX5 yX5_save wsX5_save) := goodIn_app (goodIn_of _ (by decide +kernel)) ggX11_remember_X5_save
set_option maxRecDepth 20000 in
theorem ggX11_remember_X0_save : GoodIn wsX11_remember wsX0_save := goodIn_r _ [59, 60, 61, 19, 20, 21, 123] (by decide +kernel) (by decide +kernel)
set_option maxRecDepth 20000 in
theorem gX11_remember_X0_save : GoodIn wsX11_remember (wsV RX11 443 RX0 yX0_save wsX0_save) := goodIn_app (goodIn_of _ (by decide +kernel)) ggX11_remember_X0_save
set_option maxRecDepth 20000 in
theorem ggX11_remember_X3_save : GoodIn wsX11_remember wsX3_save := goodIn_r _ [66, 67, 68, 19, 20, 21, 69, 70, 124, 125, 126, 127, 128, 129, 130] (by decide +kernel) (by decide +kernel)
set_option maxRecDepth 20000 in
theorem gX11_remember_X3_save : GoodIn wsX11_remember (wsV RX11 444 RX3 yX3_save wsX3_save) := goodIn_app (goodIn_of _ (by decide +kernel)) ggX11_remember_X3_save
set_option maxRecDepth 20000 in
theorem ggX11_remember_X4_save : GoodIn wsX11_remember wsX4_save := goodIn_r _ [75, 76, 77, 19, 20, 21, 131, 132] (by decide +kernel) (by decide +kernel)
set_option maxRecDepth 20000 in
theorem gX11_remember_X4_save : GoodIn wsX11_remember (wsV RX11 445 RX4 yX4_save wsX4_save) := goodIn_app (goodIn_of _ (by decide +kernel)) ggX11_remember_X4_save
set_option maxRecDepth 20000 in
theorem ggX11_remember_X1_save : GoodIn wsX11_remember wsX1_save := goodIn_r _ [82, 83, 133, 134, 135, 136, 137, 138, 139, 140, 141] (by decide +kernel) (by decide +kernel)
set_option maxRecDepth 20000 in
theorem gX11_remember_X1_save : GoodIn wsX11_remember (wsV RX11 446 RX1 yX1_save wsX1_save) := goodIn_app (goodIn_of _ (by decide +kernel)) ggX11_remember_X1_save
theorem dX11_remember_0 : decode cX11_remember 0 = .ok (.aload_n 0, 1) := by decide +kernel
theorem dX11_remember_1 : decode cX11_remember 1 = .ok (.getfield 384, 3) := by decide +kernel
theorem dX11_remember_4 : decode cX11_remember 4 = .ok (.aload_n 0, 1) := by decide +kernel
theorem dX11_remember_5 : decode cX11_remember 5 = .ok (.getfield 381, 3) := by decide +kernel
theorem dX11_remember_8 : decode cX11_remember 8 = .ok (.iadd, 1) := by decide +kernel
theorem dX11_remember_9 : decode cX11_remember 9 = .ok (.bipush 8, 2) := by decide +kernel
theorem dX11_remember_11 : decode cX11_remember 11 = .ok (.irem, 1) := by decide +kernel
theorem dX11_remember_12 : decode cX11_remember 12 = .ok (.sipush 195, 3) := by decide +kernel
theorem dX11_remember_15 : decode cX11_remember 15 = .ok (.imul, 1) := by decide +kernel
theorem dX11_remember_16 : decode cX11_remember 16 = .ok (.istore_n 1, 1) := by decide +kernel
theorem dX11_remember_17 : decode cX11_remember 17 = .ok (.aload_n 0, 1) := by decide +kernel
theorem dX11_remember_18 : decode cX11_remember 18 = .ok (.getfield 381, 3) := by decide +kernel
theorem dX11_remember_21 : decode cX11_remember 21 = .ok (.bipush 8, 2) := by decide +kernel
theorem dX11_remember_23 : decode cX11_remember 23 = .ok (.if_icmp .ge 16, 3) := by decide +kernel
theorem dX11_remember_26 : decode cX11_remember 26 = .ok (.aload_n 0, 1) := by decide +kernel
theorem dX11_remember_27 : decode cX11_remember 27 = .ok (.dup, 1) := by decide +kernel
theorem dX11_remember_28 : decode cX11_remember 28 = .ok (.getfield 381, 3) := by decide +kernel
theorem dX11_remember_31 : decode cX11_remember 31 = .ok (.iconst 1, 1) := by decide +kernel
theorem dX11_remember_32 : decode cX11_remember 32 = .ok (.iadd, 1) := by decide +kernel
theorem dX11_remember_33 : decode cX11_remember 33 = .ok (.putfield 381, 3) := by decide +kernel
theorem dX11_remember_36 : decode cX11_remember 36 = .ok (.goto 16, 3) := by decide +kernel
theorem dX11_remember_39 : decode cX11_remember 39 = .ok (.aload_n 0, 1) := by decide +kernel
theorem dX11_remember_40 : decode cX11_remember 40 = .ok (.aload_n 0, 1) := by decide +kernel
theorem dX11_remember_41 : decode cX11_remember 41 = .ok (.getfield 384, 3) := by decide +kernel
theorem dX11_remember_44 : decode cX11_remember 44 = .ok (.iconst 1, 1) := by decide +kernel
theorem dX11_remember_45 : decode cX11_remember 45 = .ok (.iadd, 1) := by decide +kernel
theorem dX11_remember_46 : decode cX11_remember 46 = .ok (.bipush 8, 2) := by decide +kernel
theorem dX11_remember_48 : decode cX11_remember 48 = .ok (.irem, 1) := by decide +kernel
theorem dX11_remember_49 : decode cX11_remember 49 = .ok (.putfield 384, 3) := by decide +kernel
theorem dX11_remember_52 : decode cX11_remember 52 = .ok (.aload_n 0, 1) := by decide +kernel
theorem dX11_remember_53 : decode cX11_remember 53 = .ok (.getfield 24, 3) := by decide +kernel
theorem dX11_remember_56 : decode cX11_remember 56 = .ok (.aload_n 0, 1) := by decide +kernel
theorem dX11_remember_57 : decode cX11_remember 57 = .ok (.getfield 90, 3) := by decide +kernel
theorem dX11_remember_60 : decode cX11_remember 60 = .ok (.iload_n 1, 1) := by decide +kernel
theorem dX11_remember_61 : decode cX11_remember 61 = .ok (.invokevirtual 436, 3) := by decide +kernel
theorem dX11_remember_64 : decode cX11_remember 64 = .ok (.istore_n 1, 1) := by decide +kernel
theorem dX11_remember_65 : decode cX11_remember 65 = .ok (.aload_n 0, 1) := by decide +kernel
theorem dX11_remember_66 : decode cX11_remember 66 = .ok (.getfield 31, 3) := by decide +kernel
theorem dX11_remember_69 : decode cX11_remember 69 = .ok (.aload_n 0, 1) := by decide +kernel
theorem dX11_remember_70 : decode cX11_remember 70 = .ok (.getfield 90, 3) := by decide +kernel
theorem dX11_remember_73 : decode cX11_remember 73 = .ok (.iload_n 1, 1) := by decide +kernel
theorem dX11_remember_74 : decode cX11_remember 74 = .ok (.invokevirtual 440, 3) := by decide +kernel
theorem dX11_remember_77 : decode cX11_remember 77 = .ok (.istore_n 1, 1) := by decide +kernel
theorem dX11_remember_78 : decode cX11_remember 78 = .ok (.aload_n 0, 1) := by decide +kernel
theorem dX11_remember_79 : decode cX11_remember 79 = .ok (.getfield 36, 3) := by decide +kernel
theorem dX11_remember_82 : decode cX11_remember 82 = .ok (.aload_n 0, 1) := by decide +kernel
theorem dX11_remember_83 : decode cX11_remember 83 = .ok (.getfield 90, 3) := by decide +kernel
theorem dX11_remember_86 : decode cX11_remember 86 = .ok (.iload_n 1, 1) := by decide +kernel
theorem dX11_remember_87 : decode cX11_remember 87 = .ok (.invokevirtual 441, 3) := by decide +kernel
theorem dX11_remember_90 : decode cX11_remember 90 = .ok (.istore_n 1, 1) := by decide +kernel
theorem dX11_remember_91 : decode cX11_remember 91 = .ok (.aload_n 0, 1) := by decide +kernel
theorem dX11_remember_92 : decode cX11_remember 92 = .ok (.getfield 41, 3) := by decide +kernel
theorem dX11_remember_95 : decode cX11_remember 95 = .ok (.aload_n 0, 1) := by decide +kernel
theorem dX11_remember_96 : decode cX11_remember 96 = .ok (.getfield 90, 3) := by decide +kernel
theorem dX11_remember_99 : decode cX11_remember 99 = .ok (.iload_n 1, 1) := by decide +kernel
theorem dX11_remember_100 : decode cX11_remember 100 = .ok (.invokevirtual 442, 3) := by decide +kernel
theorem dX11_remember_103 : decode cX11_remember 103 = .ok (.istore_n 1, 1) := by decide +kernel
theorem dX11_remember_104 : decode cX11_remember 104 = .ok (.aload_n 0, 1) := by decide +kernel
theorem dX11_remember_105 : decode cX11_remember 105 = .ok (.getfield 55, 3) := by decide +kernel
theorem dX11_remember_108 : decode cX11_remember 108 = .ok (.aload_n 0, 1) := by decide +kernel
theorem dX11_remember_109 : decode cX11_remember 109 = .ok (.getfield 90, 3) := by decide +kernel
theorem dX11_remember_112 : decode cX11_remember 112 = .ok (.iload_n 1, 1) := by decide +kernel
theorem dX11_remember_113 : decode cX11_remember 113 = .ok (.invokevirtual 443, 3) := by decide +kernel
theorem dX11_remember_116 : decode cX11_remember 116 = .ok (.istore_n 1, 1) := by decide +kernel
theorem dX11_remember_117 : decode cX11_remember 117 = .ok (.aload_n 0, 1) := by decide +kernel
theorem dX11_remember_118 : decode cX11_remember 118 = .ok (.getfield 60, 3) := by decide +kernel
theorem dX11_remember_121 : decode cX11_remember 121 = .ok (.aload_n 0, 1) := by decide +kernel
theorem dX11_remember_122 : decode cX11_remember 122 = .ok (.getfield 90, 3) := by decide +kernel
theorem dX11_remember_125 : decode cX11_remember 125 = .ok (.iload_n 1, 1) := by decide +kernel
theorem dX11_remember_126 : decode cX11_remember 126 = .ok (.invokevirtual 444, 3) := by decide +kernel
theorem dX11_remember_129 : decode cX11_remember 129 = .ok (.istore_n 1, 1) := by decide +kernel
theorem dX11_remember_130 : decode cX11_remember 130 = .ok (.aload_n 0, 1) := by decide +kernel
theorem dX11_remember_131 : decode cX11_remember 131 = .ok (.getfield 65, 3) := by decide +kernel
theorem dX11_remember_134 : decode cX11_remember 134 = .ok (.aload_n 0, 1) := by decide +kernel
theorem dX11_remember_135 : decode cX11_remember 135 = .ok (.getfield 90, 3) := by decide +kernel
theorem dX11_remember_138 : decode cX11_remember 138 = .ok (.iload_n 1, 1) := by decide +kernel
theorem dX11_remember_139 : decode cX11_remember 139 = .ok (.invokevirtual 445, 3) := by decide +kernel
theorem dX11_remember_142 : decode cX11_remember 142 = .ok (.istore_n 1, 1) := by decide +kernel
theorem dX11_remember_143 : decode cX11_remember 143 = .ok (.aload_n 0, 1) := by decide +kernel
theorem dX11_remember_144 : decode cX11_remember 144 = .ok (.getfield 70, 3) := by decide +kernel
theorem dX11_remember_147 : decode cX11_remember 147 = .ok (.aload_n 0, 1) := by decide +kernel
theorem dX11_remember_148 : decode cX11_remember 148 = .ok (.getfield 90, 3) := by decide +kernel
theorem dX11_remember_151 : decode cX11_remember 151 = .ok (.iload_n 1, 1) := by decide +kernel
theorem dX11_remember_152 : decode cX11_remember 152 = .ok (.invokevirtual 446, 3) := by decide +kernel
theorem dX11_remember_155 : decode cX11_remember 155 = .ok (.pop, 1) := by decide +kernel
theorem dX11_remember_156 : decode cX11_remember 156 = .ok (.return_, 1) := by decide +kernel
set_option maxRecDepth 20000 in
theorem ggX11_bringBack_X10_load : GoodIn wsX11_bringBack wsX10_load := goodIn_r _ [14, 15, 16, 17, 18, 19, 20, 21, 22, 96, 97, 98, 99] (by decide +kernel) (by decide +kernel)
set_option maxRecDepth 20000 in
theorem gX11_bringBack_X10_load : GoodIn wsX11_bringBack (wsV RX11 447 RX10 yX10_load wsX10_load) := goodIn_app (goodIn_of _ (by decide +kernel)) ggX11_bringBack_X10_load
set_option maxRecDepth 20000 in
theorem ggX11_bringBack_X8_load : GoodIn wsX11_bringBack wsX8_load := goodIn_r _ [27, 28, 29, 30, 17, 18, 19, 31, 100, 101, 102, 103, 104, 105, 106, 107] (by decide +kernel) (by decide +kernel)
set_option maxRecDepth 20000 in
theorem gX11_bringBack_X8_load : GoodIn wsX11_bringBack (wsV RX11 450 RX8 yX8_load wsX8_load) := goodIn_app (goodIn_of _ (by decide +kernel)) ggX11_bringBack_X8_load
set_option maxRecDepth 20000 in
theorem ggX11_bringBack_X2_load : GoodIn wsX11_bringBack wsX2_load := goodIn_r _ [36, 37, 38, 39, 17, 18, 19, 40, 41, 42, 108, 109, 110, 111, 112, 113, 114, 115] (by decide +kernel) (by decide +kernel)
set_option maxRecDepth 20000 in
theorem gX11_bringBack_X2_load : GoodIn wsX11_bringBack (wsV RX11 451 RX2 yX2_load wsX2_load) := goodIn_app (goodIn_of _ (by decide +kernel)) ggX11_bringBack_X2_load
set_option maxRecDepth 20000 in
theorem ggX11_bringBack_X5_load : GoodIn wsX11_bringBack wsX5_load := goodIn_r _ [47, 48, 49, 50, 51, 52, 116, 117, 118, 119, 120] (by decide +kernel) (by decide +kernel)
set_option maxRecDepth 20000 in
theorem gX11_bringBack_X5_load : GoodIn wsX11_bringBack (wsV RX11 452 RX5 yX5_load wsX5_load) := goodIn_app (goodIn_of _ (by decide +kernel)) ggX11_bringBack_X5_load
set_option maxRecDepth 20000 in
theorem ggX11_bringBack_X0_load : GoodIn wsX11_bringBack wsX0_load := goodIn_r _ [57, 58, 59, 17, 18, 19, 121] (by decide +kernel) (by decide +kernel)
set_option maxRecDepth 20000 in
theorem gX11_bringBack_X0_load : GoodIn wsX11_bringBack (wsV RX11 453 RX0 yX0_load wsX0_load) := goodIn_app (goodIn_of _ (by decide +kernel)) ggX11_bringBack_X0_load
set_option maxRecDepth 20000 in
theorem ggX11_bringBack_X3_load : GoodIn wsX11_bringBack wsX3_load := goodIn_r _ [64, 65, 66, 17, 18, 19, 67, 68, 122, 123, 124, 125, 126, 127, 128] (by decide +kernel) (by decide +kernel)
set_option maxRecDepth 20000 in
theorem gX11_bringBack_X3_load : GoodIn wsX11_bringBack (wsV RX11 454 RX3 yX3_load wsX3_load) := goodIn_app (goodIn_of _ (by decide +kernel)) ggX11_bringBack_X3_load
set_option maxRecDepth 20000 in
theorem ggX11_bringBack_X4_load : GoodIn wsX11_bringBack wsX4_load := goodIn_r _ [73, 74, 75, 17, 18, 19, 129, 130] (by decide +kernel) (by decide +kernel)
set_option maxRecDepth 20000 in
theorem gX11_bringBack_X4_load : GoodIn wsX11_bringBack (wsV RX11 455 RX4 yX4_load wsX4_load) := goodIn_app (goodIn_of _ (by decide +kernel)) ggX11_bringBack_X4_load
set_option maxRecDepth 20000 in
theorem ggX11_bringBack_X1_load : GoodIn wsX11_bringBack wsX1_load := goodIn_r _ [80, 81, 131, 132, 133, 134, 135, 136, 137, 138, 139] (by decide +kernel) (by decide +kernel)
set_option maxRecDepth 20000 in
theorem gX11_bringBack_X1_load : GoodIn wsX11_bringBack (wsV RX11 456 RX1 yX1_load wsX1_load) := goodIn_app (goodIn_of _ (by decide +kernel)) ggX11_bringBack_X1_load
theorem dX11_bringBack_0 : decode cX11_bringBack 0 = .ok (.iload_n 1, 1) := by decide +kernel
theorem dX11_bringBack_1 : decode cX11_bringBack 1 = .ok (.istore_n 2, 1) := by decide +kernel
theorem dX11_bringBack_2 : decode cX11_bringBack 2 = .ok (.aload_n 0, 1) := by decide +kernel
theorem dX11_bringBack_3 : decode cX11_bringBack 3 = .ok (.getfield 24, 3) := by decide +kernel
theorem dX11_bringBack_6 : decode cX11_bringBack 6 = .ok (.aload_n 0, 1) := by decide +kernel
theorem dX11_bringBack_7 : decode cX11_bringBack 7 = .ok (.getfield 90, 3) := by decide +kernel
theorem dX11_bringBack_10 : decode cX11_bringBack 10 = .ok (.iload_n 2, 1) := by decide +kernel
theorem dX11_bringBack_11 : decode cX11_bringBack 11 = .ok (.invokevirtual 447, 3) := by decide +kernel
theorem dX11_bringBack_14 : decode cX11_bringBack 14 = .ok (.istore_n 2, 1) := by decide +kernel
theorem dX11_bringBack_15 : decode cX11_bringBack 15 = .ok (.aload_n 0, 1) := by decide +kernel
theorem dX11_bringBack_16 : decode cX11_bringBack 16 = .ok (.getfield 31, 3) := by decide +kernel
theorem dX11_bringBack_19 : decode cX11_bringBack 19 = .ok (.aload_n 0, 1) := by decide +kernel
theorem dX11_bringBack_20 : decode cX11_bringBack 20 = .ok (.getfield 90, 3) := by decide +kernel
theorem dX11_bringBack_23 : decode cX11_bringBack 23 = .ok (.iload_n 2, 1) := by decide +kernel
theorem dX11_bringBack_24 : decode cX11_bringBack 24 = .ok (.invokevirtual 450, 3) := by decide +kernel
theorem dX11_bringBack_27 : decode cX11_bringBack 27 = .ok (.istore_n 2, 1) := by decide +kernel
theorem dX11_bringBack_28 : decode cX11_bringBack 28 = .ok (.aload_n 0, 1) := by decide +kernel
theorem dX11_bringBack_29 : decode cX11_bringBack 29 = .ok (.getfield 36, 3) := by decide +kernel
theorem dX11_bringBack_32 : decode cX11_bringBack 32 = .ok (.aload_n 0, 1) := by decide +kernel
theorem dX11_bringBack_33 : decode cX11_bringBack 33 = .ok (.getfield 90, 3) := by decide +kernel
theorem dX11_bringBack_36 : decode cX11_bringBack 36 = .ok (.iload_n 2, 1) := by decide +kernel
theorem dX11_bringBack_37 : decode cX11_bringBack 37 = .ok (.invokevirtual 451, 3) := by decide +kernel
theorem dX11_bringBack_40 : decode cX11_bringBack 40 = .ok (.istore_n 2, 1) := by decide +kernel
theorem dX11_bringBack_41 : decode cX11_bringBack 41 = .ok (.aload_n 0, 1) := by decide +kernel
theorem dX11_bringBack_42 : decode cX11_bringBack 42 = .ok (.getfield 41, 3) := by decide +kernel
theorem dX11_bringBack_45 : decode cX11_bringBack 45 = .ok (.aload_n 0, 1) := by decide +kernel
theorem dX11_bringBack_46 : decode cX11_bringBack 46 = .ok (.getfield 90, 3) := by decide +kernel
theorem dX11_bringBack_49 : decode cX11_bringBack 49 = .ok (.iload_n 2, 1) := by decide +kernel
theorem dX11_bringBack_50 : decode cX11_bringBack 50 = .ok (.invokevirtual 452, 3) := by decide +kernel
theorem dX11_bringBack_53 : decode cX11_bringBack 53 = .ok (.istore_n 2, 1) := by decide +kernel
theorem dX11_bringBack_54 : decode cX11_bringBack 54 = .ok (.aload_n 0, 1) := by decide +kernel
theorem dX11_bringBack_55 : decode cX11_bringBack 55 = .ok (.getfield 55, 3) := by decide +kernel
theorem dX11_bringBack_58 : decode cX11_bringBack 58 = .ok (.aload_n 0, 1) := by decide +kernel
theorem dX11_bringBack_59 : decode cX11_bringBack 59 = .ok (.getfield 90, 3) := by decide +kernel
theorem dX11_bringBack_62 : decode cX11_bringBack 62 = .ok (.iload_n 2, 1) := by decide +kernel
theorem dX11_bringBack_63 : decode cX11_bringBack 63 = .ok (.invokevirtual 453, 3) := by decide +kernel
theorem dX11_bringBack_66 : decode cX11_bringBack 66 = .ok (.istore_n 2, 1) := by decide +kernel
theorem dX11_bringBack_67 : decode cX11_bringBack 67 = .ok (.aload_n 0, 1) := by decide +kernel
theorem dX11_bringBack_68 : decode cX11_bringBack 68 = .ok (.getfield 60, 3) := by decide +kernel
theorem dX11_bringBack_71 : decode cX11_bringBack 71 = .ok (.aload_n 0, 1) := by decide +kernel
theorem dX11_bringBack_72 : decode cX11_bringBack 72 = .ok (.getfield 90, 3) := by decide +kernel
theorem dX11_bringBack_75 : decode cX11_bringBack 75 = .ok (.iload_n 2, 1) := by decide +kernel
theorem dX11_bringBack_76 : decode cX11_bringBack 76 = .ok (.invokevirtual 454, 3) := by decide +kernel
theorem dX11_bringBack_79 : decode cX11_bringBack 79 = .ok (.istore_n 2, 1) := by decide +kernel
theorem dX11_bringBack_80 : decode cX11_bringBack 80 = .ok (.aload_n 0, 1) := by decide +kernel
theorem dX11_bringBack_81 : decode cX11_bringBack 81 = .ok (.getfield 65, 3) := by decide +kernel
theorem dX11_bringBack_84 : decode cX11_bringBack 84 = .ok (.aload_n 0, 1) := by decide +kernel
theorem dX11_bringBack_85 : decode cX11_bringBack 85 = .ok (.getfield 90, 3) := by decide +kernel
theorem dX11_bringBack_88 : decode cX11_bringBack 88 = .ok (.iload_n 2, 1) := by decide +kernel
theorem dX11_bringBack_89 : decode cX11_bringBack 89 = .ok (.invokevirtual 455, 3) := by decide +kernel
theorem dX11_bringBack_92 : decode cX11_bringBack 92 = .ok (.istore_n 2, 1) := by decide +kernel
theorem dX11_bringBack_93 : decode cX11_bringBack 93 = .ok (.aload_n 0, 1) := by decide +kernel
theorem dX11_bringBack_94 : decode cX11_bringBack 94 = .ok (.getfield 70, 3) := by decide +kernel
theorem dX11_bringBack_97 : decode cX11_bringBack 97 = .ok (.aload_n 0, 1) := by decide +kernel
theorem dX11_bringBack_98 : decode cX11_bringBack 98 = .ok (.getfield 90, 3) := by decide +kernel
theorem dX11_bringBack_101 : decode cX11_bringBack 101 = .ok (.iload_n 2, 1) := by decide +kernel
theorem dX11_bringBack_102 : decode cX11_bringBack 102 = .ok (.invokevirtual 456, 3) := by decide +kernel
theorem dX11_bringBack_105 : decode cX11_bringBack 105 = .ok (.pop, 1) := by decide +kernel
theorem dX11_bringBack_106 : decode cX11_bringBack 106 = .ok (.return_, 1) := by decide +kernel
