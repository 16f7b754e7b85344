theorem dX12_init_0 : decode cX12_init 0 = .ok (.aload_n 0, 1) := by decide +kernel
theorem dX12_init_1 : decode cX12_init 1 = .ok (.invokespecial 3, 3) := by decide +kernel
theorem dX12_init_4 : decode cX12_init 4 = .ok (.aload_n 0, 1) := by decide +kernel
theorem dX12_init_5 : decode cX12_init 5 = .ok (.sipush 680, 3) := by decide +kernel
theorem dX12_init_8 : decode cX12_init 8 = .ok (.newarray .int, 2) := by decide +kernel
theorem dX12_init_10 : decode cX12_init 10 = .ok (.putfield 9, 3) := by decide +kernel
theorem dX12_init_13 : decode cX12_init 13 = .ok (.aload_n 0, 1) := by decide +kernel
theorem dX12_init_14 : decode cX12_init 14 = .ok (.sipush 5440, 3) := by decide +kernel
theorem dX12_init_17 : decode cX12_init 17 = .ok (.newarray .int, 2) := by decide +kernel
theorem dX12_init_19 : decode cX12_init 19 = .ok (.putfield 13, 3) := by decide +kernel
theorem dX12_init_22 : decode cX12_init 22 = .ok (.aload_n 0, 1) := by decide +kernel
theorem dX12_init_23 : decode cX12_init 23 = .ok (.bipush 80, 2) := by decide +kernel
theorem dX12_init_25 : decode cX12_init 25 = .ok (.newarray .int, 2) := by decide +kernel
theorem dX12_init_27 : decode cX12_init 27 = .ok (.putfield 16, 3) := by decide +kernel
theorem dX12_init_30 : decode cX12_init 30 = .ok (.aload_n 0, 1) := by decide +kernel
theorem dX12_init_31 : decode cX12_init 31 = .ok (.bipush 8, 2) := by decide +kernel
theorem dX12_init_33 : decode cX12_init 33 = .ok (.newarray .int, 2) := by decide +kernel
theorem dX12_init_35 : decode cX12_init 35 = .ok (.putfield 19, 3) := by decide +kernel
theorem dX12_init_38 : decode cX12_init 38 = .ok (.aload_n 0, 1) := by decide +kernel
theorem dX12_init_39 : decode cX12_init 39 = .ok (.bipush 8, 2) := by decide +kernel
theorem dX12_init_41 : decode cX12_init 41 = .ok (.newarray .int, 2) := by decide +kernel
theorem dX12_init_43 : decode cX12_init 43 = .ok (.putfield 22, 3) := by decide +kernel
theorem dX12_init_46 : decode cX12_init 46 = .ok (.aload_n 0, 1) := by decide +kernel
theorem dX12_init_47 : decode cX12_init 47 = .ok (.bipush 20, 2) := by decide +kernel
theorem dX12_init_49 : decode cX12_init 49 = .ok (.newarray .int, 2) := by decide +kernel
theorem dX12_init_51 : decode cX12_init 51 = .ok (.putfield 25, 3) := by decide +kernel
theorem dX12_init_54 : decode cX12_init 54 = .ok (.aload_n 0, 1) := by decide +kernel
theorem dX12_init_55 : decode cX12_init 55 = .ok (.bipush 20, 2) := by decide +kernel
theorem dX12_init_57 : decode cX12_init 57 = .ok (.newarray .int, 2) := by decide +kernel
theorem dX12_init_59 : decode cX12_init 59 = .ok (.putfield 28, 3) := by decide +kernel
theorem dX12_init_62 : decode cX12_init 62 = .ok (.aload_n 0, 1) := by decide +kernel
theorem dX12_init_63 : decode cX12_init 63 = .ok (.bipush 20, 2) := by decide +kernel
theorem dX12_init_65 : decode cX12_init 65 = .ok (.newarray .int, 2) := by decide +kernel
theorem dX12_init_67 : decode cX12_init 67 = .ok (.putfield 31, 3) := by decide +kernel
theorem dX12_init_70 : decode cX12_init 70 = .ok (.aload_n 0, 1) := by decide +kernel
theorem dX12_init_71 : decode cX12_init 71 = .ok (.iconst 4, 1) := by decide +kernel
theorem dX12_init_72 : decode cX12_init 72 = .ok (.newarray .int, 2) := by decide +kernel
theorem dX12_init_74 : decode cX12_init 74 = .ok (.putfield 34, 3) := by decide +kernel
theorem dX12_init_77 : decode cX12_init 77 = .ok (.aload_n 0, 1) := by decide +kernel
theorem dX12_init_78 : decode cX12_init 78 = .ok (.iconst 4, 1) := by decide +kernel
theorem dX12_init_79 : decode cX12_init 79 = .ok (.newarray .int, 2) := by decide +kernel
theorem dX12_init_81 : decode cX12_init 81 = .ok (.putfield 37, 3) := by decide +kernel
theorem dX12_init_84 : decode cX12_init 84 = .ok (.aload_n 0, 1) := by decide +kernel
theorem dX12_init_85 : decode cX12_init 85 = .ok (.bipush 8, 2) := by decide +kernel
theorem dX12_init_87 : decode cX12_init 87 = .ok (.newarray .int, 2) := by decide +kernel
theorem dX12_init_89 : decode cX12_init 89 = .ok (.putfield 40, 3) := by decide +kernel
theorem dX12_init_92 : decode cX12_init 92 = .ok (.aload_n 0, 1) := by decide +kernel
theorem dX12_init_93 : decode cX12_init 93 = .ok (.bipush 8, 2) := by decide +kernel
theorem dX12_init_95 : decode cX12_init 95 = .ok (.newarray .int, 2) := by decide +kernel
theorem dX12_init_97 : decode cX12_init 97 = .ok (.putfield 43, 3) := by decide +kernel
theorem dX12_init_100 : decode cX12_init 100 = .ok (.aload_n 0, 1) := by decide +kernel
theorem dX12_init_101 : decode cX12_init 101 = .ok (.getfield 9, 3) := by decide +kernel
theorem dX12_init_104 : decode cX12_init 104 = .ok (.iconst 1, 1) := by decide +kernel
theorem dX12_init_105 : decode cX12_init 105 = .ok (.iconst 2, 1) := by decide +kernel
theorem dX12_init_106 : decode cX12_init 106 = .ok (.iastore, 1) := by decide +kernel
theorem dX12_init_107 : decode cX12_init 107 = .ok (.aload_n 0, 1) := by decide +kernel
theorem dX12_init_108 : decode cX12_init 108 = .ok (.getfield 9, 3) := by decide +kernel
theorem dX12_init_111 : decode cX12_init 111 = .ok (.iconst 2, 1) := by decide +kernel
theorem dX12_init_112 : decode cX12_init 112 = .ok (.bipush 20, 2) := by decide +kernel
theorem dX12_init_114 : decode cX12_init 114 = .ok (.iastore, 1) := by decide +kernel
theorem dX12_init_115 : decode cX12_init 115 = .ok (.aload_n 0, 1) := by decide +kernel
theorem dX12_init_116 : decode cX12_init 116 = .ok (.getfield 9, 3) := by decide +kernel
theorem dX12_init_119 : decode cX12_init 119 = .ok (.iconst 3, 1) := by decide +kernel
theorem dX12_init_120 : decode cX12_init 120 = .ok (.bipush 20, 2) := by decide +kernel
theorem dX12_init_122 : decode cX12_init 122 = .ok (.iastore, 1) := by decide +kernel
theorem dX12_init_123 : decode cX12_init 123 = .ok (.aload_n 0, 1) := by decide +kernel
theorem dX12_init_124 : decode cX12_init 124 = .ok (.getfield 9, 3) := by decide +kernel
theorem dX12_init_127 : decode cX12_init 127 = .ok (.iconst 4, 1) := by decide +kernel
theorem dX12_init_128 : decode cX12_init 128 = .ok (.iconst 2, 1) := by decide +kernel
theorem dX12_init_129 : decode cX12_init 129 = .ok (.iastore, 1) := by decide +kernel
theorem dX12_init_130 : decode cX12_init 130 = .ok (.iconst 0, 1) := by decide +kernel
theorem dX12_init_131 : decode cX12_init 131 = .ok (.istore_n 1, 1) := by decide +kernel
theorem dX12_init_132 : decode cX12_init 132 = .ok (.iload_n 1, 1) := by decide +kernel
theorem dX12_init_133 : decode cX12_init 133 = .ok (.iconst 4, 1) := by decide +kernel
theorem dX12_init_134 : decode cX12_init 134 = .ok (.if_icmp .ge 45, 3) := by decide +kernel
theorem dX12_init_137 : decode cX12_init 137 = .ok (.aload_n 0, 1) := by decide +kernel
theorem dX12_init_138 : decode cX12_init 138 = .ok (.getfield 9, 3) := by decide +kernel
theorem dX12_init_141 : decode cX12_init 141 = .ok (.sipush 247, 3) := by decide +kernel
theorem dX12_init_144 : decode cX12_init 144 = .ok (.iload_n 1, 1) := by decide +kernel
theorem dX12_init_145 : decode cX12_init 145 = .ok (.iadd, 1) := by decide +kernel
theorem dX12_init_146 : decode cX12_init 146 = .ok (.bipush 100, 2) := by decide +kernel
theorem dX12_init_148 : decode cX12_init 148 = .ok (.iastore, 1) := by decide +kernel
theorem dX12_init_149 : decode cX12_init 149 = .ok (.aload_n 0, 1) := by decide +kernel
theorem dX12_init_150 : decode cX12_init 150 = .ok (.getfield 9, 3) := by decide +kernel
theorem dX12_init_153 : decode cX12_init 153 = .ok (.sipush 251, 3) := by decide +kernel
theorem dX12_init_156 : decode cX12_init 156 = .ok (.iload_n 1, 1) := by decide +kernel
theorem dX12_init_157 : decode cX12_init 157 = .ok (.iadd, 1) := by decide +kernel
theorem dX12_init_158 : decode cX12_init 158 = .ok (.bipush 50, 2) := by decide +kernel
theorem dX12_init_160 : decode cX12_init 160 = .ok (.iastore, 1) := by decide +kernel
theorem dX12_init_161 : decode cX12_init 161 = .ok (.aload_n 0, 1) := by decide +kernel
theorem dX12_init_162 : decode cX12_init 162 = .ok (.getfield 9, 3) := by decide +kernel
theorem dX12_init_165 : decode cX12_init 165 = .ok (.sipush 255, 3) := by decide +kernel
theorem dX12_init_168 : decode cX12_init 168 = .ok (.iload_n 1, 1) := by decide +kernel
theorem dX12_init_169 : decode cX12_init 169 = .ok (.iadd, 1) := by decide +kernel
theorem dX12_init_170 : decode cX12_init 170 = .ok (.bipush 100, 2) := by decide +kernel
theorem dX12_init_172 : decode cX12_init 172 = .ok (.iastore, 1) := by decide +kernel
theorem dX12_init_173 : decode cX12_init 173 = .ok (.iinc 1 1, 3) := by decide +kernel
theorem dX12_init_176 : decode cX12_init 176 = .ok (.goto (-44), 3) := by decide +kernel
theorem dX12_init_179 : decode cX12_init 179 = .ok (.return_, 1) := by decide +kernel
theorem dX12_thrown_0 : decode cX12_thrown 0 = .ok (.aload_n 0, 1) := by decide +kernel
theorem dX12_thrown_1 : decode cX12_thrown 1 = .ok (.getfield 46, 3) := by decide +kernel
theorem dX12_thrown_4 : decode cX12_thrown 4 = .ok (.ireturn, 1) := by decide +kernel
theorem dX12_can_0 : decode cX12_can 0 = .ok (.aload_n 0, 1) := by decide +kernel
theorem dX12_can_1 : decode cX12_can 1 = .ok (.iload_n 1, 1) := by decide +kernel
theorem dX12_can_2 : decode cX12_can 2 = .ok (.ifCond .eq 7, 3) := by decide +kernel
theorem dX12_can_5 : decode cX12_can 5 = .ok (.iconst 0, 1) := by decide +kernel
theorem dX12_can_6 : decode cX12_can 6 = .ok (.goto 4, 3) := by decide +kernel
theorem dX12_can_9 : decode cX12_can 9 = .ok (.iload_n 2, 1) := by decide +kernel
theorem dX12_can_10 : decode cX12_can 10 = .ok (.putfield 46, 3) := by decide +kernel
theorem dX12_can_13 : decode cX12_can 13 = .ok (.iload_n 1, 1) := by decide +kernel
theorem dX12_can_14 : decode cX12_can 14 = .ok (.ireturn, 1) := by decide +kernel
theorem dX12_in_0 : decode cX12_in 0 = .ok (.iload_n 0, 1) := by decide +kernel
theorem dX12_in_1 : decode cX12_in 1 = .ok (.iload_n 1, 1) := by decide +kernel
theorem dX12_in_2 : decode cX12_in 2 = .ok (.if_icmp .lt 12, 3) := by decide +kernel
theorem dX12_in_5 : decode cX12_in 5 = .ok (.iload_n 0, 1) := by decide +kernel
theorem dX12_in_6 : decode cX12_in 6 = .ok (.iload_n 2, 1) := by decide +kernel
theorem dX12_in_7 : decode cX12_in 7 = .ok (.if_icmp .gt 7, 3) := by decide +kernel
theorem dX12_in_10 : decode cX12_in 10 = .ok (.iconst 1, 1) := by decide +kernel
theorem dX12_in_11 : decode cX12_in 11 = .ok (.goto 4, 3) := by decide +kernel
theorem dX12_in_14 : decode cX12_in 14 = .ok (.iconst 0, 1) := by decide +kernel
theorem dX12_in_15 : decode cX12_in 15 = .ok (.ireturn, 1) := by decide +kernel
theorem dX12_keptAt_0 : decode cX12_keptAt 0 = .ok (.sipush 660, 3) := by decide +kernel
theorem dX12_keptAt_3 : decode cX12_keptAt 3 = .ok (.aload_n 0, 1) := by decide +kernel
theorem dX12_keptAt_4 : decode cX12_keptAt 4 = .ok (.getfield 50, 3) := by decide +kernel
theorem dX12_keptAt_7 : decode cX12_keptAt 7 = .ok (.aload_n 0, 1) := by decide +kernel
theorem dX12_keptAt_8 : decode cX12_keptAt 8 = .ok (.getfield 53, 3) := by decide +kernel
theorem dX12_keptAt_11 : decode cX12_keptAt 11 = .ok (.iadd, 1) := by decide +kernel
theorem dX12_keptAt_12 : decode cX12_keptAt 12 = .ok (.bipush 8, 2) := by decide +kernel
theorem dX12_keptAt_14 : decode cX12_keptAt 14 = .ok (.irem, 1) := by decide +kernel
theorem dX12_keptAt_15 : decode cX12_keptAt 15 = .ok (.imul, 1) := by decide +kernel
theorem dX12_keptAt_16 : decode cX12_keptAt 16 = .ok (.ireturn, 1) := by decide +kernel
set_option maxRecDepth 20000 in
theorem ggX12_keep_X12_keptAt : GoodIn wsX12_keep wsX12_keptAt := goodIn_r _ [9, 2, 1, 10, 11, 12, 13, 14, 15, 16, 17, 18, 19, 20, 21, 22, 23, 24, 25, 26, 27, 28, 29] (by decide +kernel) (by decide +kernel)
set_option maxRecDepth 20000 in
theorem gX12_keep_X12_keptAt : GoodIn wsX12_keep (wsV RX12 56 RX12 yX12_keptAt wsX12_keptAt) := goodIn_app (goodIn_of _ (by decide +kernel)) ggX12_keep_X12_keptAt
theorem dX12_keep_0 : decode cX12_keep 0 = .ok (.aload_n 0, 1) := by decide +kernel
theorem dX12_keep_1 : decode cX12_keep 1 = .ok (.getfield 53, 3) := by decide +kernel
theorem dX12_keep_4 : decode cX12_keep 4 = .ok (.bipush 8, 2) := by decide +kernel
theorem dX12_keep_6 : decode cX12_keep 6 = .ok (.if_icmp .ne 26, 3) := by decide +kernel
theorem dX12_keep_9 : decode cX12_keep 9 = .ok (.aload_n 0, 1) := by decide +kernel
theorem dX12_keep_10 : decode cX12_keep 10 = .ok (.aload_n 0, 1) := by decide +kernel
theorem dX12_keep_11 : decode cX12_keep 11 = .ok (.getfield 50, 3) := by decide +kernel
theorem dX12_keep_14 : decode cX12_keep 14 = .ok (.iconst 1, 1) := by decide +kernel
theorem dX12_keep_15 : decode cX12_keep 15 = .ok (.iadd, 1) := by decide +kernel
theorem dX12_keep_16 : decode cX12_keep 16 = .ok (.bipush 8, 2) := by decide +kernel
theorem dX12_keep_18 : decode cX12_keep 18 = .ok (.irem, 1) := by decide +kernel
theorem dX12_keep_19 : decode cX12_keep 19 = .ok (.putfield 50, 3) := by decide +kernel
theorem dX12_keep_22 : decode cX12_keep 22 = .ok (.aload_n 0, 1) := by decide +kernel
theorem dX12_keep_23 : decode cX12_keep 23 = .ok (.dup, 1) := by decide +kernel
theorem dX12_keep_24 : decode cX12_keep 24 = .ok (.getfield 53, 3) := by decide +kernel
theorem dX12_keep_27 : decode cX12_keep 27 = .ok (.iconst 1, 1) := by decide +kernel
theorem dX12_keep_28 : decode cX12_keep 28 = .ok (.isub, 1) := by decide +kernel
theorem dX12_keep_29 : decode cX12_keep 29 = .ok (.putfield 53, 3) := by decide +kernel
theorem dX12_keep_32 : decode cX12_keep 32 = .ok (.aload_n 0, 1) := by decide +kernel
theorem dX12_keep_33 : decode cX12_keep 33 = .ok (.invokevirtual 56, 3) := by decide +kernel
theorem dX12_keep_36 : decode cX12_keep 36 = .ok (.istore_n 1, 1) := by decide +kernel
theorem dX12_keep_37 : decode cX12_keep 37 = .ok (.iconst 0, 1) := by decide +kernel
theorem dX12_keep_38 : decode cX12_keep 38 = .ok (.istore_n 2, 1) := by decide +kernel
theorem dX12_keep_39 : decode cX12_keep 39 = .ok (.iload_n 2, 1) := by decide +kernel
theorem dX12_keep_40 : decode cX12_keep 40 = .ok (.sipush 660, 3) := by decide +kernel
theorem dX12_keep_43 : decode cX12_keep 43 = .ok (.if_icmp .ge 23, 3) := by decide +kernel
theorem dX12_keep_46 : decode cX12_keep 46 = .ok (.aload_n 0, 1) := by decide +kernel
theorem dX12_keep_47 : decode cX12_keep 47 = .ok (.getfield 13, 3) := by decide +kernel
theorem dX12_keep_50 : decode cX12_keep 50 = .ok (.iload_n 1, 1) := by decide +kernel
theorem dX12_keep_51 : decode cX12_keep 51 = .ok (.iload_n 2, 1) := by decide +kernel
theorem dX12_keep_52 : decode cX12_keep 52 = .ok (.iadd, 1) := by decide +kernel
theorem dX12_keep_53 : decode cX12_keep 53 = .ok (.aload_n 0, 1) := by decide +kernel
theorem dX12_keep_54 : decode cX12_keep 54 = .ok (.getfield 9, 3) := by decide +kernel
theorem dX12_keep_57 : decode cX12_keep 57 = .ok (.iload_n 2, 1) := by decide +kernel
theorem dX12_keep_58 : decode cX12_keep 58 = .ok (.iaload, 1) := by decide +kernel
theorem dX12_keep_59 : decode cX12_keep 59 = .ok (.iastore, 1) := by decide +kernel
theorem dX12_keep_60 : decode cX12_keep 60 = .ok (.iinc 2 1, 3) := by decide +kernel
theorem dX12_keep_63 : decode cX12_keep 63 = .ok (.goto (-24), 3) := by decide +kernel
theorem dX12_keep_66 : decode cX12_keep 66 = .ok (.aload_n 0, 1) := by decide +kernel
theorem dX12_keep_67 : decode cX12_keep 67 = .ok (.dup, 1) := by decide +kernel
theorem dX12_keep_68 : decode cX12_keep 68 = .ok (.getfield 53, 3) := by decide +kernel
theorem dX12_keep_71 : decode cX12_keep 71 = .ok (.iconst 1, 1) := by decide +kernel
theorem dX12_keep_72 : decode cX12_keep 72 = .ok (.iadd, 1) := by decide +kernel
theorem dX12_keep_73 : decode cX12_keep 73 = .ok (.putfield 53, 3) := by decide +kernel
theorem dX12_keep_76 : decode cX12_keep 76 = .ok (.return_, 1) := by decide +kernel
set_option maxRecDepth 20000 in
theorem ggX12_undo_X12_can : GoodIn wsX12_undo wsX12_can := goodIn_r _ [8, 9, 15, 16, 17, 18, 19, 20, 21, 22, 23, 24, 25, 26, 27, 28, 29, 30, 31, 32, 33, 34] (by decide +kernel) (by decide +kernel)
set_option maxRecDepth 20000 in
theorem gX12_undo_X12_can : GoodIn wsX12_undo (wsV RX12 60 RX12 yX12_can wsX12_can) := goodIn_app (goodIn_of _ (by decide +kernel)) ggX12_undo_X12_can
set_option maxRecDepth 20000 in
theorem ggX12_undo_X12_keptAt : GoodIn wsX12_undo wsX12_keptAt := goodIn_r _ [13, 14, 1, 15, 16, 17, 18, 19, 20, 21, 22, 23, 24, 25, 26, 27, 28, 29, 30, 31, 32, 33, 34] (by decide +kernel) (by decide +kernel)
set_option maxRecDepth 20000 in
theorem gX12_undo_X12_keptAt : GoodIn wsX12_undo (wsV RX12 56 RX12 yX12_keptAt wsX12_keptAt) := goodIn_app (goodIn_of _ (by decide +kernel)) ggX12_undo_X12_keptAt
theorem dX12_undo_0 : decode cX12_undo 0 = .ok (.aload_n 0, 1) := by decide +kernel
theorem dX12_undo_1 : decode cX12_undo 1 = .ok (.aload_n 0, 1) := by decide +kernel
theorem dX12_undo_2 : decode cX12_undo 2 = .ok (.getfield 53, 3) := by decide +kernel
theorem dX12_undo_5 : decode cX12_undo 5 = .ok (.ifCond .le 7, 3) := by decide +kernel
theorem dX12_undo_8 : decode cX12_undo 8 = .ok (.iconst 1, 1) := by decide +kernel
theorem dX12_undo_9 : decode cX12_undo 9 = .ok (.goto 4, 3) := by decide +kernel
theorem dX12_undo_12 : decode cX12_undo 12 = .ok (.iconst 0, 1) := by decide +kernel
theorem dX12_undo_13 : decode cX12_undo 13 = .ok (.iconst 1, 1) := by decide +kernel
theorem dX12_undo_14 : decode cX12_undo 14 = .ok (.invokevirtual 60, 3) := by decide +kernel
theorem dX12_undo_17 : decode cX12_undo 17 = .ok (.ifCond .ne 5, 3) := by decide +kernel
theorem dX12_undo_20 : decode cX12_undo 20 = .ok (.iconst 0, 1) := by decide +kernel
theorem dX12_undo_21 : decode cX12_undo 21 = .ok (.ireturn, 1) := by decide +kernel
theorem dX12_undo_22 : decode cX12_undo 22 = .ok (.aload_n 0, 1) := by decide +kernel
theorem dX12_undo_23 : decode cX12_undo 23 = .ok (.dup, 1) := by decide +kernel
theorem dX12_undo_24 : decode cX12_undo 24 = .ok (.getfield 53, 3) := by decide +kernel
theorem dX12_undo_27 : decode cX12_undo 27 = .ok (.iconst 1, 1) := by decide +kernel
theorem dX12_undo_28 : decode cX12_undo 28 = .ok (.isub, 1) := by decide +kernel
theorem dX12_undo_29 : decode cX12_undo 29 = .ok (.putfield 53, 3) := by decide +kernel
theorem dX12_undo_32 : decode cX12_undo 32 = .ok (.aload_n 0, 1) := by decide +kernel
theorem dX12_undo_33 : decode cX12_undo 33 = .ok (.invokevirtual 56, 3) := by decide +kernel
theorem dX12_undo_36 : decode cX12_undo 36 = .ok (.istore_n 1, 1) := by decide +kernel
theorem dX12_undo_37 : decode cX12_undo 37 = .ok (.iconst 0, 1) := by decide +kernel
theorem dX12_undo_38 : decode cX12_undo 38 = .ok (.istore_n 2, 1) := by decide +kernel
theorem dX12_undo_39 : decode cX12_undo 39 = .ok (.iload_n 2, 1) := by decide +kernel
theorem dX12_undo_40 : decode cX12_undo 40 = .ok (.sipush 660, 3) := by decide +kernel
theorem dX12_undo_43 : decode cX12_undo 43 = .ok (.if_icmp .ge 23, 3) := by decide +kernel
theorem dX12_undo_46 : decode cX12_undo 46 = .ok (.aload_n 0, 1) := by decide +kernel
theorem dX12_undo_47 : decode cX12_undo 47 = .ok (.getfield 9, 3) := by decide +kernel
theorem dX12_undo_50 : decode cX12_undo 50 = .ok (.iload_n 2, 1) := by decide +kernel
theorem dX12_undo_51 : decode cX12_undo 51 = .ok (.aload_n 0, 1) := by decide +kernel
theorem dX12_undo_52 : decode cX12_undo 52 = .ok (.getfield 13, 3) := by decide +kernel
theorem dX12_undo_55 : decode cX12_undo 55 = .ok (.iload_n 1, 1) := by decide +kernel
theorem dX12_undo_56 : decode cX12_undo 56 = .ok (.iload_n 2, 1) := by decide +kernel
theorem dX12_undo_57 : decode cX12_undo 57 = .ok (.iadd, 1) := by decide +kernel
theorem dX12_undo_58 : decode cX12_undo 58 = .ok (.iaload, 1) := by decide +kernel
theorem dX12_undo_59 : decode cX12_undo 59 = .ok (.iastore, 1) := by decide +kernel
theorem dX12_undo_60 : decode cX12_undo 60 = .ok (.iinc 2 1, 3) := by decide +kernel
theorem dX12_undo_63 : decode cX12_undo 63 = .ok (.goto (-24), 3) := by decide +kernel
theorem dX12_undo_66 : decode cX12_undo 66 = .ok (.aload_n 0, 1) := by decide +kernel
theorem dX12_undo_67 : decode cX12_undo 67 = .ok (.getfield 53, 3) := by decide +kernel
theorem dX12_undo_70 : decode cX12_undo 70 = .ok (.ireturn, 1) := by decide +kernel
theorem dX12_actCount_0 : decode cX12_actCount 0 = .ok (.aload_n 0, 1) := by decide +kernel
theorem dX12_actCount_1 : decode cX12_actCount 1 = .ok (.iconst 0, 1) := by decide +kernel
theorem dX12_actCount_2 : decode cX12_actCount 2 = .ok (.putfield 46, 3) := by decide +kernel
theorem dX12_actCount_5 : decode cX12_actCount 5 = .ok (.aload_n 0, 1) := by decide +kernel
theorem dX12_actCount_6 : decode cX12_actCount 6 = .ok (.getfield 53, 3) := by decide +kernel
theorem dX12_actCount_9 : decode cX12_actCount 9 = .ok (.ireturn, 1) := by decide +kernel
set_option maxRecDepth 20000 in
theorem ggX12_isGood_X12_in : GoodIn wsX12_isGood wsX12_in := goodIn_r _ [4] (by decide +kernel) (by decide +kernel)
set_option maxRecDepth 20000 in
theorem gX12_isGood_X12_in : GoodIn wsX12_isGood (va_wsS RX12 64 yX12_in wsX12_in) := goodIn_app (goodIn_of _ (by decide +kernel)) ggX12_isGood_X12_in
theorem dX12_isGood_0 : decode cX12_isGood 0 = .ok (.iload_n 0, 1) := by decide +kernel
theorem dX12_isGood_1 : decode cX12_isGood 1 = .ok (.iconst 0, 1) := by decide +kernel
theorem dX12_isGood_2 : decode cX12_isGood 2 = .ok (.bipush 7, 2) := by decide +kernel
theorem dX12_isGood_4 : decode cX12_isGood 4 = .ok (.invokestatic 64, 3) := by decide +kernel
theorem dX12_isGood_7 : decode cX12_isGood 7 = .ok (.ireturn, 1) := by decide +kernel
set_option maxRecDepth 20000 in
theorem ggX12_isRecipe_X12_in : GoodIn wsX12_isRecipe wsX12_in := goodIn_r _ [5] (by decide +kernel) (by decide +kernel)
set_option maxRecDepth 20000 in
theorem gX12_isRecipe_X12_in : GoodIn wsX12_isRecipe (va_wsS RX12 64 yX12_in wsX12_in) := goodIn_app (goodIn_of _ (by decide +kernel)) ggX12_isRecipe_X12_in
theorem dX12_isRecipe_0 : decode cX12_isRecipe 0 = .ok (.iload_n 1, 1) := by decide +kernel
theorem dX12_isRecipe_1 : decode cX12_isRecipe 1 = .ok (.iconst 0, 1) := by decide +kernel
theorem dX12_isRecipe_2 : decode cX12_isRecipe 2 = .ok (.aload_n 0, 1) := by decide +kernel
theorem dX12_isRecipe_3 : decode cX12_isRecipe 3 = .ok (.getfield 9, 3) := by decide +kernel
theorem dX12_isRecipe_6 : decode cX12_isRecipe 6 = .ok (.iconst 5, 1) := by decide +kernel
theorem dX12_isRecipe_7 : decode cX12_isRecipe 7 = .ok (.iaload, 1) := by decide +kernel
theorem dX12_isRecipe_8 : decode cX12_isRecipe 8 = .ok (.iconst 1, 1) := by decide +kernel
theorem dX12_isRecipe_9 : decode cX12_isRecipe 9 = .ok (.isub, 1) := by decide +kernel
theorem dX12_isRecipe_10 : decode cX12_isRecipe 10 = .ok (.invokestatic 64, 3) := by decide +kernel
theorem dX12_isRecipe_13 : decode cX12_isRecipe 13 = .ok (.ireturn, 1) := by decide +kernel
set_option maxRecDepth 20000 in
theorem ggX12_receive_X12_isGood : GoodIn wsX12_receive wsX12_isGood := goodIn_r _ [7, 8, 9, 6, 10] (by decide +kernel) (by decide +kernel)
set_option maxRecDepth 20000 in
theorem gX12_receive_X12_isGood : GoodIn wsX12_receive (va_wsS RX12 68 yX12_isGood wsX12_isGood) := goodIn_app (goodIn_of _ (by decide +kernel)) ggX12_receive_X12_isGood
set_option maxRecDepth 20000 in
theorem ggX12_receive_X12_can : GoodIn wsX12_receive wsX12_can := goodIn_r _ [14, 15, 27, 28, 29, 30, 31, 32, 33, 34, 35, 36, 37, 38, 39, 40, 41, 42, 43, 44, 45, 46] (by decide +kernel) (by decide +kernel)
set_option maxRecDepth 20000 in
theorem gX12_receive_X12_can : GoodIn wsX12_receive (wsV RX12 60 RX12 yX12_can wsX12_can) := goodIn_app (goodIn_of _ (by decide +kernel)) ggX12_receive_X12_can
set_option maxRecDepth 20000 in
theorem ggX12_receive_X12_in : GoodIn wsX12_receive wsX12_in := goodIn_r _ [10] (by decide +kernel) (by decide +kernel)
set_option maxRecDepth 20000 in
theorem gX12_receive_X12_in : GoodIn wsX12_receive (va_wsS RX12 64 yX12_in wsX12_in) := goodIn_app (goodIn_of _ (by decide +kernel)) ggX12_receive_X12_in
set_option maxRecDepth 20000 in
theorem ggX12_receive_X12_keep : GoodIn wsX12_receive wsX12_keep := goodIn_r _ [19, 20, 21, 22, 2, 23, 24, 25, 6, 26, 27, 28, 29, 30, 31, 32, 33, 34, 35, 36, 37, 38, 39, 40, 41, 42, 43, 44, 45, 46] (by decide +kernel) (by decide +kernel)
set_option maxRecDepth 20000 in
theorem gX12_receive_X12_keep : GoodIn wsX12_receive (wsV RX12 74 RX12 yX12_keep wsX12_keep) := goodIn_app (goodIn_of _ (by decide +kernel)) ggX12_receive_X12_keep
theorem dX12_receive_0 : decode cX12_receive 0 = .ok (.aload_n 0, 1) := by decide +kernel
theorem dX12_receive_1 : decode cX12_receive 1 = .ok (.iload_n 1, 1) := by decide +kernel
theorem dX12_receive_2 : decode cX12_receive 2 = .ok (.invokestatic 68, 3) := by decide +kernel
theorem dX12_receive_5 : decode cX12_receive 5 = .ok (.iconst 1, 1) := by decide +kernel
theorem dX12_receive_6 : decode cX12_receive 6 = .ok (.invokevirtual 60, 3) := by decide +kernel
theorem dX12_receive_9 : decode cX12_receive 9 = .ok (.ifCond .eq 61, 3) := by decide +kernel
theorem dX12_receive_12 : decode cX12_receive 12 = .ok (.aload_n 0, 1) := by decide +kernel
theorem dX12_receive_13 : decode cX12_receive 13 = .ok (.iload_n 1, 1) := by decide +kernel
theorem dX12_receive_14 : decode cX12_receive 14 = .ok (.bipush 7, 2) := by decide +kernel
theorem dX12_receive_16 : decode cX12_receive 16 = .ok (.if_icmp .eq 17, 3) := by decide +kernel
theorem dX12_receive_19 : decode cX12_receive 19 = .ok (.iload_n 2, 1) := by decide +kernel
theorem dX12_receive_20 : decode cX12_receive 20 = .ok (.iconst 1, 1) := by decide +kernel
theorem dX12_receive_21 : decode cX12_receive 21 = .ok (.ldc 72, 2) := by decide +kernel
theorem dX12_receive_23 : decode cX12_receive 23 = .ok (.invokestatic 64, 3) := by decide +kernel
theorem dX12_receive_26 : decode cX12_receive 26 = .ok (.ifCond .eq 7, 3) := by decide +kernel
theorem dX12_receive_29 : decode cX12_receive 29 = .ok (.iconst 1, 1) := by decide +kernel
theorem dX12_receive_30 : decode cX12_receive 30 = .ok (.goto 4, 3) := by decide +kernel
theorem dX12_receive_33 : decode cX12_receive 33 = .ok (.iconst 0, 1) := by decide +kernel
theorem dX12_receive_34 : decode cX12_receive 34 = .ok (.iconst 2, 1) := by decide +kernel
theorem dX12_receive_35 : decode cX12_receive 35 = .ok (.invokevirtual 60, 3) := by decide +kernel
theorem dX12_receive_38 : decode cX12_receive 38 = .ok (.ifCond .eq 32, 3) := by decide +kernel
theorem dX12_receive_41 : decode cX12_receive 41 = .ok (.aload_n 0, 1) := by decide +kernel
theorem dX12_receive_42 : decode cX12_receive 42 = .ok (.aload_n 0, 1) := by decide +kernel
theorem dX12_receive_43 : decode cX12_receive 43 = .ok (.getfield 9, 3) := by decide +kernel
theorem dX12_receive_46 : decode cX12_receive 46 = .ok (.bipush 11, 2) := by decide +kernel
theorem dX12_receive_48 : decode cX12_receive 48 = .ok (.iload_n 1, 1) := by decide +kernel
theorem dX12_receive_49 : decode cX12_receive 49 = .ok (.iadd, 1) := by decide +kernel
theorem dX12_receive_50 : decode cX12_receive 50 = .ok (.iaload, 1) := by decide +kernel
theorem dX12_receive_51 : decode cX12_receive 51 = .ok (.iload_n 2, 1) := by decide +kernel
theorem dX12_receive_52 : decode cX12_receive 52 = .ok (.iadd, 1) := by decide +kernel
theorem dX12_receive_53 : decode cX12_receive 53 = .ok (.ldc 73, 2) := by decide +kernel
theorem dX12_receive_55 : decode cX12_receive 55 = .ok (.if_icmp .gt 7, 3) := by decide +kernel
theorem dX12_receive_58 : decode cX12_receive 58 = .ok (.iconst 1, 1) := by decide +kernel
theorem dX12_receive_59 : decode cX12_receive 59 = .ok (.goto 4, 3) := by decide +kernel
theorem dX12_receive_62 : decode cX12_receive 62 = .ok (.iconst 0, 1) := by decide +kernel
theorem dX12_receive_63 : decode cX12_receive 63 = .ok (.iconst 3, 1) := by decide +kernel
theorem dX12_receive_64 : decode cX12_receive 64 = .ok (.invokevirtual 60, 3) := by decide +kernel
theorem dX12_receive_67 : decode cX12_receive 67 = .ok (.ifCond .ne 5, 3) := by decide +kernel
theorem dX12_receive_70 : decode cX12_receive 70 = .ok (.iconst 0, 1) := by decide +kernel
theorem dX12_receive_71 : decode cX12_receive 71 = .ok (.ireturn, 1) := by decide +kernel
theorem dX12_receive_72 : decode cX12_receive 72 = .ok (.aload_n 0, 1) := by decide +kernel
theorem dX12_receive_73 : decode cX12_receive 73 = .ok (.invokevirtual 74, 3) := by decide +kernel
theorem dX12_receive_76 : decode cX12_receive 76 = .ok (.aload_n 0, 1) := by decide +kernel
theorem dX12_receive_77 : decode cX12_receive 77 = .ok (.getfield 9, 3) := by decide +kernel
theorem dX12_receive_80 : decode cX12_receive 80 = .ok (.bipush 11, 2) := by decide +kernel
theorem dX12_receive_82 : decode cX12_receive 82 = .ok (.iload_n 1, 1) := by decide +kernel
theorem dX12_receive_83 : decode cX12_receive 83 = .ok (.iadd, 1) := by decide +kernel
theorem dX12_receive_84 : decode cX12_receive 84 = .ok (.dup2, 1) := by decide +kernel
theorem dX12_receive_85 : decode cX12_receive 85 = .ok (.iaload, 1) := by decide +kernel
theorem dX12_receive_86 : decode cX12_receive 86 = .ok (.iload_n 2, 1) := by decide +kernel
theorem dX12_receive_87 : decode cX12_receive 87 = .ok (.iadd, 1) := by decide +kernel
theorem dX12_receive_88 : decode cX12_receive 88 = .ok (.iastore, 1) := by decide +kernel
theorem dX12_receive_89 : decode cX12_receive 89 = .ok (.aload_n 0, 1) := by decide +kernel
theorem dX12_receive_90 : decode cX12_receive 90 = .ok (.getfield 9, 3) := by decide +kernel
theorem dX12_receive_93 : decode cX12_receive 93 = .ok (.bipush 8, 2) := by decide +kernel
theorem dX12_receive_95 : decode cX12_receive 95 = .ok (.dup2, 1) := by decide +kernel
theorem dX12_receive_96 : decode cX12_receive 96 = .ok (.iaload, 1) := by decide +kernel
theorem dX12_receive_97 : decode cX12_receive 97 = .ok (.iload_n 2, 1) := by decide +kernel
theorem dX12_receive_98 : decode cX12_receive 98 = .ok (.iadd, 1) := by decide +kernel
theorem dX12_receive_99 : decode cX12_receive 99 = .ok (.iastore, 1) := by decide +kernel
theorem dX12_receive_100 : decode cX12_receive 100 = .ok (.aload_n 0, 1) := by decide +kernel
theorem dX12_receive_101 : decode cX12_receive 101 = .ok (.getfield 9, 3) := by decide +kernel
theorem dX12_receive_104 : decode cX12_receive 104 = .ok (.bipush 11, 2) := by decide +kernel
theorem dX12_receive_106 : decode cX12_receive 106 = .ok (.iload_n 1, 1) := by decide +kernel
theorem dX12_receive_107 : decode cX12_receive 107 = .ok (.iadd, 1) := by decide +kernel
theorem dX12_receive_108 : decode cX12_receive 108 = .ok (.iaload, 1) := by decide +kernel
theorem dX12_receive_109 : decode cX12_receive 109 = .ok (.ireturn, 1) := by decide +kernel
set_option maxRecDepth 20000 in
theorem ggX12_store_X12_isGood : GoodIn wsX12_store wsX12_isGood := goodIn_r _ [5, 6, 7, 4, 8] (by decide +kernel) (by decide +kernel)
set_option maxRecDepth 20000 in
theorem gX12_store_X12_isGood : GoodIn wsX12_store (va_wsS RX12 68 yX12_isGood wsX12_isGood) := goodIn_app (goodIn_of _ (by decide +kernel)) ggX12_store_X12_isGood
set_option maxRecDepth 20000 in
theorem ggX12_store_X12_can : GoodIn wsX12_store wsX12_can := goodIn_r _ [12, 13, 14, 15, 16, 17, 18, 19, 20, 21, 22, 23, 24, 25, 26, 27, 28, 29, 30, 31, 32, 33] (by decide +kernel) (by decide +kernel)
set_option maxRecDepth 20000 in
theorem gX12_store_X12_can : GoodIn wsX12_store (wsV RX12 60 RX12 yX12_can wsX12_can) := goodIn_app (goodIn_of _ (by decide +kernel)) ggX12_store_X12_can
theorem dX12_store_0 : decode cX12_store 0 = .ok (.aload_n 0, 1) := by decide +kernel
theorem dX12_store_1 : decode cX12_store 1 = .ok (.iload_n 1, 1) := by decide +kernel
theorem dX12_store_2 : decode cX12_store 2 = .ok (.invokestatic 68, 3) := by decide +kernel
theorem dX12_store_5 : decode cX12_store 5 = .ok (.iconst 1, 1) := by decide +kernel
theorem dX12_store_6 : decode cX12_store 6 = .ok (.invokevirtual 60, 3) := by decide +kernel
theorem dX12_store_9 : decode cX12_store 9 = .ok (.ifCond .eq 15, 3) := by decide +kernel
theorem dX12_store_12 : decode cX12_store 12 = .ok (.aload_n 0, 1) := by decide +kernel
theorem dX12_store_13 : decode cX12_store 13 = .ok (.getfield 9, 3) := by decide +kernel
theorem dX12_store_16 : decode cX12_store 16 = .ok (.bipush 11, 2) := by decide +kernel
theorem dX12_store_18 : decode cX12_store 18 = .ok (.iload_n 1, 1) := by decide +kernel
theorem dX12_store_19 : decode cX12_store 19 = .ok (.iadd, 1) := by decide +kernel
theorem dX12_store_20 : decode cX12_store 20 = .ok (.iaload, 1) := by decide +kernel
theorem dX12_store_21 : decode cX12_store 21 = .ok (.goto 4, 3) := by decide +kernel
theorem dX12_store_24 : decode cX12_store 24 = .ok (.iconst 0, 1) := by decide +kernel
theorem dX12_store_25 : decode cX12_store 25 = .ok (.ireturn, 1) := by decide +kernel
set_option maxRecDepth 20000 in
theorem ggX12_addRecipe_X12_in : GoodIn wsX12_addRecipe wsX12_in := goodIn_r _ [5] (by decide +kernel) (by decide +kernel)
set_option maxRecDepth 20000 in
theorem gX12_addRecipe_X12_in : GoodIn wsX12_addRecipe (va_wsS RX12 64 yX12_in wsX12_in) := goodIn_app (goodIn_of _ (by decide +kernel)) ggX12_addRecipe_X12_in
set_option maxRecDepth 20000 in
theorem ggX12_addRecipe_X12_can : GoodIn wsX12_addRecipe wsX12_can := goodIn_r _ [9, 10, 22, 23, 24, 25, 26, 27, 28, 29, 30, 31, 32, 33, 34, 35, 36, 37, 38, 39, 40, 41] (by decide +kernel) (by decide +kernel)
set_option maxRecDepth 20000 in
theorem gX12_addRecipe_X12_can : GoodIn wsX12_addRecipe (wsV RX12 60 RX12 yX12_can wsX12_can) := goodIn_app (goodIn_of _ (by decide +kernel)) ggX12_addRecipe_X12_can
set_option maxRecDepth 20000 in
theorem ggX12_addRecipe_X12_keep : GoodIn wsX12_addRecipe wsX12_keep := goodIn_r _ [14, 15, 16, 17, 1, 18, 19, 20, 4, 21, 22, 23, 24, 25, 26, 27, 28, 29, 30, 31, 32, 33, 34, 35, 36, 37, 38, 39, 40, 41] (by decide +kernel) (by decide +kernel)
set_option maxRecDepth 20000 in
theorem gX12_addRecipe_X12_keep : GoodIn wsX12_addRecipe (wsV RX12 74 RX12 yX12_keep wsX12_keep) := goodIn_app (goodIn_of _ (by decide +kernel)) ggX12_addRecipe_X12_keep
theorem dX12_addRecipe_0 : decode cX12_addRecipe 0 = .ok (.aload_n 0, 1) := by decide +kernel
theorem dX12_addRecipe_1 : decode cX12_addRecipe 1 = .ok (.iload_n 1, 1) := by decide +kernel
theorem dX12_addRecipe_2 : decode cX12_addRecipe 2 = .ok (.bipush 50, 2) := by decide +kernel
theorem dX12_addRecipe_4 : decode cX12_addRecipe 4 = .ok (.sipush 2000, 3) := by decide +kernel
theorem dX12_addRecipe_7 : decode cX12_addRecipe 7 = .ok (.invokestatic 64, 3) := by decide +kernel
theorem dX12_addRecipe_10 : decode cX12_addRecipe 10 = .ok (.ifCond .eq 53, 3) := by decide +kernel
theorem dX12_addRecipe_13 : decode cX12_addRecipe 13 = .ok (.iload_n 2, 1) := by decide +kernel
theorem dX12_addRecipe_14 : decode cX12_addRecipe 14 = .ok (.iconst 1, 1) := by decide +kernel
theorem dX12_addRecipe_15 : decode cX12_addRecipe 15 = .ok (.sipush 200, 3) := by decide +kernel
theorem dX12_addRecipe_18 : decode cX12_addRecipe 18 = .ok (.invokestatic 64, 3) := by decide +kernel
theorem dX12_addRecipe_21 : decode cX12_addRecipe 21 = .ok (.ifCond .eq 42, 3) := by decide +kernel
theorem dX12_addRecipe_24 : decode cX12_addRecipe 24 = .ok (.iload_n 3, 1) := by decide +kernel
theorem dX12_addRecipe_25 : decode cX12_addRecipe 25 = .ok (.iload_n 2, 1) := by decide +kernel
theorem dX12_addRecipe_26 : decode cX12_addRecipe 26 = .ok (.sipush 200, 3) := by decide +kernel
theorem dX12_addRecipe_29 : decode cX12_addRecipe 29 = .ok (.invokestatic 64, 3) := by decide +kernel
theorem dX12_addRecipe_32 : decode cX12_addRecipe 32 = .ok (.ifCond .eq 31, 3) := by decide +kernel
theorem dX12_addRecipe_35 : decode cX12_addRecipe 35 = .ok (.iload 4, 2) := by decide +kernel
theorem dX12_addRecipe_37 : decode cX12_addRecipe 37 = .ok (.bipush 100, 2) := by decide +kernel
theorem dX12_addRecipe_39 : decode cX12_addRecipe 39 = .ok (.sipush 300, 3) := by decide +kernel
theorem dX12_addRecipe_42 : decode cX12_addRecipe 42 = .ok (.invokestatic 64, 3) := by decide +kernel
theorem dX12_addRecipe_45 : decode cX12_addRecipe 45 = .ok (.ifCond .eq 18, 3) := by decide +kernel
theorem dX12_addRecipe_48 : decode cX12_addRecipe 48 = .ok (.iload 5, 2) := by decide +kernel
theorem dX12_addRecipe_50 : decode cX12_addRecipe 50 = .ok (.iconst 0, 1) := by decide +kernel
theorem dX12_addRecipe_51 : decode cX12_addRecipe 51 = .ok (.bipush 15, 2) := by decide +kernel
theorem dX12_addRecipe_53 : decode cX12_addRecipe 53 = .ok (.invokestatic 64, 3) := by decide +kernel
theorem dX12_addRecipe_56 : decode cX12_addRecipe 56 = .ok (.ifCond .eq 7, 3) := by decide +kernel
theorem dX12_addRecipe_59 : decode cX12_addRecipe 59 = .ok (.iconst 1, 1) := by decide +kernel
theorem dX12_addRecipe_60 : decode cX12_addRecipe 60 = .ok (.goto 4, 3) := by decide +kernel
theorem dX12_addRecipe_63 : decode cX12_addRecipe 63 = .ok (.iconst 0, 1) := by decide +kernel
theorem dX12_addRecipe_64 : decode cX12_addRecipe 64 = .ok (.iconst 1, 1) := by decide +kernel
theorem dX12_addRecipe_65 : decode cX12_addRecipe 65 = .ok (.invokevirtual 60, 3) := by decide +kernel
theorem dX12_addRecipe_68 : decode cX12_addRecipe 68 = .ok (.ifCond .eq 27, 3) := by decide +kernel
theorem dX12_addRecipe_71 : decode cX12_addRecipe 71 = .ok (.aload_n 0, 1) := by decide +kernel
theorem dX12_addRecipe_72 : decode cX12_addRecipe 72 = .ok (.aload_n 0, 1) := by decide +kernel
theorem dX12_addRecipe_73 : decode cX12_addRecipe 73 = .ok (.getfield 9, 3) := by decide +kernel
theorem dX12_addRecipe_76 : decode cX12_addRecipe 76 = .ok (.iconst 5, 1) := by decide +kernel
theorem dX12_addRecipe_77 : decode cX12_addRecipe 77 = .ok (.iaload, 1) := by decide +kernel
theorem dX12_addRecipe_78 : decode cX12_addRecipe 78 = .ok (.bipush 6, 2) := by decide +kernel
theorem dX12_addRecipe_80 : decode cX12_addRecipe 80 = .ok (.if_icmp .ge 7, 3) := by decide +kernel
theorem dX12_addRecipe_83 : decode cX12_addRecipe 83 = .ok (.iconst 1, 1) := by decide +kernel
theorem dX12_addRecipe_84 : decode cX12_addRecipe 84 = .ok (.goto 4, 3) := by decide +kernel
theorem dX12_addRecipe_87 : decode cX12_addRecipe 87 = .ok (.iconst 0, 1) := by decide +kernel
theorem dX12_addRecipe_88 : decode cX12_addRecipe 88 = .ok (.iconst 2, 1) := by decide +kernel
theorem dX12_addRecipe_89 : decode cX12_addRecipe 89 = .ok (.invokevirtual 60, 3) := by decide +kernel
theorem dX12_addRecipe_92 : decode cX12_addRecipe 92 = .ok (.ifCond .ne 5, 3) := by decide +kernel
theorem dX12_addRecipe_95 : decode cX12_addRecipe 95 = .ok (.iconst 0, 1) := by decide +kernel
theorem dX12_addRecipe_96 : decode cX12_addRecipe 96 = .ok (.ireturn, 1) := by decide +kernel
theorem dX12_addRecipe_97 : decode cX12_addRecipe 97 = .ok (.aload_n 0, 1) := by decide +kernel
theorem dX12_addRecipe_98 : decode cX12_addRecipe 98 = .ok (.invokevirtual 74, 3) := by decide +kernel
theorem dX12_addRecipe_101 : decode cX12_addRecipe 101 = .ok (.aload_n 0, 1) := by decide +kernel
theorem dX12_addRecipe_102 : decode cX12_addRecipe 102 = .ok (.getfield 9, 3) := by decide +kernel
theorem dX12_addRecipe_105 : decode cX12_addRecipe 105 = .ok (.iconst 5, 1) := by decide +kernel
theorem dX12_addRecipe_106 : decode cX12_addRecipe 106 = .ok (.iaload, 1) := by decide +kernel
theorem dX12_addRecipe_107 : decode cX12_addRecipe 107 = .ok (.istore 6, 2) := by decide +kernel
theorem dX12_addRecipe_109 : decode cX12_addRecipe 109 = .ok (.aload_n 0, 1) := by decide +kernel
theorem dX12_addRecipe_110 : decode cX12_addRecipe 110 = .ok (.getfield 9, 3) := by decide +kernel
theorem dX12_addRecipe_113 : decode cX12_addRecipe 113 = .ok (.iconst 5, 1) := by decide +kernel
theorem dX12_addRecipe_114 : decode cX12_addRecipe 114 = .ok (.dup2, 1) := by decide +kernel
theorem dX12_addRecipe_115 : decode cX12_addRecipe 115 = .ok (.iaload, 1) := by decide +kernel
theorem dX12_addRecipe_116 : decode cX12_addRecipe 116 = .ok (.iconst 1, 1) := by decide +kernel
theorem dX12_addRecipe_117 : decode cX12_addRecipe 117 = .ok (.iadd, 1) := by decide +kernel
theorem dX12_addRecipe_118 : decode cX12_addRecipe 118 = .ok (.iastore, 1) := by decide +kernel
theorem dX12_addRecipe_119 : decode cX12_addRecipe 119 = .ok (.aload_n 0, 1) := by decide +kernel
theorem dX12_addRecipe_120 : decode cX12_addRecipe 120 = .ok (.getfield 9, 3) := by decide +kernel
theorem dX12_addRecipe_123 : decode cX12_addRecipe 123 = .ok (.bipush 19, 2) := by decide +kernel
theorem dX12_addRecipe_125 : decode cX12_addRecipe 125 = .ok (.iload 6, 2) := by decide +kernel
theorem dX12_addRecipe_127 : decode cX12_addRecipe 127 = .ok (.iadd, 1) := by decide +kernel
theorem dX12_addRecipe_128 : decode cX12_addRecipe 128 = .ok (.iload_n 1, 1) := by decide +kernel
theorem dX12_addRecipe_129 : decode cX12_addRecipe 129 = .ok (.iastore, 1) := by decide +kernel
theorem dX12_addRecipe_130 : decode cX12_addRecipe 130 = .ok (.aload_n 0, 1) := by decide +kernel
theorem dX12_addRecipe_131 : decode cX12_addRecipe 131 = .ok (.getfield 9, 3) := by decide +kernel
theorem dX12_addRecipe_134 : decode cX12_addRecipe 134 = .ok (.bipush 25, 2) := by decide +kernel
theorem dX12_addRecipe_136 : decode cX12_addRecipe 136 = .ok (.iload 6, 2) := by decide +kernel
theorem dX12_addRecipe_138 : decode cX12_addRecipe 138 = .ok (.iadd, 1) := by decide +kernel
theorem dX12_addRecipe_139 : decode cX12_addRecipe 139 = .ok (.iload_n 2, 1) := by decide +kernel
theorem dX12_addRecipe_140 : decode cX12_addRecipe 140 = .ok (.iastore, 1) := by decide +kernel
theorem dX12_addRecipe_141 : decode cX12_addRecipe 141 = .ok (.aload_n 0, 1) := by decide +kernel
theorem dX12_addRecipe_142 : decode cX12_addRecipe 142 = .ok (.getfield 9, 3) := by decide +kernel
theorem dX12_addRecipe_145 : decode cX12_addRecipe 145 = .ok (.bipush 31, 2) := by decide +kernel
theorem dX12_addRecipe_147 : decode cX12_addRecipe 147 = .ok (.iload 6, 2) := by decide +kernel
theorem dX12_addRecipe_149 : decode cX12_addRecipe 149 = .ok (.iadd, 1) := by decide +kernel
theorem dX12_addRecipe_150 : decode cX12_addRecipe 150 = .ok (.iload_n 3, 1) := by decide +kernel
theorem dX12_addRecipe_151 : decode cX12_addRecipe 151 = .ok (.iastore, 1) := by decide +kernel
theorem dX12_addRecipe_152 : decode cX12_addRecipe 152 = .ok (.aload_n 0, 1) := by decide +kernel
theorem dX12_addRecipe_153 : decode cX12_addRecipe 153 = .ok (.getfield 9, 3) := by decide +kernel
theorem dX12_addRecipe_156 : decode cX12_addRecipe 156 = .ok (.bipush 37, 2) := by decide +kernel
theorem dX12_addRecipe_158 : decode cX12_addRecipe 158 = .ok (.iload 6, 2) := by decide +kernel
theorem dX12_addRecipe_160 : decode cX12_addRecipe 160 = .ok (.iadd, 1) := by decide +kernel
theorem dX12_addRecipe_161 : decode cX12_addRecipe 161 = .ok (.iload 4, 2) := by decide +kernel
theorem dX12_addRecipe_163 : decode cX12_addRecipe 163 = .ok (.iastore, 1) := by decide +kernel
theorem dX12_addRecipe_164 : decode cX12_addRecipe 164 = .ok (.aload_n 0, 1) := by decide +kernel
theorem dX12_addRecipe_165 : decode cX12_addRecipe 165 = .ok (.getfield 9, 3) := by decide +kernel
theorem dX12_addRecipe_168 : decode cX12_addRecipe 168 = .ok (.bipush 43, 2) := by decide +kernel
theorem dX12_addRecipe_170 : decode cX12_addRecipe 170 = .ok (.iload 6, 2) := by decide +kernel
theorem dX12_addRecipe_172 : decode cX12_addRecipe 172 = .ok (.iadd, 1) := by decide +kernel
theorem dX12_addRecipe_173 : decode cX12_addRecipe 173 = .ok (.iload 5, 2) := by decide +kernel
theorem dX12_addRecipe_175 : decode cX12_addRecipe 175 = .ok (.iastore, 1) := by decide +kernel
theorem dX12_addRecipe_176 : decode cX12_addRecipe 176 = .ok (.aload_n 0, 1) := by decide +kernel
theorem dX12_addRecipe_177 : decode cX12_addRecipe 177 = .ok (.getfield 9, 3) := by decide +kernel
theorem dX12_addRecipe_180 : decode cX12_addRecipe 180 = .ok (.bipush 49, 2) := by decide +kernel
theorem dX12_addRecipe_182 : decode cX12_addRecipe 182 = .ok (.iload 6, 2) := by decide +kernel
theorem dX12_addRecipe_184 : decode cX12_addRecipe 184 = .ok (.iadd, 1) := by decide +kernel
theorem dX12_addRecipe_185 : decode cX12_addRecipe 185 = .ok (.bipush 20, 2) := by decide +kernel
theorem dX12_addRecipe_187 : decode cX12_addRecipe 187 = .ok (.iastore, 1) := by decide +kernel
theorem dX12_addRecipe_188 : decode cX12_addRecipe 188 = .ok (.iload 6, 2) := by decide +kernel
theorem dX12_addRecipe_190 : decode cX12_addRecipe 190 = .ok (.ireturn, 1) := by decide +kernel
set_option maxRecDepth 20000 in
theorem ggX12_setWait_X12_isRecipe : GoodIn wsX12_setWait wsX12_isRecipe := goodIn_r _ [6, 1, 7, 8, 5, 9, 26, 27, 28, 29, 30, 31, 32, 33, 34, 35, 36, 37, 38, 39, 40, 41, 42, 43, 44, 45] (by decide +kernel) (by decide +kernel)
set_option maxRecDepth 20000 in
theorem gX12_setWait_X12_isRecipe : GoodIn wsX12_setWait (wsV RX12 77 RX12 yX12_isRecipe wsX12_isRecipe) := goodIn_app (goodIn_of _ (by decide +kernel)) ggX12_setWait_X12_isRecipe
set_option maxRecDepth 20000 in
theorem ggX12_setWait_X12_can : GoodIn wsX12_setWait wsX12_can := goodIn_r _ [13, 14, 26, 27, 28, 29, 30, 31, 32, 33, 34, 35, 36, 37, 38, 39, 40, 41, 42, 43, 44, 45] (by decide +kernel) (by decide +kernel)
set_option maxRecDepth 20000 in
theorem gX12_setWait_X12_can : GoodIn wsX12_setWait (wsV RX12 60 RX12 yX12_can wsX12_can) := goodIn_app (goodIn_of _ (by decide +kernel)) ggX12_setWait_X12_can
set_option maxRecDepth 20000 in
theorem ggX12_setWait_X12_in : GoodIn wsX12_setWait wsX12_in := goodIn_r _ [9] (by decide +kernel) (by decide +kernel)
set_option maxRecDepth 20000 in
theorem gX12_setWait_X12_in : GoodIn wsX12_setWait (va_wsS RX12 64 yX12_in wsX12_in) := goodIn_app (goodIn_of _ (by decide +kernel)) ggX12_setWait_X12_in
set_option maxRecDepth 20000 in
theorem ggX12_setWait_X12_keep : GoodIn wsX12_setWait wsX12_keep := goodIn_r _ [18, 19, 20, 21, 1, 22, 23, 24, 5, 25, 26, 27, 28, 29, 30, 31, 32, 33, 34, 35, 36, 37, 38, 39, 40, 41, 42, 43, 44, 45] (by decide +kernel) (by decide +kernel)
set_option maxRecDepth 20000 in
theorem gX12_setWait_X12_keep : GoodIn wsX12_setWait (wsV RX12 74 RX12 yX12_keep wsX12_keep) := goodIn_app (goodIn_of _ (by decide +kernel)) ggX12_setWait_X12_keep
theorem dX12_setWait_0 : decode cX12_setWait 0 = .ok (.aload_n 0, 1) := by decide +kernel
theorem dX12_setWait_1 : decode cX12_setWait 1 = .ok (.aload_n 0, 1) := by decide +kernel
theorem dX12_setWait_2 : decode cX12_setWait 2 = .ok (.iload_n 1, 1) := by decide +kernel
theorem dX12_setWait_3 : decode cX12_setWait 3 = .ok (.invokevirtual 77, 3) := by decide +kernel
theorem dX12_setWait_6 : decode cX12_setWait 6 = .ok (.iconst 1, 1) := by decide +kernel
theorem dX12_setWait_7 : decode cX12_setWait 7 = .ok (.invokevirtual 60, 3) := by decide +kernel
theorem dX12_setWait_10 : decode cX12_setWait 10 = .ok (.ifCond .eq 18, 3) := by decide +kernel
theorem dX12_setWait_13 : decode cX12_setWait 13 = .ok (.aload_n 0, 1) := by decide +kernel
theorem dX12_setWait_14 : decode cX12_setWait 14 = .ok (.iload_n 2, 1) := by decide +kernel
theorem dX12_setWait_15 : decode cX12_setWait 15 = .ok (.iconst 0, 1) := by decide +kernel
theorem dX12_setWait_16 : decode cX12_setWait 16 = .ok (.bipush 99, 2) := by decide +kernel
theorem dX12_setWait_18 : decode cX12_setWait 18 = .ok (.invokestatic 64, 3) := by decide +kernel
theorem dX12_setWait_21 : decode cX12_setWait 21 = .ok (.iconst 2, 1) := by decide +kernel
theorem dX12_setWait_22 : decode cX12_setWait 22 = .ok (.invokevirtual 60, 3) := by decide +kernel
theorem dX12_setWait_25 : decode cX12_setWait 25 = .ok (.ifCond .ne 5, 3) := by decide +kernel
theorem dX12_setWait_28 : decode cX12_setWait 28 = .ok (.iconst 0, 1) := by decide +kernel
theorem dX12_setWait_29 : decode cX12_setWait 29 = .ok (.ireturn, 1) := by decide +kernel
theorem dX12_setWait_30 : decode cX12_setWait 30 = .ok (.aload_n 0, 1) := by decide +kernel
theorem dX12_setWait_31 : decode cX12_setWait 31 = .ok (.invokevirtual 74, 3) := by decide +kernel
theorem dX12_setWait_34 : decode cX12_setWait 34 = .ok (.aload_n 0, 1) := by decide +kernel
theorem dX12_setWait_35 : decode cX12_setWait 35 = .ok (.getfield 9, 3) := by decide +kernel
theorem dX12_setWait_38 : decode cX12_setWait 38 = .ok (.bipush 49, 2) := by decide +kernel
theorem dX12_setWait_40 : decode cX12_setWait 40 = .ok (.iload_n 1, 1) := by decide +kernel
theorem dX12_setWait_41 : decode cX12_setWait 41 = .ok (.iadd, 1) := by decide +kernel
theorem dX12_setWait_42 : decode cX12_setWait 42 = .ok (.iaload, 1) := by decide +kernel
theorem dX12_setWait_43 : decode cX12_setWait 43 = .ok (.istore_n 3, 1) := by decide +kernel
theorem dX12_setWait_44 : decode cX12_setWait 44 = .ok (.aload_n 0, 1) := by decide +kernel
theorem dX12_setWait_45 : decode cX12_setWait 45 = .ok (.getfield 9, 3) := by decide +kernel
theorem dX12_setWait_48 : decode cX12_setWait 48 = .ok (.bipush 49, 2) := by decide +kernel
theorem dX12_setWait_50 : decode cX12_setWait 50 = .ok (.iload_n 1, 1) := by decide +kernel
theorem dX12_setWait_51 : decode cX12_setWait 51 = .ok (.iadd, 1) := by decide +kernel
theorem dX12_setWait_52 : decode cX12_setWait 52 = .ok (.iload_n 2, 1) := by decide +kernel
theorem dX12_setWait_53 : decode cX12_setWait 53 = .ok (.iastore, 1) := by decide +kernel
theorem dX12_setWait_54 : decode cX12_setWait 54 = .ok (.iload_n 3, 1) := by decide +kernel
theorem dX12_setWait_55 : decode cX12_setWait 55 = .ok (.ireturn, 1) := by decide +kernel
set_option maxRecDepth 20000 in
theorem ggX12_setPart_X12_isRecipe : GoodIn wsX12_setPart wsX12_isRecipe := goodIn_r _ [6, 1, 7, 8, 5, 9, 29, 30, 31, 32, 33, 34, 35, 36, 37, 38, 39, 40, 41, 42, 43, 44, 45, 46, 47, 48] (by decide +kernel) (by decide +kernel)
set_option maxRecDepth 20000 in
theorem gX12_setPart_X12_isRecipe : GoodIn wsX12_setPart (wsV RX12 77 RX12 yX12_isRecipe wsX12_isRecipe) := goodIn_app (goodIn_of _ (by decide +kernel)) ggX12_setPart_X12_isRecipe
set_option maxRecDepth 20000 in
theorem ggX12_setPart_X12_isGood : GoodIn wsX12_setPart wsX12_isGood := goodIn_r _ [12, 7, 8, 5, 9] (by decide +kernel) (by decide +kernel)
set_option maxRecDepth 20000 in
theorem gX12_setPart_X12_isGood : GoodIn wsX12_setPart (va_wsS RX12 68 yX12_isGood wsX12_isGood) := goodIn_app (goodIn_of _ (by decide +kernel)) ggX12_setPart_X12_isGood
set_option maxRecDepth 20000 in
theorem ggX12_setPart_X12_can : GoodIn wsX12_setPart wsX12_can := goodIn_r _ [16, 17, 29, 30, 31, 32, 33, 34, 35, 36, 37, 38, 39, 40, 41, 42, 43, 44, 45, 46, 47, 48] (by decide +kernel) (by decide +kernel)
set_option maxRecDepth 20000 in
theorem gX12_setPart_X12_can : GoodIn wsX12_setPart (wsV RX12 60 RX12 yX12_can wsX12_can) := goodIn_app (goodIn_of _ (by decide +kernel)) ggX12_setPart_X12_can
set_option maxRecDepth 20000 in
theorem ggX12_setPart_X12_in : GoodIn wsX12_setPart wsX12_in := goodIn_r _ [9] (by decide +kernel) (by decide +kernel)
set_option maxRecDepth 20000 in
theorem gX12_setPart_X12_in : GoodIn wsX12_setPart (va_wsS RX12 64 yX12_in wsX12_in) := goodIn_app (goodIn_of _ (by decide +kernel)) ggX12_setPart_X12_in
set_option maxRecDepth 20000 in
theorem ggX12_setPart_X12_keep : GoodIn wsX12_setPart wsX12_keep := goodIn_r _ [21, 22, 23, 24, 1, 25, 26, 27, 5, 28, 29, 30, 31, 32, 33, 34, 35, 36, 37, 38, 39, 40, 41, 42, 43, 44, 45, 46, 47, 48] (by decide +kernel) (by decide +kernel)
set_option maxRecDepth 20000 in
theorem gX12_setPart_X12_keep : GoodIn wsX12_setPart (wsV RX12 74 RX12 yX12_keep wsX12_keep) := goodIn_app (goodIn_of _ (by decide +kernel)) ggX12_setPart_X12_keep
theorem dX12_setPart_0 : decode cX12_setPart 0 = .ok (.aload_n 0, 1) := by decide +kernel
theorem dX12_setPart_1 : decode cX12_setPart 1 = .ok (.aload_n 0, 1) := by decide +kernel
theorem dX12_setPart_2 : decode cX12_setPart 2 = .ok (.iload_n 1, 1) := by decide +kernel
theorem dX12_setPart_3 : decode cX12_setPart 3 = .ok (.invokevirtual 77, 3) := by decide +kernel
theorem dX12_setPart_6 : decode cX12_setPart 6 = .ok (.ifCond .eq 14, 3) := by decide +kernel
theorem dX12_setPart_9 : decode cX12_setPart 9 = .ok (.iload_n 2, 1) := by decide +kernel
theorem dX12_setPart_10 : decode cX12_setPart 10 = .ok (.invokestatic 68, 3) := by decide +kernel
theorem dX12_setPart_13 : decode cX12_setPart 13 = .ok (.ifCond .eq 7, 3) := by decide +kernel
theorem dX12_setPart_16 : decode cX12_setPart 16 = .ok (.iconst 1, 1) := by decide +kernel
theorem dX12_setPart_17 : decode cX12_setPart 17 = .ok (.goto 4, 3) := by decide +kernel
theorem dX12_setPart_20 : decode cX12_setPart 20 = .ok (.iconst 0, 1) := by decide +kernel
theorem dX12_setPart_21 : decode cX12_setPart 21 = .ok (.iconst 1, 1) := by decide +kernel
theorem dX12_setPart_22 : decode cX12_setPart 22 = .ok (.invokevirtual 60, 3) := by decide +kernel
theorem dX12_setPart_25 : decode cX12_setPart 25 = .ok (.ifCond .eq 19, 3) := by decide +kernel
theorem dX12_setPart_28 : decode cX12_setPart 28 = .ok (.aload_n 0, 1) := by decide +kernel
theorem dX12_setPart_29 : decode cX12_setPart 29 = .ok (.iload_n 3, 1) := by decide +kernel
theorem dX12_setPart_30 : decode cX12_setPart 30 = .ok (.iconst 0, 1) := by decide +kernel
theorem dX12_setPart_31 : decode cX12_setPart 31 = .ok (.sipush 9999, 3) := by decide +kernel
theorem dX12_setPart_34 : decode cX12_setPart 34 = .ok (.invokestatic 64, 3) := by decide +kernel
theorem dX12_setPart_37 : decode cX12_setPart 37 = .ok (.iconst 2, 1) := by decide +kernel
theorem dX12_setPart_38 : decode cX12_setPart 38 = .ok (.invokevirtual 60, 3) := by decide +kernel
theorem dX12_setPart_41 : decode cX12_setPart 41 = .ok (.ifCond .ne 5, 3) := by decide +kernel
theorem dX12_setPart_44 : decode cX12_setPart 44 = .ok (.iconst 0, 1) := by decide +kernel
theorem dX12_setPart_45 : decode cX12_setPart 45 = .ok (.ireturn, 1) := by decide +kernel
theorem dX12_setPart_46 : decode cX12_setPart 46 = .ok (.aload_n 0, 1) := by decide +kernel
theorem dX12_setPart_47 : decode cX12_setPart 47 = .ok (.invokevirtual 74, 3) := by decide +kernel
theorem dX12_setPart_50 : decode cX12_setPart 50 = .ok (.aload_n 0, 1) := by decide +kernel
theorem dX12_setPart_51 : decode cX12_setPart 51 = .ok (.getfield 9, 3) := by decide +kernel
theorem dX12_setPart_54 : decode cX12_setPart 54 = .ok (.bipush 55, 2) := by decide +kernel
theorem dX12_setPart_56 : decode cX12_setPart 56 = .ok (.bipush 8, 2) := by decide +kernel
theorem dX12_setPart_58 : decode cX12_setPart 58 = .ok (.iload_n 1, 1) := by decide +kernel
theorem dX12_setPart_59 : decode cX12_setPart 59 = .ok (.imul, 1) := by decide +kernel
theorem dX12_setPart_60 : decode cX12_setPart 60 = .ok (.iadd, 1) := by decide +kernel
theorem dX12_setPart_61 : decode cX12_setPart 61 = .ok (.iload_n 2, 1) := by decide +kernel
theorem dX12_setPart_62 : decode cX12_setPart 62 = .ok (.iadd, 1) := by decide +kernel
theorem dX12_setPart_63 : decode cX12_setPart 63 = .ok (.iaload, 1) := by decide +kernel
theorem dX12_setPart_64 : decode cX12_setPart 64 = .ok (.istore 4, 2) := by decide +kernel
theorem dX12_setPart_66 : decode cX12_setPart 66 = .ok (.aload_n 0, 1) := by decide +kernel
theorem dX12_setPart_67 : decode cX12_setPart 67 = .ok (.getfield 9, 3) := by decide +kernel
theorem dX12_setPart_70 : decode cX12_setPart 70 = .ok (.bipush 55, 2) := by decide +kernel
theorem dX12_setPart_72 : decode cX12_setPart 72 = .ok (.bipush 8, 2) := by decide +kernel
theorem dX12_setPart_74 : decode cX12_setPart 74 = .ok (.iload_n 1, 1) := by decide +kernel
theorem dX12_setPart_75 : decode cX12_setPart 75 = .ok (.imul, 1) := by decide +kernel
theorem dX12_setPart_76 : decode cX12_setPart 76 = .ok (.iadd, 1) := by decide +kernel
theorem dX12_setPart_77 : decode cX12_setPart 77 = .ok (.iload_n 2, 1) := by decide +kernel
theorem dX12_setPart_78 : decode cX12_setPart 78 = .ok (.iadd, 1) := by decide +kernel
theorem dX12_setPart_79 : decode cX12_setPart 79 = .ok (.iload_n 3, 1) := by decide +kernel
theorem dX12_setPart_80 : decode cX12_setPart 80 = .ok (.iastore, 1) := by decide +kernel
theorem dX12_setPart_81 : decode cX12_setPart 81 = .ok (.iload 4, 2) := by decide +kernel
theorem dX12_setPart_83 : decode cX12_setPart 83 = .ok (.ireturn, 1) := by decide +kernel
theorem dX12_partsUpTo_0 : decode cX12_partsUpTo 0 = .ok (.iconst 0, 1) := by decide +kernel
theorem dX12_partsUpTo_1 : decode cX12_partsUpTo 1 = .ok (.istore_n 3, 1) := by decide +kernel
theorem dX12_partsUpTo_2 : decode cX12_partsUpTo 2 = .ok (.iconst 0, 1) := by decide +kernel
theorem dX12_partsUpTo_3 : decode cX12_partsUpTo 3 = .ok (.istore 4, 2) := by decide +kernel
theorem dX12_partsUpTo_5 : decode cX12_partsUpTo 5 = .ok (.iload 4, 2) := by decide +kernel
theorem dX12_partsUpTo_7 : decode cX12_partsUpTo 7 = .ok (.iload_n 2, 1) := by decide +kernel
theorem dX12_partsUpTo_8 : decode cX12_partsUpTo 8 = .ok (.if_icmp .gt 27, 3) := by decide +kernel
theorem dX12_partsUpTo_11 : decode cX12_partsUpTo 11 = .ok (.iload_n 3, 1) := by decide +kernel
theorem dX12_partsUpTo_12 : decode cX12_partsUpTo 12 = .ok (.aload_n 0, 1) := by decide +kernel
theorem dX12_partsUpTo_13 : decode cX12_partsUpTo 13 = .ok (.getfield 9, 3) := by decide +kernel
theorem dX12_partsUpTo_16 : decode cX12_partsUpTo 16 = .ok (.bipush 55, 2) := by decide +kernel
theorem dX12_partsUpTo_18 : decode cX12_partsUpTo 18 = .ok (.bipush 8, 2) := by decide +kernel
theorem dX12_partsUpTo_20 : decode cX12_partsUpTo 20 = .ok (.iload_n 1, 1) := by decide +kernel
theorem dX12_partsUpTo_21 : decode cX12_partsUpTo 21 = .ok (.imul, 1) := by decide +kernel
theorem dX12_partsUpTo_22 : decode cX12_partsUpTo 22 = .ok (.iadd, 1) := by decide +kernel
theorem dX12_partsUpTo_23 : decode cX12_partsUpTo 23 = .ok (.iload 4, 2) := by decide +kernel
theorem dX12_partsUpTo_25 : decode cX12_partsUpTo 25 = .ok (.iadd, 1) := by decide +kernel
theorem dX12_partsUpTo_26 : decode cX12_partsUpTo 26 = .ok (.iaload, 1) := by decide +kernel
theorem dX12_partsUpTo_27 : decode cX12_partsUpTo 27 = .ok (.iadd, 1) := by decide +kernel
theorem dX12_partsUpTo_28 : decode cX12_partsUpTo 28 = .ok (.istore_n 3, 1) := by decide +kernel
theorem dX12_partsUpTo_29 : decode cX12_partsUpTo 29 = .ok (.iinc 4 1, 3) := by decide +kernel
theorem dX12_partsUpTo_32 : decode cX12_partsUpTo 32 = .ok (.goto (-27), 3) := by decide +kernel
theorem dX12_partsUpTo_35 : decode cX12_partsUpTo 35 = .ok (.iload_n 3, 1) := by decide +kernel
theorem dX12_partsUpTo_36 : decode cX12_partsUpTo 36 = .ok (.ireturn, 1) := by decide +kernel
set_option maxRecDepth 20000 in
theorem ggX12_allParts_X12_partsUpTo : GoodIn wsX12_allParts wsX12_partsUpTo := goodIn_r _ [5, 6, 7, 8, 9, 10, 11, 12, 13, 14, 15, 16, 17, 18, 19, 20, 21, 22, 23, 24, 25, 26] (by decide +kernel) (by decide +kernel)
set_option maxRecDepth 20000 in
theorem gX12_allParts_X12_partsUpTo : GoodIn wsX12_allParts (wsV RX12 80 RX12 yX12_partsUpTo wsX12_partsUpTo) := goodIn_app (goodIn_of _ (by decide +kernel)) ggX12_allParts_X12_partsUpTo
theorem dX12_allParts_0 : decode cX12_allParts 0 = .ok (.aload_n 0, 1) := by decide +kernel
theorem dX12_allParts_1 : decode cX12_allParts 1 = .ok (.iload_n 1, 1) := by decide +kernel
theorem dX12_allParts_2 : decode cX12_allParts 2 = .ok (.bipush 7, 2) := by decide +kernel
theorem dX12_allParts_4 : decode cX12_allParts 4 = .ok (.invokevirtual 80, 3) := by decide +kernel
theorem dX12_allParts_7 : decode cX12_allParts 7 = .ok (.ireturn, 1) := by decide +kernel
set_option maxRecDepth 20000 in
theorem ggX12_scales_X12_allParts : GoodIn wsX12_scales wsX12_allParts := goodIn_r _ [6, 7, 8, 9, 5, 10, 11, 12, 13, 14, 15, 16, 17, 18, 19, 20, 21, 22, 23, 24, 25, 26, 27, 28, 29, 30, 31] (by decide +kernel) (by decide +kernel)
set_option maxRecDepth 20000 in
theorem gX12_scales_X12_allParts : GoodIn wsX12_scales (wsV RX12 84 RX12 yX12_allParts wsX12_allParts) := goodIn_app (goodIn_of _ (by decide +kernel)) ggX12_scales_X12_allParts
set_option maxRecDepth 20000 in
theorem ggX12_scales_X12_partsUpTo : GoodIn wsX12_scales wsX12_partsUpTo := goodIn_r _ [10, 11, 12, 13, 14, 15, 16, 17, 18, 19, 20, 21, 22, 23, 24, 25, 26, 27, 28, 29, 30, 31] (by decide +kernel) (by decide +kernel)
set_option maxRecDepth 20000 in
theorem gX12_scales_X12_partsUpTo : GoodIn wsX12_scales (wsV RX12 80 RX12 yX12_partsUpTo wsX12_partsUpTo) := goodIn_app (goodIn_of _ (by decide +kernel)) ggX12_scales_X12_partsUpTo
theorem dX12_scales_0 : decode cX12_scales 0 = .ok (.aload_n 0, 1) := by decide +kernel
theorem dX12_scales_1 : decode cX12_scales 1 = .ok (.iload_n 1, 1) := by decide +kernel
theorem dX12_scales_2 : decode cX12_scales 2 = .ok (.invokevirtual 84, 3) := by decide +kernel
theorem dX12_scales_5 : decode cX12_scales 5 = .ok (.i2l, 1) := by decide +kernel
theorem dX12_scales_6 : decode cX12_scales 6 = .ok (.lstore_n 3, 1) := by decide +kernel
theorem dX12_scales_7 : decode cX12_scales 7 = .ok (.lconst 0, 1) := by decide +kernel
theorem dX12_scales_8 : decode cX12_scales 8 = .ok (.lstore 5, 2) := by decide +kernel
theorem dX12_scales_10 : decode cX12_scales 10 = .ok (.iconst 0, 1) := by decide +kernel
theorem dX12_scales_11 : decode cX12_scales 11 = .ok (.istore 7, 2) := by decide +kernel
theorem dX12_scales_13 : decode cX12_scales 13 = .ok (.iload 7, 2) := by decide +kernel
theorem dX12_scales_15 : decode cX12_scales 15 = .ok (.bipush 8, 2) := by decide +kernel
theorem dX12_scales_17 : decode cX12_scales 17 = .ok (.if_icmp .ge 41, 3) := by decide +kernel
theorem dX12_scales_20 : decode cX12_scales 20 = .ok (.iload_n 2, 1) := by decide +kernel
theorem dX12_scales_21 : decode cX12_scales 21 = .ok (.i2l, 1) := by decide +kernel
theorem dX12_scales_22 : decode cX12_scales 22 = .ok (.aload_n 0, 1) := by decide +kernel
theorem dX12_scales_23 : decode cX12_scales 23 = .ok (.iload_n 1, 1) := by decide +kernel
theorem dX12_scales_24 : decode cX12_scales 24 = .ok (.iload 7, 2) := by decide +kernel
theorem dX12_scales_26 : decode cX12_scales 26 = .ok (.invokevirtual 80, 3) := by decide +kernel
theorem dX12_scales_29 : decode cX12_scales 29 = .ok (.i2l, 1) := by decide +kernel
theorem dX12_scales_30 : decode cX12_scales 30 = .ok (.lmul, 1) := by decide +kernel
theorem dX12_scales_31 : decode cX12_scales 31 = .ok (.lload_n 3, 1) := by decide +kernel
theorem dX12_scales_32 : decode cX12_scales 32 = .ok (.ldiv, 1) := by decide +kernel
theorem dX12_scales_33 : decode cX12_scales 33 = .ok (.lstore 8, 2) := by decide +kernel
theorem dX12_scales_35 : decode cX12_scales 35 = .ok (.aload_n 0, 1) := by decide +kernel
theorem dX12_scales_36 : decode cX12_scales 36 = .ok (.getfield 22, 3) := by decide +kernel
theorem dX12_scales_39 : decode cX12_scales 39 = .ok (.iload 7, 2) := by decide +kernel
theorem dX12_scales_41 : decode cX12_scales 41 = .ok (.lload 8, 2) := by decide +kernel
theorem dX12_scales_43 : decode cX12_scales 43 = .ok (.lload 5, 2) := by decide +kernel
theorem dX12_scales_45 : decode cX12_scales 45 = .ok (.lsub, 1) := by decide +kernel
theorem dX12_scales_46 : decode cX12_scales 46 = .ok (.l2i, 1) := by decide +kernel
theorem dX12_scales_47 : decode cX12_scales 47 = .ok (.iastore, 1) := by decide +kernel
theorem dX12_scales_48 : decode cX12_scales 48 = .ok (.lload 8, 2) := by decide +kernel
theorem dX12_scales_50 : decode cX12_scales 50 = .ok (.lstore 5, 2) := by decide +kernel
theorem dX12_scales_52 : decode cX12_scales 52 = .ok (.iinc 7 1, 3) := by decide +kernel
theorem dX12_scales_55 : decode cX12_scales 55 = .ok (.goto (-42), 3) := by decide +kernel
theorem dX12_scales_58 : decode cX12_scales 58 = .ok (.return_, 1) := by decide +kernel
set_option maxRecDepth 20000 in
theorem ggX12_amount_X12_isRecipe : GoodIn wsX12_amount wsX12_isRecipe := goodIn_r _ [7, 8, 9, 10, 6, 11, 32, 33, 34, 35, 36, 37, 38, 39, 40, 41, 42, 43, 44, 45, 46, 47, 48, 49, 50, 51] (by decide +kernel) (by decide +kernel)
set_option maxRecDepth 20000 in
theorem gX12_amount_X12_isRecipe : GoodIn wsX12_amount (wsV RX12 77 RX12 yX12_isRecipe wsX12_isRecipe) := goodIn_app (goodIn_of _ (by decide +kernel)) ggX12_amount_X12_isRecipe
set_option maxRecDepth 20000 in
theorem ggX12_amount_X12_isGood : GoodIn wsX12_amount wsX12_isGood := goodIn_r _ [14, 9, 10, 6, 11] (by decide +kernel) (by decide +kernel)
set_option maxRecDepth 20000 in
theorem gX12_amount_X12_isGood : GoodIn wsX12_amount (va_wsS RX12 68 yX12_isGood wsX12_isGood) := goodIn_app (goodIn_of _ (by decide +kernel)) ggX12_amount_X12_isGood
set_option maxRecDepth 20000 in
theorem ggX12_amount_X12_can : GoodIn wsX12_amount wsX12_can := goodIn_r _ [18, 19, 32, 33, 34, 35, 36, 37, 38, 39, 40, 41, 42, 43, 44, 45, 46, 47, 48, 49, 50, 51] (by decide +kernel) (by decide +kernel)
set_option maxRecDepth 20000 in
theorem gX12_amount_X12_can : GoodIn wsX12_amount (wsV RX12 60 RX12 yX12_can wsX12_can) := goodIn_app (goodIn_of _ (by decide +kernel)) ggX12_amount_X12_can
set_option maxRecDepth 20000 in
theorem ggX12_amount_X12_in : GoodIn wsX12_amount wsX12_in := goodIn_r _ [11] (by decide +kernel) (by decide +kernel)
set_option maxRecDepth 20000 in
theorem gX12_amount_X12_in : GoodIn wsX12_amount (va_wsS RX12 64 yX12_in wsX12_in) := goodIn_app (goodIn_of _ (by decide +kernel)) ggX12_amount_X12_in
set_option maxRecDepth 20000 in
theorem ggX12_amount_X12_allParts : GoodIn wsX12_amount wsX12_allParts := goodIn_r _ [23, 24, 25, 26, 6, 27, 8, 32, 33, 34, 35, 36, 37, 38, 39, 40, 41, 42, 43, 44, 45, 46, 47, 48, 49, 50, 51] (by decide +kernel) (by decide +kernel)
set_option maxRecDepth 20000 in
theorem gX12_amount_X12_allParts : GoodIn wsX12_amount (wsV RX12 84 RX12 yX12_allParts wsX12_allParts) := goodIn_app (goodIn_of _ (by decide +kernel)) ggX12_amount_X12_allParts
set_option maxRecDepth 20000 in
theorem ggX12_amount_X12_scales : GoodIn wsX12_amount wsX12_scales := goodIn_r _ [31, 2, 20, 21, 22, 6, 23, 24, 25, 26, 27, 8, 32, 33, 34, 35, 36, 37, 38, 39, 40, 41, 42, 43, 44, 45, 46, 47, 48, 49, 50, 51] (by decide +kernel) (by decide +kernel)
set_option maxRecDepth 20000 in
theorem gX12_amount_X12_scales : GoodIn wsX12_amount (wsV RX12 89 RX12 yX12_scales wsX12_scales) := goodIn_app (goodIn_of _ (by decide +kernel)) ggX12_amount_X12_scales
theorem dX12_amount_0 : decode cX12_amount 0 = .ok (.aload_n 0, 1) := by decide +kernel
theorem dX12_amount_1 : decode cX12_amount 1 = .ok (.aload_n 0, 1) := by decide +kernel
theorem dX12_amount_2 : decode cX12_amount 2 = .ok (.iload_n 1, 1) := by decide +kernel
theorem dX12_amount_3 : decode cX12_amount 3 = .ok (.invokevirtual 77, 3) := by decide +kernel
theorem dX12_amount_6 : decode cX12_amount 6 = .ok (.ifCond .eq 14, 3) := by decide +kernel
theorem dX12_amount_9 : decode cX12_amount 9 = .ok (.iload_n 3, 1) := by decide +kernel
theorem dX12_amount_10 : decode cX12_amount 10 = .ok (.invokestatic 68, 3) := by decide +kernel
theorem dX12_amount_13 : decode cX12_amount 13 = .ok (.ifCond .eq 7, 3) := by decide +kernel
theorem dX12_amount_16 : decode cX12_amount 16 = .ok (.iconst 1, 1) := by decide +kernel
theorem dX12_amount_17 : decode cX12_amount 17 = .ok (.goto 4, 3) := by decide +kernel
theorem dX12_amount_20 : decode cX12_amount 20 = .ok (.iconst 0, 1) := by decide +kernel
theorem dX12_amount_21 : decode cX12_amount 21 = .ok (.iconst 1, 1) := by decide +kernel
theorem dX12_amount_22 : decode cX12_amount 22 = .ok (.invokevirtual 60, 3) := by decide +kernel
theorem dX12_amount_25 : decode cX12_amount 25 = .ok (.ifCond .eq 39, 3) := by decide +kernel
theorem dX12_amount_28 : decode cX12_amount 28 = .ok (.aload_n 0, 1) := by decide +kernel
theorem dX12_amount_29 : decode cX12_amount 29 = .ok (.iload_n 2, 1) := by decide +kernel
theorem dX12_amount_30 : decode cX12_amount 30 = .ok (.iconst 1, 1) := by decide +kernel
theorem dX12_amount_31 : decode cX12_amount 31 = .ok (.ldc 88, 2) := by decide +kernel
theorem dX12_amount_33 : decode cX12_amount 33 = .ok (.invokestatic 64, 3) := by decide +kernel
theorem dX12_amount_36 : decode cX12_amount 36 = .ok (.iconst 2, 1) := by decide +kernel
theorem dX12_amount_37 : decode cX12_amount 37 = .ok (.invokevirtual 60, 3) := by decide +kernel
theorem dX12_amount_40 : decode cX12_amount 40 = .ok (.ifCond .eq 24, 3) := by decide +kernel
theorem dX12_amount_43 : decode cX12_amount 43 = .ok (.aload_n 0, 1) := by decide +kernel
theorem dX12_amount_44 : decode cX12_amount 44 = .ok (.aload_n 0, 1) := by decide +kernel
theorem dX12_amount_45 : decode cX12_amount 45 = .ok (.iload_n 1, 1) := by decide +kernel
theorem dX12_amount_46 : decode cX12_amount 46 = .ok (.invokevirtual 84, 3) := by decide +kernel
theorem dX12_amount_49 : decode cX12_amount 49 = .ok (.ifCond .le 7, 3) := by decide +kernel
theorem dX12_amount_52 : decode cX12_amount 52 = .ok (.iconst 1, 1) := by decide +kernel
theorem dX12_amount_53 : decode cX12_amount 53 = .ok (.goto 4, 3) := by decide +kernel
theorem dX12_amount_56 : decode cX12_amount 56 = .ok (.iconst 0, 1) := by decide +kernel
theorem dX12_amount_57 : decode cX12_amount 57 = .ok (.iconst 3, 1) := by decide +kernel
theorem dX12_amount_58 : decode cX12_amount 58 = .ok (.invokevirtual 60, 3) := by decide +kernel
theorem dX12_amount_61 : decode cX12_amount 61 = .ok (.ifCond .ne 5, 3) := by decide +kernel
theorem dX12_amount_64 : decode cX12_amount 64 = .ok (.iconst 0, 1) := by decide +kernel
theorem dX12_amount_65 : decode cX12_amount 65 = .ok (.ireturn, 1) := by decide +kernel
theorem dX12_amount_66 : decode cX12_amount 66 = .ok (.aload_n 0, 1) := by decide +kernel
theorem dX12_amount_67 : decode cX12_amount 67 = .ok (.iload_n 1, 1) := by decide +kernel
theorem dX12_amount_68 : decode cX12_amount 68 = .ok (.iload_n 2, 1) := by decide +kernel
theorem dX12_amount_69 : decode cX12_amount 69 = .ok (.invokevirtual 89, 3) := by decide +kernel
theorem dX12_amount_72 : decode cX12_amount 72 = .ok (.aload_n 0, 1) := by decide +kernel
theorem dX12_amount_73 : decode cX12_amount 73 = .ok (.getfield 22, 3) := by decide +kernel
theorem dX12_amount_76 : decode cX12_amount 76 = .ok (.iload_n 3, 1) := by decide +kernel
theorem dX12_amount_77 : decode cX12_amount 77 = .ok (.iaload, 1) := by decide +kernel
theorem dX12_amount_78 : decode cX12_amount 78 = .ok (.ireturn, 1) := by decide +kernel
theorem dX12_recipeCount_0 : decode cX12_recipeCount 0 = .ok (.aload_n 0, 1) := by decide +kernel
theorem dX12_recipeCount_1 : decode cX12_recipeCount 1 = .ok (.iconst 0, 1) := by decide +kernel
theorem dX12_recipeCount_2 : decode cX12_recipeCount 2 = .ok (.putfield 46, 3) := by decide +kernel
theorem dX12_recipeCount_5 : decode cX12_recipeCount 5 = .ok (.aload_n 0, 1) := by decide +kernel
theorem dX12_recipeCount_6 : decode cX12_recipeCount 6 = .ok (.getfield 9, 3) := by decide +kernel
theorem dX12_recipeCount_9 : decode cX12_recipeCount 9 = .ok (.iconst 5, 1) := by decide +kernel
theorem dX12_recipeCount_10 : decode cX12_recipeCount 10 = .ok (.iaload, 1) := by decide +kernel
theorem dX12_recipeCount_11 : decode cX12_recipeCount 11 = .ok (.ireturn, 1) := by decide +kernel
set_option maxRecDepth 20000 in
theorem ggX12_isDough_X12_in : GoodIn wsX12_isDough wsX12_in := goodIn_r _ [5] (by decide +kernel) (by decide +kernel)
set_option maxRecDepth 20000 in
theorem gX12_isDough_X12_in : GoodIn wsX12_isDough (va_wsS RX12 64 yX12_in wsX12_in) := goodIn_app (goodIn_of _ (by decide +kernel)) ggX12_isDough_X12_in
theorem dX12_isDough_0 : decode cX12_isDough 0 = .ok (.iload_n 1, 1) := by decide +kernel
theorem dX12_isDough_1 : decode cX12_isDough 1 = .ok (.iconst 0, 1) := by decide +kernel
theorem dX12_isDough_2 : decode cX12_isDough 2 = .ok (.aload_n 0, 1) := by decide +kernel
theorem dX12_isDough_3 : decode cX12_isDough 3 = .ok (.getfield 9, 3) := by decide +kernel
theorem dX12_isDough_6 : decode cX12_isDough 6 = .ok (.bipush 6, 2) := by decide +kernel
theorem dX12_isDough_8 : decode cX12_isDough 8 = .ok (.iaload, 1) := by decide +kernel
theorem dX12_isDough_9 : decode cX12_isDough 9 = .ok (.iconst 1, 1) := by decide +kernel
theorem dX12_isDough_10 : decode cX12_isDough 10 = .ok (.isub, 1) := by decide +kernel
theorem dX12_isDough_11 : decode cX12_isDough 11 = .ok (.invokestatic 64, 3) := by decide +kernel
theorem dX12_isDough_14 : decode cX12_isDough 14 = .ok (.ireturn, 1) := by decide +kernel
theorem dX12_gramsOf_0 : decode cX12_gramsOf 0 = .ok (.aload_n 0, 1) := by decide +kernel
theorem dX12_gramsOf_1 : decode cX12_gramsOf 1 = .ok (.getfield 9, 3) := by decide +kernel
theorem dX12_gramsOf_4 : decode cX12_gramsOf 4 = .ok (.bipush 123, 2) := by decide +kernel
theorem dX12_gramsOf_6 : decode cX12_gramsOf 6 = .ok (.iload_n 1, 1) := by decide +kernel
theorem dX12_gramsOf_7 : decode cX12_gramsOf 7 = .ok (.iadd, 1) := by decide +kernel
theorem dX12_gramsOf_8 : decode cX12_gramsOf 8 = .ok (.iaload, 1) := by decide +kernel
theorem dX12_gramsOf_9 : decode cX12_gramsOf 9 = .ok (.aload_n 0, 1) := by decide +kernel
theorem dX12_gramsOf_10 : decode cX12_gramsOf 10 = .ok (.getfield 9, 3) := by decide +kernel
theorem dX12_gramsOf_13 : decode cX12_gramsOf 13 = .ok (.bipush 19, 2) := by decide +kernel
theorem dX12_gramsOf_15 : decode cX12_gramsOf 15 = .ok (.aload_n 0, 1) := by decide +kernel
theorem dX12_gramsOf_16 : decode cX12_gramsOf 16 = .ok (.getfield 9, 3) := by decide +kernel
theorem dX12_gramsOf_19 : decode cX12_gramsOf 19 = .ok (.bipush 103, 2) := by decide +kernel
theorem dX12_gramsOf_21 : decode cX12_gramsOf 21 = .ok (.iload_n 1, 1) := by decide +kernel
theorem dX12_gramsOf_22 : decode cX12_gramsOf 22 = .ok (.iadd, 1) := by decide +kernel
theorem dX12_gramsOf_23 : decode cX12_gramsOf 23 = .ok (.iaload, 1) := by decide +kernel
theorem dX12_gramsOf_24 : decode cX12_gramsOf 24 = .ok (.iadd, 1) := by decide +kernel
theorem dX12_gramsOf_25 : decode cX12_gramsOf 25 = .ok (.iaload, 1) := by decide +kernel
theorem dX12_gramsOf_26 : decode cX12_gramsOf 26 = .ok (.imul, 1) := by decide +kernel
theorem dX12_gramsOf_27 : decode cX12_gramsOf 27 = .ok (.ireturn, 1) := by decide +kernel
theorem dX12_isThere_0 : decode cX12_isThere 0 = .ok (.iconst 0, 1) := by decide +kernel
theorem dX12_isThere_1 : decode cX12_isThere 1 = .ok (.istore_n 1, 1) := by decide +kernel
theorem dX12_isThere_2 : decode cX12_isThere 2 = .ok (.iload_n 1, 1) := by decide +kernel
theorem dX12_isThere_3 : decode cX12_isThere 3 = .ok (.bipush 8, 2) := by decide +kernel
theorem dX12_isThere_5 : decode cX12_isThere 5 = .ok (.if_icmp .ge 29, 3) := by decide +kernel
theorem dX12_isThere_8 : decode cX12_isThere 8 = .ok (.aload_n 0, 1) := by decide +kernel
theorem dX12_isThere_9 : decode cX12_isThere 9 = .ok (.getfield 22, 3) := by decide +kernel
theorem dX12_isThere_12 : decode cX12_isThere 12 = .ok (.iload_n 1, 1) := by decide +kernel
theorem dX12_isThere_13 : decode cX12_isThere 13 = .ok (.iaload, 1) := by decide +kernel
theorem dX12_isThere_14 : decode cX12_isThere 14 = .ok (.aload_n 0, 1) := by decide +kernel
theorem dX12_isThere_15 : decode cX12_isThere 15 = .ok (.getfield 9, 3) := by decide +kernel
theorem dX12_isThere_18 : decode cX12_isThere 18 = .ok (.bipush 11, 2) := by decide +kernel
theorem dX12_isThere_20 : decode cX12_isThere 20 = .ok (.iload_n 1, 1) := by decide +kernel
theorem dX12_isThere_21 : decode cX12_isThere 21 = .ok (.iadd, 1) := by decide +kernel
theorem dX12_isThere_22 : decode cX12_isThere 22 = .ok (.iaload, 1) := by decide +kernel
theorem dX12_isThere_23 : decode cX12_isThere 23 = .ok (.if_icmp .le 5, 3) := by decide +kernel
theorem dX12_isThere_26 : decode cX12_isThere 26 = .ok (.iconst 0, 1) := by decide +kernel
theorem dX12_isThere_27 : decode cX12_isThere 27 = .ok (.ireturn, 1) := by decide +kernel
theorem dX12_isThere_28 : decode cX12_isThere 28 = .ok (.iinc 1 1, 3) := by decide +kernel
theorem dX12_isThere_31 : decode cX12_isThere 31 = .ok (.goto (-29), 3) := by decide +kernel
theorem dX12_isThere_34 : decode cX12_isThere 34 = .ok (.iconst 1, 1) := by decide +kernel
theorem dX12_isThere_35 : decode cX12_isThere 35 = .ok (.ireturn, 1) := by decide +kernel
set_option maxRecDepth 20000 in
theorem ggX12_canMix_X12_allParts : GoodIn wsX12_canMix wsX12_allParts := goodIn_r _ [6, 7, 8, 9, 5, 10, 1, 20, 21, 22, 23, 24, 25, 26, 27, 28, 29, 30, 31, 32, 33, 34, 35, 36, 37, 38, 39] (by decide +kernel) (by decide +kernel)
set_option maxRecDepth 20000 in
theorem gX12_canMix_X12_allParts : GoodIn wsX12_canMix (wsV RX12 84 RX12 yX12_allParts wsX12_allParts) := goodIn_app (goodIn_of _ (by decide +kernel)) ggX12_canMix_X12_allParts
set_option maxRecDepth 20000 in
theorem ggX12_canMix_X12_scales : GoodIn wsX12_canMix wsX12_scales := goodIn_r _ [14, 15, 2, 3, 4, 5, 6, 7, 8, 9, 10, 1, 20, 21, 22, 23, 24, 25, 26, 27, 28, 29, 30, 31, 32, 33, 34, 35, 36, 37, 38, 39] (by decide +kernel) (by decide +kernel)
set_option maxRecDepth 20000 in
theorem gX12_canMix_X12_scales : GoodIn wsX12_canMix (wsV RX12 89 RX12 yX12_scales wsX12_scales) := goodIn_app (goodIn_of _ (by decide +kernel)) ggX12_canMix_X12_scales
set_option maxRecDepth 20000 in
theorem ggX12_canMix_X12_isThere : GoodIn wsX12_canMix wsX12_isThere := goodIn_r _ [19, 15, 1, 20, 21, 22, 23, 24, 25, 26, 27, 28, 29, 30, 31, 32, 33, 34, 35, 36, 37, 38, 39] (by decide +kernel) (by decide +kernel)
set_option maxRecDepth 20000 in
theorem gX12_canMix_X12_isThere : GoodIn wsX12_canMix (wsV RX12 93 RX12 yX12_isThere wsX12_isThere) := goodIn_app (goodIn_of _ (by decide +kernel)) ggX12_canMix_X12_isThere
theorem dX12_canMix_0 : decode cX12_canMix 0 = .ok (.aload_n 0, 1) := by decide +kernel
theorem dX12_canMix_1 : decode cX12_canMix 1 = .ok (.getfield 9, 3) := by decide +kernel
theorem dX12_canMix_4 : decode cX12_canMix 4 = .ok (.bipush 6, 2) := by decide +kernel
theorem dX12_canMix_6 : decode cX12_canMix 6 = .ok (.iaload, 1) := by decide +kernel
theorem dX12_canMix_7 : decode cX12_canMix 7 = .ok (.bipush 20, 2) := by decide +kernel
theorem dX12_canMix_9 : decode cX12_canMix 9 = .ok (.if_icmp .eq 11, 3) := by decide +kernel
theorem dX12_canMix_12 : decode cX12_canMix 12 = .ok (.aload_n 0, 1) := by decide +kernel
theorem dX12_canMix_13 : decode cX12_canMix 13 = .ok (.iload_n 1, 1) := by decide +kernel
theorem dX12_canMix_14 : decode cX12_canMix 14 = .ok (.invokevirtual 84, 3) := by decide +kernel
theorem dX12_canMix_17 : decode cX12_canMix 17 = .ok (.ifCond .ne 5, 3) := by decide +kernel
theorem dX12_canMix_20 : decode cX12_canMix 20 = .ok (.iconst 0, 1) := by decide +kernel
theorem dX12_canMix_21 : decode cX12_canMix 21 = .ok (.ireturn, 1) := by decide +kernel
theorem dX12_canMix_22 : decode cX12_canMix 22 = .ok (.aload_n 0, 1) := by decide +kernel
theorem dX12_canMix_23 : decode cX12_canMix 23 = .ok (.iload_n 1, 1) := by decide +kernel
theorem dX12_canMix_24 : decode cX12_canMix 24 = .ok (.iload_n 2, 1) := by decide +kernel
theorem dX12_canMix_25 : decode cX12_canMix 25 = .ok (.aload_n 0, 1) := by decide +kernel
theorem dX12_canMix_26 : decode cX12_canMix 26 = .ok (.getfield 9, 3) := by decide +kernel
theorem dX12_canMix_29 : decode cX12_canMix 29 = .ok (.bipush 19, 2) := by decide +kernel
theorem dX12_canMix_31 : decode cX12_canMix 31 = .ok (.iload_n 1, 1) := by decide +kernel
theorem dX12_canMix_32 : decode cX12_canMix 32 = .ok (.iadd, 1) := by decide +kernel
theorem dX12_canMix_33 : decode cX12_canMix 33 = .ok (.iaload, 1) := by decide +kernel
theorem dX12_canMix_34 : decode cX12_canMix 34 = .ok (.imul, 1) := by decide +kernel
theorem dX12_canMix_35 : decode cX12_canMix 35 = .ok (.invokevirtual 89, 3) := by decide +kernel
theorem dX12_canMix_38 : decode cX12_canMix 38 = .ok (.aload_n 0, 1) := by decide +kernel
theorem dX12_canMix_39 : decode cX12_canMix 39 = .ok (.invokevirtual 93, 3) := by decide +kernel
theorem dX12_canMix_42 : decode cX12_canMix 42 = .ok (.ireturn, 1) := by decide +kernel
set_option maxRecDepth 20000 in
theorem ggX12_mix_X12_isRecipe : GoodIn wsX12_mix wsX12_isRecipe := goodIn_r _ [7, 1, 8, 9, 6, 10, 47, 48, 49, 50, 51, 52, 53, 54, 55, 56, 57, 58, 59, 60, 61, 62, 63, 64, 65, 66] (by decide +kernel) (by decide +kernel)
set_option maxRecDepth 20000 in
theorem gX12_mix_X12_isRecipe : GoodIn wsX12_mix (wsV RX12 77 RX12 yX12_isRecipe wsX12_isRecipe) := goodIn_app (goodIn_of _ (by decide +kernel)) ggX12_mix_X12_isRecipe
set_option maxRecDepth 20000 in
theorem ggX12_mix_X12_can : GoodIn wsX12_mix wsX12_can := goodIn_r _ [14, 15, 47, 48, 49, 50, 51, 52, 53, 54, 55, 56, 57, 58, 59, 60, 61, 62, 63, 64, 65, 66] (by decide +kernel) (by decide +kernel)
set_option maxRecDepth 20000 in
theorem gX12_mix_X12_can : GoodIn wsX12_mix (wsV RX12 60 RX12 yX12_can wsX12_can) := goodIn_app (goodIn_of _ (by decide +kernel)) ggX12_mix_X12_can
set_option maxRecDepth 20000 in
theorem ggX12_mix_X12_in : GoodIn wsX12_mix wsX12_in := goodIn_r _ [10] (by decide +kernel) (by decide +kernel)
set_option maxRecDepth 20000 in
theorem gX12_mix_X12_in : GoodIn wsX12_mix (va_wsS RX12 64 yX12_in wsX12_in) := goodIn_app (goodIn_of _ (by decide +kernel)) ggX12_mix_X12_in
set_option maxRecDepth 20000 in
theorem ggX12_mix_X12_canMix : GoodIn wsX12_mix wsX12_canMix := goodIn_r _ [19, 1, 20, 21, 22, 6, 23, 24, 25, 26, 27, 28, 29, 30, 31, 2, 32, 33, 34, 35, 47, 48, 49, 50, 51, 52, 53, 54, 55, 56, 57, 58, 59, 60, 61, 62, 63, 64, 65, 66] (by decide +kernel) (by decide +kernel)
set_option maxRecDepth 20000 in
theorem gX12_mix_X12_canMix : GoodIn wsX12_mix (wsV RX12 97 RX12 yX12_canMix wsX12_canMix) := goodIn_app (goodIn_of _ (by decide +kernel)) ggX12_mix_X12_canMix
set_option maxRecDepth 20000 in
theorem ggX12_mix_X12_keep : GoodIn wsX12_mix wsX12_keep := goodIn_r _ [39, 40, 41, 42, 1, 43, 44, 45, 6, 46, 47, 48, 49, 50, 51, 52, 53, 54, 55, 56, 57, 58, 59, 60, 61, 62, 63, 64, 65, 66] (by decide +kernel) (by decide +kernel)
set_option maxRecDepth 20000 in
theorem gX12_mix_X12_keep : GoodIn wsX12_mix (wsV RX12 74 RX12 yX12_keep wsX12_keep) := goodIn_app (goodIn_of _ (by decide +kernel)) ggX12_mix_X12_keep
theorem dX12_mix_0 : decode cX12_mix 0 = .ok (.aload_n 0, 1) := by decide +kernel
theorem dX12_mix_1 : decode cX12_mix 1 = .ok (.aload_n 0, 1) := by decide +kernel
theorem dX12_mix_2 : decode cX12_mix 2 = .ok (.iload_n 1, 1) := by decide +kernel
theorem dX12_mix_3 : decode cX12_mix 3 = .ok (.invokevirtual 77, 3) := by decide +kernel
theorem dX12_mix_6 : decode cX12_mix 6 = .ok (.iconst 1, 1) := by decide +kernel
theorem dX12_mix_7 : decode cX12_mix 7 = .ok (.invokevirtual 60, 3) := by decide +kernel
theorem dX12_mix_10 : decode cX12_mix 10 = .ok (.ifCond .eq 32, 3) := by decide +kernel
theorem dX12_mix_13 : decode cX12_mix 13 = .ok (.aload_n 0, 1) := by decide +kernel
theorem dX12_mix_14 : decode cX12_mix 14 = .ok (.iload_n 2, 1) := by decide +kernel
theorem dX12_mix_15 : decode cX12_mix 15 = .ok (.iconst 1, 1) := by decide +kernel
theorem dX12_mix_16 : decode cX12_mix 16 = .ok (.bipush 40, 2) := by decide +kernel
theorem dX12_mix_18 : decode cX12_mix 18 = .ok (.invokestatic 64, 3) := by decide +kernel
theorem dX12_mix_21 : decode cX12_mix 21 = .ok (.iconst 2, 1) := by decide +kernel
theorem dX12_mix_22 : decode cX12_mix 22 = .ok (.invokevirtual 60, 3) := by decide +kernel
theorem dX12_mix_25 : decode cX12_mix 25 = .ok (.ifCond .eq 17, 3) := by decide +kernel
theorem dX12_mix_28 : decode cX12_mix 28 = .ok (.aload_n 0, 1) := by decide +kernel
theorem dX12_mix_29 : decode cX12_mix 29 = .ok (.aload_n 0, 1) := by decide +kernel
theorem dX12_mix_30 : decode cX12_mix 30 = .ok (.iload_n 1, 1) := by decide +kernel
theorem dX12_mix_31 : decode cX12_mix 31 = .ok (.iload_n 2, 1) := by decide +kernel
theorem dX12_mix_32 : decode cX12_mix 32 = .ok (.invokevirtual 97, 3) := by decide +kernel
theorem dX12_mix_35 : decode cX12_mix 35 = .ok (.iconst 3, 1) := by decide +kernel
theorem dX12_mix_36 : decode cX12_mix 36 = .ok (.invokevirtual 60, 3) := by decide +kernel
theorem dX12_mix_39 : decode cX12_mix 39 = .ok (.ifCond .ne 5, 3) := by decide +kernel
theorem dX12_mix_42 : decode cX12_mix 42 = .ok (.iconst 0, 1) := by decide +kernel
theorem dX12_mix_43 : decode cX12_mix 43 = .ok (.ireturn, 1) := by decide +kernel
theorem dX12_mix_44 : decode cX12_mix 44 = .ok (.aload_n 0, 1) := by decide +kernel
theorem dX12_mix_45 : decode cX12_mix 45 = .ok (.invokevirtual 74, 3) := by decide +kernel
theorem dX12_mix_48 : decode cX12_mix 48 = .ok (.iconst 0, 1) := by decide +kernel
theorem dX12_mix_49 : decode cX12_mix 49 = .ok (.istore_n 3, 1) := by decide +kernel
theorem dX12_mix_50 : decode cX12_mix 50 = .ok (.iload_n 3, 1) := by decide +kernel
theorem dX12_mix_51 : decode cX12_mix 51 = .ok (.bipush 8, 2) := by decide +kernel
theorem dX12_mix_53 : decode cX12_mix 53 = .ok (.if_icmp .ge 27, 3) := by decide +kernel
theorem dX12_mix_56 : decode cX12_mix 56 = .ok (.aload_n 0, 1) := by decide +kernel
theorem dX12_mix_57 : decode cX12_mix 57 = .ok (.getfield 9, 3) := by decide +kernel
theorem dX12_mix_60 : decode cX12_mix 60 = .ok (.bipush 11, 2) := by decide +kernel
theorem dX12_mix_62 : decode cX12_mix 62 = .ok (.iload_n 3, 1) := by decide +kernel
theorem dX12_mix_63 : decode cX12_mix 63 = .ok (.iadd, 1) := by decide +kernel
theorem dX12_mix_64 : decode cX12_mix 64 = .ok (.dup2, 1) := by decide +kernel
theorem dX12_mix_65 : decode cX12_mix 65 = .ok (.iaload, 1) := by decide +kernel
theorem dX12_mix_66 : decode cX12_mix 66 = .ok (.aload_n 0, 1) := by decide +kernel
theorem dX12_mix_67 : decode cX12_mix 67 = .ok (.getfield 22, 3) := by decide +kernel
theorem dX12_mix_70 : decode cX12_mix 70 = .ok (.iload_n 3, 1) := by decide +kernel
theorem dX12_mix_71 : decode cX12_mix 71 = .ok (.iaload, 1) := by decide +kernel
theorem dX12_mix_72 : decode cX12_mix 72 = .ok (.isub, 1) := by decide +kernel
theorem dX12_mix_73 : decode cX12_mix 73 = .ok (.iastore, 1) := by decide +kernel
theorem dX12_mix_74 : decode cX12_mix 74 = .ok (.iinc 3 1, 3) := by decide +kernel
theorem dX12_mix_77 : decode cX12_mix 77 = .ok (.goto (-27), 3) := by decide +kernel
theorem dX12_mix_80 : decode cX12_mix 80 = .ok (.aload_n 0, 1) := by decide +kernel
theorem dX12_mix_81 : decode cX12_mix 81 = .ok (.getfield 9, 3) := by decide +kernel
theorem dX12_mix_84 : decode cX12_mix 84 = .ok (.bipush 6, 2) := by decide +kernel
theorem dX12_mix_86 : decode cX12_mix 86 = .ok (.iaload, 1) := by decide +kernel
theorem dX12_mix_87 : decode cX12_mix 87 = .ok (.istore_n 3, 1) := by decide +kernel
theorem dX12_mix_88 : decode cX12_mix 88 = .ok (.aload_n 0, 1) := by decide +kernel
theorem dX12_mix_89 : decode cX12_mix 89 = .ok (.getfield 9, 3) := by decide +kernel
theorem dX12_mix_92 : decode cX12_mix 92 = .ok (.bipush 6, 2) := by decide +kernel
theorem dX12_mix_94 : decode cX12_mix 94 = .ok (.dup2, 1) := by decide +kernel
theorem dX12_mix_95 : decode cX12_mix 95 = .ok (.iaload, 1) := by decide +kernel
theorem dX12_mix_96 : decode cX12_mix 96 = .ok (.iconst 1, 1) := by decide +kernel
theorem dX12_mix_97 : decode cX12_mix 97 = .ok (.iadd, 1) := by decide +kernel
theorem dX12_mix_98 : decode cX12_mix 98 = .ok (.iastore, 1) := by decide +kernel
theorem dX12_mix_99 : decode cX12_mix 99 = .ok (.aload_n 0, 1) := by decide +kernel
theorem dX12_mix_100 : decode cX12_mix 100 = .ok (.getfield 9, 3) := by decide +kernel
theorem dX12_mix_103 : decode cX12_mix 103 = .ok (.bipush 103, 2) := by decide +kernel
theorem dX12_mix_105 : decode cX12_mix 105 = .ok (.iload_n 3, 1) := by decide +kernel
theorem dX12_mix_106 : decode cX12_mix 106 = .ok (.iadd, 1) := by decide +kernel
theorem dX12_mix_107 : decode cX12_mix 107 = .ok (.iload_n 1, 1) := by decide +kernel
theorem dX12_mix_108 : decode cX12_mix 108 = .ok (.iastore, 1) := by decide +kernel
theorem dX12_mix_109 : decode cX12_mix 109 = .ok (.aload_n 0, 1) := by decide +kernel
theorem dX12_mix_110 : decode cX12_mix 110 = .ok (.getfield 9, 3) := by decide +kernel
theorem dX12_mix_113 : decode cX12_mix 113 = .ok (.bipush 123, 2) := by decide +kernel
theorem dX12_mix_115 : decode cX12_mix 115 = .ok (.iload_n 3, 1) := by decide +kernel
theorem dX12_mix_116 : decode cX12_mix 116 = .ok (.iadd, 1) := by decide +kernel
theorem dX12_mix_117 : decode cX12_mix 117 = .ok (.iload_n 2, 1) := by decide +kernel
theorem dX12_mix_118 : decode cX12_mix 118 = .ok (.iastore, 1) := by decide +kernel
theorem dX12_mix_119 : decode cX12_mix 119 = .ok (.aload_n 0, 1) := by decide +kernel
theorem dX12_mix_120 : decode cX12_mix 120 = .ok (.getfield 9, 3) := by decide +kernel
theorem dX12_mix_123 : decode cX12_mix 123 = .ok (.sipush 143, 3) := by decide +kernel
theorem dX12_mix_126 : decode cX12_mix 126 = .ok (.iload_n 3, 1) := by decide +kernel
theorem dX12_mix_127 : decode cX12_mix 127 = .ok (.iadd, 1) := by decide +kernel
theorem dX12_mix_128 : decode cX12_mix 128 = .ok (.iconst 0, 1) := by decide +kernel
theorem dX12_mix_129 : decode cX12_mix 129 = .ok (.iastore, 1) := by decide +kernel
theorem dX12_mix_130 : decode cX12_mix 130 = .ok (.aload_n 0, 1) := by decide +kernel
theorem dX12_mix_131 : decode cX12_mix 131 = .ok (.getfield 9, 3) := by decide +kernel
theorem dX12_mix_134 : decode cX12_mix 134 = .ok (.sipush 163, 3) := by decide +kernel
theorem dX12_mix_137 : decode cX12_mix 137 = .ok (.iload_n 3, 1) := by decide +kernel
theorem dX12_mix_138 : decode cX12_mix 138 = .ok (.iadd, 1) := by decide +kernel
theorem dX12_mix_139 : decode cX12_mix 139 = .ok (.iconst 0, 1) := by decide +kernel
theorem dX12_mix_140 : decode cX12_mix 140 = .ok (.iastore, 1) := by decide +kernel
theorem dX12_mix_141 : decode cX12_mix 141 = .ok (.aload_n 0, 1) := by decide +kernel
theorem dX12_mix_142 : decode cX12_mix 142 = .ok (.getfield 9, 3) := by decide +kernel
theorem dX12_mix_145 : decode cX12_mix 145 = .ok (.sipush 183, 3) := by decide +kernel
theorem dX12_mix_148 : decode cX12_mix 148 = .ok (.iload_n 3, 1) := by decide +kernel
theorem dX12_mix_149 : decode cX12_mix 149 = .ok (.iadd, 1) := by decide +kernel
theorem dX12_mix_150 : decode cX12_mix 150 = .ok (.iconst (-1), 1) := by decide +kernel
theorem dX12_mix_151 : decode cX12_mix 151 = .ok (.iastore, 1) := by decide +kernel
theorem dX12_mix_152 : decode cX12_mix 152 = .ok (.aload_n 0, 1) := by decide +kernel
theorem dX12_mix_153 : decode cX12_mix 153 = .ok (.getfield 9, 3) := by decide +kernel
theorem dX12_mix_156 : decode cX12_mix 156 = .ok (.sipush 203, 3) := by decide +kernel
theorem dX12_mix_159 : decode cX12_mix 159 = .ok (.iload_n 3, 1) := by decide +kernel
theorem dX12_mix_160 : decode cX12_mix 160 = .ok (.iadd, 1) := by decide +kernel
theorem dX12_mix_161 : decode cX12_mix 161 = .ok (.iconst (-1), 1) := by decide +kernel
theorem dX12_mix_162 : decode cX12_mix 162 = .ok (.iastore, 1) := by decide +kernel
theorem dX12_mix_163 : decode cX12_mix 163 = .ok (.iload_n 3, 1) := by decide +kernel
theorem dX12_mix_164 : decode cX12_mix 164 = .ok (.ireturn, 1) := by decide +kernel
set_option maxRecDepth 20000 in
theorem ggX12_setWarmth_X12_in : GoodIn wsX12_setWarmth wsX12_in := goodIn_r _ [5] (by decide +kernel) (by decide +kernel)
set_option maxRecDepth 20000 in
theorem gX12_setWarmth_X12_in : GoodIn wsX12_setWarmth (va_wsS RX12 64 yX12_in wsX12_in) := goodIn_app (goodIn_of _ (by decide +kernel)) ggX12_setWarmth_X12_in
set_option maxRecDepth 20000 in
theorem ggX12_setWarmth_X12_can : GoodIn wsX12_setWarmth wsX12_can := goodIn_r _ [9, 10, 22, 23, 24, 25, 26, 27, 28, 29, 30, 31, 32, 33, 34, 35, 36, 37, 38, 39, 40, 41] (by decide +kernel) (by decide +kernel)
set_option maxRecDepth 20000 in
theorem gX12_setWarmth_X12_can : GoodIn wsX12_setWarmth (wsV RX12 60 RX12 yX12_can wsX12_can) := goodIn_app (goodIn_of _ (by decide +kernel)) ggX12_setWarmth_X12_can
set_option maxRecDepth 20000 in
theorem ggX12_setWarmth_X12_keep : GoodIn wsX12_setWarmth wsX12_keep := goodIn_r _ [14, 15, 16, 17, 1, 18, 19, 20, 4, 21, 22, 23, 24, 25, 26, 27, 28, 29, 30, 31, 32, 33, 34, 35, 36, 37, 38, 39, 40, 41] (by decide +kernel) (by decide +kernel)
set_option maxRecDepth 20000 in
theorem gX12_setWarmth_X12_keep : GoodIn wsX12_setWarmth (wsV RX12 74 RX12 yX12_keep wsX12_keep) := goodIn_app (goodIn_of _ (by decide +kernel)) ggX12_setWarmth_X12_keep
theorem dX12_setWarmth_0 : decode cX12_setWarmth 0 = .ok (.aload_n 0, 1) := by decide +kernel
theorem dX12_setWarmth_1 : decode cX12_setWarmth 1 = .ok (.iload_n 1, 1) := by decide +kernel
theorem dX12_setWarmth_2 : decode cX12_setWarmth 2 = .ok (.iconst 0, 1) := by decide +kernel
theorem dX12_setWarmth_3 : decode cX12_setWarmth 3 = .ok (.iconst 5, 1) := by decide +kernel
theorem dX12_setWarmth_4 : decode cX12_setWarmth 4 = .ok (.invokestatic 64, 3) := by decide +kernel
theorem dX12_setWarmth_7 : decode cX12_setWarmth 7 = .ok (.iconst 1, 1) := by decide +kernel
theorem dX12_setWarmth_8 : decode cX12_setWarmth 8 = .ok (.invokevirtual 60, 3) := by decide +kernel
theorem dX12_setWarmth_11 : decode cX12_setWarmth 11 = .ok (.ifCond .ne 5, 3) := by decide +kernel
theorem dX12_setWarmth_14 : decode cX12_setWarmth 14 = .ok (.iconst 0, 1) := by decide +kernel
theorem dX12_setWarmth_15 : decode cX12_setWarmth 15 = .ok (.ireturn, 1) := by decide +kernel
theorem dX12_setWarmth_16 : decode cX12_setWarmth 16 = .ok (.aload_n 0, 1) := by decide +kernel
theorem dX12_setWarmth_17 : decode cX12_setWarmth 17 = .ok (.invokevirtual 74, 3) := by decide +kernel
theorem dX12_setWarmth_20 : decode cX12_setWarmth 20 = .ok (.aload_n 0, 1) := by decide +kernel
theorem dX12_setWarmth_21 : decode cX12_setWarmth 21 = .ok (.getfield 9, 3) := by decide +kernel
theorem dX12_setWarmth_24 : decode cX12_setWarmth 24 = .ok (.iconst 1, 1) := by decide +kernel
theorem dX12_setWarmth_25 : decode cX12_setWarmth 25 = .ok (.iaload, 1) := by decide +kernel
theorem dX12_setWarmth_26 : decode cX12_setWarmth 26 = .ok (.istore_n 2, 1) := by decide +kernel
theorem dX12_setWarmth_27 : decode cX12_setWarmth 27 = .ok (.aload_n 0, 1) := by decide +kernel
theorem dX12_setWarmth_28 : decode cX12_setWarmth 28 = .ok (.getfield 9, 3) := by decide +kernel
theorem dX12_setWarmth_31 : decode cX12_setWarmth 31 = .ok (.iconst 1, 1) := by decide +kernel
theorem dX12_setWarmth_32 : decode cX12_setWarmth 32 = .ok (.iload_n 1, 1) := by decide +kernel
theorem dX12_setWarmth_33 : decode cX12_setWarmth 33 = .ok (.iastore, 1) := by decide +kernel
theorem dX12_setWarmth_34 : decode cX12_setWarmth 34 = .ok (.iload_n 2, 1) := by decide +kernel
theorem dX12_setWarmth_35 : decode cX12_setWarmth 35 = .ok (.ireturn, 1) := by decide +kernel
theorem dX12_gain_0 : decode cX12_gain 0 = .ok (.aload_n 0, 1) := by decide +kernel
theorem dX12_gain_1 : decode cX12_gain 1 = .ok (.getfield 9, 3) := by decide +kernel
theorem dX12_gain_4 : decode cX12_gain 4 = .ok (.iconst 1, 1) := by decide +kernel
theorem dX12_gain_5 : decode cX12_gain 5 = .ok (.iaload, 1) := by decide +kernel
theorem dX12_gain_6 : decode cX12_gain 6 = .ok (.istore_n 1, 1) := by decide +kernel
theorem dX12_gain_7 : decode cX12_gain 7 = .ok (.iload_n 1, 1) := by decide +kernel
theorem dX12_gain_8 : decode cX12_gain 8 = .ok (.iconst 5, 1) := by decide +kernel
theorem dX12_gain_9 : decode cX12_gain 9 = .ok (.if_icmp .ne 7, 3) := by decide +kernel
theorem dX12_gain_12 : decode cX12_gain 12 = .ok (.iconst 3, 1) := by decide +kernel
theorem dX12_gain_13 : decode cX12_gain 13 = .ok (.goto 23, 3) := by decide +kernel
theorem dX12_gain_16 : decode cX12_gain 16 = .ok (.iload_n 1, 1) := by decide +kernel
theorem dX12_gain_17 : decode cX12_gain 17 = .ok (.iconst 4, 1) := by decide +kernel
theorem dX12_gain_18 : decode cX12_gain 18 = .ok (.if_icmp .ne 8, 3) := by decide +kernel
theorem dX12_gain_21 : decode cX12_gain 21 = .ok (.bipush 6, 2) := by decide +kernel
theorem dX12_gain_23 : decode cX12_gain 23 = .ok (.goto 13, 3) := by decide +kernel
theorem dX12_gain_26 : decode cX12_gain 26 = .ok (.iload_n 1, 1) := by decide +kernel
theorem dX12_gain_27 : decode cX12_gain 27 = .ok (.iconst 3, 1) := by decide +kernel
theorem dX12_gain_28 : decode cX12_gain 28 = .ok (.if_icmp .ne 7, 3) := by decide +kernel
theorem dX12_gain_31 : decode cX12_gain 31 = .ok (.iconst 4, 1) := by decide +kernel
theorem dX12_gain_32 : decode cX12_gain 32 = .ok (.goto 4, 3) := by decide +kernel
theorem dX12_gain_35 : decode cX12_gain 35 = .ok (.iload_n 1, 1) := by decide +kernel
theorem dX12_gain_36 : decode cX12_gain 36 = .ok (.ireturn, 1) := by decide +kernel
set_option maxRecDepth 20000 in
theorem ggX12_passes_X12_gain : GoodIn wsX12_passes wsX12_gain := goodIn_r _ [6, 1, 7, 8, 9, 10, 11, 12, 13, 14, 15, 16, 17, 18, 19, 20, 21, 22, 23, 24, 25, 26] (by decide +kernel) (by decide +kernel)
set_option maxRecDepth 20000 in
theorem gX12_passes_X12_gain : GoodIn wsX12_passes (wsV RX12 101 RX12 yX12_gain wsX12_gain) := goodIn_app (goodIn_of _ (by decide +kernel)) ggX12_passes_X12_gain
theorem dX12_passes_0 : decode cX12_passes 0 = .ok (.aload_n 0, 1) := by decide +kernel
theorem dX12_passes_1 : decode cX12_passes 1 = .ok (.getfield 9, 3) := by decide +kernel
theorem dX12_passes_4 : decode cX12_passes 4 = .ok (.iconst 0, 1) := by decide +kernel
theorem dX12_passes_5 : decode cX12_passes 5 = .ok (.dup2, 1) := by decide +kernel
theorem dX12_passes_6 : decode cX12_passes 6 = .ok (.iaload, 1) := by decide +kernel
theorem dX12_passes_7 : decode cX12_passes 7 = .ok (.iconst 1, 1) := by decide +kernel
theorem dX12_passes_8 : decode cX12_passes 8 = .ok (.iadd, 1) := by decide +kernel
theorem dX12_passes_9 : decode cX12_passes 9 = .ok (.iastore, 1) := by decide +kernel
theorem dX12_passes_10 : decode cX12_passes 10 = .ok (.iconst 0, 1) := by decide +kernel
theorem dX12_passes_11 : decode cX12_passes 11 = .ok (.istore_n 1, 1) := by decide +kernel
theorem dX12_passes_12 : decode cX12_passes 12 = .ok (.iload_n 1, 1) := by decide +kernel
theorem dX12_passes_13 : decode cX12_passes 13 = .ok (.aload_n 0, 1) := by decide +kernel
theorem dX12_passes_14 : decode cX12_passes 14 = .ok (.getfield 9, 3) := by decide +kernel
theorem dX12_passes_17 : decode cX12_passes 17 = .ok (.bipush 6, 2) := by decide +kernel
theorem dX12_passes_19 : decode cX12_passes 19 = .ok (.iaload, 1) := by decide +kernel
theorem dX12_passes_20 : decode cX12_passes 20 = .ok (.if_icmp .ge 43, 3) := by decide +kernel
theorem dX12_passes_23 : decode cX12_passes 23 = .ok (.aload_n 0, 1) := by decide +kernel
theorem dX12_passes_24 : decode cX12_passes 24 = .ok (.getfield 9, 3) := by decide +kernel
theorem dX12_passes_27 : decode cX12_passes 27 = .ok (.sipush 143, 3) := by decide +kernel
theorem dX12_passes_30 : decode cX12_passes 30 = .ok (.iload_n 1, 1) := by decide +kernel
theorem dX12_passes_31 : decode cX12_passes 31 = .ok (.iadd, 1) := by decide +kernel
theorem dX12_passes_32 : decode cX12_passes 32 = .ok (.dup2, 1) := by decide +kernel
theorem dX12_passes_33 : decode cX12_passes 33 = .ok (.iaload, 1) := by decide +kernel
theorem dX12_passes_34 : decode cX12_passes 34 = .ok (.aload_n 0, 1) := by decide +kernel
theorem dX12_passes_35 : decode cX12_passes 35 = .ok (.getfield 9, 3) := by decide +kernel
theorem dX12_passes_38 : decode cX12_passes 38 = .ok (.sipush 163, 3) := by decide +kernel
theorem dX12_passes_41 : decode cX12_passes 41 = .ok (.iload_n 1, 1) := by decide +kernel
theorem dX12_passes_42 : decode cX12_passes 42 = .ok (.iadd, 1) := by decide +kernel
theorem dX12_passes_43 : decode cX12_passes 43 = .ok (.iaload, 1) := by decide +kernel
theorem dX12_passes_44 : decode cX12_passes 44 = .ok (.ifCond .ne 10, 3) := by decide +kernel
theorem dX12_passes_47 : decode cX12_passes 47 = .ok (.aload_n 0, 1) := by decide +kernel
theorem dX12_passes_48 : decode cX12_passes 48 = .ok (.invokevirtual 101, 3) := by decide +kernel
theorem dX12_passes_51 : decode cX12_passes 51 = .ok (.goto 4, 3) := by decide +kernel
theorem dX12_passes_54 : decode cX12_passes 54 = .ok (.iconst 0, 1) := by decide +kernel
theorem dX12_passes_55 : decode cX12_passes 55 = .ok (.iadd, 1) := by decide +kernel
theorem dX12_passes_56 : decode cX12_passes 56 = .ok (.iastore, 1) := by decide +kernel
theorem dX12_passes_57 : decode cX12_passes 57 = .ok (.iinc 1 1, 3) := by decide +kernel
theorem dX12_passes_60 : decode cX12_passes 60 = .ok (.goto (-48), 3) := by decide +kernel
theorem dX12_passes_63 : decode cX12_passes 63 = .ok (.aload_n 0, 1) := by decide +kernel
theorem dX12_passes_64 : decode cX12_passes 64 = .ok (.getfield 9, 3) := by decide +kernel
theorem dX12_passes_67 : decode cX12_passes 67 = .ok (.iconst 3, 1) := by decide +kernel
theorem dX12_passes_68 : decode cX12_passes 68 = .ok (.iaload, 1) := by decide +kernel
theorem dX12_passes_69 : decode cX12_passes 69 = .ok (.aload_n 0, 1) := by decide +kernel
theorem dX12_passes_70 : decode cX12_passes 70 = .ok (.getfield 9, 3) := by decide +kernel
theorem dX12_passes_73 : decode cX12_passes 73 = .ok (.iconst 2, 1) := by decide +kernel
theorem dX12_passes_74 : decode cX12_passes 74 = .ok (.iaload, 1) := by decide +kernel
theorem dX12_passes_75 : decode cX12_passes 75 = .ok (.isub, 1) := by decide +kernel
theorem dX12_passes_76 : decode cX12_passes 76 = .ok (.istore_n 1, 1) := by decide +kernel
theorem dX12_passes_77 : decode cX12_passes 77 = .ok (.aload_n 0, 1) := by decide +kernel
theorem dX12_passes_78 : decode cX12_passes 78 = .ok (.getfield 9, 3) := by decide +kernel
theorem dX12_passes_81 : decode cX12_passes 81 = .ok (.iconst 2, 1) := by decide +kernel
theorem dX12_passes_82 : decode cX12_passes 82 = .ok (.dup2, 1) := by decide +kernel
theorem dX12_passes_83 : decode cX12_passes 83 = .ok (.iaload, 1) := by decide +kernel
theorem dX12_passes_84 : decode cX12_passes 84 = .ok (.iload_n 1, 1) := by decide +kernel
theorem dX12_passes_85 : decode cX12_passes 85 = .ok (.iconst 5, 1) := by decide +kernel
theorem dX12_passes_86 : decode cX12_passes 86 = .ok (.if_icmp .le 7, 3) := by decide +kernel
theorem dX12_passes_89 : decode cX12_passes 89 = .ok (.iconst 5, 1) := by decide +kernel
theorem dX12_passes_90 : decode cX12_passes 90 = .ok (.goto 15, 3) := by decide +kernel
theorem dX12_passes_93 : decode cX12_passes 93 = .ok (.iload_n 1, 1) := by decide +kernel
theorem dX12_passes_94 : decode cX12_passes 94 = .ok (.bipush (-5), 2) := by decide +kernel
theorem dX12_passes_96 : decode cX12_passes 96 = .ok (.if_icmp .ge 8, 3) := by decide +kernel
theorem dX12_passes_99 : decode cX12_passes 99 = .ok (.bipush (-5), 2) := by decide +kernel
theorem dX12_passes_101 : decode cX12_passes 101 = .ok (.goto 4, 3) := by decide +kernel
theorem dX12_passes_104 : decode cX12_passes 104 = .ok (.iload_n 1, 1) := by decide +kernel
theorem dX12_passes_105 : decode cX12_passes 105 = .ok (.iadd, 1) := by decide +kernel
theorem dX12_passes_106 : decode cX12_passes 106 = .ok (.iastore, 1) := by decide +kernel
theorem dX12_passes_107 : decode cX12_passes 107 = .ok (.iconst 0, 1) := by decide +kernel
theorem dX12_passes_108 : decode cX12_passes 108 = .ok (.istore_n 2, 1) := by decide +kernel
theorem dX12_passes_109 : decode cX12_passes 109 = .ok (.iload_n 2, 1) := by decide +kernel
theorem dX12_passes_110 : decode cX12_passes 110 = .ok (.aload_n 0, 1) := by decide +kernel
theorem dX12_passes_111 : decode cX12_passes 111 = .ok (.getfield 9, 3) := by decide +kernel
theorem dX12_passes_114 : decode cX12_passes 114 = .ok (.bipush 6, 2) := by decide +kernel
theorem dX12_passes_116 : decode cX12_passes 116 = .ok (.iaload, 1) := by decide +kernel
theorem dX12_passes_117 : decode cX12_passes 117 = .ok (.if_icmp .ge 88, 3) := by decide +kernel
theorem dX12_passes_120 : decode cX12_passes 120 = .ok (.aload_n 0, 1) := by decide +kernel
theorem dX12_passes_121 : decode cX12_passes 121 = .ok (.getfield 9, 3) := by decide +kernel
theorem dX12_passes_124 : decode cX12_passes 124 = .ok (.sipush 163, 3) := by decide +kernel
theorem dX12_passes_127 : decode cX12_passes 127 = .ok (.iload_n 2, 1) := by decide +kernel
theorem dX12_passes_128 : decode cX12_passes 128 = .ok (.iadd, 1) := by decide +kernel
theorem dX12_passes_129 : decode cX12_passes 129 = .ok (.iaload, 1) := by decide +kernel
theorem dX12_passes_130 : decode cX12_passes 130 = .ok (.iconst 2, 1) := by decide +kernel
theorem dX12_passes_131 : decode cX12_passes 131 = .ok (.if_icmp .ne 68, 3) := by decide +kernel
theorem dX12_passes_134 : decode cX12_passes 134 = .ok (.aload_n 0, 1) := by decide +kernel
theorem dX12_passes_135 : decode cX12_passes 135 = .ok (.getfield 9, 3) := by decide +kernel
theorem dX12_passes_138 : decode cX12_passes 138 = .ok (.sipush 203, 3) := by decide +kernel
theorem dX12_passes_141 : decode cX12_passes 141 = .ok (.iload_n 2, 1) := by decide +kernel
theorem dX12_passes_142 : decode cX12_passes 142 = .ok (.iadd, 1) := by decide +kernel
theorem dX12_passes_143 : decode cX12_passes 143 = .ok (.iaload, 1) := by decide +kernel
theorem dX12_passes_144 : decode cX12_passes 144 = .ok (.bipush 10, 2) := by decide +kernel
theorem dX12_passes_146 : decode cX12_passes 146 = .ok (.iadd, 1) := by decide +kernel
theorem dX12_passes_147 : decode cX12_passes 147 = .ok (.aload_n 0, 1) := by decide +kernel
theorem dX12_passes_148 : decode cX12_passes 148 = .ok (.getfield 9, 3) := by decide +kernel
theorem dX12_passes_151 : decode cX12_passes 151 = .ok (.iconst 0, 1) := by decide +kernel
theorem dX12_passes_152 : decode cX12_passes 152 = .ok (.iaload, 1) := by decide +kernel
theorem dX12_passes_153 : decode cX12_passes 153 = .ok (.if_icmp .ne 46, 3) := by decide +kernel
theorem dX12_passes_156 : decode cX12_passes 156 = .ok (.aload_n 0, 1) := by decide +kernel
theorem dX12_passes_157 : decode cX12_passes 157 = .ok (.getfield 9, 3) := by decide +kernel
theorem dX12_passes_160 : decode cX12_passes 160 = .ok (.sipush 163, 3) := by decide +kernel
theorem dX12_passes_163 : decode cX12_passes 163 = .ok (.iload_n 2, 1) := by decide +kernel
theorem dX12_passes_164 : decode cX12_passes 164 = .ok (.iadd, 1) := by decide +kernel
theorem dX12_passes_165 : decode cX12_passes 165 = .ok (.iconst 3, 1) := by decide +kernel
theorem dX12_passes_166 : decode cX12_passes 166 = .ok (.iastore, 1) := by decide +kernel
theorem dX12_passes_167 : decode cX12_passes 167 = .ok (.aload_n 0, 1) := by decide +kernel
theorem dX12_passes_168 : decode cX12_passes 168 = .ok (.getfield 9, 3) := by decide +kernel
theorem dX12_passes_171 : decode cX12_passes 171 = .ok (.sipush 223, 3) := by decide +kernel
theorem dX12_passes_174 : decode cX12_passes 174 = .ok (.iconst 4, 1) := by decide +kernel
theorem dX12_passes_175 : decode cX12_passes 175 = .ok (.aload_n 0, 1) := by decide +kernel
theorem dX12_passes_176 : decode cX12_passes 176 = .ok (.getfield 9, 3) := by decide +kernel
theorem dX12_passes_179 : decode cX12_passes 179 = .ok (.bipush 103, 2) := by decide +kernel
theorem dX12_passes_181 : decode cX12_passes 181 = .ok (.iload_n 2, 1) := by decide +kernel
theorem dX12_passes_182 : decode cX12_passes 182 = .ok (.iadd, 1) := by decide +kernel
theorem dX12_passes_183 : decode cX12_passes 183 = .ok (.iaload, 1) := by decide +kernel
theorem dX12_passes_184 : decode cX12_passes 184 = .ok (.imul, 1) := by decide +kernel
theorem dX12_passes_185 : decode cX12_passes 185 = .ok (.iadd, 1) := by decide +kernel
theorem dX12_passes_186 : decode cX12_passes 186 = .ok (.dup2, 1) := by decide +kernel
theorem dX12_passes_187 : decode cX12_passes 187 = .ok (.iaload, 1) := by decide +kernel
theorem dX12_passes_188 : decode cX12_passes 188 = .ok (.aload_n 0, 1) := by decide +kernel
theorem dX12_passes_189 : decode cX12_passes 189 = .ok (.getfield 9, 3) := by decide +kernel
theorem dX12_passes_192 : decode cX12_passes 192 = .ok (.bipush 123, 2) := by decide +kernel
theorem dX12_passes_194 : decode cX12_passes 194 = .ok (.iload_n 2, 1) := by decide +kernel
theorem dX12_passes_195 : decode cX12_passes 195 = .ok (.iadd, 1) := by decide +kernel
theorem dX12_passes_196 : decode cX12_passes 196 = .ok (.iaload, 1) := by decide +kernel
theorem dX12_passes_197 : decode cX12_passes 197 = .ok (.iadd, 1) := by decide +kernel
theorem dX12_passes_198 : decode cX12_passes 198 = .ok (.iastore, 1) := by decide +kernel
theorem dX12_passes_199 : decode cX12_passes 199 = .ok (.iinc 2 1, 3) := by decide +kernel
theorem dX12_passes_202 : decode cX12_passes 202 = .ok (.goto (-93), 3) := by decide +kernel
theorem dX12_passes_205 : decode cX12_passes 205 = .ok (.return_, 1) := by decide +kernel
set_option maxRecDepth 20000 in
theorem ggX12_pass_X12_in : GoodIn wsX12_pass wsX12_in := goodIn_r _ [6] (by decide +kernel) (by decide +kernel)
set_option maxRecDepth 20000 in
theorem gX12_pass_X12_in : GoodIn wsX12_pass (va_wsS RX12 64 yX12_in wsX12_in) := goodIn_app (goodIn_of _ (by decide +kernel)) ggX12_pass_X12_in
set_option maxRecDepth 20000 in
theorem ggX12_pass_X12_can : GoodIn wsX12_pass wsX12_can := goodIn_r _ [10, 11, 31, 32, 33, 34, 35, 36, 37, 38, 39, 40, 41, 42, 43, 44, 45, 46, 47, 48, 49, 50] (by decide +kernel) (by decide +kernel)
set_option maxRecDepth 20000 in
theorem gX12_pass_X12_can : GoodIn wsX12_pass (wsV RX12 60 RX12 yX12_can wsX12_can) := goodIn_app (goodIn_of _ (by decide +kernel)) ggX12_pass_X12_can
set_option maxRecDepth 20000 in
theorem ggX12_pass_X12_keep : GoodIn wsX12_pass wsX12_keep := goodIn_r _ [15, 16, 17, 18, 1, 19, 20, 21, 5, 22, 31, 32, 33, 34, 35, 36, 37, 38, 39, 40, 41, 42, 43, 44, 45, 46, 47, 48, 49, 50] (by decide +kernel) (by decide +kernel)
set_option maxRecDepth 20000 in
theorem gX12_pass_X12_keep : GoodIn wsX12_pass (wsV RX12 74 RX12 yX12_keep wsX12_keep) := goodIn_app (goodIn_of _ (by decide +kernel)) ggX12_pass_X12_keep
set_option maxRecDepth 20000 in
theorem ggX12_pass_X12_passes : GoodIn wsX12_pass wsX12_passes := goodIn_r _ [26, 1, 27, 28, 29, 5, 30, 31, 32, 33, 34, 35, 36, 37, 38, 39, 40, 41, 42, 43, 44, 45, 46, 47, 48, 49, 50] (by decide +kernel) (by decide +kernel)
set_option maxRecDepth 20000 in
theorem gX12_pass_X12_passes : GoodIn wsX12_pass (wsV RX12 104 RX12 yX12_passes wsX12_passes) := goodIn_app (goodIn_of _ (by decide +kernel)) ggX12_pass_X12_passes
theorem dX12_pass_0 : decode cX12_pass 0 = .ok (.aload_n 0, 1) := by decide +kernel
theorem dX12_pass_1 : decode cX12_pass 1 = .ok (.iload_n 1, 1) := by decide +kernel
theorem dX12_pass_2 : decode cX12_pass 2 = .ok (.iconst 1, 1) := by decide +kernel
theorem dX12_pass_3 : decode cX12_pass 3 = .ok (.sipush 200, 3) := by decide +kernel
theorem dX12_pass_6 : decode cX12_pass 6 = .ok (.invokestatic 64, 3) := by decide +kernel
theorem dX12_pass_9 : decode cX12_pass 9 = .ok (.iconst 1, 1) := by decide +kernel
theorem dX12_pass_10 : decode cX12_pass 10 = .ok (.invokevirtual 60, 3) := by decide +kernel
theorem dX12_pass_13 : decode cX12_pass 13 = .ok (.ifCond .eq 29, 3) := by decide +kernel
theorem dX12_pass_16 : decode cX12_pass 16 = .ok (.aload_n 0, 1) := by decide +kernel
theorem dX12_pass_17 : decode cX12_pass 17 = .ok (.aload_n 0, 1) := by decide +kernel
theorem dX12_pass_18 : decode cX12_pass 18 = .ok (.getfield 9, 3) := by decide +kernel
theorem dX12_pass_21 : decode cX12_pass 21 = .ok (.iconst 0, 1) := by decide +kernel
theorem dX12_pass_22 : decode cX12_pass 22 = .ok (.iaload, 1) := by decide +kernel
theorem dX12_pass_23 : decode cX12_pass 23 = .ok (.iload_n 1, 1) := by decide +kernel
theorem dX12_pass_24 : decode cX12_pass 24 = .ok (.iadd, 1) := by decide +kernel
theorem dX12_pass_25 : decode cX12_pass 25 = .ok (.ldc 88, 2) := by decide +kernel
theorem dX12_pass_27 : decode cX12_pass 27 = .ok (.if_icmp .gt 7, 3) := by decide +kernel
theorem dX12_pass_30 : decode cX12_pass 30 = .ok (.iconst 1, 1) := by decide +kernel
theorem dX12_pass_31 : decode cX12_pass 31 = .ok (.goto 4, 3) := by decide +kernel
theorem dX12_pass_34 : decode cX12_pass 34 = .ok (.iconst 0, 1) := by decide +kernel
theorem dX12_pass_35 : decode cX12_pass 35 = .ok (.iconst 2, 1) := by decide +kernel
theorem dX12_pass_36 : decode cX12_pass 36 = .ok (.invokevirtual 60, 3) := by decide +kernel
theorem dX12_pass_39 : decode cX12_pass 39 = .ok (.ifCond .ne 5, 3) := by decide +kernel
theorem dX12_pass_42 : decode cX12_pass 42 = .ok (.iconst 0, 1) := by decide +kernel
theorem dX12_pass_43 : decode cX12_pass 43 = .ok (.ireturn, 1) := by decide +kernel
theorem dX12_pass_44 : decode cX12_pass 44 = .ok (.aload_n 0, 1) := by decide +kernel
theorem dX12_pass_45 : decode cX12_pass 45 = .ok (.invokevirtual 74, 3) := by decide +kernel
theorem dX12_pass_48 : decode cX12_pass 48 = .ok (.iconst 0, 1) := by decide +kernel
theorem dX12_pass_49 : decode cX12_pass 49 = .ok (.istore_n 2, 1) := by decide +kernel
theorem dX12_pass_50 : decode cX12_pass 50 = .ok (.iload_n 2, 1) := by decide +kernel
theorem dX12_pass_51 : decode cX12_pass 51 = .ok (.iload_n 1, 1) := by decide +kernel
theorem dX12_pass_52 : decode cX12_pass 52 = .ok (.if_icmp .ge 13, 3) := by decide +kernel
theorem dX12_pass_55 : decode cX12_pass 55 = .ok (.aload_n 0, 1) := by decide +kernel
theorem dX12_pass_56 : decode cX12_pass 56 = .ok (.invokevirtual 104, 3) := by decide +kernel
theorem dX12_pass_59 : decode cX12_pass 59 = .ok (.iinc 2 1, 3) := by decide +kernel
theorem dX12_pass_62 : decode cX12_pass 62 = .ok (.goto (-12), 3) := by decide +kernel
theorem dX12_pass_65 : decode cX12_pass 65 = .ok (.aload_n 0, 1) := by decide +kernel
theorem dX12_pass_66 : decode cX12_pass 66 = .ok (.getfield 9, 3) := by decide +kernel
theorem dX12_pass_69 : decode cX12_pass 69 = .ok (.iconst 0, 1) := by decide +kernel
theorem dX12_pass_70 : decode cX12_pass 70 = .ok (.iaload, 1) := by decide +kernel
theorem dX12_pass_71 : decode cX12_pass 71 = .ok (.ireturn, 1) := by decide +kernel
theorem dX12_now_0 : decode cX12_now 0 = .ok (.aload_n 0, 1) := by decide +kernel
theorem dX12_now_1 : decode cX12_now 1 = .ok (.iconst 0, 1) := by decide +kernel
theorem dX12_now_2 : decode cX12_now 2 = .ok (.putfield 46, 3) := by decide +kernel
theorem dX12_now_5 : decode cX12_now 5 = .ok (.aload_n 0, 1) := by decide +kernel
theorem dX12_now_6 : decode cX12_now 6 = .ok (.getfield 9, 3) := by decide +kernel
theorem dX12_now_9 : decode cX12_now 9 = .ok (.iconst 0, 1) := by decide +kernel
theorem dX12_now_10 : decode cX12_now 10 = .ok (.iaload, 1) := by decide +kernel
theorem dX12_now_11 : decode cX12_now 11 = .ok (.ireturn, 1) := by decide +kernel
set_option maxRecDepth 20000 in
theorem ggX12_isRipe_X12_in : GoodIn wsX12_isRipe wsX12_in := goodIn_r _ [5] (by decide +kernel) (by decide +kernel)
set_option maxRecDepth 20000 in
theorem gX12_isRipe_X12_in : GoodIn wsX12_isRipe (va_wsS RX12 64 yX12_in wsX12_in) := goodIn_app (goodIn_of _ (by decide +kernel)) ggX12_isRipe_X12_in
theorem dX12_isRipe_0 : decode cX12_isRipe 0 = .ok (.aload_n 0, 1) := by decide +kernel
theorem dX12_isRipe_1 : decode cX12_isRipe 1 = .ok (.getfield 9, 3) := by decide +kernel
theorem dX12_isRipe_4 : decode cX12_isRipe 4 = .ok (.bipush 103, 2) := by decide +kernel
theorem dX12_isRipe_6 : decode cX12_isRipe 6 = .ok (.iload_n 1, 1) := by decide +kernel
theorem dX12_isRipe_7 : decode cX12_isRipe 7 = .ok (.iadd, 1) := by decide +kernel
theorem dX12_isRipe_8 : decode cX12_isRipe 8 = .ok (.iaload, 1) := by decide +kernel
theorem dX12_isRipe_9 : decode cX12_isRipe 9 = .ok (.istore_n 2, 1) := by decide +kernel
theorem dX12_isRipe_10 : decode cX12_isRipe 10 = .ok (.aload_n 0, 1) := by decide +kernel
theorem dX12_isRipe_11 : decode cX12_isRipe 11 = .ok (.getfield 9, 3) := by decide +kernel
theorem dX12_isRipe_14 : decode cX12_isRipe 14 = .ok (.sipush 143, 3) := by decide +kernel
theorem dX12_isRipe_17 : decode cX12_isRipe 17 = .ok (.iload_n 1, 1) := by decide +kernel
theorem dX12_isRipe_18 : decode cX12_isRipe 18 = .ok (.iadd, 1) := by decide +kernel
theorem dX12_isRipe_19 : decode cX12_isRipe 19 = .ok (.iaload, 1) := by decide +kernel
theorem dX12_isRipe_20 : decode cX12_isRipe 20 = .ok (.aload_n 0, 1) := by decide +kernel
theorem dX12_isRipe_21 : decode cX12_isRipe 21 = .ok (.getfield 9, 3) := by decide +kernel
theorem dX12_isRipe_24 : decode cX12_isRipe 24 = .ok (.bipush 25, 2) := by decide +kernel
theorem dX12_isRipe_26 : decode cX12_isRipe 26 = .ok (.iload_n 2, 1) := by decide +kernel
theorem dX12_isRipe_27 : decode cX12_isRipe 27 = .ok (.iadd, 1) := by decide +kernel
theorem dX12_isRipe_28 : decode cX12_isRipe 28 = .ok (.iaload, 1) := by decide +kernel
theorem dX12_isRipe_29 : decode cX12_isRipe 29 = .ok (.aload_n 0, 1) := by decide +kernel
theorem dX12_isRipe_30 : decode cX12_isRipe 30 = .ok (.getfield 9, 3) := by decide +kernel
theorem dX12_isRipe_33 : decode cX12_isRipe 33 = .ok (.bipush 31, 2) := by decide +kernel
theorem dX12_isRipe_35 : decode cX12_isRipe 35 = .ok (.iload_n 2, 1) := by decide +kernel
theorem dX12_isRipe_36 : decode cX12_isRipe 36 = .ok (.iadd, 1) := by decide +kernel
theorem dX12_isRipe_37 : decode cX12_isRipe 37 = .ok (.iaload, 1) := by decide +kernel
theorem dX12_isRipe_38 : decode cX12_isRipe 38 = .ok (.invokestatic 64, 3) := by decide +kernel
theorem dX12_isRipe_41 : decode cX12_isRipe 41 = .ok (.ireturn, 1) := by decide +kernel
set_option maxRecDepth 20000 in
theorem ggX12_shape_X12_isDough : GoodIn wsX12_shape wsX12_isDough := goodIn_r _ [6, 1, 7, 8, 5, 9, 30, 31, 32, 33, 34, 35, 36, 37, 38, 39, 40, 41, 42, 43, 44, 45, 46, 47, 48, 49] (by decide +kernel) (by decide +kernel)
set_option maxRecDepth 20000 in
theorem gX12_shape_X12_isDough : GoodIn wsX12_shape (wsV RX12 107 RX12 yX12_isDough wsX12_isDough) := goodIn_app (goodIn_of _ (by decide +kernel)) ggX12_shape_X12_isDough
set_option maxRecDepth 20000 in
theorem ggX12_shape_X12_can : GoodIn wsX12_shape wsX12_can := goodIn_r _ [13, 14, 30, 31, 32, 33, 34, 35, 36, 37, 38, 39, 40, 41, 42, 43, 44, 45, 46, 47, 48, 49] (by decide +kernel) (by decide +kernel)
set_option maxRecDepth 20000 in
theorem gX12_shape_X12_can : GoodIn wsX12_shape (wsV RX12 60 RX12 yX12_can wsX12_can) := goodIn_app (goodIn_of _ (by decide +kernel)) ggX12_shape_X12_can
set_option maxRecDepth 20000 in
theorem ggX12_shape_X12_isRipe : GoodIn wsX12_shape wsX12_isRipe := goodIn_r _ [18, 1, 7, 8, 5, 9, 30, 31, 32, 33, 34, 35, 36, 37, 38, 39, 40, 41, 42, 43, 44, 45, 46, 47, 48, 49] (by decide +kernel) (by decide +kernel)
set_option maxRecDepth 20000 in
theorem gX12_shape_X12_isRipe : GoodIn wsX12_shape (wsV RX12 110 RX12 yX12_isRipe wsX12_isRipe) := goodIn_app (goodIn_of _ (by decide +kernel)) ggX12_shape_X12_isRipe
set_option maxRecDepth 20000 in
theorem ggX12_shape_X12_keep : GoodIn wsX12_shape wsX12_keep := goodIn_r _ [22, 23, 24, 25, 1, 26, 27, 28, 5, 29, 30, 31, 32, 33, 34, 35, 36, 37, 38, 39, 40, 41, 42, 43, 44, 45, 46, 47, 48, 49] (by decide +kernel) (by decide +kernel)
set_option maxRecDepth 20000 in
theorem gX12_shape_X12_keep : GoodIn wsX12_shape (wsV RX12 74 RX12 yX12_keep wsX12_keep) := goodIn_app (goodIn_of _ (by decide +kernel)) ggX12_shape_X12_keep
theorem dX12_shape_0 : decode cX12_shape 0 = .ok (.aload_n 0, 1) := by decide +kernel
theorem dX12_shape_1 : decode cX12_shape 1 = .ok (.aload_n 0, 1) := by decide +kernel
theorem dX12_shape_2 : decode cX12_shape 2 = .ok (.iload_n 1, 1) := by decide +kernel
theorem dX12_shape_3 : decode cX12_shape 3 = .ok (.invokevirtual 107, 3) := by decide +kernel
theorem dX12_shape_6 : decode cX12_shape 6 = .ok (.iconst 1, 1) := by decide +kernel
theorem dX12_shape_7 : decode cX12_shape 7 = .ok (.invokevirtual 60, 3) := by decide +kernel
theorem dX12_shape_10 : decode cX12_shape 10 = .ok (.ifCond .eq 37, 3) := by decide +kernel
theorem dX12_shape_13 : decode cX12_shape 13 = .ok (.aload_n 0, 1) := by decide +kernel
theorem dX12_shape_14 : decode cX12_shape 14 = .ok (.aload_n 0, 1) := by decide +kernel
theorem dX12_shape_15 : decode cX12_shape 15 = .ok (.getfield 9, 3) := by decide +kernel
theorem dX12_shape_18 : decode cX12_shape 18 = .ok (.sipush 163, 3) := by decide +kernel
theorem dX12_shape_21 : decode cX12_shape 21 = .ok (.iload_n 1, 1) := by decide +kernel
theorem dX12_shape_22 : decode cX12_shape 22 = .ok (.iadd, 1) := by decide +kernel
theorem dX12_shape_23 : decode cX12_shape 23 = .ok (.iaload, 1) := by decide +kernel
theorem dX12_shape_24 : decode cX12_shape 24 = .ok (.ifCond .ne 15, 3) := by decide +kernel
theorem dX12_shape_27 : decode cX12_shape 27 = .ok (.aload_n 0, 1) := by decide +kernel
theorem dX12_shape_28 : decode cX12_shape 28 = .ok (.iload_n 1, 1) := by decide +kernel
theorem dX12_shape_29 : decode cX12_shape 29 = .ok (.invokevirtual 110, 3) := by decide +kernel
theorem dX12_shape_32 : decode cX12_shape 32 = .ok (.ifCond .eq 7, 3) := by decide +kernel
theorem dX12_shape_35 : decode cX12_shape 35 = .ok (.iconst 1, 1) := by decide +kernel
theorem dX12_shape_36 : decode cX12_shape 36 = .ok (.goto 4, 3) := by decide +kernel
theorem dX12_shape_39 : decode cX12_shape 39 = .ok (.iconst 0, 1) := by decide +kernel
theorem dX12_shape_40 : decode cX12_shape 40 = .ok (.iconst 2, 1) := by decide +kernel
theorem dX12_shape_41 : decode cX12_shape 41 = .ok (.invokevirtual 60, 3) := by decide +kernel
theorem dX12_shape_44 : decode cX12_shape 44 = .ok (.ifCond .ne 5, 3) := by decide +kernel
theorem dX12_shape_47 : decode cX12_shape 47 = .ok (.iconst 0, 1) := by decide +kernel
theorem dX12_shape_48 : decode cX12_shape 48 = .ok (.ireturn, 1) := by decide +kernel
theorem dX12_shape_49 : decode cX12_shape 49 = .ok (.aload_n 0, 1) := by decide +kernel
theorem dX12_shape_50 : decode cX12_shape 50 = .ok (.invokevirtual 74, 3) := by decide +kernel
theorem dX12_shape_53 : decode cX12_shape 53 = .ok (.aload_n 0, 1) := by decide +kernel
theorem dX12_shape_54 : decode cX12_shape 54 = .ok (.getfield 9, 3) := by decide +kernel
theorem dX12_shape_57 : decode cX12_shape 57 = .ok (.sipush 163, 3) := by decide +kernel
theorem dX12_shape_60 : decode cX12_shape 60 = .ok (.iload_n 1, 1) := by decide +kernel
theorem dX12_shape_61 : decode cX12_shape 61 = .ok (.iadd, 1) := by decide +kernel
theorem dX12_shape_62 : decode cX12_shape 62 = .ok (.iconst 1, 1) := by decide +kernel
theorem dX12_shape_63 : decode cX12_shape 63 = .ok (.iastore, 1) := by decide +kernel
theorem dX12_shape_64 : decode cX12_shape 64 = .ok (.aload_n 0, 1) := by decide +kernel
theorem dX12_shape_65 : decode cX12_shape 65 = .ok (.getfield 9, 3) := by decide +kernel
theorem dX12_shape_68 : decode cX12_shape 68 = .ok (.sipush 183, 3) := by decide +kernel
theorem dX12_shape_71 : decode cX12_shape 71 = .ok (.iload_n 1, 1) := by decide +kernel
theorem dX12_shape_72 : decode cX12_shape 72 = .ok (.iadd, 1) := by decide +kernel
theorem dX12_shape_73 : decode cX12_shape 73 = .ok (.aload_n 0, 1) := by decide +kernel
theorem dX12_shape_74 : decode cX12_shape 74 = .ok (.getfield 9, 3) := by decide +kernel
theorem dX12_shape_77 : decode cX12_shape 77 = .ok (.iconst 0, 1) := by decide +kernel
theorem dX12_shape_78 : decode cX12_shape 78 = .ok (.iaload, 1) := by decide +kernel
theorem dX12_shape_79 : decode cX12_shape 79 = .ok (.iastore, 1) := by decide +kernel
theorem dX12_shape_80 : decode cX12_shape 80 = .ok (.aload_n 0, 1) := by decide +kernel
theorem dX12_shape_81 : decode cX12_shape 81 = .ok (.getfield 9, 3) := by decide +kernel
theorem dX12_shape_84 : decode cX12_shape 84 = .ok (.sipush 143, 3) := by decide +kernel
theorem dX12_shape_87 : decode cX12_shape 87 = .ok (.iload_n 1, 1) := by decide +kernel
theorem dX12_shape_88 : decode cX12_shape 88 = .ok (.iadd, 1) := by decide +kernel
theorem dX12_shape_89 : decode cX12_shape 89 = .ok (.iaload, 1) := by decide +kernel
theorem dX12_shape_90 : decode cX12_shape 90 = .ok (.ireturn, 1) := by decide +kernel
set_option maxRecDepth 20000 in
theorem ggX12_doughAt_X12_isDough : GoodIn wsX12_doughAt wsX12_isDough := goodIn_r _ [6, 1, 7, 8, 5, 9, 19, 20, 21, 22, 23, 24, 25, 26, 27, 28, 29, 30, 31, 32, 33, 34, 35, 36, 37, 38] (by decide +kernel) (by decide +kernel)
set_option maxRecDepth 20000 in
theorem gX12_doughAt_X12_isDough : GoodIn wsX12_doughAt (wsV RX12 107 RX12 yX12_isDough wsX12_isDough) := goodIn_app (goodIn_of _ (by decide +kernel)) ggX12_doughAt_X12_isDough
set_option maxRecDepth 20000 in
theorem ggX12_doughAt_X12_can : GoodIn wsX12_doughAt wsX12_can := goodIn_r _ [13, 14, 19, 20, 21, 22, 23, 24, 25, 26, 27, 28, 29, 30, 31, 32, 33, 34, 35, 36, 37, 38] (by decide +kernel) (by decide +kernel)
set_option maxRecDepth 20000 in
theorem gX12_doughAt_X12_can : GoodIn wsX12_doughAt (wsV RX12 60 RX12 yX12_can wsX12_can) := goodIn_app (goodIn_of _ (by decide +kernel)) ggX12_doughAt_X12_can
set_option maxRecDepth 20000 in
theorem ggX12_doughAt_X12_in : GoodIn wsX12_doughAt wsX12_in := goodIn_r _ [9] (by decide +kernel) (by decide +kernel)
set_option maxRecDepth 20000 in
theorem gX12_doughAt_X12_in : GoodIn wsX12_doughAt (va_wsS RX12 64 yX12_in wsX12_in) := goodIn_app (goodIn_of _ (by decide +kernel)) ggX12_doughAt_X12_in
set_option maxRecDepth 20000 in
theorem ggX12_doughAt_X12_gramsOf : GoodIn wsX12_doughAt wsX12_gramsOf := goodIn_r _ [18, 1, 19, 20, 21, 22, 23, 24, 25, 26, 27, 28, 29, 30, 31, 32, 33, 34, 35, 36, 37, 38] (by decide +kernel) (by decide +kernel)
set_option maxRecDepth 20000 in
theorem gX12_doughAt_X12_gramsOf : GoodIn wsX12_doughAt (wsV RX12 113 RX12 yX12_gramsOf wsX12_gramsOf) := goodIn_app (goodIn_of _ (by decide +kernel)) ggX12_doughAt_X12_gramsOf
theorem dX12_doughAt_0 : decode cX12_doughAt 0 = .ok (.aload_n 0, 1) := by decide +kernel
theorem dX12_doughAt_1 : decode cX12_doughAt 1 = .ok (.aload_n 0, 1) := by decide +kernel
theorem dX12_doughAt_2 : decode cX12_doughAt 2 = .ok (.iload_n 1, 1) := by decide +kernel
theorem dX12_doughAt_3 : decode cX12_doughAt 3 = .ok (.invokevirtual 107, 3) := by decide +kernel
theorem dX12_doughAt_6 : decode cX12_doughAt 6 = .ok (.iconst 1, 1) := by decide +kernel
theorem dX12_doughAt_7 : decode cX12_doughAt 7 = .ok (.invokevirtual 60, 3) := by decide +kernel
theorem dX12_doughAt_10 : decode cX12_doughAt 10 = .ok (.ifCond .eq 18, 3) := by decide +kernel
theorem dX12_doughAt_13 : decode cX12_doughAt 13 = .ok (.aload_n 0, 1) := by decide +kernel
theorem dX12_doughAt_14 : decode cX12_doughAt 14 = .ok (.iload_n 2, 1) := by decide +kernel
theorem dX12_doughAt_15 : decode cX12_doughAt 15 = .ok (.iconst 0, 1) := by decide +kernel
theorem dX12_doughAt_16 : decode cX12_doughAt 16 = .ok (.bipush 6, 2) := by decide +kernel
theorem dX12_doughAt_18 : decode cX12_doughAt 18 = .ok (.invokestatic 64, 3) := by decide +kernel
theorem dX12_doughAt_21 : decode cX12_doughAt 21 = .ok (.iconst 2, 1) := by decide +kernel
theorem dX12_doughAt_22 : decode cX12_doughAt 22 = .ok (.invokevirtual 60, 3) := by decide +kernel
theorem dX12_doughAt_25 : decode cX12_doughAt 25 = .ok (.ifCond .ne 5, 3) := by decide +kernel
theorem dX12_doughAt_28 : decode cX12_doughAt 28 = .ok (.iconst 0, 1) := by decide +kernel
theorem dX12_doughAt_29 : decode cX12_doughAt 29 = .ok (.ireturn, 1) := by decide +kernel
theorem dX12_doughAt_30 : decode cX12_doughAt 30 = .ok (.iload_n 2, 1) := by decide +kernel
theorem dX12_doughAt_31 : decode cX12_doughAt 31 = .ok (.tableswitch 96 0 5 #[37, 47, 57, 68, 79, 85], 37) := by decide +kernel
theorem dX12_doughAt_68 : decode cX12_doughAt 68 = .ok (.aload_n 0, 1) := by decide +kernel
theorem dX12_doughAt_69 : decode cX12_doughAt 69 = .ok (.getfield 9, 3) := by decide +kernel
theorem dX12_doughAt_72 : decode cX12_doughAt 72 = .ok (.bipush 103, 2) := by decide +kernel
theorem dX12_doughAt_74 : decode cX12_doughAt 74 = .ok (.iload_n 1, 1) := by decide +kernel
theorem dX12_doughAt_75 : decode cX12_doughAt 75 = .ok (.iadd, 1) := by decide +kernel
theorem dX12_doughAt_76 : decode cX12_doughAt 76 = .ok (.iaload, 1) := by decide +kernel
theorem dX12_doughAt_77 : decode cX12_doughAt 77 = .ok (.ireturn, 1) := by decide +kernel
theorem dX12_doughAt_78 : decode cX12_doughAt 78 = .ok (.aload_n 0, 1) := by decide +kernel
theorem dX12_doughAt_79 : decode cX12_doughAt 79 = .ok (.getfield 9, 3) := by decide +kernel
theorem dX12_doughAt_82 : decode cX12_doughAt 82 = .ok (.bipush 123, 2) := by decide +kernel
theorem dX12_doughAt_84 : decode cX12_doughAt 84 = .ok (.iload_n 1, 1) := by decide +kernel
theorem dX12_doughAt_85 : decode cX12_doughAt 85 = .ok (.iadd, 1) := by decide +kernel
theorem dX12_doughAt_86 : decode cX12_doughAt 86 = .ok (.iaload, 1) := by decide +kernel
theorem dX12_doughAt_87 : decode cX12_doughAt 87 = .ok (.ireturn, 1) := by decide +kernel
theorem dX12_doughAt_88 : decode cX12_doughAt 88 = .ok (.aload_n 0, 1) := by decide +kernel
theorem dX12_doughAt_89 : decode cX12_doughAt 89 = .ok (.getfield 9, 3) := by decide +kernel
theorem dX12_doughAt_92 : decode cX12_doughAt 92 = .ok (.sipush 143, 3) := by decide +kernel
theorem dX12_doughAt_95 : decode cX12_doughAt 95 = .ok (.iload_n 1, 1) := by decide +kernel
theorem dX12_doughAt_96 : decode cX12_doughAt 96 = .ok (.iadd, 1) := by decide +kernel
theorem dX12_doughAt_97 : decode cX12_doughAt 97 = .ok (.iaload, 1) := by decide +kernel
theorem dX12_doughAt_98 : decode cX12_doughAt 98 = .ok (.ireturn, 1) := by decide +kernel
theorem dX12_doughAt_99 : decode cX12_doughAt 99 = .ok (.aload_n 0, 1) := by decide +kernel
theorem dX12_doughAt_100 : decode cX12_doughAt 100 = .ok (.getfield 9, 3) := by decide +kernel
theorem dX12_doughAt_103 : decode cX12_doughAt 103 = .ok (.sipush 163, 3) := by decide +kernel
theorem dX12_doughAt_106 : decode cX12_doughAt 106 = .ok (.iload_n 1, 1) := by decide +kernel
theorem dX12_doughAt_107 : decode cX12_doughAt 107 = .ok (.iadd, 1) := by decide +kernel
theorem dX12_doughAt_108 : decode cX12_doughAt 108 = .ok (.iaload, 1) := by decide +kernel
theorem dX12_doughAt_109 : decode cX12_doughAt 109 = .ok (.ireturn, 1) := by decide +kernel
theorem dX12_doughAt_110 : decode cX12_doughAt 110 = .ok (.aload_n 0, 1) := by decide +kernel
theorem dX12_doughAt_111 : decode cX12_doughAt 111 = .ok (.iload_n 1, 1) := by decide +kernel
theorem dX12_doughAt_112 : decode cX12_doughAt 112 = .ok (.invokevirtual 113, 3) := by decide +kernel
theorem dX12_doughAt_115 : decode cX12_doughAt 115 = .ok (.ireturn, 1) := by decide +kernel
theorem dX12_doughAt_116 : decode cX12_doughAt 116 = .ok (.aload_n 0, 1) := by decide +kernel
theorem dX12_doughAt_117 : decode cX12_doughAt 117 = .ok (.getfield 9, 3) := by decide +kernel
theorem dX12_doughAt_120 : decode cX12_doughAt 120 = .ok (.sipush 183, 3) := by decide +kernel
theorem dX12_doughAt_123 : decode cX12_doughAt 123 = .ok (.iload_n 1, 1) := by decide +kernel
theorem dX12_doughAt_124 : decode cX12_doughAt 124 = .ok (.iadd, 1) := by decide +kernel
theorem dX12_doughAt_125 : decode cX12_doughAt 125 = .ok (.iaload, 1) := by decide +kernel
theorem dX12_doughAt_126 : decode cX12_doughAt 126 = .ok (.ireturn, 1) := by decide +kernel
theorem dX12_doughAt_127 : decode cX12_doughAt 127 = .ok (.aload_n 0, 1) := by decide +kernel
theorem dX12_doughAt_128 : decode cX12_doughAt 128 = .ok (.getfield 9, 3) := by decide +kernel
theorem dX12_doughAt_131 : decode cX12_doughAt 131 = .ok (.sipush 203, 3) := by decide +kernel
theorem dX12_doughAt_134 : decode cX12_doughAt 134 = .ok (.iload_n 1, 1) := by decide +kernel
theorem dX12_doughAt_135 : decode cX12_doughAt 135 = .ok (.iadd, 1) := by decide +kernel
theorem dX12_doughAt_136 : decode cX12_doughAt 136 = .ok (.iaload, 1) := by decide +kernel
theorem dX12_doughAt_137 : decode cX12_doughAt 137 = .ok (.ireturn, 1) := by decide +kernel
theorem dX12_isAtHand_0 : decode cX12_isAtHand 0 = .ok (.aload_n 0, 1) := by decide +kernel
theorem dX12_isAtHand_1 : decode cX12_isAtHand 1 = .ok (.getfield 9, 3) := by decide +kernel
theorem dX12_isAtHand_4 : decode cX12_isAtHand 4 = .ok (.sipush 163, 3) := by decide +kernel
theorem dX12_isAtHand_7 : decode cX12_isAtHand 7 = .ok (.iload_n 1, 1) := by decide +kernel
theorem dX12_isAtHand_8 : decode cX12_isAtHand 8 = .ok (.iadd, 1) := by decide +kernel
theorem dX12_isAtHand_9 : decode cX12_isAtHand 9 = .ok (.iaload, 1) := by decide +kernel
theorem dX12_isAtHand_10 : decode cX12_isAtHand 10 = .ok (.ifCond .eq 17, 3) := by decide +kernel
theorem dX12_isAtHand_13 : decode cX12_isAtHand 13 = .ok (.aload_n 0, 1) := by decide +kernel
theorem dX12_isAtHand_14 : decode cX12_isAtHand 14 = .ok (.getfield 9, 3) := by decide +kernel
theorem dX12_isAtHand_17 : decode cX12_isAtHand 17 = .ok (.sipush 163, 3) := by decide +kernel
theorem dX12_isAtHand_20 : decode cX12_isAtHand 20 = .ok (.iload_n 1, 1) := by decide +kernel
theorem dX12_isAtHand_21 : decode cX12_isAtHand 21 = .ok (.iadd, 1) := by decide +kernel
theorem dX12_isAtHand_22 : decode cX12_isAtHand 22 = .ok (.iaload, 1) := by decide +kernel
theorem dX12_isAtHand_23 : decode cX12_isAtHand 23 = .ok (.iconst 1, 1) := by decide +kernel
theorem dX12_isAtHand_24 : decode cX12_isAtHand 24 = .ok (.if_icmp .ne 7, 3) := by decide +kernel
theorem dX12_isAtHand_27 : decode cX12_isAtHand 27 = .ok (.iconst 1, 1) := by decide +kernel
theorem dX12_isAtHand_28 : decode cX12_isAtHand 28 = .ok (.goto 4, 3) := by decide +kernel
theorem dX12_isAtHand_31 : decode cX12_isAtHand 31 = .ok (.iconst 0, 1) := by decide +kernel
theorem dX12_isAtHand_32 : decode cX12_isAtHand 32 = .ok (.ireturn, 1) := by decide +kernel
set_option maxRecDepth 20000 in
theorem ggX12_throwAway_X12_isDough : GoodIn wsX12_throwAway wsX12_isDough := goodIn_r _ [6, 1, 7, 8, 5, 9, 34, 35, 36, 37, 38, 39, 40, 41, 42, 43, 44, 45, 46, 47, 48, 49, 50, 51, 52, 53] (by decide +kernel) (by decide +kernel)
set_option maxRecDepth 20000 in
theorem gX12_throwAway_X12_isDough : GoodIn wsX12_throwAway (wsV RX12 107 RX12 yX12_isDough wsX12_isDough) := goodIn_app (goodIn_of _ (by decide +kernel)) ggX12_throwAway_X12_isDough
set_option maxRecDepth 20000 in
theorem ggX12_throwAway_X12_can : GoodIn wsX12_throwAway wsX12_can := goodIn_r _ [13, 14, 34, 35, 36, 37, 38, 39, 40, 41, 42, 43, 44, 45, 46, 47, 48, 49, 50, 51, 52, 53] (by decide +kernel) (by decide +kernel)
set_option maxRecDepth 20000 in
theorem gX12_throwAway_X12_can : GoodIn wsX12_throwAway (wsV RX12 60 RX12 yX12_can wsX12_can) := goodIn_app (goodIn_of _ (by decide +kernel)) ggX12_throwAway_X12_can
set_option maxRecDepth 20000 in
theorem ggX12_throwAway_X12_isAtHand : GoodIn wsX12_throwAway wsX12_isAtHand := goodIn_r _ [18, 1, 34, 35, 36, 37, 38, 39, 40, 41, 42, 43, 44, 45, 46, 47, 48, 49, 50, 51, 52, 53] (by decide +kernel) (by decide +kernel)
set_option maxRecDepth 20000 in
theorem gX12_throwAway_X12_isAtHand : GoodIn wsX12_throwAway (wsV RX12 116 RX12 yX12_isAtHand wsX12_isAtHand) := goodIn_app (goodIn_of _ (by decide +kernel)) ggX12_throwAway_X12_isAtHand
set_option maxRecDepth 20000 in
theorem ggX12_throwAway_X12_keep : GoodIn wsX12_throwAway wsX12_keep := goodIn_r _ [22, 23, 24, 25, 1, 26, 27, 28, 5, 29, 34, 35, 36, 37, 38, 39, 40, 41, 42, 43, 44, 45, 46, 47, 48, 49, 50, 51, 52, 53] (by decide +kernel) (by decide +kernel)
set_option maxRecDepth 20000 in
theorem gX12_throwAway_X12_keep : GoodIn wsX12_throwAway (wsV RX12 74 RX12 yX12_keep wsX12_keep) := goodIn_app (goodIn_of _ (by decide +kernel)) ggX12_throwAway_X12_keep
set_option maxRecDepth 20000 in
theorem ggX12_throwAway_X12_gramsOf : GoodIn wsX12_throwAway wsX12_gramsOf := goodIn_r _ [33, 1, 34, 35, 36, 37, 38, 39, 40, 41, 42, 43, 44, 45, 46, 47, 48, 49, 50, 51, 52, 53] (by decide +kernel) (by decide +kernel)
set_option maxRecDepth 20000 in
theorem gX12_throwAway_X12_gramsOf : GoodIn wsX12_throwAway (wsV RX12 113 RX12 yX12_gramsOf wsX12_gramsOf) := goodIn_app (goodIn_of _ (by decide +kernel)) ggX12_throwAway_X12_gramsOf
theorem dX12_throwAway_0 : decode cX12_throwAway 0 = .ok (.aload_n 0, 1) := by decide +kernel
theorem dX12_throwAway_1 : decode cX12_throwAway 1 = .ok (.aload_n 0, 1) := by decide +kernel
theorem dX12_throwAway_2 : decode cX12_throwAway 2 = .ok (.iload_n 1, 1) := by decide +kernel
theorem dX12_throwAway_3 : decode cX12_throwAway 3 = .ok (.invokevirtual 107, 3) := by decide +kernel
theorem dX12_throwAway_6 : decode cX12_throwAway 6 = .ok (.iconst 1, 1) := by decide +kernel
theorem dX12_throwAway_7 : decode cX12_throwAway 7 = .ok (.invokevirtual 60, 3) := by decide +kernel
theorem dX12_throwAway_10 : decode cX12_throwAway 10 = .ok (.ifCond .eq 16, 3) := by decide +kernel
theorem dX12_throwAway_13 : decode cX12_throwAway 13 = .ok (.aload_n 0, 1) := by decide +kernel
theorem dX12_throwAway_14 : decode cX12_throwAway 14 = .ok (.aload_n 0, 1) := by decide +kernel
theorem dX12_throwAway_15 : decode cX12_throwAway 15 = .ok (.iload_n 1, 1) := by decide +kernel
theorem dX12_throwAway_16 : decode cX12_throwAway 16 = .ok (.invokevirtual 116, 3) := by decide +kernel
theorem dX12_throwAway_19 : decode cX12_throwAway 19 = .ok (.iconst 2, 1) := by decide +kernel
theorem dX12_throwAway_20 : decode cX12_throwAway 20 = .ok (.invokevirtual 60, 3) := by decide +kernel
theorem dX12_throwAway_23 : decode cX12_throwAway 23 = .ok (.ifCond .ne 5, 3) := by decide +kernel
theorem dX12_throwAway_26 : decode cX12_throwAway 26 = .ok (.iconst 0, 1) := by decide +kernel
theorem dX12_throwAway_27 : decode cX12_throwAway 27 = .ok (.ireturn, 1) := by decide +kernel
theorem dX12_throwAway_28 : decode cX12_throwAway 28 = .ok (.aload_n 0, 1) := by decide +kernel
theorem dX12_throwAway_29 : decode cX12_throwAway 29 = .ok (.invokevirtual 74, 3) := by decide +kernel
theorem dX12_throwAway_32 : decode cX12_throwAway 32 = .ok (.aload_n 0, 1) := by decide +kernel
theorem dX12_throwAway_33 : decode cX12_throwAway 33 = .ok (.getfield 9, 3) := by decide +kernel
theorem dX12_throwAway_36 : decode cX12_throwAway 36 = .ok (.sipush 163, 3) := by decide +kernel
theorem dX12_throwAway_39 : decode cX12_throwAway 39 = .ok (.iload_n 1, 1) := by decide +kernel
theorem dX12_throwAway_40 : decode cX12_throwAway 40 = .ok (.iadd, 1) := by decide +kernel
theorem dX12_throwAway_41 : decode cX12_throwAway 41 = .ok (.iconst 4, 1) := by decide +kernel
theorem dX12_throwAway_42 : decode cX12_throwAway 42 = .ok (.iastore, 1) := by decide +kernel
theorem dX12_throwAway_43 : decode cX12_throwAway 43 = .ok (.aload_n 0, 1) := by decide +kernel
theorem dX12_throwAway_44 : decode cX12_throwAway 44 = .ok (.getfield 9, 3) := by decide +kernel
theorem dX12_throwAway_47 : decode cX12_throwAway 47 = .ok (.bipush 10, 2) := by decide +kernel
theorem dX12_throwAway_49 : decode cX12_throwAway 49 = .ok (.dup2, 1) := by decide +kernel
theorem dX12_throwAway_50 : decode cX12_throwAway 50 = .ok (.iaload, 1) := by decide +kernel
theorem dX12_throwAway_51 : decode cX12_throwAway 51 = .ok (.aload_n 0, 1) := by decide +kernel
theorem dX12_throwAway_52 : decode cX12_throwAway 52 = .ok (.iload_n 1, 1) := by decide +kernel
theorem dX12_throwAway_53 : decode cX12_throwAway 53 = .ok (.invokevirtual 113, 3) := by decide +kernel
theorem dX12_throwAway_56 : decode cX12_throwAway 56 = .ok (.iadd, 1) := by decide +kernel
theorem dX12_throwAway_57 : decode cX12_throwAway 57 = .ok (.iastore, 1) := by decide +kernel
theorem dX12_throwAway_58 : decode cX12_throwAway 58 = .ok (.aload_n 0, 1) := by decide +kernel
theorem dX12_throwAway_59 : decode cX12_throwAway 59 = .ok (.iload_n 1, 1) := by decide +kernel
theorem dX12_throwAway_60 : decode cX12_throwAway 60 = .ok (.invokevirtual 113, 3) := by decide +kernel
theorem dX12_throwAway_63 : decode cX12_throwAway 63 = .ok (.ireturn, 1) := by decide +kernel
theorem dX12_doughCount_0 : decode cX12_doughCount 0 = .ok (.aload_n 0, 1) := by decide +kernel
theorem dX12_doughCount_1 : decode cX12_doughCount 1 = .ok (.iconst 0, 1) := by decide +kernel
theorem dX12_doughCount_2 : decode cX12_doughCount 2 = .ok (.putfield 46, 3) := by decide +kernel
theorem dX12_doughCount_5 : decode cX12_doughCount 5 = .ok (.aload_n 0, 1) := by decide +kernel
theorem dX12_doughCount_6 : decode cX12_doughCount 6 = .ok (.getfield 9, 3) := by decide +kernel
theorem dX12_doughCount_9 : decode cX12_doughCount 9 = .ok (.bipush 6, 2) := by decide +kernel
theorem dX12_doughCount_11 : decode cX12_doughCount 11 = .ok (.iaload, 1) := by decide +kernel
theorem dX12_doughCount_12 : decode cX12_doughCount 12 = .ok (.ireturn, 1) := by decide +kernel
set_option maxRecDepth 20000 in
theorem ggX12_setHeat_X12_in : GoodIn wsX12_setHeat wsX12_in := goodIn_r _ [5] (by decide +kernel) (by decide +kernel)
set_option maxRecDepth 20000 in
theorem gX12_setHeat_X12_in : GoodIn wsX12_setHeat (va_wsS RX12 64 yX12_in wsX12_in) := goodIn_app (goodIn_of _ (by decide +kernel)) ggX12_setHeat_X12_in
set_option maxRecDepth 20000 in
theorem ggX12_setHeat_X12_can : GoodIn wsX12_setHeat wsX12_can := goodIn_r _ [9, 10, 22, 23, 24, 25, 26, 27, 28, 29, 30, 31, 32, 33, 34, 35, 36, 37, 38, 39, 40, 41] (by decide +kernel) (by decide +kernel)
set_option maxRecDepth 20000 in
theorem gX12_setHeat_X12_can : GoodIn wsX12_setHeat (wsV RX12 60 RX12 yX12_can wsX12_can) := goodIn_app (goodIn_of _ (by decide +kernel)) ggX12_setHeat_X12_can
set_option maxRecDepth 20000 in
theorem ggX12_setHeat_X12_keep : GoodIn wsX12_setHeat wsX12_keep := goodIn_r _ [14, 15, 16, 17, 1, 18, 19, 20, 4, 21, 22, 23, 24, 25, 26, 27, 28, 29, 30, 31, 32, 33, 34, 35, 36, 37, 38, 39, 40, 41] (by decide +kernel) (by decide +kernel)
set_option maxRecDepth 20000 in
theorem gX12_setHeat_X12_keep : GoodIn wsX12_setHeat (wsV RX12 74 RX12 yX12_keep wsX12_keep) := goodIn_app (goodIn_of _ (by decide +kernel)) ggX12_setHeat_X12_keep
theorem dX12_setHeat_0 : decode cX12_setHeat 0 = .ok (.aload_n 0, 1) := by decide +kernel
theorem dX12_setHeat_1 : decode cX12_setHeat 1 = .ok (.iload_n 1, 1) := by decide +kernel
theorem dX12_setHeat_2 : decode cX12_setHeat 2 = .ok (.bipush 20, 2) := by decide +kernel
theorem dX12_setHeat_4 : decode cX12_setHeat 4 = .ok (.sipush 320, 3) := by decide +kernel
theorem dX12_setHeat_7 : decode cX12_setHeat 7 = .ok (.invokestatic 64, 3) := by decide +kernel
theorem dX12_setHeat_10 : decode cX12_setHeat 10 = .ok (.iconst 1, 1) := by decide +kernel
theorem dX12_setHeat_11 : decode cX12_setHeat 11 = .ok (.invokevirtual 60, 3) := by decide +kernel
theorem dX12_setHeat_14 : decode cX12_setHeat 14 = .ok (.ifCond .ne 5, 3) := by decide +kernel
theorem dX12_setHeat_17 : decode cX12_setHeat 17 = .ok (.iconst 0, 1) := by decide +kernel
theorem dX12_setHeat_18 : decode cX12_setHeat 18 = .ok (.ireturn, 1) := by decide +kernel
theorem dX12_setHeat_19 : decode cX12_setHeat 19 = .ok (.aload_n 0, 1) := by decide +kernel
theorem dX12_setHeat_20 : decode cX12_setHeat 20 = .ok (.invokevirtual 74, 3) := by decide +kernel
theorem dX12_setHeat_23 : decode cX12_setHeat 23 = .ok (.aload_n 0, 1) := by decide +kernel
theorem dX12_setHeat_24 : decode cX12_setHeat 24 = .ok (.getfield 9, 3) := by decide +kernel
theorem dX12_setHeat_27 : decode cX12_setHeat 27 = .ok (.iconst 3, 1) := by decide +kernel
theorem dX12_setHeat_28 : decode cX12_setHeat 28 = .ok (.iload_n 1, 1) := by decide +kernel
theorem dX12_setHeat_29 : decode cX12_setHeat 29 = .ok (.iastore, 1) := by decide +kernel
theorem dX12_setHeat_30 : decode cX12_setHeat 30 = .ok (.aload_n 0, 1) := by decide +kernel
theorem dX12_setHeat_31 : decode cX12_setHeat 31 = .ok (.getfield 9, 3) := by decide +kernel
theorem dX12_setHeat_34 : decode cX12_setHeat 34 = .ok (.iconst 2, 1) := by decide +kernel
theorem dX12_setHeat_35 : decode cX12_setHeat 35 = .ok (.iaload, 1) := by decide +kernel
theorem dX12_setHeat_36 : decode cX12_setHeat 36 = .ok (.ireturn, 1) := by decide +kernel
theorem dX12_heat_0 : decode cX12_heat 0 = .ok (.aload_n 0, 1) := by decide +kernel
theorem dX12_heat_1 : decode cX12_heat 1 = .ok (.iconst 0, 1) := by decide +kernel
theorem dX12_heat_2 : decode cX12_heat 2 = .ok (.putfield 46, 3) := by decide +kernel
theorem dX12_heat_5 : decode cX12_heat 5 = .ok (.aload_n 0, 1) := by decide +kernel
theorem dX12_heat_6 : decode cX12_heat 6 = .ok (.getfield 9, 3) := by decide +kernel
theorem dX12_heat_9 : decode cX12_heat 9 = .ok (.iconst 2, 1) := by decide +kernel
theorem dX12_heat_10 : decode cX12_heat 10 = .ok (.iaload, 1) := by decide +kernel
theorem dX12_heat_11 : decode cX12_heat 11 = .ok (.ireturn, 1) := by decide +kernel
set_option maxRecDepth 20000 in
theorem ggX12_setDecks_X12_in : GoodIn wsX12_setDecks wsX12_in := goodIn_r _ [5] (by decide +kernel) (by decide +kernel)
set_option maxRecDepth 20000 in
theorem gX12_setDecks_X12_in : GoodIn wsX12_setDecks (va_wsS RX12 64 yX12_in wsX12_in) := goodIn_app (goodIn_of _ (by decide +kernel)) ggX12_setDecks_X12_in
set_option maxRecDepth 20000 in
theorem ggX12_setDecks_X12_can : GoodIn wsX12_setDecks wsX12_can := goodIn_r _ [9, 10, 22, 23, 24, 25, 26, 27, 28, 29, 30, 31, 32, 33, 34, 35, 36, 37, 38, 39, 40, 41] (by decide +kernel) (by decide +kernel)
set_option maxRecDepth 20000 in
theorem gX12_setDecks_X12_can : GoodIn wsX12_setDecks (wsV RX12 60 RX12 yX12_can wsX12_can) := goodIn_app (goodIn_of _ (by decide +kernel)) ggX12_setDecks_X12_can
set_option maxRecDepth 20000 in
theorem ggX12_setDecks_X12_keep : GoodIn wsX12_setDecks wsX12_keep := goodIn_r _ [14, 15, 16, 17, 1, 18, 19, 20, 4, 21, 22, 23, 24, 25, 26, 27, 28, 29, 30, 31, 32, 33, 34, 35, 36, 37, 38, 39, 40, 41] (by decide +kernel) (by decide +kernel)
set_option maxRecDepth 20000 in
theorem gX12_setDecks_X12_keep : GoodIn wsX12_setDecks (wsV RX12 74 RX12 yX12_keep wsX12_keep) := goodIn_app (goodIn_of _ (by decide +kernel)) ggX12_setDecks_X12_keep
theorem dX12_setDecks_0 : decode cX12_setDecks 0 = .ok (.aload_n 0, 1) := by decide +kernel
theorem dX12_setDecks_1 : decode cX12_setDecks 1 = .ok (.iload_n 1, 1) := by decide +kernel
theorem dX12_setDecks_2 : decode cX12_setDecks 2 = .ok (.iconst 1, 1) := by decide +kernel
theorem dX12_setDecks_3 : decode cX12_setDecks 3 = .ok (.iconst 4, 1) := by decide +kernel
theorem dX12_setDecks_4 : decode cX12_setDecks 4 = .ok (.invokestatic 64, 3) := by decide +kernel
theorem dX12_setDecks_7 : decode cX12_setDecks 7 = .ok (.iconst 1, 1) := by decide +kernel
theorem dX12_setDecks_8 : decode cX12_setDecks 8 = .ok (.invokevirtual 60, 3) := by decide +kernel
theorem dX12_setDecks_11 : decode cX12_setDecks 11 = .ok (.ifCond .ne 5, 3) := by decide +kernel
theorem dX12_setDecks_14 : decode cX12_setDecks 14 = .ok (.iconst 0, 1) := by decide +kernel
theorem dX12_setDecks_15 : decode cX12_setDecks 15 = .ok (.ireturn, 1) := by decide +kernel
theorem dX12_setDecks_16 : decode cX12_setDecks 16 = .ok (.aload_n 0, 1) := by decide +kernel
theorem dX12_setDecks_17 : decode cX12_setDecks 17 = .ok (.invokevirtual 74, 3) := by decide +kernel
theorem dX12_setDecks_20 : decode cX12_setDecks 20 = .ok (.aload_n 0, 1) := by decide +kernel
theorem dX12_setDecks_21 : decode cX12_setDecks 21 = .ok (.getfield 9, 3) := by decide +kernel
theorem dX12_setDecks_24 : decode cX12_setDecks 24 = .ok (.iconst 4, 1) := by decide +kernel
theorem dX12_setDecks_25 : decode cX12_setDecks 25 = .ok (.iaload, 1) := by decide +kernel
theorem dX12_setDecks_26 : decode cX12_setDecks 26 = .ok (.istore_n 2, 1) := by decide +kernel
theorem dX12_setDecks_27 : decode cX12_setDecks 27 = .ok (.aload_n 0, 1) := by decide +kernel
theorem dX12_setDecks_28 : decode cX12_setDecks 28 = .ok (.getfield 9, 3) := by decide +kernel
theorem dX12_setDecks_31 : decode cX12_setDecks 31 = .ok (.iconst 4, 1) := by decide +kernel
theorem dX12_setDecks_32 : decode cX12_setDecks 32 = .ok (.iload_n 1, 1) := by decide +kernel
theorem dX12_setDecks_33 : decode cX12_setDecks 33 = .ok (.iastore, 1) := by decide +kernel
theorem dX12_setDecks_34 : decode cX12_setDecks 34 = .ok (.iload_n 2, 1) := by decide +kernel
theorem dX12_setDecks_35 : decode cX12_setDecks 35 = .ok (.ireturn, 1) := by decide +kernel
theorem dX12_wentInNow_0 : decode cX12_wentInNow 0 = .ok (.iconst 0, 1) := by decide +kernel
theorem dX12_wentInNow_1 : decode cX12_wentInNow 1 = .ok (.istore_n 1, 1) := by decide +kernel
theorem dX12_wentInNow_2 : decode cX12_wentInNow 2 = .ok (.iconst 0, 1) := by decide +kernel
theorem dX12_wentInNow_3 : decode cX12_wentInNow 3 = .ok (.istore_n 2, 1) := by decide +kernel
theorem dX12_wentInNow_4 : decode cX12_wentInNow 4 = .ok (.iload_n 2, 1) := by decide +kernel
theorem dX12_wentInNow_5 : decode cX12_wentInNow 5 = .ok (.aload_n 0, 1) := by decide +kernel
theorem dX12_wentInNow_6 : decode cX12_wentInNow 6 = .ok (.getfield 9, 3) := by decide +kernel
theorem dX12_wentInNow_9 : decode cX12_wentInNow 9 = .ok (.bipush 6, 2) := by decide +kernel
theorem dX12_wentInNow_11 : decode cX12_wentInNow 11 = .ok (.iaload, 1) := by decide +kernel
theorem dX12_wentInNow_12 : decode cX12_wentInNow 12 = .ok (.if_icmp .ge 36, 3) := by decide +kernel
theorem dX12_wentInNow_15 : decode cX12_wentInNow 15 = .ok (.iload_n 1, 1) := by decide +kernel
theorem dX12_wentInNow_16 : decode cX12_wentInNow 16 = .ok (.aload_n 0, 1) := by decide +kernel
theorem dX12_wentInNow_17 : decode cX12_wentInNow 17 = .ok (.getfield 9, 3) := by decide +kernel
theorem dX12_wentInNow_20 : decode cX12_wentInNow 20 = .ok (.sipush 203, 3) := by decide +kernel
theorem dX12_wentInNow_23 : decode cX12_wentInNow 23 = .ok (.iload_n 2, 1) := by decide +kernel
theorem dX12_wentInNow_24 : decode cX12_wentInNow 24 = .ok (.iadd, 1) := by decide +kernel
theorem dX12_wentInNow_25 : decode cX12_wentInNow 25 = .ok (.iaload, 1) := by decide +kernel
theorem dX12_wentInNow_26 : decode cX12_wentInNow 26 = .ok (.aload_n 0, 1) := by decide +kernel
theorem dX12_wentInNow_27 : decode cX12_wentInNow 27 = .ok (.getfield 9, 3) := by decide +kernel
theorem dX12_wentInNow_30 : decode cX12_wentInNow 30 = .ok (.iconst 0, 1) := by decide +kernel
theorem dX12_wentInNow_31 : decode cX12_wentInNow 31 = .ok (.iaload, 1) := by decide +kernel
theorem dX12_wentInNow_32 : decode cX12_wentInNow 32 = .ok (.if_icmp .ne 7, 3) := by decide +kernel
theorem dX12_wentInNow_35 : decode cX12_wentInNow 35 = .ok (.iconst 1, 1) := by decide +kernel
theorem dX12_wentInNow_36 : decode cX12_wentInNow 36 = .ok (.goto 4, 3) := by decide +kernel
theorem dX12_wentInNow_39 : decode cX12_wentInNow 39 = .ok (.iconst 0, 1) := by decide +kernel
theorem dX12_wentInNow_40 : decode cX12_wentInNow 40 = .ok (.iadd, 1) := by decide +kernel
theorem dX12_wentInNow_41 : decode cX12_wentInNow 41 = .ok (.istore_n 1, 1) := by decide +kernel
theorem dX12_wentInNow_42 : decode cX12_wentInNow 42 = .ok (.iinc 2 1, 3) := by decide +kernel
theorem dX12_wentInNow_45 : decode cX12_wentInNow 45 = .ok (.goto (-41), 3) := by decide +kernel
theorem dX12_wentInNow_48 : decode cX12_wentInNow 48 = .ok (.iload_n 1, 1) := by decide +kernel
theorem dX12_wentInNow_49 : decode cX12_wentInNow 49 = .ok (.ireturn, 1) := by decide +kernel
set_option maxRecDepth 20000 in
theorem ggX12_canBake_X12_isRipe : GoodIn wsX12_canBake wsX12_isRipe := goodIn_r _ [6, 1, 7, 8, 5, 9, 14, 15, 16, 17, 18, 19, 20, 21, 22, 23, 24, 25, 26, 27, 28, 29, 30, 31, 32, 33] (by decide +kernel) (by decide +kernel)
set_option maxRecDepth 20000 in
theorem gX12_canBake_X12_isRipe : GoodIn wsX12_canBake (wsV RX12 110 RX12 yX12_isRipe wsX12_isRipe) := goodIn_app (goodIn_of _ (by decide +kernel)) ggX12_canBake_X12_isRipe
set_option maxRecDepth 20000 in
theorem ggX12_canBake_X12_wentInNow : GoodIn wsX12_canBake wsX12_wentInNow := goodIn_r _ [13, 1, 14, 15, 16, 17, 18, 19, 20, 21, 22, 23, 24, 25, 26, 27, 28, 29, 30, 31, 32, 33] (by decide +kernel) (by decide +kernel)
set_option maxRecDepth 20000 in
theorem gX12_canBake_X12_wentInNow : GoodIn wsX12_canBake (wsV RX12 119 RX12 yX12_wentInNow wsX12_wentInNow) := goodIn_app (goodIn_of _ (by decide +kernel)) ggX12_canBake_X12_wentInNow
set_option maxRecDepth 20000 in
theorem ggX12_canBake_X12_in : GoodIn wsX12_canBake wsX12_in := goodIn_r _ [9] (by decide +kernel) (by decide +kernel)
set_option maxRecDepth 20000 in
theorem gX12_canBake_X12_in : GoodIn wsX12_canBake (va_wsS RX12 64 yX12_in wsX12_in) := goodIn_app (goodIn_of _ (by decide +kernel)) ggX12_canBake_X12_in
theorem dX12_canBake_0 : decode cX12_canBake 0 = .ok (.aload_n 0, 1) := by decide +kernel
theorem dX12_canBake_1 : decode cX12_canBake 1 = .ok (.getfield 9, 3) := by decide +kernel
theorem dX12_canBake_4 : decode cX12_canBake 4 = .ok (.bipush 103, 2) := by decide +kernel
theorem dX12_canBake_6 : decode cX12_canBake 6 = .ok (.iload_n 1, 1) := by decide +kernel
theorem dX12_canBake_7 : decode cX12_canBake 7 = .ok (.iadd, 1) := by decide +kernel
theorem dX12_canBake_8 : decode cX12_canBake 8 = .ok (.iaload, 1) := by decide +kernel
theorem dX12_canBake_9 : decode cX12_canBake 9 = .ok (.istore_n 2, 1) := by decide +kernel
theorem dX12_canBake_10 : decode cX12_canBake 10 = .ok (.aload_n 0, 1) := by decide +kernel
theorem dX12_canBake_11 : decode cX12_canBake 11 = .ok (.getfield 9, 3) := by decide +kernel
theorem dX12_canBake_14 : decode cX12_canBake 14 = .ok (.sipush 163, 3) := by decide +kernel
theorem dX12_canBake_17 : decode cX12_canBake 17 = .ok (.iload_n 1, 1) := by decide +kernel
theorem dX12_canBake_18 : decode cX12_canBake 18 = .ok (.iadd, 1) := by decide +kernel
theorem dX12_canBake_19 : decode cX12_canBake 19 = .ok (.iaload, 1) := by decide +kernel
theorem dX12_canBake_20 : decode cX12_canBake 20 = .ok (.iconst 1, 1) := by decide +kernel
theorem dX12_canBake_21 : decode cX12_canBake 21 = .ok (.if_icmp .ne 40, 3) := by decide +kernel
theorem dX12_canBake_24 : decode cX12_canBake 24 = .ok (.aload_n 0, 1) := by decide +kernel
theorem dX12_canBake_25 : decode cX12_canBake 25 = .ok (.getfield 9, 3) := by decide +kernel
theorem dX12_canBake_28 : decode cX12_canBake 28 = .ok (.iconst 0, 1) := by decide +kernel
theorem dX12_canBake_29 : decode cX12_canBake 29 = .ok (.iaload, 1) := by decide +kernel
theorem dX12_canBake_30 : decode cX12_canBake 30 = .ok (.aload_n 0, 1) := by decide +kernel
theorem dX12_canBake_31 : decode cX12_canBake 31 = .ok (.getfield 9, 3) := by decide +kernel
theorem dX12_canBake_34 : decode cX12_canBake 34 = .ok (.sipush 183, 3) := by decide +kernel
theorem dX12_canBake_37 : decode cX12_canBake 37 = .ok (.iload_n 1, 1) := by decide +kernel
theorem dX12_canBake_38 : decode cX12_canBake 38 = .ok (.iadd, 1) := by decide +kernel
theorem dX12_canBake_39 : decode cX12_canBake 39 = .ok (.iaload, 1) := by decide +kernel
theorem dX12_canBake_40 : decode cX12_canBake 40 = .ok (.isub, 1) := by decide +kernel
theorem dX12_canBake_41 : decode cX12_canBake 41 = .ok (.aload_n 0, 1) := by decide +kernel
theorem dX12_canBake_42 : decode cX12_canBake 42 = .ok (.getfield 9, 3) := by decide +kernel
theorem dX12_canBake_45 : decode cX12_canBake 45 = .ok (.bipush 49, 2) := by decide +kernel
theorem dX12_canBake_47 : decode cX12_canBake 47 = .ok (.iload_n 2, 1) := by decide +kernel
theorem dX12_canBake_48 : decode cX12_canBake 48 = .ok (.iadd, 1) := by decide +kernel
theorem dX12_canBake_49 : decode cX12_canBake 49 = .ok (.iaload, 1) := by decide +kernel
theorem dX12_canBake_50 : decode cX12_canBake 50 = .ok (.if_icmp .gt 7, 3) := by decide +kernel
theorem dX12_canBake_53 : decode cX12_canBake 53 = .ok (.iconst 1, 1) := by decide +kernel
theorem dX12_canBake_54 : decode cX12_canBake 54 = .ok (.goto 33, 3) := by decide +kernel
theorem dX12_canBake_57 : decode cX12_canBake 57 = .ok (.iconst 0, 1) := by decide +kernel
theorem dX12_canBake_58 : decode cX12_canBake 58 = .ok (.goto 29, 3) := by decide +kernel
theorem dX12_canBake_61 : decode cX12_canBake 61 = .ok (.aload_n 0, 1) := by decide +kernel
theorem dX12_canBake_62 : decode cX12_canBake 62 = .ok (.getfield 9, 3) := by decide +kernel
theorem dX12_canBake_65 : decode cX12_canBake 65 = .ok (.sipush 163, 3) := by decide +kernel
theorem dX12_canBake_68 : decode cX12_canBake 68 = .ok (.iload_n 1, 1) := by decide +kernel
theorem dX12_canBake_69 : decode cX12_canBake 69 = .ok (.iadd, 1) := by decide +kernel
theorem dX12_canBake_70 : decode cX12_canBake 70 = .ok (.iaload, 1) := by decide +kernel
theorem dX12_canBake_71 : decode cX12_canBake 71 = .ok (.ifCond .ne 15, 3) := by decide +kernel
theorem dX12_canBake_74 : decode cX12_canBake 74 = .ok (.aload_n 0, 1) := by decide +kernel
theorem dX12_canBake_75 : decode cX12_canBake 75 = .ok (.iload_n 1, 1) := by decide +kernel
theorem dX12_canBake_76 : decode cX12_canBake 76 = .ok (.invokevirtual 110, 3) := by decide +kernel
theorem dX12_canBake_79 : decode cX12_canBake 79 = .ok (.ifCond .eq 7, 3) := by decide +kernel
theorem dX12_canBake_82 : decode cX12_canBake 82 = .ok (.iconst 1, 1) := by decide +kernel
theorem dX12_canBake_83 : decode cX12_canBake 83 = .ok (.goto 4, 3) := by decide +kernel
theorem dX12_canBake_86 : decode cX12_canBake 86 = .ok (.iconst 0, 1) := by decide +kernel
theorem dX12_canBake_87 : decode cX12_canBake 87 = .ok (.istore_n 3, 1) := by decide +kernel
theorem dX12_canBake_88 : decode cX12_canBake 88 = .ok (.iload_n 3, 1) := by decide +kernel
theorem dX12_canBake_89 : decode cX12_canBake 89 = .ok (.ifCond .eq 65, 3) := by decide +kernel
theorem dX12_canBake_92 : decode cX12_canBake 92 = .ok (.aload_n 0, 1) := by decide +kernel
theorem dX12_canBake_93 : decode cX12_canBake 93 = .ok (.getfield 9, 3) := by decide +kernel
theorem dX12_canBake_96 : decode cX12_canBake 96 = .ok (.iconst 0, 1) := by decide +kernel
theorem dX12_canBake_97 : decode cX12_canBake 97 = .ok (.iaload, 1) := by decide +kernel
theorem dX12_canBake_98 : decode cX12_canBake 98 = .ok (.bipush 10, 2) := by decide +kernel
theorem dX12_canBake_100 : decode cX12_canBake 100 = .ok (.irem, 1) := by decide +kernel
theorem dX12_canBake_101 : decode cX12_canBake 101 = .ok (.ifCond .ne 53, 3) := by decide +kernel
theorem dX12_canBake_104 : decode cX12_canBake 104 = .ok (.aload_n 0, 1) := by decide +kernel
theorem dX12_canBake_105 : decode cX12_canBake 105 = .ok (.invokevirtual 119, 3) := by decide +kernel
theorem dX12_canBake_108 : decode cX12_canBake 108 = .ok (.aload_n 0, 1) := by decide +kernel
theorem dX12_canBake_109 : decode cX12_canBake 109 = .ok (.getfield 9, 3) := by decide +kernel
theorem dX12_canBake_112 : decode cX12_canBake 112 = .ok (.iconst 4, 1) := by decide +kernel
theorem dX12_canBake_113 : decode cX12_canBake 113 = .ok (.iaload, 1) := by decide +kernel
theorem dX12_canBake_114 : decode cX12_canBake 114 = .ok (.if_icmp .ge 40, 3) := by decide +kernel
theorem dX12_canBake_117 : decode cX12_canBake 117 = .ok (.aload_n 0, 1) := by decide +kernel
theorem dX12_canBake_118 : decode cX12_canBake 118 = .ok (.getfield 9, 3) := by decide +kernel
theorem dX12_canBake_121 : decode cX12_canBake 121 = .ok (.iconst 2, 1) := by decide +kernel
theorem dX12_canBake_122 : decode cX12_canBake 122 = .ok (.iaload, 1) := by decide +kernel
theorem dX12_canBake_123 : decode cX12_canBake 123 = .ok (.aload_n 0, 1) := by decide +kernel
theorem dX12_canBake_124 : decode cX12_canBake 124 = .ok (.getfield 9, 3) := by decide +kernel
theorem dX12_canBake_127 : decode cX12_canBake 127 = .ok (.bipush 37, 2) := by decide +kernel
theorem dX12_canBake_129 : decode cX12_canBake 129 = .ok (.iload_n 2, 1) := by decide +kernel
theorem dX12_canBake_130 : decode cX12_canBake 130 = .ok (.iadd, 1) := by decide +kernel
theorem dX12_canBake_131 : decode cX12_canBake 131 = .ok (.iaload, 1) := by decide +kernel
theorem dX12_canBake_132 : decode cX12_canBake 132 = .ok (.aload_n 0, 1) := by decide +kernel
theorem dX12_canBake_133 : decode cX12_canBake 133 = .ok (.getfield 9, 3) := by decide +kernel
theorem dX12_canBake_136 : decode cX12_canBake 136 = .ok (.bipush 37, 2) := by decide +kernel
theorem dX12_canBake_138 : decode cX12_canBake 138 = .ok (.iload_n 2, 1) := by decide +kernel
theorem dX12_canBake_139 : decode cX12_canBake 139 = .ok (.iadd, 1) := by decide +kernel
theorem dX12_canBake_140 : decode cX12_canBake 140 = .ok (.iaload, 1) := by decide +kernel
theorem dX12_canBake_141 : decode cX12_canBake 141 = .ok (.bipush 40, 2) := by decide +kernel
theorem dX12_canBake_143 : decode cX12_canBake 143 = .ok (.iadd, 1) := by decide +kernel
theorem dX12_canBake_144 : decode cX12_canBake 144 = .ok (.invokestatic 64, 3) := by decide +kernel
theorem dX12_canBake_147 : decode cX12_canBake 147 = .ok (.ifCond .eq 7, 3) := by decide +kernel
theorem dX12_canBake_150 : decode cX12_canBake 150 = .ok (.iconst 1, 1) := by decide +kernel
theorem dX12_canBake_151 : decode cX12_canBake 151 = .ok (.goto 4, 3) := by decide +kernel
theorem dX12_canBake_154 : decode cX12_canBake 154 = .ok (.iconst 0, 1) := by decide +kernel
theorem dX12_canBake_155 : decode cX12_canBake 155 = .ok (.ireturn, 1) := by decide +kernel
set_option maxRecDepth 20000 in
theorem ggX12_bake_X12_isDough : GoodIn wsX12_bake wsX12_isDough := goodIn_r _ [6, 1, 7, 8, 5, 9, 38, 39, 40, 41, 42, 43, 44, 45, 46, 47, 48, 49, 50, 51, 52, 53, 54, 55, 56, 57] (by decide +kernel) (by decide +kernel)
set_option maxRecDepth 20000 in
theorem gX12_bake_X12_isDough : GoodIn wsX12_bake (wsV RX12 107 RX12 yX12_isDough wsX12_isDough) := goodIn_app (goodIn_of _ (by decide +kernel)) ggX12_bake_X12_isDough
set_option maxRecDepth 20000 in
theorem ggX12_bake_X12_can : GoodIn wsX12_bake wsX12_can := goodIn_r _ [13, 14, 38, 39, 40, 41, 42, 43, 44, 45, 46, 47, 48, 49, 50, 51, 52, 53, 54, 55, 56, 57] (by decide +kernel) (by decide +kernel)
set_option maxRecDepth 20000 in
theorem gX12_bake_X12_can : GoodIn wsX12_bake (wsV RX12 60 RX12 yX12_can wsX12_can) := goodIn_app (goodIn_of _ (by decide +kernel)) ggX12_bake_X12_can
set_option maxRecDepth 20000 in
theorem ggX12_bake_X12_canBake : GoodIn wsX12_bake wsX12_canBake := goodIn_r _ [18, 1, 19, 20, 21, 5, 22, 7, 8, 9, 23, 24, 25, 26, 38, 39, 40, 41, 42, 43, 44, 45, 46, 47, 48, 49, 50, 51, 52, 53, 54, 55, 56, 57] (by decide +kernel) (by decide +kernel)
set_option maxRecDepth 20000 in
theorem gX12_bake_X12_canBake : GoodIn wsX12_bake (wsV RX12 122 RX12 yX12_canBake wsX12_canBake) := goodIn_app (goodIn_of _ (by decide +kernel)) ggX12_bake_X12_canBake
set_option maxRecDepth 20000 in
theorem ggX12_bake_X12_keep : GoodIn wsX12_bake wsX12_keep := goodIn_r _ [30, 31, 32, 33, 1, 34, 35, 36, 5, 37, 38, 39, 40, 41, 42, 43, 44, 45, 46, 47, 48, 49, 50, 51, 52, 53, 54, 55, 56, 57] (by decide +kernel) (by decide +kernel)
set_option maxRecDepth 20000 in
theorem gX12_bake_X12_keep : GoodIn wsX12_bake (wsV RX12 74 RX12 yX12_keep wsX12_keep) := goodIn_app (goodIn_of _ (by decide +kernel)) ggX12_bake_X12_keep
theorem dX12_bake_0 : decode cX12_bake 0 = .ok (.aload_n 0, 1) := by decide +kernel
theorem dX12_bake_1 : decode cX12_bake 1 = .ok (.aload_n 0, 1) := by decide +kernel
theorem dX12_bake_2 : decode cX12_bake 2 = .ok (.iload_n 1, 1) := by decide +kernel
theorem dX12_bake_3 : decode cX12_bake 3 = .ok (.invokevirtual 107, 3) := by decide +kernel
theorem dX12_bake_6 : decode cX12_bake 6 = .ok (.iconst 1, 1) := by decide +kernel
theorem dX12_bake_7 : decode cX12_bake 7 = .ok (.invokevirtual 60, 3) := by decide +kernel
theorem dX12_bake_10 : decode cX12_bake 10 = .ok (.ifCond .eq 16, 3) := by decide +kernel
theorem dX12_bake_13 : decode cX12_bake 13 = .ok (.aload_n 0, 1) := by decide +kernel
theorem dX12_bake_14 : decode cX12_bake 14 = .ok (.aload_n 0, 1) := by decide +kernel
theorem dX12_bake_15 : decode cX12_bake 15 = .ok (.iload_n 1, 1) := by decide +kernel
theorem dX12_bake_16 : decode cX12_bake 16 = .ok (.invokevirtual 122, 3) := by decide +kernel
theorem dX12_bake_19 : decode cX12_bake 19 = .ok (.iconst 2, 1) := by decide +kernel
theorem dX12_bake_20 : decode cX12_bake 20 = .ok (.invokevirtual 60, 3) := by decide +kernel
theorem dX12_bake_23 : decode cX12_bake 23 = .ok (.ifCond .ne 5, 3) := by decide +kernel
theorem dX12_bake_26 : decode cX12_bake 26 = .ok (.iconst 0, 1) := by decide +kernel
theorem dX12_bake_27 : decode cX12_bake 27 = .ok (.ireturn, 1) := by decide +kernel
theorem dX12_bake_28 : decode cX12_bake 28 = .ok (.aload_n 0, 1) := by decide +kernel
theorem dX12_bake_29 : decode cX12_bake 29 = .ok (.invokevirtual 74, 3) := by decide +kernel
theorem dX12_bake_32 : decode cX12_bake 32 = .ok (.aload_n 0, 1) := by decide +kernel
theorem dX12_bake_33 : decode cX12_bake 33 = .ok (.getfield 9, 3) := by decide +kernel
theorem dX12_bake_36 : decode cX12_bake 36 = .ok (.sipush 163, 3) := by decide +kernel
theorem dX12_bake_39 : decode cX12_bake 39 = .ok (.iload_n 1, 1) := by decide +kernel
theorem dX12_bake_40 : decode cX12_bake 40 = .ok (.iadd, 1) := by decide +kernel
theorem dX12_bake_41 : decode cX12_bake 41 = .ok (.iconst 2, 1) := by decide +kernel
theorem dX12_bake_42 : decode cX12_bake 42 = .ok (.iastore, 1) := by decide +kernel
theorem dX12_bake_43 : decode cX12_bake 43 = .ok (.aload_n 0, 1) := by decide +kernel
theorem dX12_bake_44 : decode cX12_bake 44 = .ok (.getfield 9, 3) := by decide +kernel
theorem dX12_bake_47 : decode cX12_bake 47 = .ok (.sipush 203, 3) := by decide +kernel
theorem dX12_bake_50 : decode cX12_bake 50 = .ok (.iload_n 1, 1) := by decide +kernel
theorem dX12_bake_51 : decode cX12_bake 51 = .ok (.iadd, 1) := by decide +kernel
theorem dX12_bake_52 : decode cX12_bake 52 = .ok (.aload_n 0, 1) := by decide +kernel
theorem dX12_bake_53 : decode cX12_bake 53 = .ok (.getfield 9, 3) := by decide +kernel
theorem dX12_bake_56 : decode cX12_bake 56 = .ok (.iconst 0, 1) := by decide +kernel
theorem dX12_bake_57 : decode cX12_bake 57 = .ok (.iaload, 1) := by decide +kernel
theorem dX12_bake_58 : decode cX12_bake 58 = .ok (.iastore, 1) := by decide +kernel
theorem dX12_bake_59 : decode cX12_bake 59 = .ok (.aload_n 0, 1) := by decide +kernel
theorem dX12_bake_60 : decode cX12_bake 60 = .ok (.getfield 9, 3) := by decide +kernel
theorem dX12_bake_63 : decode cX12_bake 63 = .ok (.iconst 0, 1) := by decide +kernel
theorem dX12_bake_64 : decode cX12_bake 64 = .ok (.iaload, 1) := by decide +kernel
theorem dX12_bake_65 : decode cX12_bake 65 = .ok (.bipush 10, 2) := by decide +kernel
theorem dX12_bake_67 : decode cX12_bake 67 = .ok (.iadd, 1) := by decide +kernel
theorem dX12_bake_68 : decode cX12_bake 68 = .ok (.ireturn, 1) := by decide +kernel
set_option maxRecDepth 20000 in
theorem ggX12_bounds_X12_gain : GoodIn wsX12_bounds wsX12_gain := goodIn_r _ [9, 1, 21, 22, 23, 24, 25, 26, 27, 28, 29, 30, 31, 32, 33, 34, 35, 36, 37, 38, 39, 40] (by decide +kernel) (by decide +kernel)
set_option maxRecDepth 20000 in
theorem gX12_bounds_X12_gain : GoodIn wsX12_bounds (wsV RX12 101 RX12 yX12_gain wsX12_gain) := goodIn_app (goodIn_of _ (by decide +kernel)) ggX12_bounds_X12_gain
set_option maxRecDepth 20000 in
theorem ggX12_bounds_X12_isAtHand : GoodIn wsX12_bounds wsX12_isAtHand := goodIn_r _ [13, 1, 21, 22, 23, 24, 25, 26, 27, 28, 29, 30, 31, 32, 33, 34, 35, 36, 37, 38, 39, 40] (by decide +kernel) (by decide +kernel)
set_option maxRecDepth 20000 in
theorem gX12_bounds_X12_isAtHand : GoodIn wsX12_bounds (wsV RX12 116 RX12 yX12_isAtHand wsX12_isAtHand) := goodIn_app (goodIn_of _ (by decide +kernel)) ggX12_bounds_X12_isAtHand
set_option maxRecDepth 20000 in
theorem ggX12_bounds_X12_isRipe : GoodIn wsX12_bounds wsX12_isRipe := goodIn_r _ [17, 1, 18, 19, 8, 20, 21, 22, 23, 24, 25, 26, 27, 28, 29, 30, 31, 32, 33, 34, 35, 36, 37, 38, 39, 40] (by decide +kernel) (by decide +kernel)
set_option maxRecDepth 20000 in
theorem gX12_bounds_X12_isRipe : GoodIn wsX12_bounds (wsV RX12 110 RX12 yX12_isRipe wsX12_isRipe) := goodIn_app (goodIn_of _ (by decide +kernel)) ggX12_bounds_X12_isRipe
theorem dX12_bounds_0 : decode cX12_bounds 0 = .ok (.aload_n 0, 1) := by decide +kernel
theorem dX12_bounds_1 : decode cX12_bounds 1 = .ok (.getfield 9, 3) := by decide +kernel
theorem dX12_bounds_4 : decode cX12_bounds 4 = .ok (.bipush 103, 2) := by decide +kernel
theorem dX12_bounds_6 : decode cX12_bounds 6 = .ok (.iload_n 1, 1) := by decide +kernel
theorem dX12_bounds_7 : decode cX12_bounds 7 = .ok (.iadd, 1) := by decide +kernel
theorem dX12_bounds_8 : decode cX12_bounds 8 = .ok (.iaload, 1) := by decide +kernel
theorem dX12_bounds_9 : decode cX12_bounds 9 = .ok (.istore_n 2, 1) := by decide +kernel
theorem dX12_bounds_10 : decode cX12_bounds 10 = .ok (.aload_n 0, 1) := by decide +kernel
theorem dX12_bounds_11 : decode cX12_bounds 11 = .ok (.getfield 9, 3) := by decide +kernel
theorem dX12_bounds_14 : decode cX12_bounds 14 = .ok (.sipush 143, 3) := by decide +kernel
theorem dX12_bounds_17 : decode cX12_bounds 17 = .ok (.iload_n 1, 1) := by decide +kernel
theorem dX12_bounds_18 : decode cX12_bounds 18 = .ok (.iadd, 1) := by decide +kernel
theorem dX12_bounds_19 : decode cX12_bounds 19 = .ok (.iaload, 1) := by decide +kernel
theorem dX12_bounds_20 : decode cX12_bounds 20 = .ok (.istore_n 3, 1) := by decide +kernel
theorem dX12_bounds_21 : decode cX12_bounds 21 = .ok (.aload_n 0, 1) := by decide +kernel
theorem dX12_bounds_22 : decode cX12_bounds 22 = .ok (.invokevirtual 101, 3) := by decide +kernel
theorem dX12_bounds_25 : decode cX12_bounds 25 = .ok (.istore 4, 2) := by decide +kernel
theorem dX12_bounds_27 : decode cX12_bounds 27 = .ok (.aload_n 0, 1) := by decide +kernel
theorem dX12_bounds_28 : decode cX12_bounds 28 = .ok (.getfield 25, 3) := by decide +kernel
theorem dX12_bounds_31 : decode cX12_bounds 31 = .ok (.iload_n 1, 1) := by decide +kernel
theorem dX12_bounds_32 : decode cX12_bounds 32 = .ok (.aload_n 0, 1) := by decide +kernel
theorem dX12_bounds_33 : decode cX12_bounds 33 = .ok (.getfield 9, 3) := by decide +kernel
theorem dX12_bounds_36 : decode cX12_bounds 36 = .ok (.iconst 0, 1) := by decide +kernel
theorem dX12_bounds_37 : decode cX12_bounds 37 = .ok (.iaload, 1) := by decide +kernel
theorem dX12_bounds_38 : decode cX12_bounds 38 = .ok (.iastore, 1) := by decide +kernel
theorem dX12_bounds_39 : decode cX12_bounds 39 = .ok (.aload_n 0, 1) := by decide +kernel
theorem dX12_bounds_40 : decode cX12_bounds 40 = .ok (.getfield 28, 3) := by decide +kernel
theorem dX12_bounds_43 : decode cX12_bounds 43 = .ok (.iload_n 1, 1) := by decide +kernel
theorem dX12_bounds_44 : decode cX12_bounds 44 = .ok (.ldc 125, 2) := by decide +kernel
theorem dX12_bounds_46 : decode cX12_bounds 46 = .ok (.iastore, 1) := by decide +kernel
theorem dX12_bounds_47 : decode cX12_bounds 47 = .ok (.aload_n 0, 1) := by decide +kernel
theorem dX12_bounds_48 : decode cX12_bounds 48 = .ok (.getfield 9, 3) := by decide +kernel
theorem dX12_bounds_51 : decode cX12_bounds 51 = .ok (.sipush 163, 3) := by decide +kernel
theorem dX12_bounds_54 : decode cX12_bounds 54 = .ok (.iload_n 1, 1) := by decide +kernel
theorem dX12_bounds_55 : decode cX12_bounds 55 = .ok (.iadd, 1) := by decide +kernel
theorem dX12_bounds_56 : decode cX12_bounds 56 = .ok (.iaload, 1) := by decide +kernel
theorem dX12_bounds_57 : decode cX12_bounds 57 = .ok (.iconst 1, 1) := by decide +kernel
theorem dX12_bounds_58 : decode cX12_bounds 58 = .ok (.if_icmp .ne 32, 3) := by decide +kernel
theorem dX12_bounds_61 : decode cX12_bounds 61 = .ok (.aload_n 0, 1) := by decide +kernel
theorem dX12_bounds_62 : decode cX12_bounds 62 = .ok (.getfield 28, 3) := by decide +kernel
theorem dX12_bounds_65 : decode cX12_bounds 65 = .ok (.iload_n 1, 1) := by decide +kernel
theorem dX12_bounds_66 : decode cX12_bounds 66 = .ok (.aload_n 0, 1) := by decide +kernel
theorem dX12_bounds_67 : decode cX12_bounds 67 = .ok (.getfield 9, 3) := by decide +kernel
theorem dX12_bounds_70 : decode cX12_bounds 70 = .ok (.sipush 183, 3) := by decide +kernel
theorem dX12_bounds_73 : decode cX12_bounds 73 = .ok (.iload_n 1, 1) := by decide +kernel
theorem dX12_bounds_74 : decode cX12_bounds 74 = .ok (.iadd, 1) := by decide +kernel
theorem dX12_bounds_75 : decode cX12_bounds 75 = .ok (.iaload, 1) := by decide +kernel
theorem dX12_bounds_76 : decode cX12_bounds 76 = .ok (.aload_n 0, 1) := by decide +kernel
theorem dX12_bounds_77 : decode cX12_bounds 77 = .ok (.getfield 9, 3) := by decide +kernel
theorem dX12_bounds_80 : decode cX12_bounds 80 = .ok (.bipush 49, 2) := by decide +kernel
theorem dX12_bounds_82 : decode cX12_bounds 82 = .ok (.iload_n 2, 1) := by decide +kernel
theorem dX12_bounds_83 : decode cX12_bounds 83 = .ok (.iadd, 1) := by decide +kernel
theorem dX12_bounds_84 : decode cX12_bounds 84 = .ok (.iaload, 1) := by decide +kernel
theorem dX12_bounds_85 : decode cX12_bounds 85 = .ok (.iadd, 1) := by decide +kernel
theorem dX12_bounds_86 : decode cX12_bounds 86 = .ok (.iastore, 1) := by decide +kernel
theorem dX12_bounds_87 : decode cX12_bounds 87 = .ok (.goto 93, 3) := by decide +kernel
theorem dX12_bounds_90 : decode cX12_bounds 90 = .ok (.iload 4, 2) := by decide +kernel
theorem dX12_bounds_92 : decode cX12_bounds 92 = .ok (.ifCond .le 88, 3) := by decide +kernel
theorem dX12_bounds_95 : decode cX12_bounds 95 = .ok (.aload_n 0, 1) := by decide +kernel
theorem dX12_bounds_96 : decode cX12_bounds 96 = .ok (.getfield 9, 3) := by decide +kernel
theorem dX12_bounds_99 : decode cX12_bounds 99 = .ok (.bipush 25, 2) := by decide +kernel
theorem dX12_bounds_101 : decode cX12_bounds 101 = .ok (.iload_n 2, 1) := by decide +kernel
theorem dX12_bounds_102 : decode cX12_bounds 102 = .ok (.iadd, 1) := by decide +kernel
theorem dX12_bounds_103 : decode cX12_bounds 103 = .ok (.iaload, 1) := by decide +kernel
theorem dX12_bounds_104 : decode cX12_bounds 104 = .ok (.iload_n 3, 1) := by decide +kernel
theorem dX12_bounds_105 : decode cX12_bounds 105 = .ok (.isub, 1) := by decide +kernel
theorem dX12_bounds_106 : decode cX12_bounds 106 = .ok (.istore 5, 2) := by decide +kernel
theorem dX12_bounds_108 : decode cX12_bounds 108 = .ok (.aload_n 0, 1) := by decide +kernel
theorem dX12_bounds_109 : decode cX12_bounds 109 = .ok (.getfield 25, 3) := by decide +kernel
theorem dX12_bounds_112 : decode cX12_bounds 112 = .ok (.iload_n 1, 1) := by decide +kernel
theorem dX12_bounds_113 : decode cX12_bounds 113 = .ok (.dup2, 1) := by decide +kernel
theorem dX12_bounds_114 : decode cX12_bounds 114 = .ok (.iaload, 1) := by decide +kernel
theorem dX12_bounds_115 : decode cX12_bounds 115 = .ok (.iload 5, 2) := by decide +kernel
theorem dX12_bounds_117 : decode cX12_bounds 117 = .ok (.ifCond .le 16, 3) := by decide +kernel
theorem dX12_bounds_120 : decode cX12_bounds 120 = .ok (.iload 5, 2) := by decide +kernel
theorem dX12_bounds_122 : decode cX12_bounds 122 = .ok (.iload 4, 2) := by decide +kernel
theorem dX12_bounds_124 : decode cX12_bounds 124 = .ok (.iadd, 1) := by decide +kernel
theorem dX12_bounds_125 : decode cX12_bounds 125 = .ok (.iconst 1, 1) := by decide +kernel
theorem dX12_bounds_126 : decode cX12_bounds 126 = .ok (.isub, 1) := by decide +kernel
theorem dX12_bounds_127 : decode cX12_bounds 127 = .ok (.iload 4, 2) := by decide +kernel
theorem dX12_bounds_129 : decode cX12_bounds 129 = .ok (.idiv, 1) := by decide +kernel
theorem dX12_bounds_130 : decode cX12_bounds 130 = .ok (.goto 4, 3) := by decide +kernel
theorem dX12_bounds_133 : decode cX12_bounds 133 = .ok (.iconst 0, 1) := by decide +kernel
theorem dX12_bounds_134 : decode cX12_bounds 134 = .ok (.iadd, 1) := by decide +kernel
theorem dX12_bounds_135 : decode cX12_bounds 135 = .ok (.iastore, 1) := by decide +kernel
theorem dX12_bounds_136 : decode cX12_bounds 136 = .ok (.aload_n 0, 1) := by decide +kernel
theorem dX12_bounds_137 : decode cX12_bounds 137 = .ok (.getfield 28, 3) := by decide +kernel
theorem dX12_bounds_140 : decode cX12_bounds 140 = .ok (.iload_n 1, 1) := by decide +kernel
theorem dX12_bounds_141 : decode cX12_bounds 141 = .ok (.iload_n 3, 1) := by decide +kernel
theorem dX12_bounds_142 : decode cX12_bounds 142 = .ok (.aload_n 0, 1) := by decide +kernel
theorem dX12_bounds_143 : decode cX12_bounds 143 = .ok (.getfield 9, 3) := by decide +kernel
theorem dX12_bounds_146 : decode cX12_bounds 146 = .ok (.bipush 31, 2) := by decide +kernel
theorem dX12_bounds_148 : decode cX12_bounds 148 = .ok (.iload_n 2, 1) := by decide +kernel
theorem dX12_bounds_149 : decode cX12_bounds 149 = .ok (.iadd, 1) := by decide +kernel
theorem dX12_bounds_150 : decode cX12_bounds 150 = .ok (.iaload, 1) := by decide +kernel
theorem dX12_bounds_151 : decode cX12_bounds 151 = .ok (.if_icmp .le 7, 3) := by decide +kernel
theorem dX12_bounds_154 : decode cX12_bounds 154 = .ok (.iconst (-1), 1) := by decide +kernel
theorem dX12_bounds_155 : decode cX12_bounds 155 = .ok (.goto 24, 3) := by decide +kernel
theorem dX12_bounds_158 : decode cX12_bounds 158 = .ok (.aload_n 0, 1) := by decide +kernel
theorem dX12_bounds_159 : decode cX12_bounds 159 = .ok (.getfield 9, 3) := by decide +kernel
theorem dX12_bounds_162 : decode cX12_bounds 162 = .ok (.iconst 0, 1) := by decide +kernel
theorem dX12_bounds_163 : decode cX12_bounds 163 = .ok (.iaload, 1) := by decide +kernel
theorem dX12_bounds_164 : decode cX12_bounds 164 = .ok (.aload_n 0, 1) := by decide +kernel
theorem dX12_bounds_165 : decode cX12_bounds 165 = .ok (.getfield 9, 3) := by decide +kernel
theorem dX12_bounds_168 : decode cX12_bounds 168 = .ok (.bipush 31, 2) := by decide +kernel
theorem dX12_bounds_170 : decode cX12_bounds 170 = .ok (.iload_n 2, 1) := by decide +kernel
theorem dX12_bounds_171 : decode cX12_bounds 171 = .ok (.iadd, 1) := by decide +kernel
theorem dX12_bounds_172 : decode cX12_bounds 172 = .ok (.iaload, 1) := by decide +kernel
theorem dX12_bounds_173 : decode cX12_bounds 173 = .ok (.iload_n 3, 1) := by decide +kernel
theorem dX12_bounds_174 : decode cX12_bounds 174 = .ok (.isub, 1) := by decide +kernel
theorem dX12_bounds_175 : decode cX12_bounds 175 = .ok (.iload 4, 2) := by decide +kernel
theorem dX12_bounds_177 : decode cX12_bounds 177 = .ok (.idiv, 1) := by decide +kernel
theorem dX12_bounds_178 : decode cX12_bounds 178 = .ok (.iadd, 1) := by decide +kernel
theorem dX12_bounds_179 : decode cX12_bounds 179 = .ok (.iastore, 1) := by decide +kernel
theorem dX12_bounds_180 : decode cX12_bounds 180 = .ok (.aload_n 0, 1) := by decide +kernel
theorem dX12_bounds_181 : decode cX12_bounds 181 = .ok (.iload_n 1, 1) := by decide +kernel
theorem dX12_bounds_182 : decode cX12_bounds 182 = .ok (.invokevirtual 116, 3) := by decide +kernel
theorem dX12_bounds_185 : decode cX12_bounds 185 = .ok (.ifCond .eq 49, 3) := by decide +kernel
theorem dX12_bounds_188 : decode cX12_bounds 188 = .ok (.aload_n 0, 1) := by decide +kernel
theorem dX12_bounds_189 : decode cX12_bounds 189 = .ok (.getfield 28, 3) := by decide +kernel
theorem dX12_bounds_192 : decode cX12_bounds 192 = .ok (.iload_n 1, 1) := by decide +kernel
theorem dX12_bounds_193 : decode cX12_bounds 193 = .ok (.iaload, 1) := by decide +kernel
theorem dX12_bounds_194 : decode cX12_bounds 194 = .ok (.aload_n 0, 1) := by decide +kernel
theorem dX12_bounds_195 : decode cX12_bounds 195 = .ok (.getfield 25, 3) := by decide +kernel
theorem dX12_bounds_198 : decode cX12_bounds 198 = .ok (.iload_n 1, 1) := by decide +kernel
theorem dX12_bounds_199 : decode cX12_bounds 199 = .ok (.iaload, 1) := by decide +kernel
theorem dX12_bounds_200 : decode cX12_bounds 200 = .ok (.if_icmp .lt 34, 3) := by decide +kernel
theorem dX12_bounds_203 : decode cX12_bounds 203 = .ok (.aload_n 0, 1) := by decide +kernel
theorem dX12_bounds_204 : decode cX12_bounds 204 = .ok (.getfield 9, 3) := by decide +kernel
theorem dX12_bounds_207 : decode cX12_bounds 207 = .ok (.sipush 163, 3) := by decide +kernel
theorem dX12_bounds_210 : decode cX12_bounds 210 = .ok (.iload_n 1, 1) := by decide +kernel
theorem dX12_bounds_211 : decode cX12_bounds 211 = .ok (.iadd, 1) := by decide +kernel
theorem dX12_bounds_212 : decode cX12_bounds 212 = .ok (.iaload, 1) := by decide +kernel
theorem dX12_bounds_213 : decode cX12_bounds 213 = .ok (.iconst 1, 1) := by decide +kernel
theorem dX12_bounds_214 : decode cX12_bounds 214 = .ok (.if_icmp .eq 16, 3) := by decide +kernel
theorem dX12_bounds_217 : decode cX12_bounds 217 = .ok (.iload 4, 2) := by decide +kernel
theorem dX12_bounds_219 : decode cX12_bounds 219 = .ok (.ifCond .gt 11, 3) := by decide +kernel
theorem dX12_bounds_222 : decode cX12_bounds 222 = .ok (.aload_n 0, 1) := by decide +kernel
theorem dX12_bounds_223 : decode cX12_bounds 223 = .ok (.iload_n 1, 1) := by decide +kernel
theorem dX12_bounds_224 : decode cX12_bounds 224 = .ok (.invokevirtual 110, 3) := by decide +kernel
theorem dX12_bounds_227 : decode cX12_bounds 227 = .ok (.ifCond .eq 7, 3) := by decide +kernel
theorem dX12_bounds_230 : decode cX12_bounds 230 = .ok (.iconst 1, 1) := by decide +kernel
theorem dX12_bounds_231 : decode cX12_bounds 231 = .ok (.goto 4, 3) := by decide +kernel
theorem dX12_bounds_234 : decode cX12_bounds 234 = .ok (.iconst 0, 1) := by decide +kernel
theorem dX12_bounds_235 : decode cX12_bounds 235 = .ok (.istore 5, 2) := by decide +kernel
theorem dX12_bounds_237 : decode cX12_bounds 237 = .ok (.aload_n 0, 1) := by decide +kernel
theorem dX12_bounds_238 : decode cX12_bounds 238 = .ok (.getfield 25, 3) := by decide +kernel
theorem dX12_bounds_241 : decode cX12_bounds 241 = .ok (.iload_n 1, 1) := by decide +kernel
theorem dX12_bounds_242 : decode cX12_bounds 242 = .ok (.iload 5, 2) := by decide +kernel
theorem dX12_bounds_244 : decode cX12_bounds 244 = .ok (.ifCond .eq 12, 3) := by decide +kernel
theorem dX12_bounds_247 : decode cX12_bounds 247 = .ok (.aload_n 0, 1) := by decide +kernel
theorem dX12_bounds_248 : decode cX12_bounds 248 = .ok (.getfield 25, 3) := by decide +kernel
theorem dX12_bounds_251 : decode cX12_bounds 251 = .ok (.iload_n 1, 1) := by decide +kernel
theorem dX12_bounds_252 : decode cX12_bounds 252 = .ok (.iaload, 1) := by decide +kernel
theorem dX12_bounds_253 : decode cX12_bounds 253 = .ok (.goto 4, 3) := by decide +kernel
theorem dX12_bounds_256 : decode cX12_bounds 256 = .ok (.iconst (-1), 1) := by decide +kernel
theorem dX12_bounds_257 : decode cX12_bounds 257 = .ok (.iastore, 1) := by decide +kernel
theorem dX12_bounds_258 : decode cX12_bounds 258 = .ok (.return_, 1) := by decide +kernel
set_option maxRecDepth 20000 in
theorem ggX12_nextOf_X12_in : GoodIn wsX12_nextOf wsX12_in := goodIn_r _ [8] (by decide +kernel) (by decide +kernel)
set_option maxRecDepth 20000 in
theorem gX12_nextOf_X12_in : GoodIn wsX12_nextOf (va_wsS RX12 64 yX12_in wsX12_in) := goodIn_app (goodIn_of _ (by decide +kernel)) ggX12_nextOf_X12_in
theorem dX12_nextOf_0 : decode cX12_nextOf 0 = .ok (.iconst (-1), 1) := by decide +kernel
theorem dX12_nextOf_1 : decode cX12_nextOf 1 = .ok (.istore_n 2, 1) := by decide +kernel
theorem dX12_nextOf_2 : decode cX12_nextOf 2 = .ok (.iconst 0, 1) := by decide +kernel
theorem dX12_nextOf_3 : decode cX12_nextOf 3 = .ok (.istore_n 3, 1) := by decide +kernel
theorem dX12_nextOf_4 : decode cX12_nextOf 4 = .ok (.iload_n 3, 1) := by decide +kernel
theorem dX12_nextOf_5 : decode cX12_nextOf 5 = .ok (.aload_n 0, 1) := by decide +kernel
theorem dX12_nextOf_6 : decode cX12_nextOf 6 = .ok (.getfield 9, 3) := by decide +kernel
theorem dX12_nextOf_9 : decode cX12_nextOf 9 = .ok (.bipush 6, 2) := by decide +kernel
theorem dX12_nextOf_11 : decode cX12_nextOf 11 = .ok (.iaload, 1) := by decide +kernel
theorem dX12_nextOf_12 : decode cX12_nextOf 12 = .ok (.if_icmp .ge 82, 3) := by decide +kernel
theorem dX12_nextOf_15 : decode cX12_nextOf 15 = .ok (.aload_n 0, 1) := by decide +kernel
theorem dX12_nextOf_16 : decode cX12_nextOf 16 = .ok (.getfield 25, 3) := by decide +kernel
theorem dX12_nextOf_19 : decode cX12_nextOf 19 = .ok (.iload_n 3, 1) := by decide +kernel
theorem dX12_nextOf_20 : decode cX12_nextOf 20 = .ok (.iaload, 1) := by decide +kernel
theorem dX12_nextOf_21 : decode cX12_nextOf 21 = .ok (.iconst (-1), 1) := by decide +kernel
theorem dX12_nextOf_22 : decode cX12_nextOf 22 = .ok (.if_icmp .eq 36, 3) := by decide +kernel
theorem dX12_nextOf_25 : decode cX12_nextOf 25 = .ok (.aload_n 0, 1) := by decide +kernel
theorem dX12_nextOf_26 : decode cX12_nextOf 26 = .ok (.getfield 31, 3) := by decide +kernel
theorem dX12_nextOf_29 : decode cX12_nextOf 29 = .ok (.iload_n 3, 1) := by decide +kernel
theorem dX12_nextOf_30 : decode cX12_nextOf 30 = .ok (.iaload, 1) := by decide +kernel
theorem dX12_nextOf_31 : decode cX12_nextOf 31 = .ok (.iconst (-1), 1) := by decide +kernel
theorem dX12_nextOf_32 : decode cX12_nextOf 32 = .ok (.if_icmp .ne 26, 3) := by decide +kernel
theorem dX12_nextOf_35 : decode cX12_nextOf 35 = .ok (.iload_n 1, 1) := by decide +kernel
theorem dX12_nextOf_36 : decode cX12_nextOf 36 = .ok (.aload_n 0, 1) := by decide +kernel
theorem dX12_nextOf_37 : decode cX12_nextOf 37 = .ok (.getfield 25, 3) := by decide +kernel
theorem dX12_nextOf_40 : decode cX12_nextOf 40 = .ok (.iload_n 3, 1) := by decide +kernel
theorem dX12_nextOf_41 : decode cX12_nextOf 41 = .ok (.iaload, 1) := by decide +kernel
theorem dX12_nextOf_42 : decode cX12_nextOf 42 = .ok (.aload_n 0, 1) := by decide +kernel
theorem dX12_nextOf_43 : decode cX12_nextOf 43 = .ok (.getfield 28, 3) := by decide +kernel
theorem dX12_nextOf_46 : decode cX12_nextOf 46 = .ok (.iload_n 3, 1) := by decide +kernel
theorem dX12_nextOf_47 : decode cX12_nextOf 47 = .ok (.iaload, 1) := by decide +kernel
theorem dX12_nextOf_48 : decode cX12_nextOf 48 = .ok (.invokestatic 64, 3) := by decide +kernel
theorem dX12_nextOf_51 : decode cX12_nextOf 51 = .ok (.ifCond .eq 7, 3) := by decide +kernel
theorem dX12_nextOf_54 : decode cX12_nextOf 54 = .ok (.iconst 1, 1) := by decide +kernel
theorem dX12_nextOf_55 : decode cX12_nextOf 55 = .ok (.goto 4, 3) := by decide +kernel
theorem dX12_nextOf_58 : decode cX12_nextOf 58 = .ok (.iconst 0, 1) := by decide +kernel
theorem dX12_nextOf_59 : decode cX12_nextOf 59 = .ok (.istore 4, 2) := by decide +kernel
theorem dX12_nextOf_61 : decode cX12_nextOf 61 = .ok (.iload 4, 2) := by decide +kernel
theorem dX12_nextOf_63 : decode cX12_nextOf 63 = .ok (.ifCond .eq 25, 3) := by decide +kernel
theorem dX12_nextOf_66 : decode cX12_nextOf 66 = .ok (.iload_n 2, 1) := by decide +kernel
theorem dX12_nextOf_67 : decode cX12_nextOf 67 = .ok (.iconst (-1), 1) := by decide +kernel
theorem dX12_nextOf_68 : decode cX12_nextOf 68 = .ok (.if_icmp .eq 18, 3) := by decide +kernel
theorem dX12_nextOf_71 : decode cX12_nextOf 71 = .ok (.aload_n 0, 1) := by decide +kernel
theorem dX12_nextOf_72 : decode cX12_nextOf 72 = .ok (.getfield 28, 3) := by decide +kernel
theorem dX12_nextOf_75 : decode cX12_nextOf 75 = .ok (.iload_n 3, 1) := by decide +kernel
theorem dX12_nextOf_76 : decode cX12_nextOf 76 = .ok (.iaload, 1) := by decide +kernel
theorem dX12_nextOf_77 : decode cX12_nextOf 77 = .ok (.aload_n 0, 1) := by decide +kernel
theorem dX12_nextOf_78 : decode cX12_nextOf 78 = .ok (.getfield 28, 3) := by decide +kernel
theorem dX12_nextOf_81 : decode cX12_nextOf 81 = .ok (.iload_n 2, 1) := by decide +kernel
theorem dX12_nextOf_82 : decode cX12_nextOf 82 = .ok (.iaload, 1) := by decide +kernel
theorem dX12_nextOf_83 : decode cX12_nextOf 83 = .ok (.if_icmp .ge 5, 3) := by decide +kernel
theorem dX12_nextOf_86 : decode cX12_nextOf 86 = .ok (.iload_n 3, 1) := by decide +kernel
theorem dX12_nextOf_87 : decode cX12_nextOf 87 = .ok (.istore_n 2, 1) := by decide +kernel
theorem dX12_nextOf_88 : decode cX12_nextOf 88 = .ok (.iinc 3 1, 3) := by decide +kernel
theorem dX12_nextOf_91 : decode cX12_nextOf 91 = .ok (.goto (-87), 3) := by decide +kernel
theorem dX12_nextOf_94 : decode cX12_nextOf 94 = .ok (.iload_n 2, 1) := by decide +kernel
theorem dX12_nextOf_95 : decode cX12_nextOf 95 = .ok (.ireturn, 1) := by decide +kernel
theorem dX12_isLeft_0 : decode cX12_isLeft 0 = .ok (.iconst 0, 1) := by decide +kernel
theorem dX12_isLeft_1 : decode cX12_isLeft 1 = .ok (.istore_n 2, 1) := by decide +kernel
theorem dX12_isLeft_2 : decode cX12_isLeft 2 = .ok (.iload_n 2, 1) := by decide +kernel
theorem dX12_isLeft_3 : decode cX12_isLeft 3 = .ok (.aload_n 0, 1) := by decide +kernel
theorem dX12_isLeft_4 : decode cX12_isLeft 4 = .ok (.getfield 9, 3) := by decide +kernel
theorem dX12_isLeft_7 : decode cX12_isLeft 7 = .ok (.bipush 6, 2) := by decide +kernel
theorem dX12_isLeft_9 : decode cX12_isLeft 9 = .ok (.iaload, 1) := by decide +kernel
theorem dX12_isLeft_10 : decode cX12_isLeft 10 = .ok (.if_icmp .ge 41, 3) := by decide +kernel
theorem dX12_isLeft_13 : decode cX12_isLeft 13 = .ok (.aload_n 0, 1) := by decide +kernel
theorem dX12_isLeft_14 : decode cX12_isLeft 14 = .ok (.getfield 25, 3) := by decide +kernel
theorem dX12_isLeft_17 : decode cX12_isLeft 17 = .ok (.iload_n 2, 1) := by decide +kernel
theorem dX12_isLeft_18 : decode cX12_isLeft 18 = .ok (.iaload, 1) := by decide +kernel
theorem dX12_isLeft_19 : decode cX12_isLeft 19 = .ok (.iconst (-1), 1) := by decide +kernel
theorem dX12_isLeft_20 : decode cX12_isLeft 20 = .ok (.if_icmp .eq 25, 3) := by decide +kernel
theorem dX12_isLeft_23 : decode cX12_isLeft 23 = .ok (.aload_n 0, 1) := by decide +kernel
theorem dX12_isLeft_24 : decode cX12_isLeft 24 = .ok (.getfield 31, 3) := by decide +kernel
theorem dX12_isLeft_27 : decode cX12_isLeft 27 = .ok (.iload_n 2, 1) := by decide +kernel
theorem dX12_isLeft_28 : decode cX12_isLeft 28 = .ok (.iaload, 1) := by decide +kernel
theorem dX12_isLeft_29 : decode cX12_isLeft 29 = .ok (.iconst (-1), 1) := by decide +kernel
theorem dX12_isLeft_30 : decode cX12_isLeft 30 = .ok (.if_icmp .ne 15, 3) := by decide +kernel
theorem dX12_isLeft_33 : decode cX12_isLeft 33 = .ok (.aload_n 0, 1) := by decide +kernel
theorem dX12_isLeft_34 : decode cX12_isLeft 34 = .ok (.getfield 28, 3) := by decide +kernel
theorem dX12_isLeft_37 : decode cX12_isLeft 37 = .ok (.iload_n 2, 1) := by decide +kernel
theorem dX12_isLeft_38 : decode cX12_isLeft 38 = .ok (.iaload, 1) := by decide +kernel
theorem dX12_isLeft_39 : decode cX12_isLeft 39 = .ok (.iload_n 1, 1) := by decide +kernel
theorem dX12_isLeft_40 : decode cX12_isLeft 40 = .ok (.if_icmp .lt 5, 3) := by decide +kernel
theorem dX12_isLeft_43 : decode cX12_isLeft 43 = .ok (.iconst 1, 1) := by decide +kernel
theorem dX12_isLeft_44 : decode cX12_isLeft 44 = .ok (.ireturn, 1) := by decide +kernel
theorem dX12_isLeft_45 : decode cX12_isLeft 45 = .ok (.iinc 2 1, 3) := by decide +kernel
theorem dX12_isLeft_48 : decode cX12_isLeft 48 = .ok (.goto (-46), 3) := by decide +kernel
theorem dX12_isLeft_51 : decode cX12_isLeft 51 = .ok (.iconst 0, 1) := by decide +kernel
theorem dX12_isLeft_52 : decode cX12_isLeft 52 = .ok (.ireturn, 1) := by decide +kernel
set_option maxRecDepth 20000 in
theorem ggX12_plans_X12_bounds : GoodIn wsX12_plans wsX12_bounds := goodIn_r _ [7, 1, 8, 9, 10, 11, 12, 13, 6, 14, 15, 16, 17, 18, 19, 20, 21, 22, 23, 24, 25, 34, 35, 36, 37, 38, 39, 40, 41, 42, 43, 44, 45, 46, 47, 48, 49, 50, 51, 52, 53] (by decide +kernel) (by decide +kernel)
set_option maxRecDepth 20000 in
theorem gX12_plans_X12_bounds : GoodIn wsX12_plans (wsV RX12 126 RX12 yX12_bounds wsX12_bounds) := goodIn_app (goodIn_of _ (by decide +kernel)) ggX12_plans_X12_bounds
set_option maxRecDepth 20000 in
theorem ggX12_plans_X12_isLeft : GoodIn wsX12_plans wsX12_isLeft := goodIn_r _ [29, 1, 8, 2, 9, 34, 35, 36, 37, 38, 39, 40, 41, 42, 43, 44, 45, 46, 47, 48, 49, 50, 51, 52, 53] (by decide +kernel) (by decide +kernel)
set_option maxRecDepth 20000 in
theorem gX12_plans_X12_isLeft : GoodIn wsX12_plans (wsV RX12 130 RX12 yX12_isLeft wsX12_isLeft) := goodIn_app (goodIn_of _ (by decide +kernel)) ggX12_plans_X12_isLeft
set_option maxRecDepth 20000 in
theorem ggX12_plans_X12_nextOf : GoodIn wsX12_plans wsX12_nextOf := goodIn_r _ [33, 1, 8, 2, 9, 23, 24, 6, 25, 34, 35, 36, 37, 38, 39, 40, 41, 42, 43, 44, 45, 46, 47, 48, 49, 50, 51, 52, 53] (by decide +kernel) (by decide +kernel)
set_option maxRecDepth 20000 in
theorem gX12_plans_X12_nextOf : GoodIn wsX12_plans (wsV RX12 133 RX12 yX12_nextOf wsX12_nextOf) := goodIn_app (goodIn_of _ (by decide +kernel)) ggX12_plans_X12_nextOf
theorem dX12_plans_0 : decode cX12_plans 0 = .ok (.iconst 0, 1) := by decide +kernel
theorem dX12_plans_1 : decode cX12_plans 1 = .ok (.istore_n 1, 1) := by decide +kernel
theorem dX12_plans_2 : decode cX12_plans 2 = .ok (.iload_n 1, 1) := by decide +kernel
theorem dX12_plans_3 : decode cX12_plans 3 = .ok (.aload_n 0, 1) := by decide +kernel
theorem dX12_plans_4 : decode cX12_plans 4 = .ok (.getfield 9, 3) := by decide +kernel
theorem dX12_plans_7 : decode cX12_plans 7 = .ok (.bipush 6, 2) := by decide +kernel
theorem dX12_plans_9 : decode cX12_plans 9 = .ok (.iaload, 1) := by decide +kernel
theorem dX12_plans_10 : decode cX12_plans 10 = .ok (.if_icmp .ge 21, 3) := by decide +kernel
theorem dX12_plans_13 : decode cX12_plans 13 = .ok (.aload_n 0, 1) := by decide +kernel
theorem dX12_plans_14 : decode cX12_plans 14 = .ok (.iload_n 1, 1) := by decide +kernel
theorem dX12_plans_15 : decode cX12_plans 15 = .ok (.invokevirtual 126, 3) := by decide +kernel
theorem dX12_plans_18 : decode cX12_plans 18 = .ok (.aload_n 0, 1) := by decide +kernel
theorem dX12_plans_19 : decode cX12_plans 19 = .ok (.getfield 31, 3) := by decide +kernel
theorem dX12_plans_22 : decode cX12_plans 22 = .ok (.iload_n 1, 1) := by decide +kernel
theorem dX12_plans_23 : decode cX12_plans 23 = .ok (.iconst (-1), 1) := by decide +kernel
theorem dX12_plans_24 : decode cX12_plans 24 = .ok (.iastore, 1) := by decide +kernel
theorem dX12_plans_25 : decode cX12_plans 25 = .ok (.iinc 1 1, 3) := by decide +kernel
theorem dX12_plans_28 : decode cX12_plans 28 = .ok (.goto (-26), 3) := by decide +kernel
theorem dX12_plans_31 : decode cX12_plans 31 = .ok (.aload_n 0, 1) := by decide +kernel
theorem dX12_plans_32 : decode cX12_plans 32 = .ok (.getfield 9, 3) := by decide +kernel
theorem dX12_plans_35 : decode cX12_plans 35 = .ok (.iconst 0, 1) := by decide +kernel
theorem dX12_plans_36 : decode cX12_plans 36 = .ok (.iaload, 1) := by decide +kernel
theorem dX12_plans_37 : decode cX12_plans 37 = .ok (.bipush 10, 2) := by decide +kernel
theorem dX12_plans_39 : decode cX12_plans 39 = .ok (.iadd, 1) := by decide +kernel
theorem dX12_plans_40 : decode cX12_plans 40 = .ok (.iconst 1, 1) := by decide +kernel
theorem dX12_plans_41 : decode cX12_plans 41 = .ok (.isub, 1) := by decide +kernel
theorem dX12_plans_42 : decode cX12_plans 42 = .ok (.bipush 10, 2) := by decide +kernel
theorem dX12_plans_44 : decode cX12_plans 44 = .ok (.idiv, 1) := by decide +kernel
theorem dX12_plans_45 : decode cX12_plans 45 = .ok (.bipush 10, 2) := by decide +kernel
theorem dX12_plans_47 : decode cX12_plans 47 = .ok (.imul, 1) := by decide +kernel
theorem dX12_plans_48 : decode cX12_plans 48 = .ok (.istore_n 1, 1) := by decide +kernel
theorem dX12_plans_49 : decode cX12_plans 49 = .ok (.aload_n 0, 1) := by decide +kernel
theorem dX12_plans_50 : decode cX12_plans 50 = .ok (.iload_n 1, 1) := by decide +kernel
theorem dX12_plans_51 : decode cX12_plans 51 = .ok (.invokevirtual 130, 3) := by decide +kernel
theorem dX12_plans_54 : decode cX12_plans 54 = .ok (.ifCond .eq 45, 3) := by decide +kernel
theorem dX12_plans_57 : decode cX12_plans 57 = .ok (.iconst 0, 1) := by decide +kernel
theorem dX12_plans_58 : decode cX12_plans 58 = .ok (.istore_n 2, 1) := by decide +kernel
theorem dX12_plans_59 : decode cX12_plans 59 = .ok (.iload_n 2, 1) := by decide +kernel
theorem dX12_plans_60 : decode cX12_plans 60 = .ok (.aload_n 0, 1) := by decide +kernel
theorem dX12_plans_61 : decode cX12_plans 61 = .ok (.getfield 9, 3) := by decide +kernel
theorem dX12_plans_64 : decode cX12_plans 64 = .ok (.iconst 4, 1) := by decide +kernel
theorem dX12_plans_65 : decode cX12_plans 65 = .ok (.iaload, 1) := by decide +kernel
theorem dX12_plans_66 : decode cX12_plans 66 = .ok (.if_icmp .ge 27, 3) := by decide +kernel
theorem dX12_plans_69 : decode cX12_plans 69 = .ok (.aload_n 0, 1) := by decide +kernel
theorem dX12_plans_70 : decode cX12_plans 70 = .ok (.iload_n 1, 1) := by decide +kernel
theorem dX12_plans_71 : decode cX12_plans 71 = .ok (.invokevirtual 133, 3) := by decide +kernel
theorem dX12_plans_74 : decode cX12_plans 74 = .ok (.istore_n 3, 1) := by decide +kernel
theorem dX12_plans_75 : decode cX12_plans 75 = .ok (.iload_n 3, 1) := by decide +kernel
theorem dX12_plans_76 : decode cX12_plans 76 = .ok (.iconst (-1), 1) := by decide +kernel
theorem dX12_plans_77 : decode cX12_plans 77 = .ok (.if_icmp .eq 10, 3) := by decide +kernel
theorem dX12_plans_80 : decode cX12_plans 80 = .ok (.aload_n 0, 1) := by decide +kernel
theorem dX12_plans_81 : decode cX12_plans 81 = .ok (.getfield 31, 3) := by decide +kernel
theorem dX12_plans_84 : decode cX12_plans 84 = .ok (.iload_n 3, 1) := by decide +kernel
theorem dX12_plans_85 : decode cX12_plans 85 = .ok (.iload_n 1, 1) := by decide +kernel
theorem dX12_plans_86 : decode cX12_plans 86 = .ok (.iastore, 1) := by decide +kernel
theorem dX12_plans_87 : decode cX12_plans 87 = .ok (.iinc 2 1, 3) := by decide +kernel
theorem dX12_plans_90 : decode cX12_plans 90 = .ok (.goto (-31), 3) := by decide +kernel
theorem dX12_plans_93 : decode cX12_plans 93 = .ok (.iinc 1 10, 3) := by decide +kernel
theorem dX12_plans_96 : decode cX12_plans 96 = .ok (.goto (-47), 3) := by decide +kernel
theorem dX12_plans_99 : decode cX12_plans 99 = .ok (.return_, 1) := by decide +kernel
set_option maxRecDepth 20000 in
theorem ggX12_planned_X12_isDough : GoodIn wsX12_planned wsX12_isDough := goodIn_r _ [6, 7, 8, 9, 5, 10, 47, 48, 49, 50, 51, 52, 53, 54, 55, 56, 57, 58, 59, 60, 61, 62, 63, 64, 65, 66] (by decide +kernel) (by decide +kernel)
set_option maxRecDepth 20000 in
theorem gX12_planned_X12_isDough : GoodIn wsX12_planned (wsV RX12 107 RX12 yX12_isDough wsX12_isDough) := goodIn_app (goodIn_of _ (by decide +kernel)) ggX12_planned_X12_isDough
set_option maxRecDepth 20000 in
theorem ggX12_planned_X12_can : GoodIn wsX12_planned wsX12_can := goodIn_r _ [14, 15, 47, 48, 49, 50, 51, 52, 53, 54, 55, 56, 57, 58, 59, 60, 61, 62, 63, 64, 65, 66] (by decide +kernel) (by decide +kernel)
set_option maxRecDepth 20000 in
theorem gX12_planned_X12_can : GoodIn wsX12_planned (wsV RX12 60 RX12 yX12_can wsX12_can) := goodIn_app (goodIn_of _ (by decide +kernel)) ggX12_planned_X12_can
set_option maxRecDepth 20000 in
theorem ggX12_planned_X12_plans : GoodIn wsX12_planned wsX12_plans := goodIn_r _ [19, 7, 1, 20, 21, 22, 5, 23, 24, 25, 26, 27, 28, 29, 30, 31, 32, 33, 34, 35, 36, 37, 38, 8, 9, 10, 39, 40, 41, 42, 43, 44, 45, 46, 47, 48, 49, 50, 51, 52, 53, 54, 55, 56, 57, 58, 59, 60, 61, 62, 63, 64, 65, 66] (by decide +kernel) (by decide +kernel)
set_option maxRecDepth 20000 in
theorem gX12_planned_X12_plans : GoodIn wsX12_planned (wsV RX12 136 RX12 yX12_plans wsX12_plans) := goodIn_app (goodIn_of _ (by decide +kernel)) ggX12_planned_X12_plans
theorem dX12_planned_0 : decode cX12_planned 0 = .ok (.aload_n 0, 1) := by decide +kernel
theorem dX12_planned_1 : decode cX12_planned 1 = .ok (.aload_n 0, 1) := by decide +kernel
theorem dX12_planned_2 : decode cX12_planned 2 = .ok (.iload_n 1, 1) := by decide +kernel
theorem dX12_planned_3 : decode cX12_planned 3 = .ok (.invokevirtual 107, 3) := by decide +kernel
theorem dX12_planned_6 : decode cX12_planned 6 = .ok (.iconst 1, 1) := by decide +kernel
theorem dX12_planned_7 : decode cX12_planned 7 = .ok (.invokevirtual 60, 3) := by decide +kernel
theorem dX12_planned_10 : decode cX12_planned 10 = .ok (.ifCond .ne 5, 3) := by decide +kernel
theorem dX12_planned_13 : decode cX12_planned 13 = .ok (.iconst 0, 1) := by decide +kernel
theorem dX12_planned_14 : decode cX12_planned 14 = .ok (.ireturn, 1) := by decide +kernel
theorem dX12_planned_15 : decode cX12_planned 15 = .ok (.aload_n 0, 1) := by decide +kernel
theorem dX12_planned_16 : decode cX12_planned 16 = .ok (.invokevirtual 136, 3) := by decide +kernel
theorem dX12_planned_19 : decode cX12_planned 19 = .ok (.aload_n 0, 1) := by decide +kernel
theorem dX12_planned_20 : decode cX12_planned 20 = .ok (.getfield 31, 3) := by decide +kernel
theorem dX12_planned_23 : decode cX12_planned 23 = .ok (.iload_n 1, 1) := by decide +kernel
theorem dX12_planned_24 : decode cX12_planned 24 = .ok (.iaload, 1) := by decide +kernel
theorem dX12_planned_25 : decode cX12_planned 25 = .ok (.ireturn, 1) := by decide +kernel
set_option maxRecDepth 20000 in
theorem ggX12_inPlan_X12_plans : GoodIn wsX12_inPlan wsX12_plans := goodIn_r _ [8, 2, 9, 10, 11, 12, 7, 13, 3, 14, 15, 16, 17, 18, 19, 20, 21, 22, 23, 24, 25, 26, 27, 28, 29, 30, 31, 32, 33, 34, 35, 36, 37, 38, 39, 40, 41, 42, 43, 44, 45, 46, 47, 48, 49, 50, 51, 52, 53, 54, 55, 56, 57, 58] (by decide +kernel) (by decide +kernel)
set_option maxRecDepth 20000 in
theorem gX12_inPlan_X12_plans : GoodIn wsX12_inPlan (wsV RX12 136 RX12 yX12_plans wsX12_plans) := goodIn_app (goodIn_of _ (by decide +kernel)) ggX12_inPlan_X12_plans
theorem dX12_inPlan_0 : decode cX12_inPlan 0 = .ok (.aload_n 0, 1) := by decide +kernel
theorem dX12_inPlan_1 : decode cX12_inPlan 1 = .ok (.iconst 0, 1) := by decide +kernel
theorem dX12_inPlan_2 : decode cX12_inPlan 2 = .ok (.putfield 46, 3) := by decide +kernel
theorem dX12_inPlan_5 : decode cX12_inPlan 5 = .ok (.aload_n 0, 1) := by decide +kernel
theorem dX12_inPlan_6 : decode cX12_inPlan 6 = .ok (.invokevirtual 136, 3) := by decide +kernel
theorem dX12_inPlan_9 : decode cX12_inPlan 9 = .ok (.iconst 0, 1) := by decide +kernel
theorem dX12_inPlan_10 : decode cX12_inPlan 10 = .ok (.istore_n 1, 1) := by decide +kernel
theorem dX12_inPlan_11 : decode cX12_inPlan 11 = .ok (.iconst 0, 1) := by decide +kernel
theorem dX12_inPlan_12 : decode cX12_inPlan 12 = .ok (.istore_n 2, 1) := by decide +kernel
theorem dX12_inPlan_13 : decode cX12_inPlan 13 = .ok (.iload_n 2, 1) := by decide +kernel
theorem dX12_inPlan_14 : decode cX12_inPlan 14 = .ok (.aload_n 0, 1) := by decide +kernel
theorem dX12_inPlan_15 : decode cX12_inPlan 15 = .ok (.getfield 9, 3) := by decide +kernel
theorem dX12_inPlan_18 : decode cX12_inPlan 18 = .ok (.bipush 6, 2) := by decide +kernel
theorem dX12_inPlan_20 : decode cX12_inPlan 20 = .ok (.iaload, 1) := by decide +kernel
theorem dX12_inPlan_21 : decode cX12_inPlan 21 = .ok (.if_icmp .ge 27, 3) := by decide +kernel
theorem dX12_inPlan_24 : decode cX12_inPlan 24 = .ok (.iload_n 1, 1) := by decide +kernel
theorem dX12_inPlan_25 : decode cX12_inPlan 25 = .ok (.aload_n 0, 1) := by decide +kernel
theorem dX12_inPlan_26 : decode cX12_inPlan 26 = .ok (.getfield 25, 3) := by decide +kernel
theorem dX12_inPlan_29 : decode cX12_inPlan 29 = .ok (.iload_n 2, 1) := by decide +kernel
theorem dX12_inPlan_30 : decode cX12_inPlan 30 = .ok (.iaload, 1) := by decide +kernel
theorem dX12_inPlan_31 : decode cX12_inPlan 31 = .ok (.iconst (-1), 1) := by decide +kernel
theorem dX12_inPlan_32 : decode cX12_inPlan 32 = .ok (.if_icmp .ne 7, 3) := by decide +kernel
theorem dX12_inPlan_35 : decode cX12_inPlan 35 = .ok (.iconst 0, 1) := by decide +kernel
theorem dX12_inPlan_36 : decode cX12_inPlan 36 = .ok (.goto 4, 3) := by decide +kernel
theorem dX12_inPlan_39 : decode cX12_inPlan 39 = .ok (.iconst 1, 1) := by decide +kernel
theorem dX12_inPlan_40 : decode cX12_inPlan 40 = .ok (.iadd, 1) := by decide +kernel
theorem dX12_inPlan_41 : decode cX12_inPlan 41 = .ok (.istore_n 1, 1) := by decide +kernel
theorem dX12_inPlan_42 : decode cX12_inPlan 42 = .ok (.iinc 2 1, 3) := by decide +kernel
theorem dX12_inPlan_45 : decode cX12_inPlan 45 = .ok (.goto (-32), 3) := by decide +kernel
theorem dX12_inPlan_48 : decode cX12_inPlan 48 = .ok (.iload_n 1, 1) := by decide +kernel
theorem dX12_inPlan_49 : decode cX12_inPlan 49 = .ok (.ireturn, 1) := by decide +kernel
set_option maxRecDepth 20000 in
theorem ggX12_late_X12_plans : GoodIn wsX12_late wsX12_plans := goodIn_r _ [9, 2, 4, 10, 11, 12, 8, 13, 3, 14, 15, 16, 17, 18, 19, 20, 21, 22, 23, 24, 25, 26, 27, 28, 29, 30, 31, 32, 33, 34, 35, 36, 37, 38, 39, 40, 41, 42, 43, 44, 45, 46, 47, 48, 49, 50, 51, 52, 53, 54, 55, 56, 57, 58] (by decide +kernel) (by decide +kernel)
set_option maxRecDepth 20000 in
theorem gX12_late_X12_plans : GoodIn wsX12_late (wsV RX12 136 RX12 yX12_plans wsX12_plans) := goodIn_app (goodIn_of _ (by decide +kernel)) ggX12_late_X12_plans
theorem dX12_late_0 : decode cX12_late 0 = .ok (.aload_n 0, 1) := by decide +kernel
theorem dX12_late_1 : decode cX12_late 1 = .ok (.iconst 0, 1) := by decide +kernel
theorem dX12_late_2 : decode cX12_late 2 = .ok (.putfield 46, 3) := by decide +kernel
theorem dX12_late_5 : decode cX12_late 5 = .ok (.aload_n 0, 1) := by decide +kernel
theorem dX12_late_6 : decode cX12_late 6 = .ok (.invokevirtual 136, 3) := by decide +kernel
theorem dX12_late_9 : decode cX12_late 9 = .ok (.iconst 0, 1) := by decide +kernel
theorem dX12_late_10 : decode cX12_late 10 = .ok (.istore_n 1, 1) := by decide +kernel
theorem dX12_late_11 : decode cX12_late 11 = .ok (.iconst 0, 1) := by decide +kernel
theorem dX12_late_12 : decode cX12_late 12 = .ok (.istore_n 2, 1) := by decide +kernel
theorem dX12_late_13 : decode cX12_late 13 = .ok (.iload_n 2, 1) := by decide +kernel
theorem dX12_late_14 : decode cX12_late 14 = .ok (.aload_n 0, 1) := by decide +kernel
theorem dX12_late_15 : decode cX12_late 15 = .ok (.getfield 9, 3) := by decide +kernel
theorem dX12_late_18 : decode cX12_late 18 = .ok (.bipush 6, 2) := by decide +kernel
theorem dX12_late_20 : decode cX12_late 20 = .ok (.iaload, 1) := by decide +kernel
theorem dX12_late_21 : decode cX12_late 21 = .ok (.if_icmp .ge 37, 3) := by decide +kernel
theorem dX12_late_24 : decode cX12_late 24 = .ok (.iload_n 1, 1) := by decide +kernel
theorem dX12_late_25 : decode cX12_late 25 = .ok (.aload_n 0, 1) := by decide +kernel
theorem dX12_late_26 : decode cX12_late 26 = .ok (.getfield 25, 3) := by decide +kernel
theorem dX12_late_29 : decode cX12_late 29 = .ok (.iload_n 2, 1) := by decide +kernel
theorem dX12_late_30 : decode cX12_late 30 = .ok (.iaload, 1) := by decide +kernel
theorem dX12_late_31 : decode cX12_late 31 = .ok (.iconst (-1), 1) := by decide +kernel
theorem dX12_late_32 : decode cX12_late 32 = .ok (.if_icmp .eq 17, 3) := by decide +kernel
theorem dX12_late_35 : decode cX12_late 35 = .ok (.aload_n 0, 1) := by decide +kernel
theorem dX12_late_36 : decode cX12_late 36 = .ok (.getfield 31, 3) := by decide +kernel
theorem dX12_late_39 : decode cX12_late 39 = .ok (.iload_n 2, 1) := by decide +kernel
theorem dX12_late_40 : decode cX12_late 40 = .ok (.iaload, 1) := by decide +kernel
theorem dX12_late_41 : decode cX12_late 41 = .ok (.iconst (-1), 1) := by decide +kernel
theorem dX12_late_42 : decode cX12_late 42 = .ok (.if_icmp .ne 7, 3) := by decide +kernel
theorem dX12_late_45 : decode cX12_late 45 = .ok (.iconst 1, 1) := by decide +kernel
theorem dX12_late_46 : decode cX12_late 46 = .ok (.goto 4, 3) := by decide +kernel
theorem dX12_late_49 : decode cX12_late 49 = .ok (.iconst 0, 1) := by decide +kernel
theorem dX12_late_50 : decode cX12_late 50 = .ok (.iadd, 1) := by decide +kernel
theorem dX12_late_51 : decode cX12_late 51 = .ok (.istore_n 1, 1) := by decide +kernel
theorem dX12_late_52 : decode cX12_late 52 = .ok (.iinc 2 1, 3) := by decide +kernel
theorem dX12_late_55 : decode cX12_late 55 = .ok (.goto (-42), 3) := by decide +kernel
theorem dX12_late_58 : decode cX12_late 58 = .ok (.iload_n 1, 1) := by decide +kernel
theorem dX12_late_59 : decode cX12_late 59 = .ok (.ireturn, 1) := by decide +kernel
theorem dX12_breadAt_0 : decode cX12_breadAt 0 = .ok (.sipush 223, 3) := by decide +kernel
theorem dX12_breadAt_3 : decode cX12_breadAt 3 = .ok (.iconst 4, 1) := by decide +kernel
theorem dX12_breadAt_4 : decode cX12_breadAt 4 = .ok (.iload_n 1, 1) := by decide +kernel
theorem dX12_breadAt_5 : decode cX12_breadAt 5 = .ok (.imul, 1) := by decide +kernel
theorem dX12_breadAt_6 : decode cX12_breadAt 6 = .ok (.iadd, 1) := by decide +kernel
theorem dX12_breadAt_7 : decode cX12_breadAt 7 = .ok (.iload_n 2, 1) := by decide +kernel
theorem dX12_breadAt_8 : decode cX12_breadAt 8 = .ok (.iadd, 1) := by decide +kernel
theorem dX12_breadAt_9 : decode cX12_breadAt 9 = .ok (.ireturn, 1) := by decide +kernel
set_option maxRecDepth 20000 in
theorem ggX12_breads_X12_isRecipe : GoodIn wsX12_breads wsX12_isRecipe := goodIn_r _ [6, 1, 7, 8, 5, 9, 19, 20, 21, 22, 23, 24, 25, 26, 27, 28, 29, 30, 31, 32, 33, 34, 35, 36, 37, 38] (by decide +kernel) (by decide +kernel)
set_option maxRecDepth 20000 in
theorem gX12_breads_X12_isRecipe : GoodIn wsX12_breads (wsV RX12 77 RX12 yX12_isRecipe wsX12_isRecipe) := goodIn_app (goodIn_of _ (by decide +kernel)) ggX12_breads_X12_isRecipe
set_option maxRecDepth 20000 in
theorem ggX12_breads_X12_can : GoodIn wsX12_breads wsX12_can := goodIn_r _ [13, 14, 19, 20, 21, 22, 23, 24, 25, 26, 27, 28, 29, 30, 31, 32, 33, 34, 35, 36, 37, 38] (by decide +kernel) (by decide +kernel)
set_option maxRecDepth 20000 in
theorem gX12_breads_X12_can : GoodIn wsX12_breads (wsV RX12 60 RX12 yX12_can wsX12_can) := goodIn_app (goodIn_of _ (by decide +kernel)) ggX12_breads_X12_can
set_option maxRecDepth 20000 in
theorem ggX12_breads_X12_in : GoodIn wsX12_breads wsX12_in := goodIn_r _ [9] (by decide +kernel) (by decide +kernel)
set_option maxRecDepth 20000 in
theorem gX12_breads_X12_in : GoodIn wsX12_breads (va_wsS RX12 64 yX12_in wsX12_in) := goodIn_app (goodIn_of _ (by decide +kernel)) ggX12_breads_X12_in
set_option maxRecDepth 20000 in
theorem ggX12_breads_X12_breadAt : GoodIn wsX12_breads wsX12_breadAt := goodIn_r _ [18] (by decide +kernel) (by decide +kernel)
set_option maxRecDepth 20000 in
theorem gX12_breads_X12_breadAt : GoodIn wsX12_breads (wsV RX12 139 RX12 yX12_breadAt wsX12_breadAt) := goodIn_app (goodIn_of _ (by decide +kernel)) ggX12_breads_X12_breadAt
theorem dX12_breads_0 : decode cX12_breads 0 = .ok (.aload_n 0, 1) := by decide +kernel
theorem dX12_breads_1 : decode cX12_breads 1 = .ok (.aload_n 0, 1) := by decide +kernel
theorem dX12_breads_2 : decode cX12_breads 2 = .ok (.iload_n 1, 1) := by decide +kernel
theorem dX12_breads_3 : decode cX12_breads 3 = .ok (.invokevirtual 77, 3) := by decide +kernel
theorem dX12_breads_6 : decode cX12_breads 6 = .ok (.iconst 1, 1) := by decide +kernel
theorem dX12_breads_7 : decode cX12_breads 7 = .ok (.invokevirtual 60, 3) := by decide +kernel
theorem dX12_breads_10 : decode cX12_breads 10 = .ok (.ifCond .eq 31, 3) := by decide +kernel
theorem dX12_breads_13 : decode cX12_breads 13 = .ok (.aload_n 0, 1) := by decide +kernel
theorem dX12_breads_14 : decode cX12_breads 14 = .ok (.iload_n 2, 1) := by decide +kernel
theorem dX12_breads_15 : decode cX12_breads 15 = .ok (.iconst 0, 1) := by decide +kernel
theorem dX12_breads_16 : decode cX12_breads 16 = .ok (.iconst 3, 1) := by decide +kernel
theorem dX12_breads_17 : decode cX12_breads 17 = .ok (.invokestatic 64, 3) := by decide +kernel
theorem dX12_breads_20 : decode cX12_breads 20 = .ok (.iconst 2, 1) := by decide +kernel
theorem dX12_breads_21 : decode cX12_breads 21 = .ok (.invokevirtual 60, 3) := by decide +kernel
theorem dX12_breads_24 : decode cX12_breads 24 = .ok (.ifCond .eq 17, 3) := by decide +kernel
theorem dX12_breads_27 : decode cX12_breads 27 = .ok (.aload_n 0, 1) := by decide +kernel
theorem dX12_breads_28 : decode cX12_breads 28 = .ok (.getfield 9, 3) := by decide +kernel
theorem dX12_breads_31 : decode cX12_breads 31 = .ok (.aload_n 0, 1) := by decide +kernel
theorem dX12_breads_32 : decode cX12_breads 32 = .ok (.iload_n 1, 1) := by decide +kernel
theorem dX12_breads_33 : decode cX12_breads 33 = .ok (.iload_n 2, 1) := by decide +kernel
theorem dX12_breads_34 : decode cX12_breads 34 = .ok (.invokevirtual 139, 3) := by decide +kernel
theorem dX12_breads_37 : decode cX12_breads 37 = .ok (.iaload, 1) := by decide +kernel
theorem dX12_breads_38 : decode cX12_breads 38 = .ok (.goto 4, 3) := by decide +kernel
theorem dX12_breads_41 : decode cX12_breads 41 = .ok (.iconst 0, 1) := by decide +kernel
theorem dX12_breads_42 : decode cX12_breads 42 = .ok (.ireturn, 1) := by decide +kernel
set_option maxRecDepth 20000 in
theorem ggX12_endDay_X12_keep : GoodIn wsX12_endDay wsX12_keep := goodIn_r _ [7, 8, 9, 10, 2, 11, 12, 13, 6, 14, 19, 20, 21, 22, 23, 24, 25, 26, 27, 28, 29, 30, 31, 32, 33, 34, 35, 36, 37, 38] (by decide +kernel) (by decide +kernel)
set_option maxRecDepth 20000 in
theorem gX12_endDay_X12_keep : GoodIn wsX12_endDay (wsV RX12 74 RX12 yX12_keep wsX12_keep) := goodIn_app (goodIn_of _ (by decide +kernel)) ggX12_endDay_X12_keep
set_option maxRecDepth 20000 in
theorem ggX12_endDay_X12_breadAt : GoodIn wsX12_endDay wsX12_breadAt := goodIn_r _ [18] (by decide +kernel) (by decide +kernel)
set_option maxRecDepth 20000 in
theorem gX12_endDay_X12_breadAt : GoodIn wsX12_endDay (wsV RX12 139 RX12 yX12_breadAt wsX12_breadAt) := goodIn_app (goodIn_of _ (by decide +kernel)) ggX12_endDay_X12_breadAt
theorem dX12_endDay_0 : decode cX12_endDay 0 = .ok (.aload_n 0, 1) := by decide +kernel
theorem dX12_endDay_1 : decode cX12_endDay 1 = .ok (.iconst 0, 1) := by decide +kernel
theorem dX12_endDay_2 : decode cX12_endDay 2 = .ok (.putfield 46, 3) := by decide +kernel
theorem dX12_endDay_5 : decode cX12_endDay 5 = .ok (.aload_n 0, 1) := by decide +kernel
theorem dX12_endDay_6 : decode cX12_endDay 6 = .ok (.invokevirtual 74, 3) := by decide +kernel
theorem dX12_endDay_9 : decode cX12_endDay 9 = .ok (.iconst 0, 1) := by decide +kernel
theorem dX12_endDay_10 : decode cX12_endDay 10 = .ok (.istore_n 1, 1) := by decide +kernel
theorem dX12_endDay_11 : decode cX12_endDay 11 = .ok (.iconst 0, 1) := by decide +kernel
theorem dX12_endDay_12 : decode cX12_endDay 12 = .ok (.istore_n 2, 1) := by decide +kernel
theorem dX12_endDay_13 : decode cX12_endDay 13 = .ok (.iload_n 2, 1) := by decide +kernel
theorem dX12_endDay_14 : decode cX12_endDay 14 = .ok (.aload_n 0, 1) := by decide +kernel
theorem dX12_endDay_15 : decode cX12_endDay 15 = .ok (.getfield 9, 3) := by decide +kernel
theorem dX12_endDay_18 : decode cX12_endDay 18 = .ok (.iconst 5, 1) := by decide +kernel
theorem dX12_endDay_19 : decode cX12_endDay 19 = .ok (.iaload, 1) := by decide +kernel
theorem dX12_endDay_20 : decode cX12_endDay 20 = .ok (.if_icmp .ge 102, 3) := by decide +kernel
theorem dX12_endDay_23 : decode cX12_endDay 23 = .ok (.iload_n 1, 1) := by decide +kernel
theorem dX12_endDay_24 : decode cX12_endDay 24 = .ok (.aload_n 0, 1) := by decide +kernel
theorem dX12_endDay_25 : decode cX12_endDay 25 = .ok (.getfield 9, 3) := by decide +kernel
theorem dX12_endDay_28 : decode cX12_endDay 28 = .ok (.aload_n 0, 1) := by decide +kernel
theorem dX12_endDay_29 : decode cX12_endDay 29 = .ok (.iload_n 2, 1) := by decide +kernel
theorem dX12_endDay_30 : decode cX12_endDay 30 = .ok (.iconst 3, 1) := by decide +kernel
theorem dX12_endDay_31 : decode cX12_endDay 31 = .ok (.invokevirtual 139, 3) := by decide +kernel
theorem dX12_endDay_34 : decode cX12_endDay 34 = .ok (.iaload, 1) := by decide +kernel
theorem dX12_endDay_35 : decode cX12_endDay 35 = .ok (.iadd, 1) := by decide +kernel
theorem dX12_endDay_36 : decode cX12_endDay 36 = .ok (.istore_n 1, 1) := by decide +kernel
theorem dX12_endDay_37 : decode cX12_endDay 37 = .ok (.aload_n 0, 1) := by decide +kernel
theorem dX12_endDay_38 : decode cX12_endDay 38 = .ok (.getfield 9, 3) := by decide +kernel
theorem dX12_endDay_41 : decode cX12_endDay 41 = .ok (.bipush 10, 2) := by decide +kernel
theorem dX12_endDay_43 : decode cX12_endDay 43 = .ok (.dup2, 1) := by decide +kernel
theorem dX12_endDay_44 : decode cX12_endDay 44 = .ok (.iaload, 1) := by decide +kernel
theorem dX12_endDay_45 : decode cX12_endDay 45 = .ok (.aload_n 0, 1) := by decide +kernel
theorem dX12_endDay_46 : decode cX12_endDay 46 = .ok (.getfield 9, 3) := by decide +kernel
theorem dX12_endDay_49 : decode cX12_endDay 49 = .ok (.aload_n 0, 1) := by decide +kernel
theorem dX12_endDay_50 : decode cX12_endDay 50 = .ok (.iload_n 2, 1) := by decide +kernel
theorem dX12_endDay_51 : decode cX12_endDay 51 = .ok (.iconst 3, 1) := by decide +kernel
theorem dX12_endDay_52 : decode cX12_endDay 52 = .ok (.invokevirtual 139, 3) := by decide +kernel
theorem dX12_endDay_55 : decode cX12_endDay 55 = .ok (.iaload, 1) := by decide +kernel
theorem dX12_endDay_56 : decode cX12_endDay 56 = .ok (.aload_n 0, 1) := by decide +kernel
theorem dX12_endDay_57 : decode cX12_endDay 57 = .ok (.getfield 9, 3) := by decide +kernel
theorem dX12_endDay_60 : decode cX12_endDay 60 = .ok (.bipush 19, 2) := by decide +kernel
theorem dX12_endDay_62 : decode cX12_endDay 62 = .ok (.iload_n 2, 1) := by decide +kernel
theorem dX12_endDay_63 : decode cX12_endDay 63 = .ok (.iadd, 1) := by decide +kernel
theorem dX12_endDay_64 : decode cX12_endDay 64 = .ok (.iaload, 1) := by decide +kernel
theorem dX12_endDay_65 : decode cX12_endDay 65 = .ok (.imul, 1) := by decide +kernel
theorem dX12_endDay_66 : decode cX12_endDay 66 = .ok (.iadd, 1) := by decide +kernel
theorem dX12_endDay_67 : decode cX12_endDay 67 = .ok (.iastore, 1) := by decide +kernel
theorem dX12_endDay_68 : decode cX12_endDay 68 = .ok (.iconst 3, 1) := by decide +kernel
theorem dX12_endDay_69 : decode cX12_endDay 69 = .ok (.istore_n 3, 1) := by decide +kernel
theorem dX12_endDay_70 : decode cX12_endDay 70 = .ok (.iload_n 3, 1) := by decide +kernel
theorem dX12_endDay_71 : decode cX12_endDay 71 = .ok (.ifCond .le 33, 3) := by decide +kernel
theorem dX12_endDay_74 : decode cX12_endDay 74 = .ok (.aload_n 0, 1) := by decide +kernel
theorem dX12_endDay_75 : decode cX12_endDay 75 = .ok (.getfield 9, 3) := by decide +kernel
theorem dX12_endDay_78 : decode cX12_endDay 78 = .ok (.aload_n 0, 1) := by decide +kernel
theorem dX12_endDay_79 : decode cX12_endDay 79 = .ok (.iload_n 2, 1) := by decide +kernel
theorem dX12_endDay_80 : decode cX12_endDay 80 = .ok (.iload_n 3, 1) := by decide +kernel
theorem dX12_endDay_81 : decode cX12_endDay 81 = .ok (.invokevirtual 139, 3) := by decide +kernel
theorem dX12_endDay_84 : decode cX12_endDay 84 = .ok (.aload_n 0, 1) := by decide +kernel
theorem dX12_endDay_85 : decode cX12_endDay 85 = .ok (.getfield 9, 3) := by decide +kernel
theorem dX12_endDay_88 : decode cX12_endDay 88 = .ok (.aload_n 0, 1) := by decide +kernel
theorem dX12_endDay_89 : decode cX12_endDay 89 = .ok (.iload_n 2, 1) := by decide +kernel
theorem dX12_endDay_90 : decode cX12_endDay 90 = .ok (.iload_n 3, 1) := by decide +kernel
theorem dX12_endDay_91 : decode cX12_endDay 91 = .ok (.iconst 1, 1) := by decide +kernel
theorem dX12_endDay_92 : decode cX12_endDay 92 = .ok (.isub, 1) := by decide +kernel
theorem dX12_endDay_93 : decode cX12_endDay 93 = .ok (.invokevirtual 139, 3) := by decide +kernel
theorem dX12_endDay_96 : decode cX12_endDay 96 = .ok (.iaload, 1) := by decide +kernel
theorem dX12_endDay_97 : decode cX12_endDay 97 = .ok (.iastore, 1) := by decide +kernel
theorem dX12_endDay_98 : decode cX12_endDay 98 = .ok (.iinc 3 (-1), 3) := by decide +kernel
theorem dX12_endDay_101 : decode cX12_endDay 101 = .ok (.goto (-31), 3) := by decide +kernel
theorem dX12_endDay_104 : decode cX12_endDay 104 = .ok (.aload_n 0, 1) := by decide +kernel
theorem dX12_endDay_105 : decode cX12_endDay 105 = .ok (.getfield 9, 3) := by decide +kernel
theorem dX12_endDay_108 : decode cX12_endDay 108 = .ok (.aload_n 0, 1) := by decide +kernel
theorem dX12_endDay_109 : decode cX12_endDay 109 = .ok (.iload_n 2, 1) := by decide +kernel
theorem dX12_endDay_110 : decode cX12_endDay 110 = .ok (.iconst 0, 1) := by decide +kernel
theorem dX12_endDay_111 : decode cX12_endDay 111 = .ok (.invokevirtual 139, 3) := by decide +kernel
theorem dX12_endDay_114 : decode cX12_endDay 114 = .ok (.iconst 0, 1) := by decide +kernel
theorem dX12_endDay_115 : decode cX12_endDay 115 = .ok (.iastore, 1) := by decide +kernel
theorem dX12_endDay_116 : decode cX12_endDay 116 = .ok (.iinc 2 1, 3) := by decide +kernel
theorem dX12_endDay_119 : decode cX12_endDay 119 = .ok (.goto (-106), 3) := by decide +kernel
theorem dX12_endDay_122 : decode cX12_endDay 122 = .ok (.iload_n 1, 1) := by decide +kernel
theorem dX12_endDay_123 : decode cX12_endDay 123 = .ok (.ireturn, 1) := by decide +kernel
set_option maxRecDepth 20000 in
theorem ggX12_breadsOf_X12_breadAt : GoodIn wsX12_breadsOf wsX12_breadAt := goodIn_r _ [6] (by decide +kernel) (by decide +kernel)
set_option maxRecDepth 20000 in
theorem gX12_breadsOf_X12_breadAt : GoodIn wsX12_breadsOf (wsV RX12 139 RX12 yX12_breadAt wsX12_breadAt) := goodIn_app (goodIn_of _ (by decide +kernel)) ggX12_breadsOf_X12_breadAt
theorem dX12_breadsOf_0 : decode cX12_breadsOf 0 = .ok (.iconst 0, 1) := by decide +kernel
theorem dX12_breadsOf_1 : decode cX12_breadsOf 1 = .ok (.istore_n 2, 1) := by decide +kernel
theorem dX12_breadsOf_2 : decode cX12_breadsOf 2 = .ok (.iconst 0, 1) := by decide +kernel
theorem dX12_breadsOf_3 : decode cX12_breadsOf 3 = .ok (.istore_n 3, 1) := by decide +kernel
theorem dX12_breadsOf_4 : decode cX12_breadsOf 4 = .ok (.iload_n 3, 1) := by decide +kernel
theorem dX12_breadsOf_5 : decode cX12_breadsOf 5 = .ok (.iconst 4, 1) := by decide +kernel
theorem dX12_breadsOf_6 : decode cX12_breadsOf 6 = .ok (.if_icmp .ge 23, 3) := by decide +kernel
theorem dX12_breadsOf_9 : decode cX12_breadsOf 9 = .ok (.iload_n 2, 1) := by decide +kernel
theorem dX12_breadsOf_10 : decode cX12_breadsOf 10 = .ok (.aload_n 0, 1) := by decide +kernel
theorem dX12_breadsOf_11 : decode cX12_breadsOf 11 = .ok (.getfield 9, 3) := by decide +kernel
theorem dX12_breadsOf_14 : decode cX12_breadsOf 14 = .ok (.aload_n 0, 1) := by decide +kernel
theorem dX12_breadsOf_15 : decode cX12_breadsOf 15 = .ok (.iload_n 1, 1) := by decide +kernel
theorem dX12_breadsOf_16 : decode cX12_breadsOf 16 = .ok (.iload_n 3, 1) := by decide +kernel
theorem dX12_breadsOf_17 : decode cX12_breadsOf 17 = .ok (.invokevirtual 139, 3) := by decide +kernel
theorem dX12_breadsOf_20 : decode cX12_breadsOf 20 = .ok (.iaload, 1) := by decide +kernel
theorem dX12_breadsOf_21 : decode cX12_breadsOf 21 = .ok (.iadd, 1) := by decide +kernel
theorem dX12_breadsOf_22 : decode cX12_breadsOf 22 = .ok (.istore_n 2, 1) := by decide +kernel
theorem dX12_breadsOf_23 : decode cX12_breadsOf 23 = .ok (.iinc 3 1, 3) := by decide +kernel
theorem dX12_breadsOf_26 : decode cX12_breadsOf 26 = .ok (.goto (-22), 3) := by decide +kernel
theorem dX12_breadsOf_29 : decode cX12_breadsOf 29 = .ok (.iload_n 2, 1) := by decide +kernel
theorem dX12_breadsOf_30 : decode cX12_breadsOf 30 = .ok (.ireturn, 1) := by decide +kernel
set_option maxRecDepth 20000 in
theorem ggX12_sell_X12_isRecipe : GoodIn wsX12_sell wsX12_isRecipe := goodIn_r _ [6, 1, 7, 8, 5, 9, 34, 35, 36, 37, 38, 39, 40, 41, 42, 43, 44, 45, 46, 47, 48, 49, 50, 51, 52, 53] (by decide +kernel) (by decide +kernel)
set_option maxRecDepth 20000 in
theorem gX12_sell_X12_isRecipe : GoodIn wsX12_sell (wsV RX12 77 RX12 yX12_isRecipe wsX12_isRecipe) := goodIn_app (goodIn_of _ (by decide +kernel)) ggX12_sell_X12_isRecipe
set_option maxRecDepth 20000 in
theorem ggX12_sell_X12_can : GoodIn wsX12_sell wsX12_can := goodIn_r _ [13, 14, 34, 35, 36, 37, 38, 39, 40, 41, 42, 43, 44, 45, 46, 47, 48, 49, 50, 51, 52, 53] (by decide +kernel) (by decide +kernel)
set_option maxRecDepth 20000 in
theorem gX12_sell_X12_can : GoodIn wsX12_sell (wsV RX12 60 RX12 yX12_can wsX12_can) := goodIn_app (goodIn_of _ (by decide +kernel)) ggX12_sell_X12_can
set_option maxRecDepth 20000 in
theorem ggX12_sell_X12_in : GoodIn wsX12_sell wsX12_in := goodIn_r _ [9] (by decide +kernel) (by decide +kernel)
set_option maxRecDepth 20000 in
theorem gX12_sell_X12_in : GoodIn wsX12_sell (va_wsS RX12 64 yX12_in wsX12_in) := goodIn_app (goodIn_of _ (by decide +kernel)) ggX12_sell_X12_in
set_option maxRecDepth 20000 in
theorem ggX12_sell_X12_breadsOf : GoodIn wsX12_sell wsX12_breadsOf := goodIn_r _ [18, 1, 19, 20, 21, 5, 22, 34, 35, 36, 37, 38, 39, 40, 41, 42, 43, 44, 45, 46, 47, 48, 49, 50, 51, 52, 53] (by decide +kernel) (by decide +kernel)
set_option maxRecDepth 20000 in
theorem gX12_sell_X12_breadsOf : GoodIn wsX12_sell (wsV RX12 142 RX12 yX12_breadsOf wsX12_breadsOf) := goodIn_app (goodIn_of _ (by decide +kernel)) ggX12_sell_X12_breadsOf
set_option maxRecDepth 20000 in
theorem ggX12_sell_X12_keep : GoodIn wsX12_sell wsX12_keep := goodIn_r _ [26, 27, 28, 29, 1, 30, 31, 32, 5, 33, 34, 35, 36, 37, 38, 39, 40, 41, 42, 43, 44, 45, 46, 47, 48, 49, 50, 51, 52, 53] (by decide +kernel) (by decide +kernel)
set_option maxRecDepth 20000 in
theorem gX12_sell_X12_keep : GoodIn wsX12_sell (wsV RX12 74 RX12 yX12_keep wsX12_keep) := goodIn_app (goodIn_of _ (by decide +kernel)) ggX12_sell_X12_keep
set_option maxRecDepth 20000 in
theorem ggX12_sell_X12_breadAt : GoodIn wsX12_sell wsX12_breadAt := goodIn_r _ [22] (by decide +kernel) (by decide +kernel)
set_option maxRecDepth 20000 in
theorem gX12_sell_X12_breadAt : GoodIn wsX12_sell (wsV RX12 139 RX12 yX12_breadAt wsX12_breadAt) := goodIn_app (goodIn_of _ (by decide +kernel)) ggX12_sell_X12_breadAt
theorem dX12_sell_0 : decode cX12_sell 0 = .ok (.aload_n 0, 1) := by decide +kernel
theorem dX12_sell_1 : decode cX12_sell 1 = .ok (.aload_n 0, 1) := by decide +kernel
theorem dX12_sell_2 : decode cX12_sell 2 = .ok (.iload_n 1, 1) := by decide +kernel
theorem dX12_sell_3 : decode cX12_sell 3 = .ok (.invokevirtual 77, 3) := by decide +kernel
theorem dX12_sell_6 : decode cX12_sell 6 = .ok (.iconst 1, 1) := by decide +kernel
theorem dX12_sell_7 : decode cX12_sell 7 = .ok (.invokevirtual 60, 3) := by decide +kernel
theorem dX12_sell_10 : decode cX12_sell 10 = .ok (.ifCond .eq 40, 3) := by decide +kernel
theorem dX12_sell_13 : decode cX12_sell 13 = .ok (.aload_n 0, 1) := by decide +kernel
theorem dX12_sell_14 : decode cX12_sell 14 = .ok (.iload_n 2, 1) := by decide +kernel
theorem dX12_sell_15 : decode cX12_sell 15 = .ok (.iconst 1, 1) := by decide +kernel
theorem dX12_sell_16 : decode cX12_sell 16 = .ok (.bipush 99, 2) := by decide +kernel
theorem dX12_sell_18 : decode cX12_sell 18 = .ok (.invokestatic 64, 3) := by decide +kernel
theorem dX12_sell_21 : decode cX12_sell 21 = .ok (.iconst 2, 1) := by decide +kernel
theorem dX12_sell_22 : decode cX12_sell 22 = .ok (.invokevirtual 60, 3) := by decide +kernel
theorem dX12_sell_25 : decode cX12_sell 25 = .ok (.ifCond .eq 25, 3) := by decide +kernel
theorem dX12_sell_28 : decode cX12_sell 28 = .ok (.aload_n 0, 1) := by decide +kernel
theorem dX12_sell_29 : decode cX12_sell 29 = .ok (.aload_n 0, 1) := by decide +kernel
theorem dX12_sell_30 : decode cX12_sell 30 = .ok (.iload_n 1, 1) := by decide +kernel
theorem dX12_sell_31 : decode cX12_sell 31 = .ok (.invokevirtual 142, 3) := by decide +kernel
theorem dX12_sell_34 : decode cX12_sell 34 = .ok (.iload_n 2, 1) := by decide +kernel
theorem dX12_sell_35 : decode cX12_sell 35 = .ok (.if_icmp .lt 7, 3) := by decide +kernel
theorem dX12_sell_38 : decode cX12_sell 38 = .ok (.iconst 1, 1) := by decide +kernel
theorem dX12_sell_39 : decode cX12_sell 39 = .ok (.goto 4, 3) := by decide +kernel
theorem dX12_sell_42 : decode cX12_sell 42 = .ok (.iconst 0, 1) := by decide +kernel
theorem dX12_sell_43 : decode cX12_sell 43 = .ok (.iconst 3, 1) := by decide +kernel
theorem dX12_sell_44 : decode cX12_sell 44 = .ok (.invokevirtual 60, 3) := by decide +kernel
theorem dX12_sell_47 : decode cX12_sell 47 = .ok (.ifCond .ne 5, 3) := by decide +kernel
theorem dX12_sell_50 : decode cX12_sell 50 = .ok (.iconst 0, 1) := by decide +kernel
theorem dX12_sell_51 : decode cX12_sell 51 = .ok (.ireturn, 1) := by decide +kernel
theorem dX12_sell_52 : decode cX12_sell 52 = .ok (.aload_n 0, 1) := by decide +kernel
theorem dX12_sell_53 : decode cX12_sell 53 = .ok (.invokevirtual 74, 3) := by decide +kernel
theorem dX12_sell_56 : decode cX12_sell 56 = .ok (.iconst (-1), 1) := by decide +kernel
theorem dX12_sell_57 : decode cX12_sell 57 = .ok (.istore_n 3, 1) := by decide +kernel
theorem dX12_sell_58 : decode cX12_sell 58 = .ok (.iload_n 2, 1) := by decide +kernel
theorem dX12_sell_59 : decode cX12_sell 59 = .ok (.istore 4, 2) := by decide +kernel
theorem dX12_sell_61 : decode cX12_sell 61 = .ok (.iconst 3, 1) := by decide +kernel
theorem dX12_sell_62 : decode cX12_sell 62 = .ok (.istore 5, 2) := by decide +kernel
theorem dX12_sell_64 : decode cX12_sell 64 = .ok (.iload 5, 2) := by decide +kernel
theorem dX12_sell_66 : decode cX12_sell 66 = .ok (.ifCond .lt 86, 3) := by decide +kernel
theorem dX12_sell_69 : decode cX12_sell 69 = .ok (.aload_n 0, 1) := by decide +kernel
theorem dX12_sell_70 : decode cX12_sell 70 = .ok (.getfield 9, 3) := by decide +kernel
theorem dX12_sell_73 : decode cX12_sell 73 = .ok (.aload_n 0, 1) := by decide +kernel
theorem dX12_sell_74 : decode cX12_sell 74 = .ok (.iload_n 1, 1) := by decide +kernel
theorem dX12_sell_75 : decode cX12_sell 75 = .ok (.iload 5, 2) := by decide +kernel
theorem dX12_sell_77 : decode cX12_sell 77 = .ok (.invokevirtual 139, 3) := by decide +kernel
theorem dX12_sell_80 : decode cX12_sell 80 = .ok (.iaload, 1) := by decide +kernel
theorem dX12_sell_81 : decode cX12_sell 81 = .ok (.iload 4, 2) := by decide +kernel
theorem dX12_sell_83 : decode cX12_sell 83 = .ok (.if_icmp .ge 18, 3) := by decide +kernel
theorem dX12_sell_86 : decode cX12_sell 86 = .ok (.aload_n 0, 1) := by decide +kernel
theorem dX12_sell_87 : decode cX12_sell 87 = .ok (.getfield 9, 3) := by decide +kernel
theorem dX12_sell_90 : decode cX12_sell 90 = .ok (.aload_n 0, 1) := by decide +kernel
theorem dX12_sell_91 : decode cX12_sell 91 = .ok (.iload_n 1, 1) := by decide +kernel
theorem dX12_sell_92 : decode cX12_sell 92 = .ok (.iload 5, 2) := by decide +kernel
theorem dX12_sell_94 : decode cX12_sell 94 = .ok (.invokevirtual 139, 3) := by decide +kernel
theorem dX12_sell_97 : decode cX12_sell 97 = .ok (.iaload, 1) := by decide +kernel
theorem dX12_sell_98 : decode cX12_sell 98 = .ok (.goto 5, 3) := by decide +kernel
theorem dX12_sell_101 : decode cX12_sell 101 = .ok (.iload 4, 2) := by decide +kernel
theorem dX12_sell_103 : decode cX12_sell 103 = .ok (.istore 6, 2) := by decide +kernel
theorem dX12_sell_105 : decode cX12_sell 105 = .ok (.iload_n 3, 1) := by decide +kernel
theorem dX12_sell_106 : decode cX12_sell 106 = .ok (.iconst (-1), 1) := by decide +kernel
theorem dX12_sell_107 : decode cX12_sell 107 = .ok (.if_icmp .ne 13, 3) := by decide +kernel
theorem dX12_sell_110 : decode cX12_sell 110 = .ok (.iload 6, 2) := by decide +kernel
theorem dX12_sell_112 : decode cX12_sell 112 = .ok (.ifCond .le 8, 3) := by decide +kernel
theorem dX12_sell_115 : decode cX12_sell 115 = .ok (.iload 5, 2) := by decide +kernel
theorem dX12_sell_117 : decode cX12_sell 117 = .ok (.goto 4, 3) := by decide +kernel
theorem dX12_sell_120 : decode cX12_sell 120 = .ok (.iload_n 3, 1) := by decide +kernel
theorem dX12_sell_121 : decode cX12_sell 121 = .ok (.istore_n 3, 1) := by decide +kernel
theorem dX12_sell_122 : decode cX12_sell 122 = .ok (.aload_n 0, 1) := by decide +kernel
theorem dX12_sell_123 : decode cX12_sell 123 = .ok (.getfield 9, 3) := by decide +kernel
theorem dX12_sell_126 : decode cX12_sell 126 = .ok (.aload_n 0, 1) := by decide +kernel
theorem dX12_sell_127 : decode cX12_sell 127 = .ok (.iload_n 1, 1) := by decide +kernel
theorem dX12_sell_128 : decode cX12_sell 128 = .ok (.iload 5, 2) := by decide +kernel
theorem dX12_sell_130 : decode cX12_sell 130 = .ok (.invokevirtual 139, 3) := by decide +kernel
theorem dX12_sell_133 : decode cX12_sell 133 = .ok (.dup2, 1) := by decide +kernel
theorem dX12_sell_134 : decode cX12_sell 134 = .ok (.iaload, 1) := by decide +kernel
theorem dX12_sell_135 : decode cX12_sell 135 = .ok (.iload 6, 2) := by decide +kernel
theorem dX12_sell_137 : decode cX12_sell 137 = .ok (.isub, 1) := by decide +kernel
theorem dX12_sell_138 : decode cX12_sell 138 = .ok (.iastore, 1) := by decide +kernel
theorem dX12_sell_139 : decode cX12_sell 139 = .ok (.iload 4, 2) := by decide +kernel
theorem dX12_sell_141 : decode cX12_sell 141 = .ok (.iload 6, 2) := by decide +kernel
theorem dX12_sell_143 : decode cX12_sell 143 = .ok (.isub, 1) := by decide +kernel
theorem dX12_sell_144 : decode cX12_sell 144 = .ok (.istore 4, 2) := by decide +kernel
theorem dX12_sell_146 : decode cX12_sell 146 = .ok (.iinc 5 (-1), 3) := by decide +kernel
theorem dX12_sell_149 : decode cX12_sell 149 = .ok (.goto (-85), 3) := by decide +kernel
theorem dX12_sell_152 : decode cX12_sell 152 = .ok (.aload_n 0, 1) := by decide +kernel
theorem dX12_sell_153 : decode cX12_sell 153 = .ok (.getfield 9, 3) := by decide +kernel
theorem dX12_sell_156 : decode cX12_sell 156 = .ok (.bipush 9, 2) := by decide +kernel
theorem dX12_sell_158 : decode cX12_sell 158 = .ok (.dup2, 1) := by decide +kernel
theorem dX12_sell_159 : decode cX12_sell 159 = .ok (.iaload, 1) := by decide +kernel
theorem dX12_sell_160 : decode cX12_sell 160 = .ok (.iload_n 2, 1) := by decide +kernel
theorem dX12_sell_161 : decode cX12_sell 161 = .ok (.aload_n 0, 1) := by decide +kernel
theorem dX12_sell_162 : decode cX12_sell 162 = .ok (.getfield 9, 3) := by decide +kernel
theorem dX12_sell_165 : decode cX12_sell 165 = .ok (.bipush 19, 2) := by decide +kernel
theorem dX12_sell_167 : decode cX12_sell 167 = .ok (.iload_n 1, 1) := by decide +kernel
theorem dX12_sell_168 : decode cX12_sell 168 = .ok (.iadd, 1) := by decide +kernel
theorem dX12_sell_169 : decode cX12_sell 169 = .ok (.iaload, 1) := by decide +kernel
theorem dX12_sell_170 : decode cX12_sell 170 = .ok (.imul, 1) := by decide +kernel
theorem dX12_sell_171 : decode cX12_sell 171 = .ok (.iadd, 1) := by decide +kernel
theorem dX12_sell_172 : decode cX12_sell 172 = .ok (.iastore, 1) := by decide +kernel
theorem dX12_sell_173 : decode cX12_sell 173 = .ok (.iload_n 3, 1) := by decide +kernel
theorem dX12_sell_174 : decode cX12_sell 174 = .ok (.ireturn, 1) := by decide +kernel
set_option maxRecDepth 20000 in
theorem ggX12_crumble_X12_isRecipe : GoodIn wsX12_crumble wsX12_isRecipe := goodIn_r _ [6, 1, 7, 8, 5, 9, 30, 31, 32, 33, 34, 35, 36, 37, 38, 39, 40, 41, 42, 43, 44, 45, 46, 47, 48, 49] (by decide +kernel) (by decide +kernel)
set_option maxRecDepth 20000 in
theorem gX12_crumble_X12_isRecipe : GoodIn wsX12_crumble (wsV RX12 77 RX12 yX12_isRecipe wsX12_isRecipe) := goodIn_app (goodIn_of _ (by decide +kernel)) ggX12_crumble_X12_isRecipe
set_option maxRecDepth 20000 in
theorem ggX12_crumble_X12_can : GoodIn wsX12_crumble wsX12_can := goodIn_r _ [13, 14, 30, 31, 32, 33, 34, 35, 36, 37, 38, 39, 40, 41, 42, 43, 44, 45, 46, 47, 48, 49] (by decide +kernel) (by decide +kernel)
set_option maxRecDepth 20000 in
theorem gX12_crumble_X12_can : GoodIn wsX12_crumble (wsV RX12 60 RX12 yX12_can wsX12_can) := goodIn_app (goodIn_of _ (by decide +kernel)) ggX12_crumble_X12_can
set_option maxRecDepth 20000 in
theorem ggX12_crumble_X12_keep : GoodIn wsX12_crumble wsX12_keep := goodIn_r _ [18, 19, 20, 21, 1, 22, 23, 24, 5, 25, 30, 31, 32, 33, 34, 35, 36, 37, 38, 39, 40, 41, 42, 43, 44, 45, 46, 47, 48, 49] (by decide +kernel) (by decide +kernel)
set_option maxRecDepth 20000 in
theorem gX12_crumble_X12_keep : GoodIn wsX12_crumble (wsV RX12 74 RX12 yX12_keep wsX12_keep) := goodIn_app (goodIn_of _ (by decide +kernel)) ggX12_crumble_X12_keep
set_option maxRecDepth 20000 in
theorem ggX12_crumble_X12_breadAt : GoodIn wsX12_crumble wsX12_breadAt := goodIn_r _ [29] (by decide +kernel) (by decide +kernel)
set_option maxRecDepth 20000 in
theorem gX12_crumble_X12_breadAt : GoodIn wsX12_crumble (wsV RX12 139 RX12 yX12_breadAt wsX12_breadAt) := goodIn_app (goodIn_of _ (by decide +kernel)) ggX12_crumble_X12_breadAt
theorem dX12_crumble_0 : decode cX12_crumble 0 = .ok (.aload_n 0, 1) := by decide +kernel
theorem dX12_crumble_1 : decode cX12_crumble 1 = .ok (.aload_n 0, 1) := by decide +kernel
theorem dX12_crumble_2 : decode cX12_crumble 2 = .ok (.iload_n 1, 1) := by decide +kernel
theorem dX12_crumble_3 : decode cX12_crumble 3 = .ok (.invokevirtual 77, 3) := by decide +kernel
theorem dX12_crumble_6 : decode cX12_crumble 6 = .ok (.iconst 1, 1) := by decide +kernel
theorem dX12_crumble_7 : decode cX12_crumble 7 = .ok (.invokevirtual 60, 3) := by decide +kernel
theorem dX12_crumble_10 : decode cX12_crumble 10 = .ok (.ifCond .ne 5, 3) := by decide +kernel
theorem dX12_crumble_13 : decode cX12_crumble 13 = .ok (.iconst 0, 1) := by decide +kernel
theorem dX12_crumble_14 : decode cX12_crumble 14 = .ok (.ireturn, 1) := by decide +kernel
theorem dX12_crumble_15 : decode cX12_crumble 15 = .ok (.aload_n 0, 1) := by decide +kernel
theorem dX12_crumble_16 : decode cX12_crumble 16 = .ok (.invokevirtual 74, 3) := by decide +kernel
theorem dX12_crumble_19 : decode cX12_crumble 19 = .ok (.iconst 0, 1) := by decide +kernel
theorem dX12_crumble_20 : decode cX12_crumble 20 = .ok (.istore_n 2, 1) := by decide +kernel
theorem dX12_crumble_21 : decode cX12_crumble 21 = .ok (.iconst 1, 1) := by decide +kernel
theorem dX12_crumble_22 : decode cX12_crumble 22 = .ok (.istore_n 3, 1) := by decide +kernel
theorem dX12_crumble_23 : decode cX12_crumble 23 = .ok (.iload_n 3, 1) := by decide +kernel
theorem dX12_crumble_24 : decode cX12_crumble 24 = .ok (.iconst 4, 1) := by decide +kernel
theorem dX12_crumble_25 : decode cX12_crumble 25 = .ok (.if_icmp .ge 45, 3) := by decide +kernel
theorem dX12_crumble_28 : decode cX12_crumble 28 = .ok (.iload_n 2, 1) := by decide +kernel
theorem dX12_crumble_29 : decode cX12_crumble 29 = .ok (.aload_n 0, 1) := by decide +kernel
theorem dX12_crumble_30 : decode cX12_crumble 30 = .ok (.getfield 9, 3) := by decide +kernel
theorem dX12_crumble_33 : decode cX12_crumble 33 = .ok (.aload_n 0, 1) := by decide +kernel
theorem dX12_crumble_34 : decode cX12_crumble 34 = .ok (.iload_n 1, 1) := by decide +kernel
theorem dX12_crumble_35 : decode cX12_crumble 35 = .ok (.iload_n 3, 1) := by decide +kernel
theorem dX12_crumble_36 : decode cX12_crumble 36 = .ok (.invokevirtual 139, 3) := by decide +kernel
theorem dX12_crumble_39 : decode cX12_crumble 39 = .ok (.iaload, 1) := by decide +kernel
theorem dX12_crumble_40 : decode cX12_crumble 40 = .ok (.aload_n 0, 1) := by decide +kernel
theorem dX12_crumble_41 : decode cX12_crumble 41 = .ok (.getfield 9, 3) := by decide +kernel
theorem dX12_crumble_44 : decode cX12_crumble 44 = .ok (.bipush 19, 2) := by decide +kernel
theorem dX12_crumble_46 : decode cX12_crumble 46 = .ok (.iload_n 1, 1) := by decide +kernel
theorem dX12_crumble_47 : decode cX12_crumble 47 = .ok (.iadd, 1) := by decide +kernel
theorem dX12_crumble_48 : decode cX12_crumble 48 = .ok (.iaload, 1) := by decide +kernel
theorem dX12_crumble_49 : decode cX12_crumble 49 = .ok (.imul, 1) := by decide +kernel
theorem dX12_crumble_50 : decode cX12_crumble 50 = .ok (.iadd, 1) := by decide +kernel
theorem dX12_crumble_51 : decode cX12_crumble 51 = .ok (.istore_n 2, 1) := by decide +kernel
theorem dX12_crumble_52 : decode cX12_crumble 52 = .ok (.aload_n 0, 1) := by decide +kernel
theorem dX12_crumble_53 : decode cX12_crumble 53 = .ok (.getfield 9, 3) := by decide +kernel
theorem dX12_crumble_56 : decode cX12_crumble 56 = .ok (.aload_n 0, 1) := by decide +kernel
theorem dX12_crumble_57 : decode cX12_crumble 57 = .ok (.iload_n 1, 1) := by decide +kernel
theorem dX12_crumble_58 : decode cX12_crumble 58 = .ok (.iload_n 3, 1) := by decide +kernel
theorem dX12_crumble_59 : decode cX12_crumble 59 = .ok (.invokevirtual 139, 3) := by decide +kernel
theorem dX12_crumble_62 : decode cX12_crumble 62 = .ok (.iconst 0, 1) := by decide +kernel
theorem dX12_crumble_63 : decode cX12_crumble 63 = .ok (.iastore, 1) := by decide +kernel
theorem dX12_crumble_64 : decode cX12_crumble 64 = .ok (.iinc 3 1, 3) := by decide +kernel
theorem dX12_crumble_67 : decode cX12_crumble 67 = .ok (.goto (-44), 3) := by decide +kernel
theorem dX12_crumble_70 : decode cX12_crumble 70 = .ok (.aload_n 0, 1) := by decide +kernel
theorem dX12_crumble_71 : decode cX12_crumble 71 = .ok (.getfield 9, 3) := by decide +kernel
theorem dX12_crumble_74 : decode cX12_crumble 74 = .ok (.bipush 18, 2) := by decide +kernel
theorem dX12_crumble_76 : decode cX12_crumble 76 = .ok (.dup2, 1) := by decide +kernel
theorem dX12_crumble_77 : decode cX12_crumble 77 = .ok (.iaload, 1) := by decide +kernel
theorem dX12_crumble_78 : decode cX12_crumble 78 = .ok (.iload_n 2, 1) := by decide +kernel
theorem dX12_crumble_79 : decode cX12_crumble 79 = .ok (.iadd, 1) := by decide +kernel
theorem dX12_crumble_80 : decode cX12_crumble 80 = .ok (.iastore, 1) := by decide +kernel
theorem dX12_crumble_81 : decode cX12_crumble 81 = .ok (.iload_n 2, 1) := by decide +kernel
theorem dX12_crumble_82 : decode cX12_crumble 82 = .ok (.ireturn, 1) := by decide +kernel
set_option maxRecDepth 20000 in
theorem ggX12_isFlour_X12_in : GoodIn wsX12_isFlour wsX12_in := goodIn_r _ [4] (by decide +kernel) (by decide +kernel)
set_option maxRecDepth 20000 in
theorem gX12_isFlour_X12_in : GoodIn wsX12_isFlour (va_wsS RX12 64 yX12_in wsX12_in) := goodIn_app (goodIn_of _ (by decide +kernel)) ggX12_isFlour_X12_in
theorem dX12_isFlour_0 : decode cX12_isFlour 0 = .ok (.iload_n 0, 1) := by decide +kernel
theorem dX12_isFlour_1 : decode cX12_isFlour 1 = .ok (.iconst 0, 1) := by decide +kernel
theorem dX12_isFlour_2 : decode cX12_isFlour 2 = .ok (.iconst 3, 1) := by decide +kernel
theorem dX12_isFlour_3 : decode cX12_isFlour 3 = .ok (.invokestatic 64, 3) := by decide +kernel
theorem dX12_isFlour_6 : decode cX12_isFlour 6 = .ok (.ireturn, 1) := by decide +kernel
set_option maxRecDepth 20000 in
theorem ggX12_setFlour_X12_isFlour : GoodIn wsX12_setFlour wsX12_isFlour := goodIn_r _ [5, 6, 7, 4, 8] (by decide +kernel) (by decide +kernel)
set_option maxRecDepth 20000 in
theorem gX12_setFlour_X12_isFlour : GoodIn wsX12_setFlour (va_wsS RX12 145 yX12_isFlour wsX12_isFlour) := goodIn_app (goodIn_of _ (by decide +kernel)) ggX12_setFlour_X12_isFlour
set_option maxRecDepth 20000 in
theorem ggX12_setFlour_X12_can : GoodIn wsX12_setFlour wsX12_can := goodIn_r _ [12, 13, 25, 26, 27, 28, 29, 30, 31, 32, 33, 34, 35, 36, 37, 38, 39, 40, 41, 42, 43, 44] (by decide +kernel) (by decide +kernel)
set_option maxRecDepth 20000 in
theorem gX12_setFlour_X12_can : GoodIn wsX12_setFlour (wsV RX12 60 RX12 yX12_can wsX12_can) := goodIn_app (goodIn_of _ (by decide +kernel)) ggX12_setFlour_X12_can
set_option maxRecDepth 20000 in
theorem ggX12_setFlour_X12_in : GoodIn wsX12_setFlour wsX12_in := goodIn_r _ [8] (by decide +kernel) (by decide +kernel)
set_option maxRecDepth 20000 in
theorem gX12_setFlour_X12_in : GoodIn wsX12_setFlour (va_wsS RX12 64 yX12_in wsX12_in) := goodIn_app (goodIn_of _ (by decide +kernel)) ggX12_setFlour_X12_in
set_option maxRecDepth 20000 in
theorem ggX12_setFlour_X12_keep : GoodIn wsX12_setFlour wsX12_keep := goodIn_r _ [17, 18, 19, 20, 1, 21, 22, 23, 4, 24, 25, 26, 27, 28, 29, 30, 31, 32, 33, 34, 35, 36, 37, 38, 39, 40, 41, 42, 43, 44] (by decide +kernel) (by decide +kernel)
set_option maxRecDepth 20000 in
theorem gX12_setFlour_X12_keep : GoodIn wsX12_setFlour (wsV RX12 74 RX12 yX12_keep wsX12_keep) := goodIn_app (goodIn_of _ (by decide +kernel)) ggX12_setFlour_X12_keep
theorem dX12_setFlour_0 : decode cX12_setFlour 0 = .ok (.aload_n 0, 1) := by decide +kernel
theorem dX12_setFlour_1 : decode cX12_setFlour 1 = .ok (.iload_n 1, 1) := by decide +kernel
theorem dX12_setFlour_2 : decode cX12_setFlour 2 = .ok (.invokestatic 145, 3) := by decide +kernel
theorem dX12_setFlour_5 : decode cX12_setFlour 5 = .ok (.iconst 1, 1) := by decide +kernel
theorem dX12_setFlour_6 : decode cX12_setFlour 6 = .ok (.invokevirtual 60, 3) := by decide +kernel
theorem dX12_setFlour_9 : decode cX12_setFlour 9 = .ok (.ifCond .eq 49, 3) := by decide +kernel
theorem dX12_setFlour_12 : decode cX12_setFlour 12 = .ok (.aload_n 0, 1) := by decide +kernel
theorem dX12_setFlour_13 : decode cX12_setFlour 13 = .ok (.iload_n 2, 1) := by decide +kernel
theorem dX12_setFlour_14 : decode cX12_setFlour 14 = .ok (.iconst 0, 1) := by decide +kernel
theorem dX12_setFlour_15 : decode cX12_setFlour 15 = .ok (.sipush 200, 3) := by decide +kernel
theorem dX12_setFlour_18 : decode cX12_setFlour 18 = .ok (.invokestatic 64, 3) := by decide +kernel
theorem dX12_setFlour_21 : decode cX12_setFlour 21 = .ok (.ifCond .eq 29, 3) := by decide +kernel
theorem dX12_setFlour_24 : decode cX12_setFlour 24 = .ok (.iload_n 3, 1) := by decide +kernel
theorem dX12_setFlour_25 : decode cX12_setFlour 25 = .ok (.iconst 0, 1) := by decide +kernel
theorem dX12_setFlour_26 : decode cX12_setFlour 26 = .ok (.sipush 999, 3) := by decide +kernel
theorem dX12_setFlour_29 : decode cX12_setFlour 29 = .ok (.invokestatic 64, 3) := by decide +kernel
theorem dX12_setFlour_32 : decode cX12_setFlour 32 = .ok (.ifCond .eq 18, 3) := by decide +kernel
theorem dX12_setFlour_35 : decode cX12_setFlour 35 = .ok (.iload 4, 2) := by decide +kernel
theorem dX12_setFlour_37 : decode cX12_setFlour 37 = .ok (.iconst 0, 1) := by decide +kernel
theorem dX12_setFlour_38 : decode cX12_setFlour 38 = .ok (.bipush 100, 2) := by decide +kernel
theorem dX12_setFlour_40 : decode cX12_setFlour 40 = .ok (.invokestatic 64, 3) := by decide +kernel
theorem dX12_setFlour_43 : decode cX12_setFlour 43 = .ok (.ifCond .eq 7, 3) := by decide +kernel
theorem dX12_setFlour_46 : decode cX12_setFlour 46 = .ok (.iconst 1, 1) := by decide +kernel
theorem dX12_setFlour_47 : decode cX12_setFlour 47 = .ok (.goto 4, 3) := by decide +kernel
theorem dX12_setFlour_50 : decode cX12_setFlour 50 = .ok (.iconst 0, 1) := by decide +kernel
theorem dX12_setFlour_51 : decode cX12_setFlour 51 = .ok (.iconst 2, 1) := by decide +kernel
theorem dX12_setFlour_52 : decode cX12_setFlour 52 = .ok (.invokevirtual 60, 3) := by decide +kernel
theorem dX12_setFlour_55 : decode cX12_setFlour 55 = .ok (.ifCond .ne 5, 3) := by decide +kernel
theorem dX12_setFlour_58 : decode cX12_setFlour 58 = .ok (.iconst 0, 1) := by decide +kernel
theorem dX12_setFlour_59 : decode cX12_setFlour 59 = .ok (.ireturn, 1) := by decide +kernel
theorem dX12_setFlour_60 : decode cX12_setFlour 60 = .ok (.aload_n 0, 1) := by decide +kernel
theorem dX12_setFlour_61 : decode cX12_setFlour 61 = .ok (.invokevirtual 74, 3) := by decide +kernel
theorem dX12_setFlour_64 : decode cX12_setFlour 64 = .ok (.aload_n 0, 1) := by decide +kernel
theorem dX12_setFlour_65 : decode cX12_setFlour 65 = .ok (.getfield 9, 3) := by decide +kernel
theorem dX12_setFlour_68 : decode cX12_setFlour 68 = .ok (.sipush 251, 3) := by decide +kernel
theorem dX12_setFlour_71 : decode cX12_setFlour 71 = .ok (.iload_n 1, 1) := by decide +kernel
theorem dX12_setFlour_72 : decode cX12_setFlour 72 = .ok (.iadd, 1) := by decide +kernel
theorem dX12_setFlour_73 : decode cX12_setFlour 73 = .ok (.iaload, 1) := by decide +kernel
theorem dX12_setFlour_74 : decode cX12_setFlour 74 = .ok (.istore 5, 2) := by decide +kernel
theorem dX12_setFlour_76 : decode cX12_setFlour 76 = .ok (.aload_n 0, 1) := by decide +kernel
theorem dX12_setFlour_77 : decode cX12_setFlour 77 = .ok (.getfield 9, 3) := by decide +kernel
theorem dX12_setFlour_80 : decode cX12_setFlour 80 = .ok (.sipush 247, 3) := by decide +kernel
theorem dX12_setFlour_83 : decode cX12_setFlour 83 = .ok (.iload_n 1, 1) := by decide +kernel
theorem dX12_setFlour_84 : decode cX12_setFlour 84 = .ok (.iadd, 1) := by decide +kernel
theorem dX12_setFlour_85 : decode cX12_setFlour 85 = .ok (.iload_n 2, 1) := by decide +kernel
theorem dX12_setFlour_86 : decode cX12_setFlour 86 = .ok (.iastore, 1) := by decide +kernel
theorem dX12_setFlour_87 : decode cX12_setFlour 87 = .ok (.aload_n 0, 1) := by decide +kernel
theorem dX12_setFlour_88 : decode cX12_setFlour 88 = .ok (.getfield 9, 3) := by decide +kernel
theorem dX12_setFlour_91 : decode cX12_setFlour 91 = .ok (.sipush 251, 3) := by decide +kernel
theorem dX12_setFlour_94 : decode cX12_setFlour 94 = .ok (.iload_n 1, 1) := by decide +kernel
theorem dX12_setFlour_95 : decode cX12_setFlour 95 = .ok (.iadd, 1) := by decide +kernel
theorem dX12_setFlour_96 : decode cX12_setFlour 96 = .ok (.iload_n 3, 1) := by decide +kernel
theorem dX12_setFlour_97 : decode cX12_setFlour 97 = .ok (.iastore, 1) := by decide +kernel
theorem dX12_setFlour_98 : decode cX12_setFlour 98 = .ok (.aload_n 0, 1) := by decide +kernel
theorem dX12_setFlour_99 : decode cX12_setFlour 99 = .ok (.getfield 9, 3) := by decide +kernel
theorem dX12_setFlour_102 : decode cX12_setFlour 102 = .ok (.sipush 255, 3) := by decide +kernel
theorem dX12_setFlour_105 : decode cX12_setFlour 105 = .ok (.iload_n 1, 1) := by decide +kernel
theorem dX12_setFlour_106 : decode cX12_setFlour 106 = .ok (.iadd, 1) := by decide +kernel
theorem dX12_setFlour_107 : decode cX12_setFlour 107 = .ok (.iload 4, 2) := by decide +kernel
theorem dX12_setFlour_109 : decode cX12_setFlour 109 = .ok (.iastore, 1) := by decide +kernel
theorem dX12_setFlour_110 : decode cX12_setFlour 110 = .ok (.iload 5, 2) := by decide +kernel
theorem dX12_setFlour_112 : decode cX12_setFlour 112 = .ok (.ireturn, 1) := by decide +kernel
theorem dX12_sumOf_0 : decode cX12_sumOf 0 = .ok (.iconst 0, 1) := by decide +kernel
theorem dX12_sumOf_1 : decode cX12_sumOf 1 = .ok (.istore_n 2, 1) := by decide +kernel
theorem dX12_sumOf_2 : decode cX12_sumOf 2 = .ok (.iconst 0, 1) := by decide +kernel
theorem dX12_sumOf_3 : decode cX12_sumOf 3 = .ok (.istore_n 3, 1) := by decide +kernel
theorem dX12_sumOf_4 : decode cX12_sumOf 4 = .ok (.iload_n 3, 1) := by decide +kernel
theorem dX12_sumOf_5 : decode cX12_sumOf 5 = .ok (.iconst 4, 1) := by decide +kernel
theorem dX12_sumOf_6 : decode cX12_sumOf 6 = .ok (.if_icmp .ge 36, 3) := by decide +kernel
theorem dX12_sumOf_9 : decode cX12_sumOf 9 = .ok (.iload_n 2, 1) := by decide +kernel
theorem dX12_sumOf_10 : decode cX12_sumOf 10 = .ok (.aload_n 0, 1) := by decide +kernel
theorem dX12_sumOf_11 : decode cX12_sumOf 11 = .ok (.getfield 34, 3) := by decide +kernel
theorem dX12_sumOf_14 : decode cX12_sumOf 14 = .ok (.iload_n 3, 1) := by decide +kernel
theorem dX12_sumOf_15 : decode cX12_sumOf 15 = .ok (.iaload, 1) := by decide +kernel
theorem dX12_sumOf_16 : decode cX12_sumOf 16 = .ok (.iload_n 1, 1) := by decide +kernel
theorem dX12_sumOf_17 : decode cX12_sumOf 17 = .ok (.iconst (-1), 1) := by decide +kernel
theorem dX12_sumOf_18 : decode cX12_sumOf 18 = .ok (.if_icmp .ne 7, 3) := by decide +kernel
theorem dX12_sumOf_21 : decode cX12_sumOf 21 = .ok (.iconst 1, 1) := by decide +kernel
theorem dX12_sumOf_22 : decode cX12_sumOf 22 = .ok (.goto 11, 3) := by decide +kernel
theorem dX12_sumOf_25 : decode cX12_sumOf 25 = .ok (.aload_n 0, 1) := by decide +kernel
theorem dX12_sumOf_26 : decode cX12_sumOf 26 = .ok (.getfield 9, 3) := by decide +kernel
theorem dX12_sumOf_29 : decode cX12_sumOf 29 = .ok (.iload_n 1, 1) := by decide +kernel
theorem dX12_sumOf_30 : decode cX12_sumOf 30 = .ok (.iload_n 3, 1) := by decide +kernel
theorem dX12_sumOf_31 : decode cX12_sumOf 31 = .ok (.iadd, 1) := by decide +kernel
theorem dX12_sumOf_32 : decode cX12_sumOf 32 = .ok (.iaload, 1) := by decide +kernel
theorem dX12_sumOf_33 : decode cX12_sumOf 33 = .ok (.imul, 1) := by decide +kernel
theorem dX12_sumOf_34 : decode cX12_sumOf 34 = .ok (.iadd, 1) := by decide +kernel
theorem dX12_sumOf_35 : decode cX12_sumOf 35 = .ok (.istore_n 2, 1) := by decide +kernel
theorem dX12_sumOf_36 : decode cX12_sumOf 36 = .ok (.iinc 3 1, 3) := by decide +kernel
theorem dX12_sumOf_39 : decode cX12_sumOf 39 = .ok (.goto (-35), 3) := by decide +kernel
theorem dX12_sumOf_42 : decode cX12_sumOf 42 = .ok (.iload_n 2, 1) := by decide +kernel
theorem dX12_sumOf_43 : decode cX12_sumOf 43 = .ok (.ireturn, 1) := by decide +kernel
set_option maxRecDepth 20000 in
theorem ggX12_isMix_X12_in : GoodIn wsX12_isMix wsX12_in := goodIn_r _ [7] (by decide +kernel) (by decide +kernel)
set_option maxRecDepth 20000 in
theorem gX12_isMix_X12_in : GoodIn wsX12_isMix (va_wsS RX12 64 yX12_in wsX12_in) := goodIn_app (goodIn_of _ (by decide +kernel)) ggX12_isMix_X12_in
set_option maxRecDepth 20000 in
theorem ggX12_isMix_X12_sumOf : GoodIn wsX12_isMix wsX12_sumOf := goodIn_r _ [11, 1, 2, 12, 13, 14, 15, 16, 17, 18, 19, 20, 21, 22, 23, 24, 25, 26, 27, 28, 29, 30, 31] (by decide +kernel) (by decide +kernel)
set_option maxRecDepth 20000 in
theorem gX12_isMix_X12_sumOf : GoodIn wsX12_isMix (wsV RX12 151 RX12 yX12_sumOf wsX12_sumOf) := goodIn_app (goodIn_of _ (by decide +kernel)) ggX12_isMix_X12_sumOf
theorem dX12_isMix_0 : decode cX12_isMix 0 = .ok (.iconst 0, 1) := by decide +kernel
theorem dX12_isMix_1 : decode cX12_isMix 1 = .ok (.istore_n 3, 1) := by decide +kernel
theorem dX12_isMix_2 : decode cX12_isMix 2 = .ok (.iload_n 3, 1) := by decide +kernel
theorem dX12_isMix_3 : decode cX12_isMix 3 = .ok (.iconst 4, 1) := by decide +kernel
theorem dX12_isMix_4 : decode cX12_isMix 4 = .ok (.if_icmp .ge 39, 3) := by decide +kernel
theorem dX12_isMix_7 : decode cX12_isMix 7 = .ok (.aload_n 0, 1) := by decide +kernel
theorem dX12_isMix_8 : decode cX12_isMix 8 = .ok (.getfield 34, 3) := by decide +kernel
theorem dX12_isMix_11 : decode cX12_isMix 11 = .ok (.iload_n 3, 1) := by decide +kernel
theorem dX12_isMix_12 : decode cX12_isMix 12 = .ok (.iaload, 1) := by decide +kernel
theorem dX12_isMix_13 : decode cX12_isMix 13 = .ok (.iconst 0, 1) := by decide +kernel
theorem dX12_isMix_14 : decode cX12_isMix 14 = .ok (.aload_n 0, 1) := by decide +kernel
theorem dX12_isMix_15 : decode cX12_isMix 15 = .ok (.getfield 9, 3) := by decide +kernel
theorem dX12_isMix_18 : decode cX12_isMix 18 = .ok (.sipush 255, 3) := by decide +kernel
theorem dX12_isMix_21 : decode cX12_isMix 21 = .ok (.iload_n 3, 1) := by decide +kernel
theorem dX12_isMix_22 : decode cX12_isMix 22 = .ok (.iadd, 1) := by decide +kernel
theorem dX12_isMix_23 : decode cX12_isMix 23 = .ok (.iaload, 1) := by decide +kernel
theorem dX12_isMix_24 : decode cX12_isMix 24 = .ok (.aload_n 0, 1) := by decide +kernel
theorem dX12_isMix_25 : decode cX12_isMix 25 = .ok (.getfield 148, 3) := by decide +kernel
theorem dX12_isMix_28 : decode cX12_isMix 28 = .ok (.imul, 1) := by decide +kernel
theorem dX12_isMix_29 : decode cX12_isMix 29 = .ok (.invokestatic 64, 3) := by decide +kernel
theorem dX12_isMix_32 : decode cX12_isMix 32 = .ok (.ifCond .ne 5, 3) := by decide +kernel
theorem dX12_isMix_35 : decode cX12_isMix 35 = .ok (.iconst 0, 1) := by decide +kernel
theorem dX12_isMix_36 : decode cX12_isMix 36 = .ok (.ireturn, 1) := by decide +kernel
theorem dX12_isMix_37 : decode cX12_isMix 37 = .ok (.iinc 3 1, 3) := by decide +kernel
theorem dX12_isMix_40 : decode cX12_isMix 40 = .ok (.goto (-38), 3) := by decide +kernel
theorem dX12_isMix_43 : decode cX12_isMix 43 = .ok (.aload_n 0, 1) := by decide +kernel
theorem dX12_isMix_44 : decode cX12_isMix 44 = .ok (.iconst (-1), 1) := by decide +kernel
theorem dX12_isMix_45 : decode cX12_isMix 45 = .ok (.invokevirtual 151, 3) := by decide +kernel
theorem dX12_isMix_48 : decode cX12_isMix 48 = .ok (.bipush 100, 2) := by decide +kernel
theorem dX12_isMix_50 : decode cX12_isMix 50 = .ok (.aload_n 0, 1) := by decide +kernel
theorem dX12_isMix_51 : decode cX12_isMix 51 = .ok (.getfield 148, 3) := by decide +kernel
theorem dX12_isMix_54 : decode cX12_isMix 54 = .ok (.imul, 1) := by decide +kernel
theorem dX12_isMix_55 : decode cX12_isMix 55 = .ok (.if_icmp .ne 38, 3) := by decide +kernel
theorem dX12_isMix_58 : decode cX12_isMix 58 = .ok (.aload_n 0, 1) := by decide +kernel
theorem dX12_isMix_59 : decode cX12_isMix 59 = .ok (.sipush 247, 3) := by decide +kernel
theorem dX12_isMix_62 : decode cX12_isMix 62 = .ok (.invokevirtual 151, 3) := by decide +kernel
theorem dX12_isMix_65 : decode cX12_isMix 65 = .ok (.bipush 100, 2) := by decide +kernel
theorem dX12_isMix_67 : decode cX12_isMix 67 = .ok (.iload_n 1, 1) := by decide +kernel
theorem dX12_isMix_68 : decode cX12_isMix 68 = .ok (.imul, 1) := by decide +kernel
theorem dX12_isMix_69 : decode cX12_isMix 69 = .ok (.aload_n 0, 1) := by decide +kernel
theorem dX12_isMix_70 : decode cX12_isMix 70 = .ok (.getfield 148, 3) := by decide +kernel
theorem dX12_isMix_73 : decode cX12_isMix 73 = .ok (.imul, 1) := by decide +kernel
theorem dX12_isMix_74 : decode cX12_isMix 74 = .ok (.bipush 100, 2) := by decide +kernel
theorem dX12_isMix_76 : decode cX12_isMix 76 = .ok (.iload_n 2, 1) := by decide +kernel
theorem dX12_isMix_77 : decode cX12_isMix 77 = .ok (.imul, 1) := by decide +kernel
theorem dX12_isMix_78 : decode cX12_isMix 78 = .ok (.aload_n 0, 1) := by decide +kernel
theorem dX12_isMix_79 : decode cX12_isMix 79 = .ok (.getfield 148, 3) := by decide +kernel
theorem dX12_isMix_82 : decode cX12_isMix 82 = .ok (.imul, 1) := by decide +kernel
theorem dX12_isMix_83 : decode cX12_isMix 83 = .ok (.invokestatic 64, 3) := by decide +kernel
theorem dX12_isMix_86 : decode cX12_isMix 86 = .ok (.ifCond .eq 7, 3) := by decide +kernel
theorem dX12_isMix_89 : decode cX12_isMix 89 = .ok (.iconst 1, 1) := by decide +kernel
theorem dX12_isMix_90 : decode cX12_isMix 90 = .ok (.goto 4, 3) := by decide +kernel
theorem dX12_isMix_93 : decode cX12_isMix 93 = .ok (.iconst 0, 1) := by decide +kernel
theorem dX12_isMix_94 : decode cX12_isMix 94 = .ok (.ireturn, 1) := by decide +kernel
theorem dX12_bestCost_0 : decode cX12_bestCost 0 = .ok (.iconst 0, 1) := by decide +kernel
theorem dX12_bestCost_1 : decode cX12_bestCost 1 = .ok (.istore_n 1, 1) := by decide +kernel
theorem dX12_bestCost_2 : decode cX12_bestCost 2 = .ok (.iconst 0, 1) := by decide +kernel
theorem dX12_bestCost_3 : decode cX12_bestCost 3 = .ok (.istore_n 2, 1) := by decide +kernel
theorem dX12_bestCost_4 : decode cX12_bestCost 4 = .ok (.iload_n 2, 1) := by decide +kernel
theorem dX12_bestCost_5 : decode cX12_bestCost 5 = .ok (.iconst 4, 1) := by decide +kernel
theorem dX12_bestCost_6 : decode cX12_bestCost 6 = .ok (.if_icmp .ge 29, 3) := by decide +kernel
theorem dX12_bestCost_9 : decode cX12_bestCost 9 = .ok (.iload_n 1, 1) := by decide +kernel
theorem dX12_bestCost_10 : decode cX12_bestCost 10 = .ok (.aload_n 0, 1) := by decide +kernel
theorem dX12_bestCost_11 : decode cX12_bestCost 11 = .ok (.getfield 37, 3) := by decide +kernel
theorem dX12_bestCost_14 : decode cX12_bestCost 14 = .ok (.iload_n 2, 1) := by decide +kernel
theorem dX12_bestCost_15 : decode cX12_bestCost 15 = .ok (.iaload, 1) := by decide +kernel
theorem dX12_bestCost_16 : decode cX12_bestCost 16 = .ok (.aload_n 0, 1) := by decide +kernel
theorem dX12_bestCost_17 : decode cX12_bestCost 17 = .ok (.getfield 9, 3) := by decide +kernel
theorem dX12_bestCost_20 : decode cX12_bestCost 20 = .ok (.sipush 251, 3) := by decide +kernel
theorem dX12_bestCost_23 : decode cX12_bestCost 23 = .ok (.iload_n 2, 1) := by decide +kernel
theorem dX12_bestCost_24 : decode cX12_bestCost 24 = .ok (.iadd, 1) := by decide +kernel
theorem dX12_bestCost_25 : decode cX12_bestCost 25 = .ok (.iaload, 1) := by decide +kernel
theorem dX12_bestCost_26 : decode cX12_bestCost 26 = .ok (.imul, 1) := by decide +kernel
theorem dX12_bestCost_27 : decode cX12_bestCost 27 = .ok (.iadd, 1) := by decide +kernel
theorem dX12_bestCost_28 : decode cX12_bestCost 28 = .ok (.istore_n 1, 1) := by decide +kernel
theorem dX12_bestCost_29 : decode cX12_bestCost 29 = .ok (.iinc 2 1, 3) := by decide +kernel
theorem dX12_bestCost_32 : decode cX12_bestCost 32 = .ok (.goto (-28), 3) := by decide +kernel
theorem dX12_bestCost_35 : decode cX12_bestCost 35 = .ok (.iload_n 1, 1) := by decide +kernel
theorem dX12_bestCost_36 : decode cX12_bestCost 36 = .ok (.ireturn, 1) := by decide +kernel
set_option maxRecDepth 20000 in
theorem ggX12_isBetter_X12_sumOf : GoodIn wsX12_isBetter wsX12_sumOf := goodIn_r _ [9, 3, 10, 15, 16, 17, 18, 19, 20, 21, 22, 23, 24, 25, 26, 27, 28, 29, 30, 31, 32, 33, 34] (by decide +kernel) (by decide +kernel)
set_option maxRecDepth 20000 in
theorem gX12_isBetter_X12_sumOf : GoodIn wsX12_isBetter (wsV RX12 151 RX12 yX12_sumOf wsX12_sumOf) := goodIn_app (goodIn_of _ (by decide +kernel)) ggX12_isBetter_X12_sumOf
set_option maxRecDepth 20000 in
theorem ggX12_isBetter_X12_bestCost : GoodIn wsX12_isBetter wsX12_bestCost := goodIn_r _ [14, 4, 10, 15, 16, 17, 18, 19, 20, 21, 22, 23, 24, 25, 26, 27, 28, 29, 30, 31, 32, 33, 34] (by decide +kernel) (by decide +kernel)
set_option maxRecDepth 20000 in
theorem gX12_isBetter_X12_bestCost : GoodIn wsX12_isBetter (wsV RX12 157 RX12 yX12_bestCost wsX12_bestCost) := goodIn_app (goodIn_of _ (by decide +kernel)) ggX12_isBetter_X12_bestCost
theorem dX12_isBetter_0 : decode cX12_isBetter 0 = .ok (.aload_n 0, 1) := by decide +kernel
theorem dX12_isBetter_1 : decode cX12_isBetter 1 = .ok (.getfield 154, 3) := by decide +kernel
theorem dX12_isBetter_4 : decode cX12_isBetter 4 = .ok (.ifCond .ne 5, 3) := by decide +kernel
theorem dX12_isBetter_7 : decode cX12_isBetter 7 = .ok (.iconst 1, 1) := by decide +kernel
theorem dX12_isBetter_8 : decode cX12_isBetter 8 = .ok (.ireturn, 1) := by decide +kernel
theorem dX12_isBetter_9 : decode cX12_isBetter 9 = .ok (.aload_n 0, 1) := by decide +kernel
theorem dX12_isBetter_10 : decode cX12_isBetter 10 = .ok (.sipush 251, 3) := by decide +kernel
theorem dX12_isBetter_13 : decode cX12_isBetter 13 = .ok (.invokevirtual 151, 3) := by decide +kernel
theorem dX12_isBetter_16 : decode cX12_isBetter 16 = .ok (.i2l, 1) := by decide +kernel
theorem dX12_isBetter_17 : decode cX12_isBetter 17 = .ok (.aload_n 0, 1) := by decide +kernel
theorem dX12_isBetter_18 : decode cX12_isBetter 18 = .ok (.getfield 154, 3) := by decide +kernel
theorem dX12_isBetter_21 : decode cX12_isBetter 21 = .ok (.i2l, 1) := by decide +kernel
theorem dX12_isBetter_22 : decode cX12_isBetter 22 = .ok (.lmul, 1) := by decide +kernel
theorem dX12_isBetter_23 : decode cX12_isBetter 23 = .ok (.aload_n 0, 1) := by decide +kernel
theorem dX12_isBetter_24 : decode cX12_isBetter 24 = .ok (.invokevirtual 157, 3) := by decide +kernel
theorem dX12_isBetter_27 : decode cX12_isBetter 27 = .ok (.i2l, 1) := by decide +kernel
theorem dX12_isBetter_28 : decode cX12_isBetter 28 = .ok (.aload_n 0, 1) := by decide +kernel
theorem dX12_isBetter_29 : decode cX12_isBetter 29 = .ok (.getfield 148, 3) := by decide +kernel
theorem dX12_isBetter_32 : decode cX12_isBetter 32 = .ok (.i2l, 1) := by decide +kernel
theorem dX12_isBetter_33 : decode cX12_isBetter 33 = .ok (.lmul, 1) := by decide +kernel
theorem dX12_isBetter_34 : decode cX12_isBetter 34 = .ok (.lsub, 1) := by decide +kernel
theorem dX12_isBetter_35 : decode cX12_isBetter 35 = .ok (.lstore_n 1, 1) := by decide +kernel
theorem dX12_isBetter_36 : decode cX12_isBetter 36 = .ok (.iconst 0, 1) := by decide +kernel
theorem dX12_isBetter_37 : decode cX12_isBetter 37 = .ok (.istore_n 3, 1) := by decide +kernel
theorem dX12_isBetter_38 : decode cX12_isBetter 38 = .ok (.iload_n 3, 1) := by decide +kernel
theorem dX12_isBetter_39 : decode cX12_isBetter 39 = .ok (.iconst 4, 1) := by decide +kernel
theorem dX12_isBetter_40 : decode cX12_isBetter 40 = .ok (.if_icmp .ge 43, 3) := by decide +kernel
theorem dX12_isBetter_43 : decode cX12_isBetter 43 = .ok (.lload_n 1, 1) := by decide +kernel
theorem dX12_isBetter_44 : decode cX12_isBetter 44 = .ok (.lconst 0, 1) := by decide +kernel
theorem dX12_isBetter_45 : decode cX12_isBetter 45 = .ok (.lcmp, 1) := by decide +kernel
theorem dX12_isBetter_46 : decode cX12_isBetter 46 = .ok (.ifCond .ne 37, 3) := by decide +kernel
theorem dX12_isBetter_49 : decode cX12_isBetter 49 = .ok (.aload_n 0, 1) := by decide +kernel
theorem dX12_isBetter_50 : decode cX12_isBetter 50 = .ok (.getfield 34, 3) := by decide +kernel
theorem dX12_isBetter_53 : decode cX12_isBetter 53 = .ok (.iload_n 3, 1) := by decide +kernel
theorem dX12_isBetter_54 : decode cX12_isBetter 54 = .ok (.iaload, 1) := by decide +kernel
theorem dX12_isBetter_55 : decode cX12_isBetter 55 = .ok (.i2l, 1) := by decide +kernel
theorem dX12_isBetter_56 : decode cX12_isBetter 56 = .ok (.aload_n 0, 1) := by decide +kernel
theorem dX12_isBetter_57 : decode cX12_isBetter 57 = .ok (.getfield 154, 3) := by decide +kernel
theorem dX12_isBetter_60 : decode cX12_isBetter 60 = .ok (.i2l, 1) := by decide +kernel
theorem dX12_isBetter_61 : decode cX12_isBetter 61 = .ok (.lmul, 1) := by decide +kernel
theorem dX12_isBetter_62 : decode cX12_isBetter 62 = .ok (.aload_n 0, 1) := by decide +kernel
theorem dX12_isBetter_63 : decode cX12_isBetter 63 = .ok (.getfield 37, 3) := by decide +kernel
theorem dX12_isBetter_66 : decode cX12_isBetter 66 = .ok (.iload_n 3, 1) := by decide +kernel
theorem dX12_isBetter_67 : decode cX12_isBetter 67 = .ok (.iaload, 1) := by decide +kernel
theorem dX12_isBetter_68 : decode cX12_isBetter 68 = .ok (.i2l, 1) := by decide +kernel
theorem dX12_isBetter_69 : decode cX12_isBetter 69 = .ok (.aload_n 0, 1) := by decide +kernel
theorem dX12_isBetter_70 : decode cX12_isBetter 70 = .ok (.getfield 148, 3) := by decide +kernel
theorem dX12_isBetter_73 : decode cX12_isBetter 73 = .ok (.i2l, 1) := by decide +kernel
theorem dX12_isBetter_74 : decode cX12_isBetter 74 = .ok (.lmul, 1) := by decide +kernel
theorem dX12_isBetter_75 : decode cX12_isBetter 75 = .ok (.lsub, 1) := by decide +kernel
theorem dX12_isBetter_76 : decode cX12_isBetter 76 = .ok (.lstore_n 1, 1) := by decide +kernel
theorem dX12_isBetter_77 : decode cX12_isBetter 77 = .ok (.iinc 3 1, 3) := by decide +kernel
theorem dX12_isBetter_80 : decode cX12_isBetter 80 = .ok (.goto (-42), 3) := by decide +kernel
theorem dX12_isBetter_83 : decode cX12_isBetter 83 = .ok (.lload_n 1, 1) := by decide +kernel
theorem dX12_isBetter_84 : decode cX12_isBetter 84 = .ok (.lconst 0, 1) := by decide +kernel
theorem dX12_isBetter_85 : decode cX12_isBetter 85 = .ok (.lcmp, 1) := by decide +kernel
theorem dX12_isBetter_86 : decode cX12_isBetter 86 = .ok (.ifCond .ge 7, 3) := by decide +kernel
theorem dX12_isBetter_89 : decode cX12_isBetter 89 = .ok (.iconst 1, 1) := by decide +kernel
theorem dX12_isBetter_90 : decode cX12_isBetter 90 = .ok (.goto 4, 3) := by decide +kernel
theorem dX12_isBetter_93 : decode cX12_isBetter 93 = .ok (.iconst 0, 1) := by decide +kernel
theorem dX12_isBetter_94 : decode cX12_isBetter 94 = .ok (.ireturn, 1) := by decide +kernel
set_option maxRecDepth 20000 in
theorem ggX12_looksAt_X12_isMix : GoodIn wsX12_looksAt wsX12_isMix := goodIn_r _ [9, 2, 10, 3, 11, 12, 8, 13, 14, 15, 16, 17, 26, 27, 28, 29, 30, 31, 32, 33, 34, 35, 36, 37, 38, 39, 40, 41, 42, 43, 44, 45] (by decide +kernel) (by decide +kernel)
set_option maxRecDepth 20000 in
theorem gX12_looksAt_X12_isMix : GoodIn wsX12_looksAt (wsV RX12 160 RX12 yX12_isMix wsX12_isMix) := goodIn_app (goodIn_of _ (by decide +kernel)) ggX12_looksAt_X12_isMix
set_option maxRecDepth 20000 in
theorem ggX12_looksAt_X12_isBetter : GoodIn wsX12_looksAt wsX12_isBetter := goodIn_r _ [21, 4, 3, 2, 1, 14, 15, 16, 8, 17, 10, 22, 23, 24, 25, 26, 27, 28, 29, 30, 31, 32, 33, 34, 35, 36, 37, 38, 39, 40, 41, 42, 43, 44, 45] (by decide +kernel) (by decide +kernel)
set_option maxRecDepth 20000 in
theorem gX12_looksAt_X12_isBetter : GoodIn wsX12_looksAt (wsV RX12 163 RX12 yX12_isBetter wsX12_isBetter) := goodIn_app (goodIn_of _ (by decide +kernel)) ggX12_looksAt_X12_isBetter
theorem dX12_looksAt_0 : decode cX12_looksAt 0 = .ok (.aload_n 0, 1) := by decide +kernel
theorem dX12_looksAt_1 : decode cX12_looksAt 1 = .ok (.iload_n 1, 1) := by decide +kernel
theorem dX12_looksAt_2 : decode cX12_looksAt 2 = .ok (.iload_n 2, 1) := by decide +kernel
theorem dX12_looksAt_3 : decode cX12_looksAt 3 = .ok (.invokevirtual 160, 3) := by decide +kernel
theorem dX12_looksAt_6 : decode cX12_looksAt 6 = .ok (.ifCond .eq 43, 3) := by decide +kernel
theorem dX12_looksAt_9 : decode cX12_looksAt 9 = .ok (.aload_n 0, 1) := by decide +kernel
theorem dX12_looksAt_10 : decode cX12_looksAt 10 = .ok (.invokevirtual 163, 3) := by decide +kernel
theorem dX12_looksAt_13 : decode cX12_looksAt 13 = .ok (.ifCond .eq 36, 3) := by decide +kernel
theorem dX12_looksAt_16 : decode cX12_looksAt 16 = .ok (.iconst 0, 1) := by decide +kernel
theorem dX12_looksAt_17 : decode cX12_looksAt 17 = .ok (.istore_n 3, 1) := by decide +kernel
theorem dX12_looksAt_18 : decode cX12_looksAt 18 = .ok (.iload_n 3, 1) := by decide +kernel
theorem dX12_looksAt_19 : decode cX12_looksAt 19 = .ok (.iconst 4, 1) := by decide +kernel
theorem dX12_looksAt_20 : decode cX12_looksAt 20 = .ok (.if_icmp .ge 21, 3) := by decide +kernel
theorem dX12_looksAt_23 : decode cX12_looksAt 23 = .ok (.aload_n 0, 1) := by decide +kernel
theorem dX12_looksAt_24 : decode cX12_looksAt 24 = .ok (.getfield 37, 3) := by decide +kernel
theorem dX12_looksAt_27 : decode cX12_looksAt 27 = .ok (.iload_n 3, 1) := by decide +kernel
theorem dX12_looksAt_28 : decode cX12_looksAt 28 = .ok (.aload_n 0, 1) := by decide +kernel
theorem dX12_looksAt_29 : decode cX12_looksAt 29 = .ok (.getfield 34, 3) := by decide +kernel
theorem dX12_looksAt_32 : decode cX12_looksAt 32 = .ok (.iload_n 3, 1) := by decide +kernel
theorem dX12_looksAt_33 : decode cX12_looksAt 33 = .ok (.iaload, 1) := by decide +kernel
theorem dX12_looksAt_34 : decode cX12_looksAt 34 = .ok (.iastore, 1) := by decide +kernel
theorem dX12_looksAt_35 : decode cX12_looksAt 35 = .ok (.iinc 3 1, 3) := by decide +kernel
theorem dX12_looksAt_38 : decode cX12_looksAt 38 = .ok (.goto (-20), 3) := by decide +kernel
theorem dX12_looksAt_41 : decode cX12_looksAt 41 = .ok (.aload_n 0, 1) := by decide +kernel
theorem dX12_looksAt_42 : decode cX12_looksAt 42 = .ok (.aload_n 0, 1) := by decide +kernel
theorem dX12_looksAt_43 : decode cX12_looksAt 43 = .ok (.getfield 148, 3) := by decide +kernel
theorem dX12_looksAt_46 : decode cX12_looksAt 46 = .ok (.putfield 154, 3) := by decide +kernel
theorem dX12_looksAt_49 : decode cX12_looksAt 49 = .ok (.return_, 1) := by decide +kernel
theorem dX12_how_0 : decode cX12_how 0 = .ok (.iload_n 0, 1) := by decide +kernel
theorem dX12_how_1 : decode cX12_how 1 = .ok (.istore_n 2, 1) := by decide +kernel
theorem dX12_how_2 : decode cX12_how 2 = .ok (.iconst 0, 1) := by decide +kernel
theorem dX12_how_3 : decode cX12_how 3 = .ok (.istore_n 3, 1) := by decide +kernel
theorem dX12_how_4 : decode cX12_how 4 = .ok (.iload_n 3, 1) := by decide +kernel
theorem dX12_how_5 : decode cX12_how 5 = .ok (.iload_n 1, 1) := by decide +kernel
theorem dX12_how_6 : decode cX12_how 6 = .ok (.if_icmp .ge 13, 3) := by decide +kernel
theorem dX12_how_9 : decode cX12_how 9 = .ok (.iload_n 2, 1) := by decide +kernel
theorem dX12_how_10 : decode cX12_how 10 = .ok (.iconst 3, 1) := by decide +kernel
theorem dX12_how_11 : decode cX12_how 11 = .ok (.idiv, 1) := by decide +kernel
theorem dX12_how_12 : decode cX12_how 12 = .ok (.istore_n 2, 1) := by decide +kernel
theorem dX12_how_13 : decode cX12_how 13 = .ok (.iinc 3 1, 3) := by decide +kernel
theorem dX12_how_16 : decode cX12_how 16 = .ok (.goto (-12), 3) := by decide +kernel
theorem dX12_how_19 : decode cX12_how 19 = .ok (.iload_n 2, 1) := by decide +kernel
theorem dX12_how_20 : decode cX12_how 20 = .ok (.iconst 3, 1) := by decide +kernel
theorem dX12_how_21 : decode cX12_how 21 = .ok (.irem, 1) := by decide +kernel
theorem dX12_how_22 : decode cX12_how 22 = .ok (.ireturn, 1) := by decide +kernel
set_option maxRecDepth 20000 in
theorem ggX12_freeIn_X12_how : GoodIn wsX12_freeIn wsX12_how := goodIn_r _ [4] (by decide +kernel) (by decide +kernel)
set_option maxRecDepth 20000 in
theorem gX12_freeIn_X12_how : GoodIn wsX12_freeIn (va_wsS RX12 166 yX12_how wsX12_how) := goodIn_app (goodIn_of _ (by decide +kernel)) ggX12_freeIn_X12_how
theorem dX12_freeIn_0 : decode cX12_freeIn 0 = .ok (.iload_n 1, 1) := by decide +kernel
theorem dX12_freeIn_1 : decode cX12_freeIn 1 = .ok (.istore_n 2, 1) := by decide +kernel
theorem dX12_freeIn_2 : decode cX12_freeIn 2 = .ok (.iload_n 2, 1) := by decide +kernel
theorem dX12_freeIn_3 : decode cX12_freeIn 3 = .ok (.iconst 4, 1) := by decide +kernel
theorem dX12_freeIn_4 : decode cX12_freeIn 4 = .ok (.if_icmp .ge 20, 3) := by decide +kernel
theorem dX12_freeIn_7 : decode cX12_freeIn 7 = .ok (.iload_n 0, 1) := by decide +kernel
theorem dX12_freeIn_8 : decode cX12_freeIn 8 = .ok (.iload_n 2, 1) := by decide +kernel
theorem dX12_freeIn_9 : decode cX12_freeIn 9 = .ok (.invokestatic 166, 3) := by decide +kernel
theorem dX12_freeIn_12 : decode cX12_freeIn 12 = .ok (.iconst 2, 1) := by decide +kernel
theorem dX12_freeIn_13 : decode cX12_freeIn 13 = .ok (.if_icmp .ne 5, 3) := by decide +kernel
theorem dX12_freeIn_16 : decode cX12_freeIn 16 = .ok (.iload_n 2, 1) := by decide +kernel
theorem dX12_freeIn_17 : decode cX12_freeIn 17 = .ok (.ireturn, 1) := by decide +kernel
theorem dX12_freeIn_18 : decode cX12_freeIn 18 = .ok (.iinc 2 1, 3) := by decide +kernel
theorem dX12_freeIn_21 : decode cX12_freeIn 21 = .ok (.goto (-19), 3) := by decide +kernel
theorem dX12_freeIn_24 : decode cX12_freeIn 24 = .ok (.iconst (-1), 1) := by decide +kernel
theorem dX12_freeIn_25 : decode cX12_freeIn 25 = .ok (.ireturn, 1) := by decide +kernel
set_option maxRecDepth 20000 in
theorem ggX12_fixes_X12_how : GoodIn wsX12_fixes wsX12_how := goodIn_r _ [7] (by decide +kernel) (by decide +kernel)
set_option maxRecDepth 20000 in
theorem gX12_fixes_X12_how : GoodIn wsX12_fixes (va_wsS RX12 166 yX12_how wsX12_how) := goodIn_app (goodIn_of _ (by decide +kernel)) ggX12_fixes_X12_how
theorem dX12_fixes_0 : decode cX12_fixes 0 = .ok (.aload_n 0, 1) := by decide +kernel
theorem dX12_fixes_1 : decode cX12_fixes 1 = .ok (.iload_n 2, 1) := by decide +kernel
theorem dX12_fixes_2 : decode cX12_fixes 2 = .ok (.putfield 148, 3) := by decide +kernel
theorem dX12_fixes_5 : decode cX12_fixes 5 = .ok (.iconst 0, 1) := by decide +kernel
theorem dX12_fixes_6 : decode cX12_fixes 6 = .ok (.istore_n 3, 1) := by decide +kernel
theorem dX12_fixes_7 : decode cX12_fixes 7 = .ok (.iload_n 3, 1) := by decide +kernel
theorem dX12_fixes_8 : decode cX12_fixes 8 = .ok (.iconst 4, 1) := by decide +kernel
theorem dX12_fixes_9 : decode cX12_fixes 9 = .ok (.if_icmp .ge 40, 3) := by decide +kernel
theorem dX12_fixes_12 : decode cX12_fixes 12 = .ok (.aload_n 0, 1) := by decide +kernel
theorem dX12_fixes_13 : decode cX12_fixes 13 = .ok (.getfield 34, 3) := by decide +kernel
theorem dX12_fixes_16 : decode cX12_fixes 16 = .ok (.iload_n 3, 1) := by decide +kernel
theorem dX12_fixes_17 : decode cX12_fixes 17 = .ok (.iload_n 1, 1) := by decide +kernel
theorem dX12_fixes_18 : decode cX12_fixes 18 = .ok (.iload_n 3, 1) := by decide +kernel
theorem dX12_fixes_19 : decode cX12_fixes 19 = .ok (.invokestatic 166, 3) := by decide +kernel
theorem dX12_fixes_22 : decode cX12_fixes 22 = .ok (.iconst 1, 1) := by decide +kernel
theorem dX12_fixes_23 : decode cX12_fixes 23 = .ok (.if_icmp .ne 18, 3) := by decide +kernel
theorem dX12_fixes_26 : decode cX12_fixes 26 = .ok (.aload_n 0, 1) := by decide +kernel
theorem dX12_fixes_27 : decode cX12_fixes 27 = .ok (.getfield 9, 3) := by decide +kernel
theorem dX12_fixes_30 : decode cX12_fixes 30 = .ok (.sipush 255, 3) := by decide +kernel
theorem dX12_fixes_33 : decode cX12_fixes 33 = .ok (.iload_n 3, 1) := by decide +kernel
theorem dX12_fixes_34 : decode cX12_fixes 34 = .ok (.iadd, 1) := by decide +kernel
theorem dX12_fixes_35 : decode cX12_fixes 35 = .ok (.iaload, 1) := by decide +kernel
theorem dX12_fixes_36 : decode cX12_fixes 36 = .ok (.iload_n 2, 1) := by decide +kernel
theorem dX12_fixes_37 : decode cX12_fixes 37 = .ok (.imul, 1) := by decide +kernel
theorem dX12_fixes_38 : decode cX12_fixes 38 = .ok (.goto 4, 3) := by decide +kernel
theorem dX12_fixes_41 : decode cX12_fixes 41 = .ok (.iconst 0, 1) := by decide +kernel
theorem dX12_fixes_42 : decode cX12_fixes 42 = .ok (.iastore, 1) := by decide +kernel
theorem dX12_fixes_43 : decode cX12_fixes 43 = .ok (.iinc 3 1, 3) := by decide +kernel
theorem dX12_fixes_46 : decode cX12_fixes 46 = .ok (.goto (-39), 3) := by decide +kernel
theorem dX12_fixes_49 : decode cX12_fixes 49 = .ok (.return_, 1) := by decide +kernel
set_option maxRecDepth 20000 in
theorem ggX12_ties_X12_fixes : GoodIn wsX12_ties wsX12_fixes := goodIn_r _ [8, 3, 2, 1, 9, 10, 7, 11, 37, 38, 39, 40, 41, 42, 43, 44, 45, 46, 47, 48, 49, 50, 51, 52, 53, 54, 55, 56] (by decide +kernel) (by decide +kernel)
set_option maxRecDepth 20000 in
theorem gX12_ties_X12_fixes : GoodIn wsX12_ties (wsV RX12 169 RX12 yX12_fixes wsX12_fixes) := goodIn_app (goodIn_of _ (by decide +kernel)) ggX12_ties_X12_fixes
set_option maxRecDepth 20000 in
theorem ggX12_ties_X12_sumOf : GoodIn wsX12_ties wsX12_sumOf := goodIn_r _ [15, 2, 1, 37, 38, 39, 40, 41, 42, 43, 44, 45, 46, 47, 48, 49, 50, 51, 52, 53, 54, 55, 56] (by decide +kernel) (by decide +kernel)
set_option maxRecDepth 20000 in
theorem gX12_ties_X12_sumOf : GoodIn wsX12_ties (wsV RX12 151 RX12 yX12_sumOf wsX12_sumOf) := goodIn_app (goodIn_of _ (by decide +kernel)) ggX12_ties_X12_sumOf
set_option maxRecDepth 20000 in
theorem ggX12_ties_X12_looksAt : GoodIn wsX12_ties wsX12_looksAt := goodIn_r _ [19, 20, 2, 3, 21, 22, 23, 24, 7, 25, 1, 26, 27, 28, 12, 13, 14, 15, 29, 30, 31, 32, 33, 34, 35, 36, 37, 38, 39, 40, 41, 42, 43, 44, 45, 46, 47, 48, 49, 50, 51, 52, 53, 54, 55, 56] (by decide +kernel) (by decide +kernel)
set_option maxRecDepth 20000 in
theorem gX12_ties_X12_looksAt : GoodIn wsX12_ties (wsV RX12 172 RX12 yX12_looksAt wsX12_looksAt) := goodIn_app (goodIn_of _ (by decide +kernel)) ggX12_ties_X12_looksAt
theorem dX12_ties_0 : decode cX12_ties 0 = .ok (.aload_n 0, 1) := by decide +kernel
theorem dX12_ties_1 : decode cX12_ties 1 = .ok (.getfield 9, 3) := by decide +kernel
theorem dX12_ties_4 : decode cX12_ties 4 = .ok (.sipush 247, 3) := by decide +kernel
theorem dX12_ties_7 : decode cX12_ties 7 = .ok (.iload_n 2, 1) := by decide +kernel
theorem dX12_ties_8 : decode cX12_ties 8 = .ok (.iadd, 1) := by decide +kernel
theorem dX12_ties_9 : decode cX12_ties 9 = .ok (.iaload, 1) := by decide +kernel
theorem dX12_ties_10 : decode cX12_ties 10 = .ok (.aload_n 0, 1) := by decide +kernel
theorem dX12_ties_11 : decode cX12_ties 11 = .ok (.getfield 9, 3) := by decide +kernel
theorem dX12_ties_14 : decode cX12_ties 14 = .ok (.sipush 247, 3) := by decide +kernel
theorem dX12_ties_17 : decode cX12_ties 17 = .ok (.iload_n 3, 1) := by decide +kernel
theorem dX12_ties_18 : decode cX12_ties 18 = .ok (.iadd, 1) := by decide +kernel
theorem dX12_ties_19 : decode cX12_ties 19 = .ok (.iaload, 1) := by decide +kernel
theorem dX12_ties_20 : decode cX12_ties 20 = .ok (.isub, 1) := by decide +kernel
theorem dX12_ties_21 : decode cX12_ties 21 = .ok (.istore 7, 2) := by decide +kernel
theorem dX12_ties_23 : decode cX12_ties 23 = .ok (.iload 7, 2) := by decide +kernel
theorem dX12_ties_25 : decode cX12_ties 25 = .ok (.ifCond .ne 4, 3) := by decide +kernel
theorem dX12_ties_28 : decode cX12_ties 28 = .ok (.return_, 1) := by decide +kernel
theorem dX12_ties_29 : decode cX12_ties 29 = .ok (.aload_n 0, 1) := by decide +kernel
theorem dX12_ties_30 : decode cX12_ties 30 = .ok (.iload_n 1, 1) := by decide +kernel
theorem dX12_ties_31 : decode cX12_ties 31 = .ok (.iconst 1, 1) := by decide +kernel
theorem dX12_ties_32 : decode cX12_ties 32 = .ok (.invokevirtual 169, 3) := by decide +kernel
theorem dX12_ties_35 : decode cX12_ties 35 = .ok (.bipush 100, 2) := by decide +kernel
theorem dX12_ties_37 : decode cX12_ties 37 = .ok (.aload_n 0, 1) := by decide +kernel
theorem dX12_ties_38 : decode cX12_ties 38 = .ok (.iconst (-1), 1) := by decide +kernel
theorem dX12_ties_39 : decode cX12_ties 39 = .ok (.invokevirtual 151, 3) := by decide +kernel
theorem dX12_ties_42 : decode cX12_ties 42 = .ok (.isub, 1) := by decide +kernel
theorem dX12_ties_43 : decode cX12_ties 43 = .ok (.istore 8, 2) := by decide +kernel
theorem dX12_ties_45 : decode cX12_ties 45 = .ok (.bipush 100, 2) := by decide +kernel
theorem dX12_ties_47 : decode cX12_ties 47 = .ok (.iload 4, 2) := by decide +kernel
theorem dX12_ties_49 : decode cX12_ties 49 = .ok (.imul, 1) := by decide +kernel
theorem dX12_ties_50 : decode cX12_ties 50 = .ok (.aload_n 0, 1) := by decide +kernel
theorem dX12_ties_51 : decode cX12_ties 51 = .ok (.sipush 247, 3) := by decide +kernel
theorem dX12_ties_54 : decode cX12_ties 54 = .ok (.invokevirtual 151, 3) := by decide +kernel
theorem dX12_ties_57 : decode cX12_ties 57 = .ok (.isub, 1) := by decide +kernel
theorem dX12_ties_58 : decode cX12_ties 58 = .ok (.aload_n 0, 1) := by decide +kernel
theorem dX12_ties_59 : decode cX12_ties 59 = .ok (.getfield 9, 3) := by decide +kernel
theorem dX12_ties_62 : decode cX12_ties 62 = .ok (.sipush 247, 3) := by decide +kernel
theorem dX12_ties_65 : decode cX12_ties 65 = .ok (.iload_n 3, 1) := by decide +kernel
theorem dX12_ties_66 : decode cX12_ties 66 = .ok (.iadd, 1) := by decide +kernel
theorem dX12_ties_67 : decode cX12_ties 67 = .ok (.iaload, 1) := by decide +kernel
theorem dX12_ties_68 : decode cX12_ties 68 = .ok (.iload 8, 2) := by decide +kernel
theorem dX12_ties_70 : decode cX12_ties 70 = .ok (.imul, 1) := by decide +kernel
theorem dX12_ties_71 : decode cX12_ties 71 = .ok (.isub, 1) := by decide +kernel
theorem dX12_ties_72 : decode cX12_ties 72 = .ok (.istore 9, 2) := by decide +kernel
theorem dX12_ties_74 : decode cX12_ties 74 = .ok (.iload 7, 2) := by decide +kernel
theorem dX12_ties_76 : decode cX12_ties 76 = .ok (.ifCond .le 7, 3) := by decide +kernel
theorem dX12_ties_79 : decode cX12_ties 79 = .ok (.iconst 1, 1) := by decide +kernel
theorem dX12_ties_80 : decode cX12_ties 80 = .ok (.goto 4, 3) := by decide +kernel
theorem dX12_ties_83 : decode cX12_ties 83 = .ok (.iconst (-1), 1) := by decide +kernel
theorem dX12_ties_84 : decode cX12_ties 84 = .ok (.istore 10, 2) := by decide +kernel
theorem dX12_ties_86 : decode cX12_ties 86 = .ok (.aload_n 0, 1) := by decide +kernel
theorem dX12_ties_87 : decode cX12_ties 87 = .ok (.iload_n 1, 1) := by decide +kernel
theorem dX12_ties_88 : decode cX12_ties 88 = .ok (.iload 7, 2) := by decide +kernel
theorem dX12_ties_90 : decode cX12_ties 90 = .ok (.iload 10, 2) := by decide +kernel
theorem dX12_ties_92 : decode cX12_ties 92 = .ok (.imul, 1) := by decide +kernel
theorem dX12_ties_93 : decode cX12_ties 93 = .ok (.invokevirtual 169, 3) := by decide +kernel
theorem dX12_ties_96 : decode cX12_ties 96 = .ok (.aload_n 0, 1) := by decide +kernel
theorem dX12_ties_97 : decode cX12_ties 97 = .ok (.getfield 34, 3) := by decide +kernel
theorem dX12_ties_100 : decode cX12_ties 100 = .ok (.iload_n 2, 1) := by decide +kernel
theorem dX12_ties_101 : decode cX12_ties 101 = .ok (.iload 9, 2) := by decide +kernel
theorem dX12_ties_103 : decode cX12_ties 103 = .ok (.iload 10, 2) := by decide +kernel
theorem dX12_ties_105 : decode cX12_ties 105 = .ok (.imul, 1) := by decide +kernel
theorem dX12_ties_106 : decode cX12_ties 106 = .ok (.iastore, 1) := by decide +kernel
theorem dX12_ties_107 : decode cX12_ties 107 = .ok (.aload_n 0, 1) := by decide +kernel
theorem dX12_ties_108 : decode cX12_ties 108 = .ok (.getfield 34, 3) := by decide +kernel
theorem dX12_ties_111 : decode cX12_ties 111 = .ok (.iload_n 3, 1) := by decide +kernel
theorem dX12_ties_112 : decode cX12_ties 112 = .ok (.iload 8, 2) := by decide +kernel
theorem dX12_ties_114 : decode cX12_ties 114 = .ok (.aload_n 0, 1) := by decide +kernel
theorem dX12_ties_115 : decode cX12_ties 115 = .ok (.getfield 148, 3) := by decide +kernel
theorem dX12_ties_118 : decode cX12_ties 118 = .ok (.imul, 1) := by decide +kernel
theorem dX12_ties_119 : decode cX12_ties 119 = .ok (.aload_n 0, 1) := by decide +kernel
theorem dX12_ties_120 : decode cX12_ties 120 = .ok (.getfield 34, 3) := by decide +kernel
theorem dX12_ties_123 : decode cX12_ties 123 = .ok (.iload_n 2, 1) := by decide +kernel
theorem dX12_ties_124 : decode cX12_ties 124 = .ok (.iaload, 1) := by decide +kernel
theorem dX12_ties_125 : decode cX12_ties 125 = .ok (.isub, 1) := by decide +kernel
theorem dX12_ties_126 : decode cX12_ties 126 = .ok (.iastore, 1) := by decide +kernel
theorem dX12_ties_127 : decode cX12_ties 127 = .ok (.aload_n 0, 1) := by decide +kernel
theorem dX12_ties_128 : decode cX12_ties 128 = .ok (.iload 5, 2) := by decide +kernel
theorem dX12_ties_130 : decode cX12_ties 130 = .ok (.iload 6, 2) := by decide +kernel
theorem dX12_ties_132 : decode cX12_ties 132 = .ok (.invokevirtual 172, 3) := by decide +kernel
theorem dX12_ties_135 : decode cX12_ties 135 = .ok (.return_, 1) := by decide +kernel
set_option maxRecDepth 20000 in
theorem ggX12_corner_X12_freeIn : GoodIn wsX12_corner wsX12_freeIn := goodIn_r _ [5, 6, 7, 4, 8] (by decide +kernel) (by decide +kernel)
set_option maxRecDepth 20000 in
theorem gX12_corner_X12_freeIn : GoodIn wsX12_corner (va_wsS RX12 175 yX12_freeIn wsX12_freeIn) := goodIn_app (goodIn_of _ (by decide +kernel)) ggX12_corner_X12_freeIn
set_option maxRecDepth 20000 in
theorem ggX12_corner_X12_ties : GoodIn wsX12_corner wsX12_ties := goodIn_r _ [12, 13, 1, 14, 15, 16, 17, 4, 18, 6, 7, 8, 19, 20, 21, 22, 23, 24, 25, 26, 27, 28, 29, 30, 31, 32, 33, 34, 35, 36, 37, 38, 39, 40, 41, 42, 43, 44, 45, 46, 47, 48, 49, 50, 51, 52, 53, 54, 55, 56, 57, 58, 59, 60, 61, 62, 63] (by decide +kernel) (by decide +kernel)
set_option maxRecDepth 20000 in
theorem gX12_corner_X12_ties : GoodIn wsX12_corner (wsV RX12 178 RX12 yX12_ties wsX12_ties) := goodIn_app (goodIn_of _ (by decide +kernel)) ggX12_corner_X12_ties
set_option maxRecDepth 20000 in
theorem ggX12_corner_X12_fixes : GoodIn wsX12_corner wsX12_fixes := goodIn_r _ [18, 14, 1, 13, 6, 7, 4, 8, 44, 45, 46, 47, 48, 49, 50, 51, 52, 53, 54, 55, 56, 57, 58, 59, 60, 61, 62, 63] (by decide +kernel) (by decide +kernel)
set_option maxRecDepth 20000 in
theorem gX12_corner_X12_fixes : GoodIn wsX12_corner (wsV RX12 169 RX12 yX12_fixes wsX12_fixes) := goodIn_app (goodIn_of _ (by decide +kernel)) ggX12_corner_X12_fixes
set_option maxRecDepth 20000 in
theorem ggX12_corner_X12_sumOf : GoodIn wsX12_corner wsX12_sumOf := goodIn_r _ [22, 1, 13, 44, 45, 46, 47, 48, 49, 50, 51, 52, 53, 54, 55, 56, 57, 58, 59, 60, 61, 62, 63] (by decide +kernel) (by decide +kernel)
set_option maxRecDepth 20000 in
theorem gX12_corner_X12_sumOf : GoodIn wsX12_corner (wsV RX12 151 RX12 yX12_sumOf wsX12_sumOf) := goodIn_app (goodIn_of _ (by decide +kernel)) ggX12_corner_X12_sumOf
set_option maxRecDepth 20000 in
theorem ggX12_corner_X12_looksAt : GoodIn wsX12_corner wsX12_looksAt := goodIn_r _ [26, 27, 1, 14, 28, 29, 30, 31, 4, 32, 13, 33, 34, 35, 19, 20, 21, 22, 36, 37, 38, 39, 40, 41, 42, 43, 44, 45, 46, 47, 48, 49, 50, 51, 52, 53, 54, 55, 56, 57, 58, 59, 60, 61, 62, 63] (by decide +kernel) (by decide +kernel)
set_option maxRecDepth 20000 in
theorem gX12_corner_X12_looksAt : GoodIn wsX12_corner (wsV RX12 172 RX12 yX12_looksAt wsX12_looksAt) := goodIn_app (goodIn_of _ (by decide +kernel)) ggX12_corner_X12_looksAt
theorem dX12_corner_0 : decode cX12_corner 0 = .ok (.iload_n 1, 1) := by decide +kernel
theorem dX12_corner_1 : decode cX12_corner 1 = .ok (.iconst 0, 1) := by decide +kernel
theorem dX12_corner_2 : decode cX12_corner 2 = .ok (.invokestatic 175, 3) := by decide +kernel
theorem dX12_corner_5 : decode cX12_corner 5 = .ok (.istore 4, 2) := by decide +kernel
theorem dX12_corner_7 : decode cX12_corner 7 = .ok (.iload 4, 2) := by decide +kernel
theorem dX12_corner_9 : decode cX12_corner 9 = .ok (.iconst (-1), 1) := by decide +kernel
theorem dX12_corner_10 : decode cX12_corner 10 = .ok (.if_icmp .ne 7, 3) := by decide +kernel
theorem dX12_corner_13 : decode cX12_corner 13 = .ok (.iconst (-1), 1) := by decide +kernel
theorem dX12_corner_14 : decode cX12_corner 14 = .ok (.goto 11, 3) := by decide +kernel
theorem dX12_corner_17 : decode cX12_corner 17 = .ok (.iload_n 1, 1) := by decide +kernel
theorem dX12_corner_18 : decode cX12_corner 18 = .ok (.iload 4, 2) := by decide +kernel
theorem dX12_corner_20 : decode cX12_corner 20 = .ok (.iconst 1, 1) := by decide +kernel
theorem dX12_corner_21 : decode cX12_corner 21 = .ok (.iadd, 1) := by decide +kernel
theorem dX12_corner_22 : decode cX12_corner 22 = .ok (.invokestatic 175, 3) := by decide +kernel
theorem dX12_corner_25 : decode cX12_corner 25 = .ok (.istore 5, 2) := by decide +kernel
theorem dX12_corner_27 : decode cX12_corner 27 = .ok (.iload 5, 2) := by decide +kernel
theorem dX12_corner_29 : decode cX12_corner 29 = .ok (.iconst (-1), 1) := by decide +kernel
theorem dX12_corner_30 : decode cX12_corner 30 = .ok (.if_icmp .eq 16, 3) := by decide +kernel
theorem dX12_corner_33 : decode cX12_corner 33 = .ok (.iload_n 1, 1) := by decide +kernel
theorem dX12_corner_34 : decode cX12_corner 34 = .ok (.iload 5, 2) := by decide +kernel
theorem dX12_corner_36 : decode cX12_corner 36 = .ok (.iconst 1, 1) := by decide +kernel
theorem dX12_corner_37 : decode cX12_corner 37 = .ok (.iadd, 1) := by decide +kernel
theorem dX12_corner_38 : decode cX12_corner 38 = .ok (.invokestatic 175, 3) := by decide +kernel
theorem dX12_corner_41 : decode cX12_corner 41 = .ok (.iconst (-1), 1) := by decide +kernel
theorem dX12_corner_42 : decode cX12_corner 42 = .ok (.if_icmp .eq 4, 3) := by decide +kernel
theorem dX12_corner_45 : decode cX12_corner 45 = .ok (.return_, 1) := by decide +kernel
theorem dX12_corner_46 : decode cX12_corner 46 = .ok (.iload 5, 2) := by decide +kernel
theorem dX12_corner_48 : decode cX12_corner 48 = .ok (.iconst (-1), 1) := by decide +kernel
theorem dX12_corner_49 : decode cX12_corner 49 = .ok (.if_icmp .eq 28, 3) := by decide +kernel
theorem dX12_corner_52 : decode cX12_corner 52 = .ok (.aload_n 0, 1) := by decide +kernel
theorem dX12_corner_53 : decode cX12_corner 53 = .ok (.iload_n 1, 1) := by decide +kernel
theorem dX12_corner_54 : decode cX12_corner 54 = .ok (.iload 4, 2) := by decide +kernel
theorem dX12_corner_56 : decode cX12_corner 56 = .ok (.iload 5, 2) := by decide +kernel
theorem dX12_corner_58 : decode cX12_corner 58 = .ok (.iload_n 2, 1) := by decide +kernel
theorem dX12_corner_59 : decode cX12_corner 59 = .ok (.iload_n 2, 1) := by decide +kernel
theorem dX12_corner_60 : decode cX12_corner 60 = .ok (.iload_n 3, 1) := by decide +kernel
theorem dX12_corner_61 : decode cX12_corner 61 = .ok (.invokevirtual 178, 3) := by decide +kernel
theorem dX12_corner_64 : decode cX12_corner 64 = .ok (.aload_n 0, 1) := by decide +kernel
theorem dX12_corner_65 : decode cX12_corner 65 = .ok (.iload_n 1, 1) := by decide +kernel
theorem dX12_corner_66 : decode cX12_corner 66 = .ok (.iload 4, 2) := by decide +kernel
theorem dX12_corner_68 : decode cX12_corner 68 = .ok (.iload 5, 2) := by decide +kernel
theorem dX12_corner_70 : decode cX12_corner 70 = .ok (.iload_n 3, 1) := by decide +kernel
theorem dX12_corner_71 : decode cX12_corner 71 = .ok (.iload_n 2, 1) := by decide +kernel
theorem dX12_corner_72 : decode cX12_corner 72 = .ok (.iload_n 3, 1) := by decide +kernel
theorem dX12_corner_73 : decode cX12_corner 73 = .ok (.invokevirtual 178, 3) := by decide +kernel
theorem dX12_corner_76 : decode cX12_corner 76 = .ok (.return_, 1) := by decide +kernel
theorem dX12_corner_77 : decode cX12_corner 77 = .ok (.aload_n 0, 1) := by decide +kernel
theorem dX12_corner_78 : decode cX12_corner 78 = .ok (.iload_n 1, 1) := by decide +kernel
theorem dX12_corner_79 : decode cX12_corner 79 = .ok (.iconst 1, 1) := by decide +kernel
theorem dX12_corner_80 : decode cX12_corner 80 = .ok (.invokevirtual 169, 3) := by decide +kernel
theorem dX12_corner_83 : decode cX12_corner 83 = .ok (.iload 4, 2) := by decide +kernel
theorem dX12_corner_85 : decode cX12_corner 85 = .ok (.iconst (-1), 1) := by decide +kernel
theorem dX12_corner_86 : decode cX12_corner 86 = .ok (.if_icmp .eq 18, 3) := by decide +kernel
theorem dX12_corner_89 : decode cX12_corner 89 = .ok (.aload_n 0, 1) := by decide +kernel
theorem dX12_corner_90 : decode cX12_corner 90 = .ok (.getfield 34, 3) := by decide +kernel
theorem dX12_corner_93 : decode cX12_corner 93 = .ok (.iload 4, 2) := by decide +kernel
theorem dX12_corner_95 : decode cX12_corner 95 = .ok (.bipush 100, 2) := by decide +kernel
theorem dX12_corner_97 : decode cX12_corner 97 = .ok (.aload_n 0, 1) := by decide +kernel
theorem dX12_corner_98 : decode cX12_corner 98 = .ok (.iconst (-1), 1) := by decide +kernel
theorem dX12_corner_99 : decode cX12_corner 99 = .ok (.invokevirtual 151, 3) := by decide +kernel
theorem dX12_corner_102 : decode cX12_corner 102 = .ok (.isub, 1) := by decide +kernel
theorem dX12_corner_103 : decode cX12_corner 103 = .ok (.iastore, 1) := by decide +kernel
theorem dX12_corner_104 : decode cX12_corner 104 = .ok (.aload_n 0, 1) := by decide +kernel
theorem dX12_corner_105 : decode cX12_corner 105 = .ok (.iload_n 2, 1) := by decide +kernel
theorem dX12_corner_106 : decode cX12_corner 106 = .ok (.iload_n 3, 1) := by decide +kernel
theorem dX12_corner_107 : decode cX12_corner 107 = .ok (.invokevirtual 172, 3) := by decide +kernel
theorem dX12_corner_110 : decode cX12_corner 110 = .ok (.return_, 1) := by decide +kernel
set_option maxRecDepth 20000 in
theorem ggX12_mixes_X12_corner : GoodIn wsX12_mixes wsX12_corner := goodIn_r _ [6, 7, 8, 9, 5, 10, 11, 12, 13, 14, 15, 16, 17, 18, 19, 20, 21, 22, 23, 24, 25, 26, 27, 28, 29, 30, 31, 32, 1, 33, 34, 35, 36, 37, 38, 39, 40, 41, 42, 43, 44, 45, 46, 47, 48, 49, 50, 51, 52, 53, 54, 55, 56, 57, 58, 59, 60, 61, 62, 63, 64, 65, 66, 67] (by decide +kernel) (by decide +kernel)
set_option maxRecDepth 20000 in
theorem gX12_mixes_X12_corner : GoodIn wsX12_mixes (wsV RX12 182 RX12 yX12_corner wsX12_corner) := goodIn_app (goodIn_of _ (by decide +kernel)) ggX12_mixes_X12_corner
theorem dX12_mixes_0 : decode cX12_mixes 0 = .ok (.aload_n 0, 1) := by decide +kernel
theorem dX12_mixes_1 : decode cX12_mixes 1 = .ok (.iconst 0, 1) := by decide +kernel
theorem dX12_mixes_2 : decode cX12_mixes 2 = .ok (.putfield 154, 3) := by decide +kernel
theorem dX12_mixes_5 : decode cX12_mixes 5 = .ok (.iconst 0, 1) := by decide +kernel
theorem dX12_mixes_6 : decode cX12_mixes 6 = .ok (.istore_n 3, 1) := by decide +kernel
theorem dX12_mixes_7 : decode cX12_mixes 7 = .ok (.iload_n 3, 1) := by decide +kernel
theorem dX12_mixes_8 : decode cX12_mixes 8 = .ok (.bipush 81, 2) := by decide +kernel
theorem dX12_mixes_10 : decode cX12_mixes 10 = .ok (.if_icmp .ge 16, 3) := by decide +kernel
theorem dX12_mixes_13 : decode cX12_mixes 13 = .ok (.aload_n 0, 1) := by decide +kernel
theorem dX12_mixes_14 : decode cX12_mixes 14 = .ok (.iload_n 3, 1) := by decide +kernel
theorem dX12_mixes_15 : decode cX12_mixes 15 = .ok (.iload_n 1, 1) := by decide +kernel
theorem dX12_mixes_16 : decode cX12_mixes 16 = .ok (.iload_n 2, 1) := by decide +kernel
theorem dX12_mixes_17 : decode cX12_mixes 17 = .ok (.invokevirtual 182, 3) := by decide +kernel
theorem dX12_mixes_20 : decode cX12_mixes 20 = .ok (.iinc 3 1, 3) := by decide +kernel
theorem dX12_mixes_23 : decode cX12_mixes 23 = .ok (.goto (-16), 3) := by decide +kernel
theorem dX12_mixes_26 : decode cX12_mixes 26 = .ok (.aload_n 0, 1) := by decide +kernel
theorem dX12_mixes_27 : decode cX12_mixes 27 = .ok (.getfield 154, 3) := by decide +kernel
theorem dX12_mixes_30 : decode cX12_mixes 30 = .ok (.ifCond .le 7, 3) := by decide +kernel
theorem dX12_mixes_33 : decode cX12_mixes 33 = .ok (.iconst 1, 1) := by decide +kernel
theorem dX12_mixes_34 : decode cX12_mixes 34 = .ok (.goto 4, 3) := by decide +kernel
theorem dX12_mixes_37 : decode cX12_mixes 37 = .ok (.iconst 0, 1) := by decide +kernel
theorem dX12_mixes_38 : decode cX12_mixes 38 = .ok (.ireturn, 1) := by decide +kernel
theorem dX12_common_0 : decode cX12_common 0 = .ok (.iload_n 0, 1) := by decide +kernel
theorem dX12_common_1 : decode cX12_common 1 = .ok (.istore_n 2, 1) := by decide +kernel
theorem dX12_common_2 : decode cX12_common 2 = .ok (.iload_n 1, 1) := by decide +kernel
theorem dX12_common_3 : decode cX12_common 3 = .ok (.istore_n 3, 1) := by decide +kernel
theorem dX12_common_4 : decode cX12_common 4 = .ok (.iload_n 3, 1) := by decide +kernel
theorem dX12_common_5 : decode cX12_common 5 = .ok (.ifCond .eq 16, 3) := by decide +kernel
theorem dX12_common_8 : decode cX12_common 8 = .ok (.iload_n 2, 1) := by decide +kernel
theorem dX12_common_9 : decode cX12_common 9 = .ok (.iload_n 3, 1) := by decide +kernel
theorem dX12_common_10 : decode cX12_common 10 = .ok (.irem, 1) := by decide +kernel
theorem dX12_common_11 : decode cX12_common 11 = .ok (.istore 4, 2) := by decide +kernel
theorem dX12_common_13 : decode cX12_common 13 = .ok (.iload_n 3, 1) := by decide +kernel
theorem dX12_common_14 : decode cX12_common 14 = .ok (.istore_n 2, 1) := by decide +kernel
theorem dX12_common_15 : decode cX12_common 15 = .ok (.iload 4, 2) := by decide +kernel
theorem dX12_common_17 : decode cX12_common 17 = .ok (.istore_n 3, 1) := by decide +kernel
theorem dX12_common_18 : decode cX12_common 18 = .ok (.goto (-14), 3) := by decide +kernel
theorem dX12_common_21 : decode cX12_common 21 = .ok (.iload_n 2, 1) := by decide +kernel
theorem dX12_common_22 : decode cX12_common 22 = .ok (.ireturn, 1) := by decide +kernel
set_option maxRecDepth 20000 in
theorem ggX12_fraction_X12_common : GoodIn wsX12_fraction wsX12_common := goodIn_r _ [4] (by decide +kernel) (by decide +kernel)
set_option maxRecDepth 20000 in
theorem gX12_fraction_X12_common : GoodIn wsX12_fraction (va_wsS RX12 186 yX12_common wsX12_common) := goodIn_app (goodIn_of _ (by decide +kernel)) ggX12_fraction_X12_common
theorem dX12_fraction_0 : decode cX12_fraction 0 = .ok (.iload_n 1, 1) := by decide +kernel
theorem dX12_fraction_1 : decode cX12_fraction 1 = .ok (.iload_n 0, 1) := by decide +kernel
theorem dX12_fraction_2 : decode cX12_fraction 2 = .ok (.invokestatic 186, 3) := by decide +kernel
theorem dX12_fraction_5 : decode cX12_fraction 5 = .ok (.istore_n 3, 1) := by decide +kernel
theorem dX12_fraction_6 : decode cX12_fraction 6 = .ok (.iload_n 2, 1) := by decide +kernel
theorem dX12_fraction_7 : decode cX12_fraction 7 = .ok (.ifCond .eq 9, 3) := by decide +kernel
theorem dX12_fraction_10 : decode cX12_fraction 10 = .ok (.iload_n 1, 1) := by decide +kernel
theorem dX12_fraction_11 : decode cX12_fraction 11 = .ok (.iload_n 3, 1) := by decide +kernel
theorem dX12_fraction_12 : decode cX12_fraction 12 = .ok (.idiv, 1) := by decide +kernel
theorem dX12_fraction_13 : decode cX12_fraction 13 = .ok (.goto 6, 3) := by decide +kernel
theorem dX12_fraction_16 : decode cX12_fraction 16 = .ok (.iload_n 0, 1) := by decide +kernel
theorem dX12_fraction_17 : decode cX12_fraction 17 = .ok (.iload_n 3, 1) := by decide +kernel
theorem dX12_fraction_18 : decode cX12_fraction 18 = .ok (.idiv, 1) := by decide +kernel
theorem dX12_fraction_19 : decode cX12_fraction 19 = .ok (.ireturn, 1) := by decide +kernel
set_option maxRecDepth 20000 in
theorem ggX12_areBounds_X12_in : GoodIn wsX12_areBounds wsX12_in := goodIn_r _ [4] (by decide +kernel) (by decide +kernel)
set_option maxRecDepth 20000 in
theorem gX12_areBounds_X12_in : GoodIn wsX12_areBounds (va_wsS RX12 64 yX12_in wsX12_in) := goodIn_app (goodIn_of _ (by decide +kernel)) ggX12_areBounds_X12_in
theorem dX12_areBounds_0 : decode cX12_areBounds 0 = .ok (.iload_n 0, 1) := by decide +kernel
theorem dX12_areBounds_1 : decode cX12_areBounds 1 = .ok (.iconst 0, 1) := by decide +kernel
theorem dX12_areBounds_2 : decode cX12_areBounds 2 = .ok (.sipush 200, 3) := by decide +kernel
theorem dX12_areBounds_5 : decode cX12_areBounds 5 = .ok (.invokestatic 64, 3) := by decide +kernel
theorem dX12_areBounds_8 : decode cX12_areBounds 8 = .ok (.ifCond .eq 18, 3) := by decide +kernel
theorem dX12_areBounds_11 : decode cX12_areBounds 11 = .ok (.iload_n 1, 1) := by decide +kernel
theorem dX12_areBounds_12 : decode cX12_areBounds 12 = .ok (.iload_n 0, 1) := by decide +kernel
theorem dX12_areBounds_13 : decode cX12_areBounds 13 = .ok (.sipush 200, 3) := by decide +kernel
theorem dX12_areBounds_16 : decode cX12_areBounds 16 = .ok (.invokestatic 64, 3) := by decide +kernel
theorem dX12_areBounds_19 : decode cX12_areBounds 19 = .ok (.ifCond .eq 7, 3) := by decide +kernel
theorem dX12_areBounds_22 : decode cX12_areBounds 22 = .ok (.iconst 1, 1) := by decide +kernel
theorem dX12_areBounds_23 : decode cX12_areBounds 23 = .ok (.goto 4, 3) := by decide +kernel
theorem dX12_areBounds_26 : decode cX12_areBounds 26 = .ok (.iconst 0, 1) := by decide +kernel
theorem dX12_areBounds_27 : decode cX12_areBounds 27 = .ok (.ireturn, 1) := by decide +kernel
set_option maxRecDepth 20000 in
theorem ggX12_mixCost_X12_areBounds : GoodIn wsX12_mixCost wsX12_areBounds := goodIn_r _ [5, 6, 7, 4, 8] (by decide +kernel) (by decide +kernel)
set_option maxRecDepth 20000 in
theorem gX12_mixCost_X12_areBounds : GoodIn wsX12_mixCost (va_wsS RX12 189 yX12_areBounds wsX12_areBounds) := goodIn_app (goodIn_of _ (by decide +kernel)) ggX12_mixCost_X12_areBounds
set_option maxRecDepth 20000 in
theorem ggX12_mixCost_X12_can : GoodIn wsX12_mixCost wsX12_can := goodIn_r _ [12, 13, 66, 67, 68, 69, 70, 71, 72, 73, 74, 75, 76, 77, 78, 79, 80, 81, 82, 83, 84, 85] (by decide +kernel) (by decide +kernel)
set_option maxRecDepth 20000 in
theorem gX12_mixCost_X12_can : GoodIn wsX12_mixCost (wsV RX12 60 RX12 yX12_can wsX12_can) := goodIn_app (goodIn_of _ (by decide +kernel)) ggX12_mixCost_X12_can
set_option maxRecDepth 20000 in
theorem ggX12_mixCost_X12_mixes : GoodIn wsX12_mixCost wsX12_mixes := goodIn_r _ [17, 1, 18, 19, 20, 4, 21, 22, 23, 24, 25, 26, 27, 28, 29, 30, 31, 32, 33, 34, 35, 36, 37, 38, 39, 40, 41, 42, 43, 44, 45, 46, 47, 48, 49, 50, 51, 6, 7, 8, 52, 53, 54, 55, 56, 57, 58, 59, 66, 67, 68, 69, 70, 71, 72, 73, 74, 75, 76, 77, 78, 79, 80, 81, 82, 83, 84, 85] (by decide +kernel) (by decide +kernel)
set_option maxRecDepth 20000 in
theorem gX12_mixCost_X12_mixes : GoodIn wsX12_mixCost (wsV RX12 192 RX12 yX12_mixes wsX12_mixes) := goodIn_app (goodIn_of _ (by decide +kernel)) ggX12_mixCost_X12_mixes
set_option maxRecDepth 20000 in
theorem ggX12_mixCost_X12_bestCost : GoodIn wsX12_mixCost wsX12_bestCost := goodIn_r _ [59, 47, 33, 66, 67, 68, 69, 70, 71, 72, 73, 74, 75, 76, 77, 78, 79, 80, 81, 82, 83, 84, 85] (by decide +kernel) (by decide +kernel)
set_option maxRecDepth 20000 in
theorem gX12_mixCost_X12_bestCost : GoodIn wsX12_mixCost (wsV RX12 157 RX12 yX12_bestCost wsX12_bestCost) := goodIn_app (goodIn_of _ (by decide +kernel)) ggX12_mixCost_X12_bestCost
set_option maxRecDepth 20000 in
theorem ggX12_mixCost_X12_fraction : GoodIn wsX12_mixCost wsX12_fraction := goodIn_r _ [62, 63, 64, 4, 65] (by decide +kernel) (by decide +kernel)
set_option maxRecDepth 20000 in
theorem gX12_mixCost_X12_fraction : GoodIn wsX12_mixCost (va_wsS RX12 195 yX12_fraction wsX12_fraction) := goodIn_app (goodIn_of _ (by decide +kernel)) ggX12_mixCost_X12_fraction
theorem dX12_mixCost_0 : decode cX12_mixCost 0 = .ok (.aload_n 0, 1) := by decide +kernel
theorem dX12_mixCost_1 : decode cX12_mixCost 1 = .ok (.iload_n 1, 1) := by decide +kernel
theorem dX12_mixCost_2 : decode cX12_mixCost 2 = .ok (.iload_n 2, 1) := by decide +kernel
theorem dX12_mixCost_3 : decode cX12_mixCost 3 = .ok (.invokestatic 189, 3) := by decide +kernel
theorem dX12_mixCost_6 : decode cX12_mixCost 6 = .ok (.iconst 1, 1) := by decide +kernel
theorem dX12_mixCost_7 : decode cX12_mixCost 7 = .ok (.invokevirtual 60, 3) := by decide +kernel
theorem dX12_mixCost_10 : decode cX12_mixCost 10 = .ok (.ifCond .eq 17, 3) := by decide +kernel
theorem dX12_mixCost_13 : decode cX12_mixCost 13 = .ok (.aload_n 0, 1) := by decide +kernel
theorem dX12_mixCost_14 : decode cX12_mixCost 14 = .ok (.aload_n 0, 1) := by decide +kernel
theorem dX12_mixCost_15 : decode cX12_mixCost 15 = .ok (.iload_n 1, 1) := by decide +kernel
theorem dX12_mixCost_16 : decode cX12_mixCost 16 = .ok (.iload_n 2, 1) := by decide +kernel
theorem dX12_mixCost_17 : decode cX12_mixCost 17 = .ok (.invokevirtual 192, 3) := by decide +kernel
theorem dX12_mixCost_20 : decode cX12_mixCost 20 = .ok (.iconst 2, 1) := by decide +kernel
theorem dX12_mixCost_21 : decode cX12_mixCost 21 = .ok (.invokevirtual 60, 3) := by decide +kernel
theorem dX12_mixCost_24 : decode cX12_mixCost 24 = .ok (.ifCond .ne 5, 3) := by decide +kernel
theorem dX12_mixCost_27 : decode cX12_mixCost 27 = .ok (.iconst 0, 1) := by decide +kernel
theorem dX12_mixCost_28 : decode cX12_mixCost 28 = .ok (.ireturn, 1) := by decide +kernel
theorem dX12_mixCost_29 : decode cX12_mixCost 29 = .ok (.aload_n 0, 1) := by decide +kernel
theorem dX12_mixCost_30 : decode cX12_mixCost 30 = .ok (.invokevirtual 157, 3) := by decide +kernel
theorem dX12_mixCost_33 : decode cX12_mixCost 33 = .ok (.bipush 100, 2) := by decide +kernel
theorem dX12_mixCost_35 : decode cX12_mixCost 35 = .ok (.aload_n 0, 1) := by decide +kernel
theorem dX12_mixCost_36 : decode cX12_mixCost 36 = .ok (.getfield 154, 3) := by decide +kernel
theorem dX12_mixCost_39 : decode cX12_mixCost 39 = .ok (.imul, 1) := by decide +kernel
theorem dX12_mixCost_40 : decode cX12_mixCost 40 = .ok (.iload_n 3, 1) := by decide +kernel
theorem dX12_mixCost_41 : decode cX12_mixCost 41 = .ok (.invokestatic 195, 3) := by decide +kernel
theorem dX12_mixCost_44 : decode cX12_mixCost 44 = .ok (.ireturn, 1) := by decide +kernel
set_option maxRecDepth 20000 in
theorem ggX12_mixShare_X12_isFlour : GoodIn wsX12_mixShare wsX12_isFlour := goodIn_r _ [6, 7, 8, 5, 9] (by decide +kernel) (by decide +kernel)
set_option maxRecDepth 20000 in
theorem gX12_mixShare_X12_isFlour : GoodIn wsX12_mixShare (va_wsS RX12 145 yX12_isFlour wsX12_isFlour) := goodIn_app (goodIn_of _ (by decide +kernel)) ggX12_mixShare_X12_isFlour
set_option maxRecDepth 20000 in
theorem ggX12_mixShare_X12_can : GoodIn wsX12_mixShare wsX12_can := goodIn_r _ [13, 14, 69, 70, 71, 72, 73, 74, 75, 76, 77, 78, 79, 80, 81, 82, 83, 84, 85, 86, 87, 88] (by decide +kernel) (by decide +kernel)
set_option maxRecDepth 20000 in
theorem gX12_mixShare_X12_can : GoodIn wsX12_mixShare (wsV RX12 60 RX12 yX12_can wsX12_can) := goodIn_app (goodIn_of _ (by decide +kernel)) ggX12_mixShare_X12_can
set_option maxRecDepth 20000 in
theorem ggX12_mixShare_X12_areBounds : GoodIn wsX12_mixShare wsX12_areBounds := goodIn_r _ [17, 7, 8, 5, 9] (by decide +kernel) (by decide +kernel)
set_option maxRecDepth 20000 in
theorem gX12_mixShare_X12_areBounds : GoodIn wsX12_mixShare (va_wsS RX12 189 yX12_areBounds wsX12_areBounds) := goodIn_app (goodIn_of _ (by decide +kernel)) ggX12_mixShare_X12_areBounds
set_option maxRecDepth 20000 in
theorem ggX12_mixShare_X12_mixes : GoodIn wsX12_mixShare wsX12_mixes := goodIn_r _ [21, 2, 22, 23, 24, 5, 25, 26, 27, 28, 29, 30, 31, 32, 33, 34, 35, 36, 37, 38, 39, 40, 41, 42, 43, 44, 45, 46, 47, 48, 49, 50, 1, 51, 52, 53, 54, 7, 8, 9, 55, 56, 57, 58, 59, 60, 61, 62, 69, 70, 71, 72, 73, 74, 75, 76, 77, 78, 79, 80, 81, 82, 83, 84, 85, 86, 87, 88] (by decide +kernel) (by decide +kernel)
set_option maxRecDepth 20000 in
theorem gX12_mixShare_X12_mixes : GoodIn wsX12_mixShare (wsV RX12 192 RX12 yX12_mixes wsX12_mixes) := goodIn_app (goodIn_of _ (by decide +kernel)) ggX12_mixShare_X12_mixes
set_option maxRecDepth 20000 in
theorem ggX12_mixShare_X12_fraction : GoodIn wsX12_mixShare wsX12_fraction := goodIn_r _ [65, 66, 67, 5, 68] (by decide +kernel) (by decide +kernel)
set_option maxRecDepth 20000 in
theorem gX12_mixShare_X12_fraction : GoodIn wsX12_mixShare (va_wsS RX12 195 yX12_fraction wsX12_fraction) := goodIn_app (goodIn_of _ (by decide +kernel)) ggX12_mixShare_X12_fraction
theorem dX12_mixShare_0 : decode cX12_mixShare 0 = .ok (.aload_n 0, 1) := by decide +kernel
theorem dX12_mixShare_1 : decode cX12_mixShare 1 = .ok (.iload_n 3, 1) := by decide +kernel
theorem dX12_mixShare_2 : decode cX12_mixShare 2 = .ok (.invokestatic 145, 3) := by decide +kernel
theorem dX12_mixShare_5 : decode cX12_mixShare 5 = .ok (.iconst 1, 1) := by decide +kernel
theorem dX12_mixShare_6 : decode cX12_mixShare 6 = .ok (.invokevirtual 60, 3) := by decide +kernel
theorem dX12_mixShare_9 : decode cX12_mixShare 9 = .ok (.ifCond .eq 30, 3) := by decide +kernel
theorem dX12_mixShare_12 : decode cX12_mixShare 12 = .ok (.aload_n 0, 1) := by decide +kernel
theorem dX12_mixShare_13 : decode cX12_mixShare 13 = .ok (.iload_n 1, 1) := by decide +kernel
theorem dX12_mixShare_14 : decode cX12_mixShare 14 = .ok (.iload_n 2, 1) := by decide +kernel
theorem dX12_mixShare_15 : decode cX12_mixShare 15 = .ok (.invokestatic 189, 3) := by decide +kernel
theorem dX12_mixShare_18 : decode cX12_mixShare 18 = .ok (.iconst 2, 1) := by decide +kernel
theorem dX12_mixShare_19 : decode cX12_mixShare 19 = .ok (.invokevirtual 60, 3) := by decide +kernel
theorem dX12_mixShare_22 : decode cX12_mixShare 22 = .ok (.ifCond .eq 17, 3) := by decide +kernel
theorem dX12_mixShare_25 : decode cX12_mixShare 25 = .ok (.aload_n 0, 1) := by decide +kernel
theorem dX12_mixShare_26 : decode cX12_mixShare 26 = .ok (.aload_n 0, 1) := by decide +kernel
theorem dX12_mixShare_27 : decode cX12_mixShare 27 = .ok (.iload_n 1, 1) := by decide +kernel
theorem dX12_mixShare_28 : decode cX12_mixShare 28 = .ok (.iload_n 2, 1) := by decide +kernel
theorem dX12_mixShare_29 : decode cX12_mixShare 29 = .ok (.invokevirtual 192, 3) := by decide +kernel
theorem dX12_mixShare_32 : decode cX12_mixShare 32 = .ok (.iconst 3, 1) := by decide +kernel
theorem dX12_mixShare_33 : decode cX12_mixShare 33 = .ok (.invokevirtual 60, 3) := by decide +kernel
theorem dX12_mixShare_36 : decode cX12_mixShare 36 = .ok (.ifCond .ne 5, 3) := by decide +kernel
theorem dX12_mixShare_39 : decode cX12_mixShare 39 = .ok (.iconst 0, 1) := by decide +kernel
theorem dX12_mixShare_40 : decode cX12_mixShare 40 = .ok (.ireturn, 1) := by decide +kernel
theorem dX12_mixShare_41 : decode cX12_mixShare 41 = .ok (.aload_n 0, 1) := by decide +kernel
theorem dX12_mixShare_42 : decode cX12_mixShare 42 = .ok (.getfield 37, 3) := by decide +kernel
theorem dX12_mixShare_45 : decode cX12_mixShare 45 = .ok (.iload_n 3, 1) := by decide +kernel
theorem dX12_mixShare_46 : decode cX12_mixShare 46 = .ok (.iaload, 1) := by decide +kernel
theorem dX12_mixShare_47 : decode cX12_mixShare 47 = .ok (.bipush 100, 2) := by decide +kernel
theorem dX12_mixShare_49 : decode cX12_mixShare 49 = .ok (.aload_n 0, 1) := by decide +kernel
theorem dX12_mixShare_50 : decode cX12_mixShare 50 = .ok (.getfield 154, 3) := by decide +kernel
theorem dX12_mixShare_53 : decode cX12_mixShare 53 = .ok (.imul, 1) := by decide +kernel
theorem dX12_mixShare_54 : decode cX12_mixShare 54 = .ok (.iload 4, 2) := by decide +kernel
theorem dX12_mixShare_56 : decode cX12_mixShare 56 = .ok (.invokestatic 195, 3) := by decide +kernel
theorem dX12_mixShare_59 : decode cX12_mixShare 59 = .ok (.ireturn, 1) := by decide +kernel
set_option maxRecDepth 20000 in
theorem ggX12_note_X12_isRecipe : GoodIn wsX12_note wsX12_isRecipe := goodIn_r _ [6, 1, 7, 8, 5, 9, 26, 27, 28, 29, 30, 31, 32, 33, 34, 35, 36, 37, 38, 39, 40, 41, 42, 43, 44, 45] (by decide +kernel) (by decide +kernel)
set_option maxRecDepth 20000 in
theorem gX12_note_X12_isRecipe : GoodIn wsX12_note (wsV RX12 77 RX12 yX12_isRecipe wsX12_isRecipe) := goodIn_app (goodIn_of _ (by decide +kernel)) ggX12_note_X12_isRecipe
set_option maxRecDepth 20000 in
theorem ggX12_note_X12_can : GoodIn wsX12_note wsX12_can := goodIn_r _ [13, 14, 26, 27, 28, 29, 30, 31, 32, 33, 34, 35, 36, 37, 38, 39, 40, 41, 42, 43, 44, 45] (by decide +kernel) (by decide +kernel)
set_option maxRecDepth 20000 in
theorem gX12_note_X12_can : GoodIn wsX12_note (wsV RX12 60 RX12 yX12_can wsX12_can) := goodIn_app (goodIn_of _ (by decide +kernel)) ggX12_note_X12_can
set_option maxRecDepth 20000 in
theorem ggX12_note_X12_in : GoodIn wsX12_note wsX12_in := goodIn_r _ [9] (by decide +kernel) (by decide +kernel)
set_option maxRecDepth 20000 in
theorem gX12_note_X12_in : GoodIn wsX12_note (va_wsS RX12 64 yX12_in wsX12_in) := goodIn_app (goodIn_of _ (by decide +kernel)) ggX12_note_X12_in
set_option maxRecDepth 20000 in
theorem ggX12_note_X12_keep : GoodIn wsX12_note wsX12_keep := goodIn_r _ [18, 19, 20, 21, 1, 22, 23, 24, 5, 25, 26, 27, 28, 29, 30, 31, 32, 33, 34, 35, 36, 37, 38, 39, 40, 41, 42, 43, 44, 45] (by decide +kernel) (by decide +kernel)
set_option maxRecDepth 20000 in
theorem gX12_note_X12_keep : GoodIn wsX12_note (wsV RX12 74 RX12 yX12_keep wsX12_keep) := goodIn_app (goodIn_of _ (by decide +kernel)) ggX12_note_X12_keep
theorem dX12_note_0 : decode cX12_note 0 = .ok (.aload_n 0, 1) := by decide +kernel
theorem dX12_note_1 : decode cX12_note 1 = .ok (.aload_n 0, 1) := by decide +kernel
theorem dX12_note_2 : decode cX12_note 2 = .ok (.iload_n 1, 1) := by decide +kernel
theorem dX12_note_3 : decode cX12_note 3 = .ok (.invokevirtual 77, 3) := by decide +kernel
theorem dX12_note_6 : decode cX12_note 6 = .ok (.iconst 1, 1) := by decide +kernel
theorem dX12_note_7 : decode cX12_note 7 = .ok (.invokevirtual 60, 3) := by decide +kernel
theorem dX12_note_10 : decode cX12_note 10 = .ok (.ifCond .eq 46, 3) := by decide +kernel
theorem dX12_note_13 : decode cX12_note 13 = .ok (.aload_n 0, 1) := by decide +kernel
theorem dX12_note_14 : decode cX12_note 14 = .ok (.iload_n 2, 1) := by decide +kernel
theorem dX12_note_15 : decode cX12_note 15 = .ok (.iconst 0, 1) := by decide +kernel
theorem dX12_note_16 : decode cX12_note 16 = .ok (.bipush 99, 2) := by decide +kernel
theorem dX12_note_18 : decode cX12_note 18 = .ok (.invokestatic 64, 3) := by decide +kernel
theorem dX12_note_21 : decode cX12_note 21 = .ok (.iconst 2, 1) := by decide +kernel
theorem dX12_note_22 : decode cX12_note 22 = .ok (.invokevirtual 60, 3) := by decide +kernel
theorem dX12_note_25 : decode cX12_note 25 = .ok (.ifCond .eq 31, 3) := by decide +kernel
theorem dX12_note_28 : decode cX12_note 28 = .ok (.aload_n 0, 1) := by decide +kernel
theorem dX12_note_29 : decode cX12_note 29 = .ok (.aload_n 0, 1) := by decide +kernel
theorem dX12_note_30 : decode cX12_note 30 = .ok (.getfield 9, 3) := by decide +kernel
theorem dX12_note_33 : decode cX12_note 33 = .ok (.sipush 259, 3) := by decide +kernel
theorem dX12_note_36 : decode cX12_note 36 = .ok (.iload_n 1, 1) := by decide +kernel
theorem dX12_note_37 : decode cX12_note 37 = .ok (.iadd, 1) := by decide +kernel
theorem dX12_note_38 : decode cX12_note 38 = .ok (.iaload, 1) := by decide +kernel
theorem dX12_note_39 : decode cX12_note 39 = .ok (.bipush 60, 2) := by decide +kernel
theorem dX12_note_41 : decode cX12_note 41 = .ok (.if_icmp .ge 7, 3) := by decide +kernel
theorem dX12_note_44 : decode cX12_note 44 = .ok (.iconst 1, 1) := by decide +kernel
theorem dX12_note_45 : decode cX12_note 45 = .ok (.goto 4, 3) := by decide +kernel
theorem dX12_note_48 : decode cX12_note 48 = .ok (.iconst 0, 1) := by decide +kernel
theorem dX12_note_49 : decode cX12_note 49 = .ok (.iconst 3, 1) := by decide +kernel
theorem dX12_note_50 : decode cX12_note 50 = .ok (.invokevirtual 60, 3) := by decide +kernel
theorem dX12_note_53 : decode cX12_note 53 = .ok (.ifCond .ne 5, 3) := by decide +kernel
theorem dX12_note_56 : decode cX12_note 56 = .ok (.iconst 0, 1) := by decide +kernel
theorem dX12_note_57 : decode cX12_note 57 = .ok (.ireturn, 1) := by decide +kernel
theorem dX12_note_58 : decode cX12_note 58 = .ok (.aload_n 0, 1) := by decide +kernel
theorem dX12_note_59 : decode cX12_note 59 = .ok (.invokevirtual 74, 3) := by decide +kernel
theorem dX12_note_62 : decode cX12_note 62 = .ok (.aload_n 0, 1) := by decide +kernel
theorem dX12_note_63 : decode cX12_note 63 = .ok (.getfield 9, 3) := by decide +kernel
theorem dX12_note_66 : decode cX12_note 66 = .ok (.sipush 265, 3) := by decide +kernel
theorem dX12_note_69 : decode cX12_note 69 = .ok (.bipush 60, 2) := by decide +kernel
theorem dX12_note_71 : decode cX12_note 71 = .ok (.iload_n 1, 1) := by decide +kernel
theorem dX12_note_72 : decode cX12_note 72 = .ok (.imul, 1) := by decide +kernel
theorem dX12_note_73 : decode cX12_note 73 = .ok (.iadd, 1) := by decide +kernel
theorem dX12_note_74 : decode cX12_note 74 = .ok (.aload_n 0, 1) := by decide +kernel
theorem dX12_note_75 : decode cX12_note 75 = .ok (.getfield 9, 3) := by decide +kernel
theorem dX12_note_78 : decode cX12_note 78 = .ok (.sipush 259, 3) := by decide +kernel
theorem dX12_note_81 : decode cX12_note 81 = .ok (.iload_n 1, 1) := by decide +kernel
theorem dX12_note_82 : decode cX12_note 82 = .ok (.iadd, 1) := by decide +kernel
theorem dX12_note_83 : decode cX12_note 83 = .ok (.iaload, 1) := by decide +kernel
theorem dX12_note_84 : decode cX12_note 84 = .ok (.iadd, 1) := by decide +kernel
theorem dX12_note_85 : decode cX12_note 85 = .ok (.iload_n 2, 1) := by decide +kernel
theorem dX12_note_86 : decode cX12_note 86 = .ok (.iastore, 1) := by decide +kernel
theorem dX12_note_87 : decode cX12_note 87 = .ok (.aload_n 0, 1) := by decide +kernel
theorem dX12_note_88 : decode cX12_note 88 = .ok (.getfield 9, 3) := by decide +kernel
theorem dX12_note_91 : decode cX12_note 91 = .ok (.sipush 259, 3) := by decide +kernel
theorem dX12_note_94 : decode cX12_note 94 = .ok (.iload_n 1, 1) := by decide +kernel
theorem dX12_note_95 : decode cX12_note 95 = .ok (.iadd, 1) := by decide +kernel
theorem dX12_note_96 : decode cX12_note 96 = .ok (.dup2, 1) := by decide +kernel
theorem dX12_note_97 : decode cX12_note 97 = .ok (.iaload, 1) := by decide +kernel
theorem dX12_note_98 : decode cX12_note 98 = .ok (.iconst 1, 1) := by decide +kernel
theorem dX12_note_99 : decode cX12_note 99 = .ok (.iadd, 1) := by decide +kernel
theorem dX12_note_100 : decode cX12_note 100 = .ok (.iastore, 1) := by decide +kernel
theorem dX12_note_101 : decode cX12_note 101 = .ok (.aload_n 0, 1) := by decide +kernel
theorem dX12_note_102 : decode cX12_note 102 = .ok (.getfield 9, 3) := by decide +kernel
theorem dX12_note_105 : decode cX12_note 105 = .ok (.sipush 259, 3) := by decide +kernel
theorem dX12_note_108 : decode cX12_note 108 = .ok (.iload_n 1, 1) := by decide +kernel
theorem dX12_note_109 : decode cX12_note 109 = .ok (.iadd, 1) := by decide +kernel
theorem dX12_note_110 : decode cX12_note 110 = .ok (.iaload, 1) := by decide +kernel
theorem dX12_note_111 : decode cX12_note 111 = .ok (.ireturn, 1) := by decide +kernel
theorem dX12_lossOf_0 : decode cX12_lossOf 0 = .ok (.iconst 0, 1) := by decide +kernel
theorem dX12_lossOf_1 : decode cX12_lossOf 1 = .ok (.istore 5, 2) := by decide +kernel
theorem dX12_lossOf_3 : decode cX12_lossOf 3 = .ok (.iconst 0, 1) := by decide +kernel
theorem dX12_lossOf_4 : decode cX12_lossOf 4 = .ok (.istore 6, 2) := by decide +kernel
theorem dX12_lossOf_6 : decode cX12_lossOf 6 = .ok (.iload 6, 2) := by decide +kernel
theorem dX12_lossOf_8 : decode cX12_lossOf 8 = .ok (.aload_n 0, 1) := by decide +kernel
theorem dX12_lossOf_9 : decode cX12_lossOf 9 = .ok (.getfield 9, 3) := by decide +kernel
theorem dX12_lossOf_12 : decode cX12_lossOf 12 = .ok (.sipush 259, 3) := by decide +kernel
theorem dX12_lossOf_15 : decode cX12_lossOf 15 = .ok (.iload_n 1, 1) := by decide +kernel
theorem dX12_lossOf_16 : decode cX12_lossOf 16 = .ok (.iadd, 1) := by decide +kernel
theorem dX12_lossOf_17 : decode cX12_lossOf 17 = .ok (.iaload, 1) := by decide +kernel
theorem dX12_lossOf_18 : decode cX12_lossOf 18 = .ok (.if_icmp .ge 52, 3) := by decide +kernel
theorem dX12_lossOf_21 : decode cX12_lossOf 21 = .ok (.iload_n 2, 1) := by decide +kernel
theorem dX12_lossOf_22 : decode cX12_lossOf 22 = .ok (.aload_n 0, 1) := by decide +kernel
theorem dX12_lossOf_23 : decode cX12_lossOf 23 = .ok (.getfield 9, 3) := by decide +kernel
theorem dX12_lossOf_26 : decode cX12_lossOf 26 = .ok (.sipush 265, 3) := by decide +kernel
theorem dX12_lossOf_29 : decode cX12_lossOf 29 = .ok (.bipush 60, 2) := by decide +kernel
theorem dX12_lossOf_31 : decode cX12_lossOf 31 = .ok (.iload_n 1, 1) := by decide +kernel
theorem dX12_lossOf_32 : decode cX12_lossOf 32 = .ok (.imul, 1) := by decide +kernel
theorem dX12_lossOf_33 : decode cX12_lossOf 33 = .ok (.iadd, 1) := by decide +kernel
theorem dX12_lossOf_34 : decode cX12_lossOf 34 = .ok (.iload 6, 2) := by decide +kernel
theorem dX12_lossOf_36 : decode cX12_lossOf 36 = .ok (.iadd, 1) := by decide +kernel
theorem dX12_lossOf_37 : decode cX12_lossOf 37 = .ok (.iaload, 1) := by decide +kernel
theorem dX12_lossOf_38 : decode cX12_lossOf 38 = .ok (.isub, 1) := by decide +kernel
theorem dX12_lossOf_39 : decode cX12_lossOf 39 = .ok (.istore 7, 2) := by decide +kernel
theorem dX12_lossOf_41 : decode cX12_lossOf 41 = .ok (.iload 5, 2) := by decide +kernel
theorem dX12_lossOf_43 : decode cX12_lossOf 43 = .ok (.iload 7, 2) := by decide +kernel
theorem dX12_lossOf_45 : decode cX12_lossOf 45 = .ok (.ifCond .le 10, 3) := by decide +kernel
theorem dX12_lossOf_48 : decode cX12_lossOf 48 = .ok (.iload_n 3, 1) := by decide +kernel
theorem dX12_lossOf_49 : decode cX12_lossOf 49 = .ok (.iload 7, 2) := by decide +kernel
theorem dX12_lossOf_51 : decode cX12_lossOf 51 = .ok (.imul, 1) := by decide +kernel
theorem dX12_lossOf_52 : decode cX12_lossOf 52 = .ok (.goto 9, 3) := by decide +kernel
theorem dX12_lossOf_55 : decode cX12_lossOf 55 = .ok (.iload 4, 2) := by decide +kernel
theorem dX12_lossOf_57 : decode cX12_lossOf 57 = .ok (.iload 7, 2) := by decide +kernel
theorem dX12_lossOf_59 : decode cX12_lossOf 59 = .ok (.ineg, 1) := by decide +kernel
theorem dX12_lossOf_60 : decode cX12_lossOf 60 = .ok (.imul, 1) := by decide +kernel
theorem dX12_lossOf_61 : decode cX12_lossOf 61 = .ok (.iadd, 1) := by decide +kernel
theorem dX12_lossOf_62 : decode cX12_lossOf 62 = .ok (.istore 5, 2) := by decide +kernel
theorem dX12_lossOf_64 : decode cX12_lossOf 64 = .ok (.iinc 6 1, 3) := by decide +kernel
theorem dX12_lossOf_67 : decode cX12_lossOf 67 = .ok (.goto (-61), 3) := by decide +kernel
theorem dX12_lossOf_70 : decode cX12_lossOf 70 = .ok (.iload 5, 2) := by decide +kernel
theorem dX12_lossOf_72 : decode cX12_lossOf 72 = .ok (.ireturn, 1) := by decide +kernel
set_option maxRecDepth 20000 in
theorem ggX12_bestNumber_X12_isRecipe : GoodIn wsX12_bestNumber wsX12_isRecipe := goodIn_r _ [6, 1, 7, 8, 5, 9, 19, 20, 21, 22, 23, 24, 25, 26, 27, 28, 29, 30, 31, 32, 33, 34, 35, 36, 37, 38] (by decide +kernel) (by decide +kernel)
set_option maxRecDepth 20000 in
theorem gX12_bestNumber_X12_isRecipe : GoodIn wsX12_bestNumber (wsV RX12 77 RX12 yX12_isRecipe wsX12_isRecipe) := goodIn_app (goodIn_of _ (by decide +kernel)) ggX12_bestNumber_X12_isRecipe
set_option maxRecDepth 20000 in
theorem ggX12_bestNumber_X12_can : GoodIn wsX12_bestNumber wsX12_can := goodIn_r _ [13, 14, 19, 20, 21, 22, 23, 24, 25, 26, 27, 28, 29, 30, 31, 32, 33, 34, 35, 36, 37, 38] (by decide +kernel) (by decide +kernel)
set_option maxRecDepth 20000 in
theorem gX12_bestNumber_X12_can : GoodIn wsX12_bestNumber (wsV RX12 60 RX12 yX12_can wsX12_can) := goodIn_app (goodIn_of _ (by decide +kernel)) ggX12_bestNumber_X12_can
set_option maxRecDepth 20000 in
theorem ggX12_bestNumber_X12_in : GoodIn wsX12_bestNumber wsX12_in := goodIn_r _ [9] (by decide +kernel) (by decide +kernel)
set_option maxRecDepth 20000 in
theorem gX12_bestNumber_X12_in : GoodIn wsX12_bestNumber (va_wsS RX12 64 yX12_in wsX12_in) := goodIn_app (goodIn_of _ (by decide +kernel)) ggX12_bestNumber_X12_in
set_option maxRecDepth 20000 in
theorem ggX12_bestNumber_X12_lossOf : GoodIn wsX12_bestNumber wsX12_lossOf := goodIn_r _ [18, 1, 19, 20, 21, 22, 23, 24, 25, 26, 27, 28, 29, 30, 31, 32, 33, 34, 35, 36, 37, 38] (by decide +kernel) (by decide +kernel)
set_option maxRecDepth 20000 in
theorem gX12_bestNumber_X12_lossOf : GoodIn wsX12_bestNumber (wsV RX12 199 RX12 yX12_lossOf wsX12_lossOf) := goodIn_app (goodIn_of _ (by decide +kernel)) ggX12_bestNumber_X12_lossOf
theorem dX12_bestNumber_0 : decode cX12_bestNumber 0 = .ok (.aload_n 0, 1) := by decide +kernel
theorem dX12_bestNumber_1 : decode cX12_bestNumber 1 = .ok (.aload_n 0, 1) := by decide +kernel
theorem dX12_bestNumber_2 : decode cX12_bestNumber 2 = .ok (.iload_n 1, 1) := by decide +kernel
theorem dX12_bestNumber_3 : decode cX12_bestNumber 3 = .ok (.invokevirtual 77, 3) := by decide +kernel
theorem dX12_bestNumber_6 : decode cX12_bestNumber 6 = .ok (.iconst 1, 1) := by decide +kernel
theorem dX12_bestNumber_7 : decode cX12_bestNumber 7 = .ok (.invokevirtual 60, 3) := by decide +kernel
theorem dX12_bestNumber_10 : decode cX12_bestNumber 10 = .ok (.ifCond .eq 62, 3) := by decide +kernel
theorem dX12_bestNumber_13 : decode cX12_bestNumber 13 = .ok (.aload_n 0, 1) := by decide +kernel
theorem dX12_bestNumber_14 : decode cX12_bestNumber 14 = .ok (.iload_n 2, 1) := by decide +kernel
theorem dX12_bestNumber_15 : decode cX12_bestNumber 15 = .ok (.iconst 0, 1) := by decide +kernel
theorem dX12_bestNumber_16 : decode cX12_bestNumber 16 = .ok (.bipush 99, 2) := by decide +kernel
theorem dX12_bestNumber_18 : decode cX12_bestNumber 18 = .ok (.invokestatic 64, 3) := by decide +kernel
theorem dX12_bestNumber_21 : decode cX12_bestNumber 21 = .ok (.ifCond .eq 17, 3) := by decide +kernel
theorem dX12_bestNumber_24 : decode cX12_bestNumber 24 = .ok (.iload_n 3, 1) := by decide +kernel
theorem dX12_bestNumber_25 : decode cX12_bestNumber 25 = .ok (.iconst 0, 1) := by decide +kernel
theorem dX12_bestNumber_26 : decode cX12_bestNumber 26 = .ok (.bipush 99, 2) := by decide +kernel
theorem dX12_bestNumber_28 : decode cX12_bestNumber 28 = .ok (.invokestatic 64, 3) := by decide +kernel
theorem dX12_bestNumber_31 : decode cX12_bestNumber 31 = .ok (.ifCond .eq 7, 3) := by decide +kernel
theorem dX12_bestNumber_34 : decode cX12_bestNumber 34 = .ok (.iconst 1, 1) := by decide +kernel
theorem dX12_bestNumber_35 : decode cX12_bestNumber 35 = .ok (.goto 4, 3) := by decide +kernel
theorem dX12_bestNumber_38 : decode cX12_bestNumber 38 = .ok (.iconst 0, 1) := by decide +kernel
theorem dX12_bestNumber_39 : decode cX12_bestNumber 39 = .ok (.iconst 2, 1) := by decide +kernel
theorem dX12_bestNumber_40 : decode cX12_bestNumber 40 = .ok (.invokevirtual 60, 3) := by decide +kernel
theorem dX12_bestNumber_43 : decode cX12_bestNumber 43 = .ok (.ifCond .eq 29, 3) := by decide +kernel
theorem dX12_bestNumber_46 : decode cX12_bestNumber 46 = .ok (.aload_n 0, 1) := by decide +kernel
theorem dX12_bestNumber_47 : decode cX12_bestNumber 47 = .ok (.aload_n 0, 1) := by decide +kernel
theorem dX12_bestNumber_48 : decode cX12_bestNumber 48 = .ok (.getfield 9, 3) := by decide +kernel
theorem dX12_bestNumber_51 : decode cX12_bestNumber 51 = .ok (.sipush 259, 3) := by decide +kernel
theorem dX12_bestNumber_54 : decode cX12_bestNumber 54 = .ok (.iload_n 1, 1) := by decide +kernel
theorem dX12_bestNumber_55 : decode cX12_bestNumber 55 = .ok (.iadd, 1) := by decide +kernel
theorem dX12_bestNumber_56 : decode cX12_bestNumber 56 = .ok (.iaload, 1) := by decide +kernel
theorem dX12_bestNumber_57 : decode cX12_bestNumber 57 = .ok (.ifCond .le 7, 3) := by decide +kernel
theorem dX12_bestNumber_60 : decode cX12_bestNumber 60 = .ok (.iconst 1, 1) := by decide +kernel
theorem dX12_bestNumber_61 : decode cX12_bestNumber 61 = .ok (.goto 4, 3) := by decide +kernel
theorem dX12_bestNumber_64 : decode cX12_bestNumber 64 = .ok (.iconst 0, 1) := by decide +kernel
theorem dX12_bestNumber_65 : decode cX12_bestNumber 65 = .ok (.iconst 3, 1) := by decide +kernel
theorem dX12_bestNumber_66 : decode cX12_bestNumber 66 = .ok (.invokevirtual 60, 3) := by decide +kernel
theorem dX12_bestNumber_69 : decode cX12_bestNumber 69 = .ok (.ifCond .ne 5, 3) := by decide +kernel
theorem dX12_bestNumber_72 : decode cX12_bestNumber 72 = .ok (.iconst 0, 1) := by decide +kernel
theorem dX12_bestNumber_73 : decode cX12_bestNumber 73 = .ok (.ireturn, 1) := by decide +kernel
theorem dX12_bestNumber_74 : decode cX12_bestNumber 74 = .ok (.iconst 0, 1) := by decide +kernel
theorem dX12_bestNumber_75 : decode cX12_bestNumber 75 = .ok (.istore 4, 2) := by decide +kernel
theorem dX12_bestNumber_77 : decode cX12_bestNumber 77 = .ok (.iconst 1, 1) := by decide +kernel
theorem dX12_bestNumber_78 : decode cX12_bestNumber 78 = .ok (.istore 5, 2) := by decide +kernel
theorem dX12_bestNumber_80 : decode cX12_bestNumber 80 = .ok (.iload 5, 2) := by decide +kernel
theorem dX12_bestNumber_82 : decode cX12_bestNumber 82 = .ok (.bipush 100, 2) := by decide +kernel
theorem dX12_bestNumber_84 : decode cX12_bestNumber 84 = .ok (.if_icmp .ge 39, 3) := by decide +kernel
theorem dX12_bestNumber_87 : decode cX12_bestNumber 87 = .ok (.aload_n 0, 1) := by decide +kernel
theorem dX12_bestNumber_88 : decode cX12_bestNumber 88 = .ok (.iload_n 1, 1) := by decide +kernel
theorem dX12_bestNumber_89 : decode cX12_bestNumber 89 = .ok (.iload 5, 2) := by decide +kernel
theorem dX12_bestNumber_91 : decode cX12_bestNumber 91 = .ok (.iload_n 2, 1) := by decide +kernel
theorem dX12_bestNumber_92 : decode cX12_bestNumber 92 = .ok (.iload_n 3, 1) := by decide +kernel
theorem dX12_bestNumber_93 : decode cX12_bestNumber 93 = .ok (.invokevirtual 199, 3) := by decide +kernel
theorem dX12_bestNumber_96 : decode cX12_bestNumber 96 = .ok (.aload_n 0, 1) := by decide +kernel
theorem dX12_bestNumber_97 : decode cX12_bestNumber 97 = .ok (.iload_n 1, 1) := by decide +kernel
theorem dX12_bestNumber_98 : decode cX12_bestNumber 98 = .ok (.iload 4, 2) := by decide +kernel
theorem dX12_bestNumber_100 : decode cX12_bestNumber 100 = .ok (.iload_n 2, 1) := by decide +kernel
theorem dX12_bestNumber_101 : decode cX12_bestNumber 101 = .ok (.iload_n 3, 1) := by decide +kernel
theorem dX12_bestNumber_102 : decode cX12_bestNumber 102 = .ok (.invokevirtual 199, 3) := by decide +kernel
theorem dX12_bestNumber_105 : decode cX12_bestNumber 105 = .ok (.if_icmp .ge 8, 3) := by decide +kernel
theorem dX12_bestNumber_108 : decode cX12_bestNumber 108 = .ok (.iload 5, 2) := by decide +kernel
theorem dX12_bestNumber_110 : decode cX12_bestNumber 110 = .ok (.goto 5, 3) := by decide +kernel
theorem dX12_bestNumber_113 : decode cX12_bestNumber 113 = .ok (.iload 4, 2) := by decide +kernel
theorem dX12_bestNumber_115 : decode cX12_bestNumber 115 = .ok (.istore 4, 2) := by decide +kernel
theorem dX12_bestNumber_117 : decode cX12_bestNumber 117 = .ok (.iinc 5 1, 3) := by decide +kernel
theorem dX12_bestNumber_120 : decode cX12_bestNumber 120 = .ok (.goto (-40), 3) := by decide +kernel
theorem dX12_bestNumber_123 : decode cX12_bestNumber 123 = .ok (.iload 4, 2) := by decide +kernel
theorem dX12_bestNumber_125 : decode cX12_bestNumber 125 = .ok (.ireturn, 1) := by decide +kernel
set_option maxRecDepth 20000 in
theorem ggX12_loss_X12_isRecipe : GoodIn wsX12_loss wsX12_isRecipe := goodIn_r _ [5, 6, 7, 8, 4, 9, 19, 20, 21, 22, 23, 24, 25, 26, 27, 28, 29, 30, 31, 32, 33, 34, 35, 36, 37, 38] (by decide +kernel) (by decide +kernel)
set_option maxRecDepth 20000 in
theorem gX12_loss_X12_isRecipe : GoodIn wsX12_loss (wsV RX12 77 RX12 yX12_isRecipe wsX12_isRecipe) := goodIn_app (goodIn_of _ (by decide +kernel)) ggX12_loss_X12_isRecipe
set_option maxRecDepth 20000 in
theorem ggX12_loss_X12_can : GoodIn wsX12_loss wsX12_can := goodIn_r _ [13, 14, 19, 20, 21, 22, 23, 24, 25, 26, 27, 28, 29, 30, 31, 32, 33, 34, 35, 36, 37, 38] (by decide +kernel) (by decide +kernel)
set_option maxRecDepth 20000 in
theorem gX12_loss_X12_can : GoodIn wsX12_loss (wsV RX12 60 RX12 yX12_can wsX12_can) := goodIn_app (goodIn_of _ (by decide +kernel)) ggX12_loss_X12_can
set_option maxRecDepth 20000 in
theorem ggX12_loss_X12_in : GoodIn wsX12_loss wsX12_in := goodIn_r _ [9] (by decide +kernel) (by decide +kernel)
set_option maxRecDepth 20000 in
theorem gX12_loss_X12_in : GoodIn wsX12_loss (va_wsS RX12 64 yX12_in wsX12_in) := goodIn_app (goodIn_of _ (by decide +kernel)) ggX12_loss_X12_in
set_option maxRecDepth 20000 in
theorem ggX12_loss_X12_lossOf : GoodIn wsX12_loss wsX12_lossOf := goodIn_r _ [18, 6, 19, 20, 21, 22, 23, 24, 25, 26, 27, 28, 29, 30, 31, 32, 33, 34, 35, 36, 37, 38] (by decide +kernel) (by decide +kernel)
set_option maxRecDepth 20000 in
theorem gX12_loss_X12_lossOf : GoodIn wsX12_loss (wsV RX12 199 RX12 yX12_lossOf wsX12_lossOf) := goodIn_app (goodIn_of _ (by decide +kernel)) ggX12_loss_X12_lossOf
theorem dX12_loss_0 : decode cX12_loss 0 = .ok (.aload_n 0, 1) := by decide +kernel
theorem dX12_loss_1 : decode cX12_loss 1 = .ok (.aload_n 0, 1) := by decide +kernel
theorem dX12_loss_2 : decode cX12_loss 2 = .ok (.iload_n 1, 1) := by decide +kernel
theorem dX12_loss_3 : decode cX12_loss 3 = .ok (.invokevirtual 77, 3) := by decide +kernel
theorem dX12_loss_6 : decode cX12_loss 6 = .ok (.iconst 1, 1) := by decide +kernel
theorem dX12_loss_7 : decode cX12_loss 7 = .ok (.invokevirtual 60, 3) := by decide +kernel
theorem dX12_loss_10 : decode cX12_loss 10 = .ok (.ifCond .eq 47, 3) := by decide +kernel
theorem dX12_loss_13 : decode cX12_loss 13 = .ok (.aload_n 0, 1) := by decide +kernel
theorem dX12_loss_14 : decode cX12_loss 14 = .ok (.iload_n 2, 1) := by decide +kernel
theorem dX12_loss_15 : decode cX12_loss 15 = .ok (.iconst 0, 1) := by decide +kernel
theorem dX12_loss_16 : decode cX12_loss 16 = .ok (.bipush 99, 2) := by decide +kernel
theorem dX12_loss_18 : decode cX12_loss 18 = .ok (.invokestatic 64, 3) := by decide +kernel
theorem dX12_loss_21 : decode cX12_loss 21 = .ok (.ifCond .eq 28, 3) := by decide +kernel
theorem dX12_loss_24 : decode cX12_loss 24 = .ok (.iload_n 3, 1) := by decide +kernel
theorem dX12_loss_25 : decode cX12_loss 25 = .ok (.iconst 0, 1) := by decide +kernel
theorem dX12_loss_26 : decode cX12_loss 26 = .ok (.bipush 99, 2) := by decide +kernel
theorem dX12_loss_28 : decode cX12_loss 28 = .ok (.invokestatic 64, 3) := by decide +kernel
theorem dX12_loss_31 : decode cX12_loss 31 = .ok (.ifCond .eq 18, 3) := by decide +kernel
theorem dX12_loss_34 : decode cX12_loss 34 = .ok (.iload 4, 2) := by decide +kernel
theorem dX12_loss_36 : decode cX12_loss 36 = .ok (.iconst 0, 1) := by decide +kernel
theorem dX12_loss_37 : decode cX12_loss 37 = .ok (.bipush 99, 2) := by decide +kernel
theorem dX12_loss_39 : decode cX12_loss 39 = .ok (.invokestatic 64, 3) := by decide +kernel
theorem dX12_loss_42 : decode cX12_loss 42 = .ok (.ifCond .eq 7, 3) := by decide +kernel
theorem dX12_loss_45 : decode cX12_loss 45 = .ok (.iconst 1, 1) := by decide +kernel
theorem dX12_loss_46 : decode cX12_loss 46 = .ok (.goto 4, 3) := by decide +kernel
theorem dX12_loss_49 : decode cX12_loss 49 = .ok (.iconst 0, 1) := by decide +kernel
theorem dX12_loss_50 : decode cX12_loss 50 = .ok (.iconst 2, 1) := by decide +kernel
theorem dX12_loss_51 : decode cX12_loss 51 = .ok (.invokevirtual 60, 3) := by decide +kernel
theorem dX12_loss_54 : decode cX12_loss 54 = .ok (.ifCond .ne 5, 3) := by decide +kernel
theorem dX12_loss_57 : decode cX12_loss 57 = .ok (.iconst 0, 1) := by decide +kernel
theorem dX12_loss_58 : decode cX12_loss 58 = .ok (.ireturn, 1) := by decide +kernel
theorem dX12_loss_59 : decode cX12_loss 59 = .ok (.aload_n 0, 1) := by decide +kernel
theorem dX12_loss_60 : decode cX12_loss 60 = .ok (.iload_n 1, 1) := by decide +kernel
theorem dX12_loss_61 : decode cX12_loss 61 = .ok (.iload_n 2, 1) := by decide +kernel
theorem dX12_loss_62 : decode cX12_loss 62 = .ok (.iload_n 3, 1) := by decide +kernel
theorem dX12_loss_63 : decode cX12_loss 63 = .ok (.iload 4, 2) := by decide +kernel
theorem dX12_loss_65 : decode cX12_loss 65 = .ok (.invokevirtual 199, 3) := by decide +kernel
theorem dX12_loss_68 : decode cX12_loss 68 = .ok (.ireturn, 1) := by decide +kernel
set_option maxRecDepth 20000 in
theorem ggX12_addShop_X12_in : GoodIn wsX12_addShop wsX12_in := goodIn_r _ [5] (by decide +kernel) (by decide +kernel)
set_option maxRecDepth 20000 in
theorem gX12_addShop_X12_in : GoodIn wsX12_addShop (va_wsS RX12 64 yX12_in wsX12_in) := goodIn_app (goodIn_of _ (by decide +kernel)) ggX12_addShop_X12_in
set_option maxRecDepth 20000 in
theorem ggX12_addShop_X12_can : GoodIn wsX12_addShop wsX12_can := goodIn_r _ [9, 10, 22, 23, 24, 25, 26, 27, 28, 29, 30, 31, 32, 33, 34, 35, 36, 37, 38, 39, 40, 41] (by decide +kernel) (by decide +kernel)
set_option maxRecDepth 20000 in
theorem gX12_addShop_X12_can : GoodIn wsX12_addShop (wsV RX12 60 RX12 yX12_can wsX12_can) := goodIn_app (goodIn_of _ (by decide +kernel)) ggX12_addShop_X12_can
set_option maxRecDepth 20000 in
theorem ggX12_addShop_X12_keep : GoodIn wsX12_addShop wsX12_keep := goodIn_r _ [14, 15, 16, 17, 1, 18, 19, 20, 4, 21, 22, 23, 24, 25, 26, 27, 28, 29, 30, 31, 32, 33, 34, 35, 36, 37, 38, 39, 40, 41] (by decide +kernel) (by decide +kernel)
set_option maxRecDepth 20000 in
theorem gX12_addShop_X12_keep : GoodIn wsX12_addShop (wsV RX12 74 RX12 yX12_keep wsX12_keep) := goodIn_app (goodIn_of _ (by decide +kernel)) ggX12_addShop_X12_keep
theorem dX12_addShop_0 : decode cX12_addShop 0 = .ok (.aload_n 0, 1) := by decide +kernel
theorem dX12_addShop_1 : decode cX12_addShop 1 = .ok (.iload_n 1, 1) := by decide +kernel
theorem dX12_addShop_2 : decode cX12_addShop 2 = .ok (.iconst 0, 1) := by decide +kernel
theorem dX12_addShop_3 : decode cX12_addShop 3 = .ok (.bipush 20, 2) := by decide +kernel
theorem dX12_addShop_5 : decode cX12_addShop 5 = .ok (.invokestatic 64, 3) := by decide +kernel
theorem dX12_addShop_8 : decode cX12_addShop 8 = .ok (.ifCond .eq 51, 3) := by decide +kernel
theorem dX12_addShop_11 : decode cX12_addShop 11 = .ok (.iload_n 2, 1) := by decide +kernel
theorem dX12_addShop_12 : decode cX12_addShop 12 = .ok (.iconst 0, 1) := by decide +kernel
theorem dX12_addShop_13 : decode cX12_addShop 13 = .ok (.bipush 20, 2) := by decide +kernel
theorem dX12_addShop_15 : decode cX12_addShop 15 = .ok (.invokestatic 64, 3) := by decide +kernel
theorem dX12_addShop_18 : decode cX12_addShop 18 = .ok (.ifCond .eq 41, 3) := by decide +kernel
theorem dX12_addShop_21 : decode cX12_addShop 21 = .ok (.iload_n 3, 1) := by decide +kernel
theorem dX12_addShop_22 : decode cX12_addShop 22 = .ok (.iconst 0, 1) := by decide +kernel
theorem dX12_addShop_23 : decode cX12_addShop 23 = .ok (.sipush 600, 3) := by decide +kernel
theorem dX12_addShop_26 : decode cX12_addShop 26 = .ok (.invokestatic 64, 3) := by decide +kernel
theorem dX12_addShop_29 : decode cX12_addShop 29 = .ok (.ifCond .eq 30, 3) := by decide +kernel
theorem dX12_addShop_32 : decode cX12_addShop 32 = .ok (.iload 4, 2) := by decide +kernel
theorem dX12_addShop_34 : decode cX12_addShop 34 = .ok (.iload_n 3, 1) := by decide +kernel
theorem dX12_addShop_35 : decode cX12_addShop 35 = .ok (.sipush 600, 3) := by decide +kernel
theorem dX12_addShop_38 : decode cX12_addShop 38 = .ok (.invokestatic 64, 3) := by decide +kernel
theorem dX12_addShop_41 : decode cX12_addShop 41 = .ok (.ifCond .eq 18, 3) := by decide +kernel
theorem dX12_addShop_44 : decode cX12_addShop 44 = .ok (.iload 5, 2) := by decide +kernel
theorem dX12_addShop_46 : decode cX12_addShop 46 = .ok (.iconst 0, 1) := by decide +kernel
theorem dX12_addShop_47 : decode cX12_addShop 47 = .ok (.bipush 30, 2) := by decide +kernel
theorem dX12_addShop_49 : decode cX12_addShop 49 = .ok (.invokestatic 64, 3) := by decide +kernel
theorem dX12_addShop_52 : decode cX12_addShop 52 = .ok (.ifCond .eq 7, 3) := by decide +kernel
theorem dX12_addShop_55 : decode cX12_addShop 55 = .ok (.iconst 1, 1) := by decide +kernel
theorem dX12_addShop_56 : decode cX12_addShop 56 = .ok (.goto 4, 3) := by decide +kernel
theorem dX12_addShop_59 : decode cX12_addShop 59 = .ok (.iconst 0, 1) := by decide +kernel
theorem dX12_addShop_60 : decode cX12_addShop 60 = .ok (.iconst 1, 1) := by decide +kernel
theorem dX12_addShop_61 : decode cX12_addShop 61 = .ok (.invokevirtual 60, 3) := by decide +kernel
theorem dX12_addShop_64 : decode cX12_addShop 64 = .ok (.ifCond .eq 28, 3) := by decide +kernel
theorem dX12_addShop_67 : decode cX12_addShop 67 = .ok (.aload_n 0, 1) := by decide +kernel
theorem dX12_addShop_68 : decode cX12_addShop 68 = .ok (.aload_n 0, 1) := by decide +kernel
theorem dX12_addShop_69 : decode cX12_addShop 69 = .ok (.getfield 9, 3) := by decide +kernel
theorem dX12_addShop_72 : decode cX12_addShop 72 = .ok (.bipush 7, 2) := by decide +kernel
theorem dX12_addShop_74 : decode cX12_addShop 74 = .ok (.iaload, 1) := by decide +kernel
theorem dX12_addShop_75 : decode cX12_addShop 75 = .ok (.bipush 7, 2) := by decide +kernel
theorem dX12_addShop_77 : decode cX12_addShop 77 = .ok (.if_icmp .ge 7, 3) := by decide +kernel
theorem dX12_addShop_80 : decode cX12_addShop 80 = .ok (.iconst 1, 1) := by decide +kernel
theorem dX12_addShop_81 : decode cX12_addShop 81 = .ok (.goto 4, 3) := by decide +kernel
theorem dX12_addShop_84 : decode cX12_addShop 84 = .ok (.iconst 0, 1) := by decide +kernel
theorem dX12_addShop_85 : decode cX12_addShop 85 = .ok (.iconst 2, 1) := by decide +kernel
theorem dX12_addShop_86 : decode cX12_addShop 86 = .ok (.invokevirtual 60, 3) := by decide +kernel
theorem dX12_addShop_89 : decode cX12_addShop 89 = .ok (.ifCond .ne 5, 3) := by decide +kernel
theorem dX12_addShop_92 : decode cX12_addShop 92 = .ok (.iconst 0, 1) := by decide +kernel
theorem dX12_addShop_93 : decode cX12_addShop 93 = .ok (.ireturn, 1) := by decide +kernel
theorem dX12_addShop_94 : decode cX12_addShop 94 = .ok (.aload_n 0, 1) := by decide +kernel
theorem dX12_addShop_95 : decode cX12_addShop 95 = .ok (.invokevirtual 74, 3) := by decide +kernel
theorem dX12_addShop_98 : decode cX12_addShop 98 = .ok (.aload_n 0, 1) := by decide +kernel
theorem dX12_addShop_99 : decode cX12_addShop 99 = .ok (.getfield 9, 3) := by decide +kernel
theorem dX12_addShop_102 : decode cX12_addShop 102 = .ok (.bipush 7, 2) := by decide +kernel
theorem dX12_addShop_104 : decode cX12_addShop 104 = .ok (.iaload, 1) := by decide +kernel
theorem dX12_addShop_105 : decode cX12_addShop 105 = .ok (.istore 6, 2) := by decide +kernel
theorem dX12_addShop_107 : decode cX12_addShop 107 = .ok (.aload_n 0, 1) := by decide +kernel
theorem dX12_addShop_108 : decode cX12_addShop 108 = .ok (.getfield 9, 3) := by decide +kernel
theorem dX12_addShop_111 : decode cX12_addShop 111 = .ok (.bipush 7, 2) := by decide +kernel
theorem dX12_addShop_113 : decode cX12_addShop 113 = .ok (.dup2, 1) := by decide +kernel
theorem dX12_addShop_114 : decode cX12_addShop 114 = .ok (.iaload, 1) := by decide +kernel
theorem dX12_addShop_115 : decode cX12_addShop 115 = .ok (.iconst 1, 1) := by decide +kernel
theorem dX12_addShop_116 : decode cX12_addShop 116 = .ok (.iadd, 1) := by decide +kernel
theorem dX12_addShop_117 : decode cX12_addShop 117 = .ok (.iastore, 1) := by decide +kernel
theorem dX12_addShop_118 : decode cX12_addShop 118 = .ok (.aload_n 0, 1) := by decide +kernel
theorem dX12_addShop_119 : decode cX12_addShop 119 = .ok (.getfield 9, 3) := by decide +kernel
theorem dX12_addShop_122 : decode cX12_addShop 122 = .ok (.sipush 625, 3) := by decide +kernel
theorem dX12_addShop_125 : decode cX12_addShop 125 = .ok (.iload 6, 2) := by decide +kernel
theorem dX12_addShop_127 : decode cX12_addShop 127 = .ok (.iadd, 1) := by decide +kernel
theorem dX12_addShop_128 : decode cX12_addShop 128 = .ok (.iload_n 1, 1) := by decide +kernel
theorem dX12_addShop_129 : decode cX12_addShop 129 = .ok (.iastore, 1) := by decide +kernel
theorem dX12_addShop_130 : decode cX12_addShop 130 = .ok (.aload_n 0, 1) := by decide +kernel
theorem dX12_addShop_131 : decode cX12_addShop 131 = .ok (.getfield 9, 3) := by decide +kernel
theorem dX12_addShop_134 : decode cX12_addShop 134 = .ok (.sipush 632, 3) := by decide +kernel
theorem dX12_addShop_137 : decode cX12_addShop 137 = .ok (.iload 6, 2) := by decide +kernel
theorem dX12_addShop_139 : decode cX12_addShop 139 = .ok (.iadd, 1) := by decide +kernel
theorem dX12_addShop_140 : decode cX12_addShop 140 = .ok (.iload_n 2, 1) := by decide +kernel
theorem dX12_addShop_141 : decode cX12_addShop 141 = .ok (.iastore, 1) := by decide +kernel
theorem dX12_addShop_142 : decode cX12_addShop 142 = .ok (.aload_n 0, 1) := by decide +kernel
theorem dX12_addShop_143 : decode cX12_addShop 143 = .ok (.getfield 9, 3) := by decide +kernel
theorem dX12_addShop_146 : decode cX12_addShop 146 = .ok (.sipush 639, 3) := by decide +kernel
theorem dX12_addShop_149 : decode cX12_addShop 149 = .ok (.iload 6, 2) := by decide +kernel
theorem dX12_addShop_151 : decode cX12_addShop 151 = .ok (.iadd, 1) := by decide +kernel
theorem dX12_addShop_152 : decode cX12_addShop 152 = .ok (.iload_n 3, 1) := by decide +kernel
theorem dX12_addShop_153 : decode cX12_addShop 153 = .ok (.iastore, 1) := by decide +kernel
theorem dX12_addShop_154 : decode cX12_addShop 154 = .ok (.aload_n 0, 1) := by decide +kernel
theorem dX12_addShop_155 : decode cX12_addShop 155 = .ok (.getfield 9, 3) := by decide +kernel
theorem dX12_addShop_158 : decode cX12_addShop 158 = .ok (.sipush 646, 3) := by decide +kernel
theorem dX12_addShop_161 : decode cX12_addShop 161 = .ok (.iload 6, 2) := by decide +kernel
theorem dX12_addShop_163 : decode cX12_addShop 163 = .ok (.iadd, 1) := by decide +kernel
theorem dX12_addShop_164 : decode cX12_addShop 164 = .ok (.iload 4, 2) := by decide +kernel
theorem dX12_addShop_166 : decode cX12_addShop 166 = .ok (.iastore, 1) := by decide +kernel
theorem dX12_addShop_167 : decode cX12_addShop 167 = .ok (.aload_n 0, 1) := by decide +kernel
theorem dX12_addShop_168 : decode cX12_addShop 168 = .ok (.getfield 9, 3) := by decide +kernel
theorem dX12_addShop_171 : decode cX12_addShop 171 = .ok (.sipush 653, 3) := by decide +kernel
theorem dX12_addShop_174 : decode cX12_addShop 174 = .ok (.iload 6, 2) := by decide +kernel
theorem dX12_addShop_176 : decode cX12_addShop 176 = .ok (.iadd, 1) := by decide +kernel
theorem dX12_addShop_177 : decode cX12_addShop 177 = .ok (.iload 5, 2) := by decide +kernel
theorem dX12_addShop_179 : decode cX12_addShop 179 = .ok (.iastore, 1) := by decide +kernel
theorem dX12_addShop_180 : decode cX12_addShop 180 = .ok (.iload 6, 2) := by decide +kernel
theorem dX12_addShop_182 : decode cX12_addShop 182 = .ok (.ireturn, 1) := by decide +kernel
set_option maxRecDepth 20000 in
theorem ggX12_nextRow_X12_swaps : GoodIn wsX12_nextRow wsX12_swaps := goodIn_r _ [7, 2, 8, 9, 10, 11, 12, 13, 14, 15, 16, 17, 18, 19, 20, 21, 22, 23, 24, 25, 26, 27] (by decide +kernel) (by decide +kernel)
set_option maxRecDepth 20000 in
theorem gX12_nextRow_X12_swaps : GoodIn wsX12_nextRow (wsV RX12 206 RX12 yX12_swaps wsX12_swaps) := goodIn_app (goodIn_of _ (by decide +kernel)) ggX12_nextRow_X12_swaps
theorem dX12_nextRow_0 : decode cX12_nextRow 0 = .ok (.aload_n 0, 1) := by decide +kernel
theorem dX12_nextRow_1 : decode cX12_nextRow 1 = .ok (.getfield 203, 3) := by decide +kernel
theorem dX12_nextRow_4 : decode cX12_nextRow 4 = .ok (.iconst 2, 1) := by decide +kernel
theorem dX12_nextRow_5 : decode cX12_nextRow 5 = .ok (.isub, 1) := by decide +kernel
theorem dX12_nextRow_6 : decode cX12_nextRow 6 = .ok (.istore_n 1, 1) := by decide +kernel
theorem dX12_nextRow_7 : decode cX12_nextRow 7 = .ok (.iload_n 1, 1) := by decide +kernel
theorem dX12_nextRow_8 : decode cX12_nextRow 8 = .ok (.ifCond .lt 26, 3) := by decide +kernel
theorem dX12_nextRow_11 : decode cX12_nextRow 11 = .ok (.aload_n 0, 1) := by decide +kernel
theorem dX12_nextRow_12 : decode cX12_nextRow 12 = .ok (.getfield 40, 3) := by decide +kernel
theorem dX12_nextRow_15 : decode cX12_nextRow 15 = .ok (.iload_n 1, 1) := by decide +kernel
theorem dX12_nextRow_16 : decode cX12_nextRow 16 = .ok (.iaload, 1) := by decide +kernel
theorem dX12_nextRow_17 : decode cX12_nextRow 17 = .ok (.aload_n 0, 1) := by decide +kernel
theorem dX12_nextRow_18 : decode cX12_nextRow 18 = .ok (.getfield 40, 3) := by decide +kernel
theorem dX12_nextRow_21 : decode cX12_nextRow 21 = .ok (.iload_n 1, 1) := by decide +kernel
theorem dX12_nextRow_22 : decode cX12_nextRow 22 = .ok (.iconst 1, 1) := by decide +kernel
theorem dX12_nextRow_23 : decode cX12_nextRow 23 = .ok (.iadd, 1) := by decide +kernel
theorem dX12_nextRow_24 : decode cX12_nextRow 24 = .ok (.iaload, 1) := by decide +kernel
theorem dX12_nextRow_25 : decode cX12_nextRow 25 = .ok (.if_icmp .le 9, 3) := by decide +kernel
theorem dX12_nextRow_28 : decode cX12_nextRow 28 = .ok (.iinc 1 (-1), 3) := by decide +kernel
theorem dX12_nextRow_31 : decode cX12_nextRow 31 = .ok (.goto (-24), 3) := by decide +kernel
theorem dX12_nextRow_34 : decode cX12_nextRow 34 = .ok (.iload_n 1, 1) := by decide +kernel
theorem dX12_nextRow_35 : decode cX12_nextRow 35 = .ok (.ifCond .ge 5, 3) := by decide +kernel
theorem dX12_nextRow_38 : decode cX12_nextRow 38 = .ok (.iconst 0, 1) := by decide +kernel
theorem dX12_nextRow_39 : decode cX12_nextRow 39 = .ok (.ireturn, 1) := by decide +kernel
theorem dX12_nextRow_40 : decode cX12_nextRow 40 = .ok (.aload_n 0, 1) := by decide +kernel
theorem dX12_nextRow_41 : decode cX12_nextRow 41 = .ok (.getfield 203, 3) := by decide +kernel
theorem dX12_nextRow_44 : decode cX12_nextRow 44 = .ok (.iconst 1, 1) := by decide +kernel
theorem dX12_nextRow_45 : decode cX12_nextRow 45 = .ok (.isub, 1) := by decide +kernel
theorem dX12_nextRow_46 : decode cX12_nextRow 46 = .ok (.istore_n 2, 1) := by decide +kernel
theorem dX12_nextRow_47 : decode cX12_nextRow 47 = .ok (.aload_n 0, 1) := by decide +kernel
theorem dX12_nextRow_48 : decode cX12_nextRow 48 = .ok (.getfield 40, 3) := by decide +kernel
theorem dX12_nextRow_51 : decode cX12_nextRow 51 = .ok (.iload_n 2, 1) := by decide +kernel
theorem dX12_nextRow_52 : decode cX12_nextRow 52 = .ok (.iaload, 1) := by decide +kernel
theorem dX12_nextRow_53 : decode cX12_nextRow 53 = .ok (.aload_n 0, 1) := by decide +kernel
theorem dX12_nextRow_54 : decode cX12_nextRow 54 = .ok (.getfield 40, 3) := by decide +kernel
theorem dX12_nextRow_57 : decode cX12_nextRow 57 = .ok (.iload_n 1, 1) := by decide +kernel
theorem dX12_nextRow_58 : decode cX12_nextRow 58 = .ok (.iaload, 1) := by decide +kernel
theorem dX12_nextRow_59 : decode cX12_nextRow 59 = .ok (.if_icmp .ge 9, 3) := by decide +kernel
theorem dX12_nextRow_62 : decode cX12_nextRow 62 = .ok (.iinc 2 (-1), 3) := by decide +kernel
theorem dX12_nextRow_65 : decode cX12_nextRow 65 = .ok (.goto (-18), 3) := by decide +kernel
theorem dX12_nextRow_68 : decode cX12_nextRow 68 = .ok (.aload_n 0, 1) := by decide +kernel
theorem dX12_nextRow_69 : decode cX12_nextRow 69 = .ok (.iload_n 1, 1) := by decide +kernel
theorem dX12_nextRow_70 : decode cX12_nextRow 70 = .ok (.iload_n 2, 1) := by decide +kernel
theorem dX12_nextRow_71 : decode cX12_nextRow 71 = .ok (.invokevirtual 206, 3) := by decide +kernel
theorem dX12_nextRow_74 : decode cX12_nextRow 74 = .ok (.iload_n 1, 1) := by decide +kernel
theorem dX12_nextRow_75 : decode cX12_nextRow 75 = .ok (.iconst 1, 1) := by decide +kernel
theorem dX12_nextRow_76 : decode cX12_nextRow 76 = .ok (.iadd, 1) := by decide +kernel
theorem dX12_nextRow_77 : decode cX12_nextRow 77 = .ok (.istore_n 3, 1) := by decide +kernel
theorem dX12_nextRow_78 : decode cX12_nextRow 78 = .ok (.aload_n 0, 1) := by decide +kernel
theorem dX12_nextRow_79 : decode cX12_nextRow 79 = .ok (.getfield 203, 3) := by decide +kernel
theorem dX12_nextRow_82 : decode cX12_nextRow 82 = .ok (.iconst 1, 1) := by decide +kernel
theorem dX12_nextRow_83 : decode cX12_nextRow 83 = .ok (.isub, 1) := by decide +kernel
theorem dX12_nextRow_84 : decode cX12_nextRow 84 = .ok (.istore 4, 2) := by decide +kernel
theorem dX12_nextRow_86 : decode cX12_nextRow 86 = .ok (.iload_n 3, 1) := by decide +kernel
theorem dX12_nextRow_87 : decode cX12_nextRow 87 = .ok (.iload 4, 2) := by decide +kernel
theorem dX12_nextRow_89 : decode cX12_nextRow 89 = .ok (.if_icmp .ge 19, 3) := by decide +kernel
theorem dX12_nextRow_92 : decode cX12_nextRow 92 = .ok (.aload_n 0, 1) := by decide +kernel
theorem dX12_nextRow_93 : decode cX12_nextRow 93 = .ok (.iload_n 3, 1) := by decide +kernel
theorem dX12_nextRow_94 : decode cX12_nextRow 94 = .ok (.iload 4, 2) := by decide +kernel
theorem dX12_nextRow_96 : decode cX12_nextRow 96 = .ok (.invokevirtual 206, 3) := by decide +kernel
theorem dX12_nextRow_99 : decode cX12_nextRow 99 = .ok (.iinc 3 1, 3) := by decide +kernel
theorem dX12_nextRow_102 : decode cX12_nextRow 102 = .ok (.iinc 4 (-1), 3) := by decide +kernel
theorem dX12_nextRow_105 : decode cX12_nextRow 105 = .ok (.goto (-19), 3) := by decide +kernel
theorem dX12_nextRow_108 : decode cX12_nextRow 108 = .ok (.iconst 1, 1) := by decide +kernel
theorem dX12_nextRow_109 : decode cX12_nextRow 109 = .ok (.ireturn, 1) := by decide +kernel
theorem dX12_swaps_0 : decode cX12_swaps 0 = .ok (.aload_n 0, 1) := by decide +kernel
theorem dX12_swaps_1 : decode cX12_swaps 1 = .ok (.getfield 40, 3) := by decide +kernel
theorem dX12_swaps_4 : decode cX12_swaps 4 = .ok (.iload_n 1, 1) := by decide +kernel
theorem dX12_swaps_5 : decode cX12_swaps 5 = .ok (.iaload, 1) := by decide +kernel
theorem dX12_swaps_6 : decode cX12_swaps 6 = .ok (.istore_n 3, 1) := by decide +kernel
theorem dX12_swaps_7 : decode cX12_swaps 7 = .ok (.aload_n 0, 1) := by decide +kernel
theorem dX12_swaps_8 : decode cX12_swaps 8 = .ok (.getfield 40, 3) := by decide +kernel
theorem dX12_swaps_11 : decode cX12_swaps 11 = .ok (.iload_n 1, 1) := by decide +kernel
theorem dX12_swaps_12 : decode cX12_swaps 12 = .ok (.aload_n 0, 1) := by decide +kernel
theorem dX12_swaps_13 : decode cX12_swaps 13 = .ok (.getfield 40, 3) := by decide +kernel
theorem dX12_swaps_16 : decode cX12_swaps 16 = .ok (.iload_n 2, 1) := by decide +kernel
theorem dX12_swaps_17 : decode cX12_swaps 17 = .ok (.iaload, 1) := by decide +kernel
theorem dX12_swaps_18 : decode cX12_swaps 18 = .ok (.iastore, 1) := by decide +kernel
theorem dX12_swaps_19 : decode cX12_swaps 19 = .ok (.aload_n 0, 1) := by decide +kernel
theorem dX12_swaps_20 : decode cX12_swaps 20 = .ok (.getfield 40, 3) := by decide +kernel
theorem dX12_swaps_23 : decode cX12_swaps 23 = .ok (.iload_n 2, 1) := by decide +kernel
theorem dX12_swaps_24 : decode cX12_swaps 24 = .ok (.iload_n 3, 1) := by decide +kernel
theorem dX12_swaps_25 : decode cX12_swaps 25 = .ok (.iastore, 1) := by decide +kernel
theorem dX12_swaps_26 : decode cX12_swaps 26 = .ok (.return_, 1) := by decide +kernel
theorem dX12_distance_0 : decode cX12_distance 0 = .ok (.iload_n 0, 1) := by decide +kernel
theorem dX12_distance_1 : decode cX12_distance 1 = .ok (.iload_n 1, 1) := by decide +kernel
theorem dX12_distance_2 : decode cX12_distance 2 = .ok (.if_icmp .ge 9, 3) := by decide +kernel
theorem dX12_distance_5 : decode cX12_distance 5 = .ok (.iload_n 1, 1) := by decide +kernel
theorem dX12_distance_6 : decode cX12_distance 6 = .ok (.iload_n 0, 1) := by decide +kernel
theorem dX12_distance_7 : decode cX12_distance 7 = .ok (.isub, 1) := by decide +kernel
theorem dX12_distance_8 : decode cX12_distance 8 = .ok (.goto 6, 3) := by decide +kernel
theorem dX12_distance_11 : decode cX12_distance 11 = .ok (.iload_n 0, 1) := by decide +kernel
theorem dX12_distance_12 : decode cX12_distance 12 = .ok (.iload_n 1, 1) := by decide +kernel
theorem dX12_distance_13 : decode cX12_distance 13 = .ok (.isub, 1) := by decide +kernel
theorem dX12_distance_14 : decode cX12_distance 14 = .ok (.ireturn, 1) := by decide +kernel
set_option maxRecDepth 20000 in
theorem ggX12_back_X12_distance : GoodIn wsX12_back wsX12_distance := goodIn_r _ [8] (by decide +kernel) (by decide +kernel)
set_option maxRecDepth 20000 in
theorem gX12_back_X12_distance : GoodIn wsX12_back (va_wsS RX12 209 yX12_distance wsX12_distance) := goodIn_app (goodIn_of _ (by decide +kernel)) ggX12_back_X12_distance
theorem dX12_back_0 : decode cX12_back 0 = .ok (.iload_n 1, 1) := by decide +kernel
theorem dX12_back_1 : decode cX12_back 1 = .ok (.istore_n 2, 1) := by decide +kernel
theorem dX12_back_2 : decode cX12_back 2 = .ok (.iconst 0, 1) := by decide +kernel
theorem dX12_back_3 : decode cX12_back 3 = .ok (.istore_n 3, 1) := by decide +kernel
theorem dX12_back_4 : decode cX12_back 4 = .ok (.iconst 0, 1) := by decide +kernel
theorem dX12_back_5 : decode cX12_back 5 = .ok (.istore 4, 2) := by decide +kernel
theorem dX12_back_7 : decode cX12_back 7 = .ok (.iconst 0, 1) := by decide +kernel
theorem dX12_back_8 : decode cX12_back 8 = .ok (.istore 5, 2) := by decide +kernel
theorem dX12_back_10 : decode cX12_back 10 = .ok (.iload 5, 2) := by decide +kernel
theorem dX12_back_12 : decode cX12_back 12 = .ok (.aload_n 0, 1) := by decide +kernel
theorem dX12_back_13 : decode cX12_back 13 = .ok (.getfield 203, 3) := by decide +kernel
theorem dX12_back_16 : decode cX12_back 16 = .ok (.if_icmp .ge 141, 3) := by decide +kernel
theorem dX12_back_19 : decode cX12_back 19 = .ok (.aload_n 0, 1) := by decide +kernel
theorem dX12_back_20 : decode cX12_back 20 = .ok (.getfield 40, 3) := by decide +kernel
theorem dX12_back_23 : decode cX12_back 23 = .ok (.iload 5, 2) := by decide +kernel
theorem dX12_back_25 : decode cX12_back 25 = .ok (.iaload, 1) := by decide +kernel
theorem dX12_back_26 : decode cX12_back 26 = .ok (.istore 6, 2) := by decide +kernel
theorem dX12_back_28 : decode cX12_back 28 = .ok (.iload_n 2, 1) := by decide +kernel
theorem dX12_back_29 : decode cX12_back 29 = .ok (.iload_n 3, 1) := by decide +kernel
theorem dX12_back_30 : decode cX12_back 30 = .ok (.aload_n 0, 1) := by decide +kernel
theorem dX12_back_31 : decode cX12_back 31 = .ok (.getfield 9, 3) := by decide +kernel
theorem dX12_back_34 : decode cX12_back 34 = .ok (.sipush 625, 3) := by decide +kernel
theorem dX12_back_37 : decode cX12_back 37 = .ok (.iload 6, 2) := by decide +kernel
theorem dX12_back_39 : decode cX12_back 39 = .ok (.iadd, 1) := by decide +kernel
theorem dX12_back_40 : decode cX12_back 40 = .ok (.iaload, 1) := by decide +kernel
theorem dX12_back_41 : decode cX12_back 41 = .ok (.invokestatic 209, 3) := by decide +kernel
theorem dX12_back_44 : decode cX12_back 44 = .ok (.iload 4, 2) := by decide +kernel
theorem dX12_back_46 : decode cX12_back 46 = .ok (.aload_n 0, 1) := by decide +kernel
theorem dX12_back_47 : decode cX12_back 47 = .ok (.getfield 9, 3) := by decide +kernel
theorem dX12_back_50 : decode cX12_back 50 = .ok (.sipush 632, 3) := by decide +kernel
theorem dX12_back_53 : decode cX12_back 53 = .ok (.iload 6, 2) := by decide +kernel
theorem dX12_back_55 : decode cX12_back 55 = .ok (.iadd, 1) := by decide +kernel
theorem dX12_back_56 : decode cX12_back 56 = .ok (.iaload, 1) := by decide +kernel
theorem dX12_back_57 : decode cX12_back 57 = .ok (.invokestatic 209, 3) := by decide +kernel
theorem dX12_back_60 : decode cX12_back 60 = .ok (.iadd, 1) := by decide +kernel
theorem dX12_back_61 : decode cX12_back 61 = .ok (.iadd, 1) := by decide +kernel
theorem dX12_back_62 : decode cX12_back 62 = .ok (.istore_n 2, 1) := by decide +kernel
theorem dX12_back_63 : decode cX12_back 63 = .ok (.iload_n 2, 1) := by decide +kernel
theorem dX12_back_64 : decode cX12_back 64 = .ok (.aload_n 0, 1) := by decide +kernel
theorem dX12_back_65 : decode cX12_back 65 = .ok (.getfield 9, 3) := by decide +kernel
theorem dX12_back_68 : decode cX12_back 68 = .ok (.sipush 646, 3) := by decide +kernel
theorem dX12_back_71 : decode cX12_back 71 = .ok (.iload 6, 2) := by decide +kernel
theorem dX12_back_73 : decode cX12_back 73 = .ok (.iadd, 1) := by decide +kernel
theorem dX12_back_74 : decode cX12_back 74 = .ok (.iaload, 1) := by decide +kernel
theorem dX12_back_75 : decode cX12_back 75 = .ok (.if_icmp .le 6, 3) := by decide +kernel
theorem dX12_back_78 : decode cX12_back 78 = .ok (.ldc 125, 2) := by decide +kernel
theorem dX12_back_80 : decode cX12_back 80 = .ok (.ireturn, 1) := by decide +kernel
theorem dX12_back_81 : decode cX12_back 81 = .ok (.iload_n 2, 1) := by decide +kernel
theorem dX12_back_82 : decode cX12_back 82 = .ok (.aload_n 0, 1) := by decide +kernel
theorem dX12_back_83 : decode cX12_back 83 = .ok (.getfield 9, 3) := by decide +kernel
theorem dX12_back_86 : decode cX12_back 86 = .ok (.sipush 639, 3) := by decide +kernel
theorem dX12_back_89 : decode cX12_back 89 = .ok (.iload 6, 2) := by decide +kernel
theorem dX12_back_91 : decode cX12_back 91 = .ok (.iadd, 1) := by decide +kernel
theorem dX12_back_92 : decode cX12_back 92 = .ok (.iaload, 1) := by decide +kernel
theorem dX12_back_93 : decode cX12_back 93 = .ok (.if_icmp .ge 17, 3) := by decide +kernel
theorem dX12_back_96 : decode cX12_back 96 = .ok (.aload_n 0, 1) := by decide +kernel
theorem dX12_back_97 : decode cX12_back 97 = .ok (.getfield 9, 3) := by decide +kernel
theorem dX12_back_100 : decode cX12_back 100 = .ok (.sipush 639, 3) := by decide +kernel
theorem dX12_back_103 : decode cX12_back 103 = .ok (.iload 6, 2) := by decide +kernel
theorem dX12_back_105 : decode cX12_back 105 = .ok (.iadd, 1) := by decide +kernel
theorem dX12_back_106 : decode cX12_back 106 = .ok (.iaload, 1) := by decide +kernel
theorem dX12_back_107 : decode cX12_back 107 = .ok (.goto 4, 3) := by decide +kernel
theorem dX12_back_110 : decode cX12_back 110 = .ok (.iload_n 2, 1) := by decide +kernel
theorem dX12_back_111 : decode cX12_back 111 = .ok (.istore_n 2, 1) := by decide +kernel
theorem dX12_back_112 : decode cX12_back 112 = .ok (.iload_n 2, 1) := by decide +kernel
theorem dX12_back_113 : decode cX12_back 113 = .ok (.aload_n 0, 1) := by decide +kernel
theorem dX12_back_114 : decode cX12_back 114 = .ok (.getfield 9, 3) := by decide +kernel
theorem dX12_back_117 : decode cX12_back 117 = .ok (.sipush 653, 3) := by decide +kernel
theorem dX12_back_120 : decode cX12_back 120 = .ok (.iload 6, 2) := by decide +kernel
theorem dX12_back_122 : decode cX12_back 122 = .ok (.iadd, 1) := by decide +kernel
theorem dX12_back_123 : decode cX12_back 123 = .ok (.iaload, 1) := by decide +kernel
theorem dX12_back_124 : decode cX12_back 124 = .ok (.iadd, 1) := by decide +kernel
theorem dX12_back_125 : decode cX12_back 125 = .ok (.istore_n 2, 1) := by decide +kernel
theorem dX12_back_126 : decode cX12_back 126 = .ok (.aload_n 0, 1) := by decide +kernel
theorem dX12_back_127 : decode cX12_back 127 = .ok (.getfield 9, 3) := by decide +kernel
theorem dX12_back_130 : decode cX12_back 130 = .ok (.sipush 625, 3) := by decide +kernel
theorem dX12_back_133 : decode cX12_back 133 = .ok (.iload 6, 2) := by decide +kernel
theorem dX12_back_135 : decode cX12_back 135 = .ok (.iadd, 1) := by decide +kernel
theorem dX12_back_136 : decode cX12_back 136 = .ok (.iaload, 1) := by decide +kernel
theorem dX12_back_137 : decode cX12_back 137 = .ok (.istore_n 3, 1) := by decide +kernel
theorem dX12_back_138 : decode cX12_back 138 = .ok (.aload_n 0, 1) := by decide +kernel
theorem dX12_back_139 : decode cX12_back 139 = .ok (.getfield 9, 3) := by decide +kernel
theorem dX12_back_142 : decode cX12_back 142 = .ok (.sipush 632, 3) := by decide +kernel
theorem dX12_back_145 : decode cX12_back 145 = .ok (.iload 6, 2) := by decide +kernel
theorem dX12_back_147 : decode cX12_back 147 = .ok (.iadd, 1) := by decide +kernel
theorem dX12_back_148 : decode cX12_back 148 = .ok (.iaload, 1) := by decide +kernel
theorem dX12_back_149 : decode cX12_back 149 = .ok (.istore 4, 2) := by decide +kernel
theorem dX12_back_151 : decode cX12_back 151 = .ok (.iinc 5 1, 3) := by decide +kernel
theorem dX12_back_154 : decode cX12_back 154 = .ok (.goto (-144), 3) := by decide +kernel
theorem dX12_back_157 : decode cX12_back 157 = .ok (.iload_n 2, 1) := by decide +kernel
theorem dX12_back_158 : decode cX12_back 158 = .ok (.iload_n 3, 1) := by decide +kernel
theorem dX12_back_159 : decode cX12_back 159 = .ok (.iadd, 1) := by decide +kernel
theorem dX12_back_160 : decode cX12_back 160 = .ok (.iload 4, 2) := by decide +kernel
theorem dX12_back_162 : decode cX12_back 162 = .ok (.iadd, 1) := by decide +kernel
theorem dX12_back_163 : decode cX12_back 163 = .ok (.ireturn, 1) := by decide +kernel
theorem dX12_keepsRow_0 : decode cX12_keepsRow 0 = .ok (.aload_n 0, 1) := by decide +kernel
theorem dX12_keepsRow_1 : decode cX12_keepsRow 1 = .ok (.iload_n 1, 1) := by decide +kernel
theorem dX12_keepsRow_2 : decode cX12_keepsRow 2 = .ok (.putfield 212, 3) := by decide +kernel
theorem dX12_keepsRow_5 : decode cX12_keepsRow 5 = .ok (.iconst 0, 1) := by decide +kernel
theorem dX12_keepsRow_6 : decode cX12_keepsRow 6 = .ok (.istore_n 2, 1) := by decide +kernel
theorem dX12_keepsRow_7 : decode cX12_keepsRow 7 = .ok (.iload_n 2, 1) := by decide +kernel
theorem dX12_keepsRow_8 : decode cX12_keepsRow 8 = .ok (.aload_n 0, 1) := by decide +kernel
theorem dX12_keepsRow_9 : decode cX12_keepsRow 9 = .ok (.getfield 203, 3) := by decide +kernel
theorem dX12_keepsRow_12 : decode cX12_keepsRow 12 = .ok (.if_icmp .ge 21, 3) := by decide +kernel
theorem dX12_keepsRow_15 : decode cX12_keepsRow 15 = .ok (.aload_n 0, 1) := by decide +kernel
theorem dX12_keepsRow_16 : decode cX12_keepsRow 16 = .ok (.getfield 43, 3) := by decide +kernel
theorem dX12_keepsRow_19 : decode cX12_keepsRow 19 = .ok (.iload_n 2, 1) := by decide +kernel
theorem dX12_keepsRow_20 : decode cX12_keepsRow 20 = .ok (.aload_n 0, 1) := by decide +kernel
theorem dX12_keepsRow_21 : decode cX12_keepsRow 21 = .ok (.getfield 40, 3) := by decide +kernel
theorem dX12_keepsRow_24 : decode cX12_keepsRow 24 = .ok (.iload_n 2, 1) := by decide +kernel
theorem dX12_keepsRow_25 : decode cX12_keepsRow 25 = .ok (.iaload, 1) := by decide +kernel
theorem dX12_keepsRow_26 : decode cX12_keepsRow 26 = .ok (.iastore, 1) := by decide +kernel
theorem dX12_keepsRow_27 : decode cX12_keepsRow 27 = .ok (.iinc 2 1, 3) := by decide +kernel
theorem dX12_keepsRow_30 : decode cX12_keepsRow 30 = .ok (.goto (-23), 3) := by decide +kernel
theorem dX12_keepsRow_33 : decode cX12_keepsRow 33 = .ok (.return_, 1) := by decide +kernel
set_option maxRecDepth 20000 in
theorem ggX12_drives_X12_back : GoodIn wsX12_drives wsX12_back := goodIn_r _ [10, 2, 3, 1, 4, 11, 12, 9, 13, 27, 28, 29, 30, 31, 32, 33, 34, 35, 36, 37, 38, 39, 40, 41, 42, 43, 44, 45, 46] (by decide +kernel) (by decide +kernel)
set_option maxRecDepth 20000 in
theorem gX12_drives_X12_back : GoodIn wsX12_drives (wsV RX12 215 RX12 yX12_back wsX12_back) := goodIn_app (goodIn_of _ (by decide +kernel)) ggX12_drives_X12_back
set_option maxRecDepth 20000 in
theorem ggX12_drives_X12_keepsRow : GoodIn wsX12_drives wsX12_keepsRow := goodIn_r _ [17, 5, 2, 18, 3, 27, 28, 29, 30, 31, 32, 33, 34, 35, 36, 37, 38, 39, 40, 41, 42, 43, 44, 45, 46] (by decide +kernel) (by decide +kernel)
set_option maxRecDepth 20000 in
theorem gX12_drives_X12_keepsRow : GoodIn wsX12_drives (wsV RX12 218 RX12 yX12_keepsRow wsX12_keepsRow) := goodIn_app (goodIn_of _ (by decide +kernel)) ggX12_drives_X12_keepsRow
set_option maxRecDepth 20000 in
theorem ggX12_drives_X12_nextRow : GoodIn wsX12_drives wsX12_nextRow := goodIn_r _ [22, 2, 3, 23, 24, 25, 9, 26, 27, 28, 29, 30, 31, 32, 33, 34, 35, 36, 37, 38, 39, 40, 41, 42, 43, 44, 45, 46] (by decide +kernel) (by decide +kernel)
set_option maxRecDepth 20000 in
theorem gX12_drives_X12_nextRow : GoodIn wsX12_drives (wsV RX12 221 RX12 yX12_nextRow wsX12_nextRow) := goodIn_app (goodIn_of _ (by decide +kernel)) ggX12_drives_X12_nextRow
theorem dX12_drives_0 : decode cX12_drives 0 = .ok (.aload_n 0, 1) := by decide +kernel
theorem dX12_drives_1 : decode cX12_drives 1 = .ok (.aload_n 0, 1) := by decide +kernel
theorem dX12_drives_2 : decode cX12_drives 2 = .ok (.getfield 9, 3) := by decide +kernel
theorem dX12_drives_5 : decode cX12_drives 5 = .ok (.bipush 7, 2) := by decide +kernel
theorem dX12_drives_7 : decode cX12_drives 7 = .ok (.iaload, 1) := by decide +kernel
theorem dX12_drives_8 : decode cX12_drives 8 = .ok (.putfield 203, 3) := by decide +kernel
theorem dX12_drives_11 : decode cX12_drives 11 = .ok (.iconst 0, 1) := by decide +kernel
theorem dX12_drives_12 : decode cX12_drives 12 = .ok (.istore_n 2, 1) := by decide +kernel
theorem dX12_drives_13 : decode cX12_drives 13 = .ok (.iload_n 2, 1) := by decide +kernel
theorem dX12_drives_14 : decode cX12_drives 14 = .ok (.aload_n 0, 1) := by decide +kernel
theorem dX12_drives_15 : decode cX12_drives 15 = .ok (.getfield 203, 3) := by decide +kernel
theorem dX12_drives_18 : decode cX12_drives 18 = .ok (.if_icmp .ge 16, 3) := by decide +kernel
theorem dX12_drives_21 : decode cX12_drives 21 = .ok (.aload_n 0, 1) := by decide +kernel
theorem dX12_drives_22 : decode cX12_drives 22 = .ok (.getfield 40, 3) := by decide +kernel
theorem dX12_drives_25 : decode cX12_drives 25 = .ok (.iload_n 2, 1) := by decide +kernel
theorem dX12_drives_26 : decode cX12_drives 26 = .ok (.iload_n 2, 1) := by decide +kernel
theorem dX12_drives_27 : decode cX12_drives 27 = .ok (.iastore, 1) := by decide +kernel
theorem dX12_drives_28 : decode cX12_drives 28 = .ok (.iinc 2 1, 3) := by decide +kernel
theorem dX12_drives_31 : decode cX12_drives 31 = .ok (.goto (-18), 3) := by decide +kernel
theorem dX12_drives_34 : decode cX12_drives 34 = .ok (.aload_n 0, 1) := by decide +kernel
theorem dX12_drives_35 : decode cX12_drives 35 = .ok (.ldc 125, 2) := by decide +kernel
theorem dX12_drives_37 : decode cX12_drives 37 = .ok (.putfield 212, 3) := by decide +kernel
theorem dX12_drives_40 : decode cX12_drives 40 = .ok (.iconst 1, 1) := by decide +kernel
theorem dX12_drives_41 : decode cX12_drives 41 = .ok (.istore_n 2, 1) := by decide +kernel
theorem dX12_drives_42 : decode cX12_drives 42 = .ok (.iload_n 2, 1) := by decide +kernel
theorem dX12_drives_43 : decode cX12_drives 43 = .ok (.ifCond .eq 30, 3) := by decide +kernel
theorem dX12_drives_46 : decode cX12_drives 46 = .ok (.aload_n 0, 1) := by decide +kernel
theorem dX12_drives_47 : decode cX12_drives 47 = .ok (.iload_n 1, 1) := by decide +kernel
theorem dX12_drives_48 : decode cX12_drives 48 = .ok (.invokevirtual 215, 3) := by decide +kernel
theorem dX12_drives_51 : decode cX12_drives 51 = .ok (.istore_n 3, 1) := by decide +kernel
theorem dX12_drives_52 : decode cX12_drives 52 = .ok (.iload_n 3, 1) := by decide +kernel
theorem dX12_drives_53 : decode cX12_drives 53 = .ok (.aload_n 0, 1) := by decide +kernel
theorem dX12_drives_54 : decode cX12_drives 54 = .ok (.getfield 212, 3) := by decide +kernel
theorem dX12_drives_57 : decode cX12_drives 57 = .ok (.if_icmp .ge 8, 3) := by decide +kernel
theorem dX12_drives_60 : decode cX12_drives 60 = .ok (.aload_n 0, 1) := by decide +kernel
theorem dX12_drives_61 : decode cX12_drives 61 = .ok (.iload_n 3, 1) := by decide +kernel
theorem dX12_drives_62 : decode cX12_drives 62 = .ok (.invokevirtual 218, 3) := by decide +kernel
theorem dX12_drives_65 : decode cX12_drives 65 = .ok (.aload_n 0, 1) := by decide +kernel
theorem dX12_drives_66 : decode cX12_drives 66 = .ok (.invokevirtual 221, 3) := by decide +kernel
theorem dX12_drives_69 : decode cX12_drives 69 = .ok (.istore_n 2, 1) := by decide +kernel
theorem dX12_drives_70 : decode cX12_drives 70 = .ok (.goto (-28), 3) := by decide +kernel
theorem dX12_drives_73 : decode cX12_drives 73 = .ok (.aload_n 0, 1) := by decide +kernel
theorem dX12_drives_74 : decode cX12_drives 74 = .ok (.getfield 212, 3) := by decide +kernel
theorem dX12_drives_77 : decode cX12_drives 77 = .ok (.ldc 125, 2) := by decide +kernel
theorem dX12_drives_79 : decode cX12_drives 79 = .ok (.if_icmp .ge 7, 3) := by decide +kernel
theorem dX12_drives_82 : decode cX12_drives 82 = .ok (.iconst 1, 1) := by decide +kernel
theorem dX12_drives_83 : decode cX12_drives 83 = .ok (.goto 4, 3) := by decide +kernel
theorem dX12_drives_86 : decode cX12_drives 86 = .ok (.iconst 0, 1) := by decide +kernel
theorem dX12_drives_87 : decode cX12_drives 87 = .ok (.ireturn, 1) := by decide +kernel
set_option maxRecDepth 20000 in
theorem ggX12_comesBack_X12_in : GoodIn wsX12_comesBack wsX12_in := goodIn_r _ [5] (by decide +kernel) (by decide +kernel)
set_option maxRecDepth 20000 in
theorem gX12_comesBack_X12_in : GoodIn wsX12_comesBack (va_wsS RX12 64 yX12_in wsX12_in) := goodIn_app (goodIn_of _ (by decide +kernel)) ggX12_comesBack_X12_in
set_option maxRecDepth 20000 in
theorem ggX12_comesBack_X12_can : GoodIn wsX12_comesBack wsX12_can := goodIn_r _ [9, 10, 39, 40, 41, 42, 43, 44, 45, 46, 47, 48, 49, 50, 51, 52, 53, 54, 55, 56, 57, 58] (by decide +kernel) (by decide +kernel)
set_option maxRecDepth 20000 in
theorem gX12_comesBack_X12_can : GoodIn wsX12_comesBack (wsV RX12 60 RX12 yX12_can wsX12_can) := goodIn_app (goodIn_of _ (by decide +kernel)) ggX12_comesBack_X12_can
set_option maxRecDepth 20000 in
theorem ggX12_comesBack_X12_drives : GoodIn wsX12_comesBack wsX12_drives := goodIn_r _ [14, 15, 16, 17, 18, 1, 19, 20, 21, 4, 22, 23, 24, 25, 26, 27, 28, 29, 30, 31, 32, 33, 34, 35, 36, 37, 38, 39, 40, 41, 42, 43, 44, 45, 46, 47, 48, 49, 50, 51, 52, 53, 54, 55, 56, 57, 58] (by decide +kernel) (by decide +kernel)
set_option maxRecDepth 20000 in
theorem gX12_comesBack_X12_drives : GoodIn wsX12_comesBack (wsV RX12 224 RX12 yX12_drives wsX12_drives) := goodIn_app (goodIn_of _ (by decide +kernel)) ggX12_comesBack_X12_drives
theorem dX12_comesBack_0 : decode cX12_comesBack 0 = .ok (.aload_n 0, 1) := by decide +kernel
theorem dX12_comesBack_1 : decode cX12_comesBack 1 = .ok (.iload_n 1, 1) := by decide +kernel
theorem dX12_comesBack_2 : decode cX12_comesBack 2 = .ok (.iconst 0, 1) := by decide +kernel
theorem dX12_comesBack_3 : decode cX12_comesBack 3 = .ok (.sipush 600, 3) := by decide +kernel
theorem dX12_comesBack_6 : decode cX12_comesBack 6 = .ok (.invokestatic 64, 3) := by decide +kernel
theorem dX12_comesBack_9 : decode cX12_comesBack 9 = .ok (.iconst 1, 1) := by decide +kernel
theorem dX12_comesBack_10 : decode cX12_comesBack 10 = .ok (.invokevirtual 60, 3) := by decide +kernel
theorem dX12_comesBack_13 : decode cX12_comesBack 13 = .ok (.ifCond .eq 23, 3) := by decide +kernel
theorem dX12_comesBack_16 : decode cX12_comesBack 16 = .ok (.aload_n 0, 1) := by decide +kernel
theorem dX12_comesBack_17 : decode cX12_comesBack 17 = .ok (.aload_n 0, 1) := by decide +kernel
theorem dX12_comesBack_18 : decode cX12_comesBack 18 = .ok (.iload_n 1, 1) := by decide +kernel
theorem dX12_comesBack_19 : decode cX12_comesBack 19 = .ok (.invokevirtual 224, 3) := by decide +kernel
theorem dX12_comesBack_22 : decode cX12_comesBack 22 = .ok (.iconst 2, 1) := by decide +kernel
theorem dX12_comesBack_23 : decode cX12_comesBack 23 = .ok (.invokevirtual 60, 3) := by decide +kernel
theorem dX12_comesBack_26 : decode cX12_comesBack 26 = .ok (.ifCond .eq 10, 3) := by decide +kernel
theorem dX12_comesBack_29 : decode cX12_comesBack 29 = .ok (.aload_n 0, 1) := by decide +kernel
theorem dX12_comesBack_30 : decode cX12_comesBack 30 = .ok (.getfield 212, 3) := by decide +kernel
theorem dX12_comesBack_33 : decode cX12_comesBack 33 = .ok (.goto 4, 3) := by decide +kernel
theorem dX12_comesBack_36 : decode cX12_comesBack 36 = .ok (.iconst 0, 1) := by decide +kernel
theorem dX12_comesBack_37 : decode cX12_comesBack 37 = .ok (.ireturn, 1) := by decide +kernel
set_option maxRecDepth 20000 in
theorem ggX12_shopOf_X12_in : GoodIn wsX12_shopOf wsX12_in := goodIn_r _ [6] (by decide +kernel) (by decide +kernel)
set_option maxRecDepth 20000 in
theorem gX12_shopOf_X12_in : GoodIn wsX12_shopOf (va_wsS RX12 64 yX12_in wsX12_in) := goodIn_app (goodIn_of _ (by decide +kernel)) ggX12_shopOf_X12_in
set_option maxRecDepth 20000 in
theorem ggX12_shopOf_X12_can : GoodIn wsX12_shopOf wsX12_can := goodIn_r _ [10, 11, 39, 40, 41, 42, 43, 44, 45, 46, 47, 48, 49, 50, 51, 52, 53, 54, 55, 56, 57, 58] (by decide +kernel) (by decide +kernel)
set_option maxRecDepth 20000 in
theorem gX12_shopOf_X12_can : GoodIn wsX12_shopOf (wsV RX12 60 RX12 yX12_can wsX12_can) := goodIn_app (goodIn_of _ (by decide +kernel)) ggX12_shopOf_X12_can
set_option maxRecDepth 20000 in
theorem ggX12_shopOf_X12_drives : GoodIn wsX12_shopOf wsX12_drives := goodIn_r _ [15, 1, 16, 17, 18, 19, 20, 21, 22, 5, 23, 24, 25, 26, 27, 28, 29, 30, 2, 31, 32, 33, 34, 35, 36, 37, 38, 39, 40, 41, 42, 43, 44, 45, 46, 47, 48, 49, 50, 51, 52, 53, 54, 55, 56, 57, 58] (by decide +kernel) (by decide +kernel)
set_option maxRecDepth 20000 in
theorem gX12_shopOf_X12_drives : GoodIn wsX12_shopOf (wsV RX12 224 RX12 yX12_drives wsX12_drives) := goodIn_app (goodIn_of _ (by decide +kernel)) ggX12_shopOf_X12_drives
theorem dX12_shopOf_0 : decode cX12_shopOf 0 = .ok (.aload_n 0, 1) := by decide +kernel
theorem dX12_shopOf_1 : decode cX12_shopOf 1 = .ok (.iload_n 2, 1) := by decide +kernel
theorem dX12_shopOf_2 : decode cX12_shopOf 2 = .ok (.iconst 0, 1) := by decide +kernel
theorem dX12_shopOf_3 : decode cX12_shopOf 3 = .ok (.aload_n 0, 1) := by decide +kernel
theorem dX12_shopOf_4 : decode cX12_shopOf 4 = .ok (.getfield 9, 3) := by decide +kernel
theorem dX12_shopOf_7 : decode cX12_shopOf 7 = .ok (.bipush 7, 2) := by decide +kernel
theorem dX12_shopOf_9 : decode cX12_shopOf 9 = .ok (.iaload, 1) := by decide +kernel
theorem dX12_shopOf_10 : decode cX12_shopOf 10 = .ok (.iconst 1, 1) := by decide +kernel
theorem dX12_shopOf_11 : decode cX12_shopOf 11 = .ok (.isub, 1) := by decide +kernel
theorem dX12_shopOf_12 : decode cX12_shopOf 12 = .ok (.invokestatic 64, 3) := by decide +kernel
theorem dX12_shopOf_15 : decode cX12_shopOf 15 = .ok (.iconst 1, 1) := by decide +kernel
theorem dX12_shopOf_16 : decode cX12_shopOf 16 = .ok (.invokevirtual 60, 3) := by decide +kernel
theorem dX12_shopOf_19 : decode cX12_shopOf 19 = .ok (.ifCond .eq 32, 3) := by decide +kernel
theorem dX12_shopOf_22 : decode cX12_shopOf 22 = .ok (.aload_n 0, 1) := by decide +kernel
theorem dX12_shopOf_23 : decode cX12_shopOf 23 = .ok (.iload_n 1, 1) := by decide +kernel
theorem dX12_shopOf_24 : decode cX12_shopOf 24 = .ok (.iconst 0, 1) := by decide +kernel
theorem dX12_shopOf_25 : decode cX12_shopOf 25 = .ok (.sipush 600, 3) := by decide +kernel
theorem dX12_shopOf_28 : decode cX12_shopOf 28 = .ok (.invokestatic 64, 3) := by decide +kernel
theorem dX12_shopOf_31 : decode cX12_shopOf 31 = .ok (.iconst 2, 1) := by decide +kernel
theorem dX12_shopOf_32 : decode cX12_shopOf 32 = .ok (.invokevirtual 60, 3) := by decide +kernel
theorem dX12_shopOf_35 : decode cX12_shopOf 35 = .ok (.ifCond .eq 16, 3) := by decide +kernel
theorem dX12_shopOf_38 : decode cX12_shopOf 38 = .ok (.aload_n 0, 1) := by decide +kernel
theorem dX12_shopOf_39 : decode cX12_shopOf 39 = .ok (.aload_n 0, 1) := by decide +kernel
theorem dX12_shopOf_40 : decode cX12_shopOf 40 = .ok (.iload_n 1, 1) := by decide +kernel
theorem dX12_shopOf_41 : decode cX12_shopOf 41 = .ok (.invokevirtual 224, 3) := by decide +kernel
theorem dX12_shopOf_44 : decode cX12_shopOf 44 = .ok (.iconst 3, 1) := by decide +kernel
theorem dX12_shopOf_45 : decode cX12_shopOf 45 = .ok (.invokevirtual 60, 3) := by decide +kernel
theorem dX12_shopOf_48 : decode cX12_shopOf 48 = .ok (.ifCond .ne 5, 3) := by decide +kernel
theorem dX12_shopOf_51 : decode cX12_shopOf 51 = .ok (.iconst 0, 1) := by decide +kernel
theorem dX12_shopOf_52 : decode cX12_shopOf 52 = .ok (.ireturn, 1) := by decide +kernel
theorem dX12_shopOf_53 : decode cX12_shopOf 53 = .ok (.aload_n 0, 1) := by decide +kernel
theorem dX12_shopOf_54 : decode cX12_shopOf 54 = .ok (.getfield 43, 3) := by decide +kernel
theorem dX12_shopOf_57 : decode cX12_shopOf 57 = .ok (.iload_n 2, 1) := by decide +kernel
theorem dX12_shopOf_58 : decode cX12_shopOf 58 = .ok (.iaload, 1) := by decide +kernel
theorem dX12_shopOf_59 : decode cX12_shopOf 59 = .ok (.ireturn, 1) := by decide +kernel
set_option maxRecDepth 20000 in
theorem ggX12_isTold_X12_in : GoodIn wsX12_isTold wsX12_in := goodIn_r _ [7] (by decide +kernel) (by decide +kernel)
set_option maxRecDepth 20000 in
theorem gX12_isTold_X12_in : GoodIn wsX12_isTold (va_wsS RX12 64 yX12_in wsX12_in) := goodIn_app (goodIn_of _ (by decide +kernel)) ggX12_isTold_X12_in
theorem dX12_isTold_0 : decode cX12_isTold 0 = .ok (.aload_n 0, 1) := by decide +kernel
theorem dX12_isTold_1 : decode cX12_isTold 1 = .ok (.aload_n 0, 1) := by decide +kernel
theorem dX12_isTold_2 : decode cX12_isTold 2 = .ok (.getfield 9, 3) := by decide +kernel
theorem dX12_isTold_5 : decode cX12_isTold 5 = .ok (.bipush 7, 2) := by decide +kernel
theorem dX12_isTold_7 : decode cX12_isTold 7 = .ok (.iaload, 1) := by decide +kernel
theorem dX12_isTold_8 : decode cX12_isTold 8 = .ok (.putfield 203, 3) := by decide +kernel
theorem dX12_isTold_11 : decode cX12_isTold 11 = .ok (.iload_n 1, 1) := by decide +kernel
theorem dX12_isTold_12 : decode cX12_isTold 12 = .ok (.istore_n 2, 1) := by decide +kernel
theorem dX12_isTold_13 : decode cX12_isTold 13 = .ok (.iconst 0, 1) := by decide +kernel
theorem dX12_isTold_14 : decode cX12_isTold 14 = .ok (.istore_n 3, 1) := by decide +kernel
theorem dX12_isTold_15 : decode cX12_isTold 15 = .ok (.aload_n 0, 1) := by decide +kernel
theorem dX12_isTold_16 : decode cX12_isTold 16 = .ok (.getfield 203, 3) := by decide +kernel
theorem dX12_isTold_19 : decode cX12_isTold 19 = .ok (.iconst 1, 1) := by decide +kernel
theorem dX12_isTold_20 : decode cX12_isTold 20 = .ok (.isub, 1) := by decide +kernel
theorem dX12_isTold_21 : decode cX12_isTold 21 = .ok (.istore 4, 2) := by decide +kernel
theorem dX12_isTold_23 : decode cX12_isTold 23 = .ok (.iload 4, 2) := by decide +kernel
theorem dX12_isTold_25 : decode cX12_isTold 25 = .ok (.ifCond .lt 61, 3) := by decide +kernel
theorem dX12_isTold_28 : decode cX12_isTold 28 = .ok (.aload_n 0, 1) := by decide +kernel
theorem dX12_isTold_29 : decode cX12_isTold 29 = .ok (.getfield 40, 3) := by decide +kernel
theorem dX12_isTold_32 : decode cX12_isTold 32 = .ok (.iload 4, 2) := by decide +kernel
theorem dX12_isTold_34 : decode cX12_isTold 34 = .ok (.iload_n 2, 1) := by decide +kernel
theorem dX12_isTold_35 : decode cX12_isTold 35 = .ok (.bipush 10, 2) := by decide +kernel
theorem dX12_isTold_37 : decode cX12_isTold 37 = .ok (.irem, 1) := by decide +kernel
theorem dX12_isTold_38 : decode cX12_isTold 38 = .ok (.iastore, 1) := by decide +kernel
theorem dX12_isTold_39 : decode cX12_isTold 39 = .ok (.iload_n 3, 1) := by decide +kernel
theorem dX12_isTold_40 : decode cX12_isTold 40 = .ok (.aload_n 0, 1) := by decide +kernel
theorem dX12_isTold_41 : decode cX12_isTold 41 = .ok (.getfield 40, 3) := by decide +kernel
theorem dX12_isTold_44 : decode cX12_isTold 44 = .ok (.iload 4, 2) := by decide +kernel
theorem dX12_isTold_46 : decode cX12_isTold 46 = .ok (.iaload, 1) := by decide +kernel
theorem dX12_isTold_47 : decode cX12_isTold 47 = .ok (.iconst 0, 1) := by decide +kernel
theorem dX12_isTold_48 : decode cX12_isTold 48 = .ok (.aload_n 0, 1) := by decide +kernel
theorem dX12_isTold_49 : decode cX12_isTold 49 = .ok (.getfield 203, 3) := by decide +kernel
theorem dX12_isTold_52 : decode cX12_isTold 52 = .ok (.iconst 1, 1) := by decide +kernel
theorem dX12_isTold_53 : decode cX12_isTold 53 = .ok (.isub, 1) := by decide +kernel
theorem dX12_isTold_54 : decode cX12_isTold 54 = .ok (.invokestatic 64, 3) := by decide +kernel
theorem dX12_isTold_57 : decode cX12_isTold 57 = .ok (.ifCond .eq 15, 3) := by decide +kernel
theorem dX12_isTold_60 : decode cX12_isTold 60 = .ok (.iconst 1, 1) := by decide +kernel
theorem dX12_isTold_61 : decode cX12_isTold 61 = .ok (.aload_n 0, 1) := by decide +kernel
theorem dX12_isTold_62 : decode cX12_isTold 62 = .ok (.getfield 40, 3) := by decide +kernel
theorem dX12_isTold_65 : decode cX12_isTold 65 = .ok (.iload 4, 2) := by decide +kernel
theorem dX12_isTold_67 : decode cX12_isTold 67 = .ok (.iaload, 1) := by decide +kernel
theorem dX12_isTold_68 : decode cX12_isTold 68 = .ok (.ishl, 1) := by decide +kernel
theorem dX12_isTold_69 : decode cX12_isTold 69 = .ok (.goto 4, 3) := by decide +kernel
theorem dX12_isTold_72 : decode cX12_isTold 72 = .ok (.iconst 0, 1) := by decide +kernel
theorem dX12_isTold_73 : decode cX12_isTold 73 = .ok (.ior, 1) := by decide +kernel
theorem dX12_isTold_74 : decode cX12_isTold 74 = .ok (.istore_n 3, 1) := by decide +kernel
theorem dX12_isTold_75 : decode cX12_isTold 75 = .ok (.iload_n 2, 1) := by decide +kernel
theorem dX12_isTold_76 : decode cX12_isTold 76 = .ok (.bipush 10, 2) := by decide +kernel
theorem dX12_isTold_78 : decode cX12_isTold 78 = .ok (.idiv, 1) := by decide +kernel
theorem dX12_isTold_79 : decode cX12_isTold 79 = .ok (.istore_n 2, 1) := by decide +kernel
theorem dX12_isTold_80 : decode cX12_isTold 80 = .ok (.iinc 4 (-1), 3) := by decide +kernel
theorem dX12_isTold_83 : decode cX12_isTold 83 = .ok (.goto (-60), 3) := by decide +kernel
theorem dX12_isTold_86 : decode cX12_isTold 86 = .ok (.iload_n 1, 1) := by decide +kernel
theorem dX12_isTold_87 : decode cX12_isTold 87 = .ok (.ifCond .lt 23, 3) := by decide +kernel
theorem dX12_isTold_90 : decode cX12_isTold 90 = .ok (.iload_n 2, 1) := by decide +kernel
theorem dX12_isTold_91 : decode cX12_isTold 91 = .ok (.ifCond .ne 19, 3) := by decide +kernel
theorem dX12_isTold_94 : decode cX12_isTold 94 = .ok (.iload_n 3, 1) := by decide +kernel
theorem dX12_isTold_95 : decode cX12_isTold 95 = .ok (.iconst 1, 1) := by decide +kernel
theorem dX12_isTold_96 : decode cX12_isTold 96 = .ok (.aload_n 0, 1) := by decide +kernel
theorem dX12_isTold_97 : decode cX12_isTold 97 = .ok (.getfield 203, 3) := by decide +kernel
theorem dX12_isTold_100 : decode cX12_isTold 100 = .ok (.ishl, 1) := by decide +kernel
theorem dX12_isTold_101 : decode cX12_isTold 101 = .ok (.iconst 1, 1) := by decide +kernel
theorem dX12_isTold_102 : decode cX12_isTold 102 = .ok (.isub, 1) := by decide +kernel
theorem dX12_isTold_103 : decode cX12_isTold 103 = .ok (.if_icmp .ne 7, 3) := by decide +kernel
theorem dX12_isTold_106 : decode cX12_isTold 106 = .ok (.iconst 1, 1) := by decide +kernel
theorem dX12_isTold_107 : decode cX12_isTold 107 = .ok (.goto 4, 3) := by decide +kernel
theorem dX12_isTold_110 : decode cX12_isTold 110 = .ok (.iconst 0, 1) := by decide +kernel
theorem dX12_isTold_111 : decode cX12_isTold 111 = .ok (.ireturn, 1) := by decide +kernel
set_option maxRecDepth 20000 in
theorem ggX12_wayBack_X12_in : GoodIn wsX12_wayBack wsX12_in := goodIn_r _ [5] (by decide +kernel) (by decide +kernel)
set_option maxRecDepth 20000 in
theorem gX12_wayBack_X12_in : GoodIn wsX12_wayBack (va_wsS RX12 64 yX12_in wsX12_in) := goodIn_app (goodIn_of _ (by decide +kernel)) ggX12_wayBack_X12_in
set_option maxRecDepth 20000 in
theorem ggX12_wayBack_X12_isTold : GoodIn wsX12_wayBack wsX12_isTold := goodIn_r _ [9, 10, 11, 12, 2, 3, 4, 5, 25, 26, 27, 28, 29, 30, 31, 32, 33, 34, 35, 36, 37, 38, 39, 40, 41, 42, 43, 44] (by decide +kernel) (by decide +kernel)
set_option maxRecDepth 20000 in
theorem gX12_wayBack_X12_isTold : GoodIn wsX12_wayBack (wsV RX12 227 RX12 yX12_isTold wsX12_isTold) := goodIn_app (goodIn_of _ (by decide +kernel)) ggX12_wayBack_X12_isTold
set_option maxRecDepth 20000 in
theorem ggX12_wayBack_X12_can : GoodIn wsX12_wayBack wsX12_can := goodIn_r _ [16, 17, 25, 26, 27, 28, 29, 30, 31, 32, 33, 34, 35, 36, 37, 38, 39, 40, 41, 42, 43, 44] (by decide +kernel) (by decide +kernel)
set_option maxRecDepth 20000 in
theorem gX12_wayBack_X12_can : GoodIn wsX12_wayBack (wsV RX12 60 RX12 yX12_can wsX12_can) := goodIn_app (goodIn_of _ (by decide +kernel)) ggX12_wayBack_X12_can
set_option maxRecDepth 20000 in
theorem ggX12_wayBack_X12_back : GoodIn wsX12_wayBack wsX12_back := goodIn_r _ [21, 11, 12, 10, 1, 22, 23, 4, 24, 25, 26, 27, 28, 29, 30, 31, 32, 33, 34, 35, 36, 37, 38, 39, 40, 41, 42, 43, 44] (by decide +kernel) (by decide +kernel)
set_option maxRecDepth 20000 in
theorem gX12_wayBack_X12_back : GoodIn wsX12_wayBack (wsV RX12 215 RX12 yX12_back wsX12_back) := goodIn_app (goodIn_of _ (by decide +kernel)) ggX12_wayBack_X12_back
theorem dX12_wayBack_0 : decode cX12_wayBack 0 = .ok (.aload_n 0, 1) := by decide +kernel
theorem dX12_wayBack_1 : decode cX12_wayBack 1 = .ok (.iload_n 1, 1) := by decide +kernel
theorem dX12_wayBack_2 : decode cX12_wayBack 2 = .ok (.iconst 0, 1) := by decide +kernel
theorem dX12_wayBack_3 : decode cX12_wayBack 3 = .ok (.sipush 600, 3) := by decide +kernel
theorem dX12_wayBack_6 : decode cX12_wayBack 6 = .ok (.invokestatic 64, 3) := by decide +kernel
theorem dX12_wayBack_9 : decode cX12_wayBack 9 = .ok (.ifCond .eq 15, 3) := by decide +kernel
theorem dX12_wayBack_12 : decode cX12_wayBack 12 = .ok (.aload_n 0, 1) := by decide +kernel
theorem dX12_wayBack_13 : decode cX12_wayBack 13 = .ok (.iload_n 2, 1) := by decide +kernel
theorem dX12_wayBack_14 : decode cX12_wayBack 14 = .ok (.invokevirtual 227, 3) := by decide +kernel
theorem dX12_wayBack_17 : decode cX12_wayBack 17 = .ok (.ifCond .eq 7, 3) := by decide +kernel
theorem dX12_wayBack_20 : decode cX12_wayBack 20 = .ok (.iconst 1, 1) := by decide +kernel
theorem dX12_wayBack_21 : decode cX12_wayBack 21 = .ok (.goto 4, 3) := by decide +kernel
theorem dX12_wayBack_24 : decode cX12_wayBack 24 = .ok (.iconst 0, 1) := by decide +kernel
theorem dX12_wayBack_25 : decode cX12_wayBack 25 = .ok (.iconst 1, 1) := by decide +kernel
theorem dX12_wayBack_26 : decode cX12_wayBack 26 = .ok (.invokevirtual 60, 3) := by decide +kernel
theorem dX12_wayBack_29 : decode cX12_wayBack 29 = .ok (.ifCond .ne 5, 3) := by decide +kernel
theorem dX12_wayBack_32 : decode cX12_wayBack 32 = .ok (.iconst 0, 1) := by decide +kernel
theorem dX12_wayBack_33 : decode cX12_wayBack 33 = .ok (.ireturn, 1) := by decide +kernel
theorem dX12_wayBack_34 : decode cX12_wayBack 34 = .ok (.aload_n 0, 1) := by decide +kernel
theorem dX12_wayBack_35 : decode cX12_wayBack 35 = .ok (.iload_n 1, 1) := by decide +kernel
theorem dX12_wayBack_36 : decode cX12_wayBack 36 = .ok (.invokevirtual 215, 3) := by decide +kernel
theorem dX12_wayBack_39 : decode cX12_wayBack 39 = .ok (.istore_n 3, 1) := by decide +kernel
theorem dX12_wayBack_40 : decode cX12_wayBack 40 = .ok (.iload_n 3, 1) := by decide +kernel
theorem dX12_wayBack_41 : decode cX12_wayBack 41 = .ok (.ldc 125, 2) := by decide +kernel
theorem dX12_wayBack_43 : decode cX12_wayBack 43 = .ok (.if_icmp .ne 7, 3) := by decide +kernel
theorem dX12_wayBack_46 : decode cX12_wayBack 46 = .ok (.iconst (-1), 1) := by decide +kernel
theorem dX12_wayBack_47 : decode cX12_wayBack 47 = .ok (.goto 4, 3) := by decide +kernel
theorem dX12_wayBack_50 : decode cX12_wayBack 50 = .ok (.iload_n 3, 1) := by decide +kernel
theorem dX12_wayBack_51 : decode cX12_wayBack 51 = .ok (.ireturn, 1) := by decide +kernel
theorem dX12_cleans_0 : decode cX12_cleans 0 = .ok (.aload_n 0, 1) := by decide +kernel
theorem dX12_cleans_1 : decode cX12_cleans 1 = .ok (.getfield 9, 3) := by decide +kernel
theorem dX12_cleans_4 : decode cX12_cleans 4 = .ok (.bipush 43, 2) := by decide +kernel
theorem dX12_cleans_6 : decode cX12_cleans 6 = .ok (.iload_n 1, 1) := by decide +kernel
theorem dX12_cleans_7 : decode cX12_cleans 7 = .ok (.iadd, 1) := by decide +kernel
theorem dX12_cleans_8 : decode cX12_cleans 8 = .ok (.iaload, 1) := by decide +kernel
theorem dX12_cleans_9 : decode cX12_cleans 9 = .ok (.aload_n 0, 1) := by decide +kernel
theorem dX12_cleans_10 : decode cX12_cleans 10 = .ok (.getfield 9, 3) := by decide +kernel
theorem dX12_cleans_13 : decode cX12_cleans 13 = .ok (.bipush 43, 2) := by decide +kernel
theorem dX12_cleans_15 : decode cX12_cleans 15 = .ok (.iload_n 2, 1) := by decide +kernel
theorem dX12_cleans_16 : decode cX12_cleans 16 = .ok (.iadd, 1) := by decide +kernel
theorem dX12_cleans_17 : decode cX12_cleans 17 = .ok (.iaload, 1) := by decide +kernel
theorem dX12_cleans_18 : decode cX12_cleans 18 = .ok (.iconst (-1), 1) := by decide +kernel
theorem dX12_cleans_19 : decode cX12_cleans 19 = .ok (.ixor, 1) := by decide +kernel
theorem dX12_cleans_20 : decode cX12_cleans 20 = .ok (.iand, 1) := by decide +kernel
theorem dX12_cleans_21 : decode cX12_cleans 21 = .ok (.istore_n 3, 1) := by decide +kernel
theorem dX12_cleans_22 : decode cX12_cleans 22 = .ok (.iconst 3, 1) := by decide +kernel
theorem dX12_cleans_23 : decode cX12_cleans 23 = .ok (.iload_n 3, 1) := by decide +kernel
theorem dX12_cleans_24 : decode cX12_cleans 24 = .ok (.iconst 1, 1) := by decide +kernel
theorem dX12_cleans_25 : decode cX12_cleans 25 = .ok (.iand, 1) := by decide +kernel
theorem dX12_cleans_26 : decode cX12_cleans 26 = .ok (.imul, 1) := by decide +kernel
theorem dX12_cleans_27 : decode cX12_cleans 27 = .ok (.iconst 5, 1) := by decide +kernel
theorem dX12_cleans_28 : decode cX12_cleans 28 = .ok (.iload_n 3, 1) := by decide +kernel
theorem dX12_cleans_29 : decode cX12_cleans 29 = .ok (.iconst 1, 1) := by decide +kernel
theorem dX12_cleans_30 : decode cX12_cleans 30 = .ok (.ishr, 1) := by decide +kernel
theorem dX12_cleans_31 : decode cX12_cleans 31 = .ok (.iconst 1, 1) := by decide +kernel
theorem dX12_cleans_32 : decode cX12_cleans 32 = .ok (.iand, 1) := by decide +kernel
theorem dX12_cleans_33 : decode cX12_cleans 33 = .ok (.imul, 1) := by decide +kernel
theorem dX12_cleans_34 : decode cX12_cleans 34 = .ok (.iadd, 1) := by decide +kernel
theorem dX12_cleans_35 : decode cX12_cleans 35 = .ok (.iconst 2, 1) := by decide +kernel
theorem dX12_cleans_36 : decode cX12_cleans 36 = .ok (.iload_n 3, 1) := by decide +kernel
theorem dX12_cleans_37 : decode cX12_cleans 37 = .ok (.iconst 2, 1) := by decide +kernel
theorem dX12_cleans_38 : decode cX12_cleans 38 = .ok (.ishr, 1) := by decide +kernel
theorem dX12_cleans_39 : decode cX12_cleans 39 = .ok (.iconst 1, 1) := by decide +kernel
theorem dX12_cleans_40 : decode cX12_cleans 40 = .ok (.iand, 1) := by decide +kernel
theorem dX12_cleans_41 : decode cX12_cleans 41 = .ok (.imul, 1) := by decide +kernel
theorem dX12_cleans_42 : decode cX12_cleans 42 = .ok (.iadd, 1) := by decide +kernel
theorem dX12_cleans_43 : decode cX12_cleans 43 = .ok (.iconst 4, 1) := by decide +kernel
theorem dX12_cleans_44 : decode cX12_cleans 44 = .ok (.iload_n 3, 1) := by decide +kernel
theorem dX12_cleans_45 : decode cX12_cleans 45 = .ok (.iconst 3, 1) := by decide +kernel
theorem dX12_cleans_46 : decode cX12_cleans 46 = .ok (.ishr, 1) := by decide +kernel
theorem dX12_cleans_47 : decode cX12_cleans 47 = .ok (.iconst 1, 1) := by decide +kernel
theorem dX12_cleans_48 : decode cX12_cleans 48 = .ok (.iand, 1) := by decide +kernel
theorem dX12_cleans_49 : decode cX12_cleans 49 = .ok (.imul, 1) := by decide +kernel
theorem dX12_cleans_50 : decode cX12_cleans 50 = .ok (.iadd, 1) := by decide +kernel
theorem dX12_cleans_51 : decode cX12_cleans 51 = .ok (.ireturn, 1) := by decide +kernel
set_option maxRecDepth 20000 in
theorem ggX12_priceOfRow_X12_cleans : GoodIn wsX12_priceOfRow wsX12_cleans := goodIn_r _ [7, 8, 9, 10, 11, 12, 13, 14, 15, 16, 17, 18, 19, 20, 21, 22, 23, 24, 25, 26, 27, 28] (by decide +kernel) (by decide +kernel)
set_option maxRecDepth 20000 in
theorem gX12_priceOfRow_X12_cleans : GoodIn wsX12_priceOfRow (wsV RX12 230 RX12 yX12_cleans wsX12_cleans) := goodIn_app (goodIn_of _ (by decide +kernel)) ggX12_priceOfRow_X12_cleans
theorem dX12_priceOfRow_0 : decode cX12_priceOfRow 0 = .ok (.iconst 0, 1) := by decide +kernel
theorem dX12_priceOfRow_1 : decode cX12_priceOfRow 1 = .ok (.istore_n 1, 1) := by decide +kernel
theorem dX12_priceOfRow_2 : decode cX12_priceOfRow 2 = .ok (.iconst 1, 1) := by decide +kernel
theorem dX12_priceOfRow_3 : decode cX12_priceOfRow 3 = .ok (.istore_n 2, 1) := by decide +kernel
theorem dX12_priceOfRow_4 : decode cX12_priceOfRow 4 = .ok (.iload_n 2, 1) := by decide +kernel
theorem dX12_priceOfRow_5 : decode cX12_priceOfRow 5 = .ok (.aload_n 0, 1) := by decide +kernel
theorem dX12_priceOfRow_6 : decode cX12_priceOfRow 6 = .ok (.getfield 203, 3) := by decide +kernel
theorem dX12_priceOfRow_9 : decode cX12_priceOfRow 9 = .ok (.if_icmp .ge 30, 3) := by decide +kernel
theorem dX12_priceOfRow_12 : decode cX12_priceOfRow 12 = .ok (.iload_n 1, 1) := by decide +kernel
theorem dX12_priceOfRow_13 : decode cX12_priceOfRow 13 = .ok (.aload_n 0, 1) := by decide +kernel
theorem dX12_priceOfRow_14 : decode cX12_priceOfRow 14 = .ok (.aload_n 0, 1) := by decide +kernel
theorem dX12_priceOfRow_15 : decode cX12_priceOfRow 15 = .ok (.getfield 40, 3) := by decide +kernel
theorem dX12_priceOfRow_18 : decode cX12_priceOfRow 18 = .ok (.iload_n 2, 1) := by decide +kernel
theorem dX12_priceOfRow_19 : decode cX12_priceOfRow 19 = .ok (.iconst 1, 1) := by decide +kernel
theorem dX12_priceOfRow_20 : decode cX12_priceOfRow 20 = .ok (.isub, 1) := by decide +kernel
theorem dX12_priceOfRow_21 : decode cX12_priceOfRow 21 = .ok (.iaload, 1) := by decide +kernel
theorem dX12_priceOfRow_22 : decode cX12_priceOfRow 22 = .ok (.aload_n 0, 1) := by decide +kernel
theorem dX12_priceOfRow_23 : decode cX12_priceOfRow 23 = .ok (.getfield 40, 3) := by decide +kernel
theorem dX12_priceOfRow_26 : decode cX12_priceOfRow 26 = .ok (.iload_n 2, 1) := by decide +kernel
theorem dX12_priceOfRow_27 : decode cX12_priceOfRow 27 = .ok (.iaload, 1) := by decide +kernel
theorem dX12_priceOfRow_28 : decode cX12_priceOfRow 28 = .ok (.invokevirtual 230, 3) := by decide +kernel
theorem dX12_priceOfRow_31 : decode cX12_priceOfRow 31 = .ok (.iadd, 1) := by decide +kernel
theorem dX12_priceOfRow_32 : decode cX12_priceOfRow 32 = .ok (.istore_n 1, 1) := by decide +kernel
theorem dX12_priceOfRow_33 : decode cX12_priceOfRow 33 = .ok (.iinc 2 1, 3) := by decide +kernel
theorem dX12_priceOfRow_36 : decode cX12_priceOfRow 36 = .ok (.goto (-32), 3) := by decide +kernel
theorem dX12_priceOfRow_39 : decode cX12_priceOfRow 39 = .ok (.iload_n 1, 1) := by decide +kernel
theorem dX12_priceOfRow_40 : decode cX12_priceOfRow 40 = .ok (.ireturn, 1) := by decide +kernel
set_option maxRecDepth 20000 in
theorem ggX12_rows_X12_priceOfRow : GoodIn wsX12_rows wsX12_priceOfRow := goodIn_r _ [9, 1, 2, 10, 11, 12, 8, 13, 14, 28, 29, 30, 31, 32, 33, 34, 35, 36, 37, 38, 39, 40, 41, 42, 43, 44, 45, 46, 47] (by decide +kernel) (by decide +kernel)
set_option maxRecDepth 20000 in
theorem gX12_rows_X12_priceOfRow : GoodIn wsX12_rows (wsV RX12 233 RX12 yX12_priceOfRow wsX12_priceOfRow) := goodIn_app (goodIn_of _ (by decide +kernel)) ggX12_rows_X12_priceOfRow
set_option maxRecDepth 20000 in
theorem ggX12_rows_X12_keepsRow : GoodIn wsX12_rows wsX12_keepsRow := goodIn_r _ [18, 4, 1, 19, 2, 28, 29, 30, 31, 32, 33, 34, 35, 36, 37, 38, 39, 40, 41, 42, 43, 44, 45, 46, 47] (by decide +kernel) (by decide +kernel)
set_option maxRecDepth 20000 in
theorem gX12_rows_X12_keepsRow : GoodIn wsX12_rows (wsV RX12 218 RX12 yX12_keepsRow wsX12_keepsRow) := goodIn_app (goodIn_of _ (by decide +kernel)) ggX12_rows_X12_keepsRow
set_option maxRecDepth 20000 in
theorem ggX12_rows_X12_nextRow : GoodIn wsX12_rows wsX12_nextRow := goodIn_r _ [23, 1, 2, 24, 25, 26, 8, 27, 28, 29, 30, 31, 32, 33, 34, 35, 36, 37, 38, 39, 40, 41, 42, 43, 44, 45, 46, 47] (by decide +kernel) (by decide +kernel)
set_option maxRecDepth 20000 in
theorem gX12_rows_X12_nextRow : GoodIn wsX12_rows (wsV RX12 221 RX12 yX12_nextRow wsX12_nextRow) := goodIn_app (goodIn_of _ (by decide +kernel)) ggX12_rows_X12_nextRow
theorem dX12_rows_0 : decode cX12_rows 0 = .ok (.aload_n 0, 1) := by decide +kernel
theorem dX12_rows_1 : decode cX12_rows 1 = .ok (.iconst 0, 1) := by decide +kernel
theorem dX12_rows_2 : decode cX12_rows 2 = .ok (.putfield 203, 3) := by decide +kernel
theorem dX12_rows_5 : decode cX12_rows 5 = .ok (.iconst 0, 1) := by decide +kernel
theorem dX12_rows_6 : decode cX12_rows 6 = .ok (.istore_n 2, 1) := by decide +kernel
theorem dX12_rows_7 : decode cX12_rows 7 = .ok (.iload_n 2, 1) := by decide +kernel
theorem dX12_rows_8 : decode cX12_rows 8 = .ok (.bipush 6, 2) := by decide +kernel
theorem dX12_rows_10 : decode cX12_rows 10 = .ok (.if_icmp .ge 38, 3) := by decide +kernel
theorem dX12_rows_13 : decode cX12_rows 13 = .ok (.iload_n 1, 1) := by decide +kernel
theorem dX12_rows_14 : decode cX12_rows 14 = .ok (.iload_n 2, 1) := by decide +kernel
theorem dX12_rows_15 : decode cX12_rows 15 = .ok (.ishr, 1) := by decide +kernel
theorem dX12_rows_16 : decode cX12_rows 16 = .ok (.iconst 1, 1) := by decide +kernel
theorem dX12_rows_17 : decode cX12_rows 17 = .ok (.iand, 1) := by decide +kernel
theorem dX12_rows_18 : decode cX12_rows 18 = .ok (.iconst 1, 1) := by decide +kernel
theorem dX12_rows_19 : decode cX12_rows 19 = .ok (.if_icmp .ne 23, 3) := by decide +kernel
theorem dX12_rows_22 : decode cX12_rows 22 = .ok (.aload_n 0, 1) := by decide +kernel
theorem dX12_rows_23 : decode cX12_rows 23 = .ok (.getfield 40, 3) := by decide +kernel
theorem dX12_rows_26 : decode cX12_rows 26 = .ok (.aload_n 0, 1) := by decide +kernel
theorem dX12_rows_27 : decode cX12_rows 27 = .ok (.getfield 203, 3) := by decide +kernel
theorem dX12_rows_30 : decode cX12_rows 30 = .ok (.iload_n 2, 1) := by decide +kernel
theorem dX12_rows_31 : decode cX12_rows 31 = .ok (.iastore, 1) := by decide +kernel
theorem dX12_rows_32 : decode cX12_rows 32 = .ok (.aload_n 0, 1) := by decide +kernel
theorem dX12_rows_33 : decode cX12_rows 33 = .ok (.dup, 1) := by decide +kernel
theorem dX12_rows_34 : decode cX12_rows 34 = .ok (.getfield 203, 3) := by decide +kernel
theorem dX12_rows_37 : decode cX12_rows 37 = .ok (.iconst 1, 1) := by decide +kernel
theorem dX12_rows_38 : decode cX12_rows 38 = .ok (.iadd, 1) := by decide +kernel
theorem dX12_rows_39 : decode cX12_rows 39 = .ok (.putfield 203, 3) := by decide +kernel
theorem dX12_rows_42 : decode cX12_rows 42 = .ok (.iinc 2 1, 3) := by decide +kernel
theorem dX12_rows_45 : decode cX12_rows 45 = .ok (.goto (-38), 3) := by decide +kernel
theorem dX12_rows_48 : decode cX12_rows 48 = .ok (.aload_n 0, 1) := by decide +kernel
theorem dX12_rows_49 : decode cX12_rows 49 = .ok (.ldc 125, 2) := by decide +kernel
theorem dX12_rows_51 : decode cX12_rows 51 = .ok (.putfield 212, 3) := by decide +kernel
theorem dX12_rows_54 : decode cX12_rows 54 = .ok (.iconst 1, 1) := by decide +kernel
theorem dX12_rows_55 : decode cX12_rows 55 = .ok (.istore_n 2, 1) := by decide +kernel
theorem dX12_rows_56 : decode cX12_rows 56 = .ok (.iload_n 2, 1) := by decide +kernel
theorem dX12_rows_57 : decode cX12_rows 57 = .ok (.ifCond .eq 29, 3) := by decide +kernel
theorem dX12_rows_60 : decode cX12_rows 60 = .ok (.aload_n 0, 1) := by decide +kernel
theorem dX12_rows_61 : decode cX12_rows 61 = .ok (.invokevirtual 233, 3) := by decide +kernel
theorem dX12_rows_64 : decode cX12_rows 64 = .ok (.istore_n 3, 1) := by decide +kernel
theorem dX12_rows_65 : decode cX12_rows 65 = .ok (.iload_n 3, 1) := by decide +kernel
theorem dX12_rows_66 : decode cX12_rows 66 = .ok (.aload_n 0, 1) := by decide +kernel
theorem dX12_rows_67 : decode cX12_rows 67 = .ok (.getfield 212, 3) := by decide +kernel
theorem dX12_rows_70 : decode cX12_rows 70 = .ok (.if_icmp .ge 8, 3) := by decide +kernel
theorem dX12_rows_73 : decode cX12_rows 73 = .ok (.aload_n 0, 1) := by decide +kernel
theorem dX12_rows_74 : decode cX12_rows 74 = .ok (.iload_n 3, 1) := by decide +kernel
theorem dX12_rows_75 : decode cX12_rows 75 = .ok (.invokevirtual 218, 3) := by decide +kernel
theorem dX12_rows_78 : decode cX12_rows 78 = .ok (.aload_n 0, 1) := by decide +kernel
theorem dX12_rows_79 : decode cX12_rows 79 = .ok (.invokevirtual 221, 3) := by decide +kernel
theorem dX12_rows_82 : decode cX12_rows 82 = .ok (.istore_n 2, 1) := by decide +kernel
theorem dX12_rows_83 : decode cX12_rows 83 = .ok (.goto (-27), 3) := by decide +kernel
theorem dX12_rows_86 : decode cX12_rows 86 = .ok (.return_, 1) := by decide +kernel
set_option maxRecDepth 20000 in
theorem ggX12_isSet_X12_in : GoodIn wsX12_isSet wsX12_in := goodIn_r _ [5] (by decide +kernel) (by decide +kernel)
set_option maxRecDepth 20000 in
theorem gX12_isSet_X12_in : GoodIn wsX12_isSet (va_wsS RX12 64 yX12_in wsX12_in) := goodIn_app (goodIn_of _ (by decide +kernel)) ggX12_isSet_X12_in
theorem dX12_isSet_0 : decode cX12_isSet 0 = .ok (.iload_n 1, 1) := by decide +kernel
theorem dX12_isSet_1 : decode cX12_isSet 1 = .ok (.iconst 0, 1) := by decide +kernel
theorem dX12_isSet_2 : decode cX12_isSet 2 = .ok (.iconst 1, 1) := by decide +kernel
theorem dX12_isSet_3 : decode cX12_isSet 3 = .ok (.aload_n 0, 1) := by decide +kernel
theorem dX12_isSet_4 : decode cX12_isSet 4 = .ok (.getfield 9, 3) := by decide +kernel
theorem dX12_isSet_7 : decode cX12_isSet 7 = .ok (.iconst 5, 1) := by decide +kernel
theorem dX12_isSet_8 : decode cX12_isSet 8 = .ok (.iaload, 1) := by decide +kernel
theorem dX12_isSet_9 : decode cX12_isSet 9 = .ok (.ishl, 1) := by decide +kernel
theorem dX12_isSet_10 : decode cX12_isSet 10 = .ok (.iconst 1, 1) := by decide +kernel
theorem dX12_isSet_11 : decode cX12_isSet 11 = .ok (.isub, 1) := by decide +kernel
theorem dX12_isSet_12 : decode cX12_isSet 12 = .ok (.invokestatic 64, 3) := by decide +kernel
theorem dX12_isSet_15 : decode cX12_isSet 15 = .ok (.ireturn, 1) := by decide +kernel
set_option maxRecDepth 20000 in
theorem ggX12_cleaning_X12_isSet : GoodIn wsX12_cleaning wsX12_isSet := goodIn_r _ [6, 7, 8, 9, 5, 10, 44, 45, 46, 47, 48, 49, 50, 51, 52, 53, 54, 55, 56, 57, 58, 59, 60, 61, 62, 63] (by decide +kernel) (by decide +kernel)
set_option maxRecDepth 20000 in
theorem gX12_cleaning_X12_isSet : GoodIn wsX12_cleaning (wsV RX12 236 RX12 yX12_isSet wsX12_isSet) := goodIn_app (goodIn_of _ (by decide +kernel)) ggX12_cleaning_X12_isSet
set_option maxRecDepth 20000 in
theorem ggX12_cleaning_X12_can : GoodIn wsX12_cleaning wsX12_can := goodIn_r _ [14, 15, 44, 45, 46, 47, 48, 49, 50, 51, 52, 53, 54, 55, 56, 57, 58, 59, 60, 61, 62, 63] (by decide +kernel) (by decide +kernel)
set_option maxRecDepth 20000 in
theorem gX12_cleaning_X12_can : GoodIn wsX12_cleaning (wsV RX12 60 RX12 yX12_can wsX12_can) := goodIn_app (goodIn_of _ (by decide +kernel)) ggX12_cleaning_X12_can
set_option maxRecDepth 20000 in
theorem ggX12_cleaning_X12_rows : GoodIn wsX12_cleaning wsX12_rows := goodIn_r _ [19, 20, 21, 22, 1, 23, 24, 25, 5, 26, 27, 28, 29, 30, 7, 31, 32, 33, 34, 35, 36, 37, 38, 39, 40, 41, 42, 43, 44, 45, 46, 47, 48, 49, 50, 51, 52, 53, 54, 55, 56, 57, 58, 59, 60, 61, 62, 63] (by decide +kernel) (by decide +kernel)
set_option maxRecDepth 20000 in
theorem gX12_cleaning_X12_rows : GoodIn wsX12_cleaning (wsV RX12 239 RX12 yX12_rows wsX12_rows) := goodIn_app (goodIn_of _ (by decide +kernel)) ggX12_cleaning_X12_rows
theorem dX12_cleaning_0 : decode cX12_cleaning 0 = .ok (.aload_n 0, 1) := by decide +kernel
theorem dX12_cleaning_1 : decode cX12_cleaning 1 = .ok (.aload_n 0, 1) := by decide +kernel
theorem dX12_cleaning_2 : decode cX12_cleaning 2 = .ok (.iload_n 1, 1) := by decide +kernel
theorem dX12_cleaning_3 : decode cX12_cleaning 3 = .ok (.invokevirtual 236, 3) := by decide +kernel
theorem dX12_cleaning_6 : decode cX12_cleaning 6 = .ok (.iconst 1, 1) := by decide +kernel
theorem dX12_cleaning_7 : decode cX12_cleaning 7 = .ok (.invokevirtual 60, 3) := by decide +kernel
theorem dX12_cleaning_10 : decode cX12_cleaning 10 = .ok (.ifCond .ne 5, 3) := by decide +kernel
theorem dX12_cleaning_13 : decode cX12_cleaning 13 = .ok (.iconst 0, 1) := by decide +kernel
theorem dX12_cleaning_14 : decode cX12_cleaning 14 = .ok (.ireturn, 1) := by decide +kernel
theorem dX12_cleaning_15 : decode cX12_cleaning 15 = .ok (.aload_n 0, 1) := by decide +kernel
theorem dX12_cleaning_16 : decode cX12_cleaning 16 = .ok (.iload_n 1, 1) := by decide +kernel
theorem dX12_cleaning_17 : decode cX12_cleaning 17 = .ok (.invokevirtual 239, 3) := by decide +kernel
theorem dX12_cleaning_20 : decode cX12_cleaning 20 = .ok (.aload_n 0, 1) := by decide +kernel
theorem dX12_cleaning_21 : decode cX12_cleaning 21 = .ok (.getfield 212, 3) := by decide +kernel
theorem dX12_cleaning_24 : decode cX12_cleaning 24 = .ok (.ireturn, 1) := by decide +kernel
set_option maxRecDepth 20000 in
theorem ggX12_rowAt_X12_isSet : GoodIn wsX12_rowAt wsX12_isSet := goodIn_r _ [7, 8, 9, 10, 6, 11, 44, 45, 46, 47, 48, 49, 50, 51, 52, 53, 54, 55, 56, 57, 58, 59, 60, 61, 62, 63] (by decide +kernel) (by decide +kernel)
set_option maxRecDepth 20000 in
theorem gX12_rowAt_X12_isSet : GoodIn wsX12_rowAt (wsV RX12 236 RX12 yX12_isSet wsX12_isSet) := goodIn_app (goodIn_of _ (by decide +kernel)) ggX12_rowAt_X12_isSet
set_option maxRecDepth 20000 in
theorem ggX12_rowAt_X12_can : GoodIn wsX12_rowAt wsX12_can := goodIn_r _ [15, 16, 44, 45, 46, 47, 48, 49, 50, 51, 52, 53, 54, 55, 56, 57, 58, 59, 60, 61, 62, 63] (by decide +kernel) (by decide +kernel)
set_option maxRecDepth 20000 in
theorem gX12_rowAt_X12_can : GoodIn wsX12_rowAt (wsV RX12 60 RX12 yX12_can wsX12_can) := goodIn_app (goodIn_of _ (by decide +kernel)) ggX12_rowAt_X12_can
set_option maxRecDepth 20000 in
theorem ggX12_rowAt_X12_rows : GoodIn wsX12_rowAt wsX12_rows := goodIn_r _ [20, 1, 21, 22, 23, 24, 25, 26, 6, 27, 28, 29, 30, 31, 8, 32, 33, 34, 35, 2, 36, 37, 38, 39, 40, 41, 42, 43, 44, 45, 46, 47, 48, 49, 50, 51, 52, 53, 54, 55, 56, 57, 58, 59, 60, 61, 62, 63] (by decide +kernel) (by decide +kernel)
set_option maxRecDepth 20000 in
theorem gX12_rowAt_X12_rows : GoodIn wsX12_rowAt (wsV RX12 239 RX12 yX12_rows wsX12_rows) := goodIn_app (goodIn_of _ (by decide +kernel)) ggX12_rowAt_X12_rows
set_option maxRecDepth 20000 in
theorem ggX12_rowAt_X12_in : GoodIn wsX12_rowAt wsX12_in := goodIn_r _ [11] (by decide +kernel) (by decide +kernel)
set_option maxRecDepth 20000 in
theorem gX12_rowAt_X12_in : GoodIn wsX12_rowAt (va_wsS RX12 64 yX12_in wsX12_in) := goodIn_app (goodIn_of _ (by decide +kernel)) ggX12_rowAt_X12_in
theorem dX12_rowAt_0 : decode cX12_rowAt 0 = .ok (.aload_n 0, 1) := by decide +kernel
theorem dX12_rowAt_1 : decode cX12_rowAt 1 = .ok (.aload_n 0, 1) := by decide +kernel
theorem dX12_rowAt_2 : decode cX12_rowAt 2 = .ok (.iload_n 1, 1) := by decide +kernel
theorem dX12_rowAt_3 : decode cX12_rowAt 3 = .ok (.invokevirtual 236, 3) := by decide +kernel
theorem dX12_rowAt_6 : decode cX12_rowAt 6 = .ok (.iconst 1, 1) := by decide +kernel
theorem dX12_rowAt_7 : decode cX12_rowAt 7 = .ok (.invokevirtual 60, 3) := by decide +kernel
theorem dX12_rowAt_10 : decode cX12_rowAt 10 = .ok (.ifCond .ne 5, 3) := by decide +kernel
theorem dX12_rowAt_13 : decode cX12_rowAt 13 = .ok (.iconst 0, 1) := by decide +kernel
theorem dX12_rowAt_14 : decode cX12_rowAt 14 = .ok (.ireturn, 1) := by decide +kernel
theorem dX12_rowAt_15 : decode cX12_rowAt 15 = .ok (.aload_n 0, 1) := by decide +kernel
theorem dX12_rowAt_16 : decode cX12_rowAt 16 = .ok (.iload_n 1, 1) := by decide +kernel
theorem dX12_rowAt_17 : decode cX12_rowAt 17 = .ok (.invokevirtual 239, 3) := by decide +kernel
theorem dX12_rowAt_20 : decode cX12_rowAt 20 = .ok (.aload_n 0, 1) := by decide +kernel
theorem dX12_rowAt_21 : decode cX12_rowAt 21 = .ok (.iload_n 2, 1) := by decide +kernel
theorem dX12_rowAt_22 : decode cX12_rowAt 22 = .ok (.iconst 0, 1) := by decide +kernel
theorem dX12_rowAt_23 : decode cX12_rowAt 23 = .ok (.aload_n 0, 1) := by decide +kernel
theorem dX12_rowAt_24 : decode cX12_rowAt 24 = .ok (.getfield 203, 3) := by decide +kernel
theorem dX12_rowAt_27 : decode cX12_rowAt 27 = .ok (.iconst 1, 1) := by decide +kernel
theorem dX12_rowAt_28 : decode cX12_rowAt 28 = .ok (.isub, 1) := by decide +kernel
theorem dX12_rowAt_29 : decode cX12_rowAt 29 = .ok (.invokestatic 64, 3) := by decide +kernel
theorem dX12_rowAt_32 : decode cX12_rowAt 32 = .ok (.iconst 2, 1) := by decide +kernel
theorem dX12_rowAt_33 : decode cX12_rowAt 33 = .ok (.invokevirtual 60, 3) := by decide +kernel
theorem dX12_rowAt_36 : decode cX12_rowAt 36 = .ok (.ifCond .eq 12, 3) := by decide +kernel
theorem dX12_rowAt_39 : decode cX12_rowAt 39 = .ok (.aload_n 0, 1) := by decide +kernel
theorem dX12_rowAt_40 : decode cX12_rowAt 40 = .ok (.getfield 43, 3) := by decide +kernel
theorem dX12_rowAt_43 : decode cX12_rowAt 43 = .ok (.iload_n 2, 1) := by decide +kernel
theorem dX12_rowAt_44 : decode cX12_rowAt 44 = .ok (.iaload, 1) := by decide +kernel
theorem dX12_rowAt_45 : decode cX12_rowAt 45 = .ok (.goto 4, 3) := by decide +kernel
theorem dX12_rowAt_48 : decode cX12_rowAt 48 = .ok (.iconst 0, 1) := by decide +kernel
theorem dX12_rowAt_49 : decode cX12_rowAt 49 = .ok (.ireturn, 1) := by decide +kernel
set_option maxRecDepth 20000 in
theorem ggX12_inDoughs_X12_isAtHand : GoodIn wsX12_inDoughs wsX12_isAtHand := goodIn_r _ [6, 1, 11, 12, 13, 14, 15, 16, 17, 18, 19, 20, 21, 22, 23, 24, 25, 26, 27, 28, 29, 30] (by decide +kernel) (by decide +kernel)
set_option maxRecDepth 20000 in
theorem gX12_inDoughs_X12_isAtHand : GoodIn wsX12_inDoughs (wsV RX12 116 RX12 yX12_isAtHand wsX12_isAtHand) := goodIn_app (goodIn_of _ (by decide +kernel)) ggX12_inDoughs_X12_isAtHand
set_option maxRecDepth 20000 in
theorem ggX12_inDoughs_X12_gramsOf : GoodIn wsX12_inDoughs wsX12_gramsOf := goodIn_r _ [10, 1, 11, 12, 13, 14, 15, 16, 17, 18, 19, 20, 21, 22, 23, 24, 25, 26, 27, 28, 29, 30] (by decide +kernel) (by decide +kernel)
set_option maxRecDepth 20000 in
theorem gX12_inDoughs_X12_gramsOf : GoodIn wsX12_inDoughs (wsV RX12 113 RX12 yX12_gramsOf wsX12_gramsOf) := goodIn_app (goodIn_of _ (by decide +kernel)) ggX12_inDoughs_X12_gramsOf
theorem dX12_inDoughs_0 : decode cX12_inDoughs 0 = .ok (.iconst 0, 1) := by decide +kernel
theorem dX12_inDoughs_1 : decode cX12_inDoughs 1 = .ok (.istore_n 2, 1) := by decide +kernel
theorem dX12_inDoughs_2 : decode cX12_inDoughs 2 = .ok (.iconst 0, 1) := by decide +kernel
theorem dX12_inDoughs_3 : decode cX12_inDoughs 3 = .ok (.istore_n 3, 1) := by decide +kernel
theorem dX12_inDoughs_4 : decode cX12_inDoughs 4 = .ok (.iload_n 3, 1) := by decide +kernel
theorem dX12_inDoughs_5 : decode cX12_inDoughs 5 = .ok (.aload_n 0, 1) := by decide +kernel
theorem dX12_inDoughs_6 : decode cX12_inDoughs 6 = .ok (.getfield 9, 3) := by decide +kernel
theorem dX12_inDoughs_9 : decode cX12_inDoughs 9 = .ok (.bipush 6, 2) := by decide +kernel
theorem dX12_inDoughs_11 : decode cX12_inDoughs 11 = .ok (.iaload, 1) := by decide +kernel
theorem dX12_inDoughs_12 : decode cX12_inDoughs 12 = .ok (.if_icmp .ge 59, 3) := by decide +kernel
theorem dX12_inDoughs_15 : decode cX12_inDoughs 15 = .ok (.iload_n 1, 1) := by decide +kernel
theorem dX12_inDoughs_16 : decode cX12_inDoughs 16 = .ok (.ifCond .eq 25, 3) := by decide +kernel
theorem dX12_inDoughs_19 : decode cX12_inDoughs 19 = .ok (.aload_n 0, 1) := by decide +kernel
theorem dX12_inDoughs_20 : decode cX12_inDoughs 20 = .ok (.getfield 9, 3) := by decide +kernel
theorem dX12_inDoughs_23 : decode cX12_inDoughs 23 = .ok (.sipush 163, 3) := by decide +kernel
theorem dX12_inDoughs_26 : decode cX12_inDoughs 26 = .ok (.iload_n 3, 1) := by decide +kernel
theorem dX12_inDoughs_27 : decode cX12_inDoughs 27 = .ok (.iadd, 1) := by decide +kernel
theorem dX12_inDoughs_28 : decode cX12_inDoughs 28 = .ok (.iaload, 1) := by decide +kernel
theorem dX12_inDoughs_29 : decode cX12_inDoughs 29 = .ok (.iconst 2, 1) := by decide +kernel
theorem dX12_inDoughs_30 : decode cX12_inDoughs 30 = .ok (.if_icmp .ne 7, 3) := by decide +kernel
theorem dX12_inDoughs_33 : decode cX12_inDoughs 33 = .ok (.iconst 1, 1) := by decide +kernel
theorem dX12_inDoughs_34 : decode cX12_inDoughs 34 = .ok (.goto 12, 3) := by decide +kernel
theorem dX12_inDoughs_37 : decode cX12_inDoughs 37 = .ok (.iconst 0, 1) := by decide +kernel
theorem dX12_inDoughs_38 : decode cX12_inDoughs 38 = .ok (.goto 8, 3) := by decide +kernel
theorem dX12_inDoughs_41 : decode cX12_inDoughs 41 = .ok (.aload_n 0, 1) := by decide +kernel
theorem dX12_inDoughs_42 : decode cX12_inDoughs 42 = .ok (.iload_n 3, 1) := by decide +kernel
theorem dX12_inDoughs_43 : decode cX12_inDoughs 43 = .ok (.invokevirtual 116, 3) := by decide +kernel
theorem dX12_inDoughs_46 : decode cX12_inDoughs 46 = .ok (.istore 4, 2) := by decide +kernel
theorem dX12_inDoughs_48 : decode cX12_inDoughs 48 = .ok (.iload_n 2, 1) := by decide +kernel
theorem dX12_inDoughs_49 : decode cX12_inDoughs 49 = .ok (.iload 4, 2) := by decide +kernel
theorem dX12_inDoughs_51 : decode cX12_inDoughs 51 = .ok (.ifCond .eq 11, 3) := by decide +kernel
theorem dX12_inDoughs_54 : decode cX12_inDoughs 54 = .ok (.aload_n 0, 1) := by decide +kernel
theorem dX12_inDoughs_55 : decode cX12_inDoughs 55 = .ok (.iload_n 3, 1) := by decide +kernel
theorem dX12_inDoughs_56 : decode cX12_inDoughs 56 = .ok (.invokevirtual 113, 3) := by decide +kernel
theorem dX12_inDoughs_59 : decode cX12_inDoughs 59 = .ok (.goto 4, 3) := by decide +kernel
theorem dX12_inDoughs_62 : decode cX12_inDoughs 62 = .ok (.iconst 0, 1) := by decide +kernel
theorem dX12_inDoughs_63 : decode cX12_inDoughs 63 = .ok (.iadd, 1) := by decide +kernel
theorem dX12_inDoughs_64 : decode cX12_inDoughs 64 = .ok (.istore_n 2, 1) := by decide +kernel
theorem dX12_inDoughs_65 : decode cX12_inDoughs 65 = .ok (.iinc 3 1, 3) := by decide +kernel
theorem dX12_inDoughs_68 : decode cX12_inDoughs 68 = .ok (.goto (-64), 3) := by decide +kernel
theorem dX12_inDoughs_71 : decode cX12_inDoughs 71 = .ok (.iload_n 2, 1) := by decide +kernel
theorem dX12_inDoughs_72 : decode cX12_inDoughs 72 = .ok (.ireturn, 1) := by decide +kernel
set_option maxRecDepth 20000 in
theorem ggX12_book_X12_in : GoodIn wsX12_book wsX12_in := goodIn_r _ [5] (by decide +kernel) (by decide +kernel)
set_option maxRecDepth 20000 in
theorem gX12_book_X12_in : GoodIn wsX12_book (va_wsS RX12 64 yX12_in wsX12_in) := goodIn_app (goodIn_of _ (by decide +kernel)) ggX12_book_X12_in
set_option maxRecDepth 20000 in
theorem ggX12_book_X12_can : GoodIn wsX12_book wsX12_can := goodIn_r _ [9, 10, 31, 32, 33, 34, 35, 36, 37, 38, 39, 40, 41, 42, 43, 44, 45, 46, 47, 48, 49, 50] (by decide +kernel) (by decide +kernel)
set_option maxRecDepth 20000 in
theorem gX12_book_X12_can : GoodIn wsX12_book (wsV RX12 60 RX12 yX12_can wsX12_can) := goodIn_app (goodIn_of _ (by decide +kernel)) ggX12_book_X12_can
set_option maxRecDepth 20000 in
theorem ggX12_book_X12_breadsOf : GoodIn wsX12_book wsX12_breadsOf := goodIn_r _ [14, 1, 15, 16, 17, 4, 18, 31, 32, 33, 34, 35, 36, 37, 38, 39, 40, 41, 42, 43, 44, 45, 46, 47, 48, 49, 50] (by decide +kernel) (by decide +kernel)
set_option maxRecDepth 20000 in
theorem gX12_book_X12_breadsOf : GoodIn wsX12_book (wsV RX12 142 RX12 yX12_breadsOf wsX12_breadsOf) := goodIn_app (goodIn_of _ (by decide +kernel)) ggX12_book_X12_breadsOf
set_option maxRecDepth 20000 in
theorem ggX12_book_X12_inDoughs : GoodIn wsX12_book wsX12_inDoughs := goodIn_r _ [22, 1, 23, 24, 25, 4, 26, 27, 28, 29, 30, 31, 32, 33, 34, 35, 36, 37, 38, 39, 40, 41, 42, 43, 44, 45, 46, 47, 48, 49, 50] (by decide +kernel) (by decide +kernel)
set_option maxRecDepth 20000 in
theorem gX12_book_X12_inDoughs : GoodIn wsX12_book (wsV RX12 242 RX12 yX12_inDoughs wsX12_inDoughs) := goodIn_app (goodIn_of _ (by decide +kernel)) ggX12_book_X12_inDoughs
theorem dX12_book_0 : decode cX12_book 0 = .ok (.aload_n 0, 1) := by decide +kernel
theorem dX12_book_1 : decode cX12_book 1 = .ok (.iload_n 1, 1) := by decide +kernel
theorem dX12_book_2 : decode cX12_book 2 = .ok (.iconst 0, 1) := by decide +kernel
theorem dX12_book_3 : decode cX12_book 3 = .ok (.bipush 6, 2) := by decide +kernel
theorem dX12_book_5 : decode cX12_book 5 = .ok (.invokestatic 64, 3) := by decide +kernel
theorem dX12_book_8 : decode cX12_book 8 = .ok (.iconst 1, 1) := by decide +kernel
theorem dX12_book_9 : decode cX12_book 9 = .ok (.invokevirtual 60, 3) := by decide +kernel
theorem dX12_book_12 : decode cX12_book 12 = .ok (.ifCond .ne 5, 3) := by decide +kernel
theorem dX12_book_15 : decode cX12_book 15 = .ok (.iconst 0, 1) := by decide +kernel
theorem dX12_book_16 : decode cX12_book 16 = .ok (.ireturn, 1) := by decide +kernel
theorem dX12_book_17 : decode cX12_book 17 = .ok (.iconst 0, 1) := by decide +kernel
theorem dX12_book_18 : decode cX12_book 18 = .ok (.istore_n 2, 1) := by decide +kernel
theorem dX12_book_19 : decode cX12_book 19 = .ok (.iload_n 1, 1) := by decide +kernel
theorem dX12_book_20 : decode cX12_book 20 = .ok (.tableswitch 134 0 6 #[44, 52, 60, 68, 134, 134, 96], 44) := by decide +kernel
theorem dX12_book_64 : decode cX12_book 64 = .ok (.aload_n 0, 1) := by decide +kernel
theorem dX12_book_65 : decode cX12_book 65 = .ok (.getfield 9, 3) := by decide +kernel
theorem dX12_book_68 : decode cX12_book 68 = .ok (.bipush 8, 2) := by decide +kernel
theorem dX12_book_70 : decode cX12_book 70 = .ok (.iaload, 1) := by decide +kernel
theorem dX12_book_71 : decode cX12_book 71 = .ok (.ireturn, 1) := by decide +kernel
theorem dX12_book_72 : decode cX12_book 72 = .ok (.aload_n 0, 1) := by decide +kernel
theorem dX12_book_73 : decode cX12_book 73 = .ok (.getfield 9, 3) := by decide +kernel
theorem dX12_book_76 : decode cX12_book 76 = .ok (.bipush 9, 2) := by decide +kernel
theorem dX12_book_78 : decode cX12_book 78 = .ok (.iaload, 1) := by decide +kernel
theorem dX12_book_79 : decode cX12_book 79 = .ok (.ireturn, 1) := by decide +kernel
theorem dX12_book_80 : decode cX12_book 80 = .ok (.aload_n 0, 1) := by decide +kernel
theorem dX12_book_81 : decode cX12_book 81 = .ok (.getfield 9, 3) := by decide +kernel
theorem dX12_book_84 : decode cX12_book 84 = .ok (.bipush 10, 2) := by decide +kernel
theorem dX12_book_86 : decode cX12_book 86 = .ok (.iaload, 1) := by decide +kernel
theorem dX12_book_87 : decode cX12_book 87 = .ok (.ireturn, 1) := by decide +kernel
theorem dX12_book_88 : decode cX12_book 88 = .ok (.iconst 0, 1) := by decide +kernel
theorem dX12_book_89 : decode cX12_book 89 = .ok (.istore_n 3, 1) := by decide +kernel
theorem dX12_book_90 : decode cX12_book 90 = .ok (.iload_n 3, 1) := by decide +kernel
theorem dX12_book_91 : decode cX12_book 91 = .ok (.bipush 8, 2) := by decide +kernel
theorem dX12_book_93 : decode cX12_book 93 = .ok (.if_icmp .ge 21, 3) := by decide +kernel
theorem dX12_book_96 : decode cX12_book 96 = .ok (.iload_n 2, 1) := by decide +kernel
theorem dX12_book_97 : decode cX12_book 97 = .ok (.aload_n 0, 1) := by decide +kernel
theorem dX12_book_98 : decode cX12_book 98 = .ok (.getfield 9, 3) := by decide +kernel
theorem dX12_book_101 : decode cX12_book 101 = .ok (.bipush 11, 2) := by decide +kernel
theorem dX12_book_103 : decode cX12_book 103 = .ok (.iload_n 3, 1) := by decide +kernel
theorem dX12_book_104 : decode cX12_book 104 = .ok (.iadd, 1) := by decide +kernel
theorem dX12_book_105 : decode cX12_book 105 = .ok (.iaload, 1) := by decide +kernel
theorem dX12_book_106 : decode cX12_book 106 = .ok (.iadd, 1) := by decide +kernel
theorem dX12_book_107 : decode cX12_book 107 = .ok (.istore_n 2, 1) := by decide +kernel
theorem dX12_book_108 : decode cX12_book 108 = .ok (.iinc 3 1, 3) := by decide +kernel
theorem dX12_book_111 : decode cX12_book 111 = .ok (.goto (-21), 3) := by decide +kernel
theorem dX12_book_114 : decode cX12_book 114 = .ok (.iload_n 2, 1) := by decide +kernel
theorem dX12_book_115 : decode cX12_book 115 = .ok (.ireturn, 1) := by decide +kernel
theorem dX12_book_116 : decode cX12_book 116 = .ok (.iconst 0, 1) := by decide +kernel
theorem dX12_book_117 : decode cX12_book 117 = .ok (.istore_n 3, 1) := by decide +kernel
theorem dX12_book_118 : decode cX12_book 118 = .ok (.iload_n 3, 1) := by decide +kernel
theorem dX12_book_119 : decode cX12_book 119 = .ok (.aload_n 0, 1) := by decide +kernel
theorem dX12_book_120 : decode cX12_book 120 = .ok (.getfield 9, 3) := by decide +kernel
theorem dX12_book_123 : decode cX12_book 123 = .ok (.iconst 5, 1) := by decide +kernel
theorem dX12_book_124 : decode cX12_book 124 = .ok (.iaload, 1) := by decide +kernel
theorem dX12_book_125 : decode cX12_book 125 = .ok (.if_icmp .ge 27, 3) := by decide +kernel
theorem dX12_book_128 : decode cX12_book 128 = .ok (.iload_n 2, 1) := by decide +kernel
theorem dX12_book_129 : decode cX12_book 129 = .ok (.aload_n 0, 1) := by decide +kernel
theorem dX12_book_130 : decode cX12_book 130 = .ok (.iload_n 3, 1) := by decide +kernel
theorem dX12_book_131 : decode cX12_book 131 = .ok (.invokevirtual 142, 3) := by decide +kernel
theorem dX12_book_134 : decode cX12_book 134 = .ok (.aload_n 0, 1) := by decide +kernel
theorem dX12_book_135 : decode cX12_book 135 = .ok (.getfield 9, 3) := by decide +kernel
theorem dX12_book_138 : decode cX12_book 138 = .ok (.bipush 19, 2) := by decide +kernel
theorem dX12_book_140 : decode cX12_book 140 = .ok (.iload_n 3, 1) := by decide +kernel
theorem dX12_book_141 : decode cX12_book 141 = .ok (.iadd, 1) := by decide +kernel
theorem dX12_book_142 : decode cX12_book 142 = .ok (.iaload, 1) := by decide +kernel
theorem dX12_book_143 : decode cX12_book 143 = .ok (.imul, 1) := by decide +kernel
theorem dX12_book_144 : decode cX12_book 144 = .ok (.iadd, 1) := by decide +kernel
theorem dX12_book_145 : decode cX12_book 145 = .ok (.istore_n 2, 1) := by decide +kernel
theorem dX12_book_146 : decode cX12_book 146 = .ok (.iinc 3 1, 3) := by decide +kernel
theorem dX12_book_149 : decode cX12_book 149 = .ok (.goto (-31), 3) := by decide +kernel
theorem dX12_book_152 : decode cX12_book 152 = .ok (.iload_n 2, 1) := by decide +kernel
theorem dX12_book_153 : decode cX12_book 153 = .ok (.ireturn, 1) := by decide +kernel
theorem dX12_book_154 : decode cX12_book 154 = .ok (.aload_n 0, 1) := by decide +kernel
theorem dX12_book_155 : decode cX12_book 155 = .ok (.iload_n 1, 1) := by decide +kernel
theorem dX12_book_156 : decode cX12_book 156 = .ok (.iconst 5, 1) := by decide +kernel
theorem dX12_book_157 : decode cX12_book 157 = .ok (.if_icmp .ne 7, 3) := by decide +kernel
theorem dX12_book_160 : decode cX12_book 160 = .ok (.iconst 1, 1) := by decide +kernel
theorem dX12_book_161 : decode cX12_book 161 = .ok (.goto 4, 3) := by decide +kernel
theorem dX12_book_164 : decode cX12_book 164 = .ok (.iconst 0, 1) := by decide +kernel
theorem dX12_book_165 : decode cX12_book 165 = .ok (.invokevirtual 242, 3) := by decide +kernel
theorem dX12_book_168 : decode cX12_book 168 = .ok (.ireturn, 1) := by decide +kernel
set_option maxRecDepth 20000 in
theorem ggX12_type_X12_in : GoodIn wsX12_type wsX12_in := goodIn_r _ [7] (by decide +kernel) (by decide +kernel)
set_option maxRecDepth 20000 in
theorem gX12_type_X12_in : GoodIn wsX12_type (va_wsS RX12 64 yX12_in wsX12_in) := goodIn_app (goodIn_of _ (by decide +kernel)) ggX12_type_X12_in
set_option maxRecDepth 20000 in
theorem ggX12_type_X12_can : GoodIn wsX12_type wsX12_can := goodIn_r _ [11, 12, 13, 14, 15, 16, 17, 18, 19, 20, 21, 22, 23, 24, 25, 26, 27, 28, 29, 30, 31, 32] (by decide +kernel) (by decide +kernel)
set_option maxRecDepth 20000 in
theorem gX12_type_X12_can : GoodIn wsX12_type (wsV RX12 60 RX12 yX12_can wsX12_can) := goodIn_app (goodIn_of _ (by decide +kernel)) ggX12_type_X12_can
theorem dX12_type_0 : decode cX12_type 0 = .ok (.iconst 0, 1) := by decide +kernel
theorem dX12_type_1 : decode cX12_type 1 = .ok (.istore_n 3, 1) := by decide +kernel
theorem dX12_type_2 : decode cX12_type 2 = .ok (.iconst 1, 1) := by decide +kernel
theorem dX12_type_3 : decode cX12_type 3 = .ok (.istore 4, 2) := by decide +kernel
theorem dX12_type_5 : decode cX12_type 5 = .ok (.bipush 56, 2) := by decide +kernel
theorem dX12_type_7 : decode cX12_type 7 = .ok (.istore 5, 2) := by decide +kernel
theorem dX12_type_9 : decode cX12_type 9 = .ok (.iload 5, 2) := by decide +kernel
theorem dX12_type_11 : decode cX12_type 11 = .ok (.ifCond .lt 62, 3) := by decide +kernel
theorem dX12_type_14 : decode cX12_type 14 = .ok (.lload_n 1, 1) := by decide +kernel
theorem dX12_type_15 : decode cX12_type 15 = .ok (.iload 5, 2) := by decide +kernel
theorem dX12_type_17 : decode cX12_type 17 = .ok (.lshr, 1) := by decide +kernel
theorem dX12_type_18 : decode cX12_type 18 = .ok (.ldc2_w 246, 3) := by decide +kernel
theorem dX12_type_21 : decode cX12_type 21 = .ok (.land, 1) := by decide +kernel
theorem dX12_type_22 : decode cX12_type 22 = .ok (.l2i, 1) := by decide +kernel
theorem dX12_type_23 : decode cX12_type 23 = .ok (.istore 6, 2) := by decide +kernel
theorem dX12_type_25 : decode cX12_type 25 = .ok (.iload 4, 2) := by decide +kernel
theorem dX12_type_27 : decode cX12_type 27 = .ok (.ifCond .eq 24, 3) := by decide +kernel
theorem dX12_type_30 : decode cX12_type 30 = .ok (.iload 6, 2) := by decide +kernel
theorem dX12_type_32 : decode cX12_type 32 = .ok (.ifCond .eq 15, 3) := by decide +kernel
theorem dX12_type_35 : decode cX12_type 35 = .ok (.iload 6, 2) := by decide +kernel
theorem dX12_type_37 : decode cX12_type 37 = .ok (.bipush 32, 2) := by decide +kernel
theorem dX12_type_39 : decode cX12_type 39 = .ok (.bipush 126, 2) := by decide +kernel
theorem dX12_type_41 : decode cX12_type 41 = .ok (.invokestatic 64, 3) := by decide +kernel
theorem dX12_type_44 : decode cX12_type 44 = .ok (.ifCond .eq 7, 3) := by decide +kernel
theorem dX12_type_47 : decode cX12_type 47 = .ok (.iconst 1, 1) := by decide +kernel
theorem dX12_type_48 : decode cX12_type 48 = .ok (.goto 4, 3) := by decide +kernel
theorem dX12_type_51 : decode cX12_type 51 = .ok (.iconst 0, 1) := by decide +kernel
theorem dX12_type_52 : decode cX12_type 52 = .ok (.istore 4, 2) := by decide +kernel
theorem dX12_type_54 : decode cX12_type 54 = .ok (.iload_n 3, 1) := by decide +kernel
theorem dX12_type_55 : decode cX12_type 55 = .ok (.iload 6, 2) := by decide +kernel
theorem dX12_type_57 : decode cX12_type 57 = .ok (.ifCond .ne 7, 3) := by decide +kernel
theorem dX12_type_60 : decode cX12_type 60 = .ok (.iconst 0, 1) := by decide +kernel
theorem dX12_type_61 : decode cX12_type 61 = .ok (.goto 4, 3) := by decide +kernel
theorem dX12_type_64 : decode cX12_type 64 = .ok (.iconst 1, 1) := by decide +kernel
theorem dX12_type_65 : decode cX12_type 65 = .ok (.iadd, 1) := by decide +kernel
theorem dX12_type_66 : decode cX12_type 66 = .ok (.istore_n 3, 1) := by decide +kernel
theorem dX12_type_67 : decode cX12_type 67 = .ok (.iinc 5 (-8), 3) := by decide +kernel
theorem dX12_type_70 : decode cX12_type 70 = .ok (.goto (-61), 3) := by decide +kernel
theorem dX12_type_73 : decode cX12_type 73 = .ok (.aload_n 0, 1) := by decide +kernel
theorem dX12_type_74 : decode cX12_type 74 = .ok (.iload 4, 2) := by decide +kernel
theorem dX12_type_76 : decode cX12_type 76 = .ok (.iconst 1, 1) := by decide +kernel
theorem dX12_type_77 : decode cX12_type 77 = .ok (.invokevirtual 60, 3) := by decide +kernel
theorem dX12_type_80 : decode cX12_type 80 = .ok (.ifCond .eq 27, 3) := by decide +kernel
theorem dX12_type_83 : decode cX12_type 83 = .ok (.aload_n 0, 1) := by decide +kernel
theorem dX12_type_84 : decode cX12_type 84 = .ok (.aload_n 0, 1) := by decide +kernel
theorem dX12_type_85 : decode cX12_type 85 = .ok (.getfield 248, 3) := by decide +kernel
theorem dX12_type_88 : decode cX12_type 88 = .ok (.iload_n 3, 1) := by decide +kernel
theorem dX12_type_89 : decode cX12_type 89 = .ok (.iadd, 1) := by decide +kernel
theorem dX12_type_90 : decode cX12_type 90 = .ok (.bipush 80, 2) := by decide +kernel
theorem dX12_type_92 : decode cX12_type 92 = .ok (.if_icmp .gt 7, 3) := by decide +kernel
theorem dX12_type_95 : decode cX12_type 95 = .ok (.iconst 1, 1) := by decide +kernel
theorem dX12_type_96 : decode cX12_type 96 = .ok (.goto 4, 3) := by decide +kernel
theorem dX12_type_99 : decode cX12_type 99 = .ok (.iconst 0, 1) := by decide +kernel
theorem dX12_type_100 : decode cX12_type 100 = .ok (.iconst 2, 1) := by decide +kernel
theorem dX12_type_101 : decode cX12_type 101 = .ok (.invokevirtual 60, 3) := by decide +kernel
theorem dX12_type_104 : decode cX12_type 104 = .ok (.ifCond .ne 5, 3) := by decide +kernel
theorem dX12_type_107 : decode cX12_type 107 = .ok (.iconst 0, 1) := by decide +kernel
theorem dX12_type_108 : decode cX12_type 108 = .ok (.ireturn, 1) := by decide +kernel
theorem dX12_type_109 : decode cX12_type 109 = .ok (.bipush 56, 2) := by decide +kernel
theorem dX12_type_111 : decode cX12_type 111 = .ok (.istore 5, 2) := by decide +kernel
theorem dX12_type_113 : decode cX12_type 113 = .ok (.iload 5, 2) := by decide +kernel
theorem dX12_type_115 : decode cX12_type 115 = .ok (.ifCond .lt 46, 3) := by decide +kernel
theorem dX12_type_118 : decode cX12_type 118 = .ok (.lload_n 1, 1) := by decide +kernel
theorem dX12_type_119 : decode cX12_type 119 = .ok (.iload 5, 2) := by decide +kernel
theorem dX12_type_121 : decode cX12_type 121 = .ok (.lshr, 1) := by decide +kernel
theorem dX12_type_122 : decode cX12_type 122 = .ok (.ldc2_w 246, 3) := by decide +kernel
theorem dX12_type_125 : decode cX12_type 125 = .ok (.land, 1) := by decide +kernel
theorem dX12_type_126 : decode cX12_type 126 = .ok (.l2i, 1) := by decide +kernel
theorem dX12_type_127 : decode cX12_type 127 = .ok (.istore 6, 2) := by decide +kernel
theorem dX12_type_129 : decode cX12_type 129 = .ok (.iload 6, 2) := by decide +kernel
theorem dX12_type_131 : decode cX12_type 131 = .ok (.ifCond .eq 24, 3) := by decide +kernel
theorem dX12_type_134 : decode cX12_type 134 = .ok (.aload_n 0, 1) := by decide +kernel
theorem dX12_type_135 : decode cX12_type 135 = .ok (.getfield 16, 3) := by decide +kernel
theorem dX12_type_138 : decode cX12_type 138 = .ok (.aload_n 0, 1) := by decide +kernel
theorem dX12_type_139 : decode cX12_type 139 = .ok (.getfield 248, 3) := by decide +kernel
theorem dX12_type_142 : decode cX12_type 142 = .ok (.iload 6, 2) := by decide +kernel
theorem dX12_type_144 : decode cX12_type 144 = .ok (.iastore, 1) := by decide +kernel
theorem dX12_type_145 : decode cX12_type 145 = .ok (.aload_n 0, 1) := by decide +kernel
theorem dX12_type_146 : decode cX12_type 146 = .ok (.dup, 1) := by decide +kernel
theorem dX12_type_147 : decode cX12_type 147 = .ok (.getfield 248, 3) := by decide +kernel
theorem dX12_type_150 : decode cX12_type 150 = .ok (.iconst 1, 1) := by decide +kernel
theorem dX12_type_151 : decode cX12_type 151 = .ok (.iadd, 1) := by decide +kernel
theorem dX12_type_152 : decode cX12_type 152 = .ok (.putfield 248, 3) := by decide +kernel
theorem dX12_type_155 : decode cX12_type 155 = .ok (.iinc 5 (-8), 3) := by decide +kernel
theorem dX12_type_158 : decode cX12_type 158 = .ok (.goto (-45), 3) := by decide +kernel
theorem dX12_type_161 : decode cX12_type 161 = .ok (.aload_n 0, 1) := by decide +kernel
theorem dX12_type_162 : decode cX12_type 162 = .ok (.getfield 248, 3) := by decide +kernel
theorem dX12_type_165 : decode cX12_type 165 = .ok (.ireturn, 1) := by decide +kernel
theorem dX12_at_0 : decode cX12_at 0 = .ok (.iload_n 1, 1) := by decide +kernel
theorem dX12_at_1 : decode cX12_at 1 = .ok (.aload_n 0, 1) := by decide +kernel
theorem dX12_at_2 : decode cX12_at 2 = .ok (.getfield 248, 3) := by decide +kernel
theorem dX12_at_5 : decode cX12_at 5 = .ok (.if_icmp .ge 12, 3) := by decide +kernel
theorem dX12_at_8 : decode cX12_at 8 = .ok (.aload_n 0, 1) := by decide +kernel
theorem dX12_at_9 : decode cX12_at 9 = .ok (.getfield 16, 3) := by decide +kernel
theorem dX12_at_12 : decode cX12_at 12 = .ok (.iload_n 1, 1) := by decide +kernel
theorem dX12_at_13 : decode cX12_at 13 = .ok (.iaload, 1) := by decide +kernel
theorem dX12_at_14 : decode cX12_at 14 = .ok (.goto 4, 3) := by decide +kernel
theorem dX12_at_17 : decode cX12_at 17 = .ok (.iconst 0, 1) := by decide +kernel
theorem dX12_at_18 : decode cX12_at 18 = .ok (.ireturn, 1) := by decide +kernel
set_option maxRecDepth 20000 in
theorem ggX12_behindBlanks_X12_at : GoodIn wsX12_behindBlanks wsX12_at := goodIn_r _ [5, 6, 7, 8, 9, 10, 11, 12, 13, 14, 15, 16, 17, 18, 19, 20, 21, 22, 23, 24, 25, 26, 27] (by decide +kernel) (by decide +kernel)
set_option maxRecDepth 20000 in
theorem gX12_behindBlanks_X12_at : GoodIn wsX12_behindBlanks (wsV RX12 251 RX12 yX12_at wsX12_at) := goodIn_app (goodIn_of _ (by decide +kernel)) ggX12_behindBlanks_X12_at
theorem dX12_behindBlanks_0 : decode cX12_behindBlanks 0 = .ok (.iload_n 1, 1) := by decide +kernel
theorem dX12_behindBlanks_1 : decode cX12_behindBlanks 1 = .ok (.istore_n 2, 1) := by decide +kernel
theorem dX12_behindBlanks_2 : decode cX12_behindBlanks 2 = .ok (.aload_n 0, 1) := by decide +kernel
theorem dX12_behindBlanks_3 : decode cX12_behindBlanks 3 = .ok (.iload_n 2, 1) := by decide +kernel
theorem dX12_behindBlanks_4 : decode cX12_behindBlanks 4 = .ok (.invokevirtual 251, 3) := by decide +kernel
theorem dX12_behindBlanks_7 : decode cX12_behindBlanks 7 = .ok (.bipush 32, 2) := by decide +kernel
theorem dX12_behindBlanks_9 : decode cX12_behindBlanks 9 = .ok (.if_icmp .ne 9, 3) := by decide +kernel
theorem dX12_behindBlanks_12 : decode cX12_behindBlanks 12 = .ok (.iinc 2 1, 3) := by decide +kernel
theorem dX12_behindBlanks_15 : decode cX12_behindBlanks 15 = .ok (.goto (-13), 3) := by decide +kernel
theorem dX12_behindBlanks_18 : decode cX12_behindBlanks 18 = .ok (.iload_n 2, 1) := by decide +kernel
theorem dX12_behindBlanks_19 : decode cX12_behindBlanks 19 = .ok (.ireturn, 1) := by decide +kernel
set_option maxRecDepth 20000 in
theorem ggX12_behindDigits_X12_at : GoodIn wsX12_behindDigits wsX12_at := goodIn_r _ [5, 6, 7, 11, 12, 13, 14, 15, 16, 17, 18, 19, 20, 21, 22, 23, 24, 25, 26, 27, 28, 29, 30] (by decide +kernel) (by decide +kernel)
set_option maxRecDepth 20000 in
theorem gX12_behindDigits_X12_at : GoodIn wsX12_behindDigits (wsV RX12 251 RX12 yX12_at wsX12_at) := goodIn_app (goodIn_of _ (by decide +kernel)) ggX12_behindDigits_X12_at
set_option maxRecDepth 20000 in
theorem ggX12_behindDigits_X12_in : GoodIn wsX12_behindDigits wsX12_in := goodIn_r _ [10] (by decide +kernel) (by decide +kernel)
set_option maxRecDepth 20000 in
theorem gX12_behindDigits_X12_in : GoodIn wsX12_behindDigits (va_wsS RX12 64 yX12_in wsX12_in) := goodIn_app (goodIn_of _ (by decide +kernel)) ggX12_behindDigits_X12_in
theorem dX12_behindDigits_0 : decode cX12_behindDigits 0 = .ok (.iload_n 1, 1) := by decide +kernel
theorem dX12_behindDigits_1 : decode cX12_behindDigits 1 = .ok (.istore_n 2, 1) := by decide +kernel
theorem dX12_behindDigits_2 : decode cX12_behindDigits 2 = .ok (.iload_n 2, 1) := by decide +kernel
theorem dX12_behindDigits_3 : decode cX12_behindDigits 3 = .ok (.iload_n 1, 1) := by decide +kernel
theorem dX12_behindDigits_4 : decode cX12_behindDigits 4 = .ok (.iconst 5, 1) := by decide +kernel
theorem dX12_behindDigits_5 : decode cX12_behindDigits 5 = .ok (.iadd, 1) := by decide +kernel
theorem dX12_behindDigits_6 : decode cX12_behindDigits 6 = .ok (.if_icmp .ge 24, 3) := by decide +kernel
theorem dX12_behindDigits_9 : decode cX12_behindDigits 9 = .ok (.aload_n 0, 1) := by decide +kernel
theorem dX12_behindDigits_10 : decode cX12_behindDigits 10 = .ok (.iload_n 2, 1) := by decide +kernel
theorem dX12_behindDigits_11 : decode cX12_behindDigits 11 = .ok (.invokevirtual 251, 3) := by decide +kernel
theorem dX12_behindDigits_14 : decode cX12_behindDigits 14 = .ok (.bipush 48, 2) := by decide +kernel
theorem dX12_behindDigits_16 : decode cX12_behindDigits 16 = .ok (.bipush 57, 2) := by decide +kernel
theorem dX12_behindDigits_18 : decode cX12_behindDigits 18 = .ok (.invokestatic 64, 3) := by decide +kernel
theorem dX12_behindDigits_21 : decode cX12_behindDigits 21 = .ok (.ifCond .eq 9, 3) := by decide +kernel
theorem dX12_behindDigits_24 : decode cX12_behindDigits 24 = .ok (.iinc 2 1, 3) := by decide +kernel
theorem dX12_behindDigits_27 : decode cX12_behindDigits 27 = .ok (.goto (-25), 3) := by decide +kernel
theorem dX12_behindDigits_30 : decode cX12_behindDigits 30 = .ok (.iload_n 2, 1) := by decide +kernel
theorem dX12_behindDigits_31 : decode cX12_behindDigits 31 = .ok (.ireturn, 1) := by decide +kernel
theorem dX12_number_0 : decode cX12_number 0 = .ok (.iconst 0, 1) := by decide +kernel
theorem dX12_number_1 : decode cX12_number 1 = .ok (.istore_n 3, 1) := by decide +kernel
theorem dX12_number_2 : decode cX12_number 2 = .ok (.iload_n 1, 1) := by decide +kernel
theorem dX12_number_3 : decode cX12_number 3 = .ok (.istore 4, 2) := by decide +kernel
theorem dX12_number_5 : decode cX12_number 5 = .ok (.iload 4, 2) := by decide +kernel
theorem dX12_number_7 : decode cX12_number 7 = .ok (.iload_n 2, 1) := by decide +kernel
theorem dX12_number_8 : decode cX12_number 8 = .ok (.if_icmp .ge 25, 3) := by decide +kernel
theorem dX12_number_11 : decode cX12_number 11 = .ok (.bipush 10, 2) := by decide +kernel
theorem dX12_number_13 : decode cX12_number 13 = .ok (.iload_n 3, 1) := by decide +kernel
theorem dX12_number_14 : decode cX12_number 14 = .ok (.imul, 1) := by decide +kernel
theorem dX12_number_15 : decode cX12_number 15 = .ok (.aload_n 0, 1) := by decide +kernel
theorem dX12_number_16 : decode cX12_number 16 = .ok (.getfield 16, 3) := by decide +kernel
theorem dX12_number_19 : decode cX12_number 19 = .ok (.iload 4, 2) := by decide +kernel
theorem dX12_number_21 : decode cX12_number 21 = .ok (.iaload, 1) := by decide +kernel
theorem dX12_number_22 : decode cX12_number 22 = .ok (.iadd, 1) := by decide +kernel
theorem dX12_number_23 : decode cX12_number 23 = .ok (.bipush 48, 2) := by decide +kernel
theorem dX12_number_25 : decode cX12_number 25 = .ok (.isub, 1) := by decide +kernel
theorem dX12_number_26 : decode cX12_number 26 = .ok (.istore_n 3, 1) := by decide +kernel
theorem dX12_number_27 : decode cX12_number 27 = .ok (.iinc 4 1, 3) := by decide +kernel
theorem dX12_number_30 : decode cX12_number 30 = .ok (.goto (-25), 3) := by decide +kernel
theorem dX12_number_33 : decode cX12_number 33 = .ok (.iload_n 3, 1) := by decide +kernel
theorem dX12_number_34 : decode cX12_number 34 = .ok (.ireturn, 1) := by decide +kernel
set_option maxRecDepth 20000 in
theorem ggX12_faultNow_X12_behindBlanks : GoodIn wsX12_faultNow wsX12_behindBlanks := goodIn_r _ [7, 8, 9, 10, 6, 11, 2, 12, 24, 25, 26, 27, 28, 29, 30, 31, 32, 33, 34, 35, 36, 37, 38, 39, 40, 41, 42, 43] (by decide +kernel) (by decide +kernel)
set_option maxRecDepth 20000 in
theorem gX12_faultNow_X12_behindBlanks : GoodIn wsX12_faultNow (wsV RX12 254 RX12 yX12_behindBlanks wsX12_behindBlanks) := goodIn_app (goodIn_of _ (by decide +kernel)) ggX12_faultNow_X12_behindBlanks
set_option maxRecDepth 20000 in
theorem ggX12_faultNow_X12_behindDigits : GoodIn wsX12_faultNow wsX12_behindDigits := goodIn_r _ [16, 8, 9, 10, 6, 11, 2, 12, 17, 18, 19, 24, 25, 26, 27, 28, 29, 30, 31, 32, 33, 34, 35, 36, 37, 38, 39, 40, 41, 42, 43] (by decide +kernel) (by decide +kernel)
set_option maxRecDepth 20000 in
theorem gX12_faultNow_X12_behindDigits : GoodIn wsX12_faultNow (wsV RX12 257 RX12 yX12_behindDigits wsX12_behindDigits) := goodIn_app (goodIn_of _ (by decide +kernel)) ggX12_faultNow_X12_behindDigits
set_option maxRecDepth 20000 in
theorem ggX12_faultNow_X12_number : GoodIn wsX12_faultNow wsX12_number := goodIn_r _ [23, 12, 24, 25, 26, 27, 28, 29, 30, 31, 32, 33, 34, 35, 36, 37, 38, 39, 40, 41, 42, 43] (by decide +kernel) (by decide +kernel)
set_option maxRecDepth 20000 in
theorem gX12_faultNow_X12_number : GoodIn wsX12_faultNow (wsV RX12 260 RX12 yX12_number wsX12_number) := goodIn_app (goodIn_of _ (by decide +kernel)) ggX12_faultNow_X12_number
set_option maxRecDepth 20000 in
theorem ggX12_faultNow_X12_in : GoodIn wsX12_faultNow wsX12_in := goodIn_r _ [19] (by decide +kernel) (by decide +kernel)
set_option maxRecDepth 20000 in
theorem gX12_faultNow_X12_in : GoodIn wsX12_faultNow (va_wsS RX12 64 yX12_in wsX12_in) := goodIn_app (goodIn_of _ (by decide +kernel)) ggX12_faultNow_X12_in
set_option maxRecDepth 20000 in
theorem ggX12_faultNow_X12_at : GoodIn wsX12_faultNow wsX12_at := goodIn_r _ [11, 2, 12, 24, 25, 26, 27, 28, 29, 30, 31, 32, 33, 34, 35, 36, 37, 38, 39, 40, 41, 42, 43] (by decide +kernel) (by decide +kernel)
set_option maxRecDepth 20000 in
theorem gX12_faultNow_X12_at : GoodIn wsX12_faultNow (wsV RX12 251 RX12 yX12_at wsX12_at) := goodIn_app (goodIn_of _ (by decide +kernel)) ggX12_faultNow_X12_at
theorem dX12_faultNow_0 : decode cX12_faultNow 0 = .ok (.iconst 0, 1) := by decide +kernel
theorem dX12_faultNow_1 : decode cX12_faultNow 1 = .ok (.istore_n 1, 1) := by decide +kernel
theorem dX12_faultNow_2 : decode cX12_faultNow 2 = .ok (.iload_n 1, 1) := by decide +kernel
theorem dX12_faultNow_3 : decode cX12_faultNow 3 = .ok (.bipush 8, 2) := by decide +kernel
theorem dX12_faultNow_5 : decode cX12_faultNow 5 = .ok (.if_icmp .ge 16, 3) := by decide +kernel
theorem dX12_faultNow_8 : decode cX12_faultNow 8 = .ok (.aload_n 0, 1) := by decide +kernel
theorem dX12_faultNow_9 : decode cX12_faultNow 9 = .ok (.getfield 19, 3) := by decide +kernel
theorem dX12_faultNow_12 : decode cX12_faultNow 12 = .ok (.iload_n 1, 1) := by decide +kernel
theorem dX12_faultNow_13 : decode cX12_faultNow 13 = .ok (.iconst 0, 1) := by decide +kernel
theorem dX12_faultNow_14 : decode cX12_faultNow 14 = .ok (.iastore, 1) := by decide +kernel
theorem dX12_faultNow_15 : decode cX12_faultNow 15 = .ok (.iinc 1 1, 3) := by decide +kernel
theorem dX12_faultNow_18 : decode cX12_faultNow 18 = .ok (.goto (-16), 3) := by decide +kernel
theorem dX12_faultNow_21 : decode cX12_faultNow 21 = .ok (.iconst 0, 1) := by decide +kernel
theorem dX12_faultNow_22 : decode cX12_faultNow 22 = .ok (.istore_n 1, 1) := by decide +kernel
theorem dX12_faultNow_23 : decode cX12_faultNow 23 = .ok (.iconst (-1), 1) := by decide +kernel
theorem dX12_faultNow_24 : decode cX12_faultNow 24 = .ok (.istore_n 2, 1) := by decide +kernel
theorem dX12_faultNow_25 : decode cX12_faultNow 25 = .ok (.iconst 1, 1) := by decide +kernel
theorem dX12_faultNow_26 : decode cX12_faultNow 26 = .ok (.istore_n 3, 1) := by decide +kernel
theorem dX12_faultNow_27 : decode cX12_faultNow 27 = .ok (.iload_n 3, 1) := by decide +kernel
theorem dX12_faultNow_28 : decode cX12_faultNow 28 = .ok (.ifCond .eq 206, 3) := by decide +kernel
theorem dX12_faultNow_31 : decode cX12_faultNow 31 = .ok (.aload_n 0, 1) := by decide +kernel
theorem dX12_faultNow_32 : decode cX12_faultNow 32 = .ok (.iload_n 1, 1) := by decide +kernel
theorem dX12_faultNow_33 : decode cX12_faultNow 33 = .ok (.invokevirtual 254, 3) := by decide +kernel
theorem dX12_faultNow_36 : decode cX12_faultNow 36 = .ok (.istore 4, 2) := by decide +kernel
theorem dX12_faultNow_38 : decode cX12_faultNow 38 = .ok (.aload_n 0, 1) := by decide +kernel
theorem dX12_faultNow_39 : decode cX12_faultNow 39 = .ok (.iload 4, 2) := by decide +kernel
theorem dX12_faultNow_41 : decode cX12_faultNow 41 = .ok (.invokevirtual 257, 3) := by decide +kernel
theorem dX12_faultNow_44 : decode cX12_faultNow 44 = .ok (.istore 5, 2) := by decide +kernel
theorem dX12_faultNow_46 : decode cX12_faultNow 46 = .ok (.iload 5, 2) := by decide +kernel
theorem dX12_faultNow_48 : decode cX12_faultNow 48 = .ok (.iload 4, 2) := by decide +kernel
theorem dX12_faultNow_50 : decode cX12_faultNow 50 = .ok (.if_icmp .eq 12, 3) := by decide +kernel
theorem dX12_faultNow_53 : decode cX12_faultNow 53 = .ok (.iload 5, 2) := by decide +kernel
theorem dX12_faultNow_55 : decode cX12_faultNow 55 = .ok (.iload 4, 2) := by decide +kernel
theorem dX12_faultNow_57 : decode cX12_faultNow 57 = .ok (.isub, 1) := by decide +kernel
theorem dX12_faultNow_58 : decode cX12_faultNow 58 = .ok (.iconst 5, 1) := by decide +kernel
theorem dX12_faultNow_59 : decode cX12_faultNow 59 = .ok (.if_icmp .ne 20, 3) := by decide +kernel
theorem dX12_faultNow_62 : decode cX12_faultNow 62 = .ok (.iload 5, 2) := by decide +kernel
theorem dX12_faultNow_64 : decode cX12_faultNow 64 = .ok (.iload 4, 2) := by decide +kernel
theorem dX12_faultNow_66 : decode cX12_faultNow 66 = .ok (.if_icmp .ne 8, 3) := by decide +kernel
theorem dX12_faultNow_69 : decode cX12_faultNow 69 = .ok (.iload 4, 2) := by decide +kernel
theorem dX12_faultNow_71 : decode cX12_faultNow 71 = .ok (.goto 7, 3) := by decide +kernel
theorem dX12_faultNow_74 : decode cX12_faultNow 74 = .ok (.iload 4, 2) := by decide +kernel
theorem dX12_faultNow_76 : decode cX12_faultNow 76 = .ok (.iconst 4, 1) := by decide +kernel
theorem dX12_faultNow_77 : decode cX12_faultNow 77 = .ok (.iadd, 1) := by decide +kernel
theorem dX12_faultNow_78 : decode cX12_faultNow 78 = .ok (.ireturn, 1) := by decide +kernel
theorem dX12_faultNow_79 : decode cX12_faultNow 79 = .ok (.aload_n 0, 1) := by decide +kernel
theorem dX12_faultNow_80 : decode cX12_faultNow 80 = .ok (.iload 4, 2) := by decide +kernel
theorem dX12_faultNow_82 : decode cX12_faultNow 82 = .ok (.iload 5, 2) := by decide +kernel
theorem dX12_faultNow_84 : decode cX12_faultNow 84 = .ok (.invokevirtual 260, 3) := by decide +kernel
theorem dX12_faultNow_87 : decode cX12_faultNow 87 = .ok (.istore 6, 2) := by decide +kernel
theorem dX12_faultNow_89 : decode cX12_faultNow 89 = .ok (.iload 6, 2) := by decide +kernel
theorem dX12_faultNow_91 : decode cX12_faultNow 91 = .ok (.iload_n 2, 1) := by decide +kernel
theorem dX12_faultNow_92 : decode cX12_faultNow 92 = .ok (.iconst 1, 1) := by decide +kernel
theorem dX12_faultNow_93 : decode cX12_faultNow 93 = .ok (.iadd, 1) := by decide +kernel
theorem dX12_faultNow_94 : decode cX12_faultNow 94 = .ok (.bipush 7, 2) := by decide +kernel
theorem dX12_faultNow_96 : decode cX12_faultNow 96 = .ok (.invokestatic 64, 3) := by decide +kernel
theorem dX12_faultNow_99 : decode cX12_faultNow 99 = .ok (.ifCond .ne 6, 3) := by decide +kernel
theorem dX12_faultNow_102 : decode cX12_faultNow 102 = .ok (.iload 4, 2) := by decide +kernel
theorem dX12_faultNow_104 : decode cX12_faultNow 104 = .ok (.ireturn, 1) := by decide +kernel
theorem dX12_faultNow_105 : decode cX12_faultNow 105 = .ok (.iload 6, 2) := by decide +kernel
theorem dX12_faultNow_107 : decode cX12_faultNow 107 = .ok (.istore_n 2, 1) := by decide +kernel
theorem dX12_faultNow_108 : decode cX12_faultNow 108 = .ok (.aload_n 0, 1) := by decide +kernel
theorem dX12_faultNow_109 : decode cX12_faultNow 109 = .ok (.iload 5, 2) := by decide +kernel
theorem dX12_faultNow_111 : decode cX12_faultNow 111 = .ok (.invokevirtual 254, 3) := by decide +kernel
theorem dX12_faultNow_114 : decode cX12_faultNow 114 = .ok (.istore 7, 2) := by decide +kernel
theorem dX12_faultNow_116 : decode cX12_faultNow 116 = .ok (.aload_n 0, 1) := by decide +kernel
theorem dX12_faultNow_117 : decode cX12_faultNow 117 = .ok (.iload 7, 2) := by decide +kernel
theorem dX12_faultNow_119 : decode cX12_faultNow 119 = .ok (.invokevirtual 251, 3) := by decide +kernel
theorem dX12_faultNow_122 : decode cX12_faultNow 122 = .ok (.bipush 58, 2) := by decide +kernel
theorem dX12_faultNow_124 : decode cX12_faultNow 124 = .ok (.if_icmp .eq 6, 3) := by decide +kernel
theorem dX12_faultNow_127 : decode cX12_faultNow 127 = .ok (.iload 7, 2) := by decide +kernel
theorem dX12_faultNow_129 : decode cX12_faultNow 129 = .ok (.ireturn, 1) := by decide +kernel
theorem dX12_faultNow_130 : decode cX12_faultNow 130 = .ok (.aload_n 0, 1) := by decide +kernel
theorem dX12_faultNow_131 : decode cX12_faultNow 131 = .ok (.iload 7, 2) := by decide +kernel
theorem dX12_faultNow_133 : decode cX12_faultNow 133 = .ok (.iconst 1, 1) := by decide +kernel
theorem dX12_faultNow_134 : decode cX12_faultNow 134 = .ok (.iadd, 1) := by decide +kernel
theorem dX12_faultNow_135 : decode cX12_faultNow 135 = .ok (.invokevirtual 254, 3) := by decide +kernel
theorem dX12_faultNow_138 : decode cX12_faultNow 138 = .ok (.istore 4, 2) := by decide +kernel
theorem dX12_faultNow_140 : decode cX12_faultNow 140 = .ok (.aload_n 0, 1) := by decide +kernel
theorem dX12_faultNow_141 : decode cX12_faultNow 141 = .ok (.iload 4, 2) := by decide +kernel
theorem dX12_faultNow_143 : decode cX12_faultNow 143 = .ok (.invokevirtual 257, 3) := by decide +kernel
theorem dX12_faultNow_146 : decode cX12_faultNow 146 = .ok (.istore 5, 2) := by decide +kernel
theorem dX12_faultNow_148 : decode cX12_faultNow 148 = .ok (.iload 5, 2) := by decide +kernel
theorem dX12_faultNow_150 : decode cX12_faultNow 150 = .ok (.iload 4, 2) := by decide +kernel
theorem dX12_faultNow_152 : decode cX12_faultNow 152 = .ok (.if_icmp .eq 12, 3) := by decide +kernel
theorem dX12_faultNow_155 : decode cX12_faultNow 155 = .ok (.iload 5, 2) := by decide +kernel
theorem dX12_faultNow_157 : decode cX12_faultNow 157 = .ok (.iload 4, 2) := by decide +kernel
theorem dX12_faultNow_159 : decode cX12_faultNow 159 = .ok (.isub, 1) := by decide +kernel
theorem dX12_faultNow_160 : decode cX12_faultNow 160 = .ok (.iconst 5, 1) := by decide +kernel
theorem dX12_faultNow_161 : decode cX12_faultNow 161 = .ok (.if_icmp .ne 20, 3) := by decide +kernel
theorem dX12_faultNow_164 : decode cX12_faultNow 164 = .ok (.iload 5, 2) := by decide +kernel
theorem dX12_faultNow_166 : decode cX12_faultNow 166 = .ok (.iload 4, 2) := by decide +kernel
theorem dX12_faultNow_168 : decode cX12_faultNow 168 = .ok (.if_icmp .ne 8, 3) := by decide +kernel
theorem dX12_faultNow_171 : decode cX12_faultNow 171 = .ok (.iload 4, 2) := by decide +kernel
theorem dX12_faultNow_173 : decode cX12_faultNow 173 = .ok (.goto 7, 3) := by decide +kernel
theorem dX12_faultNow_176 : decode cX12_faultNow 176 = .ok (.iload 4, 2) := by decide +kernel
theorem dX12_faultNow_178 : decode cX12_faultNow 178 = .ok (.iconst 4, 1) := by decide +kernel
theorem dX12_faultNow_179 : decode cX12_faultNow 179 = .ok (.iadd, 1) := by decide +kernel
theorem dX12_faultNow_180 : decode cX12_faultNow 180 = .ok (.ireturn, 1) := by decide +kernel
theorem dX12_faultNow_181 : decode cX12_faultNow 181 = .ok (.aload_n 0, 1) := by decide +kernel
theorem dX12_faultNow_182 : decode cX12_faultNow 182 = .ok (.getfield 19, 3) := by decide +kernel
theorem dX12_faultNow_185 : decode cX12_faultNow 185 = .ok (.iload 6, 2) := by decide +kernel
theorem dX12_faultNow_187 : decode cX12_faultNow 187 = .ok (.aload_n 0, 1) := by decide +kernel
theorem dX12_faultNow_188 : decode cX12_faultNow 188 = .ok (.iload 4, 2) := by decide +kernel
theorem dX12_faultNow_190 : decode cX12_faultNow 190 = .ok (.iload 5, 2) := by decide +kernel
theorem dX12_faultNow_192 : decode cX12_faultNow 192 = .ok (.invokevirtual 260, 3) := by decide +kernel
theorem dX12_faultNow_195 : decode cX12_faultNow 195 = .ok (.iastore, 1) := by decide +kernel
theorem dX12_faultNow_196 : decode cX12_faultNow 196 = .ok (.aload_n 0, 1) := by decide +kernel
theorem dX12_faultNow_197 : decode cX12_faultNow 197 = .ok (.iload 5, 2) := by decide +kernel
theorem dX12_faultNow_199 : decode cX12_faultNow 199 = .ok (.invokevirtual 254, 3) := by decide +kernel
theorem dX12_faultNow_202 : decode cX12_faultNow 202 = .ok (.istore_n 1, 1) := by decide +kernel
theorem dX12_faultNow_203 : decode cX12_faultNow 203 = .ok (.aload_n 0, 1) := by decide +kernel
theorem dX12_faultNow_204 : decode cX12_faultNow 204 = .ok (.iload_n 1, 1) := by decide +kernel
theorem dX12_faultNow_205 : decode cX12_faultNow 205 = .ok (.invokevirtual 251, 3) := by decide +kernel
theorem dX12_faultNow_208 : decode cX12_faultNow 208 = .ok (.bipush 44, 2) := by decide +kernel
theorem dX12_faultNow_210 : decode cX12_faultNow 210 = .ok (.if_icmp .ne 7, 3) := by decide +kernel
theorem dX12_faultNow_213 : decode cX12_faultNow 213 = .ok (.iconst 1, 1) := by decide +kernel
theorem dX12_faultNow_214 : decode cX12_faultNow 214 = .ok (.goto 4, 3) := by decide +kernel
theorem dX12_faultNow_217 : decode cX12_faultNow 217 = .ok (.iconst 0, 1) := by decide +kernel
theorem dX12_faultNow_218 : decode cX12_faultNow 218 = .ok (.istore_n 3, 1) := by decide +kernel
theorem dX12_faultNow_219 : decode cX12_faultNow 219 = .ok (.iload_n 1, 1) := by decide +kernel
theorem dX12_faultNow_220 : decode cX12_faultNow 220 = .ok (.iload_n 3, 1) := by decide +kernel
theorem dX12_faultNow_221 : decode cX12_faultNow 221 = .ok (.ifCond .eq 7, 3) := by decide +kernel
theorem dX12_faultNow_224 : decode cX12_faultNow 224 = .ok (.iconst 1, 1) := by decide +kernel
theorem dX12_faultNow_225 : decode cX12_faultNow 225 = .ok (.goto 4, 3) := by decide +kernel
theorem dX12_faultNow_228 : decode cX12_faultNow 228 = .ok (.iconst 0, 1) := by decide +kernel
theorem dX12_faultNow_229 : decode cX12_faultNow 229 = .ok (.iadd, 1) := by decide +kernel
theorem dX12_faultNow_230 : decode cX12_faultNow 230 = .ok (.istore_n 1, 1) := by decide +kernel
theorem dX12_faultNow_231 : decode cX12_faultNow 231 = .ok (.goto (-204), 3) := by decide +kernel
theorem dX12_faultNow_234 : decode cX12_faultNow 234 = .ok (.iload_n 1, 1) := by decide +kernel
theorem dX12_faultNow_235 : decode cX12_faultNow 235 = .ok (.aload_n 0, 1) := by decide +kernel
theorem dX12_faultNow_236 : decode cX12_faultNow 236 = .ok (.getfield 248, 3) := by decide +kernel
theorem dX12_faultNow_239 : decode cX12_faultNow 239 = .ok (.if_icmp .ne 7, 3) := by decide +kernel
theorem dX12_faultNow_242 : decode cX12_faultNow 242 = .ok (.iconst (-1), 1) := by decide +kernel
theorem dX12_faultNow_243 : decode cX12_faultNow 243 = .ok (.goto 4, 3) := by decide +kernel
theorem dX12_faultNow_246 : decode cX12_faultNow 246 = .ok (.iload_n 1, 1) := by decide +kernel
theorem dX12_faultNow_247 : decode cX12_faultNow 247 = .ok (.ireturn, 1) := by decide +kernel
set_option maxRecDepth 20000 in
theorem ggX12_fault_X12_faultNow : GoodIn wsX12_fault wsX12_faultNow := goodIn_r _ [6, 7, 8, 9, 10, 11, 5, 12, 13, 14, 15, 16, 17, 18, 19, 20, 21, 22, 23, 24, 25, 26, 27, 28, 29, 30, 31, 32, 33, 34, 35, 36, 37, 38, 39, 40, 41, 42, 43, 44, 45, 46, 47, 48] (by decide +kernel) (by decide +kernel)
set_option maxRecDepth 20000 in
theorem gX12_fault_X12_faultNow : GoodIn wsX12_fault (wsV RX12 263 RX12 yX12_faultNow wsX12_faultNow) := goodIn_app (goodIn_of _ (by decide +kernel)) ggX12_fault_X12_faultNow
theorem dX12_fault_0 : decode cX12_fault 0 = .ok (.aload_n 0, 1) := by decide +kernel
theorem dX12_fault_1 : decode cX12_fault 1 = .ok (.iconst 0, 1) := by decide +kernel
theorem dX12_fault_2 : decode cX12_fault 2 = .ok (.putfield 46, 3) := by decide +kernel
theorem dX12_fault_5 : decode cX12_fault 5 = .ok (.aload_n 0, 1) := by decide +kernel
theorem dX12_fault_6 : decode cX12_fault 6 = .ok (.invokevirtual 263, 3) := by decide +kernel
theorem dX12_fault_9 : decode cX12_fault 9 = .ok (.ireturn, 1) := by decide +kernel
set_option maxRecDepth 20000 in
theorem ggX12_readParts_X12_faultNow : GoodIn wsX12_readParts wsX12_faultNow := goodIn_r _ [8, 3, 1, 9, 10, 11, 7, 12, 13, 14, 15, 16, 17, 18, 19, 20, 21, 22, 23, 24, 25, 26, 27, 28, 57, 58, 59, 60, 61, 62, 63, 64, 65, 66, 67, 68, 69, 70, 71, 72, 73, 74, 75, 76] (by decide +kernel) (by decide +kernel)
set_option maxRecDepth 20000 in
theorem gX12_readParts_X12_faultNow : GoodIn wsX12_readParts (wsV RX12 263 RX12 yX12_faultNow wsX12_faultNow) := goodIn_app (goodIn_of _ (by decide +kernel)) ggX12_readParts_X12_faultNow
set_option maxRecDepth 20000 in
theorem ggX12_readParts_X12_isRecipe : GoodIn wsX12_readParts wsX12_isRecipe := goodIn_r _ [32, 2, 22, 23, 7, 24, 57, 58, 59, 60, 61, 62, 63, 64, 65, 66, 67, 68, 69, 70, 71, 72, 73, 74, 75, 76] (by decide +kernel) (by decide +kernel)
set_option maxRecDepth 20000 in
theorem gX12_readParts_X12_isRecipe : GoodIn wsX12_readParts (wsV RX12 77 RX12 yX12_isRecipe wsX12_isRecipe) := goodIn_app (goodIn_of _ (by decide +kernel)) ggX12_readParts_X12_isRecipe
set_option maxRecDepth 20000 in
theorem ggX12_readParts_X12_can : GoodIn wsX12_readParts wsX12_can := goodIn_r _ [36, 37, 57, 58, 59, 60, 61, 62, 63, 64, 65, 66, 67, 68, 69, 70, 71, 72, 73, 74, 75, 76] (by decide +kernel) (by decide +kernel)
set_option maxRecDepth 20000 in
theorem gX12_readParts_X12_can : GoodIn wsX12_readParts (wsV RX12 60 RX12 yX12_can wsX12_can) := goodIn_app (goodIn_of _ (by decide +kernel)) ggX12_readParts_X12_can
set_option maxRecDepth 20000 in
theorem ggX12_readParts_X12_keep : GoodIn wsX12_readParts wsX12_keep := goodIn_r _ [41, 42, 43, 44, 2, 45, 46, 47, 7, 48, 57, 58, 59, 60, 61, 62, 63, 64, 65, 66, 67, 68, 69, 70, 71, 72, 73, 74, 75, 76] (by decide +kernel) (by decide +kernel)
set_option maxRecDepth 20000 in
theorem gX12_readParts_X12_keep : GoodIn wsX12_readParts (wsV RX12 74 RX12 yX12_keep wsX12_keep) := goodIn_app (goodIn_of _ (by decide +kernel)) ggX12_readParts_X12_keep
set_option maxRecDepth 20000 in
theorem ggX12_readParts_X12_allParts : GoodIn wsX12_readParts wsX12_allParts := goodIn_r _ [52, 53, 54, 55, 7, 56, 2, 57, 58, 59, 60, 61, 62, 63, 64, 65, 66, 67, 68, 69, 70, 71, 72, 73, 74, 75, 76] (by decide +kernel) (by decide +kernel)
set_option maxRecDepth 20000 in
theorem gX12_readParts_X12_allParts : GoodIn wsX12_readParts (wsV RX12 84 RX12 yX12_allParts wsX12_allParts) := goodIn_app (goodIn_of _ (by decide +kernel)) ggX12_readParts_X12_allParts
theorem dX12_readParts_0 : decode cX12_readParts 0 = .ok (.aload_n 0, 1) := by decide +kernel
theorem dX12_readParts_1 : decode cX12_readParts 1 = .ok (.invokevirtual 263, 3) := by decide +kernel
theorem dX12_readParts_4 : decode cX12_readParts 4 = .ok (.iconst (-1), 1) := by decide +kernel
theorem dX12_readParts_5 : decode cX12_readParts 5 = .ok (.if_icmp .ne 7, 3) := by decide +kernel
theorem dX12_readParts_8 : decode cX12_readParts 8 = .ok (.iconst 1, 1) := by decide +kernel
theorem dX12_readParts_9 : decode cX12_readParts 9 = .ok (.goto 4, 3) := by decide +kernel
theorem dX12_readParts_12 : decode cX12_readParts 12 = .ok (.iconst 0, 1) := by decide +kernel
theorem dX12_readParts_13 : decode cX12_readParts 13 = .ok (.istore_n 2, 1) := by decide +kernel
theorem dX12_readParts_14 : decode cX12_readParts 14 = .ok (.aload_n 0, 1) := by decide +kernel
theorem dX12_readParts_15 : decode cX12_readParts 15 = .ok (.iconst 0, 1) := by decide +kernel
theorem dX12_readParts_16 : decode cX12_readParts 16 = .ok (.putfield 248, 3) := by decide +kernel
theorem dX12_readParts_19 : decode cX12_readParts 19 = .ok (.aload_n 0, 1) := by decide +kernel
theorem dX12_readParts_20 : decode cX12_readParts 20 = .ok (.aload_n 0, 1) := by decide +kernel
theorem dX12_readParts_21 : decode cX12_readParts 21 = .ok (.iload_n 1, 1) := by decide +kernel
theorem dX12_readParts_22 : decode cX12_readParts 22 = .ok (.invokevirtual 77, 3) := by decide +kernel
theorem dX12_readParts_25 : decode cX12_readParts 25 = .ok (.iconst 1, 1) := by decide +kernel
theorem dX12_readParts_26 : decode cX12_readParts 26 = .ok (.invokevirtual 60, 3) := by decide +kernel
theorem dX12_readParts_29 : decode cX12_readParts 29 = .ok (.ifCond .eq 12, 3) := by decide +kernel
theorem dX12_readParts_32 : decode cX12_readParts 32 = .ok (.aload_n 0, 1) := by decide +kernel
theorem dX12_readParts_33 : decode cX12_readParts 33 = .ok (.iload_n 2, 1) := by decide +kernel
theorem dX12_readParts_34 : decode cX12_readParts 34 = .ok (.iconst 2, 1) := by decide +kernel
theorem dX12_readParts_35 : decode cX12_readParts 35 = .ok (.invokevirtual 60, 3) := by decide +kernel
theorem dX12_readParts_38 : decode cX12_readParts 38 = .ok (.ifCond .ne 5, 3) := by decide +kernel
theorem dX12_readParts_41 : decode cX12_readParts 41 = .ok (.iconst 0, 1) := by decide +kernel
theorem dX12_readParts_42 : decode cX12_readParts 42 = .ok (.ireturn, 1) := by decide +kernel
theorem dX12_readParts_43 : decode cX12_readParts 43 = .ok (.aload_n 0, 1) := by decide +kernel
theorem dX12_readParts_44 : decode cX12_readParts 44 = .ok (.invokevirtual 74, 3) := by decide +kernel
theorem dX12_readParts_47 : decode cX12_readParts 47 = .ok (.iconst 0, 1) := by decide +kernel
theorem dX12_readParts_48 : decode cX12_readParts 48 = .ok (.istore_n 3, 1) := by decide +kernel
theorem dX12_readParts_49 : decode cX12_readParts 49 = .ok (.iload_n 3, 1) := by decide +kernel
theorem dX12_readParts_50 : decode cX12_readParts 50 = .ok (.bipush 8, 2) := by decide +kernel
theorem dX12_readParts_52 : decode cX12_readParts 52 = .ok (.if_icmp .ge 29, 3) := by decide +kernel
theorem dX12_readParts_55 : decode cX12_readParts 55 = .ok (.aload_n 0, 1) := by decide +kernel
theorem dX12_readParts_56 : decode cX12_readParts 56 = .ok (.getfield 9, 3) := by decide +kernel
theorem dX12_readParts_59 : decode cX12_readParts 59 = .ok (.bipush 55, 2) := by decide +kernel
theorem dX12_readParts_61 : decode cX12_readParts 61 = .ok (.bipush 8, 2) := by decide +kernel
theorem dX12_readParts_63 : decode cX12_readParts 63 = .ok (.iload_n 1, 1) := by decide +kernel
theorem dX12_readParts_64 : decode cX12_readParts 64 = .ok (.imul, 1) := by decide +kernel
theorem dX12_readParts_65 : decode cX12_readParts 65 = .ok (.iadd, 1) := by decide +kernel
theorem dX12_readParts_66 : decode cX12_readParts 66 = .ok (.iload_n 3, 1) := by decide +kernel
theorem dX12_readParts_67 : decode cX12_readParts 67 = .ok (.iadd, 1) := by decide +kernel
theorem dX12_readParts_68 : decode cX12_readParts 68 = .ok (.aload_n 0, 1) := by decide +kernel
theorem dX12_readParts_69 : decode cX12_readParts 69 = .ok (.getfield 19, 3) := by decide +kernel
theorem dX12_readParts_72 : decode cX12_readParts 72 = .ok (.iload_n 3, 1) := by decide +kernel
theorem dX12_readParts_73 : decode cX12_readParts 73 = .ok (.iaload, 1) := by decide +kernel
theorem dX12_readParts_74 : decode cX12_readParts 74 = .ok (.iastore, 1) := by decide +kernel
theorem dX12_readParts_75 : decode cX12_readParts 75 = .ok (.iinc 3 1, 3) := by decide +kernel
theorem dX12_readParts_78 : decode cX12_readParts 78 = .ok (.goto (-29), 3) := by decide +kernel
theorem dX12_readParts_81 : decode cX12_readParts 81 = .ok (.aload_n 0, 1) := by decide +kernel
theorem dX12_readParts_82 : decode cX12_readParts 82 = .ok (.iload_n 1, 1) := by decide +kernel
theorem dX12_readParts_83 : decode cX12_readParts 83 = .ok (.invokevirtual 84, 3) := by decide +kernel
theorem dX12_readParts_86 : decode cX12_readParts 86 = .ok (.ireturn, 1) := by decide +kernel
set_option maxRecDepth 20000 in
theorem ggX12_meanAge_X12_breadAt : GoodIn wsX12_meanAge wsX12_breadAt := goodIn_r _ [7] (by decide +kernel) (by decide +kernel)
set_option maxRecDepth 20000 in
theorem gX12_meanAge_X12_breadAt : GoodIn wsX12_meanAge (wsV RX12 139 RX12 yX12_breadAt wsX12_breadAt) := goodIn_app (goodIn_of _ (by decide +kernel)) ggX12_meanAge_X12_breadAt
theorem dX12_meanAge_0 : decode cX12_meanAge 0 = .ok (.aload_n 0, 1) := by decide +kernel
theorem dX12_meanAge_1 : decode cX12_meanAge 1 = .ok (.iconst 0, 1) := by decide +kernel
theorem dX12_meanAge_2 : decode cX12_meanAge 2 = .ok (.putfield 46, 3) := by decide +kernel
theorem dX12_meanAge_5 : decode cX12_meanAge 5 = .ok (.iconst 0, 1) := by decide +kernel
theorem dX12_meanAge_6 : decode cX12_meanAge 6 = .ok (.istore_n 1, 1) := by decide +kernel
theorem dX12_meanAge_7 : decode cX12_meanAge 7 = .ok (.iconst 0, 1) := by decide +kernel
theorem dX12_meanAge_8 : decode cX12_meanAge 8 = .ok (.istore_n 2, 1) := by decide +kernel
theorem dX12_meanAge_9 : decode cX12_meanAge 9 = .ok (.iconst 0, 1) := by decide +kernel
theorem dX12_meanAge_10 : decode cX12_meanAge 10 = .ok (.istore_n 3, 1) := by decide +kernel
theorem dX12_meanAge_11 : decode cX12_meanAge 11 = .ok (.iload_n 3, 1) := by decide +kernel
theorem dX12_meanAge_12 : decode cX12_meanAge 12 = .ok (.aload_n 0, 1) := by decide +kernel
theorem dX12_meanAge_13 : decode cX12_meanAge 13 = .ok (.getfield 9, 3) := by decide +kernel
theorem dX12_meanAge_16 : decode cX12_meanAge 16 = .ok (.iconst 5, 1) := by decide +kernel
theorem dX12_meanAge_17 : decode cX12_meanAge 17 = .ok (.iaload, 1) := by decide +kernel
theorem dX12_meanAge_18 : decode cX12_meanAge 18 = .ok (.if_icmp .ge 57, 3) := by decide +kernel
theorem dX12_meanAge_21 : decode cX12_meanAge 21 = .ok (.iconst 0, 1) := by decide +kernel
theorem dX12_meanAge_22 : decode cX12_meanAge 22 = .ok (.istore 4, 2) := by decide +kernel
theorem dX12_meanAge_24 : decode cX12_meanAge 24 = .ok (.iload 4, 2) := by decide +kernel
theorem dX12_meanAge_26 : decode cX12_meanAge 26 = .ok (.iconst 4, 1) := by decide +kernel
theorem dX12_meanAge_27 : decode cX12_meanAge 27 = .ok (.if_icmp .ge 42, 3) := by decide +kernel
theorem dX12_meanAge_30 : decode cX12_meanAge 30 = .ok (.iload_n 1, 1) := by decide +kernel
theorem dX12_meanAge_31 : decode cX12_meanAge 31 = .ok (.iload 4, 2) := by decide +kernel
theorem dX12_meanAge_33 : decode cX12_meanAge 33 = .ok (.aload_n 0, 1) := by decide +kernel
theorem dX12_meanAge_34 : decode cX12_meanAge 34 = .ok (.getfield 9, 3) := by decide +kernel
theorem dX12_meanAge_37 : decode cX12_meanAge 37 = .ok (.aload_n 0, 1) := by decide +kernel
theorem dX12_meanAge_38 : decode cX12_meanAge 38 = .ok (.iload_n 3, 1) := by decide +kernel
theorem dX12_meanAge_39 : decode cX12_meanAge 39 = .ok (.iload 4, 2) := by decide +kernel
theorem dX12_meanAge_41 : decode cX12_meanAge 41 = .ok (.invokevirtual 139, 3) := by decide +kernel
theorem dX12_meanAge_44 : decode cX12_meanAge 44 = .ok (.iaload, 1) := by decide +kernel
theorem dX12_meanAge_45 : decode cX12_meanAge 45 = .ok (.imul, 1) := by decide +kernel
theorem dX12_meanAge_46 : decode cX12_meanAge 46 = .ok (.iadd, 1) := by decide +kernel
theorem dX12_meanAge_47 : decode cX12_meanAge 47 = .ok (.istore_n 1, 1) := by decide +kernel
theorem dX12_meanAge_48 : decode cX12_meanAge 48 = .ok (.iload_n 2, 1) := by decide +kernel
theorem dX12_meanAge_49 : decode cX12_meanAge 49 = .ok (.aload_n 0, 1) := by decide +kernel
theorem dX12_meanAge_50 : decode cX12_meanAge 50 = .ok (.getfield 9, 3) := by decide +kernel
theorem dX12_meanAge_53 : decode cX12_meanAge 53 = .ok (.aload_n 0, 1) := by decide +kernel
theorem dX12_meanAge_54 : decode cX12_meanAge 54 = .ok (.iload_n 3, 1) := by decide +kernel
theorem dX12_meanAge_55 : decode cX12_meanAge 55 = .ok (.iload 4, 2) := by decide +kernel
theorem dX12_meanAge_57 : decode cX12_meanAge 57 = .ok (.invokevirtual 139, 3) := by decide +kernel
theorem dX12_meanAge_60 : decode cX12_meanAge 60 = .ok (.iaload, 1) := by decide +kernel
theorem dX12_meanAge_61 : decode cX12_meanAge 61 = .ok (.iadd, 1) := by decide +kernel
theorem dX12_meanAge_62 : decode cX12_meanAge 62 = .ok (.istore_n 2, 1) := by decide +kernel
theorem dX12_meanAge_63 : decode cX12_meanAge 63 = .ok (.iinc 4 1, 3) := by decide +kernel
theorem dX12_meanAge_66 : decode cX12_meanAge 66 = .ok (.goto (-42), 3) := by decide +kernel
theorem dX12_meanAge_69 : decode cX12_meanAge 69 = .ok (.iinc 3 1, 3) := by decide +kernel
theorem dX12_meanAge_72 : decode cX12_meanAge 72 = .ok (.goto (-61), 3) := by decide +kernel
theorem dX12_meanAge_75 : decode cX12_meanAge 75 = .ok (.iload_n 2, 1) := by decide +kernel
theorem dX12_meanAge_76 : decode cX12_meanAge 76 = .ok (.ifCond .ne 7, 3) := by decide +kernel
theorem dX12_meanAge_79 : decode cX12_meanAge 79 = .ok (.iconst 1, 1) := by decide +kernel
theorem dX12_meanAge_80 : decode cX12_meanAge 80 = .ok (.goto 4, 3) := by decide +kernel
theorem dX12_meanAge_83 : decode cX12_meanAge 83 = .ok (.iload_n 2, 1) := by decide +kernel
theorem dX12_meanAge_84 : decode cX12_meanAge 84 = .ok (.istore_n 3, 1) := by decide +kernel
theorem dX12_meanAge_85 : decode cX12_meanAge 85 = .ok (.iload_n 1, 1) := by decide +kernel
theorem dX12_meanAge_86 : decode cX12_meanAge 86 = .ok (.i2d, 1) := by decide +kernel
theorem dX12_meanAge_87 : decode cX12_meanAge 87 = .ok (.iload_n 3, 1) := by decide +kernel
theorem dX12_meanAge_88 : decode cX12_meanAge 88 = .ok (.i2d, 1) := by decide +kernel
theorem dX12_meanAge_89 : decode cX12_meanAge 89 = .ok (.ddiv, 1) := by decide +kernel
theorem dX12_meanAge_90 : decode cX12_meanAge 90 = .ok (.dreturn, 1) := by decide +kernel
theorem dX12_thrownShare_0 : decode cX12_thrownShare 0 = .ok (.aload_n 0, 1) := by decide +kernel
theorem dX12_thrownShare_1 : decode cX12_thrownShare 1 = .ok (.iconst 0, 1) := by decide +kernel
theorem dX12_thrownShare_2 : decode cX12_thrownShare 2 = .ok (.putfield 46, 3) := by decide +kernel
theorem dX12_thrownShare_5 : decode cX12_thrownShare 5 = .ok (.aload_n 0, 1) := by decide +kernel
theorem dX12_thrownShare_6 : decode cX12_thrownShare 6 = .ok (.getfield 9, 3) := by decide +kernel
theorem dX12_thrownShare_9 : decode cX12_thrownShare 9 = .ok (.bipush 8, 2) := by decide +kernel
theorem dX12_thrownShare_11 : decode cX12_thrownShare 11 = .ok (.iaload, 1) := by decide +kernel
theorem dX12_thrownShare_12 : decode cX12_thrownShare 12 = .ok (.istore_n 1, 1) := by decide +kernel
theorem dX12_thrownShare_13 : decode cX12_thrownShare 13 = .ok (.iload_n 1, 1) := by decide +kernel
theorem dX12_thrownShare_14 : decode cX12_thrownShare 14 = .ok (.ifCond .ne 7, 3) := by decide +kernel
theorem dX12_thrownShare_17 : decode cX12_thrownShare 17 = .ok (.fconst 0, 1) := by decide +kernel
theorem dX12_thrownShare_18 : decode cX12_thrownShare 18 = .ok (.goto 14, 3) := by decide +kernel
theorem dX12_thrownShare_21 : decode cX12_thrownShare 21 = .ok (.aload_n 0, 1) := by decide +kernel
theorem dX12_thrownShare_22 : decode cX12_thrownShare 22 = .ok (.getfield 9, 3) := by decide +kernel
theorem dX12_thrownShare_25 : decode cX12_thrownShare 25 = .ok (.bipush 10, 2) := by decide +kernel
theorem dX12_thrownShare_27 : decode cX12_thrownShare 27 = .ok (.iaload, 1) := by decide +kernel
theorem dX12_thrownShare_28 : decode cX12_thrownShare 28 = .ok (.i2f, 1) := by decide +kernel
theorem dX12_thrownShare_29 : decode cX12_thrownShare 29 = .ok (.iload_n 1, 1) := by decide +kernel
theorem dX12_thrownShare_30 : decode cX12_thrownShare 30 = .ok (.i2f, 1) := by decide +kernel
theorem dX12_thrownShare_31 : decode cX12_thrownShare 31 = .ok (.fdiv, 1) := by decide +kernel
theorem dX12_thrownShare_32 : decode cX12_thrownShare 32 = .ok (.freturn, 1) := by decide +kernel
theorem dX12_checksum_0 : decode cX12_checksum 0 = .ok (.aload_n 0, 1) := by decide +kernel
theorem dX12_checksum_1 : decode cX12_checksum 1 = .ok (.iconst 0, 1) := by decide +kernel
theorem dX12_checksum_2 : decode cX12_checksum 2 = .ok (.putfield 46, 3) := by decide +kernel
theorem dX12_checksum_5 : decode cX12_checksum 5 = .ok (.ldc2_w 266, 3) := by decide +kernel
theorem dX12_checksum_8 : decode cX12_checksum 8 = .ok (.aload_n 0, 1) := by decide +kernel
theorem dX12_checksum_9 : decode cX12_checksum 9 = .ok (.getfield 9, 3) := by decide +kernel
theorem dX12_checksum_12 : decode cX12_checksum 12 = .ok (.iconst 0, 1) := by decide +kernel
theorem dX12_checksum_13 : decode cX12_checksum 13 = .ok (.iaload, 1) := by decide +kernel
theorem dX12_checksum_14 : decode cX12_checksum 14 = .ok (.i2l, 1) := by decide +kernel
theorem dX12_checksum_15 : decode cX12_checksum 15 = .ok (.ladd, 1) := by decide +kernel
theorem dX12_checksum_16 : decode cX12_checksum 16 = .ok (.lstore_n 1, 1) := by decide +kernel
theorem dX12_checksum_17 : decode cX12_checksum 17 = .ok (.iconst 0, 1) := by decide +kernel
theorem dX12_checksum_18 : decode cX12_checksum 18 = .ok (.istore_n 3, 1) := by decide +kernel
theorem dX12_checksum_19 : decode cX12_checksum 19 = .ok (.iload_n 3, 1) := by decide +kernel
theorem dX12_checksum_20 : decode cX12_checksum 20 = .ok (.bipush 8, 2) := by decide +kernel
theorem dX12_checksum_22 : decode cX12_checksum 22 = .ok (.if_icmp .ge 26, 3) := by decide +kernel
theorem dX12_checksum_25 : decode cX12_checksum 25 = .ok (.ldc2_w 268, 3) := by decide +kernel
theorem dX12_checksum_28 : decode cX12_checksum 28 = .ok (.lload_n 1, 1) := by decide +kernel
theorem dX12_checksum_29 : decode cX12_checksum 29 = .ok (.lmul, 1) := by decide +kernel
theorem dX12_checksum_30 : decode cX12_checksum 30 = .ok (.aload_n 0, 1) := by decide +kernel
theorem dX12_checksum_31 : decode cX12_checksum 31 = .ok (.getfield 9, 3) := by decide +kernel
theorem dX12_checksum_34 : decode cX12_checksum 34 = .ok (.bipush 11, 2) := by decide +kernel
theorem dX12_checksum_36 : decode cX12_checksum 36 = .ok (.iload_n 3, 1) := by decide +kernel
theorem dX12_checksum_37 : decode cX12_checksum 37 = .ok (.iadd, 1) := by decide +kernel
theorem dX12_checksum_38 : decode cX12_checksum 38 = .ok (.iaload, 1) := by decide +kernel
theorem dX12_checksum_39 : decode cX12_checksum 39 = .ok (.i2l, 1) := by decide +kernel
theorem dX12_checksum_40 : decode cX12_checksum 40 = .ok (.ladd, 1) := by decide +kernel
theorem dX12_checksum_41 : decode cX12_checksum 41 = .ok (.lstore_n 1, 1) := by decide +kernel
theorem dX12_checksum_42 : decode cX12_checksum 42 = .ok (.iinc 3 1, 3) := by decide +kernel
theorem dX12_checksum_45 : decode cX12_checksum 45 = .ok (.goto (-26), 3) := by decide +kernel
theorem dX12_checksum_48 : decode cX12_checksum 48 = .ok (.iconst 0, 1) := by decide +kernel
theorem dX12_checksum_49 : decode cX12_checksum 49 = .ok (.istore_n 3, 1) := by decide +kernel
theorem dX12_checksum_50 : decode cX12_checksum 50 = .ok (.iload_n 3, 1) := by decide +kernel
theorem dX12_checksum_51 : decode cX12_checksum 51 = .ok (.aload_n 0, 1) := by decide +kernel
theorem dX12_checksum_52 : decode cX12_checksum 52 = .ok (.getfield 9, 3) := by decide +kernel
theorem dX12_checksum_55 : decode cX12_checksum 55 = .ok (.bipush 6, 2) := by decide +kernel
theorem dX12_checksum_57 : decode cX12_checksum 57 = .ok (.iaload, 1) := by decide +kernel
theorem dX12_checksum_58 : decode cX12_checksum 58 = .ok (.if_icmp .ge 45, 3) := by decide +kernel
theorem dX12_checksum_61 : decode cX12_checksum 61 = .ok (.ldc2_w 268, 3) := by decide +kernel
theorem dX12_checksum_64 : decode cX12_checksum 64 = .ok (.lload_n 1, 1) := by decide +kernel
theorem dX12_checksum_65 : decode cX12_checksum 65 = .ok (.lmul, 1) := by decide +kernel
theorem dX12_checksum_66 : decode cX12_checksum 66 = .ok (.aload_n 0, 1) := by decide +kernel
theorem dX12_checksum_67 : decode cX12_checksum 67 = .ok (.getfield 9, 3) := by decide +kernel
theorem dX12_checksum_70 : decode cX12_checksum 70 = .ok (.sipush 163, 3) := by decide +kernel
theorem dX12_checksum_73 : decode cX12_checksum 73 = .ok (.iload_n 3, 1) := by decide +kernel
theorem dX12_checksum_74 : decode cX12_checksum 74 = .ok (.iadd, 1) := by decide +kernel
theorem dX12_checksum_75 : decode cX12_checksum 75 = .ok (.iaload, 1) := by decide +kernel
theorem dX12_checksum_76 : decode cX12_checksum 76 = .ok (.i2l, 1) := by decide +kernel
theorem dX12_checksum_77 : decode cX12_checksum 77 = .ok (.ladd, 1) := by decide +kernel
theorem dX12_checksum_78 : decode cX12_checksum 78 = .ok (.lstore_n 1, 1) := by decide +kernel
theorem dX12_checksum_79 : decode cX12_checksum 79 = .ok (.ldc2_w 268, 3) := by decide +kernel
theorem dX12_checksum_82 : decode cX12_checksum 82 = .ok (.lload_n 1, 1) := by decide +kernel
theorem dX12_checksum_83 : decode cX12_checksum 83 = .ok (.lmul, 1) := by decide +kernel
theorem dX12_checksum_84 : decode cX12_checksum 84 = .ok (.aload_n 0, 1) := by decide +kernel
theorem dX12_checksum_85 : decode cX12_checksum 85 = .ok (.getfield 9, 3) := by decide +kernel
theorem dX12_checksum_88 : decode cX12_checksum 88 = .ok (.sipush 143, 3) := by decide +kernel
theorem dX12_checksum_91 : decode cX12_checksum 91 = .ok (.iload_n 3, 1) := by decide +kernel
theorem dX12_checksum_92 : decode cX12_checksum 92 = .ok (.iadd, 1) := by decide +kernel
theorem dX12_checksum_93 : decode cX12_checksum 93 = .ok (.iaload, 1) := by decide +kernel
theorem dX12_checksum_94 : decode cX12_checksum 94 = .ok (.i2l, 1) := by decide +kernel
theorem dX12_checksum_95 : decode cX12_checksum 95 = .ok (.ladd, 1) := by decide +kernel
theorem dX12_checksum_96 : decode cX12_checksum 96 = .ok (.lstore_n 1, 1) := by decide +kernel
theorem dX12_checksum_97 : decode cX12_checksum 97 = .ok (.iinc 3 1, 3) := by decide +kernel
theorem dX12_checksum_100 : decode cX12_checksum 100 = .ok (.goto (-50), 3) := by decide +kernel
theorem dX12_checksum_103 : decode cX12_checksum 103 = .ok (.iconst 0, 1) := by decide +kernel
theorem dX12_checksum_104 : decode cX12_checksum 104 = .ok (.istore_n 3, 1) := by decide +kernel
theorem dX12_checksum_105 : decode cX12_checksum 105 = .ok (.iload_n 3, 1) := by decide +kernel
theorem dX12_checksum_106 : decode cX12_checksum 106 = .ok (.iconst 4, 1) := by decide +kernel
theorem dX12_checksum_107 : decode cX12_checksum 107 = .ok (.aload_n 0, 1) := by decide +kernel
theorem dX12_checksum_108 : decode cX12_checksum 108 = .ok (.getfield 9, 3) := by decide +kernel
theorem dX12_checksum_111 : decode cX12_checksum 111 = .ok (.iconst 5, 1) := by decide +kernel
theorem dX12_checksum_112 : decode cX12_checksum 112 = .ok (.iaload, 1) := by decide +kernel
theorem dX12_checksum_113 : decode cX12_checksum 113 = .ok (.imul, 1) := by decide +kernel
theorem dX12_checksum_114 : decode cX12_checksum 114 = .ok (.if_icmp .ge 27, 3) := by decide +kernel
theorem dX12_checksum_117 : decode cX12_checksum 117 = .ok (.ldc2_w 268, 3) := by decide +kernel
theorem dX12_checksum_120 : decode cX12_checksum 120 = .ok (.lload_n 1, 1) := by decide +kernel
theorem dX12_checksum_121 : decode cX12_checksum 121 = .ok (.lmul, 1) := by decide +kernel
theorem dX12_checksum_122 : decode cX12_checksum 122 = .ok (.aload_n 0, 1) := by decide +kernel
theorem dX12_checksum_123 : decode cX12_checksum 123 = .ok (.getfield 9, 3) := by decide +kernel
theorem dX12_checksum_126 : decode cX12_checksum 126 = .ok (.sipush 223, 3) := by decide +kernel
theorem dX12_checksum_129 : decode cX12_checksum 129 = .ok (.iload_n 3, 1) := by decide +kernel
theorem dX12_checksum_130 : decode cX12_checksum 130 = .ok (.iadd, 1) := by decide +kernel
theorem dX12_checksum_131 : decode cX12_checksum 131 = .ok (.iaload, 1) := by decide +kernel
theorem dX12_checksum_132 : decode cX12_checksum 132 = .ok (.i2l, 1) := by decide +kernel
theorem dX12_checksum_133 : decode cX12_checksum 133 = .ok (.ladd, 1) := by decide +kernel
theorem dX12_checksum_134 : decode cX12_checksum 134 = .ok (.lstore_n 1, 1) := by decide +kernel
theorem dX12_checksum_135 : decode cX12_checksum 135 = .ok (.iinc 3 1, 3) := by decide +kernel
theorem dX12_checksum_138 : decode cX12_checksum 138 = .ok (.goto (-33), 3) := by decide +kernel
theorem dX12_checksum_141 : decode cX12_checksum 141 = .ok (.lload_n 1, 1) := by decide +kernel
theorem dX12_checksum_142 : decode cX12_checksum 142 = .ok (.lreturn, 1) := by decide +kernel
theorem dX12_errors_0 : decode cX12_errors 0 = .ok (.aload_n 0, 1) := by decide +kernel
theorem dX12_errors_1 : decode cX12_errors 1 = .ok (.iconst 0, 1) := by decide +kernel
theorem dX12_errors_2 : decode cX12_errors 2 = .ok (.putfield 46, 3) := by decide +kernel
theorem dX12_errors_5 : decode cX12_errors 5 = .ok (.iconst 0, 1) := by decide +kernel
theorem dX12_errors_6 : decode cX12_errors 6 = .ok (.ireturn, 1) := by decide +kernel
