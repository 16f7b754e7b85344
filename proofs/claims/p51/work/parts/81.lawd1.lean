theorem dL_init_0 : decode cL_init 0 = .ok (.aload_n 0, 1) := by decide +kernel
theorem dL_init_1 : decode cL_init 1 = .ok (.invokespecial 1, 3) := by decide +kernel
theorem dL_init_4 : decode cL_init 4 = .ok (.aload_n 0, 1) := by decide +kernel
theorem dL_init_5 : decode cL_init 5 = .ok (.new 7, 3) := by decide +kernel
theorem dL_init_8 : decode cL_init 8 = .ok (.dup, 1) := by decide +kernel
theorem dL_init_9 : decode cL_init 9 = .ok (.invokespecial 9, 3) := by decide +kernel
theorem dL_init_12 : decode cL_init 12 = .ok (.putfield 10, 3) := by decide +kernel
theorem dL_init_15 : decode cL_init 15 = .ok (.aload_n 0, 1) := by decide +kernel
theorem dL_init_16 : decode cL_init 16 = .ok (.iconst 4, 1) := by decide +kernel
theorem dL_init_17 : decode cL_init 17 = .ok (.newarray .int, 2) := by decide +kernel
theorem dL_init_19 : decode cL_init 19 = .ok (.putfield 16, 3) := by decide +kernel
theorem dL_init_22 : decode cL_init 22 = .ok (.aload_n 0, 1) := by decide +kernel
theorem dL_init_23 : decode cL_init 23 = .ok (.iconst 4, 1) := by decide +kernel
theorem dL_init_24 : decode cL_init 24 = .ok (.newarray .int, 2) := by decide +kernel
theorem dL_init_26 : decode cL_init 26 = .ok (.putfield 20, 3) := by decide +kernel
theorem dL_init_29 : decode cL_init 29 = .ok (.aload_n 0, 1) := by decide +kernel
theorem dL_init_30 : decode cL_init 30 = .ok (.iconst 4, 1) := by decide +kernel
theorem dL_init_31 : decode cL_init 31 = .ok (.newarray .int, 2) := by decide +kernel
theorem dL_init_33 : decode cL_init 33 = .ok (.putfield 23, 3) := by decide +kernel
theorem dL_init_36 : decode cL_init 36 = .ok (.aload_n 0, 1) := by decide +kernel
theorem dL_init_37 : decode cL_init 37 = .ok (.iconst 4, 1) := by decide +kernel
theorem dL_init_38 : decode cL_init 38 = .ok (.newarray .int, 2) := by decide +kernel
theorem dL_init_40 : decode cL_init 40 = .ok (.putfield 26, 3) := by decide +kernel
theorem dL_init_43 : decode cL_init 43 = .ok (.aload_n 0, 1) := by decide +kernel
theorem dL_init_44 : decode cL_init 44 = .ok (.new 29, 3) := by decide +kernel
theorem dL_init_47 : decode cL_init 47 = .ok (.dup, 1) := by decide +kernel
theorem dL_init_48 : decode cL_init 48 = .ok (.aload_n 1, 1) := by decide +kernel
theorem dL_init_49 : decode cL_init 49 = .ok (.invokespecial 31, 3) := by decide +kernel
theorem dL_init_52 : decode cL_init 52 = .ok (.putfield 34, 3) := by decide +kernel
theorem dL_init_55 : decode cL_init 55 = .ok (.return_, 1) := by decide +kernel
theorem dL_isKept_0 : decode cL_isKept 0 = .ok (.aload_n 0, 1) := by decide +kernel
theorem dL_isKept_1 : decode cL_isKept 1 = .ok (.getfield 10, 3) := by decide +kernel
theorem dL_isKept_4 : decode cL_isKept 4 = .ok (.iconst 1, 1) := by decide +kernel
theorem dL_isKept_5 : decode cL_isKept 5 = .ok (.invokevirtual 38, 3) := by decide +kernel
theorem dL_isKept_8 : decode cL_isKept 8 = .ok (.aload_n 0, 1) := by decide +kernel
theorem dL_isKept_9 : decode cL_isKept 9 = .ok (.getfield 10, 3) := by decide +kernel
theorem dL_isKept_12 : decode cL_isKept 12 = .ok (.iconst 2, 1) := by decide +kernel
theorem dL_isKept_13 : decode cL_isKept 13 = .ok (.invokevirtual 38, 3) := by decide +kernel
theorem dL_isKept_16 : decode cL_isKept 16 = .ok (.iadd, 1) := by decide +kernel
theorem dL_isKept_17 : decode cL_isKept 17 = .ok (.aload_n 0, 1) := by decide +kernel
theorem dL_isKept_18 : decode cL_isKept 18 = .ok (.getfield 10, 3) := by decide +kernel
theorem dL_isKept_21 : decode cL_isKept 21 = .ok (.iconst 3, 1) := by decide +kernel
theorem dL_isKept_22 : decode cL_isKept 22 = .ok (.invokevirtual 38, 3) := by decide +kernel
theorem dL_isKept_25 : decode cL_isKept 25 = .ok (.iadd, 1) := by decide +kernel
theorem dL_isKept_26 : decode cL_isKept 26 = .ok (.aload_n 0, 1) := by decide +kernel
theorem dL_isKept_27 : decode cL_isKept 27 = .ok (.getfield 10, 3) := by decide +kernel
theorem dL_isKept_30 : decode cL_isKept 30 = .ok (.iconst 4, 1) := by decide +kernel
theorem dL_isKept_31 : decode cL_isKept 31 = .ok (.invokevirtual 38, 3) := by decide +kernel
theorem dL_isKept_34 : decode cL_isKept 34 = .ok (.iadd, 1) := by decide +kernel
theorem dL_isKept_35 : decode cL_isKept 35 = .ok (.aload_n 0, 1) := by decide +kernel
theorem dL_isKept_36 : decode cL_isKept 36 = .ok (.getfield 10, 3) := by decide +kernel
theorem dL_isKept_39 : decode cL_isKept 39 = .ok (.iconst 5, 1) := by decide +kernel
theorem dL_isKept_40 : decode cL_isKept 40 = .ok (.invokevirtual 38, 3) := by decide +kernel
theorem dL_isKept_43 : decode cL_isKept 43 = .ok (.iadd, 1) := by decide +kernel
theorem dL_isKept_44 : decode cL_isKept 44 = .ok (.aload_n 0, 1) := by decide +kernel
theorem dL_isKept_45 : decode cL_isKept 45 = .ok (.getfield 10, 3) := by decide +kernel
theorem dL_isKept_48 : decode cL_isKept 48 = .ok (.bipush 6, 2) := by decide +kernel
theorem dL_isKept_50 : decode cL_isKept 50 = .ok (.invokevirtual 38, 3) := by decide +kernel
theorem dL_isKept_53 : decode cL_isKept 53 = .ok (.iadd, 1) := by decide +kernel
theorem dL_isKept_54 : decode cL_isKept 54 = .ok (.istore_n 1, 1) := by decide +kernel
theorem dL_isKept_55 : decode cL_isKept 55 = .ok (.iconst 0, 1) := by decide +kernel
theorem dL_isKept_56 : decode cL_isKept 56 = .ok (.istore_n 2, 1) := by decide +kernel
theorem dL_isKept_57 : decode cL_isKept 57 = .ok (.iconst 0, 1) := by decide +kernel
theorem dL_isKept_58 : decode cL_isKept 58 = .ok (.istore_n 3, 1) := by decide +kernel
theorem dL_isKept_59 : decode cL_isKept 59 = .ok (.iload_n 3, 1) := by decide +kernel
theorem dL_isKept_60 : decode cL_isKept 60 = .ok (.bipush 8, 2) := by decide +kernel
theorem dL_isKept_62 : decode cL_isKept 62 = .ok (.if_icmp .ge 20, 3) := by decide +kernel
theorem dL_isKept_65 : decode cL_isKept 65 = .ok (.iload_n 2, 1) := by decide +kernel
theorem dL_isKept_66 : decode cL_isKept 66 = .ok (.aload_n 0, 1) := by decide +kernel
theorem dL_isKept_67 : decode cL_isKept 67 = .ok (.getfield 10, 3) := by decide +kernel
theorem dL_isKept_70 : decode cL_isKept 70 = .ok (.iload_n 3, 1) := by decide +kernel
theorem dL_isKept_71 : decode cL_isKept 71 = .ok (.invokevirtual 42, 3) := by decide +kernel
theorem dL_isKept_74 : decode cL_isKept 74 = .ok (.iadd, 1) := by decide +kernel
theorem dL_isKept_75 : decode cL_isKept 75 = .ok (.istore_n 2, 1) := by decide +kernel
theorem dL_isKept_76 : decode cL_isKept 76 = .ok (.iinc 3 1, 3) := by decide +kernel
theorem dL_isKept_79 : decode cL_isKept 79 = .ok (.goto (-20), 3) := by decide +kernel
theorem dL_isKept_82 : decode cL_isKept 82 = .ok (.iload_n 1, 1) := by decide +kernel
theorem dL_isKept_83 : decode cL_isKept 83 = .ok (.aload_n 0, 1) := by decide +kernel
theorem dL_isKept_84 : decode cL_isKept 84 = .ok (.getfield 10, 3) := by decide +kernel
theorem dL_isKept_87 : decode cL_isKept 87 = .ok (.iconst 0, 1) := by decide +kernel
theorem dL_isKept_88 : decode cL_isKept 88 = .ok (.invokevirtual 38, 3) := by decide +kernel
theorem dL_isKept_91 : decode cL_isKept 91 = .ok (.if_icmp .ne 19, 3) := by decide +kernel
theorem dL_isKept_94 : decode cL_isKept 94 = .ok (.iload_n 2, 1) := by decide +kernel
theorem dL_isKept_95 : decode cL_isKept 95 = .ok (.aload_n 0, 1) := by decide +kernel
theorem dL_isKept_96 : decode cL_isKept 96 = .ok (.getfield 10, 3) := by decide +kernel
theorem dL_isKept_99 : decode cL_isKept 99 = .ok (.iconst 3, 1) := by decide +kernel
theorem dL_isKept_100 : decode cL_isKept 100 = .ok (.invokevirtual 38, 3) := by decide +kernel
theorem dL_isKept_103 : decode cL_isKept 103 = .ok (.if_icmp .ne 7, 3) := by decide +kernel
theorem dL_isKept_106 : decode cL_isKept 106 = .ok (.iconst 1, 1) := by decide +kernel
theorem dL_isKept_107 : decode cL_isKept 107 = .ok (.goto 4, 3) := by decide +kernel
theorem dL_isKept_110 : decode cL_isKept 110 = .ok (.iconst 0, 1) := by decide +kernel
theorem dL_isKept_111 : decode cL_isKept 111 = .ok (.ireturn, 1) := by decide +kernel
theorem dL_mixed_0 : decode cL_mixed 0 = .ok (.aload_n 0, 1) := by decide +kernel
theorem dL_mixed_1 : decode cL_mixed 1 = .ok (.iload_n 1, 1) := by decide +kernel
theorem dL_mixed_2 : decode cL_mixed 2 = .ok (.iload_n 2, 1) := by decide +kernel
theorem dL_mixed_3 : decode cL_mixed 3 = .ok (.invokevirtual 122, 3) := by decide +kernel
theorem dL_mixed_6 : decode cL_mixed 6 = .ok (.ireturn, 1) := by decide +kernel
theorem dL_mixed_7 : decode cL_mixed 7 = .ok (.astore_n 3, 1) := by decide +kernel
theorem dL_mixed_8 : decode cL_mixed 8 = .ok (.iconst (-1), 1) := by decide +kernel
theorem dL_mixed_9 : decode cL_mixed 9 = .ok (.ireturn, 1) := by decide +kernel
theorem dL_baked_0 : decode cL_baked 0 = .ok (.aload_n 0, 1) := by decide +kernel
theorem dL_baked_1 : decode cL_baked 1 = .ok (.iload_n 1, 1) := by decide +kernel
theorem dL_baked_2 : decode cL_baked 2 = .ok (.invokevirtual 127, 3) := by decide +kernel
theorem dL_baked_5 : decode cL_baked 5 = .ok (.ireturn, 1) := by decide +kernel
theorem dL_baked_6 : decode cL_baked 6 = .ok (.astore_n 2, 1) := by decide +kernel
theorem dL_baked_7 : decode cL_baked 7 = .ok (.iconst (-1), 1) := by decide +kernel
theorem dL_baked_8 : decode cL_baked 8 = .ok (.ireturn, 1) := by decide +kernel
theorem dL_bounds_0 : decode cL_bounds 0 = .ok (.aload_n 0, 1) := by decide +kernel
theorem dL_bounds_1 : decode cL_bounds 1 = .ok (.getfield 10, 3) := by decide +kernel
theorem dL_bounds_4 : decode cL_bounds 4 = .ok (.iload_n 1, 1) := by decide +kernel
theorem dL_bounds_5 : decode cL_bounds 5 = .ok (.iconst 0, 1) := by decide +kernel
theorem dL_bounds_6 : decode cL_bounds 6 = .ok (.invokevirtual 130, 3) := by decide +kernel
theorem dL_bounds_9 : decode cL_bounds 9 = .ok (.istore_n 2, 1) := by decide +kernel
theorem dL_bounds_10 : decode cL_bounds 10 = .ok (.aload_n 0, 1) := by decide +kernel
theorem dL_bounds_11 : decode cL_bounds 11 = .ok (.getfield 10, 3) := by decide +kernel
theorem dL_bounds_14 : decode cL_bounds 14 = .ok (.iload_n 1, 1) := by decide +kernel
theorem dL_bounds_15 : decode cL_bounds 15 = .ok (.iconst 2, 1) := by decide +kernel
theorem dL_bounds_16 : decode cL_bounds 16 = .ok (.invokevirtual 130, 3) := by decide +kernel
theorem dL_bounds_19 : decode cL_bounds 19 = .ok (.istore_n 3, 1) := by decide +kernel
theorem dL_bounds_20 : decode cL_bounds 20 = .ok (.aload_n 0, 1) := by decide +kernel
theorem dL_bounds_21 : decode cL_bounds 21 = .ok (.getfield 10, 3) := by decide +kernel
theorem dL_bounds_24 : decode cL_bounds 24 = .ok (.iload_n 1, 1) := by decide +kernel
theorem dL_bounds_25 : decode cL_bounds 25 = .ok (.iconst 3, 1) := by decide +kernel
theorem dL_bounds_26 : decode cL_bounds 26 = .ok (.invokevirtual 130, 3) := by decide +kernel
theorem dL_bounds_29 : decode cL_bounds 29 = .ok (.istore 4, 2) := by decide +kernel
theorem dL_bounds_31 : decode cL_bounds 31 = .ok (.aload_n 0, 1) := by decide +kernel
theorem dL_bounds_32 : decode cL_bounds 32 = .ok (.getfield 10, 3) := by decide +kernel
theorem dL_bounds_35 : decode cL_bounds 35 = .ok (.invokevirtual 133, 3) := by decide +kernel
theorem dL_bounds_38 : decode cL_bounds 38 = .ok (.istore 5, 2) := by decide +kernel
theorem dL_bounds_40 : decode cL_bounds 40 = .ok (.getstatic 136, 3) := by decide +kernel
theorem dL_bounds_43 : decode cL_bounds 43 = .ok (.aload_n 0, 1) := by decide +kernel
theorem dL_bounds_44 : decode cL_bounds 44 = .ok (.getfield 139, 3) := by decide +kernel
theorem dL_bounds_47 : decode cL_bounds 47 = .ok (.iaload, 1) := by decide +kernel
theorem dL_bounds_48 : decode cL_bounds 48 = .ok (.istore 6, 2) := by decide +kernel
theorem dL_bounds_50 : decode cL_bounds 50 = .ok (.iload 4, 2) := by decide +kernel
theorem dL_bounds_52 : decode cL_bounds 52 = .ok (.iconst 1, 1) := by decide +kernel
theorem dL_bounds_53 : decode cL_bounds 53 = .ok (.if_icmp .ne 46, 3) := by decide +kernel
theorem dL_bounds_56 : decode cL_bounds 56 = .ok (.aload_n 0, 1) := by decide +kernel
theorem dL_bounds_57 : decode cL_bounds 57 = .ok (.getfield 10, 3) := by decide +kernel
theorem dL_bounds_60 : decode cL_bounds 60 = .ok (.iload_n 1, 1) := by decide +kernel
theorem dL_bounds_61 : decode cL_bounds 61 = .ok (.iconst 5, 1) := by decide +kernel
theorem dL_bounds_62 : decode cL_bounds 62 = .ok (.invokevirtual 130, 3) := by decide +kernel
theorem dL_bounds_65 : decode cL_bounds 65 = .ok (.aload_n 0, 1) := by decide +kernel
theorem dL_bounds_66 : decode cL_bounds 66 = .ok (.getfield 23, 3) := by decide +kernel
theorem dL_bounds_69 : decode cL_bounds 69 = .ok (.iload_n 2, 1) := by decide +kernel
theorem dL_bounds_70 : decode cL_bounds 70 = .ok (.iaload, 1) := by decide +kernel
theorem dL_bounds_71 : decode cL_bounds 71 = .ok (.iadd, 1) := by decide +kernel
theorem dL_bounds_72 : decode cL_bounds 72 = .ok (.istore 7, 2) := by decide +kernel
theorem dL_bounds_74 : decode cL_bounds 74 = .ok (.iload 7, 2) := by decide +kernel
theorem dL_bounds_76 : decode cL_bounds 76 = .ok (.iload 5, 2) := by decide +kernel
theorem dL_bounds_78 : decode cL_bounds 78 = .ok (.if_icmp .ge 7, 3) := by decide +kernel
theorem dL_bounds_81 : decode cL_bounds 81 = .ok (.aconst_null, 1) := by decide +kernel
theorem dL_bounds_82 : decode cL_bounds 82 = .ok (.goto 16, 3) := by decide +kernel
theorem dL_bounds_85 : decode cL_bounds 85 = .ok (.iconst 2, 1) := by decide +kernel
theorem dL_bounds_86 : decode cL_bounds 86 = .ok (.newarray .int, 2) := by decide +kernel
theorem dL_bounds_88 : decode cL_bounds 88 = .ok (.dup, 1) := by decide +kernel
theorem dL_bounds_89 : decode cL_bounds 89 = .ok (.iconst 0, 1) := by decide +kernel
theorem dL_bounds_90 : decode cL_bounds 90 = .ok (.iload 5, 2) := by decide +kernel
theorem dL_bounds_92 : decode cL_bounds 92 = .ok (.iastore, 1) := by decide +kernel
theorem dL_bounds_93 : decode cL_bounds 93 = .ok (.dup, 1) := by decide +kernel
theorem dL_bounds_94 : decode cL_bounds 94 = .ok (.iconst 1, 1) := by decide +kernel
theorem dL_bounds_95 : decode cL_bounds 95 = .ok (.iload 7, 2) := by decide +kernel
theorem dL_bounds_97 : decode cL_bounds 97 = .ok (.iastore, 1) := by decide +kernel
theorem dL_bounds_98 : decode cL_bounds 98 = .ok (.areturn, 1) := by decide +kernel
theorem dL_bounds_99 : decode cL_bounds 99 = .ok (.iload 4, 2) := by decide +kernel
theorem dL_bounds_101 : decode cL_bounds 101 = .ok (.ifCond .ne 13, 3) := by decide +kernel
theorem dL_bounds_104 : decode cL_bounds 104 = .ok (.iload_n 3, 1) := by decide +kernel
theorem dL_bounds_105 : decode cL_bounds 105 = .ok (.aload_n 0, 1) := by decide +kernel
theorem dL_bounds_106 : decode cL_bounds 106 = .ok (.getfield 20, 3) := by decide +kernel
theorem dL_bounds_109 : decode cL_bounds 109 = .ok (.iload_n 2, 1) := by decide +kernel
theorem dL_bounds_110 : decode cL_bounds 110 = .ok (.iaload, 1) := by decide +kernel
theorem dL_bounds_111 : decode cL_bounds 111 = .ok (.if_icmp .le 5, 3) := by decide +kernel
theorem dL_bounds_114 : decode cL_bounds 114 = .ok (.aconst_null, 1) := by decide +kernel
theorem dL_bounds_115 : decode cL_bounds 115 = .ok (.areturn, 1) := by decide +kernel
theorem dL_bounds_116 : decode cL_bounds 116 = .ok (.iload 6, 2) := by decide +kernel
theorem dL_bounds_118 : decode cL_bounds 118 = .ok (.ifCond .ne 31, 3) := by decide +kernel
theorem dL_bounds_121 : decode cL_bounds 121 = .ok (.iload_n 3, 1) := by decide +kernel
theorem dL_bounds_122 : decode cL_bounds 122 = .ok (.aload_n 0, 1) := by decide +kernel
theorem dL_bounds_123 : decode cL_bounds 123 = .ok (.getfield 16, 3) := by decide +kernel
theorem dL_bounds_126 : decode cL_bounds 126 = .ok (.iload_n 2, 1) := by decide +kernel
theorem dL_bounds_127 : decode cL_bounds 127 = .ok (.iaload, 1) := by decide +kernel
theorem dL_bounds_128 : decode cL_bounds 128 = .ok (.if_icmp .ge 7, 3) := by decide +kernel
theorem dL_bounds_131 : decode cL_bounds 131 = .ok (.aconst_null, 1) := by decide +kernel
theorem dL_bounds_132 : decode cL_bounds 132 = .ok (.goto 16, 3) := by decide +kernel
theorem dL_bounds_135 : decode cL_bounds 135 = .ok (.iconst 2, 1) := by decide +kernel
theorem dL_bounds_136 : decode cL_bounds 136 = .ok (.newarray .int, 2) := by decide +kernel
theorem dL_bounds_138 : decode cL_bounds 138 = .ok (.dup, 1) := by decide +kernel
theorem dL_bounds_139 : decode cL_bounds 139 = .ok (.iconst 0, 1) := by decide +kernel
theorem dL_bounds_140 : decode cL_bounds 140 = .ok (.iload 5, 2) := by decide +kernel
theorem dL_bounds_142 : decode cL_bounds 142 = .ok (.iastore, 1) := by decide +kernel
theorem dL_bounds_143 : decode cL_bounds 143 = .ok (.dup, 1) := by decide +kernel
theorem dL_bounds_144 : decode cL_bounds 144 = .ok (.iconst 1, 1) := by decide +kernel
theorem dL_bounds_145 : decode cL_bounds 145 = .ok (.ldc 142, 2) := by decide +kernel
theorem dL_bounds_147 : decode cL_bounds 147 = .ok (.iastore, 1) := by decide +kernel
theorem dL_bounds_148 : decode cL_bounds 148 = .ok (.areturn, 1) := by decide +kernel
theorem dL_bounds_149 : decode cL_bounds 149 = .ok (.iload 5, 2) := by decide +kernel
theorem dL_bounds_151 : decode cL_bounds 151 = .ok (.istore 7, 2) := by decide +kernel
theorem dL_bounds_153 : decode cL_bounds 153 = .ok (.iload_n 3, 1) := by decide +kernel
theorem dL_bounds_154 : decode cL_bounds 154 = .ok (.istore 8, 2) := by decide +kernel
theorem dL_bounds_156 : decode cL_bounds 156 = .ok (.iload 8, 2) := by decide +kernel
theorem dL_bounds_158 : decode cL_bounds 158 = .ok (.aload_n 0, 1) := by decide +kernel
theorem dL_bounds_159 : decode cL_bounds 159 = .ok (.getfield 16, 3) := by decide +kernel
theorem dL_bounds_162 : decode cL_bounds 162 = .ok (.iload_n 2, 1) := by decide +kernel
theorem dL_bounds_163 : decode cL_bounds 163 = .ok (.iaload, 1) := by decide +kernel
theorem dL_bounds_164 : decode cL_bounds 164 = .ok (.if_icmp .ge 16, 3) := by decide +kernel
theorem dL_bounds_167 : decode cL_bounds 167 = .ok (.iinc 7 1, 3) := by decide +kernel
theorem dL_bounds_170 : decode cL_bounds 170 = .ok (.iload 8, 2) := by decide +kernel
theorem dL_bounds_172 : decode cL_bounds 172 = .ok (.iload 6, 2) := by decide +kernel
theorem dL_bounds_174 : decode cL_bounds 174 = .ok (.iadd, 1) := by decide +kernel
theorem dL_bounds_175 : decode cL_bounds 175 = .ok (.istore 8, 2) := by decide +kernel
theorem dL_bounds_177 : decode cL_bounds 177 = .ok (.goto (-21), 3) := by decide +kernel
theorem dL_bounds_180 : decode cL_bounds 180 = .ok (.iload 5, 2) := by decide +kernel
theorem dL_bounds_182 : decode cL_bounds 182 = .ok (.istore 8, 2) := by decide +kernel
theorem dL_bounds_184 : decode cL_bounds 184 = .ok (.iload_n 3, 1) := by decide +kernel
theorem dL_bounds_185 : decode cL_bounds 185 = .ok (.istore 9, 2) := by decide +kernel
theorem dL_bounds_187 : decode cL_bounds 187 = .ok (.iload 9, 2) := by decide +kernel
theorem dL_bounds_189 : decode cL_bounds 189 = .ok (.iload 6, 2) := by decide +kernel
theorem dL_bounds_191 : decode cL_bounds 191 = .ok (.iadd, 1) := by decide +kernel
theorem dL_bounds_192 : decode cL_bounds 192 = .ok (.aload_n 0, 1) := by decide +kernel
theorem dL_bounds_193 : decode cL_bounds 193 = .ok (.getfield 20, 3) := by decide +kernel
theorem dL_bounds_196 : decode cL_bounds 196 = .ok (.iload_n 2, 1) := by decide +kernel
theorem dL_bounds_197 : decode cL_bounds 197 = .ok (.iaload, 1) := by decide +kernel
theorem dL_bounds_198 : decode cL_bounds 198 = .ok (.if_icmp .gt 16, 3) := by decide +kernel
theorem dL_bounds_201 : decode cL_bounds 201 = .ok (.iinc 8 1, 3) := by decide +kernel
theorem dL_bounds_204 : decode cL_bounds 204 = .ok (.iload 9, 2) := by decide +kernel
theorem dL_bounds_206 : decode cL_bounds 206 = .ok (.iload 6, 2) := by decide +kernel
theorem dL_bounds_208 : decode cL_bounds 208 = .ok (.iadd, 1) := by decide +kernel
theorem dL_bounds_209 : decode cL_bounds 209 = .ok (.istore 9, 2) := by decide +kernel
theorem dL_bounds_211 : decode cL_bounds 211 = .ok (.goto (-24), 3) := by decide +kernel
theorem dL_bounds_214 : decode cL_bounds 214 = .ok (.iload 7, 2) := by decide +kernel
theorem dL_bounds_216 : decode cL_bounds 216 = .ok (.iload 8, 2) := by decide +kernel
theorem dL_bounds_218 : decode cL_bounds 218 = .ok (.if_icmp .le 7, 3) := by decide +kernel
theorem dL_bounds_221 : decode cL_bounds 221 = .ok (.aconst_null, 1) := by decide +kernel
theorem dL_bounds_222 : decode cL_bounds 222 = .ok (.goto 16, 3) := by decide +kernel
theorem dL_bounds_225 : decode cL_bounds 225 = .ok (.iconst 2, 1) := by decide +kernel
theorem dL_bounds_226 : decode cL_bounds 226 = .ok (.newarray .int, 2) := by decide +kernel
theorem dL_bounds_228 : decode cL_bounds 228 = .ok (.dup, 1) := by decide +kernel
theorem dL_bounds_229 : decode cL_bounds 229 = .ok (.iconst 0, 1) := by decide +kernel
theorem dL_bounds_230 : decode cL_bounds 230 = .ok (.iload 7, 2) := by decide +kernel
theorem dL_bounds_232 : decode cL_bounds 232 = .ok (.iastore, 1) := by decide +kernel
theorem dL_bounds_233 : decode cL_bounds 233 = .ok (.dup, 1) := by decide +kernel
theorem dL_bounds_234 : decode cL_bounds 234 = .ok (.iconst 1, 1) := by decide +kernel
theorem dL_bounds_235 : decode cL_bounds 235 = .ok (.iload 8, 2) := by decide +kernel
theorem dL_bounds_237 : decode cL_bounds 237 = .ok (.iastore, 1) := by decide +kernel
theorem dL_bounds_238 : decode cL_bounds 238 = .ok (.areturn, 1) := by decide +kernel
theorem dL_isPlanned_0 : decode cL_isPlanned 0 = .ok (.iconst 0, 1) := by decide +kernel
theorem dL_isPlanned_1 : decode cL_isPlanned 1 = .ok (.istore_n 1, 1) := by decide +kernel
theorem dL_isPlanned_2 : decode cL_isPlanned 2 = .ok (.iconst 0, 1) := by decide +kernel
theorem dL_isPlanned_3 : decode cL_isPlanned 3 = .ok (.istore_n 2, 1) := by decide +kernel
theorem dL_isPlanned_4 : decode cL_isPlanned 4 = .ok (.aload_n 0, 1) := by decide +kernel
theorem dL_isPlanned_5 : decode cL_isPlanned 5 = .ok (.getfield 143, 3) := by decide +kernel
theorem dL_isPlanned_8 : decode cL_isPlanned 8 = .ok (.anewarray 146, 3) := by decide +kernel
theorem dL_isPlanned_11 : decode cL_isPlanned 11 = .ok (.astore_n 3, 1) := by decide +kernel
theorem dL_isPlanned_12 : decode cL_isPlanned 12 = .ok (.aload_n 0, 1) := by decide +kernel
theorem dL_isPlanned_13 : decode cL_isPlanned 13 = .ok (.getfield 143, 3) := by decide +kernel
theorem dL_isPlanned_16 : decode cL_isPlanned 16 = .ok (.newarray .int, 2) := by decide +kernel
theorem dL_isPlanned_18 : decode cL_isPlanned 18 = .ok (.astore 4, 2) := by decide +kernel
theorem dL_isPlanned_20 : decode cL_isPlanned 20 = .ok (.iconst 0, 1) := by decide +kernel
theorem dL_isPlanned_21 : decode cL_isPlanned 21 = .ok (.istore 5, 2) := by decide +kernel
theorem dL_isPlanned_23 : decode cL_isPlanned 23 = .ok (.iload 5, 2) := by decide +kernel
theorem dL_isPlanned_25 : decode cL_isPlanned 25 = .ok (.aload_n 0, 1) := by decide +kernel
theorem dL_isPlanned_26 : decode cL_isPlanned 26 = .ok (.getfield 143, 3) := by decide +kernel
theorem dL_isPlanned_29 : decode cL_isPlanned 29 = .ok (.if_icmp .ge 120, 3) := by decide +kernel
theorem dL_isPlanned_32 : decode cL_isPlanned 32 = .ok (.aload_n 3, 1) := by decide +kernel
theorem dL_isPlanned_33 : decode cL_isPlanned 33 = .ok (.iload 5, 2) := by decide +kernel
theorem dL_isPlanned_35 : decode cL_isPlanned 35 = .ok (.aload_n 0, 1) := by decide +kernel
theorem dL_isPlanned_36 : decode cL_isPlanned 36 = .ok (.iload 5, 2) := by decide +kernel
theorem dL_isPlanned_38 : decode cL_isPlanned 38 = .ok (.invokevirtual 147, 3) := by decide +kernel
theorem dL_isPlanned_41 : decode cL_isPlanned 41 = .ok (.aastore, 1) := by decide +kernel
theorem dL_isPlanned_42 : decode cL_isPlanned 42 = .ok (.aload 4, 2) := by decide +kernel
theorem dL_isPlanned_44 : decode cL_isPlanned 44 = .ok (.iload 5, 2) := by decide +kernel
theorem dL_isPlanned_46 : decode cL_isPlanned 46 = .ok (.aload_n 0, 1) := by decide +kernel
theorem dL_isPlanned_47 : decode cL_isPlanned 47 = .ok (.getfield 10, 3) := by decide +kernel
theorem dL_isPlanned_50 : decode cL_isPlanned 50 = .ok (.iload 5, 2) := by decide +kernel
theorem dL_isPlanned_52 : decode cL_isPlanned 52 = .ok (.invokevirtual 151, 3) := by decide +kernel
theorem dL_isPlanned_55 : decode cL_isPlanned 55 = .ok (.iastore, 1) := by decide +kernel
theorem dL_isPlanned_56 : decode cL_isPlanned 56 = .ok (.aload_n 3, 1) := by decide +kernel
theorem dL_isPlanned_57 : decode cL_isPlanned 57 = .ok (.iload 5, 2) := by decide +kernel
theorem dL_isPlanned_59 : decode cL_isPlanned 59 = .ok (.aaload, 1) := by decide +kernel
theorem dL_isPlanned_60 : decode cL_isPlanned 60 = .ok (.ifnonnull 14, 3) := by decide +kernel
theorem dL_isPlanned_63 : decode cL_isPlanned 63 = .ok (.aload 4, 2) := by decide +kernel
theorem dL_isPlanned_65 : decode cL_isPlanned 65 = .ok (.iload 5, 2) := by decide +kernel
theorem dL_isPlanned_67 : decode cL_isPlanned 67 = .ok (.iaload, 1) := by decide +kernel
theorem dL_isPlanned_68 : decode cL_isPlanned 68 = .ok (.iconst (-1), 1) := by decide +kernel
theorem dL_isPlanned_69 : decode cL_isPlanned 69 = .ok (.if_icmp .eq 5, 3) := by decide +kernel
theorem dL_isPlanned_72 : decode cL_isPlanned 72 = .ok (.iconst 0, 1) := by decide +kernel
theorem dL_isPlanned_73 : decode cL_isPlanned 73 = .ok (.ireturn, 1) := by decide +kernel
theorem dL_isPlanned_74 : decode cL_isPlanned 74 = .ok (.aload_n 3, 1) := by decide +kernel
theorem dL_isPlanned_75 : decode cL_isPlanned 75 = .ok (.iload 5, 2) := by decide +kernel
theorem dL_isPlanned_77 : decode cL_isPlanned 77 = .ok (.aaload, 1) := by decide +kernel
theorem dL_isPlanned_78 : decode cL_isPlanned 78 = .ok (.ifnonnull 6, 3) := by decide +kernel
theorem dL_isPlanned_81 : decode cL_isPlanned 81 = .ok (.goto 62, 3) := by decide +kernel
theorem dL_isPlanned_84 : decode cL_isPlanned 84 = .ok (.iinc 1 1, 3) := by decide +kernel
theorem dL_isPlanned_87 : decode cL_isPlanned 87 = .ok (.aload 4, 2) := by decide +kernel
theorem dL_isPlanned_89 : decode cL_isPlanned 89 = .ok (.iload 5, 2) := by decide +kernel
theorem dL_isPlanned_91 : decode cL_isPlanned 91 = .ok (.iaload, 1) := by decide +kernel
theorem dL_isPlanned_92 : decode cL_isPlanned 92 = .ok (.iconst (-1), 1) := by decide +kernel
theorem dL_isPlanned_93 : decode cL_isPlanned 93 = .ok (.if_icmp .ne 9, 3) := by decide +kernel
theorem dL_isPlanned_96 : decode cL_isPlanned 96 = .ok (.iinc 2 1, 3) := by decide +kernel
theorem dL_isPlanned_99 : decode cL_isPlanned 99 = .ok (.goto 44, 3) := by decide +kernel
theorem dL_isPlanned_102 : decode cL_isPlanned 102 = .ok (.aload 4, 2) := by decide +kernel
theorem dL_isPlanned_104 : decode cL_isPlanned 104 = .ok (.iload 5, 2) := by decide +kernel
theorem dL_isPlanned_106 : decode cL_isPlanned 106 = .ok (.iaload, 1) := by decide +kernel
theorem dL_isPlanned_107 : decode cL_isPlanned 107 = .ok (.bipush 10, 2) := by decide +kernel
theorem dL_isPlanned_109 : decode cL_isPlanned 109 = .ok (.irem, 1) := by decide +kernel
theorem dL_isPlanned_110 : decode cL_isPlanned 110 = .ok (.ifCond .ne 31, 3) := by decide +kernel
theorem dL_isPlanned_113 : decode cL_isPlanned 113 = .ok (.aload 4, 2) := by decide +kernel
theorem dL_isPlanned_115 : decode cL_isPlanned 115 = .ok (.iload 5, 2) := by decide +kernel
theorem dL_isPlanned_117 : decode cL_isPlanned 117 = .ok (.iaload, 1) := by decide +kernel
theorem dL_isPlanned_118 : decode cL_isPlanned 118 = .ok (.aload_n 3, 1) := by decide +kernel
theorem dL_isPlanned_119 : decode cL_isPlanned 119 = .ok (.iload 5, 2) := by decide +kernel
theorem dL_isPlanned_121 : decode cL_isPlanned 121 = .ok (.aaload, 1) := by decide +kernel
theorem dL_isPlanned_122 : decode cL_isPlanned 122 = .ok (.iconst 0, 1) := by decide +kernel
theorem dL_isPlanned_123 : decode cL_isPlanned 123 = .ok (.iaload, 1) := by decide +kernel
theorem dL_isPlanned_124 : decode cL_isPlanned 124 = .ok (.if_icmp .lt 17, 3) := by decide +kernel
theorem dL_isPlanned_127 : decode cL_isPlanned 127 = .ok (.aload 4, 2) := by decide +kernel
theorem dL_isPlanned_129 : decode cL_isPlanned 129 = .ok (.iload 5, 2) := by decide +kernel
theorem dL_isPlanned_131 : decode cL_isPlanned 131 = .ok (.iaload, 1) := by decide +kernel
theorem dL_isPlanned_132 : decode cL_isPlanned 132 = .ok (.aload_n 3, 1) := by decide +kernel
theorem dL_isPlanned_133 : decode cL_isPlanned 133 = .ok (.iload 5, 2) := by decide +kernel
theorem dL_isPlanned_135 : decode cL_isPlanned 135 = .ok (.aaload, 1) := by decide +kernel
theorem dL_isPlanned_136 : decode cL_isPlanned 136 = .ok (.iconst 1, 1) := by decide +kernel
theorem dL_isPlanned_137 : decode cL_isPlanned 137 = .ok (.iaload, 1) := by decide +kernel
theorem dL_isPlanned_138 : decode cL_isPlanned 138 = .ok (.if_icmp .le 5, 3) := by decide +kernel
theorem dL_isPlanned_141 : decode cL_isPlanned 141 = .ok (.iconst 0, 1) := by decide +kernel
theorem dL_isPlanned_142 : decode cL_isPlanned 142 = .ok (.ireturn, 1) := by decide +kernel
theorem dL_isPlanned_143 : decode cL_isPlanned 143 = .ok (.iinc 5 1, 3) := by decide +kernel
theorem dL_isPlanned_146 : decode cL_isPlanned 146 = .ok (.goto (-123), 3) := by decide +kernel
theorem dL_isPlanned_149 : decode cL_isPlanned 149 = .ok (.aload_n 0, 1) := by decide +kernel
theorem dL_isPlanned_150 : decode cL_isPlanned 150 = .ok (.getfield 10, 3) := by decide +kernel
theorem dL_isPlanned_153 : decode cL_isPlanned 153 = .ok (.invokevirtual 154, 3) := by decide +kernel
theorem dL_isPlanned_156 : decode cL_isPlanned 156 = .ok (.iload_n 1, 1) := by decide +kernel
theorem dL_isPlanned_157 : decode cL_isPlanned 157 = .ok (.if_icmp .ne 14, 3) := by decide +kernel
theorem dL_isPlanned_160 : decode cL_isPlanned 160 = .ok (.aload_n 0, 1) := by decide +kernel
theorem dL_isPlanned_161 : decode cL_isPlanned 161 = .ok (.getfield 10, 3) := by decide +kernel
theorem dL_isPlanned_164 : decode cL_isPlanned 164 = .ok (.invokevirtual 157, 3) := by decide +kernel
theorem dL_isPlanned_167 : decode cL_isPlanned 167 = .ok (.iload_n 2, 1) := by decide +kernel
theorem dL_isPlanned_168 : decode cL_isPlanned 168 = .ok (.if_icmp .eq 5, 3) := by decide +kernel
theorem dL_isPlanned_171 : decode cL_isPlanned 171 = .ok (.iconst 0, 1) := by decide +kernel
theorem dL_isPlanned_172 : decode cL_isPlanned 172 = .ok (.ireturn, 1) := by decide +kernel
theorem dL_isPlanned_173 : decode cL_isPlanned 173 = .ok (.iconst 0, 1) := by decide +kernel
theorem dL_isPlanned_174 : decode cL_isPlanned 174 = .ok (.istore 5, 2) := by decide +kernel
theorem dL_isPlanned_176 : decode cL_isPlanned 176 = .ok (.iload 5, 2) := by decide +kernel
theorem dL_isPlanned_178 : decode cL_isPlanned 178 = .ok (.aload_n 0, 1) := by decide +kernel
theorem dL_isPlanned_179 : decode cL_isPlanned 179 = .ok (.getfield 143, 3) := by decide +kernel
theorem dL_isPlanned_182 : decode cL_isPlanned 182 = .ok (.if_icmp .ge 73, 3) := by decide +kernel
theorem dL_isPlanned_185 : decode cL_isPlanned 185 = .ok (.iconst 0, 1) := by decide +kernel
theorem dL_isPlanned_186 : decode cL_isPlanned 186 = .ok (.istore 6, 2) := by decide +kernel
theorem dL_isPlanned_188 : decode cL_isPlanned 188 = .ok (.iconst 0, 1) := by decide +kernel
theorem dL_isPlanned_189 : decode cL_isPlanned 189 = .ok (.istore 7, 2) := by decide +kernel
theorem dL_isPlanned_191 : decode cL_isPlanned 191 = .ok (.iload 7, 2) := by decide +kernel
theorem dL_isPlanned_193 : decode cL_isPlanned 193 = .ok (.aload_n 0, 1) := by decide +kernel
theorem dL_isPlanned_194 : decode cL_isPlanned 194 = .ok (.getfield 143, 3) := by decide +kernel
theorem dL_isPlanned_197 : decode cL_isPlanned 197 = .ok (.if_icmp .ge 41, 3) := by decide +kernel
theorem dL_isPlanned_200 : decode cL_isPlanned 200 = .ok (.aload_n 3, 1) := by decide +kernel
theorem dL_isPlanned_201 : decode cL_isPlanned 201 = .ok (.iload 7, 2) := by decide +kernel
theorem dL_isPlanned_203 : decode cL_isPlanned 203 = .ok (.aaload, 1) := by decide +kernel
theorem dL_isPlanned_204 : decode cL_isPlanned 204 = .ok (.ifnull 28, 3) := by decide +kernel
theorem dL_isPlanned_207 : decode cL_isPlanned 207 = .ok (.aload 4, 2) := by decide +kernel
theorem dL_isPlanned_209 : decode cL_isPlanned 209 = .ok (.iload 7, 2) := by decide +kernel
theorem dL_isPlanned_211 : decode cL_isPlanned 211 = .ok (.iaload, 1) := by decide +kernel
theorem dL_isPlanned_212 : decode cL_isPlanned 212 = .ok (.iconst (-1), 1) := by decide +kernel
theorem dL_isPlanned_213 : decode cL_isPlanned 213 = .ok (.if_icmp .eq 19, 3) := by decide +kernel
theorem dL_isPlanned_216 : decode cL_isPlanned 216 = .ok (.aload 4, 2) := by decide +kernel
theorem dL_isPlanned_218 : decode cL_isPlanned 218 = .ok (.iload 7, 2) := by decide +kernel
theorem dL_isPlanned_220 : decode cL_isPlanned 220 = .ok (.iaload, 1) := by decide +kernel
theorem dL_isPlanned_221 : decode cL_isPlanned 221 = .ok (.aload 4, 2) := by decide +kernel
theorem dL_isPlanned_223 : decode cL_isPlanned 223 = .ok (.iload 5, 2) := by decide +kernel
theorem dL_isPlanned_225 : decode cL_isPlanned 225 = .ok (.iaload, 1) := by decide +kernel
theorem dL_isPlanned_226 : decode cL_isPlanned 226 = .ok (.if_icmp .ne 6, 3) := by decide +kernel
theorem dL_isPlanned_229 : decode cL_isPlanned 229 = .ok (.iinc 6 1, 3) := by decide +kernel
theorem dL_isPlanned_232 : decode cL_isPlanned 232 = .ok (.iinc 7 1, 3) := by decide +kernel
theorem dL_isPlanned_235 : decode cL_isPlanned 235 = .ok (.goto (-44), 3) := by decide +kernel
theorem dL_isPlanned_238 : decode cL_isPlanned 238 = .ok (.iload 6, 2) := by decide +kernel
theorem dL_isPlanned_240 : decode cL_isPlanned 240 = .ok (.aload_n 0, 1) := by decide +kernel
theorem dL_isPlanned_241 : decode cL_isPlanned 241 = .ok (.getfield 160, 3) := by decide +kernel
theorem dL_isPlanned_244 : decode cL_isPlanned 244 = .ok (.if_icmp .le 5, 3) := by decide +kernel
theorem dL_isPlanned_247 : decode cL_isPlanned 247 = .ok (.iconst 0, 1) := by decide +kernel
theorem dL_isPlanned_248 : decode cL_isPlanned 248 = .ok (.ireturn, 1) := by decide +kernel
theorem dL_isPlanned_249 : decode cL_isPlanned 249 = .ok (.iinc 5 1, 3) := by decide +kernel
theorem dL_isPlanned_252 : decode cL_isPlanned 252 = .ok (.goto (-76), 3) := by decide +kernel
theorem dL_isPlanned_255 : decode cL_isPlanned 255 = .ok (.iload_n 2, 1) := by decide +kernel
theorem dL_isPlanned_256 : decode cL_isPlanned 256 = .ok (.ifCond .eq 11, 3) := by decide +kernel
theorem dL_isPlanned_259 : decode cL_isPlanned 259 = .ok (.aload_n 0, 1) := by decide +kernel
theorem dL_isPlanned_260 : decode cL_isPlanned 260 = .ok (.aload_n 3, 1) := by decide +kernel
theorem dL_isPlanned_261 : decode cL_isPlanned 261 = .ok (.invokevirtual 163, 3) := by decide +kernel
theorem dL_isPlanned_264 : decode cL_isPlanned 264 = .ok (.ifCond .eq 7, 3) := by decide +kernel
theorem dL_isPlanned_267 : decode cL_isPlanned 267 = .ok (.iconst 1, 1) := by decide +kernel
theorem dL_isPlanned_268 : decode cL_isPlanned 268 = .ok (.goto 4, 3) := by decide +kernel
theorem dL_isPlanned_271 : decode cL_isPlanned 271 = .ok (.iconst 0, 1) := by decide +kernel
theorem dL_isPlanned_272 : decode cL_isPlanned 272 = .ok (.ireturn, 1) := by decide +kernel
theorem dL_isCrowded_0 : decode cL_isCrowded 0 = .ok (.iconst 0, 1) := by decide +kernel
theorem dL_isCrowded_1 : decode cL_isCrowded 1 = .ok (.istore_n 2, 1) := by decide +kernel
theorem dL_isCrowded_2 : decode cL_isCrowded 2 = .ok (.iload_n 2, 1) := by decide +kernel
theorem dL_isCrowded_3 : decode cL_isCrowded 3 = .ok (.aload_n 0, 1) := by decide +kernel
theorem dL_isCrowded_4 : decode cL_isCrowded 4 = .ok (.getfield 143, 3) := by decide +kernel
theorem dL_isCrowded_7 : decode cL_isCrowded 7 = .ok (.if_icmp .ge 141, 3) := by decide +kernel
theorem dL_isCrowded_10 : decode cL_isCrowded 10 = .ok (.iconst 0, 1) := by decide +kernel
theorem dL_isCrowded_11 : decode cL_isCrowded 11 = .ok (.istore_n 3, 1) := by decide +kernel
theorem dL_isCrowded_12 : decode cL_isCrowded 12 = .ok (.iload_n 3, 1) := by decide +kernel
theorem dL_isCrowded_13 : decode cL_isCrowded 13 = .ok (.aload_n 0, 1) := by decide +kernel
theorem dL_isCrowded_14 : decode cL_isCrowded 14 = .ok (.getfield 143, 3) := by decide +kernel
theorem dL_isCrowded_17 : decode cL_isCrowded 17 = .ok (.if_icmp .ge 125, 3) := by decide +kernel
theorem dL_isCrowded_20 : decode cL_isCrowded 20 = .ok (.aload_n 1, 1) := by decide +kernel
theorem dL_isCrowded_21 : decode cL_isCrowded 21 = .ok (.iload_n 2, 1) := by decide +kernel
theorem dL_isCrowded_22 : decode cL_isCrowded 22 = .ok (.aaload, 1) := by decide +kernel
theorem dL_isCrowded_23 : decode cL_isCrowded 23 = .ok (.ifnull 113, 3) := by decide +kernel
theorem dL_isCrowded_26 : decode cL_isCrowded 26 = .ok (.aload_n 1, 1) := by decide +kernel
theorem dL_isCrowded_27 : decode cL_isCrowded 27 = .ok (.iload_n 3, 1) := by decide +kernel
theorem dL_isCrowded_28 : decode cL_isCrowded 28 = .ok (.aaload, 1) := by decide +kernel
theorem dL_isCrowded_29 : decode cL_isCrowded 29 = .ok (.ifnonnull 6, 3) := by decide +kernel
theorem dL_isCrowded_32 : decode cL_isCrowded 32 = .ok (.goto 104, 3) := by decide +kernel
theorem dL_isCrowded_35 : decode cL_isCrowded 35 = .ok (.iconst 0, 1) := by decide +kernel
theorem dL_isCrowded_36 : decode cL_isCrowded 36 = .ok (.istore 4, 2) := by decide +kernel
theorem dL_isCrowded_38 : decode cL_isCrowded 38 = .ok (.iconst 0, 1) := by decide +kernel
theorem dL_isCrowded_39 : decode cL_isCrowded 39 = .ok (.istore 5, 2) := by decide +kernel
theorem dL_isCrowded_41 : decode cL_isCrowded 41 = .ok (.iload 5, 2) := by decide +kernel
theorem dL_isCrowded_43 : decode cL_isCrowded 43 = .ok (.aload_n 0, 1) := by decide +kernel
theorem dL_isCrowded_44 : decode cL_isCrowded 44 = .ok (.getfield 143, 3) := by decide +kernel
theorem dL_isCrowded_47 : decode cL_isCrowded 47 = .ok (.if_icmp .ge 47, 3) := by decide +kernel
theorem dL_isCrowded_50 : decode cL_isCrowded 50 = .ok (.aload_n 1, 1) := by decide +kernel
theorem dL_isCrowded_51 : decode cL_isCrowded 51 = .ok (.iload 5, 2) := by decide +kernel
theorem dL_isCrowded_53 : decode cL_isCrowded 53 = .ok (.aaload, 1) := by decide +kernel
theorem dL_isCrowded_54 : decode cL_isCrowded 54 = .ok (.ifnull 34, 3) := by decide +kernel
theorem dL_isCrowded_57 : decode cL_isCrowded 57 = .ok (.aload_n 1, 1) := by decide +kernel
theorem dL_isCrowded_58 : decode cL_isCrowded 58 = .ok (.iload 5, 2) := by decide +kernel
theorem dL_isCrowded_60 : decode cL_isCrowded 60 = .ok (.aaload, 1) := by decide +kernel
theorem dL_isCrowded_61 : decode cL_isCrowded 61 = .ok (.iconst 0, 1) := by decide +kernel
theorem dL_isCrowded_62 : decode cL_isCrowded 62 = .ok (.iaload, 1) := by decide +kernel
theorem dL_isCrowded_63 : decode cL_isCrowded 63 = .ok (.aload_n 1, 1) := by decide +kernel
theorem dL_isCrowded_64 : decode cL_isCrowded 64 = .ok (.iload_n 2, 1) := by decide +kernel
theorem dL_isCrowded_65 : decode cL_isCrowded 65 = .ok (.aaload, 1) := by decide +kernel
theorem dL_isCrowded_66 : decode cL_isCrowded 66 = .ok (.iconst 0, 1) := by decide +kernel
theorem dL_isCrowded_67 : decode cL_isCrowded 67 = .ok (.iaload, 1) := by decide +kernel
theorem dL_isCrowded_68 : decode cL_isCrowded 68 = .ok (.if_icmp .lt 20, 3) := by decide +kernel
theorem dL_isCrowded_71 : decode cL_isCrowded 71 = .ok (.aload_n 1, 1) := by decide +kernel
theorem dL_isCrowded_72 : decode cL_isCrowded 72 = .ok (.iload 5, 2) := by decide +kernel
theorem dL_isCrowded_74 : decode cL_isCrowded 74 = .ok (.aaload, 1) := by decide +kernel
theorem dL_isCrowded_75 : decode cL_isCrowded 75 = .ok (.iconst 1, 1) := by decide +kernel
theorem dL_isCrowded_76 : decode cL_isCrowded 76 = .ok (.iaload, 1) := by decide +kernel
theorem dL_isCrowded_77 : decode cL_isCrowded 77 = .ok (.aload_n 1, 1) := by decide +kernel
theorem dL_isCrowded_78 : decode cL_isCrowded 78 = .ok (.iload_n 3, 1) := by decide +kernel
theorem dL_isCrowded_79 : decode cL_isCrowded 79 = .ok (.aaload, 1) := by decide +kernel
theorem dL_isCrowded_80 : decode cL_isCrowded 80 = .ok (.iconst 1, 1) := by decide +kernel
theorem dL_isCrowded_81 : decode cL_isCrowded 81 = .ok (.iaload, 1) := by decide +kernel
theorem dL_isCrowded_82 : decode cL_isCrowded 82 = .ok (.if_icmp .gt 6, 3) := by decide +kernel
theorem dL_isCrowded_85 : decode cL_isCrowded 85 = .ok (.iinc 4 1, 3) := by decide +kernel
theorem dL_isCrowded_88 : decode cL_isCrowded 88 = .ok (.iinc 5 1, 3) := by decide +kernel
theorem dL_isCrowded_91 : decode cL_isCrowded 91 = .ok (.goto (-50), 3) := by decide +kernel
theorem dL_isCrowded_94 : decode cL_isCrowded 94 = .ok (.iconst 0, 1) := by decide +kernel
theorem dL_isCrowded_95 : decode cL_isCrowded 95 = .ok (.aload_n 1, 1) := by decide +kernel
theorem dL_isCrowded_96 : decode cL_isCrowded 96 = .ok (.iload_n 3, 1) := by decide +kernel
theorem dL_isCrowded_97 : decode cL_isCrowded 97 = .ok (.aaload, 1) := by decide +kernel
theorem dL_isCrowded_98 : decode cL_isCrowded 98 = .ok (.iconst 1, 1) := by decide +kernel
theorem dL_isCrowded_99 : decode cL_isCrowded 99 = .ok (.iaload, 1) := by decide +kernel
theorem dL_isCrowded_100 : decode cL_isCrowded 100 = .ok (.bipush 10, 2) := by decide +kernel
theorem dL_isCrowded_102 : decode cL_isCrowded 102 = .ok (.idiv, 1) := by decide +kernel
theorem dL_isCrowded_103 : decode cL_isCrowded 103 = .ok (.aload_n 1, 1) := by decide +kernel
theorem dL_isCrowded_104 : decode cL_isCrowded 104 = .ok (.iload_n 2, 1) := by decide +kernel
theorem dL_isCrowded_105 : decode cL_isCrowded 105 = .ok (.aaload, 1) := by decide +kernel
theorem dL_isCrowded_106 : decode cL_isCrowded 106 = .ok (.iconst 0, 1) := by decide +kernel
theorem dL_isCrowded_107 : decode cL_isCrowded 107 = .ok (.iaload, 1) := by decide +kernel
theorem dL_isCrowded_108 : decode cL_isCrowded 108 = .ok (.bipush 9, 2) := by decide +kernel
theorem dL_isCrowded_110 : decode cL_isCrowded 110 = .ok (.iadd, 1) := by decide +kernel
theorem dL_isCrowded_111 : decode cL_isCrowded 111 = .ok (.bipush 10, 2) := by decide +kernel
theorem dL_isCrowded_113 : decode cL_isCrowded 113 = .ok (.idiv, 1) := by decide +kernel
theorem dL_isCrowded_114 : decode cL_isCrowded 114 = .ok (.isub, 1) := by decide +kernel
theorem dL_isCrowded_115 : decode cL_isCrowded 115 = .ok (.iconst 1, 1) := by decide +kernel
theorem dL_isCrowded_116 : decode cL_isCrowded 116 = .ok (.iadd, 1) := by decide +kernel
theorem dL_isCrowded_117 : decode cL_isCrowded 117 = .ok (.invokestatic 167, 3) := by decide +kernel
theorem dL_isCrowded_120 : decode cL_isCrowded 120 = .ok (.istore 5, 2) := by decide +kernel
theorem dL_isCrowded_122 : decode cL_isCrowded 122 = .ok (.iload 4, 2) := by decide +kernel
theorem dL_isCrowded_124 : decode cL_isCrowded 124 = .ok (.aload_n 0, 1) := by decide +kernel
theorem dL_isCrowded_125 : decode cL_isCrowded 125 = .ok (.getfield 160, 3) := by decide +kernel
theorem dL_isCrowded_128 : decode cL_isCrowded 128 = .ok (.iload 5, 2) := by decide +kernel
theorem dL_isCrowded_130 : decode cL_isCrowded 130 = .ok (.imul, 1) := by decide +kernel
theorem dL_isCrowded_131 : decode cL_isCrowded 131 = .ok (.if_icmp .le 5, 3) := by decide +kernel
theorem dL_isCrowded_134 : decode cL_isCrowded 134 = .ok (.iconst 1, 1) := by decide +kernel
theorem dL_isCrowded_135 : decode cL_isCrowded 135 = .ok (.ireturn, 1) := by decide +kernel
theorem dL_isCrowded_136 : decode cL_isCrowded 136 = .ok (.iinc 3 1, 3) := by decide +kernel
theorem dL_isCrowded_139 : decode cL_isCrowded 139 = .ok (.goto (-127), 3) := by decide +kernel
theorem dL_isCrowded_142 : decode cL_isCrowded 142 = .ok (.iinc 2 1, 3) := by decide +kernel
theorem dL_isCrowded_145 : decode cL_isCrowded 145 = .ok (.goto (-143), 3) := by decide +kernel
theorem dL_isCrowded_148 : decode cL_isCrowded 148 = .ok (.iconst 0, 1) := by decide +kernel
theorem dL_isCrowded_149 : decode cL_isCrowded 149 = .ok (.ireturn, 1) := by decide +kernel
theorem dL_isDay_0 : decode cL_isDay 0 = .ok (.aload_n 0, 1) := by decide +kernel
theorem dL_isDay_1 : decode cL_isDay 1 = .ok (.getfield 10, 3) := by decide +kernel
theorem dL_isDay_4 : decode cL_isDay 4 = .ok (.bipush 100, 2) := by decide +kernel
theorem dL_isDay_6 : decode cL_isDay 6 = .ok (.aload_n 0, 1) := by decide +kernel
theorem dL_isDay_7 : decode cL_isDay 7 = .ok (.getfield 34, 3) := by decide +kernel
theorem dL_isDay_10 : decode cL_isDay 10 = .ok (.bipush 30, 2) := by decide +kernel
theorem dL_isDay_12 : decode cL_isDay 12 = .ok (.invokevirtual 59, 3) := by decide +kernel
theorem dL_isDay_15 : decode cL_isDay 15 = .ok (.iadd, 1) := by decide +kernel
theorem dL_isDay_16 : decode cL_isDay 16 = .ok (.invokevirtual 170, 3) := by decide +kernel
theorem dL_isDay_19 : decode cL_isDay 19 = .ok (.bipush 20, 2) := by decide +kernel
theorem dL_isDay_21 : decode cL_isDay 21 = .ok (.if_icmp .lt 33, 3) := by decide +kernel
theorem dL_isDay_24 : decode cL_isDay 24 = .ok (.aload_n 0, 1) := by decide +kernel
theorem dL_isDay_25 : decode cL_isDay 25 = .ok (.getfield 10, 3) := by decide +kernel
theorem dL_isDay_28 : decode cL_isDay 28 = .ok (.aload_n 0, 1) := by decide +kernel
theorem dL_isDay_29 : decode cL_isDay 29 = .ok (.getfield 160, 3) := by decide +kernel
theorem dL_isDay_32 : decode cL_isDay 32 = .ok (.invokevirtual 173, 3) := by decide +kernel
theorem dL_isDay_35 : decode cL_isDay 35 = .ok (.iconst 1, 1) := by decide +kernel
theorem dL_isDay_36 : decode cL_isDay 36 = .ok (.if_icmp .lt 18, 3) := by decide +kernel
theorem dL_isDay_39 : decode cL_isDay 39 = .ok (.aload_n 0, 1) := by decide +kernel
theorem dL_isDay_40 : decode cL_isDay 40 = .ok (.getfield 10, 3) := by decide +kernel
theorem dL_isDay_43 : decode cL_isDay 43 = .ok (.aload_n 0, 1) := by decide +kernel
theorem dL_isDay_44 : decode cL_isDay 44 = .ok (.getfield 139, 3) := by decide +kernel
theorem dL_isDay_47 : decode cL_isDay 47 = .ok (.invokevirtual 176, 3) := by decide +kernel
theorem dL_isDay_50 : decode cL_isDay 50 = .ok (.iconst 2, 1) := by decide +kernel
theorem dL_isDay_51 : decode cL_isDay 51 = .ok (.if_icmp .eq 5, 3) := by decide +kernel
theorem dL_isDay_54 : decode cL_isDay 54 = .ok (.iconst 0, 1) := by decide +kernel
theorem dL_isDay_55 : decode cL_isDay 55 = .ok (.ireturn, 1) := by decide +kernel
theorem dL_isDay_56 : decode cL_isDay 56 = .ok (.bipush 6, 2) := by decide +kernel
theorem dL_isDay_58 : decode cL_isDay 58 = .ok (.aload_n 0, 1) := by decide +kernel
theorem dL_isDay_59 : decode cL_isDay 59 = .ok (.getfield 34, 3) := by decide +kernel
theorem dL_isDay_62 : decode cL_isDay 62 = .ok (.bipush 10, 2) := by decide +kernel
theorem dL_isDay_64 : decode cL_isDay 64 = .ok (.invokevirtual 59, 3) := by decide +kernel
theorem dL_isDay_67 : decode cL_isDay 67 = .ok (.iadd, 1) := by decide +kernel
theorem dL_isDay_68 : decode cL_isDay 68 = .ok (.istore_n 1, 1) := by decide +kernel
theorem dL_isDay_69 : decode cL_isDay 69 = .ok (.iload_n 1, 1) := by decide +kernel
theorem dL_isDay_70 : decode cL_isDay 70 = .ok (.ifCond .le 436, 3) := by decide +kernel
theorem dL_isDay_73 : decode cL_isDay 73 = .ok (.aload_n 0, 1) := by decide +kernel
theorem dL_isDay_74 : decode cL_isDay 74 = .ok (.getfield 34, 3) := by decide +kernel
theorem dL_isDay_77 : decode cL_isDay 77 = .ok (.bipush 8, 2) := by decide +kernel
theorem dL_isDay_79 : decode cL_isDay 79 = .ok (.invokevirtual 59, 3) := by decide +kernel
theorem dL_isDay_82 : decode cL_isDay 82 = .ok (.istore_n 2, 1) := by decide +kernel
theorem dL_isDay_83 : decode cL_isDay 83 = .ok (.iload_n 2, 1) := by decide +kernel
theorem dL_isDay_84 : decode cL_isDay 84 = .ok (.iconst 3, 1) := by decide +kernel
theorem dL_isDay_85 : decode cL_isDay 85 = .ok (.if_icmp .ge 49, 3) := by decide +kernel
theorem dL_isDay_88 : decode cL_isDay 88 = .ok (.aload_n 0, 1) := by decide +kernel
theorem dL_isDay_89 : decode cL_isDay 89 = .ok (.getfield 10, 3) := by decide +kernel
theorem dL_isDay_92 : decode cL_isDay 92 = .ok (.aload_n 0, 1) := by decide +kernel
theorem dL_isDay_93 : decode cL_isDay 93 = .ok (.getfield 34, 3) := by decide +kernel
theorem dL_isDay_96 : decode cL_isDay 96 = .ok (.aload_n 0, 1) := by decide +kernel
theorem dL_isDay_97 : decode cL_isDay 97 = .ok (.getfield 62, 3) := by decide +kernel
theorem dL_isDay_100 : decode cL_isDay 100 = .ok (.invokevirtual 59, 3) := by decide +kernel
theorem dL_isDay_103 : decode cL_isDay 103 = .ok (.iconst 1, 1) := by decide +kernel
theorem dL_isDay_104 : decode cL_isDay 104 = .ok (.aload_n 0, 1) := by decide +kernel
theorem dL_isDay_105 : decode cL_isDay 105 = .ok (.getfield 34, 3) := by decide +kernel
theorem dL_isDay_108 : decode cL_isDay 108 = .ok (.bipush 8, 2) := by decide +kernel
theorem dL_isDay_110 : decode cL_isDay 110 = .ok (.invokevirtual 59, 3) := by decide +kernel
theorem dL_isDay_113 : decode cL_isDay 113 = .ok (.iadd, 1) := by decide +kernel
theorem dL_isDay_114 : decode cL_isDay 114 = .ok (.invokestatic 179, 3) := by decide +kernel
theorem dL_isDay_117 : decode cL_isDay 117 = .ok (.iconst (-1), 1) := by decide +kernel
theorem dL_isDay_118 : decode cL_isDay 118 = .ok (.if_icmp .eq 352, 3) := by decide +kernel
theorem dL_isDay_121 : decode cL_isDay 121 = .ok (.aload_n 0, 1) := by decide +kernel
theorem dL_isDay_122 : decode cL_isDay 122 = .ok (.dup, 1) := by decide +kernel
theorem dL_isDay_123 : decode cL_isDay 123 = .ok (.getfield 143, 3) := by decide +kernel
theorem dL_isDay_126 : decode cL_isDay 126 = .ok (.iconst 1, 1) := by decide +kernel
theorem dL_isDay_127 : decode cL_isDay 127 = .ok (.iadd, 1) := by decide +kernel
theorem dL_isDay_128 : decode cL_isDay 128 = .ok (.putfield 143, 3) := by decide +kernel
theorem dL_isDay_131 : decode cL_isDay 131 = .ok (.goto 339, 3) := by decide +kernel
theorem dL_isDay_134 : decode cL_isDay 134 = .ok (.iload_n 2, 1) := by decide +kernel
theorem dL_isDay_135 : decode cL_isDay 135 = .ok (.iconst 5, 1) := by decide +kernel
theorem dL_isDay_136 : decode cL_isDay 136 = .ok (.if_icmp .ge 60, 3) := by decide +kernel
theorem dL_isDay_139 : decode cL_isDay 139 = .ok (.aload_n 0, 1) := by decide +kernel
theorem dL_isDay_140 : decode cL_isDay 140 = .ok (.getfield 10, 3) := by decide +kernel
theorem dL_isDay_143 : decode cL_isDay 143 = .ok (.invokevirtual 133, 3) := by decide +kernel
theorem dL_isDay_146 : decode cL_isDay 146 = .ok (.istore_n 3, 1) := by decide +kernel
theorem dL_isDay_147 : decode cL_isDay 147 = .ok (.iload_n 2, 1) := by decide +kernel
theorem dL_isDay_148 : decode cL_isDay 148 = .ok (.iconst 3, 1) := by decide +kernel
theorem dL_isDay_149 : decode cL_isDay 149 = .ok (.if_icmp .ne 13, 3) := by decide +kernel
theorem dL_isDay_152 : decode cL_isDay 152 = .ok (.bipush 10, 2) := by decide +kernel
theorem dL_isDay_154 : decode cL_isDay 154 = .ok (.iload_n 3, 1) := by decide +kernel
theorem dL_isDay_155 : decode cL_isDay 155 = .ok (.bipush 10, 2) := by decide +kernel
theorem dL_isDay_157 : decode cL_isDay 157 = .ok (.irem, 1) := by decide +kernel
theorem dL_isDay_158 : decode cL_isDay 158 = .ok (.isub, 1) := by decide +kernel
theorem dL_isDay_159 : decode cL_isDay 159 = .ok (.goto 14, 3) := by decide +kernel
theorem dL_isDay_162 : decode cL_isDay 162 = .ok (.iconst 1, 1) := by decide +kernel
theorem dL_isDay_163 : decode cL_isDay 163 = .ok (.aload_n 0, 1) := by decide +kernel
theorem dL_isDay_164 : decode cL_isDay 164 = .ok (.getfield 34, 3) := by decide +kernel
theorem dL_isDay_167 : decode cL_isDay 167 = .ok (.bipush 12, 2) := by decide +kernel
theorem dL_isDay_169 : decode cL_isDay 169 = .ok (.invokevirtual 59, 3) := by decide +kernel
theorem dL_isDay_172 : decode cL_isDay 172 = .ok (.iadd, 1) := by decide +kernel
theorem dL_isDay_173 : decode cL_isDay 173 = .ok (.istore 4, 2) := by decide +kernel
theorem dL_isDay_175 : decode cL_isDay 175 = .ok (.aload_n 0, 1) := by decide +kernel
theorem dL_isDay_176 : decode cL_isDay 176 = .ok (.getfield 10, 3) := by decide +kernel
theorem dL_isDay_179 : decode cL_isDay 179 = .ok (.iload 4, 2) := by decide +kernel
theorem dL_isDay_181 : decode cL_isDay 181 = .ok (.invokevirtual 183, 3) := by decide +kernel
theorem dL_isDay_184 : decode cL_isDay 184 = .ok (.iload_n 3, 1) := by decide +kernel
theorem dL_isDay_185 : decode cL_isDay 185 = .ok (.iload 4, 2) := by decide +kernel
theorem dL_isDay_187 : decode cL_isDay 187 = .ok (.iadd, 1) := by decide +kernel
theorem dL_isDay_188 : decode cL_isDay 188 = .ok (.if_icmp .eq 5, 3) := by decide +kernel
theorem dL_isDay_191 : decode cL_isDay 191 = .ok (.iconst 0, 1) := by decide +kernel
theorem dL_isDay_192 : decode cL_isDay 192 = .ok (.ireturn, 1) := by decide +kernel
theorem dL_isDay_193 : decode cL_isDay 193 = .ok (.goto 277, 3) := by decide +kernel
theorem dL_isDay_196 : decode cL_isDay 196 = .ok (.iload_n 2, 1) := by decide +kernel
theorem dL_isDay_197 : decode cL_isDay 197 = .ok (.iconst 5, 1) := by decide +kernel
theorem dL_isDay_198 : decode cL_isDay 198 = .ok (.if_icmp .ne 129, 3) := by decide +kernel
theorem dL_isDay_201 : decode cL_isDay 201 = .ok (.aload_n 0, 1) := by decide +kernel
theorem dL_isDay_202 : decode cL_isDay 202 = .ok (.getfield 143, 3) := by decide +kernel
theorem dL_isDay_205 : decode cL_isDay 205 = .ok (.ifCond .le 122, 3) := by decide +kernel
theorem dL_isDay_208 : decode cL_isDay 208 = .ok (.aload_n 0, 1) := by decide +kernel
theorem dL_isDay_209 : decode cL_isDay 209 = .ok (.getfield 34, 3) := by decide +kernel
theorem dL_isDay_212 : decode cL_isDay 212 = .ok (.aload_n 0, 1) := by decide +kernel
theorem dL_isDay_213 : decode cL_isDay 213 = .ok (.getfield 143, 3) := by decide +kernel
theorem dL_isDay_216 : decode cL_isDay 216 = .ok (.invokevirtual 59, 3) := by decide +kernel
theorem dL_isDay_219 : decode cL_isDay 219 = .ok (.istore_n 3, 1) := by decide +kernel
theorem dL_isDay_220 : decode cL_isDay 220 = .ok (.aload_n 0, 1) := by decide +kernel
theorem dL_isDay_221 : decode cL_isDay 221 = .ok (.getfield 10, 3) := by decide +kernel
theorem dL_isDay_224 : decode cL_isDay 224 = .ok (.iload_n 3, 1) := by decide +kernel
theorem dL_isDay_225 : decode cL_isDay 225 = .ok (.iconst 0, 1) := by decide +kernel
theorem dL_isDay_226 : decode cL_isDay 226 = .ok (.invokevirtual 130, 3) := by decide +kernel
theorem dL_isDay_229 : decode cL_isDay 229 = .ok (.istore 4, 2) := by decide +kernel
theorem dL_isDay_231 : decode cL_isDay 231 = .ok (.aload_n 0, 1) := by decide +kernel
theorem dL_isDay_232 : decode cL_isDay 232 = .ok (.getfield 10, 3) := by decide +kernel
theorem dL_isDay_235 : decode cL_isDay 235 = .ok (.iload_n 3, 1) := by decide +kernel
theorem dL_isDay_236 : decode cL_isDay 236 = .ok (.iconst 2, 1) := by decide +kernel
theorem dL_isDay_237 : decode cL_isDay 237 = .ok (.invokevirtual 130, 3) := by decide +kernel
theorem dL_isDay_240 : decode cL_isDay 240 = .ok (.istore 5, 2) := by decide +kernel
theorem dL_isDay_242 : decode cL_isDay 242 = .ok (.aload_n 0, 1) := by decide +kernel
theorem dL_isDay_243 : decode cL_isDay 243 = .ok (.getfield 10, 3) := by decide +kernel
theorem dL_isDay_246 : decode cL_isDay 246 = .ok (.iload_n 3, 1) := by decide +kernel
theorem dL_isDay_247 : decode cL_isDay 247 = .ok (.iconst 3, 1) := by decide +kernel
theorem dL_isDay_248 : decode cL_isDay 248 = .ok (.invokevirtual 130, 3) := by decide +kernel
theorem dL_isDay_251 : decode cL_isDay 251 = .ok (.ifCond .ne 31, 3) := by decide +kernel
theorem dL_isDay_254 : decode cL_isDay 254 = .ok (.iload 5, 2) := by decide +kernel
theorem dL_isDay_256 : decode cL_isDay 256 = .ok (.aload_n 0, 1) := by decide +kernel
theorem dL_isDay_257 : decode cL_isDay 257 = .ok (.getfield 16, 3) := by decide +kernel
theorem dL_isDay_260 : decode cL_isDay 260 = .ok (.iload 4, 2) := by decide +kernel
theorem dL_isDay_262 : decode cL_isDay 262 = .ok (.iaload, 1) := by decide +kernel
theorem dL_isDay_263 : decode cL_isDay 263 = .ok (.if_icmp .lt 19, 3) := by decide +kernel
theorem dL_isDay_266 : decode cL_isDay 266 = .ok (.iload 5, 2) := by decide +kernel
theorem dL_isDay_268 : decode cL_isDay 268 = .ok (.aload_n 0, 1) := by decide +kernel
theorem dL_isDay_269 : decode cL_isDay 269 = .ok (.getfield 20, 3) := by decide +kernel
theorem dL_isDay_272 : decode cL_isDay 272 = .ok (.iload 4, 2) := by decide +kernel
theorem dL_isDay_274 : decode cL_isDay 274 = .ok (.iaload, 1) := by decide +kernel
theorem dL_isDay_275 : decode cL_isDay 275 = .ok (.if_icmp .gt 7, 3) := by decide +kernel
theorem dL_isDay_278 : decode cL_isDay 278 = .ok (.iconst 1, 1) := by decide +kernel
theorem dL_isDay_279 : decode cL_isDay 279 = .ok (.goto 4, 3) := by decide +kernel
theorem dL_isDay_282 : decode cL_isDay 282 = .ok (.iconst 0, 1) := by decide +kernel
theorem dL_isDay_283 : decode cL_isDay 283 = .ok (.istore 6, 2) := by decide +kernel
theorem dL_isDay_285 : decode cL_isDay 285 = .ok (.iload 6, 2) := by decide +kernel
theorem dL_isDay_287 : decode cL_isDay 287 = .ok (.ifCond .eq 37, 3) := by decide +kernel
theorem dL_isDay_290 : decode cL_isDay 290 = .ok (.aload_n 0, 1) := by decide +kernel
theorem dL_isDay_291 : decode cL_isDay 291 = .ok (.getfield 10, 3) := by decide +kernel
theorem dL_isDay_294 : decode cL_isDay 294 = .ok (.iload_n 3, 1) := by decide +kernel
theorem dL_isDay_295 : decode cL_isDay 295 = .ok (.invokevirtual 186, 3) := by decide +kernel
theorem dL_isDay_298 : decode cL_isDay 298 = .ok (.iload 5, 2) := by decide +kernel
theorem dL_isDay_300 : decode cL_isDay 300 = .ok (.if_icmp .ne 22, 3) := by decide +kernel
theorem dL_isDay_303 : decode cL_isDay 303 = .ok (.aload_n 0, 1) := by decide +kernel
theorem dL_isDay_304 : decode cL_isDay 304 = .ok (.getfield 10, 3) := by decide +kernel
theorem dL_isDay_307 : decode cL_isDay 307 = .ok (.iload_n 3, 1) := by decide +kernel
theorem dL_isDay_308 : decode cL_isDay 308 = .ok (.iconst 5, 1) := by decide +kernel
theorem dL_isDay_309 : decode cL_isDay 309 = .ok (.invokevirtual 130, 3) := by decide +kernel
theorem dL_isDay_312 : decode cL_isDay 312 = .ok (.aload_n 0, 1) := by decide +kernel
theorem dL_isDay_313 : decode cL_isDay 313 = .ok (.getfield 10, 3) := by decide +kernel
theorem dL_isDay_316 : decode cL_isDay 316 = .ok (.invokevirtual 133, 3) := by decide +kernel
theorem dL_isDay_319 : decode cL_isDay 319 = .ok (.if_icmp .eq 5, 3) := by decide +kernel
theorem dL_isDay_322 : decode cL_isDay 322 = .ok (.iconst 0, 1) := by decide +kernel
theorem dL_isDay_323 : decode cL_isDay 323 = .ok (.ireturn, 1) := by decide +kernel
theorem dL_isDay_324 : decode cL_isDay 324 = .ok (.goto 146, 3) := by decide +kernel
theorem dL_isDay_327 : decode cL_isDay 327 = .ok (.iload_n 2, 1) := by decide +kernel
theorem dL_isDay_328 : decode cL_isDay 328 = .ok (.bipush 6, 2) := by decide +kernel
theorem dL_isDay_330 : decode cL_isDay 330 = .ok (.if_icmp .ne 101, 3) := by decide +kernel
theorem dL_isDay_333 : decode cL_isDay 333 = .ok (.iconst 0, 1) := by decide +kernel
theorem dL_isDay_334 : decode cL_isDay 334 = .ok (.istore_n 3, 1) := by decide +kernel
theorem dL_isDay_335 : decode cL_isDay 335 = .ok (.iload_n 3, 1) := by decide +kernel
theorem dL_isDay_336 : decode cL_isDay 336 = .ok (.aload_n 0, 1) := by decide +kernel
theorem dL_isDay_337 : decode cL_isDay 337 = .ok (.getfield 143, 3) := by decide +kernel
theorem dL_isDay_340 : decode cL_isDay 340 = .ok (.if_icmp .ge 88, 3) := by decide +kernel
theorem dL_isDay_343 : decode cL_isDay 343 = .ok (.aload_n 0, 1) := by decide +kernel
theorem dL_isDay_344 : decode cL_isDay 344 = .ok (.getfield 10, 3) := by decide +kernel
theorem dL_isDay_347 : decode cL_isDay 347 = .ok (.iload_n 3, 1) := by decide +kernel
theorem dL_isDay_348 : decode cL_isDay 348 = .ok (.invokestatic 189, 3) := by decide +kernel
theorem dL_isDay_351 : decode cL_isDay 351 = .ok (.istore 4, 2) := by decide +kernel
theorem dL_isDay_353 : decode cL_isDay 353 = .ok (.aload_n 0, 1) := by decide +kernel
theorem dL_isDay_354 : decode cL_isDay 354 = .ok (.getfield 10, 3) := by decide +kernel
theorem dL_isDay_357 : decode cL_isDay 357 = .ok (.iload_n 3, 1) := by decide +kernel
theorem dL_isDay_358 : decode cL_isDay 358 = .ok (.iconst 0, 1) := by decide +kernel
theorem dL_isDay_359 : decode cL_isDay 359 = .ok (.invokevirtual 130, 3) := by decide +kernel
theorem dL_isDay_362 : decode cL_isDay 362 = .ok (.istore 5, 2) := by decide +kernel
theorem dL_isDay_364 : decode cL_isDay 364 = .ok (.aload_n 0, 1) := by decide +kernel
theorem dL_isDay_365 : decode cL_isDay 365 = .ok (.getfield 10, 3) := by decide +kernel
theorem dL_isDay_368 : decode cL_isDay 368 = .ok (.iload_n 3, 1) := by decide +kernel
theorem dL_isDay_369 : decode cL_isDay 369 = .ok (.iconst 2, 1) := by decide +kernel
theorem dL_isDay_370 : decode cL_isDay 370 = .ok (.invokevirtual 130, 3) := by decide +kernel
theorem dL_isDay_373 : decode cL_isDay 373 = .ok (.istore 6, 2) := by decide +kernel
theorem dL_isDay_375 : decode cL_isDay 375 = .ok (.iload 4, 2) := by decide +kernel
theorem dL_isDay_377 : decode cL_isDay 377 = .ok (.iconst (-1), 1) := by decide +kernel
theorem dL_isDay_378 : decode cL_isDay 378 = .ok (.if_icmp .eq 44, 3) := by decide +kernel
theorem dL_isDay_381 : decode cL_isDay 381 = .ok (.iload 4, 2) := by decide +kernel
theorem dL_isDay_383 : decode cL_isDay 383 = .ok (.aload_n 0, 1) := by decide +kernel
theorem dL_isDay_384 : decode cL_isDay 384 = .ok (.getfield 10, 3) := by decide +kernel
theorem dL_isDay_387 : decode cL_isDay 387 = .ok (.invokevirtual 133, 3) := by decide +kernel
theorem dL_isDay_390 : decode cL_isDay 390 = .ok (.bipush 10, 2) := by decide +kernel
theorem dL_isDay_392 : decode cL_isDay 392 = .ok (.iadd, 1) := by decide +kernel
theorem dL_isDay_393 : decode cL_isDay 393 = .ok (.if_icmp .ne 27, 3) := by decide +kernel
theorem dL_isDay_396 : decode cL_isDay 396 = .ok (.iload 6, 2) := by decide +kernel
theorem dL_isDay_398 : decode cL_isDay 398 = .ok (.aload_n 0, 1) := by decide +kernel
theorem dL_isDay_399 : decode cL_isDay 399 = .ok (.getfield 16, 3) := by decide +kernel
theorem dL_isDay_402 : decode cL_isDay 402 = .ok (.iload 5, 2) := by decide +kernel
theorem dL_isDay_404 : decode cL_isDay 404 = .ok (.iaload, 1) := by decide +kernel
theorem dL_isDay_405 : decode cL_isDay 405 = .ok (.if_icmp .lt 15, 3) := by decide +kernel
theorem dL_isDay_408 : decode cL_isDay 408 = .ok (.iload 6, 2) := by decide +kernel
theorem dL_isDay_410 : decode cL_isDay 410 = .ok (.aload_n 0, 1) := by decide +kernel
theorem dL_isDay_411 : decode cL_isDay 411 = .ok (.getfield 20, 3) := by decide +kernel
theorem dL_isDay_414 : decode cL_isDay 414 = .ok (.iload 5, 2) := by decide +kernel
theorem dL_isDay_416 : decode cL_isDay 416 = .ok (.iaload, 1) := by decide +kernel
theorem dL_isDay_417 : decode cL_isDay 417 = .ok (.if_icmp .le 5, 3) := by decide +kernel
theorem dL_isDay_420 : decode cL_isDay 420 = .ok (.iconst 0, 1) := by decide +kernel
theorem dL_isDay_421 : decode cL_isDay 421 = .ok (.ireturn, 1) := by decide +kernel
theorem dL_isDay_422 : decode cL_isDay 422 = .ok (.iinc 3 1, 3) := by decide +kernel
theorem dL_isDay_425 : decode cL_isDay 425 = .ok (.goto (-90), 3) := by decide +kernel
theorem dL_isDay_428 : decode cL_isDay 428 = .ok (.goto 42, 3) := by decide +kernel
theorem dL_isDay_431 : decode cL_isDay 431 = .ok (.iload_n 2, 1) := by decide +kernel
theorem dL_isDay_432 : decode cL_isDay 432 = .ok (.bipush 7, 2) := by decide +kernel
theorem dL_isDay_434 : decode cL_isDay 434 = .ok (.if_icmp .ne 36, 3) := by decide +kernel
theorem dL_isDay_437 : decode cL_isDay 437 = .ok (.aload_n 0, 1) := by decide +kernel
theorem dL_isDay_438 : decode cL_isDay 438 = .ok (.getfield 143, 3) := by decide +kernel
theorem dL_isDay_441 : decode cL_isDay 441 = .ok (.ifCond .le 29, 3) := by decide +kernel
theorem dL_isDay_444 : decode cL_isDay 444 = .ok (.aload_n 0, 1) := by decide +kernel
theorem dL_isDay_445 : decode cL_isDay 445 = .ok (.getfield 10, 3) := by decide +kernel
theorem dL_isDay_448 : decode cL_isDay 448 = .ok (.aload_n 0, 1) := by decide +kernel
theorem dL_isDay_449 : decode cL_isDay 449 = .ok (.getfield 34, 3) := by decide +kernel
theorem dL_isDay_452 : decode cL_isDay 452 = .ok (.aload_n 0, 1) := by decide +kernel
theorem dL_isDay_453 : decode cL_isDay 453 = .ok (.getfield 143, 3) := by decide +kernel
theorem dL_isDay_456 : decode cL_isDay 456 = .ok (.invokevirtual 59, 3) := by decide +kernel
theorem dL_isDay_459 : decode cL_isDay 459 = .ok (.iconst 4, 1) := by decide +kernel
theorem dL_isDay_460 : decode cL_isDay 460 = .ok (.invokevirtual 130, 3) := by decide +kernel
theorem dL_isDay_463 : decode cL_isDay 463 = .ok (.bipush 50, 2) := by decide +kernel
theorem dL_isDay_465 : decode cL_isDay 465 = .ok (.if_icmp .ge 5, 3) := by decide +kernel
theorem dL_isDay_468 : decode cL_isDay 468 = .ok (.iconst 0, 1) := by decide +kernel
theorem dL_isDay_469 : decode cL_isDay 469 = .ok (.ireturn, 1) := by decide +kernel
theorem dL_isDay_470 : decode cL_isDay 470 = .ok (.aload_n 0, 1) := by decide +kernel
theorem dL_isDay_471 : decode cL_isDay 471 = .ok (.getfield 10, 3) := by decide +kernel
theorem dL_isDay_474 : decode cL_isDay 474 = .ok (.invokevirtual 193, 3) := by decide +kernel
theorem dL_isDay_477 : decode cL_isDay 477 = .ok (.aload_n 0, 1) := by decide +kernel
theorem dL_isDay_478 : decode cL_isDay 478 = .ok (.getfield 143, 3) := by decide +kernel
theorem dL_isDay_481 : decode cL_isDay 481 = .ok (.if_icmp .ne 17, 3) := by decide +kernel
theorem dL_isDay_484 : decode cL_isDay 484 = .ok (.aload_n 0, 1) := by decide +kernel
theorem dL_isDay_485 : decode cL_isDay 485 = .ok (.invokevirtual 118, 3) := by decide +kernel
theorem dL_isDay_488 : decode cL_isDay 488 = .ok (.ifCond .eq 10, 3) := by decide +kernel
theorem dL_isDay_491 : decode cL_isDay 491 = .ok (.aload_n 0, 1) := by decide +kernel
theorem dL_isDay_492 : decode cL_isDay 492 = .ok (.invokevirtual 196, 3) := by decide +kernel
theorem dL_isDay_495 : decode cL_isDay 495 = .ok (.ifCond .ne 5, 3) := by decide +kernel
theorem dL_isDay_498 : decode cL_isDay 498 = .ok (.iconst 0, 1) := by decide +kernel
theorem dL_isDay_499 : decode cL_isDay 499 = .ok (.ireturn, 1) := by decide +kernel
theorem dL_isDay_500 : decode cL_isDay 500 = .ok (.iinc 1 (-1), 3) := by decide +kernel
theorem dL_isDay_503 : decode cL_isDay 503 = .ok (.goto (-434), 3) := by decide +kernel
theorem dL_isDay_506 : decode cL_isDay 506 = .ok (.iconst 1, 1) := by decide +kernel
theorem dL_isDay_507 : decode cL_isDay 507 = .ok (.ireturn, 1) := by decide +kernel
theorem dL_isEvening_0 : decode cL_isEvening 0 = .ok (.iconst 1, 1) := by decide +kernel
theorem dL_isEvening_1 : decode cL_isEvening 1 = .ok (.aload_n 0, 1) := by decide +kernel
theorem dL_isEvening_2 : decode cL_isEvening 2 = .ok (.getfield 34, 3) := by decide +kernel
theorem dL_isEvening_5 : decode cL_isEvening 5 = .ok (.iconst 4, 1) := by decide +kernel
theorem dL_isEvening_6 : decode cL_isEvening 6 = .ok (.invokevirtual 59, 3) := by decide +kernel
theorem dL_isEvening_9 : decode cL_isEvening 9 = .ok (.iadd, 1) := by decide +kernel
theorem dL_isEvening_10 : decode cL_isEvening 10 = .ok (.istore_n 1, 1) := by decide +kernel
theorem dL_isEvening_11 : decode cL_isEvening 11 = .ok (.iload_n 1, 1) := by decide +kernel
theorem dL_isEvening_12 : decode cL_isEvening 12 = .ok (.ifCond .le 214, 3) := by decide +kernel
theorem dL_isEvening_15 : decode cL_isEvening 15 = .ok (.aload_n 0, 1) := by decide +kernel
theorem dL_isEvening_16 : decode cL_isEvening 16 = .ok (.getfield 34, 3) := by decide +kernel
theorem dL_isEvening_19 : decode cL_isEvening 19 = .ok (.aload_n 0, 1) := by decide +kernel
theorem dL_isEvening_20 : decode cL_isEvening 20 = .ok (.getfield 62, 3) := by decide +kernel
theorem dL_isEvening_23 : decode cL_isEvening 23 = .ok (.invokevirtual 59, 3) := by decide +kernel
theorem dL_isEvening_26 : decode cL_isEvening 26 = .ok (.istore_n 2, 1) := by decide +kernel
theorem dL_isEvening_27 : decode cL_isEvening 27 = .ok (.iconst 0, 1) := by decide +kernel
theorem dL_isEvening_28 : decode cL_isEvening 28 = .ok (.istore_n 3, 1) := by decide +kernel
theorem dL_isEvening_29 : decode cL_isEvening 29 = .ok (.iconst 0, 1) := by decide +kernel
theorem dL_isEvening_30 : decode cL_isEvening 30 = .ok (.istore 4, 2) := by decide +kernel
theorem dL_isEvening_32 : decode cL_isEvening 32 = .ok (.iload 4, 2) := by decide +kernel
theorem dL_isEvening_34 : decode cL_isEvening 34 = .ok (.iconst 4, 1) := by decide +kernel
theorem dL_isEvening_35 : decode cL_isEvening 35 = .ok (.if_icmp .ge 22, 3) := by decide +kernel
theorem dL_isEvening_38 : decode cL_isEvening 38 = .ok (.iload_n 3, 1) := by decide +kernel
theorem dL_isEvening_39 : decode cL_isEvening 39 = .ok (.aload_n 0, 1) := by decide +kernel
theorem dL_isEvening_40 : decode cL_isEvening 40 = .ok (.getfield 10, 3) := by decide +kernel
theorem dL_isEvening_43 : decode cL_isEvening 43 = .ok (.iload_n 2, 1) := by decide +kernel
theorem dL_isEvening_44 : decode cL_isEvening 44 = .ok (.iload 4, 2) := by decide +kernel
theorem dL_isEvening_46 : decode cL_isEvening 46 = .ok (.invokevirtual 199, 3) := by decide +kernel
theorem dL_isEvening_49 : decode cL_isEvening 49 = .ok (.iadd, 1) := by decide +kernel
theorem dL_isEvening_50 : decode cL_isEvening 50 = .ok (.istore_n 3, 1) := by decide +kernel
theorem dL_isEvening_51 : decode cL_isEvening 51 = .ok (.iinc 4 1, 3) := by decide +kernel
theorem dL_isEvening_54 : decode cL_isEvening 54 = .ok (.goto (-22), 3) := by decide +kernel
theorem dL_isEvening_57 : decode cL_isEvening 57 = .ok (.aload_n 0, 1) := by decide +kernel
theorem dL_isEvening_58 : decode cL_isEvening 58 = .ok (.getfield 10, 3) := by decide +kernel
theorem dL_isEvening_61 : decode cL_isEvening 61 = .ok (.invokevirtual 202, 3) := by decide +kernel
theorem dL_isEvening_64 : decode cL_isEvening 64 = .ok (.lstore 4, 2) := by decide +kernel
theorem dL_isEvening_66 : decode cL_isEvening 66 = .ok (.iload_n 3, 1) := by decide +kernel
theorem dL_isEvening_67 : decode cL_isEvening 67 = .ok (.ifCond .le 49, 3) := by decide +kernel
theorem dL_isEvening_70 : decode cL_isEvening 70 = .ok (.aload_n 0, 1) := by decide +kernel
theorem dL_isEvening_71 : decode cL_isEvening 71 = .ok (.getfield 34, 3) := by decide +kernel
theorem dL_isEvening_74 : decode cL_isEvening 74 = .ok (.iconst 2, 1) := by decide +kernel
theorem dL_isEvening_75 : decode cL_isEvening 75 = .ok (.invokevirtual 59, 3) := by decide +kernel
theorem dL_isEvening_78 : decode cL_isEvening 78 = .ok (.ifCond .ne 38, 3) := by decide +kernel
theorem dL_isEvening_81 : decode cL_isEvening 81 = .ok (.iconst 1, 1) := by decide +kernel
theorem dL_isEvening_82 : decode cL_isEvening 82 = .ok (.aload_n 0, 1) := by decide +kernel
theorem dL_isEvening_83 : decode cL_isEvening 83 = .ok (.getfield 34, 3) := by decide +kernel
theorem dL_isEvening_86 : decode cL_isEvening 86 = .ok (.iload_n 3, 1) := by decide +kernel
theorem dL_isEvening_87 : decode cL_isEvening 87 = .ok (.bipush 99, 2) := by decide +kernel
theorem dL_isEvening_89 : decode cL_isEvening 89 = .ok (.invokestatic 206, 3) := by decide +kernel
theorem dL_isEvening_92 : decode cL_isEvening 92 = .ok (.invokevirtual 59, 3) := by decide +kernel
theorem dL_isEvening_95 : decode cL_isEvening 95 = .ok (.iadd, 1) := by decide +kernel
theorem dL_isEvening_96 : decode cL_isEvening 96 = .ok (.istore 6, 2) := by decide +kernel
theorem dL_isEvening_98 : decode cL_isEvening 98 = .ok (.aload_n 0, 1) := by decide +kernel
theorem dL_isEvening_99 : decode cL_isEvening 99 = .ok (.getfield 10, 3) := by decide +kernel
theorem dL_isEvening_102 : decode cL_isEvening 102 = .ok (.iload_n 2, 1) := by decide +kernel
theorem dL_isEvening_103 : decode cL_isEvening 103 = .ok (.iload 6, 2) := by decide +kernel
theorem dL_isEvening_105 : decode cL_isEvening 105 = .ok (.invokevirtual 209, 3) := by decide +kernel
theorem dL_isEvening_108 : decode cL_isEvening 108 = .ok (.ifCond .ge 5, 3) := by decide +kernel
theorem dL_isEvening_111 : decode cL_isEvening 111 = .ok (.iconst 0, 1) := by decide +kernel
theorem dL_isEvening_112 : decode cL_isEvening 112 = .ok (.ireturn, 1) := by decide +kernel
theorem dL_isEvening_113 : decode cL_isEvening 113 = .ok (.goto 55, 3) := by decide +kernel
theorem dL_isEvening_116 : decode cL_isEvening 116 = .ok (.aload_n 0, 1) := by decide +kernel
theorem dL_isEvening_117 : decode cL_isEvening 117 = .ok (.getfield 34, 3) := by decide +kernel
theorem dL_isEvening_120 : decode cL_isEvening 120 = .ok (.iconst 3, 1) := by decide +kernel
theorem dL_isEvening_121 : decode cL_isEvening 121 = .ok (.invokevirtual 59, 3) := by decide +kernel
theorem dL_isEvening_124 : decode cL_isEvening 124 = .ok (.ifCond .ne 16, 3) := by decide +kernel
theorem dL_isEvening_127 : decode cL_isEvening 127 = .ok (.aload_n 0, 1) := by decide +kernel
theorem dL_isEvening_128 : decode cL_isEvening 128 = .ok (.getfield 10, 3) := by decide +kernel
theorem dL_isEvening_131 : decode cL_isEvening 131 = .ok (.iload_n 2, 1) := by decide +kernel
theorem dL_isEvening_132 : decode cL_isEvening 132 = .ok (.invokevirtual 212, 3) := by decide +kernel
theorem dL_isEvening_135 : decode cL_isEvening 135 = .ok (.ifCond .ge 33, 3) := by decide +kernel
theorem dL_isEvening_138 : decode cL_isEvening 138 = .ok (.iconst 0, 1) := by decide +kernel
theorem dL_isEvening_139 : decode cL_isEvening 139 = .ok (.ireturn, 1) := by decide +kernel
theorem dL_isEvening_140 : decode cL_isEvening 140 = .ok (.aload_n 0, 1) := by decide +kernel
theorem dL_isEvening_141 : decode cL_isEvening 141 = .ok (.getfield 10, 3) := by decide +kernel
theorem dL_isEvening_144 : decode cL_isEvening 144 = .ok (.invokevirtual 215, 3) := by decide +kernel
theorem dL_isEvening_147 : decode cL_isEvening 147 = .ok (.istore 6, 2) := by decide +kernel
theorem dL_isEvening_149 : decode cL_isEvening 149 = .ok (.iload 6, 2) := by decide +kernel
theorem dL_isEvening_151 : decode cL_isEvening 151 = .ok (.ifCond .lt 15, 3) := by decide +kernel
theorem dL_isEvening_154 : decode cL_isEvening 154 = .ok (.aload_n 0, 1) := by decide +kernel
theorem dL_isEvening_155 : decode cL_isEvening 155 = .ok (.getfield 10, 3) := by decide +kernel
theorem dL_isEvening_158 : decode cL_isEvening 158 = .ok (.iload_n 2, 1) := by decide +kernel
theorem dL_isEvening_159 : decode cL_isEvening 159 = .ok (.iconst 0, 1) := by decide +kernel
theorem dL_isEvening_160 : decode cL_isEvening 160 = .ok (.invokevirtual 199, 3) := by decide +kernel
theorem dL_isEvening_163 : decode cL_isEvening 163 = .ok (.ifCond .eq 5, 3) := by decide +kernel
theorem dL_isEvening_166 : decode cL_isEvening 166 = .ok (.iconst 0, 1) := by decide +kernel
theorem dL_isEvening_167 : decode cL_isEvening 167 = .ok (.ireturn, 1) := by decide +kernel
theorem dL_isEvening_168 : decode cL_isEvening 168 = .ok (.aload_n 0, 1) := by decide +kernel
theorem dL_isEvening_169 : decode cL_isEvening 169 = .ok (.invokevirtual 118, 3) := by decide +kernel
theorem dL_isEvening_172 : decode cL_isEvening 172 = .ok (.ifCond .ne 5, 3) := by decide +kernel
theorem dL_isEvening_175 : decode cL_isEvening 175 = .ok (.iconst 0, 1) := by decide +kernel
theorem dL_isEvening_176 : decode cL_isEvening 176 = .ok (.ireturn, 1) := by decide +kernel
theorem dL_isEvening_177 : decode cL_isEvening 177 = .ok (.aload_n 0, 1) := by decide +kernel
theorem dL_isEvening_178 : decode cL_isEvening 178 = .ok (.getfield 34, 3) := by decide +kernel
theorem dL_isEvening_181 : decode cL_isEvening 181 = .ok (.iconst 3, 1) := by decide +kernel
theorem dL_isEvening_182 : decode cL_isEvening 182 = .ok (.invokevirtual 59, 3) := by decide +kernel
theorem dL_isEvening_185 : decode cL_isEvening 185 = .ok (.ifCond .ne 35, 3) := by decide +kernel
theorem dL_isEvening_188 : decode cL_isEvening 188 = .ok (.aload_n 0, 1) := by decide +kernel
theorem dL_isEvening_189 : decode cL_isEvening 189 = .ok (.getfield 10, 3) := by decide +kernel
theorem dL_isEvening_192 : decode cL_isEvening 192 = .ok (.invokevirtual 218, 3) := by decide +kernel
theorem dL_isEvening_195 : decode cL_isEvening 195 = .ok (.ifCond .lt 23, 3) := by decide +kernel
theorem dL_isEvening_198 : decode cL_isEvening 198 = .ok (.aload_n 0, 1) := by decide +kernel
theorem dL_isEvening_199 : decode cL_isEvening 199 = .ok (.getfield 10, 3) := by decide +kernel
theorem dL_isEvening_202 : decode cL_isEvening 202 = .ok (.invokevirtual 202, 3) := by decide +kernel
theorem dL_isEvening_205 : decode cL_isEvening 205 = .ok (.lload 4, 2) := by decide +kernel
theorem dL_isEvening_207 : decode cL_isEvening 207 = .ok (.lcmp, 1) := by decide +kernel
theorem dL_isEvening_208 : decode cL_isEvening 208 = .ok (.ifCond .ne 10, 3) := by decide +kernel
theorem dL_isEvening_211 : decode cL_isEvening 211 = .ok (.aload_n 0, 1) := by decide +kernel
theorem dL_isEvening_212 : decode cL_isEvening 212 = .ok (.invokevirtual 118, 3) := by decide +kernel
theorem dL_isEvening_215 : decode cL_isEvening 215 = .ok (.ifCond .ne 5, 3) := by decide +kernel
theorem dL_isEvening_218 : decode cL_isEvening 218 = .ok (.iconst 0, 1) := by decide +kernel
theorem dL_isEvening_219 : decode cL_isEvening 219 = .ok (.ireturn, 1) := by decide +kernel
theorem dL_isEvening_220 : decode cL_isEvening 220 = .ok (.iinc 1 (-1), 3) := by decide +kernel
theorem dL_isEvening_223 : decode cL_isEvening 223 = .ok (.goto (-212), 3) := by decide +kernel
theorem dL_isEvening_226 : decode cL_isEvening 226 = .ok (.iconst 1, 1) := by decide +kernel
theorem dL_isEvening_227 : decode cL_isEvening 227 = .ok (.ireturn, 1) := by decide +kernel
theorem dL_isNone_0 : decode cL_isNone 0 = .ok (.iconst 0, 1) := by decide +kernel
theorem dL_isNone_1 : decode cL_isNone 1 = .ok (.istore 4, 2) := by decide +kernel
theorem dL_isNone_3 : decode cL_isNone 3 = .ok (.iload 4, 2) := by decide +kernel
theorem dL_isNone_5 : decode cL_isNone 5 = .ok (.bipush 10, 2) := by decide +kernel
theorem dL_isNone_7 : decode cL_isNone 7 = .ok (.if_icmp .gt 156, 3) := by decide +kernel
theorem dL_isNone_10 : decode cL_isNone 10 = .ok (.iconst 0, 1) := by decide +kernel
theorem dL_isNone_11 : decode cL_isNone 11 = .ok (.istore 5, 2) := by decide +kernel
theorem dL_isNone_13 : decode cL_isNone 13 = .ok (.iload 4, 2) := by decide +kernel
theorem dL_isNone_15 : decode cL_isNone 15 = .ok (.iload 5, 2) := by decide +kernel
theorem dL_isNone_17 : decode cL_isNone 17 = .ok (.iadd, 1) := by decide +kernel
theorem dL_isNone_18 : decode cL_isNone 18 = .ok (.bipush 10, 2) := by decide +kernel
theorem dL_isNone_20 : decode cL_isNone 20 = .ok (.if_icmp .gt 137, 3) := by decide +kernel
theorem dL_isNone_23 : decode cL_isNone 23 = .ok (.iconst 0, 1) := by decide +kernel
theorem dL_isNone_24 : decode cL_isNone 24 = .ok (.istore 6, 2) := by decide +kernel
theorem dL_isNone_26 : decode cL_isNone 26 = .ok (.iload 4, 2) := by decide +kernel
theorem dL_isNone_28 : decode cL_isNone 28 = .ok (.iload 5, 2) := by decide +kernel
theorem dL_isNone_30 : decode cL_isNone 30 = .ok (.iadd, 1) := by decide +kernel
theorem dL_isNone_31 : decode cL_isNone 31 = .ok (.iload 6, 2) := by decide +kernel
theorem dL_isNone_33 : decode cL_isNone 33 = .ok (.iadd, 1) := by decide +kernel
theorem dL_isNone_34 : decode cL_isNone 34 = .ok (.bipush 10, 2) := by decide +kernel
theorem dL_isNone_36 : decode cL_isNone 36 = .ok (.if_icmp .gt 115, 3) := by decide +kernel
theorem dL_isNone_39 : decode cL_isNone 39 = .ok (.bipush 10, 2) := by decide +kernel
theorem dL_isNone_41 : decode cL_isNone 41 = .ok (.iload 4, 2) := by decide +kernel
theorem dL_isNone_43 : decode cL_isNone 43 = .ok (.isub, 1) := by decide +kernel
theorem dL_isNone_44 : decode cL_isNone 44 = .ok (.iload 5, 2) := by decide +kernel
theorem dL_isNone_46 : decode cL_isNone 46 = .ok (.isub, 1) := by decide +kernel
theorem dL_isNone_47 : decode cL_isNone 47 = .ok (.iload 6, 2) := by decide +kernel
theorem dL_isNone_49 : decode cL_isNone 49 = .ok (.isub, 1) := by decide +kernel
theorem dL_isNone_50 : decode cL_isNone 50 = .ok (.istore 7, 2) := by decide +kernel
theorem dL_isNone_52 : decode cL_isNone 52 = .ok (.iload 4, 2) := by decide +kernel
theorem dL_isNone_54 : decode cL_isNone 54 = .ok (.aload_n 0, 1) := by decide +kernel
theorem dL_isNone_55 : decode cL_isNone 55 = .ok (.iconst 0, 1) := by decide +kernel
theorem dL_isNone_56 : decode cL_isNone 56 = .ok (.iaload, 1) := by decide +kernel
theorem dL_isNone_57 : decode cL_isNone 57 = .ok (.imul, 1) := by decide +kernel
theorem dL_isNone_58 : decode cL_isNone 58 = .ok (.iload 5, 2) := by decide +kernel
theorem dL_isNone_60 : decode cL_isNone 60 = .ok (.aload_n 0, 1) := by decide +kernel
theorem dL_isNone_61 : decode cL_isNone 61 = .ok (.iconst 1, 1) := by decide +kernel
theorem dL_isNone_62 : decode cL_isNone 62 = .ok (.iaload, 1) := by decide +kernel
theorem dL_isNone_63 : decode cL_isNone 63 = .ok (.imul, 1) := by decide +kernel
theorem dL_isNone_64 : decode cL_isNone 64 = .ok (.iadd, 1) := by decide +kernel
theorem dL_isNone_65 : decode cL_isNone 65 = .ok (.iload 6, 2) := by decide +kernel
theorem dL_isNone_67 : decode cL_isNone 67 = .ok (.aload_n 0, 1) := by decide +kernel
theorem dL_isNone_68 : decode cL_isNone 68 = .ok (.iconst 2, 1) := by decide +kernel
theorem dL_isNone_69 : decode cL_isNone 69 = .ok (.iaload, 1) := by decide +kernel
theorem dL_isNone_70 : decode cL_isNone 70 = .ok (.imul, 1) := by decide +kernel
theorem dL_isNone_71 : decode cL_isNone 71 = .ok (.iadd, 1) := by decide +kernel
theorem dL_isNone_72 : decode cL_isNone 72 = .ok (.iload 7, 2) := by decide +kernel
theorem dL_isNone_74 : decode cL_isNone 74 = .ok (.aload_n 0, 1) := by decide +kernel
theorem dL_isNone_75 : decode cL_isNone 75 = .ok (.iconst 3, 1) := by decide +kernel
theorem dL_isNone_76 : decode cL_isNone 76 = .ok (.iaload, 1) := by decide +kernel
theorem dL_isNone_77 : decode cL_isNone 77 = .ok (.imul, 1) := by decide +kernel
theorem dL_isNone_78 : decode cL_isNone 78 = .ok (.iadd, 1) := by decide +kernel
theorem dL_isNone_79 : decode cL_isNone 79 = .ok (.istore 8, 2) := by decide +kernel
theorem dL_isNone_81 : decode cL_isNone 81 = .ok (.bipush 10, 2) := by decide +kernel
theorem dL_isNone_83 : decode cL_isNone 83 = .ok (.iload 4, 2) := by decide +kernel
theorem dL_isNone_85 : decode cL_isNone 85 = .ok (.imul, 1) := by decide +kernel
theorem dL_isNone_86 : decode cL_isNone 86 = .ok (.aload_n 1, 1) := by decide +kernel
theorem dL_isNone_87 : decode cL_isNone 87 = .ok (.iconst 0, 1) := by decide +kernel
theorem dL_isNone_88 : decode cL_isNone 88 = .ok (.iaload, 1) := by decide +kernel
theorem dL_isNone_89 : decode cL_isNone 89 = .ok (.if_icmp .gt 56, 3) := by decide +kernel
theorem dL_isNone_92 : decode cL_isNone 92 = .ok (.bipush 10, 2) := by decide +kernel
theorem dL_isNone_94 : decode cL_isNone 94 = .ok (.iload 5, 2) := by decide +kernel
theorem dL_isNone_96 : decode cL_isNone 96 = .ok (.imul, 1) := by decide +kernel
theorem dL_isNone_97 : decode cL_isNone 97 = .ok (.aload_n 1, 1) := by decide +kernel
theorem dL_isNone_98 : decode cL_isNone 98 = .ok (.iconst 1, 1) := by decide +kernel
theorem dL_isNone_99 : decode cL_isNone 99 = .ok (.iaload, 1) := by decide +kernel
theorem dL_isNone_100 : decode cL_isNone 100 = .ok (.if_icmp .gt 45, 3) := by decide +kernel
theorem dL_isNone_103 : decode cL_isNone 103 = .ok (.bipush 10, 2) := by decide +kernel
theorem dL_isNone_105 : decode cL_isNone 105 = .ok (.iload 6, 2) := by decide +kernel
theorem dL_isNone_107 : decode cL_isNone 107 = .ok (.imul, 1) := by decide +kernel
theorem dL_isNone_108 : decode cL_isNone 108 = .ok (.aload_n 1, 1) := by decide +kernel
theorem dL_isNone_109 : decode cL_isNone 109 = .ok (.iconst 2, 1) := by decide +kernel
theorem dL_isNone_110 : decode cL_isNone 110 = .ok (.iaload, 1) := by decide +kernel
theorem dL_isNone_111 : decode cL_isNone 111 = .ok (.if_icmp .gt 34, 3) := by decide +kernel
theorem dL_isNone_114 : decode cL_isNone 114 = .ok (.bipush 10, 2) := by decide +kernel
theorem dL_isNone_116 : decode cL_isNone 116 = .ok (.iload 7, 2) := by decide +kernel
theorem dL_isNone_118 : decode cL_isNone 118 = .ok (.imul, 1) := by decide +kernel
theorem dL_isNone_119 : decode cL_isNone 119 = .ok (.aload_n 1, 1) := by decide +kernel
theorem dL_isNone_120 : decode cL_isNone 120 = .ok (.iconst 3, 1) := by decide +kernel
theorem dL_isNone_121 : decode cL_isNone 121 = .ok (.iaload, 1) := by decide +kernel
theorem dL_isNone_122 : decode cL_isNone 122 = .ok (.if_icmp .gt 23, 3) := by decide +kernel
theorem dL_isNone_125 : decode cL_isNone 125 = .ok (.iload 8, 2) := by decide +kernel
theorem dL_isNone_127 : decode cL_isNone 127 = .ok (.bipush 10, 2) := by decide +kernel
theorem dL_isNone_129 : decode cL_isNone 129 = .ok (.iload_n 2, 1) := by decide +kernel
theorem dL_isNone_130 : decode cL_isNone 130 = .ok (.imul, 1) := by decide +kernel
theorem dL_isNone_131 : decode cL_isNone 131 = .ok (.if_icmp .lt 14, 3) := by decide +kernel
theorem dL_isNone_134 : decode cL_isNone 134 = .ok (.iload 8, 2) := by decide +kernel
theorem dL_isNone_136 : decode cL_isNone 136 = .ok (.bipush 10, 2) := by decide +kernel
theorem dL_isNone_138 : decode cL_isNone 138 = .ok (.iload_n 3, 1) := by decide +kernel
theorem dL_isNone_139 : decode cL_isNone 139 = .ok (.imul, 1) := by decide +kernel
theorem dL_isNone_140 : decode cL_isNone 140 = .ok (.if_icmp .gt 5, 3) := by decide +kernel
theorem dL_isNone_143 : decode cL_isNone 143 = .ok (.iconst 0, 1) := by decide +kernel
theorem dL_isNone_144 : decode cL_isNone 144 = .ok (.ireturn, 1) := by decide +kernel
theorem dL_isNone_145 : decode cL_isNone 145 = .ok (.iinc 6 1, 3) := by decide +kernel
theorem dL_isNone_148 : decode cL_isNone 148 = .ok (.goto (-122), 3) := by decide +kernel
theorem dL_isNone_151 : decode cL_isNone 151 = .ok (.iinc 5 1, 3) := by decide +kernel
theorem dL_isNone_154 : decode cL_isNone 154 = .ok (.goto (-141), 3) := by decide +kernel
theorem dL_isNone_157 : decode cL_isNone 157 = .ok (.iinc 4 1, 3) := by decide +kernel
theorem dL_isNone_160 : decode cL_isNone 160 = .ok (.goto (-157), 3) := by decide +kernel
theorem dL_isNone_163 : decode cL_isNone 163 = .ok (.iconst 1, 1) := by decide +kernel
theorem dL_isNone_164 : decode cL_isNone 164 = .ok (.ireturn, 1) := by decide +kernel
theorem dL_isBest_0 : decode cL_isBest 0 = .ok (.aload_n 0, 1) := by decide +kernel
theorem dL_isBest_1 : decode cL_isBest 1 = .ok (.getfield 34, 3) := by decide +kernel
theorem dL_isBest_4 : decode cL_isBest 4 = .ok (.aload_n 0, 1) := by decide +kernel
theorem dL_isBest_5 : decode cL_isBest 5 = .ok (.getfield 62, 3) := by decide +kernel
theorem dL_isBest_8 : decode cL_isBest 8 = .ok (.invokevirtual 59, 3) := by decide +kernel
theorem dL_isBest_11 : decode cL_isBest 11 = .ok (.istore_n 1, 1) := by decide +kernel
theorem dL_isBest_12 : decode cL_isBest 12 = .ok (.iconst 1, 1) := by decide +kernel
theorem dL_isBest_13 : decode cL_isBest 13 = .ok (.aload_n 0, 1) := by decide +kernel
theorem dL_isBest_14 : decode cL_isBest 14 = .ok (.getfield 34, 3) := by decide +kernel
theorem dL_isBest_17 : decode cL_isBest 17 = .ok (.bipush 6, 2) := by decide +kernel
theorem dL_isBest_19 : decode cL_isBest 19 = .ok (.invokevirtual 59, 3) := by decide +kernel
theorem dL_isBest_22 : decode cL_isBest 22 = .ok (.iadd, 1) := by decide +kernel
theorem dL_isBest_23 : decode cL_isBest 23 = .ok (.istore_n 2, 1) := by decide +kernel
theorem dL_isBest_24 : decode cL_isBest 24 = .ok (.iload_n 2, 1) := by decide +kernel
theorem dL_isBest_25 : decode cL_isBest 25 = .ok (.ifCond .le 32, 3) := by decide +kernel
theorem dL_isBest_28 : decode cL_isBest 28 = .ok (.aload_n 0, 1) := by decide +kernel
theorem dL_isBest_29 : decode cL_isBest 29 = .ok (.getfield 10, 3) := by decide +kernel
theorem dL_isBest_32 : decode cL_isBest 32 = .ok (.iload_n 1, 1) := by decide +kernel
theorem dL_isBest_33 : decode cL_isBest 33 = .ok (.aload_n 0, 1) := by decide +kernel
theorem dL_isBest_34 : decode cL_isBest 34 = .ok (.getfield 34, 3) := by decide +kernel
theorem dL_isBest_37 : decode cL_isBest 37 = .ok (.bipush 100, 2) := by decide +kernel
theorem dL_isBest_39 : decode cL_isBest 39 = .ok (.invokevirtual 59, 3) := by decide +kernel
theorem dL_isBest_42 : decode cL_isBest 42 = .ok (.invokevirtual 254, 3) := by decide +kernel
theorem dL_isBest_45 : decode cL_isBest 45 = .ok (.iconst 1, 1) := by decide +kernel
theorem dL_isBest_46 : decode cL_isBest 46 = .ok (.if_icmp .ge 5, 3) := by decide +kernel
theorem dL_isBest_49 : decode cL_isBest 49 = .ok (.iconst 0, 1) := by decide +kernel
theorem dL_isBest_50 : decode cL_isBest 50 = .ok (.ireturn, 1) := by decide +kernel
theorem dL_isBest_51 : decode cL_isBest 51 = .ok (.iinc 2 (-1), 3) := by decide +kernel
theorem dL_isBest_54 : decode cL_isBest 54 = .ok (.goto (-30), 3) := by decide +kernel
theorem dL_isBest_57 : decode cL_isBest 57 = .ok (.aload_n 0, 1) := by decide +kernel
theorem dL_isBest_58 : decode cL_isBest 58 = .ok (.getfield 34, 3) := by decide +kernel
theorem dL_isBest_61 : decode cL_isBest 61 = .ok (.bipush 10, 2) := by decide +kernel
theorem dL_isBest_63 : decode cL_isBest 63 = .ok (.invokevirtual 59, 3) := by decide +kernel
theorem dL_isBest_66 : decode cL_isBest 66 = .ok (.istore_n 2, 1) := by decide +kernel
theorem dL_isBest_67 : decode cL_isBest 67 = .ok (.aload_n 0, 1) := by decide +kernel
theorem dL_isBest_68 : decode cL_isBest 68 = .ok (.getfield 34, 3) := by decide +kernel
theorem dL_isBest_71 : decode cL_isBest 71 = .ok (.bipush 20, 2) := by decide +kernel
theorem dL_isBest_73 : decode cL_isBest 73 = .ok (.invokevirtual 59, 3) := by decide +kernel
theorem dL_isBest_76 : decode cL_isBest 76 = .ok (.istore_n 3, 1) := by decide +kernel
theorem dL_isBest_77 : decode cL_isBest 77 = .ok (.aload_n 0, 1) := by decide +kernel
theorem dL_isBest_78 : decode cL_isBest 78 = .ok (.getfield 10, 3) := by decide +kernel
theorem dL_isBest_81 : decode cL_isBest 81 = .ok (.iload_n 1, 1) := by decide +kernel
theorem dL_isBest_82 : decode cL_isBest 82 = .ok (.iload_n 2, 1) := by decide +kernel
theorem dL_isBest_83 : decode cL_isBest 83 = .ok (.iload_n 3, 1) := by decide +kernel
theorem dL_isBest_84 : decode cL_isBest 84 = .ok (.invokevirtual 257, 3) := by decide +kernel
theorem dL_isBest_87 : decode cL_isBest 87 = .ok (.istore 4, 2) := by decide +kernel
theorem dL_isBest_89 : decode cL_isBest 89 = .ok (.aload_n 0, 1) := by decide +kernel
theorem dL_isBest_90 : decode cL_isBest 90 = .ok (.getfield 10, 3) := by decide +kernel
theorem dL_isBest_93 : decode cL_isBest 93 = .ok (.iload_n 1, 1) := by decide +kernel
theorem dL_isBest_94 : decode cL_isBest 94 = .ok (.iload 4, 2) := by decide +kernel
theorem dL_isBest_96 : decode cL_isBest 96 = .ok (.iload_n 2, 1) := by decide +kernel
theorem dL_isBest_97 : decode cL_isBest 97 = .ok (.iload_n 3, 1) := by decide +kernel
theorem dL_isBest_98 : decode cL_isBest 98 = .ok (.invokevirtual 260, 3) := by decide +kernel
theorem dL_isBest_101 : decode cL_isBest 101 = .ok (.istore 5, 2) := by decide +kernel
theorem dL_isBest_103 : decode cL_isBest 103 = .ok (.iconst 0, 1) := by decide +kernel
theorem dL_isBest_104 : decode cL_isBest 104 = .ok (.istore 6, 2) := by decide +kernel
theorem dL_isBest_106 : decode cL_isBest 106 = .ok (.iload 6, 2) := by decide +kernel
theorem dL_isBest_108 : decode cL_isBest 108 = .ok (.bipush 100, 2) := by decide +kernel
theorem dL_isBest_110 : decode cL_isBest 110 = .ok (.if_icmp .ge 58, 3) := by decide +kernel
theorem dL_isBest_113 : decode cL_isBest 113 = .ok (.aload_n 0, 1) := by decide +kernel
theorem dL_isBest_114 : decode cL_isBest 114 = .ok (.getfield 10, 3) := by decide +kernel
theorem dL_isBest_117 : decode cL_isBest 117 = .ok (.iload_n 1, 1) := by decide +kernel
theorem dL_isBest_118 : decode cL_isBest 118 = .ok (.iload 6, 2) := by decide +kernel
theorem dL_isBest_120 : decode cL_isBest 120 = .ok (.iload_n 2, 1) := by decide +kernel
theorem dL_isBest_121 : decode cL_isBest 121 = .ok (.iload_n 3, 1) := by decide +kernel
theorem dL_isBest_122 : decode cL_isBest 122 = .ok (.invokevirtual 260, 3) := by decide +kernel
theorem dL_isBest_125 : decode cL_isBest 125 = .ok (.istore 7, 2) := by decide +kernel
theorem dL_isBest_127 : decode cL_isBest 127 = .ok (.iload 7, 2) := by decide +kernel
theorem dL_isBest_129 : decode cL_isBest 129 = .ok (.iload 5, 2) := by decide +kernel
theorem dL_isBest_131 : decode cL_isBest 131 = .ok (.if_icmp .lt 17, 3) := by decide +kernel
theorem dL_isBest_134 : decode cL_isBest 134 = .ok (.iload 6, 2) := by decide +kernel
theorem dL_isBest_136 : decode cL_isBest 136 = .ok (.iload 4, 2) := by decide +kernel
theorem dL_isBest_138 : decode cL_isBest 138 = .ok (.if_icmp .ge 12, 3) := by decide +kernel
theorem dL_isBest_141 : decode cL_isBest 141 = .ok (.iload 7, 2) := by decide +kernel
theorem dL_isBest_143 : decode cL_isBest 143 = .ok (.iload 5, 2) := by decide +kernel
theorem dL_isBest_145 : decode cL_isBest 145 = .ok (.if_icmp .ne 5, 3) := by decide +kernel
theorem dL_isBest_148 : decode cL_isBest 148 = .ok (.iconst 0, 1) := by decide +kernel
theorem dL_isBest_149 : decode cL_isBest 149 = .ok (.ireturn, 1) := by decide +kernel
theorem dL_isBest_150 : decode cL_isBest 150 = .ok (.iload 6, 2) := by decide +kernel
theorem dL_isBest_152 : decode cL_isBest 152 = .ok (.iconst 1, 1) := by decide +kernel
theorem dL_isBest_153 : decode cL_isBest 153 = .ok (.aload_n 0, 1) := by decide +kernel
theorem dL_isBest_154 : decode cL_isBest 154 = .ok (.getfield 34, 3) := by decide +kernel
theorem dL_isBest_157 : decode cL_isBest 157 = .ok (.iconst 3, 1) := by decide +kernel
theorem dL_isBest_158 : decode cL_isBest 158 = .ok (.invokevirtual 59, 3) := by decide +kernel
theorem dL_isBest_161 : decode cL_isBest 161 = .ok (.iadd, 1) := by decide +kernel
theorem dL_isBest_162 : decode cL_isBest 162 = .ok (.iadd, 1) := by decide +kernel
theorem dL_isBest_163 : decode cL_isBest 163 = .ok (.istore 6, 2) := by decide +kernel
theorem dL_isBest_165 : decode cL_isBest 165 = .ok (.goto (-59), 3) := by decide +kernel
theorem dL_isBest_168 : decode cL_isBest 168 = .ok (.iconst 1, 1) := by decide +kernel
theorem dL_isBest_169 : decode cL_isBest 169 = .ok (.ireturn, 1) := by decide +kernel
theorem dL_isDriven_0 : decode cL_isDriven 0 = .ok (.iconst 1, 1) := by decide +kernel
theorem dL_isDriven_1 : decode cL_isDriven 1 = .ok (.aload_n 0, 1) := by decide +kernel
theorem dL_isDriven_2 : decode cL_isDriven 2 = .ok (.getfield 34, 3) := by decide +kernel
theorem dL_isDriven_5 : decode cL_isDriven 5 = .ok (.iconst 4, 1) := by decide +kernel
theorem dL_isDriven_6 : decode cL_isDriven 6 = .ok (.invokevirtual 59, 3) := by decide +kernel
theorem dL_isDriven_9 : decode cL_isDriven 9 = .ok (.iadd, 1) := by decide +kernel
theorem dL_isDriven_10 : decode cL_isDriven 10 = .ok (.istore_n 1, 1) := by decide +kernel
theorem dL_isDriven_11 : decode cL_isDriven 11 = .ok (.iconst 0, 1) := by decide +kernel
theorem dL_isDriven_12 : decode cL_isDriven 12 = .ok (.istore_n 2, 1) := by decide +kernel
theorem dL_isDriven_13 : decode cL_isDriven 13 = .ok (.iload_n 2, 1) := by decide +kernel
theorem dL_isDriven_14 : decode cL_isDriven 14 = .ok (.iload_n 1, 1) := by decide +kernel
theorem dL_isDriven_15 : decode cL_isDriven 15 = .ok (.if_icmp .ge 74, 3) := by decide +kernel
theorem dL_isDriven_18 : decode cL_isDriven 18 = .ok (.aload_n 0, 1) := by decide +kernel
theorem dL_isDriven_19 : decode cL_isDriven 19 = .ok (.getfield 34, 3) := by decide +kernel
theorem dL_isDriven_22 : decode cL_isDriven 22 = .ok (.bipush 80, 2) := by decide +kernel
theorem dL_isDriven_24 : decode cL_isDriven 24 = .ok (.invokevirtual 59, 3) := by decide +kernel
theorem dL_isDriven_27 : decode cL_isDriven 27 = .ok (.istore_n 3, 1) := by decide +kernel
theorem dL_isDriven_28 : decode cL_isDriven 28 = .ok (.aload_n 0, 1) := by decide +kernel
theorem dL_isDriven_29 : decode cL_isDriven 29 = .ok (.getfield 10, 3) := by decide +kernel
theorem dL_isDriven_32 : decode cL_isDriven 32 = .ok (.aload_n 0, 1) := by decide +kernel
theorem dL_isDriven_33 : decode cL_isDriven 33 = .ok (.getfield 34, 3) := by decide +kernel
theorem dL_isDriven_36 : decode cL_isDriven 36 = .ok (.bipush 21, 2) := by decide +kernel
theorem dL_isDriven_38 : decode cL_isDriven 38 = .ok (.invokevirtual 59, 3) := by decide +kernel
theorem dL_isDriven_41 : decode cL_isDriven 41 = .ok (.aload_n 0, 1) := by decide +kernel
theorem dL_isDriven_42 : decode cL_isDriven 42 = .ok (.getfield 34, 3) := by decide +kernel
theorem dL_isDriven_45 : decode cL_isDriven 45 = .ok (.bipush 21, 2) := by decide +kernel
theorem dL_isDriven_47 : decode cL_isDriven 47 = .ok (.invokevirtual 59, 3) := by decide +kernel
theorem dL_isDriven_50 : decode cL_isDriven 50 = .ok (.iload_n 3, 1) := by decide +kernel
theorem dL_isDriven_51 : decode cL_isDriven 51 = .ok (.iload_n 3, 1) := by decide +kernel
theorem dL_isDriven_52 : decode cL_isDriven 52 = .ok (.bipush 20, 2) := by decide +kernel
theorem dL_isDriven_54 : decode cL_isDriven 54 = .ok (.iadd, 1) := by decide +kernel
theorem dL_isDriven_55 : decode cL_isDriven 55 = .ok (.aload_n 0, 1) := by decide +kernel
theorem dL_isDriven_56 : decode cL_isDriven 56 = .ok (.getfield 34, 3) := by decide +kernel
theorem dL_isDriven_59 : decode cL_isDriven 59 = .ok (.bipush 120, 2) := by decide +kernel
theorem dL_isDriven_61 : decode cL_isDriven 61 = .ok (.invokevirtual 59, 3) := by decide +kernel
theorem dL_isDriven_64 : decode cL_isDriven 64 = .ok (.iadd, 1) := by decide +kernel
theorem dL_isDriven_65 : decode cL_isDriven 65 = .ok (.aload_n 0, 1) := by decide +kernel
theorem dL_isDriven_66 : decode cL_isDriven 66 = .ok (.getfield 34, 3) := by decide +kernel
theorem dL_isDriven_69 : decode cL_isDriven 69 = .ok (.bipush 10, 2) := by decide +kernel
theorem dL_isDriven_71 : decode cL_isDriven 71 = .ok (.invokevirtual 59, 3) := by decide +kernel
theorem dL_isDriven_74 : decode cL_isDriven 74 = .ok (.invokevirtual 263, 3) := by decide +kernel
theorem dL_isDriven_77 : decode cL_isDriven 77 = .ok (.iload_n 2, 1) := by decide +kernel
theorem dL_isDriven_78 : decode cL_isDriven 78 = .ok (.if_icmp .eq 5, 3) := by decide +kernel
theorem dL_isDriven_81 : decode cL_isDriven 81 = .ok (.iconst 0, 1) := by decide +kernel
theorem dL_isDriven_82 : decode cL_isDriven 82 = .ok (.ireturn, 1) := by decide +kernel
theorem dL_isDriven_83 : decode cL_isDriven 83 = .ok (.iinc 2 1, 3) := by decide +kernel
theorem dL_isDriven_86 : decode cL_isDriven 86 = .ok (.goto (-73), 3) := by decide +kernel
theorem dL_isDriven_89 : decode cL_isDriven 89 = .ok (.aload_n 0, 1) := by decide +kernel
theorem dL_isDriven_90 : decode cL_isDriven 90 = .ok (.getfield 34, 3) := by decide +kernel
theorem dL_isDriven_93 : decode cL_isDriven 93 = .ok (.bipush 40, 2) := by decide +kernel
theorem dL_isDriven_95 : decode cL_isDriven 95 = .ok (.invokevirtual 59, 3) := by decide +kernel
theorem dL_isDriven_98 : decode cL_isDriven 98 = .ok (.istore_n 2, 1) := by decide +kernel
theorem dL_isDriven_99 : decode cL_isDriven 99 = .ok (.ldc_w 268, 3) := by decide +kernel
theorem dL_isDriven_102 : decode cL_isDriven 102 = .ok (.istore_n 3, 1) := by decide +kernel
theorem dL_isDriven_103 : decode cL_isDriven 103 = .ok (.iconst 0, 1) := by decide +kernel
theorem dL_isDriven_104 : decode cL_isDriven 104 = .ok (.istore 4, 2) := by decide +kernel
theorem dL_isDriven_106 : decode cL_isDriven 106 = .ok (.iconst 1, 1) := by decide +kernel
theorem dL_isDriven_107 : decode cL_isDriven 107 = .ok (.istore 5, 2) := by decide +kernel
theorem dL_isDriven_109 : decode cL_isDriven 109 = .ok (.iconst 0, 1) := by decide +kernel
theorem dL_isDriven_110 : decode cL_isDriven 110 = .ok (.istore 6, 2) := by decide +kernel
theorem dL_isDriven_112 : decode cL_isDriven 112 = .ok (.iload 6, 2) := by decide +kernel
theorem dL_isDriven_114 : decode cL_isDriven 114 = .ok (.iload_n 1, 1) := by decide +kernel
theorem dL_isDriven_115 : decode cL_isDriven 115 = .ok (.if_icmp .ge 16, 3) := by decide +kernel
theorem dL_isDriven_118 : decode cL_isDriven 118 = .ok (.iload 5, 2) := by decide +kernel
theorem dL_isDriven_120 : decode cL_isDriven 120 = .ok (.bipush 10, 2) := by decide +kernel
theorem dL_isDriven_122 : decode cL_isDriven 122 = .ok (.imul, 1) := by decide +kernel
theorem dL_isDriven_123 : decode cL_isDriven 123 = .ok (.istore 5, 2) := by decide +kernel
theorem dL_isDriven_125 : decode cL_isDriven 125 = .ok (.iinc 6 1, 3) := by decide +kernel
theorem dL_isDriven_128 : decode cL_isDriven 128 = .ok (.goto (-16), 3) := by decide +kernel
theorem dL_isDriven_131 : decode cL_isDriven 131 = .ok (.iconst 0, 1) := by decide +kernel
theorem dL_isDriven_132 : decode cL_isDriven 132 = .ok (.istore 6, 2) := by decide +kernel
theorem dL_isDriven_134 : decode cL_isDriven 134 = .ok (.iload 6, 2) := by decide +kernel
theorem dL_isDriven_136 : decode cL_isDriven 136 = .ok (.iload 5, 2) := by decide +kernel
theorem dL_isDriven_138 : decode cL_isDriven 138 = .ok (.if_icmp .ge 55, 3) := by decide +kernel
theorem dL_isDriven_141 : decode cL_isDriven 141 = .ok (.iload 6, 2) := by decide +kernel
theorem dL_isDriven_143 : decode cL_isDriven 143 = .ok (.iload_n 1, 1) := by decide +kernel
theorem dL_isDriven_144 : decode cL_isDriven 144 = .ok (.invokestatic 269, 3) := by decide +kernel
theorem dL_isDriven_147 : decode cL_isDriven 147 = .ok (.ifCond .ne 6, 3) := by decide +kernel
theorem dL_isDriven_150 : decode cL_isDriven 150 = .ok (.goto 37, 3) := by decide +kernel
theorem dL_isDriven_153 : decode cL_isDriven 153 = .ok (.aload_n 0, 1) := by decide +kernel
theorem dL_isDriven_154 : decode cL_isDriven 154 = .ok (.getfield 10, 3) := by decide +kernel
theorem dL_isDriven_157 : decode cL_isDriven 157 = .ok (.iload_n 2, 1) := by decide +kernel
theorem dL_isDriven_158 : decode cL_isDriven 158 = .ok (.iload 6, 2) := by decide +kernel
theorem dL_isDriven_160 : decode cL_isDriven 160 = .ok (.invokevirtual 273, 3) := by decide +kernel
theorem dL_isDriven_163 : decode cL_isDriven 163 = .ok (.istore 7, 2) := by decide +kernel
theorem dL_isDriven_165 : decode cL_isDriven 165 = .ok (.iload 7, 2) := by decide +kernel
theorem dL_isDriven_167 : decode cL_isDriven 167 = .ok (.iconst (-1), 1) := by decide +kernel
theorem dL_isDriven_168 : decode cL_isDriven 168 = .ok (.if_icmp .eq 19, 3) := by decide +kernel
theorem dL_isDriven_171 : decode cL_isDriven 171 = .ok (.iload 7, 2) := by decide +kernel
theorem dL_isDriven_173 : decode cL_isDriven 173 = .ok (.iload_n 3, 1) := by decide +kernel
theorem dL_isDriven_174 : decode cL_isDriven 174 = .ok (.if_icmp .lt 6, 3) := by decide +kernel
theorem dL_isDriven_177 : decode cL_isDriven 177 = .ok (.goto 10, 3) := by decide +kernel
theorem dL_isDriven_180 : decode cL_isDriven 180 = .ok (.iload 7, 2) := by decide +kernel
theorem dL_isDriven_182 : decode cL_isDriven 182 = .ok (.istore_n 3, 1) := by decide +kernel
theorem dL_isDriven_183 : decode cL_isDriven 183 = .ok (.iload 6, 2) := by decide +kernel
theorem dL_isDriven_185 : decode cL_isDriven 185 = .ok (.istore 4, 2) := by decide +kernel
theorem dL_isDriven_187 : decode cL_isDriven 187 = .ok (.iinc 6 1, 3) := by decide +kernel
theorem dL_isDriven_190 : decode cL_isDriven 190 = .ok (.goto (-56), 3) := by decide +kernel
theorem dL_isDriven_193 : decode cL_isDriven 193 = .ok (.iload_n 3, 1) := by decide +kernel
theorem dL_isDriven_194 : decode cL_isDriven 194 = .ok (.ldc_w 268, 3) := by decide +kernel
theorem dL_isDriven_197 : decode cL_isDriven 197 = .ok (.if_icmp .ne 12, 3) := by decide +kernel
theorem dL_isDriven_200 : decode cL_isDriven 200 = .ok (.aload_n 0, 1) := by decide +kernel
theorem dL_isDriven_201 : decode cL_isDriven 201 = .ok (.getfield 10, 3) := by decide +kernel
theorem dL_isDriven_204 : decode cL_isDriven 204 = .ok (.iload_n 2, 1) := by decide +kernel
theorem dL_isDriven_205 : decode cL_isDriven 205 = .ok (.invokestatic 276, 3) := by decide +kernel
theorem dL_isDriven_208 : decode cL_isDriven 208 = .ok (.ireturn, 1) := by decide +kernel
theorem dL_isDriven_209 : decode cL_isDriven 209 = .ok (.aload_n 0, 1) := by decide +kernel
theorem dL_isDriven_210 : decode cL_isDriven 210 = .ok (.getfield 10, 3) := by decide +kernel
theorem dL_isDriven_213 : decode cL_isDriven 213 = .ok (.iload_n 2, 1) := by decide +kernel
theorem dL_isDriven_214 : decode cL_isDriven 214 = .ok (.invokevirtual 280, 3) := by decide +kernel
theorem dL_isDriven_217 : decode cL_isDriven 217 = .ok (.iload_n 3, 1) := by decide +kernel
theorem dL_isDriven_218 : decode cL_isDriven 218 = .ok (.if_icmp .eq 5, 3) := by decide +kernel
theorem dL_isDriven_221 : decode cL_isDriven 221 = .ok (.iconst 0, 1) := by decide +kernel
theorem dL_isDriven_222 : decode cL_isDriven 222 = .ok (.ireturn, 1) := by decide +kernel
theorem dL_isDriven_223 : decode cL_isDriven 223 = .ok (.iconst 0, 1) := by decide +kernel
theorem dL_isDriven_224 : decode cL_isDriven 224 = .ok (.istore 6, 2) := by decide +kernel
theorem dL_isDriven_226 : decode cL_isDriven 226 = .ok (.iconst 0, 1) := by decide +kernel
theorem dL_isDriven_227 : decode cL_isDriven 227 = .ok (.istore 7, 2) := by decide +kernel
theorem dL_isDriven_229 : decode cL_isDriven 229 = .ok (.iload 7, 2) := by decide +kernel
theorem dL_isDriven_231 : decode cL_isDriven 231 = .ok (.iload_n 1, 1) := by decide +kernel
theorem dL_isDriven_232 : decode cL_isDriven 232 = .ok (.if_icmp .ge 27, 3) := by decide +kernel
theorem dL_isDriven_235 : decode cL_isDriven 235 = .ok (.bipush 10, 2) := by decide +kernel
theorem dL_isDriven_237 : decode cL_isDriven 237 = .ok (.iload 6, 2) := by decide +kernel
theorem dL_isDriven_239 : decode cL_isDriven 239 = .ok (.imul, 1) := by decide +kernel
theorem dL_isDriven_240 : decode cL_isDriven 240 = .ok (.aload_n 0, 1) := by decide +kernel
theorem dL_isDriven_241 : decode cL_isDriven 241 = .ok (.getfield 10, 3) := by decide +kernel
theorem dL_isDriven_244 : decode cL_isDriven 244 = .ok (.iload_n 2, 1) := by decide +kernel
theorem dL_isDriven_245 : decode cL_isDriven 245 = .ok (.iload 7, 2) := by decide +kernel
theorem dL_isDriven_247 : decode cL_isDriven 247 = .ok (.invokevirtual 283, 3) := by decide +kernel
theorem dL_isDriven_250 : decode cL_isDriven 250 = .ok (.iadd, 1) := by decide +kernel
theorem dL_isDriven_251 : decode cL_isDriven 251 = .ok (.istore 6, 2) := by decide +kernel
theorem dL_isDriven_253 : decode cL_isDriven 253 = .ok (.iinc 7 1, 3) := by decide +kernel
theorem dL_isDriven_256 : decode cL_isDriven 256 = .ok (.goto (-27), 3) := by decide +kernel
theorem dL_isDriven_259 : decode cL_isDriven 259 = .ok (.iload 6, 2) := by decide +kernel
theorem dL_isDriven_261 : decode cL_isDriven 261 = .ok (.iload 4, 2) := by decide +kernel
theorem dL_isDriven_263 : decode cL_isDriven 263 = .ok (.if_icmp .ne 7, 3) := by decide +kernel
theorem dL_isDriven_266 : decode cL_isDriven 266 = .ok (.iconst 1, 1) := by decide +kernel
theorem dL_isDriven_267 : decode cL_isDriven 267 = .ok (.goto 4, 3) := by decide +kernel
theorem dL_isDriven_270 : decode cL_isDriven 270 = .ok (.iconst 0, 1) := by decide +kernel
theorem dL_isDriven_271 : decode cL_isDriven 271 = .ok (.ireturn, 1) := by decide +kernel
theorem dL_hasNoWay_0 : decode cL_hasNoWay 0 = .ok (.aload_n 0, 1) := by decide +kernel
theorem dL_hasNoWay_1 : decode cL_hasNoWay 1 = .ok (.iload_n 1, 1) := by decide +kernel
theorem dL_hasNoWay_2 : decode cL_hasNoWay 2 = .ok (.invokevirtual 280, 3) := by decide +kernel
theorem dL_hasNoWay_5 : decode cL_hasNoWay 5 = .ok (.ifCond .ge 7, 3) := by decide +kernel
theorem dL_hasNoWay_8 : decode cL_hasNoWay 8 = .ok (.iconst 1, 1) := by decide +kernel
theorem dL_hasNoWay_9 : decode cL_hasNoWay 9 = .ok (.goto 4, 3) := by decide +kernel
theorem dL_hasNoWay_12 : decode cL_hasNoWay 12 = .ok (.iconst 0, 1) := by decide +kernel
theorem dL_hasNoWay_13 : decode cL_hasNoWay 13 = .ok (.ireturn, 1) := by decide +kernel
theorem dL_hasNoWay_14 : decode cL_hasNoWay 14 = .ok (.astore_n 2, 1) := by decide +kernel
theorem dL_hasNoWay_15 : decode cL_hasNoWay 15 = .ok (.iconst 1, 1) := by decide +kernel
theorem dL_hasNoWay_16 : decode cL_hasNoWay 16 = .ok (.ireturn, 1) := by decide +kernel
theorem dL_isRow_0 : decode cL_isRow 0 = .ok (.iconst 0, 1) := by decide +kernel
theorem dL_isRow_1 : decode cL_isRow 1 = .ok (.istore_n 2, 1) := by decide +kernel
theorem dL_isRow_2 : decode cL_isRow 2 = .ok (.iload_n 0, 1) := by decide +kernel
theorem dL_isRow_3 : decode cL_isRow 3 = .ok (.istore_n 3, 1) := by decide +kernel
theorem dL_isRow_4 : decode cL_isRow 4 = .ok (.iconst 0, 1) := by decide +kernel
theorem dL_isRow_5 : decode cL_isRow 5 = .ok (.istore 4, 2) := by decide +kernel
theorem dL_isRow_7 : decode cL_isRow 7 = .ok (.iload 4, 2) := by decide +kernel
theorem dL_isRow_9 : decode cL_isRow 9 = .ok (.iload_n 1, 1) := by decide +kernel
theorem dL_isRow_10 : decode cL_isRow 10 = .ok (.if_icmp .ge 31, 3) := by decide +kernel
theorem dL_isRow_13 : decode cL_isRow 13 = .ok (.iload_n 3, 1) := by decide +kernel
theorem dL_isRow_14 : decode cL_isRow 14 = .ok (.bipush 10, 2) := by decide +kernel
theorem dL_isRow_16 : decode cL_isRow 16 = .ok (.irem, 1) := by decide +kernel
theorem dL_isRow_17 : decode cL_isRow 17 = .ok (.iload_n 1, 1) := by decide +kernel
theorem dL_isRow_18 : decode cL_isRow 18 = .ok (.if_icmp .ge 12, 3) := by decide +kernel
theorem dL_isRow_21 : decode cL_isRow 21 = .ok (.iload_n 2, 1) := by decide +kernel
theorem dL_isRow_22 : decode cL_isRow 22 = .ok (.iconst 1, 1) := by decide +kernel
theorem dL_isRow_23 : decode cL_isRow 23 = .ok (.iload_n 3, 1) := by decide +kernel
theorem dL_isRow_24 : decode cL_isRow 24 = .ok (.bipush 10, 2) := by decide +kernel
theorem dL_isRow_26 : decode cL_isRow 26 = .ok (.irem, 1) := by decide +kernel
theorem dL_isRow_27 : decode cL_isRow 27 = .ok (.ishl, 1) := by decide +kernel
theorem dL_isRow_28 : decode cL_isRow 28 = .ok (.ior, 1) := by decide +kernel
theorem dL_isRow_29 : decode cL_isRow 29 = .ok (.istore_n 2, 1) := by decide +kernel
theorem dL_isRow_30 : decode cL_isRow 30 = .ok (.iload_n 3, 1) := by decide +kernel
theorem dL_isRow_31 : decode cL_isRow 31 = .ok (.bipush 10, 2) := by decide +kernel
theorem dL_isRow_33 : decode cL_isRow 33 = .ok (.idiv, 1) := by decide +kernel
theorem dL_isRow_34 : decode cL_isRow 34 = .ok (.istore_n 3, 1) := by decide +kernel
theorem dL_isRow_35 : decode cL_isRow 35 = .ok (.iinc 4 1, 3) := by decide +kernel
theorem dL_isRow_38 : decode cL_isRow 38 = .ok (.goto (-31), 3) := by decide +kernel
theorem dL_isRow_41 : decode cL_isRow 41 = .ok (.iload_n 2, 1) := by decide +kernel
theorem dL_isRow_42 : decode cL_isRow 42 = .ok (.iconst 1, 1) := by decide +kernel
theorem dL_isRow_43 : decode cL_isRow 43 = .ok (.iload_n 1, 1) := by decide +kernel
theorem dL_isRow_44 : decode cL_isRow 44 = .ok (.ishl, 1) := by decide +kernel
theorem dL_isRow_45 : decode cL_isRow 45 = .ok (.iconst 1, 1) := by decide +kernel
theorem dL_isRow_46 : decode cL_isRow 46 = .ok (.isub, 1) := by decide +kernel
theorem dL_isRow_47 : decode cL_isRow 47 = .ok (.if_icmp .ne 7, 3) := by decide +kernel
theorem dL_isRow_50 : decode cL_isRow 50 = .ok (.iconst 1, 1) := by decide +kernel
theorem dL_isRow_51 : decode cL_isRow 51 = .ok (.goto 4, 3) := by decide +kernel
theorem dL_isRow_54 : decode cL_isRow 54 = .ok (.iconst 0, 1) := by decide +kernel
theorem dL_isRow_55 : decode cL_isRow 55 = .ok (.ireturn, 1) := by decide +kernel
theorem dL_price_0 : decode cL_price 0 = .ok (.iconst 0, 1) := by decide +kernel
theorem dL_price_1 : decode cL_price 1 = .ok (.istore_n 3, 1) := by decide +kernel
theorem dL_price_2 : decode cL_price 2 = .ok (.iconst 0, 1) := by decide +kernel
theorem dL_price_3 : decode cL_price 3 = .ok (.istore 4, 2) := by decide +kernel
theorem dL_price_5 : decode cL_price 5 = .ok (.iload 4, 2) := by decide +kernel
theorem dL_price_7 : decode cL_price 7 = .ok (.iconst 4, 1) := by decide +kernel
theorem dL_price_8 : decode cL_price 8 = .ok (.if_icmp .ge 47, 3) := by decide +kernel
theorem dL_price_11 : decode cL_price 11 = .ok (.aload_n 0, 1) := by decide +kernel
theorem dL_price_12 : decode cL_price 12 = .ok (.getfield 26, 3) := by decide +kernel
theorem dL_price_15 : decode cL_price 15 = .ok (.iload_n 1, 1) := by decide +kernel
theorem dL_price_16 : decode cL_price 16 = .ok (.iaload, 1) := by decide +kernel
theorem dL_price_17 : decode cL_price 17 = .ok (.iload 4, 2) := by decide +kernel
theorem dL_price_19 : decode cL_price 19 = .ok (.ishr, 1) := by decide +kernel
theorem dL_price_20 : decode cL_price 20 = .ok (.iconst 1, 1) := by decide +kernel
theorem dL_price_21 : decode cL_price 21 = .ok (.iand, 1) := by decide +kernel
theorem dL_price_22 : decode cL_price 22 = .ok (.iconst 1, 1) := by decide +kernel
theorem dL_price_23 : decode cL_price 23 = .ok (.if_icmp .ne 26, 3) := by decide +kernel
theorem dL_price_26 : decode cL_price 26 = .ok (.aload_n 0, 1) := by decide +kernel
theorem dL_price_27 : decode cL_price 27 = .ok (.getfield 26, 3) := by decide +kernel
theorem dL_price_30 : decode cL_price 30 = .ok (.iload_n 2, 1) := by decide +kernel
theorem dL_price_31 : decode cL_price 31 = .ok (.iaload, 1) := by decide +kernel
theorem dL_price_32 : decode cL_price 32 = .ok (.iload 4, 2) := by decide +kernel
theorem dL_price_34 : decode cL_price 34 = .ok (.ishr, 1) := by decide +kernel
theorem dL_price_35 : decode cL_price 35 = .ok (.iconst 1, 1) := by decide +kernel
theorem dL_price_36 : decode cL_price 36 = .ok (.iand, 1) := by decide +kernel
theorem dL_price_37 : decode cL_price 37 = .ok (.ifCond .ne 12, 3) := by decide +kernel
theorem dL_price_40 : decode cL_price 40 = .ok (.iload_n 3, 1) := by decide +kernel
theorem dL_price_41 : decode cL_price 41 = .ok (.getstatic 286, 3) := by decide +kernel
theorem dL_price_44 : decode cL_price 44 = .ok (.iload 4, 2) := by decide +kernel
theorem dL_price_46 : decode cL_price 46 = .ok (.iaload, 1) := by decide +kernel
theorem dL_price_47 : decode cL_price 47 = .ok (.iadd, 1) := by decide +kernel
theorem dL_price_48 : decode cL_price 48 = .ok (.istore_n 3, 1) := by decide +kernel
theorem dL_price_49 : decode cL_price 49 = .ok (.iinc 4 1, 3) := by decide +kernel
theorem dL_price_52 : decode cL_price 52 = .ok (.goto (-47), 3) := by decide +kernel
theorem dL_price_55 : decode cL_price 55 = .ok (.iload_n 3, 1) := by decide +kernel
theorem dL_price_56 : decode cL_price 56 = .ok (.ireturn, 1) := by decide +kernel
theorem dL_cheapest_0 : decode cL_cheapest 0 = .ok (.ldc_w 268, 3) := by decide +kernel
theorem dL_cheapest_3 : decode cL_cheapest 3 = .ok (.istore_n 3, 1) := by decide +kernel
theorem dL_cheapest_4 : decode cL_cheapest 4 = .ok (.iconst 0, 1) := by decide +kernel
theorem dL_cheapest_5 : decode cL_cheapest 5 = .ok (.istore 4, 2) := by decide +kernel
theorem dL_cheapest_7 : decode cL_cheapest 7 = .ok (.iload 4, 2) := by decide +kernel
theorem dL_cheapest_9 : decode cL_cheapest 9 = .ok (.aload_n 0, 1) := by decide +kernel
theorem dL_cheapest_10 : decode cL_cheapest 10 = .ok (.getfield 62, 3) := by decide +kernel
theorem dL_cheapest_13 : decode cL_cheapest 13 = .ok (.if_icmp .ge 54, 3) := by decide +kernel
theorem dL_cheapest_16 : decode cL_cheapest 16 = .ok (.iload_n 1, 1) := by decide +kernel
theorem dL_cheapest_17 : decode cL_cheapest 17 = .ok (.iload 4, 2) := by decide +kernel
theorem dL_cheapest_19 : decode cL_cheapest 19 = .ok (.ishr, 1) := by decide +kernel
theorem dL_cheapest_20 : decode cL_cheapest 20 = .ok (.iconst 1, 1) := by decide +kernel
theorem dL_cheapest_21 : decode cL_cheapest 21 = .ok (.iand, 1) := by decide +kernel
theorem dL_cheapest_22 : decode cL_cheapest 22 = .ok (.iconst 1, 1) := by decide +kernel
theorem dL_cheapest_23 : decode cL_cheapest 23 = .ok (.if_icmp .ne 38, 3) := by decide +kernel
theorem dL_cheapest_26 : decode cL_cheapest 26 = .ok (.iload_n 3, 1) := by decide +kernel
theorem dL_cheapest_27 : decode cL_cheapest 27 = .ok (.iload_n 2, 1) := by decide +kernel
theorem dL_cheapest_28 : decode cL_cheapest 28 = .ok (.ifCond .ge 7, 3) := by decide +kernel
theorem dL_cheapest_31 : decode cL_cheapest 31 = .ok (.iconst 0, 1) := by decide +kernel
theorem dL_cheapest_32 : decode cL_cheapest 32 = .ok (.goto 10, 3) := by decide +kernel
theorem dL_cheapest_35 : decode cL_cheapest 35 = .ok (.aload_n 0, 1) := by decide +kernel
theorem dL_cheapest_36 : decode cL_cheapest 36 = .ok (.iload_n 2, 1) := by decide +kernel
theorem dL_cheapest_37 : decode cL_cheapest 37 = .ok (.iload 4, 2) := by decide +kernel
theorem dL_cheapest_39 : decode cL_cheapest 39 = .ok (.invokevirtual 289, 3) := by decide +kernel
theorem dL_cheapest_42 : decode cL_cheapest 42 = .ok (.aload_n 0, 1) := by decide +kernel
theorem dL_cheapest_43 : decode cL_cheapest 43 = .ok (.iload_n 1, 1) := by decide +kernel
theorem dL_cheapest_44 : decode cL_cheapest 44 = .ok (.iconst 1, 1) := by decide +kernel
theorem dL_cheapest_45 : decode cL_cheapest 45 = .ok (.iload 4, 2) := by decide +kernel
theorem dL_cheapest_47 : decode cL_cheapest 47 = .ok (.ishl, 1) := by decide +kernel
theorem dL_cheapest_48 : decode cL_cheapest 48 = .ok (.iconst (-1), 1) := by decide +kernel
theorem dL_cheapest_49 : decode cL_cheapest 49 = .ok (.ixor, 1) := by decide +kernel
theorem dL_cheapest_50 : decode cL_cheapest 50 = .ok (.iand, 1) := by decide +kernel
theorem dL_cheapest_51 : decode cL_cheapest 51 = .ok (.iload 4, 2) := by decide +kernel
theorem dL_cheapest_53 : decode cL_cheapest 53 = .ok (.invokevirtual 292, 3) := by decide +kernel
theorem dL_cheapest_56 : decode cL_cheapest 56 = .ok (.iadd, 1) := by decide +kernel
theorem dL_cheapest_57 : decode cL_cheapest 57 = .ok (.invokestatic 206, 3) := by decide +kernel
theorem dL_cheapest_60 : decode cL_cheapest 60 = .ok (.istore_n 3, 1) := by decide +kernel
theorem dL_cheapest_61 : decode cL_cheapest 61 = .ok (.iinc 4 1, 3) := by decide +kernel
theorem dL_cheapest_64 : decode cL_cheapest 64 = .ok (.goto (-57), 3) := by decide +kernel
theorem dL_cheapest_67 : decode cL_cheapest 67 = .ok (.iload_n 1, 1) := by decide +kernel
theorem dL_cheapest_68 : decode cL_cheapest 68 = .ok (.ifCond .ne 7, 3) := by decide +kernel
theorem dL_cheapest_71 : decode cL_cheapest 71 = .ok (.iconst 0, 1) := by decide +kernel
theorem dL_cheapest_72 : decode cL_cheapest 72 = .ok (.goto 4, 3) := by decide +kernel
theorem dL_cheapest_75 : decode cL_cheapest 75 = .ok (.iload_n 3, 1) := by decide +kernel
theorem dL_cheapest_76 : decode cL_cheapest 76 = .ok (.ireturn, 1) := by decide +kernel
theorem dL_isClean_0 : decode cL_isClean 0 = .ok (.iconst 1, 1) := by decide +kernel
theorem dL_isClean_1 : decode cL_isClean 1 = .ok (.aload_n 0, 1) := by decide +kernel
theorem dL_isClean_2 : decode cL_isClean 2 = .ok (.getfield 34, 3) := by decide +kernel
theorem dL_isClean_5 : decode cL_isClean 5 = .ok (.iconst 1, 1) := by decide +kernel
theorem dL_isClean_6 : decode cL_isClean 6 = .ok (.aload_n 0, 1) := by decide +kernel
theorem dL_isClean_7 : decode cL_isClean 7 = .ok (.getfield 62, 3) := by decide +kernel
theorem dL_isClean_10 : decode cL_isClean 10 = .ok (.ishl, 1) := by decide +kernel
theorem dL_isClean_11 : decode cL_isClean 11 = .ok (.iconst 1, 1) := by decide +kernel
theorem dL_isClean_12 : decode cL_isClean 12 = .ok (.isub, 1) := by decide +kernel
theorem dL_isClean_13 : decode cL_isClean 13 = .ok (.invokevirtual 59, 3) := by decide +kernel
theorem dL_isClean_16 : decode cL_isClean 16 = .ok (.iadd, 1) := by decide +kernel
theorem dL_isClean_17 : decode cL_isClean 17 = .ok (.istore_n 1, 1) := by decide +kernel
theorem dL_isClean_18 : decode cL_isClean 18 = .ok (.aload_n 0, 1) := by decide +kernel
theorem dL_isClean_19 : decode cL_isClean 19 = .ok (.getfield 10, 3) := by decide +kernel
theorem dL_isClean_22 : decode cL_isClean 22 = .ok (.iload_n 1, 1) := by decide +kernel
theorem dL_isClean_23 : decode cL_isClean 23 = .ok (.invokevirtual 295, 3) := by decide +kernel
theorem dL_isClean_26 : decode cL_isClean 26 = .ok (.istore_n 2, 1) := by decide +kernel
theorem dL_isClean_27 : decode cL_isClean 27 = .ok (.iconst 0, 1) := by decide +kernel
theorem dL_isClean_28 : decode cL_isClean 28 = .ok (.istore_n 3, 1) := by decide +kernel
theorem dL_isClean_29 : decode cL_isClean 29 = .ok (.iconst 0, 1) := by decide +kernel
theorem dL_isClean_30 : decode cL_isClean 30 = .ok (.istore 4, 2) := by decide +kernel
theorem dL_isClean_32 : decode cL_isClean 32 = .ok (.iconst (-1), 1) := by decide +kernel
theorem dL_isClean_33 : decode cL_isClean 33 = .ok (.istore 5, 2) := by decide +kernel
theorem dL_isClean_35 : decode cL_isClean 35 = .ok (.iconst 0, 1) := by decide +kernel
theorem dL_isClean_36 : decode cL_isClean 36 = .ok (.istore 6, 2) := by decide +kernel
theorem dL_isClean_38 : decode cL_isClean 38 = .ok (.iload 4, 2) := by decide +kernel
theorem dL_isClean_40 : decode cL_isClean 40 = .ok (.iload_n 1, 1) := by decide +kernel
theorem dL_isClean_41 : decode cL_isClean 41 = .ok (.if_icmp .eq 76, 3) := by decide +kernel
theorem dL_isClean_44 : decode cL_isClean 44 = .ok (.aload_n 0, 1) := by decide +kernel
theorem dL_isClean_45 : decode cL_isClean 45 = .ok (.getfield 10, 3) := by decide +kernel
theorem dL_isClean_48 : decode cL_isClean 48 = .ok (.iload_n 1, 1) := by decide +kernel
theorem dL_isClean_49 : decode cL_isClean 49 = .ok (.iload 6, 2) := by decide +kernel
theorem dL_isClean_51 : decode cL_isClean 51 = .ok (.invokevirtual 298, 3) := by decide +kernel
theorem dL_isClean_54 : decode cL_isClean 54 = .ok (.istore 7, 2) := by decide +kernel
theorem dL_isClean_56 : decode cL_isClean 56 = .ok (.iload_n 1, 1) := by decide +kernel
theorem dL_isClean_57 : decode cL_isClean 57 = .ok (.iload 7, 2) := by decide +kernel
theorem dL_isClean_59 : decode cL_isClean 59 = .ok (.ishr, 1) := by decide +kernel
theorem dL_isClean_60 : decode cL_isClean 60 = .ok (.iconst 1, 1) := by decide +kernel
theorem dL_isClean_61 : decode cL_isClean 61 = .ok (.iand, 1) := by decide +kernel
theorem dL_isClean_62 : decode cL_isClean 62 = .ok (.ifCond .eq 14, 3) := by decide +kernel
theorem dL_isClean_65 : decode cL_isClean 65 = .ok (.iload 4, 2) := by decide +kernel
theorem dL_isClean_67 : decode cL_isClean 67 = .ok (.iload 7, 2) := by decide +kernel
theorem dL_isClean_69 : decode cL_isClean 69 = .ok (.ishr, 1) := by decide +kernel
theorem dL_isClean_70 : decode cL_isClean 70 = .ok (.iconst 1, 1) := by decide +kernel
theorem dL_isClean_71 : decode cL_isClean 71 = .ok (.iand, 1) := by decide +kernel
theorem dL_isClean_72 : decode cL_isClean 72 = .ok (.iconst 1, 1) := by decide +kernel
theorem dL_isClean_73 : decode cL_isClean 73 = .ok (.if_icmp .ne 5, 3) := by decide +kernel
theorem dL_isClean_76 : decode cL_isClean 76 = .ok (.iconst 0, 1) := by decide +kernel
theorem dL_isClean_77 : decode cL_isClean 77 = .ok (.ireturn, 1) := by decide +kernel
theorem dL_isClean_78 : decode cL_isClean 78 = .ok (.iload_n 3, 1) := by decide +kernel
theorem dL_isClean_79 : decode cL_isClean 79 = .ok (.iload 5, 2) := by decide +kernel
theorem dL_isClean_81 : decode cL_isClean 81 = .ok (.ifCond .ge 7, 3) := by decide +kernel
theorem dL_isClean_84 : decode cL_isClean 84 = .ok (.iconst 0, 1) := by decide +kernel
theorem dL_isClean_85 : decode cL_isClean 85 = .ok (.goto 11, 3) := by decide +kernel
theorem dL_isClean_88 : decode cL_isClean 88 = .ok (.aload_n 0, 1) := by decide +kernel
theorem dL_isClean_89 : decode cL_isClean 89 = .ok (.iload 5, 2) := by decide +kernel
theorem dL_isClean_91 : decode cL_isClean 91 = .ok (.iload 7, 2) := by decide +kernel
theorem dL_isClean_93 : decode cL_isClean 93 = .ok (.invokevirtual 289, 3) := by decide +kernel
theorem dL_isClean_96 : decode cL_isClean 96 = .ok (.iadd, 1) := by decide +kernel
theorem dL_isClean_97 : decode cL_isClean 97 = .ok (.istore_n 3, 1) := by decide +kernel
theorem dL_isClean_98 : decode cL_isClean 98 = .ok (.iload 4, 2) := by decide +kernel
theorem dL_isClean_100 : decode cL_isClean 100 = .ok (.iconst 1, 1) := by decide +kernel
theorem dL_isClean_101 : decode cL_isClean 101 = .ok (.iload 7, 2) := by decide +kernel
theorem dL_isClean_103 : decode cL_isClean 103 = .ok (.ishl, 1) := by decide +kernel
theorem dL_isClean_104 : decode cL_isClean 104 = .ok (.ior, 1) := by decide +kernel
theorem dL_isClean_105 : decode cL_isClean 105 = .ok (.istore 4, 2) := by decide +kernel
theorem dL_isClean_107 : decode cL_isClean 107 = .ok (.iload 7, 2) := by decide +kernel
theorem dL_isClean_109 : decode cL_isClean 109 = .ok (.istore 5, 2) := by decide +kernel
theorem dL_isClean_111 : decode cL_isClean 111 = .ok (.iinc 6 1, 3) := by decide +kernel
theorem dL_isClean_114 : decode cL_isClean 114 = .ok (.goto (-76), 3) := by decide +kernel
theorem dL_isClean_117 : decode cL_isClean 117 = .ok (.iload_n 3, 1) := by decide +kernel
theorem dL_isClean_118 : decode cL_isClean 118 = .ok (.iload_n 2, 1) := by decide +kernel
theorem dL_isClean_119 : decode cL_isClean 119 = .ok (.if_icmp .ne 28, 3) := by decide +kernel
theorem dL_isClean_122 : decode cL_isClean 122 = .ok (.iload_n 2, 1) := by decide +kernel
theorem dL_isClean_123 : decode cL_isClean 123 = .ok (.aload_n 0, 1) := by decide +kernel
theorem dL_isClean_124 : decode cL_isClean 124 = .ok (.iload_n 1, 1) := by decide +kernel
theorem dL_isClean_125 : decode cL_isClean 125 = .ok (.iconst (-1), 1) := by decide +kernel
theorem dL_isClean_126 : decode cL_isClean 126 = .ok (.invokevirtual 292, 3) := by decide +kernel
theorem dL_isClean_129 : decode cL_isClean 129 = .ok (.if_icmp .ne 18, 3) := by decide +kernel
theorem dL_isClean_132 : decode cL_isClean 132 = .ok (.aload_n 0, 1) := by decide +kernel
theorem dL_isClean_133 : decode cL_isClean 133 = .ok (.getfield 10, 3) := by decide +kernel
theorem dL_isClean_136 : decode cL_isClean 136 = .ok (.iconst 0, 1) := by decide +kernel
theorem dL_isClean_137 : decode cL_isClean 137 = .ok (.invokevirtual 295, 3) := by decide +kernel
theorem dL_isClean_140 : decode cL_isClean 140 = .ok (.ifCond .ne 7, 3) := by decide +kernel
theorem dL_isClean_143 : decode cL_isClean 143 = .ok (.iconst 1, 1) := by decide +kernel
theorem dL_isClean_144 : decode cL_isClean 144 = .ok (.goto 4, 3) := by decide +kernel
theorem dL_isClean_147 : decode cL_isClean 147 = .ok (.iconst 0, 1) := by decide +kernel
theorem dL_isClean_148 : decode cL_isClean 148 = .ok (.ireturn, 1) := by decide +kernel
