theorem dX0_init_0 : decode cX0_init 0 = .ok (.aload_n 0, 1) := by decide +kernel
theorem dX0_init_1 : decode cX0_init 1 = .ok (.invokespecial 3, 3) := by decide +kernel
theorem dX0_init_4 : decode cX0_init 4 = .ok (.aload_n 0, 1) := by decide +kernel
theorem dX0_init_5 : decode cX0_init 5 = .ok (.bipush 24, 2) := by decide +kernel
theorem dX0_init_7 : decode cX0_init 7 = .ok (.newarray .int, 2) := by decide +kernel
theorem dX0_init_9 : decode cX0_init 9 = .ok (.putfield 11, 3) := by decide +kernel
theorem dX0_init_12 : decode cX0_init 12 = .ok (.return_, 1) := by decide +kernel
theorem dX0_from_0 : decode cX0_from 0 = .ok (.iconst 0, 1) := by decide +kernel
theorem dX0_from_1 : decode cX0_from 1 = .ok (.istore_n 3, 1) := by decide +kernel
theorem dX0_from_2 : decode cX0_from 2 = .ok (.iload_n 2, 1) := by decide +kernel
theorem dX0_from_3 : decode cX0_from 3 = .ok (.istore 4, 2) := by decide +kernel
theorem dX0_from_5 : decode cX0_from 5 = .ok (.iload 4, 2) := by decide +kernel
theorem dX0_from_7 : decode cX0_from 7 = .ok (.iconst 4, 1) := by decide +kernel
theorem dX0_from_8 : decode cX0_from 8 = .ok (.if_icmp .ge 23, 3) := by decide +kernel
theorem dX0_from_11 : decode cX0_from 11 = .ok (.iload_n 3, 1) := by decide +kernel
theorem dX0_from_12 : decode cX0_from 12 = .ok (.aload_n 0, 1) := by decide +kernel
theorem dX0_from_13 : decode cX0_from 13 = .ok (.getfield 11, 3) := by decide +kernel
theorem dX0_from_16 : decode cX0_from 16 = .ok (.iload_n 1, 1) := by decide +kernel
theorem dX0_from_17 : decode cX0_from 17 = .ok (.iconst 4, 1) := by decide +kernel
theorem dX0_from_18 : decode cX0_from 18 = .ok (.imul, 1) := by decide +kernel
theorem dX0_from_19 : decode cX0_from 19 = .ok (.iload 4, 2) := by decide +kernel
theorem dX0_from_21 : decode cX0_from 21 = .ok (.iadd, 1) := by decide +kernel
theorem dX0_from_22 : decode cX0_from 22 = .ok (.iaload, 1) := by decide +kernel
theorem dX0_from_23 : decode cX0_from 23 = .ok (.iadd, 1) := by decide +kernel
theorem dX0_from_24 : decode cX0_from 24 = .ok (.istore_n 3, 1) := by decide +kernel
theorem dX0_from_25 : decode cX0_from 25 = .ok (.iinc 4 1, 3) := by decide +kernel
theorem dX0_from_28 : decode cX0_from 28 = .ok (.goto (-23), 3) := by decide +kernel
theorem dX0_from_31 : decode cX0_from 31 = .ok (.iload_n 3, 1) := by decide +kernel
theorem dX0_from_32 : decode cX0_from 32 = .ok (.ireturn, 1) := by decide +kernel
theorem dX0_growOlder_0 : decode cX0_growOlder 0 = .ok (.iload_n 1, 1) := by decide +kernel
theorem dX0_growOlder_1 : decode cX0_growOlder 1 = .ok (.iconst 4, 1) := by decide +kernel
theorem dX0_growOlder_2 : decode cX0_growOlder 2 = .ok (.imul, 1) := by decide +kernel
theorem dX0_growOlder_3 : decode cX0_growOlder 3 = .ok (.istore_n 2, 1) := by decide +kernel
theorem dX0_growOlder_4 : decode cX0_growOlder 4 = .ok (.aload_n 0, 1) := by decide +kernel
theorem dX0_growOlder_5 : decode cX0_growOlder 5 = .ok (.getfield 11, 3) := by decide +kernel
theorem dX0_growOlder_8 : decode cX0_growOlder 8 = .ok (.iload_n 2, 1) := by decide +kernel
theorem dX0_growOlder_9 : decode cX0_growOlder 9 = .ok (.iconst 4, 1) := by decide +kernel
theorem dX0_growOlder_10 : decode cX0_growOlder 10 = .ok (.iadd, 1) := by decide +kernel
theorem dX0_growOlder_11 : decode cX0_growOlder 11 = .ok (.iconst 1, 1) := by decide +kernel
theorem dX0_growOlder_12 : decode cX0_growOlder 12 = .ok (.isub, 1) := by decide +kernel
theorem dX0_growOlder_13 : decode cX0_growOlder 13 = .ok (.iaload, 1) := by decide +kernel
theorem dX0_growOlder_14 : decode cX0_growOlder 14 = .ok (.istore_n 3, 1) := by decide +kernel
theorem dX0_growOlder_15 : decode cX0_growOlder 15 = .ok (.iconst 3, 1) := by decide +kernel
theorem dX0_growOlder_16 : decode cX0_growOlder 16 = .ok (.istore 4, 2) := by decide +kernel
theorem dX0_growOlder_18 : decode cX0_growOlder 18 = .ok (.iload 4, 2) := by decide +kernel
theorem dX0_growOlder_20 : decode cX0_growOlder 20 = .ok (.ifCond .le 29, 3) := by decide +kernel
theorem dX0_growOlder_23 : decode cX0_growOlder 23 = .ok (.aload_n 0, 1) := by decide +kernel
theorem dX0_growOlder_24 : decode cX0_growOlder 24 = .ok (.getfield 11, 3) := by decide +kernel
theorem dX0_growOlder_27 : decode cX0_growOlder 27 = .ok (.iload_n 2, 1) := by decide +kernel
theorem dX0_growOlder_28 : decode cX0_growOlder 28 = .ok (.iload 4, 2) := by decide +kernel
theorem dX0_growOlder_30 : decode cX0_growOlder 30 = .ok (.iadd, 1) := by decide +kernel
theorem dX0_growOlder_31 : decode cX0_growOlder 31 = .ok (.aload_n 0, 1) := by decide +kernel
theorem dX0_growOlder_32 : decode cX0_growOlder 32 = .ok (.getfield 11, 3) := by decide +kernel
theorem dX0_growOlder_35 : decode cX0_growOlder 35 = .ok (.iload_n 2, 1) := by decide +kernel
theorem dX0_growOlder_36 : decode cX0_growOlder 36 = .ok (.iload 4, 2) := by decide +kernel
theorem dX0_growOlder_38 : decode cX0_growOlder 38 = .ok (.iadd, 1) := by decide +kernel
theorem dX0_growOlder_39 : decode cX0_growOlder 39 = .ok (.iconst 1, 1) := by decide +kernel
theorem dX0_growOlder_40 : decode cX0_growOlder 40 = .ok (.isub, 1) := by decide +kernel
theorem dX0_growOlder_41 : decode cX0_growOlder 41 = .ok (.iaload, 1) := by decide +kernel
theorem dX0_growOlder_42 : decode cX0_growOlder 42 = .ok (.iastore, 1) := by decide +kernel
theorem dX0_growOlder_43 : decode cX0_growOlder 43 = .ok (.iinc 4 (-1), 3) := by decide +kernel
theorem dX0_growOlder_46 : decode cX0_growOlder 46 = .ok (.goto (-28), 3) := by decide +kernel
theorem dX0_growOlder_49 : decode cX0_growOlder 49 = .ok (.aload_n 0, 1) := by decide +kernel
theorem dX0_growOlder_50 : decode cX0_growOlder 50 = .ok (.getfield 11, 3) := by decide +kernel
theorem dX0_growOlder_53 : decode cX0_growOlder 53 = .ok (.iload_n 2, 1) := by decide +kernel
theorem dX0_growOlder_54 : decode cX0_growOlder 54 = .ok (.iconst 0, 1) := by decide +kernel
theorem dX0_growOlder_55 : decode cX0_growOlder 55 = .ok (.iastore, 1) := by decide +kernel
theorem dX0_growOlder_56 : decode cX0_growOlder 56 = .ok (.iload_n 3, 1) := by decide +kernel
theorem dX0_growOlder_57 : decode cX0_growOlder 57 = .ok (.ireturn, 1) := by decide +kernel
theorem dX0_takeOldest_0 : decode cX0_takeOldest 0 = .ok (.iconst (-1), 1) := by decide +kernel
theorem dX0_takeOldest_1 : decode cX0_takeOldest 1 = .ok (.istore_n 3, 1) := by decide +kernel
theorem dX0_takeOldest_2 : decode cX0_takeOldest 2 = .ok (.iload_n 2, 1) := by decide +kernel
theorem dX0_takeOldest_3 : decode cX0_takeOldest 3 = .ok (.istore 4, 2) := by decide +kernel
theorem dX0_takeOldest_5 : decode cX0_takeOldest 5 = .ok (.iconst 3, 1) := by decide +kernel
theorem dX0_takeOldest_6 : decode cX0_takeOldest 6 = .ok (.istore 5, 2) := by decide +kernel
theorem dX0_takeOldest_8 : decode cX0_takeOldest 8 = .ok (.iload 5, 2) := by decide +kernel
theorem dX0_takeOldest_10 : decode cX0_takeOldest 10 = .ok (.ifCond .lt 68, 3) := by decide +kernel
theorem dX0_takeOldest_13 : decode cX0_takeOldest 13 = .ok (.iload 4, 2) := by decide +kernel
theorem dX0_takeOldest_15 : decode cX0_takeOldest 15 = .ok (.ifCond .le 63, 3) := by decide +kernel
theorem dX0_takeOldest_18 : decode cX0_takeOldest 18 = .ok (.iload 4, 2) := by decide +kernel
theorem dX0_takeOldest_20 : decode cX0_takeOldest 20 = .ok (.aload_n 0, 1) := by decide +kernel
theorem dX0_takeOldest_21 : decode cX0_takeOldest 21 = .ok (.getfield 11, 3) := by decide +kernel
theorem dX0_takeOldest_24 : decode cX0_takeOldest 24 = .ok (.iload_n 1, 1) := by decide +kernel
theorem dX0_takeOldest_25 : decode cX0_takeOldest 25 = .ok (.iconst 4, 1) := by decide +kernel
theorem dX0_takeOldest_26 : decode cX0_takeOldest 26 = .ok (.imul, 1) := by decide +kernel
theorem dX0_takeOldest_27 : decode cX0_takeOldest 27 = .ok (.iload 5, 2) := by decide +kernel
theorem dX0_takeOldest_29 : decode cX0_takeOldest 29 = .ok (.iadd, 1) := by decide +kernel
theorem dX0_takeOldest_30 : decode cX0_takeOldest 30 = .ok (.iaload, 1) := by decide +kernel
theorem dX0_takeOldest_31 : decode cX0_takeOldest 31 = .ok (.invokestatic 15, 3) := by decide +kernel
theorem dX0_takeOldest_34 : decode cX0_takeOldest 34 = .ok (.istore 6, 2) := by decide +kernel
theorem dX0_takeOldest_36 : decode cX0_takeOldest 36 = .ok (.aload_n 0, 1) := by decide +kernel
theorem dX0_takeOldest_37 : decode cX0_takeOldest 37 = .ok (.getfield 11, 3) := by decide +kernel
theorem dX0_takeOldest_40 : decode cX0_takeOldest 40 = .ok (.iload_n 1, 1) := by decide +kernel
theorem dX0_takeOldest_41 : decode cX0_takeOldest 41 = .ok (.iconst 4, 1) := by decide +kernel
theorem dX0_takeOldest_42 : decode cX0_takeOldest 42 = .ok (.imul, 1) := by decide +kernel
theorem dX0_takeOldest_43 : decode cX0_takeOldest 43 = .ok (.iload 5, 2) := by decide +kernel
theorem dX0_takeOldest_45 : decode cX0_takeOldest 45 = .ok (.iadd, 1) := by decide +kernel
theorem dX0_takeOldest_46 : decode cX0_takeOldest 46 = .ok (.dup2, 1) := by decide +kernel
theorem dX0_takeOldest_47 : decode cX0_takeOldest 47 = .ok (.iaload, 1) := by decide +kernel
theorem dX0_takeOldest_48 : decode cX0_takeOldest 48 = .ok (.iload 6, 2) := by decide +kernel
theorem dX0_takeOldest_50 : decode cX0_takeOldest 50 = .ok (.isub, 1) := by decide +kernel
theorem dX0_takeOldest_51 : decode cX0_takeOldest 51 = .ok (.iastore, 1) := by decide +kernel
theorem dX0_takeOldest_52 : decode cX0_takeOldest 52 = .ok (.iload 4, 2) := by decide +kernel
theorem dX0_takeOldest_54 : decode cX0_takeOldest 54 = .ok (.iload 6, 2) := by decide +kernel
theorem dX0_takeOldest_56 : decode cX0_takeOldest 56 = .ok (.isub, 1) := by decide +kernel
theorem dX0_takeOldest_57 : decode cX0_takeOldest 57 = .ok (.istore 4, 2) := by decide +kernel
theorem dX0_takeOldest_59 : decode cX0_takeOldest 59 = .ok (.iload 6, 2) := by decide +kernel
theorem dX0_takeOldest_61 : decode cX0_takeOldest 61 = .ok (.ifCond .le 11, 3) := by decide +kernel
theorem dX0_takeOldest_64 : decode cX0_takeOldest 64 = .ok (.iload_n 3, 1) := by decide +kernel
theorem dX0_takeOldest_65 : decode cX0_takeOldest 65 = .ok (.iconst (-1), 1) := by decide +kernel
theorem dX0_takeOldest_66 : decode cX0_takeOldest 66 = .ok (.if_icmp .ne 6, 3) := by decide +kernel
theorem dX0_takeOldest_69 : decode cX0_takeOldest 69 = .ok (.iload 5, 2) := by decide +kernel
theorem dX0_takeOldest_71 : decode cX0_takeOldest 71 = .ok (.istore_n 3, 1) := by decide +kernel
theorem dX0_takeOldest_72 : decode cX0_takeOldest 72 = .ok (.iinc 5 (-1), 3) := by decide +kernel
theorem dX0_takeOldest_75 : decode cX0_takeOldest 75 = .ok (.goto (-67), 3) := by decide +kernel
theorem dX0_takeOldest_78 : decode cX0_takeOldest 78 = .ok (.iload_n 3, 1) := by decide +kernel
theorem dX0_takeOldest_79 : decode cX0_takeOldest 79 = .ok (.ireturn, 1) := by decide +kernel
theorem dX0_save_0 : decode cX0_save 0 = .ok (.aload_n 0, 1) := by decide +kernel
theorem dX0_save_1 : decode cX0_save 1 = .ok (.getfield 11, 3) := by decide +kernel
theorem dX0_save_4 : decode cX0_save 4 = .ok (.iconst 0, 1) := by decide +kernel
theorem dX0_save_5 : decode cX0_save 5 = .ok (.aload_n 1, 1) := by decide +kernel
theorem dX0_save_6 : decode cX0_save 6 = .ok (.iload_n 2, 1) := by decide +kernel
theorem dX0_save_7 : decode cX0_save 7 = .ok (.bipush 24, 2) := by decide +kernel
theorem dX0_save_9 : decode cX0_save 9 = .ok (.invokestatic 21, 3) := by decide +kernel
theorem dX0_save_12 : decode cX0_save 12 = .ok (.iload_n 2, 1) := by decide +kernel
theorem dX0_save_13 : decode cX0_save 13 = .ok (.bipush 24, 2) := by decide +kernel
theorem dX0_save_15 : decode cX0_save 15 = .ok (.iadd, 1) := by decide +kernel
theorem dX0_save_16 : decode cX0_save 16 = .ok (.ireturn, 1) := by decide +kernel
theorem dX0_load_0 : decode cX0_load 0 = .ok (.aload_n 1, 1) := by decide +kernel
theorem dX0_load_1 : decode cX0_load 1 = .ok (.iload_n 2, 1) := by decide +kernel
theorem dX0_load_2 : decode cX0_load 2 = .ok (.aload_n 0, 1) := by decide +kernel
theorem dX0_load_3 : decode cX0_load 3 = .ok (.getfield 11, 3) := by decide +kernel
theorem dX0_load_6 : decode cX0_load 6 = .ok (.iconst 0, 1) := by decide +kernel
theorem dX0_load_7 : decode cX0_load 7 = .ok (.bipush 24, 2) := by decide +kernel
theorem dX0_load_9 : decode cX0_load 9 = .ok (.invokestatic 21, 3) := by decide +kernel
theorem dX0_load_12 : decode cX0_load 12 = .ok (.iload_n 2, 1) := by decide +kernel
theorem dX0_load_13 : decode cX0_load 13 = .ok (.bipush 24, 2) := by decide +kernel
theorem dX0_load_15 : decode cX0_load 15 = .ok (.iadd, 1) := by decide +kernel
theorem dX0_load_16 : decode cX0_load 16 = .ok (.ireturn, 1) := by decide +kernel
theorem dX1_init_0 : decode cX1_init 0 = .ok (.aload_n 0, 1) := by decide +kernel
theorem dX1_init_1 : decode cX1_init 1 = .ok (.invokespecial 3, 3) := by decide +kernel
theorem dX1_init_4 : decode cX1_init 4 = .ok (.aload_n 0, 1) := by decide +kernel
theorem dX1_init_5 : decode cX1_init 5 = .ok (.bipush 8, 2) := by decide +kernel
theorem dX1_init_7 : decode cX1_init 7 = .ok (.newarray .int, 2) := by decide +kernel
theorem dX1_init_9 : decode cX1_init 9 = .ok (.putfield 9, 3) := by decide +kernel
theorem dX1_init_12 : decode cX1_init 12 = .ok (.aload_n 0, 1) := by decide +kernel
theorem dX1_init_13 : decode cX1_init 13 = .ok (.bipush 8, 2) := by decide +kernel
theorem dX1_init_15 : decode cX1_init 15 = .ok (.newarray .int, 2) := by decide +kernel
theorem dX1_init_17 : decode cX1_init 17 = .ok (.putfield 15, 3) := by decide +kernel
theorem dX1_init_20 : decode cX1_init 20 = .ok (.aload_n 0, 1) := by decide +kernel
theorem dX1_init_21 : decode cX1_init 21 = .ok (.bipush 7, 2) := by decide +kernel
theorem dX1_init_23 : decode cX1_init 23 = .ok (.newarray .int, 2) := by decide +kernel
theorem dX1_init_25 : decode cX1_init 25 = .ok (.putfield 18, 3) := by decide +kernel
theorem dX1_init_28 : decode cX1_init 28 = .ok (.aload_n 0, 1) := by decide +kernel
theorem dX1_init_29 : decode cX1_init 29 = .ok (.bipush 7, 2) := by decide +kernel
theorem dX1_init_31 : decode cX1_init 31 = .ok (.newarray .int, 2) := by decide +kernel
theorem dX1_init_33 : decode cX1_init 33 = .ok (.putfield 21, 3) := by decide +kernel
theorem dX1_init_36 : decode cX1_init 36 = .ok (.aload_n 0, 1) := by decide +kernel
theorem dX1_init_37 : decode cX1_init 37 = .ok (.bipush 7, 2) := by decide +kernel
theorem dX1_init_39 : decode cX1_init 39 = .ok (.newarray .int, 2) := by decide +kernel
theorem dX1_init_41 : decode cX1_init 41 = .ok (.putfield 24, 3) := by decide +kernel
theorem dX1_init_44 : decode cX1_init 44 = .ok (.aload_n 0, 1) := by decide +kernel
theorem dX1_init_45 : decode cX1_init 45 = .ok (.bipush 7, 2) := by decide +kernel
theorem dX1_init_47 : decode cX1_init 47 = .ok (.newarray .int, 2) := by decide +kernel
theorem dX1_init_49 : decode cX1_init 49 = .ok (.putfield 27, 3) := by decide +kernel
theorem dX1_init_52 : decode cX1_init 52 = .ok (.aload_n 0, 1) := by decide +kernel
theorem dX1_init_53 : decode cX1_init 53 = .ok (.bipush 7, 2) := by decide +kernel
theorem dX1_init_55 : decode cX1_init 55 = .ok (.newarray .int, 2) := by decide +kernel
theorem dX1_init_57 : decode cX1_init 57 = .ok (.putfield 30, 3) := by decide +kernel
theorem dX1_init_60 : decode cX1_init 60 = .ok (.return_, 1) := by decide +kernel
set_option maxRecDepth 20000 in
theorem ggX1_findWay_X1_goOn : GoodIn wsX1_findWay wsX1_goOn := goodIn_r _ [5, 6, 1, 7, 8, 9, 10, 11, 12, 13, 14, 15, 4, 16, 17, 18, 19, 20, 21, 22, 23, 24, 25, 26, 27, 28, 29, 30, 31, 32, 2, 3, 33, 34, 35, 36, 37, 38, 39, 40, 41] (by decide +kernel) (by decide +kernel)
set_option maxRecDepth 20000 in
theorem gX1_findWay_X1_goOn : GoodIn wsX1_findWay (va_wsS RX1 37 yX1_goOn wsX1_goOn) := goodIn_app (goodIn_of _ (by decide +kernel)) ggX1_findWay_X1_goOn
theorem dX1_findWay_0 : decode cX1_findWay 0 = .ok (.aload_n 0, 1) := by decide +kernel
theorem dX1_findWay_1 : decode cX1_findWay 1 = .ok (.iconst (-1), 1) := by decide +kernel
theorem dX1_findWay_2 : decode cX1_findWay 2 = .ok (.putfield 33, 3) := by decide +kernel
theorem dX1_findWay_5 : decode cX1_findWay 5 = .ok (.aload_n 0, 1) := by decide +kernel
theorem dX1_findWay_6 : decode cX1_findWay 6 = .ok (.iconst 0, 1) := by decide +kernel
theorem dX1_findWay_7 : decode cX1_findWay 7 = .ok (.iconst 0, 1) := by decide +kernel
theorem dX1_findWay_8 : decode cX1_findWay 8 = .ok (.iload_n 1, 1) := by decide +kernel
theorem dX1_findWay_9 : decode cX1_findWay 9 = .ok (.invokestatic 37, 3) := by decide +kernel
theorem dX1_findWay_12 : decode cX1_findWay 12 = .ok (.aload_n 0, 1) := by decide +kernel
theorem dX1_findWay_13 : decode cX1_findWay 13 = .ok (.getfield 33, 3) := by decide +kernel
theorem dX1_findWay_16 : decode cX1_findWay 16 = .ok (.iconst (-1), 1) := by decide +kernel
theorem dX1_findWay_17 : decode cX1_findWay 17 = .ok (.if_icmp .eq 7, 3) := by decide +kernel
theorem dX1_findWay_20 : decode cX1_findWay 20 = .ok (.iconst 1, 1) := by decide +kernel
theorem dX1_findWay_21 : decode cX1_findWay 21 = .ok (.goto 4, 3) := by decide +kernel
theorem dX1_findWay_24 : decode cX1_findWay 24 = .ok (.iconst 0, 1) := by decide +kernel
theorem dX1_findWay_25 : decode cX1_findWay 25 = .ok (.ireturn, 1) := by decide +kernel
set_option maxRecDepth 20000 in
theorem ggX1_goOn_X1_minutesBetween : GoodIn wsX1_goOn wsX1_minutesBetween := goodIn_r _ [13, 14, 15, 16, 17, 18, 19, 32, 33, 34, 35, 36, 37, 38, 39, 40] (by decide +kernel) (by decide +kernel)
set_option maxRecDepth 20000 in
theorem gX1_goOn_X1_minutesBetween : GoodIn wsX1_goOn (wsV RX1 41 RX1 yX1_minutesBetween wsX1_minutesBetween) := goodIn_app (goodIn_of _ (by decide +kernel)) ggX1_goOn_X1_minutesBetween
set_option maxRecDepth 20000 in
theorem ggX1_goOn_X1_leaves : GoodIn wsX1_goOn wsX1_leaves := goodIn_r _ [23, 24, 25, 26, 27, 17, 28, 29, 9, 10, 11, 12, 13, 14, 15, 16, 18, 19, 32, 33, 34, 35, 36, 37, 38, 39, 40] (by decide +kernel) (by decide +kernel)
set_option maxRecDepth 20000 in
theorem gX1_goOn_X1_leaves : GoodIn wsX1_goOn (wsV RX1 54 RX1 yX1_leaves wsX1_leaves) := goodIn_app (goodIn_of _ (by decide +kernel)) ggX1_goOn_X1_leaves
set_option maxRecDepth 20000 in
theorem ggX1_goOn_X1_goOn : GoodIn wsX1_goOn wsX1_goOn := goodIn_r _ [0, 1, 2, 3, 4, 5, 6, 7, 8, 9, 10, 11, 12, 13, 14, 15, 16, 17, 18, 19, 20, 21, 22, 23, 24, 25, 26, 27, 28, 29, 30, 31, 32, 33, 34, 35, 36, 37, 38, 39, 40] (by decide +kernel) (by decide +kernel)
set_option maxRecDepth 20000 in
theorem gX1_goOn_X1_goOn : GoodIn wsX1_goOn (va_wsS RX1 37 yX1_goOn wsX1_goOn) := goodIn_app (goodIn_of _ (by decide +kernel)) ggX1_goOn_X1_goOn
theorem dX1_goOn_0 : decode cX1_goOn 0 = .ok (.iload_n 1, 1) := by decide +kernel
theorem dX1_goOn_1 : decode cX1_goOn 1 = .ok (.ifCond .le 20, 3) := by decide +kernel
theorem dX1_goOn_4 : decode cX1_goOn 4 = .ok (.iload_n 1, 1) := by decide +kernel
theorem dX1_goOn_5 : decode cX1_goOn 5 = .ok (.bipush 7, 2) := by decide +kernel
theorem dX1_goOn_7 : decode cX1_goOn 7 = .ok (.if_icmp .gt 14, 3) := by decide +kernel
theorem dX1_goOn_10 : decode cX1_goOn 10 = .ok (.aload_n 0, 1) := by decide +kernel
theorem dX1_goOn_11 : decode cX1_goOn 11 = .ok (.getfield 30, 3) := by decide +kernel
theorem dX1_goOn_14 : decode cX1_goOn 14 = .ok (.iload_n 1, 1) := by decide +kernel
theorem dX1_goOn_15 : decode cX1_goOn 15 = .ok (.iconst 1, 1) := by decide +kernel
theorem dX1_goOn_16 : decode cX1_goOn 16 = .ok (.isub, 1) := by decide +kernel
theorem dX1_goOn_17 : decode cX1_goOn 17 = .ok (.iaload, 1) := by decide +kernel
theorem dX1_goOn_18 : decode cX1_goOn 18 = .ok (.goto 5, 3) := by decide +kernel
theorem dX1_goOn_21 : decode cX1_goOn 21 = .ok (.bipush 7, 2) := by decide +kernel
theorem dX1_goOn_23 : decode cX1_goOn 23 = .ok (.istore 4, 2) := by decide +kernel
theorem dX1_goOn_25 : decode cX1_goOn 25 = .ok (.iload_n 3, 1) := by decide +kernel
theorem dX1_goOn_26 : decode cX1_goOn 26 = .ok (.aload_n 0, 1) := by decide +kernel
theorem dX1_goOn_27 : decode cX1_goOn 27 = .ok (.iload 4, 2) := by decide +kernel
theorem dX1_goOn_29 : decode cX1_goOn 29 = .ok (.bipush 7, 2) := by decide +kernel
theorem dX1_goOn_31 : decode cX1_goOn 31 = .ok (.invokevirtual 41, 3) := by decide +kernel
theorem dX1_goOn_34 : decode cX1_goOn 34 = .ok (.iadd, 1) := by decide +kernel
theorem dX1_goOn_35 : decode cX1_goOn 35 = .ok (.istore 5, 2) := by decide +kernel
theorem dX1_goOn_37 : decode cX1_goOn 37 = .ok (.aload_n 0, 1) := by decide +kernel
theorem dX1_goOn_38 : decode cX1_goOn 38 = .ok (.getfield 33, 3) := by decide +kernel
theorem dX1_goOn_41 : decode cX1_goOn 41 = .ok (.iconst (-1), 1) := by decide +kernel
theorem dX1_goOn_42 : decode cX1_goOn 42 = .ok (.if_icmp .eq 12, 3) := by decide +kernel
theorem dX1_goOn_45 : decode cX1_goOn 45 = .ok (.iload 5, 2) := by decide +kernel
theorem dX1_goOn_47 : decode cX1_goOn 47 = .ok (.aload_n 0, 1) := by decide +kernel
theorem dX1_goOn_48 : decode cX1_goOn 48 = .ok (.getfield 33, 3) := by decide +kernel
theorem dX1_goOn_51 : decode cX1_goOn 51 = .ok (.if_icmp .ge 7, 3) := by decide +kernel
theorem dX1_goOn_54 : decode cX1_goOn 54 = .ok (.iconst 1, 1) := by decide +kernel
theorem dX1_goOn_55 : decode cX1_goOn 55 = .ok (.goto 4, 3) := by decide +kernel
theorem dX1_goOn_58 : decode cX1_goOn 58 = .ok (.iconst 0, 1) := by decide +kernel
theorem dX1_goOn_59 : decode cX1_goOn 59 = .ok (.istore 6, 2) := by decide +kernel
theorem dX1_goOn_61 : decode cX1_goOn 61 = .ok (.iload_n 1, 1) := by decide +kernel
theorem dX1_goOn_62 : decode cX1_goOn 62 = .ok (.aload_n 0, 1) := by decide +kernel
theorem dX1_goOn_63 : decode cX1_goOn 63 = .ok (.getfield 45, 3) := by decide +kernel
theorem dX1_goOn_66 : decode cX1_goOn 66 = .ok (.if_icmp .ge 9, 3) := by decide +kernel
theorem dX1_goOn_69 : decode cX1_goOn 69 = .ok (.iload_n 1, 1) := by decide +kernel
theorem dX1_goOn_70 : decode cX1_goOn 70 = .ok (.bipush 7, 2) := by decide +kernel
theorem dX1_goOn_72 : decode cX1_goOn 72 = .ok (.if_icmp .lt 30, 3) := by decide +kernel
theorem dX1_goOn_75 : decode cX1_goOn 75 = .ok (.iload 6, 2) := by decide +kernel
theorem dX1_goOn_77 : decode cX1_goOn 77 = .ok (.ifCond .eq 24, 3) := by decide +kernel
theorem dX1_goOn_80 : decode cX1_goOn 80 = .ok (.aload_n 0, 1) := by decide +kernel
theorem dX1_goOn_81 : decode cX1_goOn 81 = .ok (.iload 5, 2) := by decide +kernel
theorem dX1_goOn_83 : decode cX1_goOn 83 = .ok (.putfield 33, 3) := by decide +kernel
theorem dX1_goOn_86 : decode cX1_goOn 86 = .ok (.aload_n 0, 1) := by decide +kernel
theorem dX1_goOn_87 : decode cX1_goOn 87 = .ok (.getfield 30, 3) := by decide +kernel
theorem dX1_goOn_90 : decode cX1_goOn 90 = .ok (.iconst 0, 1) := by decide +kernel
theorem dX1_goOn_91 : decode cX1_goOn 91 = .ok (.aload_n 0, 1) := by decide +kernel
theorem dX1_goOn_92 : decode cX1_goOn 92 = .ok (.getfield 27, 3) := by decide +kernel
theorem dX1_goOn_95 : decode cX1_goOn 95 = .ok (.iconst 0, 1) := by decide +kernel
theorem dX1_goOn_96 : decode cX1_goOn 96 = .ok (.bipush 7, 2) := by decide +kernel
theorem dX1_goOn_98 : decode cX1_goOn 98 = .ok (.invokestatic 48, 3) := by decide +kernel
theorem dX1_goOn_101 : decode cX1_goOn 101 = .ok (.return_, 1) := by decide +kernel
theorem dX1_goOn_102 : decode cX1_goOn 102 = .ok (.iload 6, 2) := by decide +kernel
theorem dX1_goOn_104 : decode cX1_goOn 104 = .ok (.ifCond .ne 4, 3) := by decide +kernel
theorem dX1_goOn_107 : decode cX1_goOn 107 = .ok (.return_, 1) := by decide +kernel
theorem dX1_goOn_108 : decode cX1_goOn 108 = .ok (.iconst 0, 1) := by decide +kernel
theorem dX1_goOn_109 : decode cX1_goOn 109 = .ok (.istore 7, 2) := by decide +kernel
theorem dX1_goOn_111 : decode cX1_goOn 111 = .ok (.iload 7, 2) := by decide +kernel
theorem dX1_goOn_113 : decode cX1_goOn 113 = .ok (.aload_n 0, 1) := by decide +kernel
theorem dX1_goOn_114 : decode cX1_goOn 114 = .ok (.getfield 45, 3) := by decide +kernel
theorem dX1_goOn_117 : decode cX1_goOn 117 = .ok (.if_icmp .ge 62, 3) := by decide +kernel
theorem dX1_goOn_120 : decode cX1_goOn 120 = .ok (.iload_n 2, 1) := by decide +kernel
theorem dX1_goOn_121 : decode cX1_goOn 121 = .ok (.iload 7, 2) := by decide +kernel
theorem dX1_goOn_123 : decode cX1_goOn 123 = .ok (.ishr, 1) := by decide +kernel
theorem dX1_goOn_124 : decode cX1_goOn 124 = .ok (.iconst 1, 1) := by decide +kernel
theorem dX1_goOn_125 : decode cX1_goOn 125 = .ok (.iand, 1) := by decide +kernel
theorem dX1_goOn_126 : decode cX1_goOn 126 = .ok (.ifCond .ne 15, 3) := by decide +kernel
theorem dX1_goOn_129 : decode cX1_goOn 129 = .ok (.aload_n 0, 1) := by decide +kernel
theorem dX1_goOn_130 : decode cX1_goOn 130 = .ok (.iload 7, 2) := by decide +kernel
theorem dX1_goOn_132 : decode cX1_goOn 132 = .ok (.iload 4, 2) := by decide +kernel
theorem dX1_goOn_134 : decode cX1_goOn 134 = .ok (.iload_n 3, 1) := by decide +kernel
theorem dX1_goOn_135 : decode cX1_goOn 135 = .ok (.invokevirtual 54, 3) := by decide +kernel
theorem dX1_goOn_138 : decode cX1_goOn 138 = .ok (.goto 4, 3) := by decide +kernel
theorem dX1_goOn_141 : decode cX1_goOn 141 = .ok (.iconst (-1), 1) := by decide +kernel
theorem dX1_goOn_142 : decode cX1_goOn 142 = .ok (.istore 8, 2) := by decide +kernel
theorem dX1_goOn_144 : decode cX1_goOn 144 = .ok (.iload 8, 2) := by decide +kernel
theorem dX1_goOn_146 : decode cX1_goOn 146 = .ok (.iconst (-1), 1) := by decide +kernel
theorem dX1_goOn_147 : decode cX1_goOn 147 = .ok (.if_icmp .eq 26, 3) := by decide +kernel
theorem dX1_goOn_150 : decode cX1_goOn 150 = .ok (.aload_n 0, 1) := by decide +kernel
theorem dX1_goOn_151 : decode cX1_goOn 151 = .ok (.getfield 30, 3) := by decide +kernel
theorem dX1_goOn_154 : decode cX1_goOn 154 = .ok (.iload_n 1, 1) := by decide +kernel
theorem dX1_goOn_155 : decode cX1_goOn 155 = .ok (.iload 7, 2) := by decide +kernel
theorem dX1_goOn_157 : decode cX1_goOn 157 = .ok (.iastore, 1) := by decide +kernel
theorem dX1_goOn_158 : decode cX1_goOn 158 = .ok (.aload_n 0, 1) := by decide +kernel
theorem dX1_goOn_159 : decode cX1_goOn 159 = .ok (.iload_n 1, 1) := by decide +kernel
theorem dX1_goOn_160 : decode cX1_goOn 160 = .ok (.iconst 1, 1) := by decide +kernel
theorem dX1_goOn_161 : decode cX1_goOn 161 = .ok (.iadd, 1) := by decide +kernel
theorem dX1_goOn_162 : decode cX1_goOn 162 = .ok (.iload_n 2, 1) := by decide +kernel
theorem dX1_goOn_163 : decode cX1_goOn 163 = .ok (.iconst 1, 1) := by decide +kernel
theorem dX1_goOn_164 : decode cX1_goOn 164 = .ok (.iload 7, 2) := by decide +kernel
theorem dX1_goOn_166 : decode cX1_goOn 166 = .ok (.ishl, 1) := by decide +kernel
theorem dX1_goOn_167 : decode cX1_goOn 167 = .ok (.ior, 1) := by decide +kernel
theorem dX1_goOn_168 : decode cX1_goOn 168 = .ok (.iload 8, 2) := by decide +kernel
theorem dX1_goOn_170 : decode cX1_goOn 170 = .ok (.invokestatic 37, 3) := by decide +kernel
theorem dX1_goOn_173 : decode cX1_goOn 173 = .ok (.iinc 7 1, 3) := by decide +kernel
theorem dX1_goOn_176 : decode cX1_goOn 176 = .ok (.goto (-65), 3) := by decide +kernel
theorem dX1_goOn_179 : decode cX1_goOn 179 = .ok (.return_, 1) := by decide +kernel
theorem dX1_minutesBetween_0 : decode cX1_minutesBetween 0 = .ok (.aload_n 0, 1) := by decide +kernel
theorem dX1_minutesBetween_1 : decode cX1_minutesBetween 1 = .ok (.getfield 9, 3) := by decide +kernel
theorem dX1_minutesBetween_4 : decode cX1_minutesBetween 4 = .ok (.iload_n 1, 1) := by decide +kernel
theorem dX1_minutesBetween_5 : decode cX1_minutesBetween 5 = .ok (.iaload, 1) := by decide +kernel
theorem dX1_minutesBetween_6 : decode cX1_minutesBetween 6 = .ok (.aload_n 0, 1) := by decide +kernel
theorem dX1_minutesBetween_7 : decode cX1_minutesBetween 7 = .ok (.getfield 9, 3) := by decide +kernel
theorem dX1_minutesBetween_10 : decode cX1_minutesBetween 10 = .ok (.iload_n 2, 1) := by decide +kernel
theorem dX1_minutesBetween_11 : decode cX1_minutesBetween 11 = .ok (.iaload, 1) := by decide +kernel
theorem dX1_minutesBetween_12 : decode cX1_minutesBetween 12 = .ok (.isub, 1) := by decide +kernel
theorem dX1_minutesBetween_13 : decode cX1_minutesBetween 13 = .ok (.invokestatic 58, 3) := by decide +kernel
theorem dX1_minutesBetween_16 : decode cX1_minutesBetween 16 = .ok (.aload_n 0, 1) := by decide +kernel
theorem dX1_minutesBetween_17 : decode cX1_minutesBetween 17 = .ok (.getfield 15, 3) := by decide +kernel
theorem dX1_minutesBetween_20 : decode cX1_minutesBetween 20 = .ok (.iload_n 1, 1) := by decide +kernel
theorem dX1_minutesBetween_21 : decode cX1_minutesBetween 21 = .ok (.iaload, 1) := by decide +kernel
theorem dX1_minutesBetween_22 : decode cX1_minutesBetween 22 = .ok (.aload_n 0, 1) := by decide +kernel
theorem dX1_minutesBetween_23 : decode cX1_minutesBetween 23 = .ok (.getfield 15, 3) := by decide +kernel
theorem dX1_minutesBetween_26 : decode cX1_minutesBetween 26 = .ok (.iload_n 2, 1) := by decide +kernel
theorem dX1_minutesBetween_27 : decode cX1_minutesBetween 27 = .ok (.iaload, 1) := by decide +kernel
theorem dX1_minutesBetween_28 : decode cX1_minutesBetween 28 = .ok (.isub, 1) := by decide +kernel
theorem dX1_minutesBetween_29 : decode cX1_minutesBetween 29 = .ok (.invokestatic 58, 3) := by decide +kernel
theorem dX1_minutesBetween_32 : decode cX1_minutesBetween 32 = .ok (.iadd, 1) := by decide +kernel
theorem dX1_minutesBetween_33 : decode cX1_minutesBetween 33 = .ok (.ireturn, 1) := by decide +kernel
set_option maxRecDepth 20000 in
theorem ggX1_leaves_X1_minutesBetween : GoodIn wsX1_leaves wsX1_minutesBetween := goodIn_r _ [12, 13, 14, 15, 5, 16, 17, 18, 19, 20, 21, 22, 23, 24, 25, 26] (by decide +kernel) (by decide +kernel)
set_option maxRecDepth 20000 in
theorem gX1_leaves_X1_minutesBetween : GoodIn wsX1_leaves (wsV RX1 41 RX1 yX1_minutesBetween wsX1_minutesBetween) := goodIn_app (goodIn_of _ (by decide +kernel)) ggX1_leaves_X1_minutesBetween
theorem dX1_leaves_0 : decode cX1_leaves 0 = .ok (.iload_n 3, 1) := by decide +kernel
theorem dX1_leaves_1 : decode cX1_leaves 1 = .ok (.aload_n 0, 1) := by decide +kernel
theorem dX1_leaves_2 : decode cX1_leaves 2 = .ok (.iload_n 2, 1) := by decide +kernel
theorem dX1_leaves_3 : decode cX1_leaves 3 = .ok (.iload_n 1, 1) := by decide +kernel
theorem dX1_leaves_4 : decode cX1_leaves 4 = .ok (.invokevirtual 41, 3) := by decide +kernel
theorem dX1_leaves_7 : decode cX1_leaves 7 = .ok (.iadd, 1) := by decide +kernel
theorem dX1_leaves_8 : decode cX1_leaves 8 = .ok (.istore 4, 2) := by decide +kernel
theorem dX1_leaves_10 : decode cX1_leaves 10 = .ok (.iload 4, 2) := by decide +kernel
theorem dX1_leaves_12 : decode cX1_leaves 12 = .ok (.aload_n 0, 1) := by decide +kernel
theorem dX1_leaves_13 : decode cX1_leaves 13 = .ok (.getfield 21, 3) := by decide +kernel
theorem dX1_leaves_16 : decode cX1_leaves 16 = .ok (.iload_n 1, 1) := by decide +kernel
theorem dX1_leaves_17 : decode cX1_leaves 17 = .ok (.iaload, 1) := by decide +kernel
theorem dX1_leaves_18 : decode cX1_leaves 18 = .ok (.if_icmp .le 5, 3) := by decide +kernel
theorem dX1_leaves_21 : decode cX1_leaves 21 = .ok (.iconst (-1), 1) := by decide +kernel
theorem dX1_leaves_22 : decode cX1_leaves 22 = .ok (.ireturn, 1) := by decide +kernel
theorem dX1_leaves_23 : decode cX1_leaves 23 = .ok (.iload 4, 2) := by decide +kernel
theorem dX1_leaves_25 : decode cX1_leaves 25 = .ok (.aload_n 0, 1) := by decide +kernel
theorem dX1_leaves_26 : decode cX1_leaves 26 = .ok (.getfield 18, 3) := by decide +kernel
theorem dX1_leaves_29 : decode cX1_leaves 29 = .ok (.iload_n 1, 1) := by decide +kernel
theorem dX1_leaves_30 : decode cX1_leaves 30 = .ok (.iaload, 1) := by decide +kernel
theorem dX1_leaves_31 : decode cX1_leaves 31 = .ok (.invokestatic 64, 3) := by decide +kernel
theorem dX1_leaves_34 : decode cX1_leaves 34 = .ok (.aload_n 0, 1) := by decide +kernel
theorem dX1_leaves_35 : decode cX1_leaves 35 = .ok (.getfield 24, 3) := by decide +kernel
theorem dX1_leaves_38 : decode cX1_leaves 38 = .ok (.iload_n 1, 1) := by decide +kernel
theorem dX1_leaves_39 : decode cX1_leaves 39 = .ok (.iaload, 1) := by decide +kernel
theorem dX1_leaves_40 : decode cX1_leaves 40 = .ok (.iadd, 1) := by decide +kernel
theorem dX1_leaves_41 : decode cX1_leaves 41 = .ok (.ireturn, 1) := by decide +kernel
set_option maxRecDepth 20000 in
theorem ggX1_readWay_X11_isWithin : GoodIn wsX1_readWay wsX11_isWithin := goodIn_r _ [5] (by decide +kernel) (by decide +kernel)
set_option maxRecDepth 20000 in
theorem gX1_readWay_X11_isWithin_n67 : GoodIn wsX1_readWay (wsX11_isWithin) := ggX1_readWay_X11_isWithin
theorem dX1_readWay_0 : decode cX1_readWay 0 = .ok (.iload_n 1, 1) := by decide +kernel
theorem dX1_readWay_1 : decode cX1_readWay 1 = .ok (.istore_n 2, 1) := by decide +kernel
theorem dX1_readWay_2 : decode cX1_readWay 2 = .ok (.iconst 0, 1) := by decide +kernel
theorem dX1_readWay_3 : decode cX1_readWay 3 = .ok (.istore_n 3, 1) := by decide +kernel
theorem dX1_readWay_4 : decode cX1_readWay 4 = .ok (.aload_n 0, 1) := by decide +kernel
theorem dX1_readWay_5 : decode cX1_readWay 5 = .ok (.getfield 45, 3) := by decide +kernel
theorem dX1_readWay_8 : decode cX1_readWay 8 = .ok (.iconst 1, 1) := by decide +kernel
theorem dX1_readWay_9 : decode cX1_readWay 9 = .ok (.isub, 1) := by decide +kernel
theorem dX1_readWay_10 : decode cX1_readWay 10 = .ok (.istore 4, 2) := by decide +kernel
theorem dX1_readWay_12 : decode cX1_readWay 12 = .ok (.iload 4, 2) := by decide +kernel
theorem dX1_readWay_14 : decode cX1_readWay 14 = .ok (.ifCond .lt 62, 3) := by decide +kernel
theorem dX1_readWay_17 : decode cX1_readWay 17 = .ok (.iload_n 2, 1) := by decide +kernel
theorem dX1_readWay_18 : decode cX1_readWay 18 = .ok (.bipush 10, 2) := by decide +kernel
theorem dX1_readWay_20 : decode cX1_readWay 20 = .ok (.irem, 1) := by decide +kernel
theorem dX1_readWay_21 : decode cX1_readWay 21 = .ok (.istore 5, 2) := by decide +kernel
theorem dX1_readWay_23 : decode cX1_readWay 23 = .ok (.iload_n 2, 1) := by decide +kernel
theorem dX1_readWay_24 : decode cX1_readWay 24 = .ok (.bipush 10, 2) := by decide +kernel
theorem dX1_readWay_26 : decode cX1_readWay 26 = .ok (.idiv, 1) := by decide +kernel
theorem dX1_readWay_27 : decode cX1_readWay 27 = .ok (.istore_n 2, 1) := by decide +kernel
theorem dX1_readWay_28 : decode cX1_readWay 28 = .ok (.iload 5, 2) := by decide +kernel
theorem dX1_readWay_30 : decode cX1_readWay 30 = .ok (.iconst 0, 1) := by decide +kernel
theorem dX1_readWay_31 : decode cX1_readWay 31 = .ok (.aload_n 0, 1) := by decide +kernel
theorem dX1_readWay_32 : decode cX1_readWay 32 = .ok (.getfield 45, 3) := by decide +kernel
theorem dX1_readWay_35 : decode cX1_readWay 35 = .ok (.iconst 1, 1) := by decide +kernel
theorem dX1_readWay_36 : decode cX1_readWay 36 = .ok (.isub, 1) := by decide +kernel
theorem dX1_readWay_37 : decode cX1_readWay 37 = .ok (.invokestatic 67, 3) := by decide +kernel
theorem dX1_readWay_40 : decode cX1_readWay 40 = .ok (.ifCond .eq 12, 3) := by decide +kernel
theorem dX1_readWay_43 : decode cX1_readWay 43 = .ok (.iload_n 3, 1) := by decide +kernel
theorem dX1_readWay_44 : decode cX1_readWay 44 = .ok (.iload 5, 2) := by decide +kernel
theorem dX1_readWay_46 : decode cX1_readWay 46 = .ok (.ishr, 1) := by decide +kernel
theorem dX1_readWay_47 : decode cX1_readWay 47 = .ok (.iconst 1, 1) := by decide +kernel
theorem dX1_readWay_48 : decode cX1_readWay 48 = .ok (.iand, 1) := by decide +kernel
theorem dX1_readWay_49 : decode cX1_readWay 49 = .ok (.ifCond .eq 5, 3) := by decide +kernel
theorem dX1_readWay_52 : decode cX1_readWay 52 = .ok (.iconst 0, 1) := by decide +kernel
theorem dX1_readWay_53 : decode cX1_readWay 53 = .ok (.ireturn, 1) := by decide +kernel
theorem dX1_readWay_54 : decode cX1_readWay 54 = .ok (.iload_n 3, 1) := by decide +kernel
theorem dX1_readWay_55 : decode cX1_readWay 55 = .ok (.iconst 1, 1) := by decide +kernel
theorem dX1_readWay_56 : decode cX1_readWay 56 = .ok (.iload 5, 2) := by decide +kernel
theorem dX1_readWay_58 : decode cX1_readWay 58 = .ok (.ishl, 1) := by decide +kernel
theorem dX1_readWay_59 : decode cX1_readWay 59 = .ok (.ior, 1) := by decide +kernel
theorem dX1_readWay_60 : decode cX1_readWay 60 = .ok (.istore_n 3, 1) := by decide +kernel
theorem dX1_readWay_61 : decode cX1_readWay 61 = .ok (.aload_n 0, 1) := by decide +kernel
theorem dX1_readWay_62 : decode cX1_readWay 62 = .ok (.getfield 30, 3) := by decide +kernel
theorem dX1_readWay_65 : decode cX1_readWay 65 = .ok (.iload 4, 2) := by decide +kernel
theorem dX1_readWay_67 : decode cX1_readWay 67 = .ok (.iload 5, 2) := by decide +kernel
theorem dX1_readWay_69 : decode cX1_readWay 69 = .ok (.iastore, 1) := by decide +kernel
theorem dX1_readWay_70 : decode cX1_readWay 70 = .ok (.iinc 4 (-1), 3) := by decide +kernel
theorem dX1_readWay_73 : decode cX1_readWay 73 = .ok (.goto (-61), 3) := by decide +kernel
theorem dX1_readWay_76 : decode cX1_readWay 76 = .ok (.iload_n 2, 1) := by decide +kernel
theorem dX1_readWay_77 : decode cX1_readWay 77 = .ok (.ifCond .ne 7, 3) := by decide +kernel
theorem dX1_readWay_80 : decode cX1_readWay 80 = .ok (.iconst 1, 1) := by decide +kernel
theorem dX1_readWay_81 : decode cX1_readWay 81 = .ok (.goto 4, 3) := by decide +kernel
theorem dX1_readWay_84 : decode cX1_readWay 84 = .ok (.iconst 0, 1) := by decide +kernel
theorem dX1_readWay_85 : decode cX1_readWay 85 = .ok (.ireturn, 1) := by decide +kernel
set_option maxRecDepth 20000 in
theorem ggX1_walk_X1_leaves : GoodIn wsX1_walk wsX1_leaves := goodIn_r _ [7, 8, 9, 10, 11, 12, 13, 14, 15, 16, 17, 6, 18, 19, 20, 21, 22, 23, 24, 25, 26, 27, 28, 29, 30, 31, 32] (by decide +kernel) (by decide +kernel)
set_option maxRecDepth 20000 in
theorem gX1_walk_X1_leaves : GoodIn wsX1_walk (wsV RX1 54 RX1 yX1_leaves wsX1_leaves) := goodIn_app (goodIn_of _ (by decide +kernel)) ggX1_walk_X1_leaves
set_option maxRecDepth 20000 in
theorem ggX1_walk_X1_minutesBetween : GoodIn wsX1_walk wsX1_minutesBetween := goodIn_r _ [18, 19, 20, 21, 12, 22, 23, 24, 25, 26, 27, 28, 29, 30, 31, 32] (by decide +kernel) (by decide +kernel)
set_option maxRecDepth 20000 in
theorem gX1_walk_X1_minutesBetween : GoodIn wsX1_walk (wsV RX1 41 RX1 yX1_minutesBetween wsX1_minutesBetween) := goodIn_app (goodIn_of _ (by decide +kernel)) ggX1_walk_X1_minutesBetween
theorem dX1_walk_0 : decode cX1_walk 0 = .ok (.iload_n 1, 1) := by decide +kernel
theorem dX1_walk_1 : decode cX1_walk 1 = .ok (.istore_n 2, 1) := by decide +kernel
theorem dX1_walk_2 : decode cX1_walk 2 = .ok (.bipush 7, 2) := by decide +kernel
theorem dX1_walk_4 : decode cX1_walk 4 = .ok (.istore_n 3, 1) := by decide +kernel
theorem dX1_walk_5 : decode cX1_walk 5 = .ok (.iconst 0, 1) := by decide +kernel
theorem dX1_walk_6 : decode cX1_walk 6 = .ok (.istore 4, 2) := by decide +kernel
theorem dX1_walk_8 : decode cX1_walk 8 = .ok (.iload 4, 2) := by decide +kernel
theorem dX1_walk_10 : decode cX1_walk 10 = .ok (.aload_n 0, 1) := by decide +kernel
theorem dX1_walk_11 : decode cX1_walk 11 = .ok (.getfield 45, 3) := by decide +kernel
theorem dX1_walk_14 : decode cX1_walk 14 = .ok (.if_icmp .ge 38, 3) := by decide +kernel
theorem dX1_walk_17 : decode cX1_walk 17 = .ok (.aload_n 0, 1) := by decide +kernel
theorem dX1_walk_18 : decode cX1_walk 18 = .ok (.aload_n 0, 1) := by decide +kernel
theorem dX1_walk_19 : decode cX1_walk 19 = .ok (.getfield 30, 3) := by decide +kernel
theorem dX1_walk_22 : decode cX1_walk 22 = .ok (.iload 4, 2) := by decide +kernel
theorem dX1_walk_24 : decode cX1_walk 24 = .ok (.iaload, 1) := by decide +kernel
theorem dX1_walk_25 : decode cX1_walk 25 = .ok (.iload_n 3, 1) := by decide +kernel
theorem dX1_walk_26 : decode cX1_walk 26 = .ok (.iload_n 2, 1) := by decide +kernel
theorem dX1_walk_27 : decode cX1_walk 27 = .ok (.invokevirtual 54, 3) := by decide +kernel
theorem dX1_walk_30 : decode cX1_walk 30 = .ok (.istore_n 2, 1) := by decide +kernel
theorem dX1_walk_31 : decode cX1_walk 31 = .ok (.iload_n 2, 1) := by decide +kernel
theorem dX1_walk_32 : decode cX1_walk 32 = .ok (.iconst (-1), 1) := by decide +kernel
theorem dX1_walk_33 : decode cX1_walk 33 = .ok (.if_icmp .ne 5, 3) := by decide +kernel
theorem dX1_walk_36 : decode cX1_walk 36 = .ok (.iconst (-1), 1) := by decide +kernel
theorem dX1_walk_37 : decode cX1_walk 37 = .ok (.ireturn, 1) := by decide +kernel
theorem dX1_walk_38 : decode cX1_walk 38 = .ok (.aload_n 0, 1) := by decide +kernel
theorem dX1_walk_39 : decode cX1_walk 39 = .ok (.getfield 30, 3) := by decide +kernel
theorem dX1_walk_42 : decode cX1_walk 42 = .ok (.iload 4, 2) := by decide +kernel
theorem dX1_walk_44 : decode cX1_walk 44 = .ok (.iaload, 1) := by decide +kernel
theorem dX1_walk_45 : decode cX1_walk 45 = .ok (.istore_n 3, 1) := by decide +kernel
theorem dX1_walk_46 : decode cX1_walk 46 = .ok (.iinc 4 1, 3) := by decide +kernel
theorem dX1_walk_49 : decode cX1_walk 49 = .ok (.goto (-41), 3) := by decide +kernel
theorem dX1_walk_52 : decode cX1_walk 52 = .ok (.iload_n 2, 1) := by decide +kernel
theorem dX1_walk_53 : decode cX1_walk 53 = .ok (.aload_n 0, 1) := by decide +kernel
theorem dX1_walk_54 : decode cX1_walk 54 = .ok (.iload_n 3, 1) := by decide +kernel
theorem dX1_walk_55 : decode cX1_walk 55 = .ok (.bipush 7, 2) := by decide +kernel
theorem dX1_walk_57 : decode cX1_walk 57 = .ok (.invokevirtual 41, 3) := by decide +kernel
theorem dX1_walk_60 : decode cX1_walk 60 = .ok (.iadd, 1) := by decide +kernel
theorem dX1_walk_61 : decode cX1_walk 61 = .ok (.ireturn, 1) := by decide +kernel
set_option maxRecDepth 20000 in
theorem ggX1_hasEarlierWay_X1_findWay : GoodIn wsX1_hasEarlierWay wsX1_findWay := goodIn_r _ [8, 3, 9, 10, 7, 11, 2, 1, 12, 13, 14, 15, 16, 17, 18, 19, 20, 21, 22, 23, 24, 25, 26, 27, 28, 29, 30, 31, 32, 33, 34, 35, 36, 47, 48, 49, 50, 51, 52, 53, 54, 55] (by decide +kernel) (by decide +kernel)
set_option maxRecDepth 20000 in
theorem gX1_hasEarlierWay_X1_findWay : GoodIn wsX1_hasEarlierWay (wsV RX1 71 RX1 yX1_findWay wsX1_findWay) := goodIn_app (goodIn_of _ (by decide +kernel)) ggX1_hasEarlierWay_X1_findWay
set_option maxRecDepth 20000 in
theorem ggX1_hasEarlierWay_X1_walk : GoodIn wsX1_hasEarlierWay wsX1_walk := goodIn_r _ [40, 1, 2, 27, 28, 29, 7, 30, 31, 32, 33, 34, 24, 35, 36, 17, 18, 19, 20, 21, 22, 23, 25, 26, 47, 48, 49, 50, 51, 52, 53, 54, 55] (by decide +kernel) (by decide +kernel)
set_option maxRecDepth 20000 in
theorem gX1_hasEarlierWay_X1_walk : GoodIn wsX1_hasEarlierWay (wsV RX1 75 RX1 yX1_walk wsX1_walk) := goodIn_app (goodIn_of _ (by decide +kernel)) ggX1_hasEarlierWay_X1_walk
set_option maxRecDepth 20000 in
theorem ggX1_hasEarlierWay_X11_makeNextOrder : GoodIn wsX1_hasEarlierWay wsX11_makeNextOrder := goodIn_r _ [43, 44, 45, 42, 46] (by decide +kernel) (by decide +kernel)
set_option maxRecDepth 20000 in
theorem gX1_hasEarlierWay_X11_makeNextOrder_n78 : GoodIn wsX1_hasEarlierWay (wsX11_makeNextOrder) := ggX1_hasEarlierWay_X11_makeNextOrder
theorem dX1_hasEarlierWay_0 : decode cX1_hasEarlierWay 0 = .ok (.aload_n 0, 1) := by decide +kernel
theorem dX1_hasEarlierWay_1 : decode cX1_hasEarlierWay 1 = .ok (.getfield 45, 3) := by decide +kernel
theorem dX1_hasEarlierWay_4 : decode cX1_hasEarlierWay 4 = .ok (.iconst 5, 1) := by decide +kernel
theorem dX1_hasEarlierWay_5 : decode cX1_hasEarlierWay 5 = .ok (.if_icmp .le 5, 3) := by decide +kernel
theorem dX1_hasEarlierWay_8 : decode cX1_hasEarlierWay 8 = .ok (.iconst 0, 1) := by decide +kernel
theorem dX1_hasEarlierWay_9 : decode cX1_hasEarlierWay 9 = .ok (.ireturn, 1) := by decide +kernel
theorem dX1_hasEarlierWay_10 : decode cX1_hasEarlierWay 10 = .ok (.aload_n 0, 1) := by decide +kernel
theorem dX1_hasEarlierWay_11 : decode cX1_hasEarlierWay 11 = .ok (.iconst 0, 1) := by decide +kernel
theorem dX1_hasEarlierWay_12 : decode cX1_hasEarlierWay 12 = .ok (.invokevirtual 71, 3) := by decide +kernel
theorem dX1_hasEarlierWay_15 : decode cX1_hasEarlierWay 15 = .ok (.istore_n 1, 1) := by decide +kernel
theorem dX1_hasEarlierWay_16 : decode cX1_hasEarlierWay 16 = .ok (.iconst 0, 1) := by decide +kernel
theorem dX1_hasEarlierWay_17 : decode cX1_hasEarlierWay 17 = .ok (.istore_n 2, 1) := by decide +kernel
theorem dX1_hasEarlierWay_18 : decode cX1_hasEarlierWay 18 = .ok (.iload_n 2, 1) := by decide +kernel
theorem dX1_hasEarlierWay_19 : decode cX1_hasEarlierWay 19 = .ok (.aload_n 0, 1) := by decide +kernel
theorem dX1_hasEarlierWay_20 : decode cX1_hasEarlierWay 20 = .ok (.getfield 45, 3) := by decide +kernel
theorem dX1_hasEarlierWay_23 : decode cX1_hasEarlierWay 23 = .ok (.if_icmp .ge 16, 3) := by decide +kernel
theorem dX1_hasEarlierWay_26 : decode cX1_hasEarlierWay 26 = .ok (.aload_n 0, 1) := by decide +kernel
theorem dX1_hasEarlierWay_27 : decode cX1_hasEarlierWay 27 = .ok (.getfield 30, 3) := by decide +kernel
theorem dX1_hasEarlierWay_30 : decode cX1_hasEarlierWay 30 = .ok (.iload_n 2, 1) := by decide +kernel
theorem dX1_hasEarlierWay_31 : decode cX1_hasEarlierWay 31 = .ok (.iload_n 2, 1) := by decide +kernel
theorem dX1_hasEarlierWay_32 : decode cX1_hasEarlierWay 32 = .ok (.iastore, 1) := by decide +kernel
theorem dX1_hasEarlierWay_33 : decode cX1_hasEarlierWay 33 = .ok (.iinc 2 1, 3) := by decide +kernel
theorem dX1_hasEarlierWay_36 : decode cX1_hasEarlierWay 36 = .ok (.goto (-18), 3) := by decide +kernel
theorem dX1_hasEarlierWay_39 : decode cX1_hasEarlierWay 39 = .ok (.iconst 0, 1) := by decide +kernel
theorem dX1_hasEarlierWay_40 : decode cX1_hasEarlierWay 40 = .ok (.istore_n 2, 1) := by decide +kernel
theorem dX1_hasEarlierWay_41 : decode cX1_hasEarlierWay 41 = .ok (.iload_n 2, 1) := by decide +kernel
theorem dX1_hasEarlierWay_42 : decode cX1_hasEarlierWay 42 = .ok (.bipush 120, 2) := by decide +kernel
theorem dX1_hasEarlierWay_44 : decode cX1_hasEarlierWay 44 = .ok (.if_icmp .ge 50, 3) := by decide +kernel
theorem dX1_hasEarlierWay_47 : decode cX1_hasEarlierWay 47 = .ok (.aload_n 0, 1) := by decide +kernel
theorem dX1_hasEarlierWay_48 : decode cX1_hasEarlierWay 48 = .ok (.iconst 0, 1) := by decide +kernel
theorem dX1_hasEarlierWay_49 : decode cX1_hasEarlierWay 49 = .ok (.invokevirtual 75, 3) := by decide +kernel
theorem dX1_hasEarlierWay_52 : decode cX1_hasEarlierWay 52 = .ok (.istore_n 3, 1) := by decide +kernel
theorem dX1_hasEarlierWay_53 : decode cX1_hasEarlierWay 53 = .ok (.iload_n 3, 1) := by decide +kernel
theorem dX1_hasEarlierWay_54 : decode cX1_hasEarlierWay 54 = .ok (.iconst (-1), 1) := by decide +kernel
theorem dX1_hasEarlierWay_55 : decode cX1_hasEarlierWay 55 = .ok (.if_icmp .eq 17, 3) := by decide +kernel
theorem dX1_hasEarlierWay_58 : decode cX1_hasEarlierWay 58 = .ok (.iload_n 1, 1) := by decide +kernel
theorem dX1_hasEarlierWay_59 : decode cX1_hasEarlierWay 59 = .ok (.ifCond .eq 11, 3) := by decide +kernel
theorem dX1_hasEarlierWay_62 : decode cX1_hasEarlierWay 62 = .ok (.iload_n 3, 1) := by decide +kernel
theorem dX1_hasEarlierWay_63 : decode cX1_hasEarlierWay 63 = .ok (.aload_n 0, 1) := by decide +kernel
theorem dX1_hasEarlierWay_64 : decode cX1_hasEarlierWay 64 = .ok (.getfield 33, 3) := by decide +kernel
theorem dX1_hasEarlierWay_67 : decode cX1_hasEarlierWay 67 = .ok (.if_icmp .ge 5, 3) := by decide +kernel
theorem dX1_hasEarlierWay_70 : decode cX1_hasEarlierWay 70 = .ok (.iconst 1, 1) := by decide +kernel
theorem dX1_hasEarlierWay_71 : decode cX1_hasEarlierWay 71 = .ok (.ireturn, 1) := by decide +kernel
theorem dX1_hasEarlierWay_72 : decode cX1_hasEarlierWay 72 = .ok (.aload_n 0, 1) := by decide +kernel
theorem dX1_hasEarlierWay_73 : decode cX1_hasEarlierWay 73 = .ok (.getfield 30, 3) := by decide +kernel
theorem dX1_hasEarlierWay_76 : decode cX1_hasEarlierWay 76 = .ok (.aload_n 0, 1) := by decide +kernel
theorem dX1_hasEarlierWay_77 : decode cX1_hasEarlierWay 77 = .ok (.getfield 45, 3) := by decide +kernel
theorem dX1_hasEarlierWay_80 : decode cX1_hasEarlierWay 80 = .ok (.invokestatic 78, 3) := by decide +kernel
theorem dX1_hasEarlierWay_83 : decode cX1_hasEarlierWay 83 = .ok (.ifCond .ne 5, 3) := by decide +kernel
theorem dX1_hasEarlierWay_86 : decode cX1_hasEarlierWay 86 = .ok (.iconst 0, 1) := by decide +kernel
theorem dX1_hasEarlierWay_87 : decode cX1_hasEarlierWay 87 = .ok (.ireturn, 1) := by decide +kernel
theorem dX1_hasEarlierWay_88 : decode cX1_hasEarlierWay 88 = .ok (.iinc 2 1, 3) := by decide +kernel
theorem dX1_hasEarlierWay_91 : decode cX1_hasEarlierWay 91 = .ok (.goto (-50), 3) := by decide +kernel
theorem dX1_hasEarlierWay_94 : decode cX1_hasEarlierWay 94 = .ok (.iconst 0, 1) := by decide +kernel
theorem dX1_hasEarlierWay_95 : decode cX1_hasEarlierWay 95 = .ok (.ireturn, 1) := by decide +kernel
theorem dX1_save_0 : decode cX1_save 0 = .ok (.aload_n 1, 1) := by decide +kernel
theorem dX1_save_1 : decode cX1_save 1 = .ok (.iload_n 2, 1) := by decide +kernel
theorem dX1_save_2 : decode cX1_save 2 = .ok (.aload_n 0, 1) := by decide +kernel
theorem dX1_save_3 : decode cX1_save 3 = .ok (.getfield 45, 3) := by decide +kernel
theorem dX1_save_6 : decode cX1_save 6 = .ok (.iastore, 1) := by decide +kernel
theorem dX1_save_7 : decode cX1_save 7 = .ok (.iload_n 2, 1) := by decide +kernel
theorem dX1_save_8 : decode cX1_save 8 = .ok (.iconst 1, 1) := by decide +kernel
theorem dX1_save_9 : decode cX1_save 9 = .ok (.iadd, 1) := by decide +kernel
theorem dX1_save_10 : decode cX1_save 10 = .ok (.ireturn, 1) := by decide +kernel
theorem dX1_load_0 : decode cX1_load 0 = .ok (.aload_n 0, 1) := by decide +kernel
theorem dX1_load_1 : decode cX1_load 1 = .ok (.aload_n 1, 1) := by decide +kernel
theorem dX1_load_2 : decode cX1_load 2 = .ok (.iload_n 2, 1) := by decide +kernel
theorem dX1_load_3 : decode cX1_load 3 = .ok (.iaload, 1) := by decide +kernel
theorem dX1_load_4 : decode cX1_load 4 = .ok (.putfield 45, 3) := by decide +kernel
theorem dX1_load_7 : decode cX1_load 7 = .ok (.iload_n 2, 1) := by decide +kernel
theorem dX1_load_8 : decode cX1_load 8 = .ok (.iconst 1, 1) := by decide +kernel
theorem dX1_load_9 : decode cX1_load 9 = .ok (.iadd, 1) := by decide +kernel
theorem dX1_load_10 : decode cX1_load 10 = .ok (.ireturn, 1) := by decide +kernel
theorem dX2_init_0 : decode cX2_init 0 = .ok (.aload_n 0, 1) := by decide +kernel
theorem dX2_init_1 : decode cX2_init 1 = .ok (.invokespecial 3, 3) := by decide +kernel
theorem dX2_init_4 : decode cX2_init 4 = .ok (.aload_n 0, 1) := by decide +kernel
theorem dX2_init_5 : decode cX2_init 5 = .ok (.bipush 20, 2) := by decide +kernel
theorem dX2_init_7 : decode cX2_init 7 = .ok (.newarray .int, 2) := by decide +kernel
theorem dX2_init_9 : decode cX2_init 9 = .ok (.putfield 9, 3) := by decide +kernel
theorem dX2_init_12 : decode cX2_init 12 = .ok (.aload_n 0, 1) := by decide +kernel
theorem dX2_init_13 : decode cX2_init 13 = .ok (.bipush 20, 2) := by decide +kernel
theorem dX2_init_15 : decode cX2_init 15 = .ok (.newarray .int, 2) := by decide +kernel
theorem dX2_init_17 : decode cX2_init 17 = .ok (.putfield 15, 3) := by decide +kernel
theorem dX2_init_20 : decode cX2_init 20 = .ok (.aload_n 0, 1) := by decide +kernel
theorem dX2_init_21 : decode cX2_init 21 = .ok (.bipush 20, 2) := by decide +kernel
theorem dX2_init_23 : decode cX2_init 23 = .ok (.newarray .int, 2) := by decide +kernel
theorem dX2_init_25 : decode cX2_init 25 = .ok (.putfield 18, 3) := by decide +kernel
theorem dX2_init_28 : decode cX2_init 28 = .ok (.aload_n 0, 1) := by decide +kernel
theorem dX2_init_29 : decode cX2_init 29 = .ok (.bipush 20, 2) := by decide +kernel
theorem dX2_init_31 : decode cX2_init 31 = .ok (.newarray .int, 2) := by decide +kernel
theorem dX2_init_33 : decode cX2_init 33 = .ok (.putfield 21, 3) := by decide +kernel
theorem dX2_init_36 : decode cX2_init 36 = .ok (.aload_n 0, 1) := by decide +kernel
theorem dX2_init_37 : decode cX2_init 37 = .ok (.bipush 20, 2) := by decide +kernel
theorem dX2_init_39 : decode cX2_init 39 = .ok (.newarray .int, 2) := by decide +kernel
theorem dX2_init_41 : decode cX2_init 41 = .ok (.putfield 24, 3) := by decide +kernel
theorem dX2_init_44 : decode cX2_init 44 = .ok (.aload_n 0, 1) := by decide +kernel
theorem dX2_init_45 : decode cX2_init 45 = .ok (.bipush 20, 2) := by decide +kernel
theorem dX2_init_47 : decode cX2_init 47 = .ok (.newarray .int, 2) := by decide +kernel
theorem dX2_init_49 : decode cX2_init 49 = .ok (.putfield 27, 3) := by decide +kernel
theorem dX2_init_52 : decode cX2_init 52 = .ok (.aload_n 0, 1) := by decide +kernel
theorem dX2_init_53 : decode cX2_init 53 = .ok (.bipush 20, 2) := by decide +kernel
theorem dX2_init_55 : decode cX2_init 55 = .ok (.newarray .int, 2) := by decide +kernel
theorem dX2_init_57 : decode cX2_init 57 = .ok (.putfield 30, 3) := by decide +kernel
theorem dX2_init_60 : decode cX2_init 60 = .ok (.return_, 1) := by decide +kernel
theorem dX2_add_0 : decode cX2_add 0 = .ok (.aload_n 0, 1) := by decide +kernel
theorem dX2_add_1 : decode cX2_add 1 = .ok (.getfield 33, 3) := by decide +kernel
theorem dX2_add_4 : decode cX2_add 4 = .ok (.istore 4, 2) := by decide +kernel
theorem dX2_add_6 : decode cX2_add 6 = .ok (.aload_n 0, 1) := by decide +kernel
theorem dX2_add_7 : decode cX2_add 7 = .ok (.getfield 9, 3) := by decide +kernel
theorem dX2_add_10 : decode cX2_add 10 = .ok (.iload 4, 2) := by decide +kernel
theorem dX2_add_12 : decode cX2_add 12 = .ok (.iload_n 1, 1) := by decide +kernel
theorem dX2_add_13 : decode cX2_add 13 = .ok (.iastore, 1) := by decide +kernel
theorem dX2_add_14 : decode cX2_add 14 = .ok (.aload_n 0, 1) := by decide +kernel
theorem dX2_add_15 : decode cX2_add 15 = .ok (.getfield 15, 3) := by decide +kernel
theorem dX2_add_18 : decode cX2_add 18 = .ok (.iload 4, 2) := by decide +kernel
theorem dX2_add_20 : decode cX2_add 20 = .ok (.iload_n 2, 1) := by decide +kernel
theorem dX2_add_21 : decode cX2_add 21 = .ok (.iastore, 1) := by decide +kernel
theorem dX2_add_22 : decode cX2_add 22 = .ok (.aload_n 0, 1) := by decide +kernel
theorem dX2_add_23 : decode cX2_add 23 = .ok (.getfield 18, 3) := by decide +kernel
theorem dX2_add_26 : decode cX2_add 26 = .ok (.iload 4, 2) := by decide +kernel
theorem dX2_add_28 : decode cX2_add 28 = .ok (.iload_n 3, 1) := by decide +kernel
theorem dX2_add_29 : decode cX2_add 29 = .ok (.iastore, 1) := by decide +kernel
theorem dX2_add_30 : decode cX2_add 30 = .ok (.aload_n 0, 1) := by decide +kernel
theorem dX2_add_31 : decode cX2_add 31 = .ok (.getfield 21, 3) := by decide +kernel
theorem dX2_add_34 : decode cX2_add 34 = .ok (.iload 4, 2) := by decide +kernel
theorem dX2_add_36 : decode cX2_add 36 = .ok (.iconst 0, 1) := by decide +kernel
theorem dX2_add_37 : decode cX2_add 37 = .ok (.iastore, 1) := by decide +kernel
theorem dX2_add_38 : decode cX2_add 38 = .ok (.aload_n 0, 1) := by decide +kernel
theorem dX2_add_39 : decode cX2_add 39 = .ok (.getfield 24, 3) := by decide +kernel
theorem dX2_add_42 : decode cX2_add 42 = .ok (.iload 4, 2) := by decide +kernel
theorem dX2_add_44 : decode cX2_add 44 = .ok (.iconst 0, 1) := by decide +kernel
theorem dX2_add_45 : decode cX2_add 45 = .ok (.iastore, 1) := by decide +kernel
theorem dX2_add_46 : decode cX2_add 46 = .ok (.aload_n 0, 1) := by decide +kernel
theorem dX2_add_47 : decode cX2_add 47 = .ok (.getfield 27, 3) := by decide +kernel
theorem dX2_add_50 : decode cX2_add 50 = .ok (.iload 4, 2) := by decide +kernel
theorem dX2_add_52 : decode cX2_add 52 = .ok (.iconst (-1), 1) := by decide +kernel
theorem dX2_add_53 : decode cX2_add 53 = .ok (.iastore, 1) := by decide +kernel
theorem dX2_add_54 : decode cX2_add 54 = .ok (.aload_n 0, 1) := by decide +kernel
theorem dX2_add_55 : decode cX2_add 55 = .ok (.getfield 30, 3) := by decide +kernel
theorem dX2_add_58 : decode cX2_add 58 = .ok (.iload 4, 2) := by decide +kernel
theorem dX2_add_60 : decode cX2_add 60 = .ok (.iconst (-1), 1) := by decide +kernel
theorem dX2_add_61 : decode cX2_add 61 = .ok (.iastore, 1) := by decide +kernel
theorem dX2_add_62 : decode cX2_add 62 = .ok (.aload_n 0, 1) := by decide +kernel
theorem dX2_add_63 : decode cX2_add 63 = .ok (.dup, 1) := by decide +kernel
theorem dX2_add_64 : decode cX2_add 64 = .ok (.getfield 33, 3) := by decide +kernel
theorem dX2_add_67 : decode cX2_add 67 = .ok (.iconst 1, 1) := by decide +kernel
theorem dX2_add_68 : decode cX2_add 68 = .ok (.iadd, 1) := by decide +kernel
theorem dX2_add_69 : decode cX2_add 69 = .ok (.putfield 33, 3) := by decide +kernel
theorem dX2_add_72 : decode cX2_add 72 = .ok (.iload 4, 2) := by decide +kernel
theorem dX2_add_74 : decode cX2_add 74 = .ok (.ireturn, 1) := by decide +kernel
theorem dX2_rise_0 : decode cX2_rise 0 = .ok (.iconst 0, 1) := by decide +kernel
theorem dX2_rise_1 : decode cX2_rise 1 = .ok (.istore_n 2, 1) := by decide +kernel
theorem dX2_rise_2 : decode cX2_rise 2 = .ok (.iload_n 2, 1) := by decide +kernel
theorem dX2_rise_3 : decode cX2_rise 3 = .ok (.aload_n 0, 1) := by decide +kernel
theorem dX2_rise_4 : decode cX2_rise 4 = .ok (.getfield 33, 3) := by decide +kernel
theorem dX2_rise_7 : decode cX2_rise 7 = .ok (.if_icmp .ge 28, 3) := by decide +kernel
theorem dX2_rise_10 : decode cX2_rise 10 = .ok (.aload_n 0, 1) := by decide +kernel
theorem dX2_rise_11 : decode cX2_rise 11 = .ok (.getfield 24, 3) := by decide +kernel
theorem dX2_rise_14 : decode cX2_rise 14 = .ok (.iload_n 2, 1) := by decide +kernel
theorem dX2_rise_15 : decode cX2_rise 15 = .ok (.iaload, 1) := by decide +kernel
theorem dX2_rise_16 : decode cX2_rise 16 = .ok (.ifCond .ne 13, 3) := by decide +kernel
theorem dX2_rise_19 : decode cX2_rise 19 = .ok (.aload_n 0, 1) := by decide +kernel
theorem dX2_rise_20 : decode cX2_rise 20 = .ok (.getfield 21, 3) := by decide +kernel
theorem dX2_rise_23 : decode cX2_rise 23 = .ok (.iload_n 2, 1) := by decide +kernel
theorem dX2_rise_24 : decode cX2_rise 24 = .ok (.dup2, 1) := by decide +kernel
theorem dX2_rise_25 : decode cX2_rise 25 = .ok (.iaload, 1) := by decide +kernel
theorem dX2_rise_26 : decode cX2_rise 26 = .ok (.iload_n 1, 1) := by decide +kernel
theorem dX2_rise_27 : decode cX2_rise 27 = .ok (.iadd, 1) := by decide +kernel
theorem dX2_rise_28 : decode cX2_rise 28 = .ok (.iastore, 1) := by decide +kernel
theorem dX2_rise_29 : decode cX2_rise 29 = .ok (.iinc 2 1, 3) := by decide +kernel
theorem dX2_rise_32 : decode cX2_rise 32 = .ok (.goto (-30), 3) := by decide +kernel
theorem dX2_rise_35 : decode cX2_rise 35 = .ok (.return_, 1) := by decide +kernel
theorem dX2_wentIntoOvenAt_0 : decode cX2_wentIntoOvenAt 0 = .ok (.iconst 0, 1) := by decide +kernel
theorem dX2_wentIntoOvenAt_1 : decode cX2_wentIntoOvenAt 1 = .ok (.istore_n 2, 1) := by decide +kernel
theorem dX2_wentIntoOvenAt_2 : decode cX2_wentIntoOvenAt 2 = .ok (.iconst 0, 1) := by decide +kernel
theorem dX2_wentIntoOvenAt_3 : decode cX2_wentIntoOvenAt 3 = .ok (.istore_n 3, 1) := by decide +kernel
theorem dX2_wentIntoOvenAt_4 : decode cX2_wentIntoOvenAt 4 = .ok (.iload_n 3, 1) := by decide +kernel
theorem dX2_wentIntoOvenAt_5 : decode cX2_wentIntoOvenAt 5 = .ok (.aload_n 0, 1) := by decide +kernel
theorem dX2_wentIntoOvenAt_6 : decode cX2_wentIntoOvenAt 6 = .ok (.getfield 33, 3) := by decide +kernel
theorem dX2_wentIntoOvenAt_9 : decode cX2_wentIntoOvenAt 9 = .ok (.if_icmp .ge 22, 3) := by decide +kernel
theorem dX2_wentIntoOvenAt_12 : decode cX2_wentIntoOvenAt 12 = .ok (.aload_n 0, 1) := by decide +kernel
theorem dX2_wentIntoOvenAt_13 : decode cX2_wentIntoOvenAt 13 = .ok (.getfield 30, 3) := by decide +kernel
theorem dX2_wentIntoOvenAt_16 : decode cX2_wentIntoOvenAt 16 = .ok (.iload_n 3, 1) := by decide +kernel
theorem dX2_wentIntoOvenAt_17 : decode cX2_wentIntoOvenAt 17 = .ok (.iaload, 1) := by decide +kernel
theorem dX2_wentIntoOvenAt_18 : decode cX2_wentIntoOvenAt 18 = .ok (.iload_n 1, 1) := by decide +kernel
theorem dX2_wentIntoOvenAt_19 : decode cX2_wentIntoOvenAt 19 = .ok (.if_icmp .ne 6, 3) := by decide +kernel
theorem dX2_wentIntoOvenAt_22 : decode cX2_wentIntoOvenAt 22 = .ok (.iinc 2 1, 3) := by decide +kernel
theorem dX2_wentIntoOvenAt_25 : decode cX2_wentIntoOvenAt 25 = .ok (.iinc 3 1, 3) := by decide +kernel
theorem dX2_wentIntoOvenAt_28 : decode cX2_wentIntoOvenAt 28 = .ok (.goto (-24), 3) := by decide +kernel
theorem dX2_wentIntoOvenAt_31 : decode cX2_wentIntoOvenAt 31 = .ok (.iload_n 2, 1) := by decide +kernel
theorem dX2_wentIntoOvenAt_32 : decode cX2_wentIntoOvenAt 32 = .ok (.ireturn, 1) := by decide +kernel
theorem dX2_gramsIn_0 : decode cX2_gramsIn 0 = .ok (.iconst 0, 1) := by decide +kernel
theorem dX2_gramsIn_1 : decode cX2_gramsIn 1 = .ok (.istore_n 2, 1) := by decide +kernel
theorem dX2_gramsIn_2 : decode cX2_gramsIn 2 = .ok (.iconst 0, 1) := by decide +kernel
theorem dX2_gramsIn_3 : decode cX2_gramsIn 3 = .ok (.istore_n 3, 1) := by decide +kernel
theorem dX2_gramsIn_4 : decode cX2_gramsIn 4 = .ok (.iload_n 3, 1) := by decide +kernel
theorem dX2_gramsIn_5 : decode cX2_gramsIn 5 = .ok (.aload_n 0, 1) := by decide +kernel
theorem dX2_gramsIn_6 : decode cX2_gramsIn 6 = .ok (.getfield 33, 3) := by decide +kernel
theorem dX2_gramsIn_9 : decode cX2_gramsIn 9 = .ok (.if_icmp .ge 28, 3) := by decide +kernel
theorem dX2_gramsIn_12 : decode cX2_gramsIn 12 = .ok (.aload_n 0, 1) := by decide +kernel
theorem dX2_gramsIn_13 : decode cX2_gramsIn 13 = .ok (.getfield 24, 3) := by decide +kernel
theorem dX2_gramsIn_16 : decode cX2_gramsIn 16 = .ok (.iload_n 3, 1) := by decide +kernel
theorem dX2_gramsIn_17 : decode cX2_gramsIn 17 = .ok (.iaload, 1) := by decide +kernel
theorem dX2_gramsIn_18 : decode cX2_gramsIn 18 = .ok (.iload_n 1, 1) := by decide +kernel
theorem dX2_gramsIn_19 : decode cX2_gramsIn 19 = .ok (.if_icmp .ne 12, 3) := by decide +kernel
theorem dX2_gramsIn_22 : decode cX2_gramsIn 22 = .ok (.iload_n 2, 1) := by decide +kernel
theorem dX2_gramsIn_23 : decode cX2_gramsIn 23 = .ok (.aload_n 0, 1) := by decide +kernel
theorem dX2_gramsIn_24 : decode cX2_gramsIn 24 = .ok (.getfield 18, 3) := by decide +kernel
theorem dX2_gramsIn_27 : decode cX2_gramsIn 27 = .ok (.iload_n 3, 1) := by decide +kernel
theorem dX2_gramsIn_28 : decode cX2_gramsIn 28 = .ok (.iaload, 1) := by decide +kernel
theorem dX2_gramsIn_29 : decode cX2_gramsIn 29 = .ok (.iadd, 1) := by decide +kernel
theorem dX2_gramsIn_30 : decode cX2_gramsIn 30 = .ok (.istore_n 2, 1) := by decide +kernel
theorem dX2_gramsIn_31 : decode cX2_gramsIn 31 = .ok (.iinc 3 1, 3) := by decide +kernel
theorem dX2_gramsIn_34 : decode cX2_gramsIn 34 = .ok (.goto (-30), 3) := by decide +kernel
theorem dX2_gramsIn_37 : decode cX2_gramsIn 37 = .ok (.iload_n 2, 1) := by decide +kernel
theorem dX2_gramsIn_38 : decode cX2_gramsIn 38 = .ok (.ireturn, 1) := by decide +kernel
theorem dX2_save_0 : decode cX2_save 0 = .ok (.aload_n 1, 1) := by decide +kernel
theorem dX2_save_1 : decode cX2_save 1 = .ok (.iload_n 2, 1) := by decide +kernel
theorem dX2_save_2 : decode cX2_save 2 = .ok (.aload_n 0, 1) := by decide +kernel
theorem dX2_save_3 : decode cX2_save 3 = .ok (.getfield 33, 3) := by decide +kernel
theorem dX2_save_6 : decode cX2_save 6 = .ok (.iastore, 1) := by decide +kernel
theorem dX2_save_7 : decode cX2_save 7 = .ok (.aload_n 0, 1) := by decide +kernel
theorem dX2_save_8 : decode cX2_save 8 = .ok (.getfield 21, 3) := by decide +kernel
theorem dX2_save_11 : decode cX2_save 11 = .ok (.iconst 0, 1) := by decide +kernel
theorem dX2_save_12 : decode cX2_save 12 = .ok (.aload_n 1, 1) := by decide +kernel
theorem dX2_save_13 : decode cX2_save 13 = .ok (.iload_n 2, 1) := by decide +kernel
theorem dX2_save_14 : decode cX2_save 14 = .ok (.iconst 1, 1) := by decide +kernel
theorem dX2_save_15 : decode cX2_save 15 = .ok (.iadd, 1) := by decide +kernel
theorem dX2_save_16 : decode cX2_save 16 = .ok (.bipush 20, 2) := by decide +kernel
theorem dX2_save_18 : decode cX2_save 18 = .ok (.invokestatic 37, 3) := by decide +kernel
theorem dX2_save_21 : decode cX2_save 21 = .ok (.aload_n 0, 1) := by decide +kernel
theorem dX2_save_22 : decode cX2_save 22 = .ok (.getfield 24, 3) := by decide +kernel
theorem dX2_save_25 : decode cX2_save 25 = .ok (.iconst 0, 1) := by decide +kernel
theorem dX2_save_26 : decode cX2_save 26 = .ok (.aload_n 1, 1) := by decide +kernel
theorem dX2_save_27 : decode cX2_save 27 = .ok (.iload_n 2, 1) := by decide +kernel
theorem dX2_save_28 : decode cX2_save 28 = .ok (.iconst 1, 1) := by decide +kernel
theorem dX2_save_29 : decode cX2_save 29 = .ok (.iadd, 1) := by decide +kernel
theorem dX2_save_30 : decode cX2_save 30 = .ok (.bipush 20, 2) := by decide +kernel
theorem dX2_save_32 : decode cX2_save 32 = .ok (.iadd, 1) := by decide +kernel
theorem dX2_save_33 : decode cX2_save 33 = .ok (.bipush 20, 2) := by decide +kernel
theorem dX2_save_35 : decode cX2_save 35 = .ok (.invokestatic 37, 3) := by decide +kernel
theorem dX2_save_38 : decode cX2_save 38 = .ok (.aload_n 0, 1) := by decide +kernel
theorem dX2_save_39 : decode cX2_save 39 = .ok (.getfield 27, 3) := by decide +kernel
theorem dX2_save_42 : decode cX2_save 42 = .ok (.iconst 0, 1) := by decide +kernel
theorem dX2_save_43 : decode cX2_save 43 = .ok (.aload_n 1, 1) := by decide +kernel
theorem dX2_save_44 : decode cX2_save 44 = .ok (.iload_n 2, 1) := by decide +kernel
theorem dX2_save_45 : decode cX2_save 45 = .ok (.iconst 1, 1) := by decide +kernel
theorem dX2_save_46 : decode cX2_save 46 = .ok (.iadd, 1) := by decide +kernel
theorem dX2_save_47 : decode cX2_save 47 = .ok (.bipush 40, 2) := by decide +kernel
theorem dX2_save_49 : decode cX2_save 49 = .ok (.iadd, 1) := by decide +kernel
theorem dX2_save_50 : decode cX2_save 50 = .ok (.bipush 20, 2) := by decide +kernel
theorem dX2_save_52 : decode cX2_save 52 = .ok (.invokestatic 37, 3) := by decide +kernel
theorem dX2_save_55 : decode cX2_save 55 = .ok (.aload_n 0, 1) := by decide +kernel
theorem dX2_save_56 : decode cX2_save 56 = .ok (.getfield 30, 3) := by decide +kernel
theorem dX2_save_59 : decode cX2_save 59 = .ok (.iconst 0, 1) := by decide +kernel
theorem dX2_save_60 : decode cX2_save 60 = .ok (.aload_n 1, 1) := by decide +kernel
theorem dX2_save_61 : decode cX2_save 61 = .ok (.iload_n 2, 1) := by decide +kernel
theorem dX2_save_62 : decode cX2_save 62 = .ok (.iconst 1, 1) := by decide +kernel
theorem dX2_save_63 : decode cX2_save 63 = .ok (.iadd, 1) := by decide +kernel
theorem dX2_save_64 : decode cX2_save 64 = .ok (.bipush 60, 2) := by decide +kernel
theorem dX2_save_66 : decode cX2_save 66 = .ok (.iadd, 1) := by decide +kernel
theorem dX2_save_67 : decode cX2_save 67 = .ok (.bipush 20, 2) := by decide +kernel
theorem dX2_save_69 : decode cX2_save 69 = .ok (.invokestatic 37, 3) := by decide +kernel
theorem dX2_save_72 : decode cX2_save 72 = .ok (.iload_n 2, 1) := by decide +kernel
theorem dX2_save_73 : decode cX2_save 73 = .ok (.bipush 81, 2) := by decide +kernel
theorem dX2_save_75 : decode cX2_save 75 = .ok (.iadd, 1) := by decide +kernel
theorem dX2_save_76 : decode cX2_save 76 = .ok (.ireturn, 1) := by decide +kernel
theorem dX2_load_0 : decode cX2_load 0 = .ok (.aload_n 0, 1) := by decide +kernel
theorem dX2_load_1 : decode cX2_load 1 = .ok (.aload_n 1, 1) := by decide +kernel
theorem dX2_load_2 : decode cX2_load 2 = .ok (.iload_n 2, 1) := by decide +kernel
theorem dX2_load_3 : decode cX2_load 3 = .ok (.iaload, 1) := by decide +kernel
theorem dX2_load_4 : decode cX2_load 4 = .ok (.putfield 33, 3) := by decide +kernel
theorem dX2_load_7 : decode cX2_load 7 = .ok (.aload_n 1, 1) := by decide +kernel
theorem dX2_load_8 : decode cX2_load 8 = .ok (.iload_n 2, 1) := by decide +kernel
theorem dX2_load_9 : decode cX2_load 9 = .ok (.iconst 1, 1) := by decide +kernel
theorem dX2_load_10 : decode cX2_load 10 = .ok (.iadd, 1) := by decide +kernel
theorem dX2_load_11 : decode cX2_load 11 = .ok (.aload_n 0, 1) := by decide +kernel
theorem dX2_load_12 : decode cX2_load 12 = .ok (.getfield 21, 3) := by decide +kernel
theorem dX2_load_15 : decode cX2_load 15 = .ok (.iconst 0, 1) := by decide +kernel
theorem dX2_load_16 : decode cX2_load 16 = .ok (.bipush 20, 2) := by decide +kernel
theorem dX2_load_18 : decode cX2_load 18 = .ok (.invokestatic 37, 3) := by decide +kernel
theorem dX2_load_21 : decode cX2_load 21 = .ok (.aload_n 1, 1) := by decide +kernel
theorem dX2_load_22 : decode cX2_load 22 = .ok (.iload_n 2, 1) := by decide +kernel
theorem dX2_load_23 : decode cX2_load 23 = .ok (.iconst 1, 1) := by decide +kernel
theorem dX2_load_24 : decode cX2_load 24 = .ok (.iadd, 1) := by decide +kernel
theorem dX2_load_25 : decode cX2_load 25 = .ok (.bipush 20, 2) := by decide +kernel
theorem dX2_load_27 : decode cX2_load 27 = .ok (.iadd, 1) := by decide +kernel
theorem dX2_load_28 : decode cX2_load 28 = .ok (.aload_n 0, 1) := by decide +kernel
theorem dX2_load_29 : decode cX2_load 29 = .ok (.getfield 24, 3) := by decide +kernel
theorem dX2_load_32 : decode cX2_load 32 = .ok (.iconst 0, 1) := by decide +kernel
theorem dX2_load_33 : decode cX2_load 33 = .ok (.bipush 20, 2) := by decide +kernel
theorem dX2_load_35 : decode cX2_load 35 = .ok (.invokestatic 37, 3) := by decide +kernel
theorem dX2_load_38 : decode cX2_load 38 = .ok (.aload_n 1, 1) := by decide +kernel
theorem dX2_load_39 : decode cX2_load 39 = .ok (.iload_n 2, 1) := by decide +kernel
theorem dX2_load_40 : decode cX2_load 40 = .ok (.iconst 1, 1) := by decide +kernel
theorem dX2_load_41 : decode cX2_load 41 = .ok (.iadd, 1) := by decide +kernel
theorem dX2_load_42 : decode cX2_load 42 = .ok (.bipush 40, 2) := by decide +kernel
theorem dX2_load_44 : decode cX2_load 44 = .ok (.iadd, 1) := by decide +kernel
theorem dX2_load_45 : decode cX2_load 45 = .ok (.aload_n 0, 1) := by decide +kernel
theorem dX2_load_46 : decode cX2_load 46 = .ok (.getfield 27, 3) := by decide +kernel
theorem dX2_load_49 : decode cX2_load 49 = .ok (.iconst 0, 1) := by decide +kernel
theorem dX2_load_50 : decode cX2_load 50 = .ok (.bipush 20, 2) := by decide +kernel
theorem dX2_load_52 : decode cX2_load 52 = .ok (.invokestatic 37, 3) := by decide +kernel
theorem dX2_load_55 : decode cX2_load 55 = .ok (.aload_n 1, 1) := by decide +kernel
theorem dX2_load_56 : decode cX2_load 56 = .ok (.iload_n 2, 1) := by decide +kernel
theorem dX2_load_57 : decode cX2_load 57 = .ok (.iconst 1, 1) := by decide +kernel
theorem dX2_load_58 : decode cX2_load 58 = .ok (.iadd, 1) := by decide +kernel
theorem dX2_load_59 : decode cX2_load 59 = .ok (.bipush 60, 2) := by decide +kernel
theorem dX2_load_61 : decode cX2_load 61 = .ok (.iadd, 1) := by decide +kernel
theorem dX2_load_62 : decode cX2_load 62 = .ok (.aload_n 0, 1) := by decide +kernel
theorem dX2_load_63 : decode cX2_load 63 = .ok (.getfield 30, 3) := by decide +kernel
theorem dX2_load_66 : decode cX2_load 66 = .ok (.iconst 0, 1) := by decide +kernel
theorem dX2_load_67 : decode cX2_load 67 = .ok (.bipush 20, 2) := by decide +kernel
theorem dX2_load_69 : decode cX2_load 69 = .ok (.invokestatic 37, 3) := by decide +kernel
theorem dX2_load_72 : decode cX2_load 72 = .ok (.iload_n 2, 1) := by decide +kernel
theorem dX2_load_73 : decode cX2_load 73 = .ok (.bipush 81, 2) := by decide +kernel
theorem dX2_load_75 : decode cX2_load 75 = .ok (.iadd, 1) := by decide +kernel
theorem dX2_load_76 : decode cX2_load 76 = .ok (.ireturn, 1) := by decide +kernel
theorem dX3_init_0 : decode cX3_init 0 = .ok (.aload_n 0, 1) := by decide +kernel
theorem dX3_init_1 : decode cX3_init 1 = .ok (.invokespecial 3, 3) := by decide +kernel
theorem dX3_init_4 : decode cX3_init 4 = .ok (.aload_n 0, 1) := by decide +kernel
theorem dX3_init_5 : decode cX3_init 5 = .ok (.iconst 4, 1) := by decide +kernel
theorem dX3_init_6 : decode cX3_init 6 = .ok (.newarray .int, 2) := by decide +kernel
theorem dX3_init_8 : decode cX3_init 8 = .ok (.putfield 9, 3) := by decide +kernel
theorem dX3_init_11 : decode cX3_init 11 = .ok (.aload_n 0, 1) := by decide +kernel
theorem dX3_init_12 : decode cX3_init 12 = .ok (.iconst 4, 1) := by decide +kernel
theorem dX3_init_13 : decode cX3_init 13 = .ok (.newarray .int, 2) := by decide +kernel
theorem dX3_init_15 : decode cX3_init 15 = .ok (.putfield 15, 3) := by decide +kernel
theorem dX3_init_18 : decode cX3_init 18 = .ok (.aload_n 0, 1) := by decide +kernel
theorem dX3_init_19 : decode cX3_init 19 = .ok (.iconst 4, 1) := by decide +kernel
theorem dX3_init_20 : decode cX3_init 20 = .ok (.newarray .int, 2) := by decide +kernel
theorem dX3_init_22 : decode cX3_init 22 = .ok (.putfield 18, 3) := by decide +kernel
theorem dX3_init_25 : decode cX3_init 25 = .ok (.aload_n 0, 1) := by decide +kernel
theorem dX3_init_26 : decode cX3_init 26 = .ok (.iconst 4, 1) := by decide +kernel
theorem dX3_init_27 : decode cX3_init 27 = .ok (.newarray .int, 2) := by decide +kernel
theorem dX3_init_29 : decode cX3_init 29 = .ok (.putfield 21, 3) := by decide +kernel
theorem dX3_init_32 : decode cX3_init 32 = .ok (.aload_n 0, 1) := by decide +kernel
theorem dX3_init_33 : decode cX3_init 33 = .ok (.iconst 4, 1) := by decide +kernel
theorem dX3_init_34 : decode cX3_init 34 = .ok (.newarray .int, 2) := by decide +kernel
theorem dX3_init_36 : decode cX3_init 36 = .ok (.putfield 24, 3) := by decide +kernel
theorem dX3_init_39 : decode cX3_init 39 = .ok (.iconst 0, 1) := by decide +kernel
theorem dX3_init_40 : decode cX3_init 40 = .ok (.istore_n 1, 1) := by decide +kernel
theorem dX3_init_41 : decode cX3_init 41 = .ok (.iload_n 1, 1) := by decide +kernel
theorem dX3_init_42 : decode cX3_init 42 = .ok (.iconst 4, 1) := by decide +kernel
theorem dX3_init_43 : decode cX3_init 43 = .ok (.if_icmp .ge 33, 3) := by decide +kernel
theorem dX3_init_46 : decode cX3_init 46 = .ok (.aload_n 0, 1) := by decide +kernel
theorem dX3_init_47 : decode cX3_init 47 = .ok (.getfield 9, 3) := by decide +kernel
theorem dX3_init_50 : decode cX3_init 50 = .ok (.iload_n 1, 1) := by decide +kernel
theorem dX3_init_51 : decode cX3_init 51 = .ok (.bipush 100, 2) := by decide +kernel
theorem dX3_init_53 : decode cX3_init 53 = .ok (.iastore, 1) := by decide +kernel
theorem dX3_init_54 : decode cX3_init 54 = .ok (.aload_n 0, 1) := by decide +kernel
theorem dX3_init_55 : decode cX3_init 55 = .ok (.getfield 15, 3) := by decide +kernel
theorem dX3_init_58 : decode cX3_init 58 = .ok (.iload_n 1, 1) := by decide +kernel
theorem dX3_init_59 : decode cX3_init 59 = .ok (.bipush 50, 2) := by decide +kernel
theorem dX3_init_61 : decode cX3_init 61 = .ok (.iastore, 1) := by decide +kernel
theorem dX3_init_62 : decode cX3_init 62 = .ok (.aload_n 0, 1) := by decide +kernel
theorem dX3_init_63 : decode cX3_init 63 = .ok (.getfield 18, 3) := by decide +kernel
theorem dX3_init_66 : decode cX3_init 66 = .ok (.iload_n 1, 1) := by decide +kernel
theorem dX3_init_67 : decode cX3_init 67 = .ok (.bipush 100, 2) := by decide +kernel
theorem dX3_init_69 : decode cX3_init 69 = .ok (.iastore, 1) := by decide +kernel
theorem dX3_init_70 : decode cX3_init 70 = .ok (.iinc 1 1, 3) := by decide +kernel
theorem dX3_init_73 : decode cX3_init 73 = .ok (.goto (-32), 3) := by decide +kernel
theorem dX3_init_76 : decode cX3_init 76 = .ok (.return_, 1) := by decide +kernel
set_option maxRecDepth 20000 in
theorem ggX3_findMix_X3_isIn : GoodIn wsX3_findMix wsX3_isIn := goodIn_r _ [5] (by decide +kernel) (by decide +kernel)
set_option maxRecDepth 20000 in
theorem gX3_findMix_X3_isIn : GoodIn wsX3_findMix (va_wsS RX3 31 yX3_isIn wsX3_isIn) := goodIn_app (goodIn_of _ (by decide +kernel)) ggX3_findMix_X3_isIn
set_option maxRecDepth 20000 in
theorem ggX3_findMix_X3_tryOneFree : GoodIn wsX3_findMix wsX3_tryOneFree := goodIn_r _ [9, 10, 11, 12, 2, 3, 4, 5, 55, 56, 57, 58, 59, 60, 61] (by decide +kernel) (by decide +kernel)
set_option maxRecDepth 20000 in
theorem gX3_findMix_X3_tryOneFree : GoodIn wsX3_findMix (wsV RX3 35 RX3 yX3_tryOneFree wsX3_tryOneFree) := goodIn_app (goodIn_of _ (by decide +kernel)) ggX3_findMix_X3_tryOneFree
set_option maxRecDepth 20000 in
theorem ggX3_findMix_X3_keepIfBetter : GoodIn wsX3_findMix wsX3_keepIfBetter := goodIn_r _ [16, 1, 10, 17, 18, 19, 20, 21, 12, 22, 23, 24, 4, 25, 11, 26, 27, 28, 29, 30, 31, 32, 33, 34, 35, 36, 37, 38, 39, 40, 41, 42, 43, 44, 45, 46, 55, 56, 57, 58, 59, 60, 61] (by decide +kernel) (by decide +kernel)
set_option maxRecDepth 20000 in
theorem gX3_findMix_X3_keepIfBetter : GoodIn wsX3_findMix (wsV RX3 39 RX3 yX3_keepIfBetter wsX3_keepIfBetter) := goodIn_app (goodIn_of _ (by decide +kernel)) ggX3_findMix_X3_keepIfBetter
set_option maxRecDepth 20000 in
theorem ggX3_findMix_X3_tryPairs : GoodIn wsX3_findMix wsX3_tryPairs := goodIn_r _ [50, 26, 2, 3, 4, 5, 51, 52, 53, 54, 11, 10, 12, 13, 14, 15, 16, 1, 17, 18, 19, 20, 21, 22, 23, 24, 25, 27, 28, 29, 30, 31, 32, 33, 34, 35, 36, 37, 38, 39, 40, 41, 42, 43, 44, 45, 46, 55, 56, 57, 58, 59, 60, 61] (by decide +kernel) (by decide +kernel)
set_option maxRecDepth 20000 in
theorem gX3_findMix_X3_tryPairs : GoodIn wsX3_findMix (wsV RX3 42 RX3 yX3_tryPairs wsX3_tryPairs) := goodIn_app (goodIn_of _ (by decide +kernel)) ggX3_findMix_X3_tryPairs
theorem dX3_findMix_0 : decode cX3_findMix 0 = .ok (.aload_n 0, 1) := by decide +kernel
theorem dX3_findMix_1 : decode cX3_findMix 1 = .ok (.iconst 0, 1) := by decide +kernel
theorem dX3_findMix_2 : decode cX3_findMix 2 = .ok (.putfield 27, 3) := by decide +kernel
theorem dX3_findMix_5 : decode cX3_findMix 5 = .ok (.iconst 0, 1) := by decide +kernel
theorem dX3_findMix_6 : decode cX3_findMix 6 = .ok (.istore_n 3, 1) := by decide +kernel
theorem dX3_findMix_7 : decode cX3_findMix 7 = .ok (.iload_n 3, 1) := by decide +kernel
theorem dX3_findMix_8 : decode cX3_findMix 8 = .ok (.bipush 16, 2) := by decide +kernel
theorem dX3_findMix_10 : decode cX3_findMix 10 = .ok (.if_icmp .ge 55, 3) := by decide +kernel
theorem dX3_findMix_13 : decode cX3_findMix 13 = .ok (.iconst 0, 1) := by decide +kernel
theorem dX3_findMix_14 : decode cX3_findMix 14 = .ok (.istore 4, 2) := by decide +kernel
theorem dX3_findMix_16 : decode cX3_findMix 16 = .ok (.iload 4, 2) := by decide +kernel
theorem dX3_findMix_18 : decode cX3_findMix 18 = .ok (.iconst 4, 1) := by decide +kernel
theorem dX3_findMix_19 : decode cX3_findMix 19 = .ok (.if_icmp .ge 40, 3) := by decide +kernel
theorem dX3_findMix_22 : decode cX3_findMix 22 = .ok (.iload_n 3, 1) := by decide +kernel
theorem dX3_findMix_23 : decode cX3_findMix 23 = .ok (.iload 4, 2) := by decide +kernel
theorem dX3_findMix_25 : decode cX3_findMix 25 = .ok (.invokestatic 31, 3) := by decide +kernel
theorem dX3_findMix_28 : decode cX3_findMix 28 = .ok (.ifCond .ne 25, 3) := by decide +kernel
theorem dX3_findMix_31 : decode cX3_findMix 31 = .ok (.aload_n 0, 1) := by decide +kernel
theorem dX3_findMix_32 : decode cX3_findMix 32 = .ok (.iload_n 3, 1) := by decide +kernel
theorem dX3_findMix_33 : decode cX3_findMix 33 = .ok (.iload 4, 2) := by decide +kernel
theorem dX3_findMix_35 : decode cX3_findMix 35 = .ok (.invokevirtual 35, 3) := by decide +kernel
theorem dX3_findMix_38 : decode cX3_findMix 38 = .ok (.aload_n 0, 1) := by decide +kernel
theorem dX3_findMix_39 : decode cX3_findMix 39 = .ok (.iload_n 1, 1) := by decide +kernel
theorem dX3_findMix_40 : decode cX3_findMix 40 = .ok (.iload_n 2, 1) := by decide +kernel
theorem dX3_findMix_41 : decode cX3_findMix 41 = .ok (.invokevirtual 39, 3) := by decide +kernel
theorem dX3_findMix_44 : decode cX3_findMix 44 = .ok (.aload_n 0, 1) := by decide +kernel
theorem dX3_findMix_45 : decode cX3_findMix 45 = .ok (.iload_n 3, 1) := by decide +kernel
theorem dX3_findMix_46 : decode cX3_findMix 46 = .ok (.iload 4, 2) := by decide +kernel
theorem dX3_findMix_48 : decode cX3_findMix 48 = .ok (.iload_n 1, 1) := by decide +kernel
theorem dX3_findMix_49 : decode cX3_findMix 49 = .ok (.iload_n 2, 1) := by decide +kernel
theorem dX3_findMix_50 : decode cX3_findMix 50 = .ok (.invokevirtual 42, 3) := by decide +kernel
theorem dX3_findMix_53 : decode cX3_findMix 53 = .ok (.iinc 4 1, 3) := by decide +kernel
theorem dX3_findMix_56 : decode cX3_findMix 56 = .ok (.goto (-40), 3) := by decide +kernel
theorem dX3_findMix_59 : decode cX3_findMix 59 = .ok (.iinc 3 1, 3) := by decide +kernel
theorem dX3_findMix_62 : decode cX3_findMix 62 = .ok (.goto (-55), 3) := by decide +kernel
theorem dX3_findMix_65 : decode cX3_findMix 65 = .ok (.aload_n 0, 1) := by decide +kernel
theorem dX3_findMix_66 : decode cX3_findMix 66 = .ok (.getfield 27, 3) := by decide +kernel
theorem dX3_findMix_69 : decode cX3_findMix 69 = .ok (.ifCond .le 7, 3) := by decide +kernel
theorem dX3_findMix_72 : decode cX3_findMix 72 = .ok (.iconst 1, 1) := by decide +kernel
theorem dX3_findMix_73 : decode cX3_findMix 73 = .ok (.goto 4, 3) := by decide +kernel
theorem dX3_findMix_76 : decode cX3_findMix 76 = .ok (.iconst 0, 1) := by decide +kernel
theorem dX3_findMix_77 : decode cX3_findMix 77 = .ok (.ireturn, 1) := by decide +kernel
theorem dX3_costOf_0 : decode cX3_costOf 0 = .ok (.iconst 0, 1) := by decide +kernel
theorem dX3_costOf_1 : decode cX3_costOf 1 = .ok (.istore_n 2, 1) := by decide +kernel
theorem dX3_costOf_2 : decode cX3_costOf 2 = .ok (.iconst 0, 1) := by decide +kernel
theorem dX3_costOf_3 : decode cX3_costOf 3 = .ok (.istore_n 3, 1) := by decide +kernel
theorem dX3_costOf_4 : decode cX3_costOf 4 = .ok (.iload_n 3, 1) := by decide +kernel
theorem dX3_costOf_5 : decode cX3_costOf 5 = .ok (.iconst 4, 1) := by decide +kernel
theorem dX3_costOf_6 : decode cX3_costOf 6 = .ok (.if_icmp .ge 22, 3) := by decide +kernel
theorem dX3_costOf_9 : decode cX3_costOf 9 = .ok (.iload_n 2, 1) := by decide +kernel
theorem dX3_costOf_10 : decode cX3_costOf 10 = .ok (.aload_n 1, 1) := by decide +kernel
theorem dX3_costOf_11 : decode cX3_costOf 11 = .ok (.iload_n 3, 1) := by decide +kernel
theorem dX3_costOf_12 : decode cX3_costOf 12 = .ok (.iaload, 1) := by decide +kernel
theorem dX3_costOf_13 : decode cX3_costOf 13 = .ok (.aload_n 0, 1) := by decide +kernel
theorem dX3_costOf_14 : decode cX3_costOf 14 = .ok (.getfield 15, 3) := by decide +kernel
theorem dX3_costOf_17 : decode cX3_costOf 17 = .ok (.iload_n 3, 1) := by decide +kernel
theorem dX3_costOf_18 : decode cX3_costOf 18 = .ok (.iaload, 1) := by decide +kernel
theorem dX3_costOf_19 : decode cX3_costOf 19 = .ok (.imul, 1) := by decide +kernel
theorem dX3_costOf_20 : decode cX3_costOf 20 = .ok (.iadd, 1) := by decide +kernel
theorem dX3_costOf_21 : decode cX3_costOf 21 = .ok (.istore_n 2, 1) := by decide +kernel
theorem dX3_costOf_22 : decode cX3_costOf 22 = .ok (.iinc 3 1, 3) := by decide +kernel
theorem dX3_costOf_25 : decode cX3_costOf 25 = .ok (.goto (-21), 3) := by decide +kernel
theorem dX3_costOf_28 : decode cX3_costOf 28 = .ok (.iload_n 2, 1) := by decide +kernel
theorem dX3_costOf_29 : decode cX3_costOf 29 = .ok (.ireturn, 1) := by decide +kernel
theorem dX3_isIn_0 : decode cX3_isIn 0 = .ok (.iload_n 0, 1) := by decide +kernel
theorem dX3_isIn_1 : decode cX3_isIn 1 = .ok (.iload_n 1, 1) := by decide +kernel
theorem dX3_isIn_2 : decode cX3_isIn 2 = .ok (.ishr, 1) := by decide +kernel
theorem dX3_isIn_3 : decode cX3_isIn 3 = .ok (.iconst 1, 1) := by decide +kernel
theorem dX3_isIn_4 : decode cX3_isIn 4 = .ok (.iand, 1) := by decide +kernel
theorem dX3_isIn_5 : decode cX3_isIn 5 = .ok (.ifCond .eq 7, 3) := by decide +kernel
theorem dX3_isIn_8 : decode cX3_isIn 8 = .ok (.iconst 1, 1) := by decide +kernel
theorem dX3_isIn_9 : decode cX3_isIn 9 = .ok (.goto 4, 3) := by decide +kernel
theorem dX3_isIn_12 : decode cX3_isIn 12 = .ok (.iconst 0, 1) := by decide +kernel
theorem dX3_isIn_13 : decode cX3_isIn 13 = .ok (.ireturn, 1) := by decide +kernel
set_option maxRecDepth 20000 in
theorem ggX3_tryPairs_X3_isIn : GoodIn wsX3_tryPairs wsX3_isIn := goodIn_r _ [5] (by decide +kernel) (by decide +kernel)
set_option maxRecDepth 20000 in
theorem gX3_tryPairs_X3_isIn : GoodIn wsX3_tryPairs (va_wsS RX3 31 yX3_isIn wsX3_isIn) := goodIn_app (goodIn_of _ (by decide +kernel)) ggX3_tryPairs_X3_isIn
set_option maxRecDepth 20000 in
theorem ggX3_tryPairs_X3_tryTwoFree : GoodIn wsX3_tryPairs wsX3_tryTwoFree := goodIn_r _ [9, 1, 10, 11, 12, 2, 3, 4, 5, 47, 48, 49, 50, 51, 52, 53] (by decide +kernel) (by decide +kernel)
set_option maxRecDepth 20000 in
theorem gX3_tryPairs_X3_tryTwoFree : GoodIn wsX3_tryPairs (wsV RX3 46 RX3 yX3_tryTwoFree wsX3_tryTwoFree) := goodIn_app (goodIn_of _ (by decide +kernel)) ggX3_tryPairs_X3_tryTwoFree
set_option maxRecDepth 20000 in
theorem ggX3_tryPairs_X3_keepIfBetter : GoodIn wsX3_tryPairs wsX3_keepIfBetter := goodIn_r _ [16, 17, 11, 18, 19, 20, 21, 22, 12, 23, 24, 25, 4, 26, 10, 1, 27, 28, 29, 30, 31, 32, 33, 34, 35, 36, 37, 38, 39, 40, 41, 42, 43, 44, 45, 46, 47, 48, 49, 50, 51, 52, 53] (by decide +kernel) (by decide +kernel)
set_option maxRecDepth 20000 in
theorem gX3_tryPairs_X3_keepIfBetter : GoodIn wsX3_tryPairs (wsV RX3 39 RX3 yX3_keepIfBetter wsX3_keepIfBetter) := goodIn_app (goodIn_of _ (by decide +kernel)) ggX3_tryPairs_X3_keepIfBetter
theorem dX3_tryPairs_0 : decode cX3_tryPairs 0 = .ok (.iconst 0, 1) := by decide +kernel
theorem dX3_tryPairs_1 : decode cX3_tryPairs 1 = .ok (.istore 5, 2) := by decide +kernel
theorem dX3_tryPairs_3 : decode cX3_tryPairs 3 = .ok (.iload 5, 2) := by decide +kernel
theorem dX3_tryPairs_5 : decode cX3_tryPairs 5 = .ok (.iconst 4, 1) := by decide +kernel
theorem dX3_tryPairs_6 : decode cX3_tryPairs 6 = .ok (.if_icmp .ge 67, 3) := by decide +kernel
theorem dX3_tryPairs_9 : decode cX3_tryPairs 9 = .ok (.iload_n 1, 1) := by decide +kernel
theorem dX3_tryPairs_10 : decode cX3_tryPairs 10 = .ok (.iload 5, 2) := by decide +kernel
theorem dX3_tryPairs_12 : decode cX3_tryPairs 12 = .ok (.invokestatic 31, 3) := by decide +kernel
theorem dX3_tryPairs_15 : decode cX3_tryPairs 15 = .ok (.ifCond .ne 52, 3) := by decide +kernel
theorem dX3_tryPairs_18 : decode cX3_tryPairs 18 = .ok (.aload_n 0, 1) := by decide +kernel
theorem dX3_tryPairs_19 : decode cX3_tryPairs 19 = .ok (.getfield 9, 3) := by decide +kernel
theorem dX3_tryPairs_22 : decode cX3_tryPairs 22 = .ok (.iload_n 2, 1) := by decide +kernel
theorem dX3_tryPairs_23 : decode cX3_tryPairs 23 = .ok (.iaload, 1) := by decide +kernel
theorem dX3_tryPairs_24 : decode cX3_tryPairs 24 = .ok (.aload_n 0, 1) := by decide +kernel
theorem dX3_tryPairs_25 : decode cX3_tryPairs 25 = .ok (.getfield 9, 3) := by decide +kernel
theorem dX3_tryPairs_28 : decode cX3_tryPairs 28 = .ok (.iload 5, 2) := by decide +kernel
theorem dX3_tryPairs_30 : decode cX3_tryPairs 30 = .ok (.iaload, 1) := by decide +kernel
theorem dX3_tryPairs_31 : decode cX3_tryPairs 31 = .ok (.if_icmp .le 36, 3) := by decide +kernel
theorem dX3_tryPairs_34 : decode cX3_tryPairs 34 = .ok (.aload_n 0, 1) := by decide +kernel
theorem dX3_tryPairs_35 : decode cX3_tryPairs 35 = .ok (.iload_n 1, 1) := by decide +kernel
theorem dX3_tryPairs_36 : decode cX3_tryPairs 36 = .ok (.iload_n 2, 1) := by decide +kernel
theorem dX3_tryPairs_37 : decode cX3_tryPairs 37 = .ok (.iload 5, 2) := by decide +kernel
theorem dX3_tryPairs_39 : decode cX3_tryPairs 39 = .ok (.iload_n 3, 1) := by decide +kernel
theorem dX3_tryPairs_40 : decode cX3_tryPairs 40 = .ok (.invokevirtual 46, 3) := by decide +kernel
theorem dX3_tryPairs_43 : decode cX3_tryPairs 43 = .ok (.aload_n 0, 1) := by decide +kernel
theorem dX3_tryPairs_44 : decode cX3_tryPairs 44 = .ok (.iload_n 3, 1) := by decide +kernel
theorem dX3_tryPairs_45 : decode cX3_tryPairs 45 = .ok (.iload 4, 2) := by decide +kernel
theorem dX3_tryPairs_47 : decode cX3_tryPairs 47 = .ok (.invokevirtual 39, 3) := by decide +kernel
theorem dX3_tryPairs_50 : decode cX3_tryPairs 50 = .ok (.aload_n 0, 1) := by decide +kernel
theorem dX3_tryPairs_51 : decode cX3_tryPairs 51 = .ok (.iload_n 1, 1) := by decide +kernel
theorem dX3_tryPairs_52 : decode cX3_tryPairs 52 = .ok (.iload_n 2, 1) := by decide +kernel
theorem dX3_tryPairs_53 : decode cX3_tryPairs 53 = .ok (.iload 5, 2) := by decide +kernel
theorem dX3_tryPairs_55 : decode cX3_tryPairs 55 = .ok (.iload 4, 2) := by decide +kernel
theorem dX3_tryPairs_57 : decode cX3_tryPairs 57 = .ok (.invokevirtual 46, 3) := by decide +kernel
theorem dX3_tryPairs_60 : decode cX3_tryPairs 60 = .ok (.aload_n 0, 1) := by decide +kernel
theorem dX3_tryPairs_61 : decode cX3_tryPairs 61 = .ok (.iload_n 3, 1) := by decide +kernel
theorem dX3_tryPairs_62 : decode cX3_tryPairs 62 = .ok (.iload 4, 2) := by decide +kernel
theorem dX3_tryPairs_64 : decode cX3_tryPairs 64 = .ok (.invokevirtual 39, 3) := by decide +kernel
theorem dX3_tryPairs_67 : decode cX3_tryPairs 67 = .ok (.iinc 5 1, 3) := by decide +kernel
theorem dX3_tryPairs_70 : decode cX3_tryPairs 70 = .ok (.goto (-67), 3) := by decide +kernel
theorem dX3_tryPairs_73 : decode cX3_tryPairs 73 = .ok (.return_, 1) := by decide +kernel
set_option maxRecDepth 20000 in
theorem ggX3_tryOneFree_X3_isIn : GoodIn wsX3_tryOneFree wsX3_isIn := goodIn_r _ [7] (by decide +kernel) (by decide +kernel)
set_option maxRecDepth 20000 in
theorem gX3_tryOneFree_X3_isIn : GoodIn wsX3_tryOneFree (va_wsS RX3 31 yX3_isIn wsX3_isIn) := goodIn_app (goodIn_of _ (by decide +kernel)) ggX3_tryOneFree_X3_isIn
theorem dX3_tryOneFree_0 : decode cX3_tryOneFree 0 = .ok (.bipush 100, 2) := by decide +kernel
theorem dX3_tryOneFree_2 : decode cX3_tryOneFree 2 = .ok (.istore_n 3, 1) := by decide +kernel
theorem dX3_tryOneFree_3 : decode cX3_tryOneFree 3 = .ok (.iconst 0, 1) := by decide +kernel
theorem dX3_tryOneFree_4 : decode cX3_tryOneFree 4 = .ok (.istore 4, 2) := by decide +kernel
theorem dX3_tryOneFree_6 : decode cX3_tryOneFree 6 = .ok (.iload 4, 2) := by decide +kernel
theorem dX3_tryOneFree_8 : decode cX3_tryOneFree 8 = .ok (.iconst 4, 1) := by decide +kernel
theorem dX3_tryOneFree_9 : decode cX3_tryOneFree 9 = .ok (.if_icmp .ge 46, 3) := by decide +kernel
theorem dX3_tryOneFree_12 : decode cX3_tryOneFree 12 = .ok (.aload_n 0, 1) := by decide +kernel
theorem dX3_tryOneFree_13 : decode cX3_tryOneFree 13 = .ok (.getfield 24, 3) := by decide +kernel
theorem dX3_tryOneFree_16 : decode cX3_tryOneFree 16 = .ok (.iload 4, 2) := by decide +kernel
theorem dX3_tryOneFree_18 : decode cX3_tryOneFree 18 = .ok (.iload_n 1, 1) := by decide +kernel
theorem dX3_tryOneFree_19 : decode cX3_tryOneFree 19 = .ok (.iload 4, 2) := by decide +kernel
theorem dX3_tryOneFree_21 : decode cX3_tryOneFree 21 = .ok (.invokestatic 31, 3) := by decide +kernel
theorem dX3_tryOneFree_24 : decode cX3_tryOneFree 24 = .ok (.ifCond .eq 13, 3) := by decide +kernel
theorem dX3_tryOneFree_27 : decode cX3_tryOneFree 27 = .ok (.aload_n 0, 1) := by decide +kernel
theorem dX3_tryOneFree_28 : decode cX3_tryOneFree 28 = .ok (.getfield 18, 3) := by decide +kernel
theorem dX3_tryOneFree_31 : decode cX3_tryOneFree 31 = .ok (.iload 4, 2) := by decide +kernel
theorem dX3_tryOneFree_33 : decode cX3_tryOneFree 33 = .ok (.iaload, 1) := by decide +kernel
theorem dX3_tryOneFree_34 : decode cX3_tryOneFree 34 = .ok (.goto 4, 3) := by decide +kernel
theorem dX3_tryOneFree_37 : decode cX3_tryOneFree 37 = .ok (.iconst 0, 1) := by decide +kernel
theorem dX3_tryOneFree_38 : decode cX3_tryOneFree 38 = .ok (.iastore, 1) := by decide +kernel
theorem dX3_tryOneFree_39 : decode cX3_tryOneFree 39 = .ok (.iload_n 3, 1) := by decide +kernel
theorem dX3_tryOneFree_40 : decode cX3_tryOneFree 40 = .ok (.aload_n 0, 1) := by decide +kernel
theorem dX3_tryOneFree_41 : decode cX3_tryOneFree 41 = .ok (.getfield 24, 3) := by decide +kernel
theorem dX3_tryOneFree_44 : decode cX3_tryOneFree 44 = .ok (.iload 4, 2) := by decide +kernel
theorem dX3_tryOneFree_46 : decode cX3_tryOneFree 46 = .ok (.iaload, 1) := by decide +kernel
theorem dX3_tryOneFree_47 : decode cX3_tryOneFree 47 = .ok (.isub, 1) := by decide +kernel
theorem dX3_tryOneFree_48 : decode cX3_tryOneFree 48 = .ok (.istore_n 3, 1) := by decide +kernel
theorem dX3_tryOneFree_49 : decode cX3_tryOneFree 49 = .ok (.iinc 4 1, 3) := by decide +kernel
theorem dX3_tryOneFree_52 : decode cX3_tryOneFree 52 = .ok (.goto (-46), 3) := by decide +kernel
theorem dX3_tryOneFree_55 : decode cX3_tryOneFree 55 = .ok (.aload_n 0, 1) := by decide +kernel
theorem dX3_tryOneFree_56 : decode cX3_tryOneFree 56 = .ok (.getfield 24, 3) := by decide +kernel
theorem dX3_tryOneFree_59 : decode cX3_tryOneFree 59 = .ok (.iload_n 2, 1) := by decide +kernel
theorem dX3_tryOneFree_60 : decode cX3_tryOneFree 60 = .ok (.iload_n 3, 1) := by decide +kernel
theorem dX3_tryOneFree_61 : decode cX3_tryOneFree 61 = .ok (.iastore, 1) := by decide +kernel
theorem dX3_tryOneFree_62 : decode cX3_tryOneFree 62 = .ok (.aload_n 0, 1) := by decide +kernel
theorem dX3_tryOneFree_63 : decode cX3_tryOneFree 63 = .ok (.bipush 100, 2) := by decide +kernel
theorem dX3_tryOneFree_65 : decode cX3_tryOneFree 65 = .ok (.putfield 49, 3) := by decide +kernel
theorem dX3_tryOneFree_68 : decode cX3_tryOneFree 68 = .ok (.return_, 1) := by decide +kernel
set_option maxRecDepth 20000 in
theorem ggX3_tryTwoFree_X3_isIn : GoodIn wsX3_tryTwoFree wsX3_isIn := goodIn_r _ [8] (by decide +kernel) (by decide +kernel)
set_option maxRecDepth 20000 in
theorem gX3_tryTwoFree_X3_isIn : GoodIn wsX3_tryTwoFree (va_wsS RX3 31 yX3_isIn wsX3_isIn) := goodIn_app (goodIn_of _ (by decide +kernel)) ggX3_tryTwoFree_X3_isIn
theorem dX3_tryTwoFree_0 : decode cX3_tryTwoFree 0 = .ok (.aload_n 0, 1) := by decide +kernel
theorem dX3_tryTwoFree_1 : decode cX3_tryTwoFree 1 = .ok (.getfield 9, 3) := by decide +kernel
theorem dX3_tryTwoFree_4 : decode cX3_tryTwoFree 4 = .ok (.iload_n 2, 1) := by decide +kernel
theorem dX3_tryTwoFree_5 : decode cX3_tryTwoFree 5 = .ok (.iaload, 1) := by decide +kernel
theorem dX3_tryTwoFree_6 : decode cX3_tryTwoFree 6 = .ok (.aload_n 0, 1) := by decide +kernel
theorem dX3_tryTwoFree_7 : decode cX3_tryTwoFree 7 = .ok (.getfield 9, 3) := by decide +kernel
theorem dX3_tryTwoFree_10 : decode cX3_tryTwoFree 10 = .ok (.iload_n 3, 1) := by decide +kernel
theorem dX3_tryTwoFree_11 : decode cX3_tryTwoFree 11 = .ok (.iaload, 1) := by decide +kernel
theorem dX3_tryTwoFree_12 : decode cX3_tryTwoFree 12 = .ok (.isub, 1) := by decide +kernel
theorem dX3_tryTwoFree_13 : decode cX3_tryTwoFree 13 = .ok (.istore 5, 2) := by decide +kernel
theorem dX3_tryTwoFree_15 : decode cX3_tryTwoFree 15 = .ok (.bipush 100, 2) := by decide +kernel
theorem dX3_tryTwoFree_17 : decode cX3_tryTwoFree 17 = .ok (.istore 6, 2) := by decide +kernel
theorem dX3_tryTwoFree_19 : decode cX3_tryTwoFree 19 = .ok (.bipush 100, 2) := by decide +kernel
theorem dX3_tryTwoFree_21 : decode cX3_tryTwoFree 21 = .ok (.iload 4, 2) := by decide +kernel
theorem dX3_tryTwoFree_23 : decode cX3_tryTwoFree 23 = .ok (.imul, 1) := by decide +kernel
theorem dX3_tryTwoFree_24 : decode cX3_tryTwoFree 24 = .ok (.istore 7, 2) := by decide +kernel
theorem dX3_tryTwoFree_26 : decode cX3_tryTwoFree 26 = .ok (.iconst 0, 1) := by decide +kernel
theorem dX3_tryTwoFree_27 : decode cX3_tryTwoFree 27 = .ok (.istore 8, 2) := by decide +kernel
theorem dX3_tryTwoFree_29 : decode cX3_tryTwoFree 29 = .ok (.iload 8, 2) := by decide +kernel
theorem dX3_tryTwoFree_31 : decode cX3_tryTwoFree 31 = .ok (.iconst 4, 1) := by decide +kernel
theorem dX3_tryTwoFree_32 : decode cX3_tryTwoFree 32 = .ok (.if_icmp .ge 65, 3) := by decide +kernel
theorem dX3_tryTwoFree_35 : decode cX3_tryTwoFree 35 = .ok (.iload_n 1, 1) := by decide +kernel
theorem dX3_tryTwoFree_36 : decode cX3_tryTwoFree 36 = .ok (.iload 8, 2) := by decide +kernel
theorem dX3_tryTwoFree_38 : decode cX3_tryTwoFree 38 = .ok (.invokestatic 31, 3) := by decide +kernel
theorem dX3_tryTwoFree_41 : decode cX3_tryTwoFree 41 = .ok (.ifCond .eq 13, 3) := by decide +kernel
theorem dX3_tryTwoFree_44 : decode cX3_tryTwoFree 44 = .ok (.aload_n 0, 1) := by decide +kernel
theorem dX3_tryTwoFree_45 : decode cX3_tryTwoFree 45 = .ok (.getfield 18, 3) := by decide +kernel
theorem dX3_tryTwoFree_48 : decode cX3_tryTwoFree 48 = .ok (.iload 8, 2) := by decide +kernel
theorem dX3_tryTwoFree_50 : decode cX3_tryTwoFree 50 = .ok (.iaload, 1) := by decide +kernel
theorem dX3_tryTwoFree_51 : decode cX3_tryTwoFree 51 = .ok (.goto 4, 3) := by decide +kernel
theorem dX3_tryTwoFree_54 : decode cX3_tryTwoFree 54 = .ok (.iconst 0, 1) := by decide +kernel
theorem dX3_tryTwoFree_55 : decode cX3_tryTwoFree 55 = .ok (.istore 9, 2) := by decide +kernel
theorem dX3_tryTwoFree_57 : decode cX3_tryTwoFree 57 = .ok (.iload 6, 2) := by decide +kernel
theorem dX3_tryTwoFree_59 : decode cX3_tryTwoFree 59 = .ok (.iload 9, 2) := by decide +kernel
theorem dX3_tryTwoFree_61 : decode cX3_tryTwoFree 61 = .ok (.isub, 1) := by decide +kernel
theorem dX3_tryTwoFree_62 : decode cX3_tryTwoFree 62 = .ok (.istore 6, 2) := by decide +kernel
theorem dX3_tryTwoFree_64 : decode cX3_tryTwoFree 64 = .ok (.iload 7, 2) := by decide +kernel
theorem dX3_tryTwoFree_66 : decode cX3_tryTwoFree 66 = .ok (.iload 9, 2) := by decide +kernel
theorem dX3_tryTwoFree_68 : decode cX3_tryTwoFree 68 = .ok (.aload_n 0, 1) := by decide +kernel
theorem dX3_tryTwoFree_69 : decode cX3_tryTwoFree 69 = .ok (.getfield 9, 3) := by decide +kernel
theorem dX3_tryTwoFree_72 : decode cX3_tryTwoFree 72 = .ok (.iload 8, 2) := by decide +kernel
theorem dX3_tryTwoFree_74 : decode cX3_tryTwoFree 74 = .ok (.iaload, 1) := by decide +kernel
theorem dX3_tryTwoFree_75 : decode cX3_tryTwoFree 75 = .ok (.imul, 1) := by decide +kernel
theorem dX3_tryTwoFree_76 : decode cX3_tryTwoFree 76 = .ok (.isub, 1) := by decide +kernel
theorem dX3_tryTwoFree_77 : decode cX3_tryTwoFree 77 = .ok (.istore 7, 2) := by decide +kernel
theorem dX3_tryTwoFree_79 : decode cX3_tryTwoFree 79 = .ok (.aload_n 0, 1) := by decide +kernel
theorem dX3_tryTwoFree_80 : decode cX3_tryTwoFree 80 = .ok (.getfield 24, 3) := by decide +kernel
theorem dX3_tryTwoFree_83 : decode cX3_tryTwoFree 83 = .ok (.iload 8, 2) := by decide +kernel
theorem dX3_tryTwoFree_85 : decode cX3_tryTwoFree 85 = .ok (.iload 9, 2) := by decide +kernel
theorem dX3_tryTwoFree_87 : decode cX3_tryTwoFree 87 = .ok (.iload 5, 2) := by decide +kernel
theorem dX3_tryTwoFree_89 : decode cX3_tryTwoFree 89 = .ok (.imul, 1) := by decide +kernel
theorem dX3_tryTwoFree_90 : decode cX3_tryTwoFree 90 = .ok (.iastore, 1) := by decide +kernel
theorem dX3_tryTwoFree_91 : decode cX3_tryTwoFree 91 = .ok (.iinc 8 1, 3) := by decide +kernel
theorem dX3_tryTwoFree_94 : decode cX3_tryTwoFree 94 = .ok (.goto (-65), 3) := by decide +kernel
theorem dX3_tryTwoFree_97 : decode cX3_tryTwoFree 97 = .ok (.aload_n 0, 1) := by decide +kernel
theorem dX3_tryTwoFree_98 : decode cX3_tryTwoFree 98 = .ok (.getfield 24, 3) := by decide +kernel
theorem dX3_tryTwoFree_101 : decode cX3_tryTwoFree 101 = .ok (.iload_n 2, 1) := by decide +kernel
theorem dX3_tryTwoFree_102 : decode cX3_tryTwoFree 102 = .ok (.iload 7, 2) := by decide +kernel
theorem dX3_tryTwoFree_104 : decode cX3_tryTwoFree 104 = .ok (.iload 6, 2) := by decide +kernel
theorem dX3_tryTwoFree_106 : decode cX3_tryTwoFree 106 = .ok (.aload_n 0, 1) := by decide +kernel
theorem dX3_tryTwoFree_107 : decode cX3_tryTwoFree 107 = .ok (.getfield 9, 3) := by decide +kernel
theorem dX3_tryTwoFree_110 : decode cX3_tryTwoFree 110 = .ok (.iload_n 3, 1) := by decide +kernel
theorem dX3_tryTwoFree_111 : decode cX3_tryTwoFree 111 = .ok (.iaload, 1) := by decide +kernel
theorem dX3_tryTwoFree_112 : decode cX3_tryTwoFree 112 = .ok (.imul, 1) := by decide +kernel
theorem dX3_tryTwoFree_113 : decode cX3_tryTwoFree 113 = .ok (.isub, 1) := by decide +kernel
theorem dX3_tryTwoFree_114 : decode cX3_tryTwoFree 114 = .ok (.iastore, 1) := by decide +kernel
theorem dX3_tryTwoFree_115 : decode cX3_tryTwoFree 115 = .ok (.aload_n 0, 1) := by decide +kernel
theorem dX3_tryTwoFree_116 : decode cX3_tryTwoFree 116 = .ok (.getfield 24, 3) := by decide +kernel
theorem dX3_tryTwoFree_119 : decode cX3_tryTwoFree 119 = .ok (.iload_n 3, 1) := by decide +kernel
theorem dX3_tryTwoFree_120 : decode cX3_tryTwoFree 120 = .ok (.iload 6, 2) := by decide +kernel
theorem dX3_tryTwoFree_122 : decode cX3_tryTwoFree 122 = .ok (.aload_n 0, 1) := by decide +kernel
theorem dX3_tryTwoFree_123 : decode cX3_tryTwoFree 123 = .ok (.getfield 9, 3) := by decide +kernel
theorem dX3_tryTwoFree_126 : decode cX3_tryTwoFree 126 = .ok (.iload_n 2, 1) := by decide +kernel
theorem dX3_tryTwoFree_127 : decode cX3_tryTwoFree 127 = .ok (.iaload, 1) := by decide +kernel
theorem dX3_tryTwoFree_128 : decode cX3_tryTwoFree 128 = .ok (.imul, 1) := by decide +kernel
theorem dX3_tryTwoFree_129 : decode cX3_tryTwoFree 129 = .ok (.iload 7, 2) := by decide +kernel
theorem dX3_tryTwoFree_131 : decode cX3_tryTwoFree 131 = .ok (.isub, 1) := by decide +kernel
theorem dX3_tryTwoFree_132 : decode cX3_tryTwoFree 132 = .ok (.iastore, 1) := by decide +kernel
theorem dX3_tryTwoFree_133 : decode cX3_tryTwoFree 133 = .ok (.aload_n 0, 1) := by decide +kernel
theorem dX3_tryTwoFree_134 : decode cX3_tryTwoFree 134 = .ok (.bipush 100, 2) := by decide +kernel
theorem dX3_tryTwoFree_136 : decode cX3_tryTwoFree 136 = .ok (.iload 5, 2) := by decide +kernel
theorem dX3_tryTwoFree_138 : decode cX3_tryTwoFree 138 = .ok (.imul, 1) := by decide +kernel
theorem dX3_tryTwoFree_139 : decode cX3_tryTwoFree 139 = .ok (.putfield 49, 3) := by decide +kernel
theorem dX3_tryTwoFree_142 : decode cX3_tryTwoFree 142 = .ok (.return_, 1) := by decide +kernel
set_option maxRecDepth 20000 in
theorem ggX3_keepIfBetter_X3_isMix : GoodIn wsX3_keepIfBetter wsX3_isMix := goodIn_r _ [13, 2, 14, 8, 15, 16, 17, 18, 36, 37, 38, 39, 40, 41, 42] (by decide +kernel) (by decide +kernel)
set_option maxRecDepth 20000 in
theorem gX3_keepIfBetter_X3_isMix : GoodIn wsX3_keepIfBetter (wsV RX3 52 RX3 yX3_isMix wsX3_isMix) := goodIn_app (goodIn_of _ (by decide +kernel)) ggX3_keepIfBetter_X3_isMix
set_option maxRecDepth 20000 in
theorem ggX3_keepIfBetter_X3_isBetter : GoodIn wsX3_keepIfBetter wsX3_isBetter := goodIn_r _ [22, 2, 3, 23, 24, 25, 12, 26, 27, 28, 29, 30, 31, 1, 8, 32, 33, 34, 35, 36, 37, 38, 39, 40, 41, 42] (by decide +kernel) (by decide +kernel)
set_option maxRecDepth 20000 in
theorem gX3_keepIfBetter_X3_isBetter : GoodIn wsX3_keepIfBetter (wsV RX3 55 RX3 yX3_isBetter wsX3_isBetter) := goodIn_app (goodIn_of _ (by decide +kernel)) ggX3_keepIfBetter_X3_isBetter
theorem dX3_keepIfBetter_0 : decode cX3_keepIfBetter 0 = .ok (.aload_n 0, 1) := by decide +kernel
theorem dX3_keepIfBetter_1 : decode cX3_keepIfBetter 1 = .ok (.iload_n 1, 1) := by decide +kernel
theorem dX3_keepIfBetter_2 : decode cX3_keepIfBetter 2 = .ok (.iload_n 2, 1) := by decide +kernel
theorem dX3_keepIfBetter_3 : decode cX3_keepIfBetter 3 = .ok (.invokevirtual 52, 3) := by decide +kernel
theorem dX3_keepIfBetter_6 : decode cX3_keepIfBetter 6 = .ok (.ifCond .eq 39, 3) := by decide +kernel
theorem dX3_keepIfBetter_9 : decode cX3_keepIfBetter 9 = .ok (.aload_n 0, 1) := by decide +kernel
theorem dX3_keepIfBetter_10 : decode cX3_keepIfBetter 10 = .ok (.getfield 27, 3) := by decide +kernel
theorem dX3_keepIfBetter_13 : decode cX3_keepIfBetter 13 = .ok (.ifCond .eq 10, 3) := by decide +kernel
theorem dX3_keepIfBetter_16 : decode cX3_keepIfBetter 16 = .ok (.aload_n 0, 1) := by decide +kernel
theorem dX3_keepIfBetter_17 : decode cX3_keepIfBetter 17 = .ok (.invokevirtual 55, 3) := by decide +kernel
theorem dX3_keepIfBetter_20 : decode cX3_keepIfBetter 20 = .ok (.ifCond .eq 25, 3) := by decide +kernel
theorem dX3_keepIfBetter_23 : decode cX3_keepIfBetter 23 = .ok (.aload_n 0, 1) := by decide +kernel
theorem dX3_keepIfBetter_24 : decode cX3_keepIfBetter 24 = .ok (.getfield 24, 3) := by decide +kernel
theorem dX3_keepIfBetter_27 : decode cX3_keepIfBetter 27 = .ok (.iconst 0, 1) := by decide +kernel
theorem dX3_keepIfBetter_28 : decode cX3_keepIfBetter 28 = .ok (.aload_n 0, 1) := by decide +kernel
theorem dX3_keepIfBetter_29 : decode cX3_keepIfBetter 29 = .ok (.getfield 21, 3) := by decide +kernel
theorem dX3_keepIfBetter_32 : decode cX3_keepIfBetter 32 = .ok (.iconst 0, 1) := by decide +kernel
theorem dX3_keepIfBetter_33 : decode cX3_keepIfBetter 33 = .ok (.iconst 4, 1) := by decide +kernel
theorem dX3_keepIfBetter_34 : decode cX3_keepIfBetter 34 = .ok (.invokestatic 59, 3) := by decide +kernel
theorem dX3_keepIfBetter_37 : decode cX3_keepIfBetter 37 = .ok (.aload_n 0, 1) := by decide +kernel
theorem dX3_keepIfBetter_38 : decode cX3_keepIfBetter 38 = .ok (.aload_n 0, 1) := by decide +kernel
theorem dX3_keepIfBetter_39 : decode cX3_keepIfBetter 39 = .ok (.getfield 49, 3) := by decide +kernel
theorem dX3_keepIfBetter_42 : decode cX3_keepIfBetter 42 = .ok (.putfield 27, 3) := by decide +kernel
theorem dX3_keepIfBetter_45 : decode cX3_keepIfBetter 45 = .ok (.return_, 1) := by decide +kernel
set_option maxRecDepth 20000 in
theorem ggX3_isMix_X11_isWithin : GoodIn wsX3_isMix wsX11_isWithin := goodIn_r _ [7] (by decide +kernel) (by decide +kernel)
set_option maxRecDepth 20000 in
theorem gX3_isMix_X11_isWithin_n65 : GoodIn wsX3_isMix (wsX11_isWithin) := ggX3_isMix_X11_isWithin
theorem dX3_isMix_0 : decode cX3_isMix 0 = .ok (.iconst 0, 1) := by decide +kernel
theorem dX3_isMix_1 : decode cX3_isMix 1 = .ok (.istore_n 3, 1) := by decide +kernel
theorem dX3_isMix_2 : decode cX3_isMix 2 = .ok (.iconst 0, 1) := by decide +kernel
theorem dX3_isMix_3 : decode cX3_isMix 3 = .ok (.istore 4, 2) := by decide +kernel
theorem dX3_isMix_5 : decode cX3_isMix 5 = .ok (.iload 4, 2) := by decide +kernel
theorem dX3_isMix_7 : decode cX3_isMix 7 = .ok (.iconst 4, 1) := by decide +kernel
theorem dX3_isMix_8 : decode cX3_isMix 8 = .ok (.if_icmp .ge 64, 3) := by decide +kernel
theorem dX3_isMix_11 : decode cX3_isMix 11 = .ok (.aload_n 0, 1) := by decide +kernel
theorem dX3_isMix_12 : decode cX3_isMix 12 = .ok (.getfield 24, 3) := by decide +kernel
theorem dX3_isMix_15 : decode cX3_isMix 15 = .ok (.iload 4, 2) := by decide +kernel
theorem dX3_isMix_17 : decode cX3_isMix 17 = .ok (.iaload, 1) := by decide +kernel
theorem dX3_isMix_18 : decode cX3_isMix 18 = .ok (.ifCond .lt 28, 3) := by decide +kernel
theorem dX3_isMix_21 : decode cX3_isMix 21 = .ok (.bipush 100, 2) := by decide +kernel
theorem dX3_isMix_23 : decode cX3_isMix 23 = .ok (.aload_n 0, 1) := by decide +kernel
theorem dX3_isMix_24 : decode cX3_isMix 24 = .ok (.getfield 24, 3) := by decide +kernel
theorem dX3_isMix_27 : decode cX3_isMix 27 = .ok (.iload 4, 2) := by decide +kernel
theorem dX3_isMix_29 : decode cX3_isMix 29 = .ok (.iaload, 1) := by decide +kernel
theorem dX3_isMix_30 : decode cX3_isMix 30 = .ok (.imul, 1) := by decide +kernel
theorem dX3_isMix_31 : decode cX3_isMix 31 = .ok (.aload_n 0, 1) := by decide +kernel
theorem dX3_isMix_32 : decode cX3_isMix 32 = .ok (.getfield 18, 3) := by decide +kernel
theorem dX3_isMix_35 : decode cX3_isMix 35 = .ok (.iload 4, 2) := by decide +kernel
theorem dX3_isMix_37 : decode cX3_isMix 37 = .ok (.iaload, 1) := by decide +kernel
theorem dX3_isMix_38 : decode cX3_isMix 38 = .ok (.aload_n 0, 1) := by decide +kernel
theorem dX3_isMix_39 : decode cX3_isMix 39 = .ok (.getfield 49, 3) := by decide +kernel
theorem dX3_isMix_42 : decode cX3_isMix 42 = .ok (.imul, 1) := by decide +kernel
theorem dX3_isMix_43 : decode cX3_isMix 43 = .ok (.if_icmp .le 5, 3) := by decide +kernel
theorem dX3_isMix_46 : decode cX3_isMix 46 = .ok (.iconst 0, 1) := by decide +kernel
theorem dX3_isMix_47 : decode cX3_isMix 47 = .ok (.ireturn, 1) := by decide +kernel
theorem dX3_isMix_48 : decode cX3_isMix 48 = .ok (.iload_n 3, 1) := by decide +kernel
theorem dX3_isMix_49 : decode cX3_isMix 49 = .ok (.aload_n 0, 1) := by decide +kernel
theorem dX3_isMix_50 : decode cX3_isMix 50 = .ok (.getfield 24, 3) := by decide +kernel
theorem dX3_isMix_53 : decode cX3_isMix 53 = .ok (.iload 4, 2) := by decide +kernel
theorem dX3_isMix_55 : decode cX3_isMix 55 = .ok (.iaload, 1) := by decide +kernel
theorem dX3_isMix_56 : decode cX3_isMix 56 = .ok (.aload_n 0, 1) := by decide +kernel
theorem dX3_isMix_57 : decode cX3_isMix 57 = .ok (.getfield 9, 3) := by decide +kernel
theorem dX3_isMix_60 : decode cX3_isMix 60 = .ok (.iload 4, 2) := by decide +kernel
theorem dX3_isMix_62 : decode cX3_isMix 62 = .ok (.iaload, 1) := by decide +kernel
theorem dX3_isMix_63 : decode cX3_isMix 63 = .ok (.imul, 1) := by decide +kernel
theorem dX3_isMix_64 : decode cX3_isMix 64 = .ok (.iadd, 1) := by decide +kernel
theorem dX3_isMix_65 : decode cX3_isMix 65 = .ok (.istore_n 3, 1) := by decide +kernel
theorem dX3_isMix_66 : decode cX3_isMix 66 = .ok (.iinc 4 1, 3) := by decide +kernel
theorem dX3_isMix_69 : decode cX3_isMix 69 = .ok (.goto (-64), 3) := by decide +kernel
theorem dX3_isMix_72 : decode cX3_isMix 72 = .ok (.iload_n 3, 1) := by decide +kernel
theorem dX3_isMix_73 : decode cX3_isMix 73 = .ok (.iload_n 1, 1) := by decide +kernel
theorem dX3_isMix_74 : decode cX3_isMix 74 = .ok (.aload_n 0, 1) := by decide +kernel
theorem dX3_isMix_75 : decode cX3_isMix 75 = .ok (.getfield 49, 3) := by decide +kernel
theorem dX3_isMix_78 : decode cX3_isMix 78 = .ok (.imul, 1) := by decide +kernel
theorem dX3_isMix_79 : decode cX3_isMix 79 = .ok (.iload_n 2, 1) := by decide +kernel
theorem dX3_isMix_80 : decode cX3_isMix 80 = .ok (.aload_n 0, 1) := by decide +kernel
theorem dX3_isMix_81 : decode cX3_isMix 81 = .ok (.getfield 49, 3) := by decide +kernel
theorem dX3_isMix_84 : decode cX3_isMix 84 = .ok (.imul, 1) := by decide +kernel
theorem dX3_isMix_85 : decode cX3_isMix 85 = .ok (.invokestatic 65, 3) := by decide +kernel
theorem dX3_isMix_88 : decode cX3_isMix 88 = .ok (.ireturn, 1) := by decide +kernel
set_option maxRecDepth 20000 in
theorem ggX3_isBetter_X3_costOf : GoodIn wsX3_isBetter wsX3_costOf := goodIn_r _ [7, 8, 19, 20, 21, 22, 23, 24, 25] (by decide +kernel) (by decide +kernel)
set_option maxRecDepth 20000 in
theorem gX3_isBetter_X3_costOf : GoodIn wsX3_isBetter (wsV RX3 69 RX3 yX3_costOf wsX3_costOf) := goodIn_app (goodIn_of _ (by decide +kernel)) ggX3_isBetter_X3_costOf
set_option maxRecDepth 20000 in
theorem ggX3_isBetter_X3_compareToBest : GoodIn wsX3_isBetter wsX3_compareToBest := goodIn_r _ [12, 13, 14, 15, 16, 17, 18, 19, 20, 21, 22, 23, 24, 25] (by decide +kernel) (by decide +kernel)
set_option maxRecDepth 20000 in
theorem gX3_isBetter_X3_compareToBest : GoodIn wsX3_isBetter (wsV RX3 73 RX3 yX3_compareToBest wsX3_compareToBest) := goodIn_app (goodIn_of _ (by decide +kernel)) ggX3_isBetter_X3_compareToBest
theorem dX3_isBetter_0 : decode cX3_isBetter 0 = .ok (.aload_n 0, 1) := by decide +kernel
theorem dX3_isBetter_1 : decode cX3_isBetter 1 = .ok (.aload_n 0, 1) := by decide +kernel
theorem dX3_isBetter_2 : decode cX3_isBetter 2 = .ok (.aload_n 0, 1) := by decide +kernel
theorem dX3_isBetter_3 : decode cX3_isBetter 3 = .ok (.getfield 24, 3) := by decide +kernel
theorem dX3_isBetter_6 : decode cX3_isBetter 6 = .ok (.invokevirtual 69, 3) := by decide +kernel
theorem dX3_isBetter_9 : decode cX3_isBetter 9 = .ok (.aload_n 0, 1) := by decide +kernel
theorem dX3_isBetter_10 : decode cX3_isBetter 10 = .ok (.aload_n 0, 1) := by decide +kernel
theorem dX3_isBetter_11 : decode cX3_isBetter 11 = .ok (.getfield 21, 3) := by decide +kernel
theorem dX3_isBetter_14 : decode cX3_isBetter 14 = .ok (.invokevirtual 69, 3) := by decide +kernel
theorem dX3_isBetter_17 : decode cX3_isBetter 17 = .ok (.invokevirtual 73, 3) := by decide +kernel
theorem dX3_isBetter_20 : decode cX3_isBetter 20 = .ok (.istore_n 1, 1) := by decide +kernel
theorem dX3_isBetter_21 : decode cX3_isBetter 21 = .ok (.iconst 0, 1) := by decide +kernel
theorem dX3_isBetter_22 : decode cX3_isBetter 22 = .ok (.istore_n 2, 1) := by decide +kernel
theorem dX3_isBetter_23 : decode cX3_isBetter 23 = .ok (.iload_n 2, 1) := by decide +kernel
theorem dX3_isBetter_24 : decode cX3_isBetter 24 = .ok (.iconst 4, 1) := by decide +kernel
theorem dX3_isBetter_25 : decode cX3_isBetter 25 = .ok (.if_icmp .ge 30, 3) := by decide +kernel
theorem dX3_isBetter_28 : decode cX3_isBetter 28 = .ok (.iload_n 1, 1) := by decide +kernel
theorem dX3_isBetter_29 : decode cX3_isBetter 29 = .ok (.ifCond .ne 26, 3) := by decide +kernel
theorem dX3_isBetter_32 : decode cX3_isBetter 32 = .ok (.aload_n 0, 1) := by decide +kernel
theorem dX3_isBetter_33 : decode cX3_isBetter 33 = .ok (.aload_n 0, 1) := by decide +kernel
theorem dX3_isBetter_34 : decode cX3_isBetter 34 = .ok (.getfield 24, 3) := by decide +kernel
theorem dX3_isBetter_37 : decode cX3_isBetter 37 = .ok (.iload_n 2, 1) := by decide +kernel
theorem dX3_isBetter_38 : decode cX3_isBetter 38 = .ok (.iaload, 1) := by decide +kernel
theorem dX3_isBetter_39 : decode cX3_isBetter 39 = .ok (.aload_n 0, 1) := by decide +kernel
theorem dX3_isBetter_40 : decode cX3_isBetter 40 = .ok (.getfield 21, 3) := by decide +kernel
theorem dX3_isBetter_43 : decode cX3_isBetter 43 = .ok (.iload_n 2, 1) := by decide +kernel
theorem dX3_isBetter_44 : decode cX3_isBetter 44 = .ok (.iaload, 1) := by decide +kernel
theorem dX3_isBetter_45 : decode cX3_isBetter 45 = .ok (.invokevirtual 73, 3) := by decide +kernel
theorem dX3_isBetter_48 : decode cX3_isBetter 48 = .ok (.istore_n 1, 1) := by decide +kernel
theorem dX3_isBetter_49 : decode cX3_isBetter 49 = .ok (.iinc 2 1, 3) := by decide +kernel
theorem dX3_isBetter_52 : decode cX3_isBetter 52 = .ok (.goto (-29), 3) := by decide +kernel
theorem dX3_isBetter_55 : decode cX3_isBetter 55 = .ok (.iload_n 1, 1) := by decide +kernel
theorem dX3_isBetter_56 : decode cX3_isBetter 56 = .ok (.ifCond .ge 7, 3) := by decide +kernel
theorem dX3_isBetter_59 : decode cX3_isBetter 59 = .ok (.iconst 1, 1) := by decide +kernel
theorem dX3_isBetter_60 : decode cX3_isBetter 60 = .ok (.goto 4, 3) := by decide +kernel
theorem dX3_isBetter_63 : decode cX3_isBetter 63 = .ok (.iconst 0, 1) := by decide +kernel
theorem dX3_isBetter_64 : decode cX3_isBetter 64 = .ok (.ireturn, 1) := by decide +kernel
set_option maxRecDepth 20000 in
theorem ggX3_compareToBest_J13_compare_74951 : GoodIn wsX3_compareToBest wsJ13_compare_74951 := goodIn_r _ [6] (by decide +kernel) (by decide +kernel)
set_option maxRecDepth 20000 in
theorem gX3_compareToBest_J13_compare_74951 : GoodIn wsX3_compareToBest (va_wsS RX3 77 yJ13_compare_74951 wsJ13_compare_74951) := goodIn_app (goodIn_of _ (by decide +kernel)) ggX3_compareToBest_J13_compare_74951
theorem dX3_compareToBest_0 : decode cX3_compareToBest 0 = .ok (.iload_n 1, 1) := by decide +kernel
theorem dX3_compareToBest_1 : decode cX3_compareToBest 1 = .ok (.i2l, 1) := by decide +kernel
theorem dX3_compareToBest_2 : decode cX3_compareToBest 2 = .ok (.aload_n 0, 1) := by decide +kernel
theorem dX3_compareToBest_3 : decode cX3_compareToBest 3 = .ok (.getfield 27, 3) := by decide +kernel
theorem dX3_compareToBest_6 : decode cX3_compareToBest 6 = .ok (.i2l, 1) := by decide +kernel
theorem dX3_compareToBest_7 : decode cX3_compareToBest 7 = .ok (.lmul, 1) := by decide +kernel
theorem dX3_compareToBest_8 : decode cX3_compareToBest 8 = .ok (.iload_n 2, 1) := by decide +kernel
theorem dX3_compareToBest_9 : decode cX3_compareToBest 9 = .ok (.i2l, 1) := by decide +kernel
theorem dX3_compareToBest_10 : decode cX3_compareToBest 10 = .ok (.aload_n 0, 1) := by decide +kernel
theorem dX3_compareToBest_11 : decode cX3_compareToBest 11 = .ok (.getfield 49, 3) := by decide +kernel
theorem dX3_compareToBest_14 : decode cX3_compareToBest 14 = .ok (.i2l, 1) := by decide +kernel
theorem dX3_compareToBest_15 : decode cX3_compareToBest 15 = .ok (.lmul, 1) := by decide +kernel
theorem dX3_compareToBest_16 : decode cX3_compareToBest 16 = .ok (.invokestatic 77, 3) := by decide +kernel
theorem dX3_compareToBest_19 : decode cX3_compareToBest 19 = .ok (.ireturn, 1) := by decide +kernel
theorem dX3_save_0 : decode cX3_save 0 = .ok (.aload_n 0, 1) := by decide +kernel
theorem dX3_save_1 : decode cX3_save 1 = .ok (.getfield 9, 3) := by decide +kernel
theorem dX3_save_4 : decode cX3_save 4 = .ok (.iconst 0, 1) := by decide +kernel
theorem dX3_save_5 : decode cX3_save 5 = .ok (.aload_n 1, 1) := by decide +kernel
theorem dX3_save_6 : decode cX3_save 6 = .ok (.iload_n 2, 1) := by decide +kernel
theorem dX3_save_7 : decode cX3_save 7 = .ok (.iconst 4, 1) := by decide +kernel
theorem dX3_save_8 : decode cX3_save 8 = .ok (.invokestatic 59, 3) := by decide +kernel
theorem dX3_save_11 : decode cX3_save 11 = .ok (.aload_n 0, 1) := by decide +kernel
theorem dX3_save_12 : decode cX3_save 12 = .ok (.getfield 15, 3) := by decide +kernel
theorem dX3_save_15 : decode cX3_save 15 = .ok (.iconst 0, 1) := by decide +kernel
theorem dX3_save_16 : decode cX3_save 16 = .ok (.aload_n 1, 1) := by decide +kernel
theorem dX3_save_17 : decode cX3_save 17 = .ok (.iload_n 2, 1) := by decide +kernel
theorem dX3_save_18 : decode cX3_save 18 = .ok (.iconst 4, 1) := by decide +kernel
theorem dX3_save_19 : decode cX3_save 19 = .ok (.iadd, 1) := by decide +kernel
theorem dX3_save_20 : decode cX3_save 20 = .ok (.iconst 4, 1) := by decide +kernel
theorem dX3_save_21 : decode cX3_save 21 = .ok (.invokestatic 59, 3) := by decide +kernel
theorem dX3_save_24 : decode cX3_save 24 = .ok (.aload_n 0, 1) := by decide +kernel
theorem dX3_save_25 : decode cX3_save 25 = .ok (.getfield 18, 3) := by decide +kernel
theorem dX3_save_28 : decode cX3_save 28 = .ok (.iconst 0, 1) := by decide +kernel
theorem dX3_save_29 : decode cX3_save 29 = .ok (.aload_n 1, 1) := by decide +kernel
theorem dX3_save_30 : decode cX3_save 30 = .ok (.iload_n 2, 1) := by decide +kernel
theorem dX3_save_31 : decode cX3_save 31 = .ok (.bipush 8, 2) := by decide +kernel
theorem dX3_save_33 : decode cX3_save 33 = .ok (.iadd, 1) := by decide +kernel
theorem dX3_save_34 : decode cX3_save 34 = .ok (.iconst 4, 1) := by decide +kernel
theorem dX3_save_35 : decode cX3_save 35 = .ok (.invokestatic 59, 3) := by decide +kernel
theorem dX3_save_38 : decode cX3_save 38 = .ok (.iload_n 2, 1) := by decide +kernel
theorem dX3_save_39 : decode cX3_save 39 = .ok (.bipush 12, 2) := by decide +kernel
theorem dX3_save_41 : decode cX3_save 41 = .ok (.iadd, 1) := by decide +kernel
theorem dX3_save_42 : decode cX3_save 42 = .ok (.ireturn, 1) := by decide +kernel
theorem dX3_load_0 : decode cX3_load 0 = .ok (.aload_n 1, 1) := by decide +kernel
theorem dX3_load_1 : decode cX3_load 1 = .ok (.iload_n 2, 1) := by decide +kernel
theorem dX3_load_2 : decode cX3_load 2 = .ok (.aload_n 0, 1) := by decide +kernel
theorem dX3_load_3 : decode cX3_load 3 = .ok (.getfield 9, 3) := by decide +kernel
theorem dX3_load_6 : decode cX3_load 6 = .ok (.iconst 0, 1) := by decide +kernel
theorem dX3_load_7 : decode cX3_load 7 = .ok (.iconst 4, 1) := by decide +kernel
theorem dX3_load_8 : decode cX3_load 8 = .ok (.invokestatic 59, 3) := by decide +kernel
theorem dX3_load_11 : decode cX3_load 11 = .ok (.aload_n 1, 1) := by decide +kernel
theorem dX3_load_12 : decode cX3_load 12 = .ok (.iload_n 2, 1) := by decide +kernel
theorem dX3_load_13 : decode cX3_load 13 = .ok (.iconst 4, 1) := by decide +kernel
theorem dX3_load_14 : decode cX3_load 14 = .ok (.iadd, 1) := by decide +kernel
theorem dX3_load_15 : decode cX3_load 15 = .ok (.aload_n 0, 1) := by decide +kernel
theorem dX3_load_16 : decode cX3_load 16 = .ok (.getfield 15, 3) := by decide +kernel
theorem dX3_load_19 : decode cX3_load 19 = .ok (.iconst 0, 1) := by decide +kernel
theorem dX3_load_20 : decode cX3_load 20 = .ok (.iconst 4, 1) := by decide +kernel
theorem dX3_load_21 : decode cX3_load 21 = .ok (.invokestatic 59, 3) := by decide +kernel
theorem dX3_load_24 : decode cX3_load 24 = .ok (.aload_n 1, 1) := by decide +kernel
theorem dX3_load_25 : decode cX3_load 25 = .ok (.iload_n 2, 1) := by decide +kernel
theorem dX3_load_26 : decode cX3_load 26 = .ok (.bipush 8, 2) := by decide +kernel
theorem dX3_load_28 : decode cX3_load 28 = .ok (.iadd, 1) := by decide +kernel
theorem dX3_load_29 : decode cX3_load 29 = .ok (.aload_n 0, 1) := by decide +kernel
theorem dX3_load_30 : decode cX3_load 30 = .ok (.getfield 18, 3) := by decide +kernel
theorem dX3_load_33 : decode cX3_load 33 = .ok (.iconst 0, 1) := by decide +kernel
theorem dX3_load_34 : decode cX3_load 34 = .ok (.iconst 4, 1) := by decide +kernel
theorem dX3_load_35 : decode cX3_load 35 = .ok (.invokestatic 59, 3) := by decide +kernel
theorem dX3_load_38 : decode cX3_load 38 = .ok (.iload_n 2, 1) := by decide +kernel
theorem dX3_load_39 : decode cX3_load 39 = .ok (.bipush 12, 2) := by decide +kernel
theorem dX3_load_41 : decode cX3_load 41 = .ok (.iadd, 1) := by decide +kernel
theorem dX3_load_42 : decode cX3_load 42 = .ok (.ireturn, 1) := by decide +kernel
theorem dX4_init_0 : decode cX4_init 0 = .ok (.aload_n 0, 1) := by decide +kernel
theorem dX4_init_1 : decode cX4_init 1 = .ok (.invokespecial 3, 3) := by decide +kernel
theorem dX4_init_4 : decode cX4_init 4 = .ok (.aload_n 0, 1) := by decide +kernel
theorem dX4_init_5 : decode cX4_init 5 = .ok (.sipush 360, 3) := by decide +kernel
theorem dX4_init_8 : decode cX4_init 8 = .ok (.newarray .int, 2) := by decide +kernel
theorem dX4_init_10 : decode cX4_init 10 = .ok (.putfield 9, 3) := by decide +kernel
theorem dX4_init_13 : decode cX4_init 13 = .ok (.aload_n 0, 1) := by decide +kernel
theorem dX4_init_14 : decode cX4_init 14 = .ok (.bipush 6, 2) := by decide +kernel
theorem dX4_init_16 : decode cX4_init 16 = .ok (.newarray .int, 2) := by decide +kernel
theorem dX4_init_18 : decode cX4_init 18 = .ok (.putfield 15, 3) := by decide +kernel
theorem dX4_init_21 : decode cX4_init 21 = .ok (.return_, 1) := by decide +kernel
theorem dX4_lossOf_0 : decode cX4_lossOf 0 = .ok (.iconst 0, 1) := by decide +kernel
theorem dX4_lossOf_1 : decode cX4_lossOf 1 = .ok (.istore 5, 2) := by decide +kernel
theorem dX4_lossOf_3 : decode cX4_lossOf 3 = .ok (.iconst 0, 1) := by decide +kernel
theorem dX4_lossOf_4 : decode cX4_lossOf 4 = .ok (.istore 6, 2) := by decide +kernel
theorem dX4_lossOf_6 : decode cX4_lossOf 6 = .ok (.iload 6, 2) := by decide +kernel
theorem dX4_lossOf_8 : decode cX4_lossOf 8 = .ok (.aload_n 0, 1) := by decide +kernel
theorem dX4_lossOf_9 : decode cX4_lossOf 9 = .ok (.getfield 15, 3) := by decide +kernel
theorem dX4_lossOf_12 : decode cX4_lossOf 12 = .ok (.iload_n 1, 1) := by decide +kernel
theorem dX4_lossOf_13 : decode cX4_lossOf 13 = .ok (.iaload, 1) := by decide +kernel
theorem dX4_lossOf_14 : decode cX4_lossOf 14 = .ok (.if_icmp .ge 48, 3) := by decide +kernel
theorem dX4_lossOf_17 : decode cX4_lossOf 17 = .ok (.iload_n 2, 1) := by decide +kernel
theorem dX4_lossOf_18 : decode cX4_lossOf 18 = .ok (.aload_n 0, 1) := by decide +kernel
theorem dX4_lossOf_19 : decode cX4_lossOf 19 = .ok (.getfield 9, 3) := by decide +kernel
theorem dX4_lossOf_22 : decode cX4_lossOf 22 = .ok (.iload_n 1, 1) := by decide +kernel
theorem dX4_lossOf_23 : decode cX4_lossOf 23 = .ok (.bipush 60, 2) := by decide +kernel
theorem dX4_lossOf_25 : decode cX4_lossOf 25 = .ok (.imul, 1) := by decide +kernel
theorem dX4_lossOf_26 : decode cX4_lossOf 26 = .ok (.iload 6, 2) := by decide +kernel
theorem dX4_lossOf_28 : decode cX4_lossOf 28 = .ok (.iadd, 1) := by decide +kernel
theorem dX4_lossOf_29 : decode cX4_lossOf 29 = .ok (.iaload, 1) := by decide +kernel
theorem dX4_lossOf_30 : decode cX4_lossOf 30 = .ok (.isub, 1) := by decide +kernel
theorem dX4_lossOf_31 : decode cX4_lossOf 31 = .ok (.istore 7, 2) := by decide +kernel
theorem dX4_lossOf_33 : decode cX4_lossOf 33 = .ok (.iload 5, 2) := by decide +kernel
theorem dX4_lossOf_35 : decode cX4_lossOf 35 = .ok (.iload 7, 2) := by decide +kernel
theorem dX4_lossOf_37 : decode cX4_lossOf 37 = .ok (.ifCond .le 10, 3) := by decide +kernel
theorem dX4_lossOf_40 : decode cX4_lossOf 40 = .ok (.iload_n 3, 1) := by decide +kernel
theorem dX4_lossOf_41 : decode cX4_lossOf 41 = .ok (.iload 7, 2) := by decide +kernel
theorem dX4_lossOf_43 : decode cX4_lossOf 43 = .ok (.imul, 1) := by decide +kernel
theorem dX4_lossOf_44 : decode cX4_lossOf 44 = .ok (.goto 9, 3) := by decide +kernel
theorem dX4_lossOf_47 : decode cX4_lossOf 47 = .ok (.iload 4, 2) := by decide +kernel
theorem dX4_lossOf_49 : decode cX4_lossOf 49 = .ok (.iload 7, 2) := by decide +kernel
theorem dX4_lossOf_51 : decode cX4_lossOf 51 = .ok (.ineg, 1) := by decide +kernel
theorem dX4_lossOf_52 : decode cX4_lossOf 52 = .ok (.imul, 1) := by decide +kernel
theorem dX4_lossOf_53 : decode cX4_lossOf 53 = .ok (.iadd, 1) := by decide +kernel
theorem dX4_lossOf_54 : decode cX4_lossOf 54 = .ok (.istore 5, 2) := by decide +kernel
theorem dX4_lossOf_56 : decode cX4_lossOf 56 = .ok (.iinc 6 1, 3) := by decide +kernel
theorem dX4_lossOf_59 : decode cX4_lossOf 59 = .ok (.goto (-53), 3) := by decide +kernel
theorem dX4_lossOf_62 : decode cX4_lossOf 62 = .ok (.iload 5, 2) := by decide +kernel
theorem dX4_lossOf_64 : decode cX4_lossOf 64 = .ok (.ireturn, 1) := by decide +kernel
set_option maxRecDepth 20000 in
theorem ggX4_bestFor_X4_lossOf : GoodIn wsX4_bestFor wsX4_lossOf := goodIn_r _ [5, 6, 7, 8, 9] (by decide +kernel) (by decide +kernel)
set_option maxRecDepth 20000 in
theorem gX4_bestFor_X4_lossOf : GoodIn wsX4_bestFor (wsV RX4 18 RX4 yX4_lossOf wsX4_lossOf) := goodIn_app (goodIn_of _ (by decide +kernel)) ggX4_bestFor_X4_lossOf
theorem dX4_bestFor_0 : decode cX4_bestFor 0 = .ok (.iconst 0, 1) := by decide +kernel
theorem dX4_bestFor_1 : decode cX4_bestFor 1 = .ok (.istore 4, 2) := by decide +kernel
theorem dX4_bestFor_3 : decode cX4_bestFor 3 = .ok (.aload_n 0, 1) := by decide +kernel
theorem dX4_bestFor_4 : decode cX4_bestFor 4 = .ok (.iload_n 1, 1) := by decide +kernel
theorem dX4_bestFor_5 : decode cX4_bestFor 5 = .ok (.iconst 0, 1) := by decide +kernel
theorem dX4_bestFor_6 : decode cX4_bestFor 6 = .ok (.iload_n 2, 1) := by decide +kernel
theorem dX4_bestFor_7 : decode cX4_bestFor 7 = .ok (.iload_n 3, 1) := by decide +kernel
theorem dX4_bestFor_8 : decode cX4_bestFor 8 = .ok (.invokevirtual 18, 3) := by decide +kernel
theorem dX4_bestFor_11 : decode cX4_bestFor 11 = .ok (.istore 5, 2) := by decide +kernel
theorem dX4_bestFor_13 : decode cX4_bestFor 13 = .ok (.iconst 1, 1) := by decide +kernel
theorem dX4_bestFor_14 : decode cX4_bestFor 14 = .ok (.istore 6, 2) := by decide +kernel
theorem dX4_bestFor_16 : decode cX4_bestFor 16 = .ok (.iload 6, 2) := by decide +kernel
theorem dX4_bestFor_18 : decode cX4_bestFor 18 = .ok (.bipush 100, 2) := by decide +kernel
theorem dX4_bestFor_20 : decode cX4_bestFor 20 = .ok (.if_icmp .ge 35, 3) := by decide +kernel
theorem dX4_bestFor_23 : decode cX4_bestFor 23 = .ok (.aload_n 0, 1) := by decide +kernel
theorem dX4_bestFor_24 : decode cX4_bestFor 24 = .ok (.iload_n 1, 1) := by decide +kernel
theorem dX4_bestFor_25 : decode cX4_bestFor 25 = .ok (.iload 6, 2) := by decide +kernel
theorem dX4_bestFor_27 : decode cX4_bestFor 27 = .ok (.iload_n 2, 1) := by decide +kernel
theorem dX4_bestFor_28 : decode cX4_bestFor 28 = .ok (.iload_n 3, 1) := by decide +kernel
theorem dX4_bestFor_29 : decode cX4_bestFor 29 = .ok (.invokevirtual 18, 3) := by decide +kernel
theorem dX4_bestFor_32 : decode cX4_bestFor 32 = .ok (.istore 7, 2) := by decide +kernel
theorem dX4_bestFor_34 : decode cX4_bestFor 34 = .ok (.iload 7, 2) := by decide +kernel
theorem dX4_bestFor_36 : decode cX4_bestFor 36 = .ok (.iload 5, 2) := by decide +kernel
theorem dX4_bestFor_38 : decode cX4_bestFor 38 = .ok (.if_icmp .ge 11, 3) := by decide +kernel
theorem dX4_bestFor_41 : decode cX4_bestFor 41 = .ok (.iload 6, 2) := by decide +kernel
theorem dX4_bestFor_43 : decode cX4_bestFor 43 = .ok (.istore 4, 2) := by decide +kernel
theorem dX4_bestFor_45 : decode cX4_bestFor 45 = .ok (.iload 7, 2) := by decide +kernel
theorem dX4_bestFor_47 : decode cX4_bestFor 47 = .ok (.istore 5, 2) := by decide +kernel
theorem dX4_bestFor_49 : decode cX4_bestFor 49 = .ok (.iinc 6 1, 3) := by decide +kernel
theorem dX4_bestFor_52 : decode cX4_bestFor 52 = .ok (.goto (-36), 3) := by decide +kernel
theorem dX4_bestFor_55 : decode cX4_bestFor 55 = .ok (.iload 4, 2) := by decide +kernel
theorem dX4_bestFor_57 : decode cX4_bestFor 57 = .ok (.ireturn, 1) := by decide +kernel
theorem dX4_save_0 : decode cX4_save 0 = .ok (.aload_n 0, 1) := by decide +kernel
theorem dX4_save_1 : decode cX4_save 1 = .ok (.getfield 15, 3) := by decide +kernel
theorem dX4_save_4 : decode cX4_save 4 = .ok (.iconst 0, 1) := by decide +kernel
theorem dX4_save_5 : decode cX4_save 5 = .ok (.aload_n 1, 1) := by decide +kernel
theorem dX4_save_6 : decode cX4_save 6 = .ok (.iload_n 2, 1) := by decide +kernel
theorem dX4_save_7 : decode cX4_save 7 = .ok (.bipush 6, 2) := by decide +kernel
theorem dX4_save_9 : decode cX4_save 9 = .ok (.invokestatic 22, 3) := by decide +kernel
theorem dX4_save_12 : decode cX4_save 12 = .ok (.iload_n 2, 1) := by decide +kernel
theorem dX4_save_13 : decode cX4_save 13 = .ok (.bipush 6, 2) := by decide +kernel
theorem dX4_save_15 : decode cX4_save 15 = .ok (.iadd, 1) := by decide +kernel
theorem dX4_save_16 : decode cX4_save 16 = .ok (.ireturn, 1) := by decide +kernel
theorem dX4_load_0 : decode cX4_load 0 = .ok (.aload_n 1, 1) := by decide +kernel
theorem dX4_load_1 : decode cX4_load 1 = .ok (.iload_n 2, 1) := by decide +kernel
theorem dX4_load_2 : decode cX4_load 2 = .ok (.aload_n 0, 1) := by decide +kernel
theorem dX4_load_3 : decode cX4_load 3 = .ok (.getfield 15, 3) := by decide +kernel
theorem dX4_load_6 : decode cX4_load 6 = .ok (.iconst 0, 1) := by decide +kernel
theorem dX4_load_7 : decode cX4_load 7 = .ok (.bipush 6, 2) := by decide +kernel
theorem dX4_load_9 : decode cX4_load 9 = .ok (.invokestatic 22, 3) := by decide +kernel
theorem dX4_load_12 : decode cX4_load 12 = .ok (.iload_n 2, 1) := by decide +kernel
theorem dX4_load_13 : decode cX4_load 13 = .ok (.bipush 6, 2) := by decide +kernel
theorem dX4_load_15 : decode cX4_load 15 = .ok (.iadd, 1) := by decide +kernel
theorem dX4_load_16 : decode cX4_load 16 = .ok (.ireturn, 1) := by decide +kernel
theorem dX5_init_0 : decode cX5_init 0 = .ok (.aload_n 0, 1) := by decide +kernel
theorem dX5_init_1 : decode cX5_init 1 = .ok (.invokespecial 1, 3) := by decide +kernel
theorem dX5_init_4 : decode cX5_init 4 = .ok (.aload_n 0, 1) := by decide +kernel
theorem dX5_init_5 : decode cX5_init 5 = .ok (.iconst 2, 1) := by decide +kernel
theorem dX5_init_6 : decode cX5_init 6 = .ok (.putfield 7, 3) := by decide +kernel
theorem dX5_init_9 : decode cX5_init 9 = .ok (.aload_n 0, 1) := by decide +kernel
theorem dX5_init_10 : decode cX5_init 10 = .ok (.iconst 2, 1) := by decide +kernel
theorem dX5_init_11 : decode cX5_init 11 = .ok (.putfield 13, 3) := by decide +kernel
theorem dX5_init_14 : decode cX5_init 14 = .ok (.aload_n 0, 1) := by decide +kernel
theorem dX5_init_15 : decode cX5_init 15 = .ok (.bipush 20, 2) := by decide +kernel
theorem dX5_init_17 : decode cX5_init 17 = .ok (.putfield 16, 3) := by decide +kernel
theorem dX5_init_20 : decode cX5_init 20 = .ok (.aload_n 0, 1) := by decide +kernel
theorem dX5_init_21 : decode cX5_init 21 = .ok (.bipush 20, 2) := by decide +kernel
theorem dX5_init_23 : decode cX5_init 23 = .ok (.putfield 19, 3) := by decide +kernel
theorem dX5_init_26 : decode cX5_init 26 = .ok (.return_, 1) := by decide +kernel
set_option maxRecDepth 20000 in
theorem ggX5_pointsOfATick_X11_isWithin : GoodIn wsX5_pointsOfATick wsX11_isWithin := goodIn_r _ [5] (by decide +kernel) (by decide +kernel)
set_option maxRecDepth 20000 in
theorem gX5_pointsOfATick_X11_isWithin_n26 : GoodIn wsX5_pointsOfATick (wsX11_isWithin) := ggX5_pointsOfATick_X11_isWithin
theorem dX5_pointsOfATick_0 : decode cX5_pointsOfATick 0 = .ok (.aload_n 0, 1) := by decide +kernel
theorem dX5_pointsOfATick_1 : decode cX5_pointsOfATick 1 = .ok (.getfield 7, 3) := by decide +kernel
theorem dX5_pointsOfATick_4 : decode cX5_pointsOfATick 4 = .ok (.iconst 0, 1) := by decide +kernel
theorem dX5_pointsOfATick_5 : decode cX5_pointsOfATick 5 = .ok (.getstatic 22, 3) := by decide +kernel
theorem dX5_pointsOfATick_8 : decode cX5_pointsOfATick 8 = .ok (.arraylength, 1) := by decide +kernel
theorem dX5_pointsOfATick_9 : decode cX5_pointsOfATick 9 = .ok (.iconst 1, 1) := by decide +kernel
theorem dX5_pointsOfATick_10 : decode cX5_pointsOfATick 10 = .ok (.isub, 1) := by decide +kernel
theorem dX5_pointsOfATick_11 : decode cX5_pointsOfATick 11 = .ok (.invokestatic 26, 3) := by decide +kernel
theorem dX5_pointsOfATick_14 : decode cX5_pointsOfATick 14 = .ok (.ifCond .eq 14, 3) := by decide +kernel
theorem dX5_pointsOfATick_17 : decode cX5_pointsOfATick 17 = .ok (.getstatic 22, 3) := by decide +kernel
theorem dX5_pointsOfATick_20 : decode cX5_pointsOfATick 20 = .ok (.aload_n 0, 1) := by decide +kernel
theorem dX5_pointsOfATick_21 : decode cX5_pointsOfATick 21 = .ok (.getfield 7, 3) := by decide +kernel
theorem dX5_pointsOfATick_24 : decode cX5_pointsOfATick 24 = .ok (.iaload, 1) := by decide +kernel
theorem dX5_pointsOfATick_25 : decode cX5_pointsOfATick 25 = .ok (.goto 4, 3) := by decide +kernel
theorem dX5_pointsOfATick_28 : decode cX5_pointsOfATick 28 = .ok (.iconst 0, 1) := by decide +kernel
theorem dX5_pointsOfATick_29 : decode cX5_pointsOfATick 29 = .ok (.ireturn, 1) := by decide +kernel
theorem dX5_letPass_0 : decode cX5_letPass 0 = .ok (.aload_n 0, 1) := by decide +kernel
theorem dX5_letPass_1 : decode cX5_letPass 1 = .ok (.dup, 1) := by decide +kernel
theorem dX5_letPass_2 : decode cX5_letPass 2 = .ok (.getfield 32, 3) := by decide +kernel
theorem dX5_letPass_5 : decode cX5_letPass 5 = .ok (.iload_n 1, 1) := by decide +kernel
theorem dX5_letPass_6 : decode cX5_letPass 6 = .ok (.iadd, 1) := by decide +kernel
theorem dX5_letPass_7 : decode cX5_letPass 7 = .ok (.putfield 32, 3) := by decide +kernel
theorem dX5_letPass_10 : decode cX5_letPass 10 = .ok (.iload_n 1, 1) := by decide +kernel
theorem dX5_letPass_11 : decode cX5_letPass 11 = .ok (.iconst 5, 1) := by decide +kernel
theorem dX5_letPass_12 : decode cX5_letPass 12 = .ok (.imul, 1) := by decide +kernel
theorem dX5_letPass_13 : decode cX5_letPass 13 = .ok (.istore_n 2, 1) := by decide +kernel
theorem dX5_letPass_14 : decode cX5_letPass 14 = .ok (.aload_n 0, 1) := by decide +kernel
theorem dX5_letPass_15 : decode cX5_letPass 15 = .ok (.dup, 1) := by decide +kernel
theorem dX5_letPass_16 : decode cX5_letPass 16 = .ok (.getfield 16, 3) := by decide +kernel
theorem dX5_letPass_19 : decode cX5_letPass 19 = .ok (.iload_n 2, 1) := by decide +kernel
theorem dX5_letPass_20 : decode cX5_letPass 20 = .ok (.ineg, 1) := by decide +kernel
theorem dX5_letPass_21 : decode cX5_letPass 21 = .ok (.iload_n 2, 1) := by decide +kernel
theorem dX5_letPass_22 : decode cX5_letPass 22 = .ok (.aload_n 0, 1) := by decide +kernel
theorem dX5_letPass_23 : decode cX5_letPass 23 = .ok (.getfield 19, 3) := by decide +kernel
theorem dX5_letPass_26 : decode cX5_letPass 26 = .ok (.aload_n 0, 1) := by decide +kernel
theorem dX5_letPass_27 : decode cX5_letPass 27 = .ok (.getfield 16, 3) := by decide +kernel
theorem dX5_letPass_30 : decode cX5_letPass 30 = .ok (.isub, 1) := by decide +kernel
theorem dX5_letPass_31 : decode cX5_letPass 31 = .ok (.invokestatic 35, 3) := by decide +kernel
theorem dX5_letPass_34 : decode cX5_letPass 34 = .ok (.invokestatic 41, 3) := by decide +kernel
theorem dX5_letPass_37 : decode cX5_letPass 37 = .ok (.iadd, 1) := by decide +kernel
theorem dX5_letPass_38 : decode cX5_letPass 38 = .ok (.putfield 16, 3) := by decide +kernel
theorem dX5_letPass_41 : decode cX5_letPass 41 = .ok (.return_, 1) := by decide +kernel
theorem dX5_save_0 : decode cX5_save 0 = .ok (.aload_n 1, 1) := by decide +kernel
theorem dX5_save_1 : decode cX5_save 1 = .ok (.iload_n 2, 1) := by decide +kernel
theorem dX5_save_2 : decode cX5_save 2 = .ok (.aload_n 0, 1) := by decide +kernel
theorem dX5_save_3 : decode cX5_save 3 = .ok (.getfield 32, 3) := by decide +kernel
theorem dX5_save_6 : decode cX5_save 6 = .ok (.iastore, 1) := by decide +kernel
theorem dX5_save_7 : decode cX5_save 7 = .ok (.aload_n 1, 1) := by decide +kernel
theorem dX5_save_8 : decode cX5_save 8 = .ok (.iload_n 2, 1) := by decide +kernel
theorem dX5_save_9 : decode cX5_save 9 = .ok (.iconst 1, 1) := by decide +kernel
theorem dX5_save_10 : decode cX5_save 10 = .ok (.iadd, 1) := by decide +kernel
theorem dX5_save_11 : decode cX5_save 11 = .ok (.aload_n 0, 1) := by decide +kernel
theorem dX5_save_12 : decode cX5_save 12 = .ok (.getfield 7, 3) := by decide +kernel
theorem dX5_save_15 : decode cX5_save 15 = .ok (.iastore, 1) := by decide +kernel
theorem dX5_save_16 : decode cX5_save 16 = .ok (.aload_n 1, 1) := by decide +kernel
theorem dX5_save_17 : decode cX5_save 17 = .ok (.iload_n 2, 1) := by decide +kernel
theorem dX5_save_18 : decode cX5_save 18 = .ok (.iconst 2, 1) := by decide +kernel
theorem dX5_save_19 : decode cX5_save 19 = .ok (.iadd, 1) := by decide +kernel
theorem dX5_save_20 : decode cX5_save 20 = .ok (.aload_n 0, 1) := by decide +kernel
theorem dX5_save_21 : decode cX5_save 21 = .ok (.getfield 13, 3) := by decide +kernel
theorem dX5_save_24 : decode cX5_save 24 = .ok (.iastore, 1) := by decide +kernel
theorem dX5_save_25 : decode cX5_save 25 = .ok (.aload_n 1, 1) := by decide +kernel
theorem dX5_save_26 : decode cX5_save 26 = .ok (.iload_n 2, 1) := by decide +kernel
theorem dX5_save_27 : decode cX5_save 27 = .ok (.iconst 3, 1) := by decide +kernel
theorem dX5_save_28 : decode cX5_save 28 = .ok (.iadd, 1) := by decide +kernel
theorem dX5_save_29 : decode cX5_save 29 = .ok (.aload_n 0, 1) := by decide +kernel
theorem dX5_save_30 : decode cX5_save 30 = .ok (.getfield 16, 3) := by decide +kernel
theorem dX5_save_33 : decode cX5_save 33 = .ok (.iastore, 1) := by decide +kernel
theorem dX5_save_34 : decode cX5_save 34 = .ok (.aload_n 1, 1) := by decide +kernel
theorem dX5_save_35 : decode cX5_save 35 = .ok (.iload_n 2, 1) := by decide +kernel
theorem dX5_save_36 : decode cX5_save 36 = .ok (.iconst 4, 1) := by decide +kernel
theorem dX5_save_37 : decode cX5_save 37 = .ok (.iadd, 1) := by decide +kernel
theorem dX5_save_38 : decode cX5_save 38 = .ok (.aload_n 0, 1) := by decide +kernel
theorem dX5_save_39 : decode cX5_save 39 = .ok (.getfield 19, 3) := by decide +kernel
theorem dX5_save_42 : decode cX5_save 42 = .ok (.iastore, 1) := by decide +kernel
theorem dX5_save_43 : decode cX5_save 43 = .ok (.iload_n 2, 1) := by decide +kernel
theorem dX5_save_44 : decode cX5_save 44 = .ok (.iconst 5, 1) := by decide +kernel
theorem dX5_save_45 : decode cX5_save 45 = .ok (.iadd, 1) := by decide +kernel
theorem dX5_save_46 : decode cX5_save 46 = .ok (.ireturn, 1) := by decide +kernel
theorem dX5_load_0 : decode cX5_load 0 = .ok (.aload_n 0, 1) := by decide +kernel
theorem dX5_load_1 : decode cX5_load 1 = .ok (.aload_n 1, 1) := by decide +kernel
theorem dX5_load_2 : decode cX5_load 2 = .ok (.iload_n 2, 1) := by decide +kernel
theorem dX5_load_3 : decode cX5_load 3 = .ok (.iaload, 1) := by decide +kernel
theorem dX5_load_4 : decode cX5_load 4 = .ok (.putfield 32, 3) := by decide +kernel
theorem dX5_load_7 : decode cX5_load 7 = .ok (.aload_n 0, 1) := by decide +kernel
theorem dX5_load_8 : decode cX5_load 8 = .ok (.aload_n 1, 1) := by decide +kernel
theorem dX5_load_9 : decode cX5_load 9 = .ok (.iload_n 2, 1) := by decide +kernel
theorem dX5_load_10 : decode cX5_load 10 = .ok (.iconst 1, 1) := by decide +kernel
theorem dX5_load_11 : decode cX5_load 11 = .ok (.iadd, 1) := by decide +kernel
theorem dX5_load_12 : decode cX5_load 12 = .ok (.iaload, 1) := by decide +kernel
theorem dX5_load_13 : decode cX5_load 13 = .ok (.putfield 7, 3) := by decide +kernel
theorem dX5_load_16 : decode cX5_load 16 = .ok (.aload_n 0, 1) := by decide +kernel
theorem dX5_load_17 : decode cX5_load 17 = .ok (.aload_n 1, 1) := by decide +kernel
theorem dX5_load_18 : decode cX5_load 18 = .ok (.iload_n 2, 1) := by decide +kernel
theorem dX5_load_19 : decode cX5_load 19 = .ok (.iconst 2, 1) := by decide +kernel
theorem dX5_load_20 : decode cX5_load 20 = .ok (.iadd, 1) := by decide +kernel
theorem dX5_load_21 : decode cX5_load 21 = .ok (.iaload, 1) := by decide +kernel
theorem dX5_load_22 : decode cX5_load 22 = .ok (.putfield 13, 3) := by decide +kernel
theorem dX5_load_25 : decode cX5_load 25 = .ok (.aload_n 0, 1) := by decide +kernel
theorem dX5_load_26 : decode cX5_load 26 = .ok (.aload_n 1, 1) := by decide +kernel
theorem dX5_load_27 : decode cX5_load 27 = .ok (.iload_n 2, 1) := by decide +kernel
theorem dX5_load_28 : decode cX5_load 28 = .ok (.iconst 3, 1) := by decide +kernel
theorem dX5_load_29 : decode cX5_load 29 = .ok (.iadd, 1) := by decide +kernel
theorem dX5_load_30 : decode cX5_load 30 = .ok (.iaload, 1) := by decide +kernel
theorem dX5_load_31 : decode cX5_load 31 = .ok (.putfield 16, 3) := by decide +kernel
theorem dX5_load_34 : decode cX5_load 34 = .ok (.aload_n 0, 1) := by decide +kernel
theorem dX5_load_35 : decode cX5_load 35 = .ok (.aload_n 1, 1) := by decide +kernel
theorem dX5_load_36 : decode cX5_load 36 = .ok (.iload_n 2, 1) := by decide +kernel
theorem dX5_load_37 : decode cX5_load 37 = .ok (.iconst 4, 1) := by decide +kernel
theorem dX5_load_38 : decode cX5_load 38 = .ok (.iadd, 1) := by decide +kernel
theorem dX5_load_39 : decode cX5_load 39 = .ok (.iaload, 1) := by decide +kernel
theorem dX5_load_40 : decode cX5_load 40 = .ok (.putfield 19, 3) := by decide +kernel
theorem dX5_load_43 : decode cX5_load 43 = .ok (.iload_n 2, 1) := by decide +kernel
theorem dX5_load_44 : decode cX5_load 44 = .ok (.iconst 5, 1) := by decide +kernel
theorem dX5_load_45 : decode cX5_load 45 = .ok (.iadd, 1) := by decide +kernel
theorem dX5_load_46 : decode cX5_load 46 = .ok (.ireturn, 1) := by decide +kernel
theorem dX6_init_0 : decode cX6_init 0 = .ok (.aload_n 0, 1) := by decide +kernel
theorem dX6_init_1 : decode cX6_init 1 = .ok (.invokespecial 3, 3) := by decide +kernel
theorem dX6_init_4 : decode cX6_init 4 = .ok (.aload_n 0, 1) := by decide +kernel
theorem dX6_init_5 : decode cX6_init 5 = .ok (.bipush 80, 2) := by decide +kernel
theorem dX6_init_7 : decode cX6_init 7 = .ok (.newarray .int, 2) := by decide +kernel
theorem dX6_init_9 : decode cX6_init 9 = .ok (.putfield 11, 3) := by decide +kernel
theorem dX6_init_12 : decode cX6_init 12 = .ok (.aload_n 0, 1) := by decide +kernel
theorem dX6_init_13 : decode cX6_init 13 = .ok (.bipush 8, 2) := by decide +kernel
theorem dX6_init_15 : decode cX6_init 15 = .ok (.newarray .int, 2) := by decide +kernel
theorem dX6_init_17 : decode cX6_init 17 = .ok (.putfield 15, 3) := by decide +kernel
theorem dX6_init_20 : decode cX6_init 20 = .ok (.return_, 1) := by decide +kernel
set_option maxRecDepth 20000 in
theorem ggX6_countBytes_X6_byteOf : GoodIn wsX6_countBytes wsX6_byteOf := goodIn_r _ [4] (by decide +kernel) (by decide +kernel)
set_option maxRecDepth 20000 in
theorem gX6_countBytes_X6_byteOf : GoodIn wsX6_countBytes (va_wsS RX6 18 yX6_byteOf wsX6_byteOf) := goodIn_app (goodIn_of _ (by decide +kernel)) ggX6_countBytes_X6_byteOf
set_option maxRecDepth 20000 in
theorem ggX6_countBytes_X11_isWithin : GoodIn wsX6_countBytes wsX11_isWithin := goodIn_r _ [7] (by decide +kernel) (by decide +kernel)
set_option maxRecDepth 20000 in
theorem gX6_countBytes_X11_isWithin_n22 : GoodIn wsX6_countBytes (wsX11_isWithin) := ggX6_countBytes_X11_isWithin
theorem dX6_countBytes_0 : decode cX6_countBytes 0 = .ok (.iconst 0, 1) := by decide +kernel
theorem dX6_countBytes_1 : decode cX6_countBytes 1 = .ok (.istore_n 3, 1) := by decide +kernel
theorem dX6_countBytes_2 : decode cX6_countBytes 2 = .ok (.iconst 0, 1) := by decide +kernel
theorem dX6_countBytes_3 : decode cX6_countBytes 3 = .ok (.istore 4, 2) := by decide +kernel
theorem dX6_countBytes_5 : decode cX6_countBytes 5 = .ok (.iload 4, 2) := by decide +kernel
theorem dX6_countBytes_7 : decode cX6_countBytes 7 = .ok (.bipush 8, 2) := by decide +kernel
theorem dX6_countBytes_9 : decode cX6_countBytes 9 = .ok (.if_icmp .ge 44, 3) := by decide +kernel
theorem dX6_countBytes_12 : decode cX6_countBytes 12 = .ok (.lload_n 1, 1) := by decide +kernel
theorem dX6_countBytes_13 : decode cX6_countBytes 13 = .ok (.iload 4, 2) := by decide +kernel
theorem dX6_countBytes_15 : decode cX6_countBytes 15 = .ok (.invokestatic 18, 3) := by decide +kernel
theorem dX6_countBytes_18 : decode cX6_countBytes 18 = .ok (.istore 5, 2) := by decide +kernel
theorem dX6_countBytes_20 : decode cX6_countBytes 20 = .ok (.iload 5, 2) := by decide +kernel
theorem dX6_countBytes_22 : decode cX6_countBytes 22 = .ok (.ifCond .eq 17, 3) := by decide +kernel
theorem dX6_countBytes_25 : decode cX6_countBytes 25 = .ok (.iload 5, 2) := by decide +kernel
theorem dX6_countBytes_27 : decode cX6_countBytes 27 = .ok (.bipush 32, 2) := by decide +kernel
theorem dX6_countBytes_29 : decode cX6_countBytes 29 = .ok (.bipush 126, 2) := by decide +kernel
theorem dX6_countBytes_31 : decode cX6_countBytes 31 = .ok (.invokestatic 22, 3) := by decide +kernel
theorem dX6_countBytes_34 : decode cX6_countBytes 34 = .ok (.ifCond .ne 5, 3) := by decide +kernel
theorem dX6_countBytes_37 : decode cX6_countBytes 37 = .ok (.iconst (-1), 1) := by decide +kernel
theorem dX6_countBytes_38 : decode cX6_countBytes 38 = .ok (.ireturn, 1) := by decide +kernel
theorem dX6_countBytes_39 : decode cX6_countBytes 39 = .ok (.iload 5, 2) := by decide +kernel
theorem dX6_countBytes_41 : decode cX6_countBytes 41 = .ok (.ifCond .eq 6, 3) := by decide +kernel
theorem dX6_countBytes_44 : decode cX6_countBytes 44 = .ok (.iinc 3 1, 3) := by decide +kernel
theorem dX6_countBytes_47 : decode cX6_countBytes 47 = .ok (.iinc 4 1, 3) := by decide +kernel
theorem dX6_countBytes_50 : decode cX6_countBytes 50 = .ok (.goto (-45), 3) := by decide +kernel
theorem dX6_countBytes_53 : decode cX6_countBytes 53 = .ok (.iload_n 3, 1) := by decide +kernel
theorem dX6_countBytes_54 : decode cX6_countBytes 54 = .ok (.ireturn, 1) := by decide +kernel
set_option maxRecDepth 20000 in
theorem ggX6_append_X6_byteOf : GoodIn wsX6_append wsX6_byteOf := goodIn_r _ [6] (by decide +kernel) (by decide +kernel)
set_option maxRecDepth 20000 in
theorem gX6_append_X6_byteOf : GoodIn wsX6_append (va_wsS RX6 18 yX6_byteOf wsX6_byteOf) := goodIn_app (goodIn_of _ (by decide +kernel)) ggX6_append_X6_byteOf
theorem dX6_append_0 : decode cX6_append 0 = .ok (.iconst 0, 1) := by decide +kernel
theorem dX6_append_1 : decode cX6_append 1 = .ok (.istore_n 3, 1) := by decide +kernel
theorem dX6_append_2 : decode cX6_append 2 = .ok (.iload_n 3, 1) := by decide +kernel
theorem dX6_append_3 : decode cX6_append 3 = .ok (.bipush 8, 2) := by decide +kernel
theorem dX6_append_5 : decode cX6_append 5 = .ok (.if_icmp .ge 51, 3) := by decide +kernel
theorem dX6_append_8 : decode cX6_append 8 = .ok (.lload_n 1, 1) := by decide +kernel
theorem dX6_append_9 : decode cX6_append 9 = .ok (.iload_n 3, 1) := by decide +kernel
theorem dX6_append_10 : decode cX6_append 10 = .ok (.invokestatic 18, 3) := by decide +kernel
theorem dX6_append_13 : decode cX6_append 13 = .ok (.istore 4, 2) := by decide +kernel
theorem dX6_append_15 : decode cX6_append 15 = .ok (.iload 4, 2) := by decide +kernel
theorem dX6_append_17 : decode cX6_append 17 = .ok (.ifCond .eq 33, 3) := by decide +kernel
theorem dX6_append_20 : decode cX6_append 20 = .ok (.aload_n 0, 1) := by decide +kernel
theorem dX6_append_21 : decode cX6_append 21 = .ok (.getfield 26, 3) := by decide +kernel
theorem dX6_append_24 : decode cX6_append 24 = .ok (.bipush 80, 2) := by decide +kernel
theorem dX6_append_26 : decode cX6_append 26 = .ok (.if_icmp .ge 24, 3) := by decide +kernel
theorem dX6_append_29 : decode cX6_append 29 = .ok (.aload_n 0, 1) := by decide +kernel
theorem dX6_append_30 : decode cX6_append 30 = .ok (.getfield 11, 3) := by decide +kernel
theorem dX6_append_33 : decode cX6_append 33 = .ok (.aload_n 0, 1) := by decide +kernel
theorem dX6_append_34 : decode cX6_append 34 = .ok (.getfield 26, 3) := by decide +kernel
theorem dX6_append_37 : decode cX6_append 37 = .ok (.iload 4, 2) := by decide +kernel
theorem dX6_append_39 : decode cX6_append 39 = .ok (.iastore, 1) := by decide +kernel
theorem dX6_append_40 : decode cX6_append 40 = .ok (.aload_n 0, 1) := by decide +kernel
theorem dX6_append_41 : decode cX6_append 41 = .ok (.dup, 1) := by decide +kernel
theorem dX6_append_42 : decode cX6_append 42 = .ok (.getfield 26, 3) := by decide +kernel
theorem dX6_append_45 : decode cX6_append 45 = .ok (.iconst 1, 1) := by decide +kernel
theorem dX6_append_46 : decode cX6_append 46 = .ok (.iadd, 1) := by decide +kernel
theorem dX6_append_47 : decode cX6_append 47 = .ok (.putfield 26, 3) := by decide +kernel
theorem dX6_append_50 : decode cX6_append 50 = .ok (.iinc 3 1, 3) := by decide +kernel
theorem dX6_append_53 : decode cX6_append 53 = .ok (.goto (-51), 3) := by decide +kernel
theorem dX6_append_56 : decode cX6_append 56 = .ok (.return_, 1) := by decide +kernel
theorem dX6_byteOf_0 : decode cX6_byteOf 0 = .ok (.lload_n 0, 1) := by decide +kernel
theorem dX6_byteOf_1 : decode cX6_byteOf 1 = .ok (.bipush 8, 2) := by decide +kernel
theorem dX6_byteOf_3 : decode cX6_byteOf 3 = .ok (.bipush 7, 2) := by decide +kernel
theorem dX6_byteOf_5 : decode cX6_byteOf 5 = .ok (.iload_n 2, 1) := by decide +kernel
theorem dX6_byteOf_6 : decode cX6_byteOf 6 = .ok (.isub, 1) := by decide +kernel
theorem dX6_byteOf_7 : decode cX6_byteOf 7 = .ok (.imul, 1) := by decide +kernel
theorem dX6_byteOf_8 : decode cX6_byteOf 8 = .ok (.lushr, 1) := by decide +kernel
theorem dX6_byteOf_9 : decode cX6_byteOf 9 = .ok (.l2i, 1) := by decide +kernel
theorem dX6_byteOf_10 : decode cX6_byteOf 10 = .ok (.sipush 255, 3) := by decide +kernel
theorem dX6_byteOf_13 : decode cX6_byteOf 13 = .ok (.iand, 1) := by decide +kernel
theorem dX6_byteOf_14 : decode cX6_byteOf 14 = .ok (.ireturn, 1) := by decide +kernel
set_option maxRecDepth 20000 in
theorem ggX6_read_J7_fill_53178 : GoodIn wsX6_read wsJ7_fill_53178 := goodIn_r _ [6] (by decide +kernel) (by decide +kernel)
set_option maxRecDepth 20000 in
theorem gX6_read_J7_fill_53178 : GoodIn wsX6_read (va_wsS RX6 30 yJ7_fill_53178 wsJ7_fill_53178) := goodIn_app (goodIn_of _ (by decide +kernel)) ggX6_read_J7_fill_53178
set_option maxRecDepth 20000 in
theorem ggX6_read_X6_skipBlanks : GoodIn wsX6_read wsX6_skipBlanks := goodIn_r _ [11, 2, 12, 13, 14, 10, 15, 16, 34, 35, 36] (by decide +kernel) (by decide +kernel)
set_option maxRecDepth 20000 in
theorem gX6_read_X6_skipBlanks : GoodIn wsX6_read (wsV RX6 36 RX6 yX6_skipBlanks wsX6_skipBlanks) := goodIn_app (goodIn_of _ (by decide +kernel)) ggX6_read_X6_skipBlanks
set_option maxRecDepth 20000 in
theorem ggX6_read_X6_endOfNumber : GoodIn wsX6_read wsX6_endOfNumber := goodIn_r _ [20, 2, 16, 21, 22, 23, 34, 35, 36] (by decide +kernel) (by decide +kernel)
set_option maxRecDepth 20000 in
theorem gX6_read_X6_endOfNumber : GoodIn wsX6_read (wsV RX6 40 RX6 yX6_endOfNumber wsX6_endOfNumber) := goodIn_app (goodIn_of _ (by decide +kernel)) ggX6_read_X6_endOfNumber
set_option maxRecDepth 20000 in
theorem ggX6_read_X6_valueOf : GoodIn wsX6_read wsX6_valueOf := goodIn_r _ [27, 16, 34, 35, 36] (by decide +kernel) (by decide +kernel)
set_option maxRecDepth 20000 in
theorem gX6_read_X6_valueOf : GoodIn wsX6_read (wsV RX6 43 RX6 yX6_valueOf wsX6_valueOf) := goodIn_app (goodIn_of _ (by decide +kernel)) ggX6_read_X6_valueOf
set_option maxRecDepth 20000 in
theorem ggX6_read_X6_isNumber : GoodIn wsX6_read wsX6_isNumber := goodIn_r _ [30, 21, 22, 23] (by decide +kernel) (by decide +kernel)
set_option maxRecDepth 20000 in
theorem gX6_read_X6_isNumber : GoodIn wsX6_read (va_wsS RX6 47 yX6_isNumber wsX6_isNumber) := goodIn_app (goodIn_of _ (by decide +kernel)) ggX6_read_X6_isNumber
set_option maxRecDepth 20000 in
theorem ggX6_read_X6_faultOfNumber : GoodIn wsX6_read wsX6_faultOfNumber := goodIn_r _ [33] (by decide +kernel) (by decide +kernel)
set_option maxRecDepth 20000 in
theorem gX6_read_X6_faultOfNumber : GoodIn wsX6_read (va_wsS RX6 51 yX6_faultOfNumber wsX6_faultOfNumber) := goodIn_app (goodIn_of _ (by decide +kernel)) ggX6_read_X6_faultOfNumber
set_option maxRecDepth 20000 in
theorem ggX6_read_X6_hasAt : GoodIn wsX6_read wsX6_hasAt := goodIn_r _ [15, 2, 16, 34, 35, 36] (by decide +kernel) (by decide +kernel)
set_option maxRecDepth 20000 in
theorem gX6_read_X6_hasAt : GoodIn wsX6_read (wsV RX6 54 RX6 yX6_hasAt wsX6_hasAt) := goodIn_app (goodIn_of _ (by decide +kernel)) ggX6_read_X6_hasAt
theorem dX6_read_0 : decode cX6_read 0 = .ok (.aload_n 0, 1) := by decide +kernel
theorem dX6_read_1 : decode cX6_read 1 = .ok (.getfield 15, 3) := by decide +kernel
theorem dX6_read_4 : decode cX6_read 4 = .ok (.iconst 0, 1) := by decide +kernel
theorem dX6_read_5 : decode cX6_read 5 = .ok (.invokestatic 30, 3) := by decide +kernel
theorem dX6_read_8 : decode cX6_read 8 = .ok (.iconst 0, 1) := by decide +kernel
theorem dX6_read_9 : decode cX6_read 9 = .ok (.istore_n 1, 1) := by decide +kernel
theorem dX6_read_10 : decode cX6_read 10 = .ok (.iconst (-1), 1) := by decide +kernel
theorem dX6_read_11 : decode cX6_read 11 = .ok (.istore_n 2, 1) := by decide +kernel
theorem dX6_read_12 : decode cX6_read 12 = .ok (.iconst 0, 1) := by decide +kernel
theorem dX6_read_13 : decode cX6_read 13 = .ok (.istore_n 3, 1) := by decide +kernel
theorem dX6_read_14 : decode cX6_read 14 = .ok (.iload_n 3, 1) := by decide +kernel
theorem dX6_read_15 : decode cX6_read 15 = .ok (.bipush 8, 2) := by decide +kernel
theorem dX6_read_17 : decode cX6_read 17 = .ok (.if_icmp .gt 182, 3) := by decide +kernel
theorem dX6_read_20 : decode cX6_read 20 = .ok (.aload_n 0, 1) := by decide +kernel
theorem dX6_read_21 : decode cX6_read 21 = .ok (.iload_n 1, 1) := by decide +kernel
theorem dX6_read_22 : decode cX6_read 22 = .ok (.invokevirtual 36, 3) := by decide +kernel
theorem dX6_read_25 : decode cX6_read 25 = .ok (.istore 4, 2) := by decide +kernel
theorem dX6_read_27 : decode cX6_read 27 = .ok (.aload_n 0, 1) := by decide +kernel
theorem dX6_read_28 : decode cX6_read 28 = .ok (.iload 4, 2) := by decide +kernel
theorem dX6_read_30 : decode cX6_read 30 = .ok (.invokevirtual 40, 3) := by decide +kernel
theorem dX6_read_33 : decode cX6_read 33 = .ok (.istore 5, 2) := by decide +kernel
theorem dX6_read_35 : decode cX6_read 35 = .ok (.aload_n 0, 1) := by decide +kernel
theorem dX6_read_36 : decode cX6_read 36 = .ok (.iload 4, 2) := by decide +kernel
theorem dX6_read_38 : decode cX6_read 38 = .ok (.iload 5, 2) := by decide +kernel
theorem dX6_read_40 : decode cX6_read 40 = .ok (.invokevirtual 43, 3) := by decide +kernel
theorem dX6_read_43 : decode cX6_read 43 = .ok (.istore 6, 2) := by decide +kernel
theorem dX6_read_45 : decode cX6_read 45 = .ok (.iload 4, 2) := by decide +kernel
theorem dX6_read_47 : decode cX6_read 47 = .ok (.iload 5, 2) := by decide +kernel
theorem dX6_read_49 : decode cX6_read 49 = .ok (.invokestatic 47, 3) := by decide +kernel
theorem dX6_read_52 : decode cX6_read 52 = .ok (.ifCond .ne 11, 3) := by decide +kernel
theorem dX6_read_55 : decode cX6_read 55 = .ok (.iload 4, 2) := by decide +kernel
theorem dX6_read_57 : decode cX6_read 57 = .ok (.iload 5, 2) := by decide +kernel
theorem dX6_read_59 : decode cX6_read 59 = .ok (.invokestatic 51, 3) := by decide +kernel
theorem dX6_read_62 : decode cX6_read 62 = .ok (.ireturn, 1) := by decide +kernel
theorem dX6_read_63 : decode cX6_read 63 = .ok (.iload 6, 2) := by decide +kernel
theorem dX6_read_65 : decode cX6_read 65 = .ok (.bipush 8, 2) := by decide +kernel
theorem dX6_read_67 : decode cX6_read 67 = .ok (.if_icmp .ge 9, 3) := by decide +kernel
theorem dX6_read_70 : decode cX6_read 70 = .ok (.iload 6, 2) := by decide +kernel
theorem dX6_read_72 : decode cX6_read 72 = .ok (.iload_n 2, 1) := by decide +kernel
theorem dX6_read_73 : decode cX6_read 73 = .ok (.if_icmp .gt 6, 3) := by decide +kernel
theorem dX6_read_76 : decode cX6_read 76 = .ok (.iload 4, 2) := by decide +kernel
theorem dX6_read_78 : decode cX6_read 78 = .ok (.ireturn, 1) := by decide +kernel
theorem dX6_read_79 : decode cX6_read 79 = .ok (.aload_n 0, 1) := by decide +kernel
theorem dX6_read_80 : decode cX6_read 80 = .ok (.iload 5, 2) := by decide +kernel
theorem dX6_read_82 : decode cX6_read 82 = .ok (.invokevirtual 36, 3) := by decide +kernel
theorem dX6_read_85 : decode cX6_read 85 = .ok (.istore 7, 2) := by decide +kernel
theorem dX6_read_87 : decode cX6_read 87 = .ok (.aload_n 0, 1) := by decide +kernel
theorem dX6_read_88 : decode cX6_read 88 = .ok (.iload 7, 2) := by decide +kernel
theorem dX6_read_90 : decode cX6_read 90 = .ok (.bipush 58, 2) := by decide +kernel
theorem dX6_read_92 : decode cX6_read 92 = .ok (.invokevirtual 54, 3) := by decide +kernel
theorem dX6_read_95 : decode cX6_read 95 = .ok (.ifCond .ne 6, 3) := by decide +kernel
theorem dX6_read_98 : decode cX6_read 98 = .ok (.iload 7, 2) := by decide +kernel
theorem dX6_read_100 : decode cX6_read 100 = .ok (.ireturn, 1) := by decide +kernel
theorem dX6_read_101 : decode cX6_read 101 = .ok (.aload_n 0, 1) := by decide +kernel
theorem dX6_read_102 : decode cX6_read 102 = .ok (.iload 7, 2) := by decide +kernel
theorem dX6_read_104 : decode cX6_read 104 = .ok (.iconst 1, 1) := by decide +kernel
theorem dX6_read_105 : decode cX6_read 105 = .ok (.iadd, 1) := by decide +kernel
theorem dX6_read_106 : decode cX6_read 106 = .ok (.invokevirtual 36, 3) := by decide +kernel
theorem dX6_read_109 : decode cX6_read 109 = .ok (.istore 8, 2) := by decide +kernel
theorem dX6_read_111 : decode cX6_read 111 = .ok (.aload_n 0, 1) := by decide +kernel
theorem dX6_read_112 : decode cX6_read 112 = .ok (.iload 8, 2) := by decide +kernel
theorem dX6_read_114 : decode cX6_read 114 = .ok (.invokevirtual 40, 3) := by decide +kernel
theorem dX6_read_117 : decode cX6_read 117 = .ok (.istore 9, 2) := by decide +kernel
theorem dX6_read_119 : decode cX6_read 119 = .ok (.iload 8, 2) := by decide +kernel
theorem dX6_read_121 : decode cX6_read 121 = .ok (.iload 9, 2) := by decide +kernel
theorem dX6_read_123 : decode cX6_read 123 = .ok (.invokestatic 47, 3) := by decide +kernel
theorem dX6_read_126 : decode cX6_read 126 = .ok (.ifCond .ne 11, 3) := by decide +kernel
theorem dX6_read_129 : decode cX6_read 129 = .ok (.iload 8, 2) := by decide +kernel
theorem dX6_read_131 : decode cX6_read 131 = .ok (.iload 9, 2) := by decide +kernel
theorem dX6_read_133 : decode cX6_read 133 = .ok (.invokestatic 51, 3) := by decide +kernel
theorem dX6_read_136 : decode cX6_read 136 = .ok (.ireturn, 1) := by decide +kernel
theorem dX6_read_137 : decode cX6_read 137 = .ok (.aload_n 0, 1) := by decide +kernel
theorem dX6_read_138 : decode cX6_read 138 = .ok (.getfield 15, 3) := by decide +kernel
theorem dX6_read_141 : decode cX6_read 141 = .ok (.iload 6, 2) := by decide +kernel
theorem dX6_read_143 : decode cX6_read 143 = .ok (.aload_n 0, 1) := by decide +kernel
theorem dX6_read_144 : decode cX6_read 144 = .ok (.iload 8, 2) := by decide +kernel
theorem dX6_read_146 : decode cX6_read 146 = .ok (.iload 9, 2) := by decide +kernel
theorem dX6_read_148 : decode cX6_read 148 = .ok (.invokevirtual 43, 3) := by decide +kernel
theorem dX6_read_151 : decode cX6_read 151 = .ok (.iastore, 1) := by decide +kernel
theorem dX6_read_152 : decode cX6_read 152 = .ok (.aload_n 0, 1) := by decide +kernel
theorem dX6_read_153 : decode cX6_read 153 = .ok (.iload 9, 2) := by decide +kernel
theorem dX6_read_155 : decode cX6_read 155 = .ok (.invokevirtual 36, 3) := by decide +kernel
theorem dX6_read_158 : decode cX6_read 158 = .ok (.istore 10, 2) := by decide +kernel
theorem dX6_read_160 : decode cX6_read 160 = .ok (.iload 10, 2) := by decide +kernel
theorem dX6_read_162 : decode cX6_read 162 = .ok (.aload_n 0, 1) := by decide +kernel
theorem dX6_read_163 : decode cX6_read 163 = .ok (.getfield 26, 3) := by decide +kernel
theorem dX6_read_166 : decode cX6_read 166 = .ok (.if_icmp .lt 5, 3) := by decide +kernel
theorem dX6_read_169 : decode cX6_read 169 = .ok (.iconst (-1), 1) := by decide +kernel
theorem dX6_read_170 : decode cX6_read 170 = .ok (.ireturn, 1) := by decide +kernel
theorem dX6_read_171 : decode cX6_read 171 = .ok (.aload_n 0, 1) := by decide +kernel
theorem dX6_read_172 : decode cX6_read 172 = .ok (.iload 10, 2) := by decide +kernel
theorem dX6_read_174 : decode cX6_read 174 = .ok (.bipush 44, 2) := by decide +kernel
theorem dX6_read_176 : decode cX6_read 176 = .ok (.invokevirtual 54, 3) := by decide +kernel
theorem dX6_read_179 : decode cX6_read 179 = .ok (.ifCond .ne 6, 3) := by decide +kernel
theorem dX6_read_182 : decode cX6_read 182 = .ok (.iload 10, 2) := by decide +kernel
theorem dX6_read_184 : decode cX6_read 184 = .ok (.ireturn, 1) := by decide +kernel
theorem dX6_read_185 : decode cX6_read 185 = .ok (.iload 10, 2) := by decide +kernel
theorem dX6_read_187 : decode cX6_read 187 = .ok (.iconst 1, 1) := by decide +kernel
theorem dX6_read_188 : decode cX6_read 188 = .ok (.iadd, 1) := by decide +kernel
theorem dX6_read_189 : decode cX6_read 189 = .ok (.istore_n 1, 1) := by decide +kernel
theorem dX6_read_190 : decode cX6_read 190 = .ok (.iload 6, 2) := by decide +kernel
theorem dX6_read_192 : decode cX6_read 192 = .ok (.istore_n 2, 1) := by decide +kernel
theorem dX6_read_193 : decode cX6_read 193 = .ok (.iinc 3 1, 3) := by decide +kernel
theorem dX6_read_196 : decode cX6_read 196 = .ok (.goto (-182), 3) := by decide +kernel
theorem dX6_read_199 : decode cX6_read 199 = .ok (.iload_n 1, 1) := by decide +kernel
theorem dX6_read_200 : decode cX6_read 200 = .ok (.ireturn, 1) := by decide +kernel
theorem dX6_hasAt_0 : decode cX6_hasAt 0 = .ok (.iload_n 1, 1) := by decide +kernel
theorem dX6_hasAt_1 : decode cX6_hasAt 1 = .ok (.aload_n 0, 1) := by decide +kernel
theorem dX6_hasAt_2 : decode cX6_hasAt 2 = .ok (.getfield 26, 3) := by decide +kernel
theorem dX6_hasAt_5 : decode cX6_hasAt 5 = .ok (.if_icmp .ge 17, 3) := by decide +kernel
theorem dX6_hasAt_8 : decode cX6_hasAt 8 = .ok (.aload_n 0, 1) := by decide +kernel
theorem dX6_hasAt_9 : decode cX6_hasAt 9 = .ok (.getfield 11, 3) := by decide +kernel
theorem dX6_hasAt_12 : decode cX6_hasAt 12 = .ok (.iload_n 1, 1) := by decide +kernel
theorem dX6_hasAt_13 : decode cX6_hasAt 13 = .ok (.iaload, 1) := by decide +kernel
theorem dX6_hasAt_14 : decode cX6_hasAt 14 = .ok (.iload_n 2, 1) := by decide +kernel
theorem dX6_hasAt_15 : decode cX6_hasAt 15 = .ok (.if_icmp .ne 7, 3) := by decide +kernel
theorem dX6_hasAt_18 : decode cX6_hasAt 18 = .ok (.iconst 1, 1) := by decide +kernel
theorem dX6_hasAt_19 : decode cX6_hasAt 19 = .ok (.goto 4, 3) := by decide +kernel
theorem dX6_hasAt_22 : decode cX6_hasAt 22 = .ok (.iconst 0, 1) := by decide +kernel
theorem dX6_hasAt_23 : decode cX6_hasAt 23 = .ok (.ireturn, 1) := by decide +kernel
set_option maxRecDepth 20000 in
theorem ggX6_skipBlanks_X6_hasAt : GoodIn wsX6_skipBlanks wsX6_hasAt := goodIn_r _ [6, 1, 7, 8, 9, 10] (by decide +kernel) (by decide +kernel)
set_option maxRecDepth 20000 in
theorem gX6_skipBlanks_X6_hasAt : GoodIn wsX6_skipBlanks (wsV RX6 54 RX6 yX6_hasAt wsX6_hasAt) := goodIn_app (goodIn_of _ (by decide +kernel)) ggX6_skipBlanks_X6_hasAt
theorem dX6_skipBlanks_0 : decode cX6_skipBlanks 0 = .ok (.iload_n 1, 1) := by decide +kernel
theorem dX6_skipBlanks_1 : decode cX6_skipBlanks 1 = .ok (.istore_n 2, 1) := by decide +kernel
theorem dX6_skipBlanks_2 : decode cX6_skipBlanks 2 = .ok (.iload_n 2, 1) := by decide +kernel
theorem dX6_skipBlanks_3 : decode cX6_skipBlanks 3 = .ok (.aload_n 0, 1) := by decide +kernel
theorem dX6_skipBlanks_4 : decode cX6_skipBlanks 4 = .ok (.getfield 26, 3) := by decide +kernel
theorem dX6_skipBlanks_7 : decode cX6_skipBlanks 7 = .ok (.if_icmp .ge 19, 3) := by decide +kernel
theorem dX6_skipBlanks_10 : decode cX6_skipBlanks 10 = .ok (.aload_n 0, 1) := by decide +kernel
theorem dX6_skipBlanks_11 : decode cX6_skipBlanks 11 = .ok (.iload_n 2, 1) := by decide +kernel
theorem dX6_skipBlanks_12 : decode cX6_skipBlanks 12 = .ok (.bipush 32, 2) := by decide +kernel
theorem dX6_skipBlanks_14 : decode cX6_skipBlanks 14 = .ok (.invokevirtual 54, 3) := by decide +kernel
theorem dX6_skipBlanks_17 : decode cX6_skipBlanks 17 = .ok (.ifCond .eq 9, 3) := by decide +kernel
theorem dX6_skipBlanks_20 : decode cX6_skipBlanks 20 = .ok (.iinc 2 1, 3) := by decide +kernel
theorem dX6_skipBlanks_23 : decode cX6_skipBlanks 23 = .ok (.goto (-21), 3) := by decide +kernel
theorem dX6_skipBlanks_26 : decode cX6_skipBlanks 26 = .ok (.iload_n 2, 1) := by decide +kernel
theorem dX6_skipBlanks_27 : decode cX6_skipBlanks 27 = .ok (.ireturn, 1) := by decide +kernel
set_option maxRecDepth 20000 in
theorem ggX6_endOfNumber_X11_isWithin : GoodIn wsX6_endOfNumber wsX11_isWithin := goodIn_r _ [5] (by decide +kernel) (by decide +kernel)
set_option maxRecDepth 20000 in
theorem gX6_endOfNumber_X11_isWithin_n22 : GoodIn wsX6_endOfNumber (wsX11_isWithin) := ggX6_endOfNumber_X11_isWithin
theorem dX6_endOfNumber_0 : decode cX6_endOfNumber 0 = .ok (.iload_n 1, 1) := by decide +kernel
theorem dX6_endOfNumber_1 : decode cX6_endOfNumber 1 = .ok (.istore_n 2, 1) := by decide +kernel
theorem dX6_endOfNumber_2 : decode cX6_endOfNumber 2 = .ok (.iload_n 2, 1) := by decide +kernel
theorem dX6_endOfNumber_3 : decode cX6_endOfNumber 3 = .ok (.aload_n 0, 1) := by decide +kernel
theorem dX6_endOfNumber_4 : decode cX6_endOfNumber 4 = .ok (.getfield 26, 3) := by decide +kernel
theorem dX6_endOfNumber_7 : decode cX6_endOfNumber 7 = .ok (.if_icmp .ge 25, 3) := by decide +kernel
theorem dX6_endOfNumber_10 : decode cX6_endOfNumber 10 = .ok (.aload_n 0, 1) := by decide +kernel
theorem dX6_endOfNumber_11 : decode cX6_endOfNumber 11 = .ok (.getfield 11, 3) := by decide +kernel
theorem dX6_endOfNumber_14 : decode cX6_endOfNumber 14 = .ok (.iload_n 2, 1) := by decide +kernel
theorem dX6_endOfNumber_15 : decode cX6_endOfNumber 15 = .ok (.iaload, 1) := by decide +kernel
theorem dX6_endOfNumber_16 : decode cX6_endOfNumber 16 = .ok (.bipush 48, 2) := by decide +kernel
theorem dX6_endOfNumber_18 : decode cX6_endOfNumber 18 = .ok (.bipush 57, 2) := by decide +kernel
theorem dX6_endOfNumber_20 : decode cX6_endOfNumber 20 = .ok (.invokestatic 22, 3) := by decide +kernel
theorem dX6_endOfNumber_23 : decode cX6_endOfNumber 23 = .ok (.ifCond .eq 9, 3) := by decide +kernel
theorem dX6_endOfNumber_26 : decode cX6_endOfNumber 26 = .ok (.iinc 2 1, 3) := by decide +kernel
theorem dX6_endOfNumber_29 : decode cX6_endOfNumber 29 = .ok (.goto (-27), 3) := by decide +kernel
theorem dX6_endOfNumber_32 : decode cX6_endOfNumber 32 = .ok (.iload_n 2, 1) := by decide +kernel
theorem dX6_endOfNumber_33 : decode cX6_endOfNumber 33 = .ok (.ireturn, 1) := by decide +kernel
set_option maxRecDepth 20000 in
theorem ggX6_isNumber_X11_isWithin : GoodIn wsX6_isNumber wsX11_isWithin := goodIn_r _ [3] (by decide +kernel) (by decide +kernel)
set_option maxRecDepth 20000 in
theorem gX6_isNumber_X11_isWithin_n22 : GoodIn wsX6_isNumber (wsX11_isWithin) := ggX6_isNumber_X11_isWithin
theorem dX6_isNumber_0 : decode cX6_isNumber 0 = .ok (.iload_n 1, 1) := by decide +kernel
theorem dX6_isNumber_1 : decode cX6_isNumber 1 = .ok (.iload_n 0, 1) := by decide +kernel
theorem dX6_isNumber_2 : decode cX6_isNumber 2 = .ok (.isub, 1) := by decide +kernel
theorem dX6_isNumber_3 : decode cX6_isNumber 3 = .ok (.iconst 1, 1) := by decide +kernel
theorem dX6_isNumber_4 : decode cX6_isNumber 4 = .ok (.iconst 4, 1) := by decide +kernel
theorem dX6_isNumber_5 : decode cX6_isNumber 5 = .ok (.invokestatic 22, 3) := by decide +kernel
theorem dX6_isNumber_8 : decode cX6_isNumber 8 = .ok (.ireturn, 1) := by decide +kernel
theorem dX6_faultOfNumber_0 : decode cX6_faultOfNumber 0 = .ok (.iload_n 1, 1) := by decide +kernel
theorem dX6_faultOfNumber_1 : decode cX6_faultOfNumber 1 = .ok (.iload_n 0, 1) := by decide +kernel
theorem dX6_faultOfNumber_2 : decode cX6_faultOfNumber 2 = .ok (.if_icmp .le 9, 3) := by decide +kernel
theorem dX6_faultOfNumber_5 : decode cX6_faultOfNumber 5 = .ok (.iload_n 0, 1) := by decide +kernel
theorem dX6_faultOfNumber_6 : decode cX6_faultOfNumber 6 = .ok (.iconst 4, 1) := by decide +kernel
theorem dX6_faultOfNumber_7 : decode cX6_faultOfNumber 7 = .ok (.iadd, 1) := by decide +kernel
theorem dX6_faultOfNumber_8 : decode cX6_faultOfNumber 8 = .ok (.goto 4, 3) := by decide +kernel
theorem dX6_faultOfNumber_11 : decode cX6_faultOfNumber 11 = .ok (.iload_n 0, 1) := by decide +kernel
theorem dX6_faultOfNumber_12 : decode cX6_faultOfNumber 12 = .ok (.ireturn, 1) := by decide +kernel
theorem dX6_valueOf_0 : decode cX6_valueOf 0 = .ok (.iconst 0, 1) := by decide +kernel
theorem dX6_valueOf_1 : decode cX6_valueOf 1 = .ok (.istore_n 3, 1) := by decide +kernel
theorem dX6_valueOf_2 : decode cX6_valueOf 2 = .ok (.iload_n 1, 1) := by decide +kernel
theorem dX6_valueOf_3 : decode cX6_valueOf 3 = .ok (.istore 4, 2) := by decide +kernel
theorem dX6_valueOf_5 : decode cX6_valueOf 5 = .ok (.iload 4, 2) := by decide +kernel
theorem dX6_valueOf_7 : decode cX6_valueOf 7 = .ok (.iload_n 2, 1) := by decide +kernel
theorem dX6_valueOf_8 : decode cX6_valueOf 8 = .ok (.if_icmp .ge 33, 3) := by decide +kernel
theorem dX6_valueOf_11 : decode cX6_valueOf 11 = .ok (.iload 4, 2) := by decide +kernel
theorem dX6_valueOf_13 : decode cX6_valueOf 13 = .ok (.iload_n 1, 1) := by decide +kernel
theorem dX6_valueOf_14 : decode cX6_valueOf 14 = .ok (.iconst 4, 1) := by decide +kernel
theorem dX6_valueOf_15 : decode cX6_valueOf 15 = .ok (.iadd, 1) := by decide +kernel
theorem dX6_valueOf_16 : decode cX6_valueOf 16 = .ok (.if_icmp .ge 25, 3) := by decide +kernel
theorem dX6_valueOf_19 : decode cX6_valueOf 19 = .ok (.bipush 10, 2) := by decide +kernel
theorem dX6_valueOf_21 : decode cX6_valueOf 21 = .ok (.iload_n 3, 1) := by decide +kernel
theorem dX6_valueOf_22 : decode cX6_valueOf 22 = .ok (.imul, 1) := by decide +kernel
theorem dX6_valueOf_23 : decode cX6_valueOf 23 = .ok (.aload_n 0, 1) := by decide +kernel
theorem dX6_valueOf_24 : decode cX6_valueOf 24 = .ok (.getfield 11, 3) := by decide +kernel
theorem dX6_valueOf_27 : decode cX6_valueOf 27 = .ok (.iload 4, 2) := by decide +kernel
theorem dX6_valueOf_29 : decode cX6_valueOf 29 = .ok (.iaload, 1) := by decide +kernel
theorem dX6_valueOf_30 : decode cX6_valueOf 30 = .ok (.iadd, 1) := by decide +kernel
theorem dX6_valueOf_31 : decode cX6_valueOf 31 = .ok (.bipush 48, 2) := by decide +kernel
theorem dX6_valueOf_33 : decode cX6_valueOf 33 = .ok (.isub, 1) := by decide +kernel
theorem dX6_valueOf_34 : decode cX6_valueOf 34 = .ok (.istore_n 3, 1) := by decide +kernel
theorem dX6_valueOf_35 : decode cX6_valueOf 35 = .ok (.iinc 4 1, 3) := by decide +kernel
theorem dX6_valueOf_38 : decode cX6_valueOf 38 = .ok (.goto (-33), 3) := by decide +kernel
theorem dX6_valueOf_41 : decode cX6_valueOf 41 = .ok (.iload_n 3, 1) := by decide +kernel
theorem dX6_valueOf_42 : decode cX6_valueOf 42 = .ok (.ireturn, 1) := by decide +kernel
theorem dX7_init_0 : decode cX7_init 0 = .ok (.aload_n 0, 1) := by decide +kernel
theorem dX7_init_1 : decode cX7_init 1 = .ok (.invokespecial 3, 3) := by decide +kernel
theorem dX7_init_4 : decode cX7_init 4 = .ok (.aload_n 0, 1) := by decide +kernel
theorem dX7_init_5 : decode cX7_init 5 = .ok (.bipush 20, 2) := by decide +kernel
theorem dX7_init_7 : decode cX7_init 7 = .ok (.newarray .int, 2) := by decide +kernel
theorem dX7_init_9 : decode cX7_init 9 = .ok (.putfield 9, 3) := by decide +kernel
theorem dX7_init_12 : decode cX7_init 12 = .ok (.aload_n 0, 1) := by decide +kernel
theorem dX7_init_13 : decode cX7_init 13 = .ok (.bipush 20, 2) := by decide +kernel
theorem dX7_init_15 : decode cX7_init 15 = .ok (.newarray .int, 2) := by decide +kernel
theorem dX7_init_17 : decode cX7_init 17 = .ok (.putfield 15, 3) := by decide +kernel
theorem dX7_init_20 : decode cX7_init 20 = .ok (.aload_n 0, 1) := by decide +kernel
theorem dX7_init_21 : decode cX7_init 21 = .ok (.bipush 20, 2) := by decide +kernel
theorem dX7_init_23 : decode cX7_init 23 = .ok (.newarray .int, 2) := by decide +kernel
theorem dX7_init_25 : decode cX7_init 25 = .ok (.putfield 18, 3) := by decide +kernel
theorem dX7_init_28 : decode cX7_init 28 = .ok (.aload_n 0, 1) := by decide +kernel
theorem dX7_init_29 : decode cX7_init 29 = .ok (.bipush 20, 2) := by decide +kernel
theorem dX7_init_31 : decode cX7_init 31 = .ok (.newarray .int, 2) := by decide +kernel
theorem dX7_init_33 : decode cX7_init 33 = .ok (.putfield 21, 3) := by decide +kernel
theorem dX7_init_36 : decode cX7_init 36 = .ok (.aload_n 0, 1) := by decide +kernel
theorem dX7_init_37 : decode cX7_init 37 = .ok (.bipush 40, 2) := by decide +kernel
theorem dX7_init_39 : decode cX7_init 39 = .ok (.newarray .int, 2) := by decide +kernel
theorem dX7_init_41 : decode cX7_init 41 = .ok (.putfield 24, 3) := by decide +kernel
theorem dX7_init_44 : decode cX7_init 44 = .ok (.aload_n 0, 1) := by decide +kernel
theorem dX7_init_45 : decode cX7_init 45 = .ok (.aload_n 1, 1) := by decide +kernel
theorem dX7_init_46 : decode cX7_init 46 = .ok (.putfield 27, 3) := by decide +kernel
theorem dX7_init_49 : decode cX7_init 49 = .ok (.aload_n 0, 1) := by decide +kernel
theorem dX7_init_50 : decode cX7_init 50 = .ok (.aload_n 2, 1) := by decide +kernel
theorem dX7_init_51 : decode cX7_init 51 = .ok (.putfield 31, 3) := by decide +kernel
theorem dX7_init_54 : decode cX7_init 54 = .ok (.aload_n 0, 1) := by decide +kernel
theorem dX7_init_55 : decode cX7_init 55 = .ok (.aload_n 3, 1) := by decide +kernel
theorem dX7_init_56 : decode cX7_init 56 = .ok (.putfield 35, 3) := by decide +kernel
theorem dX7_init_59 : decode cX7_init 59 = .ok (.return_, 1) := by decide +kernel
set_option maxRecDepth 20000 in
theorem ggX7_make_X7_setTicks : GoodIn wsX7_make wsX7_setTicks := goodIn_r _ [8, 9, 10, 11, 12, 1, 13, 14, 15, 16, 17, 18, 19, 20, 21, 22, 23, 7, 24, 25, 26, 27, 28, 29, 30, 31, 32, 33, 34, 35, 36, 37, 38, 39, 53, 54, 55, 56, 57, 58, 59, 60, 69, 70, 71, 72, 73, 61, 62, 63, 64, 65, 66, 67, 68, 74, 75, 76, 77, 78, 79, 80, 81] (by decide +kernel) (by decide +kernel)
set_option maxRecDepth 20000 in
theorem gX7_make_X7_setTicks : GoodIn wsX7_make (wsV RX7 45 RX7 yX7_setTicks wsX7_setTicks) := goodIn_app (goodIn_of _ (by decide +kernel)) ggX7_make_X7_setTicks
set_option maxRecDepth 20000 in
theorem ggX7_make_X7_beginOf : GoodIn wsX7_make wsX7_beginOf := goodIn_r _ [43, 10, 11, 53, 54, 55, 56, 57, 58, 59, 60, 69, 70, 71, 72, 73] (by decide +kernel) (by decide +kernel)
set_option maxRecDepth 20000 in
theorem gX7_make_X7_beginOf : GoodIn wsX7_make (wsV RX7 49 RX7 yX7_beginOf wsX7_beginOf) := goodIn_app (goodIn_of _ (by decide +kernel)) ggX7_make_X7_beginOf
set_option maxRecDepth 20000 in
theorem ggX7_make_X7_giveRound : GoodIn wsX7_make wsX7_giveRound := goodIn_r _ [47, 10, 48, 1, 2, 3, 12, 49, 50, 51, 7, 52, 9, 53, 54, 55, 56, 57, 58, 59, 60, 69, 70, 71, 72, 73, 61, 62, 63, 64, 65, 66, 67, 68] (by decide +kernel) (by decide +kernel)
set_option maxRecDepth 20000 in
theorem gX7_make_X7_giveRound : GoodIn wsX7_make (wsV RX7 53 RX7 yX7_giveRound wsX7_giveRound) := goodIn_app (goodIn_of _ (by decide +kernel)) ggX7_make_X7_giveRound
theorem dX7_make_0 : decode cX7_make 0 = .ok (.iconst 0, 1) := by decide +kernel
theorem dX7_make_1 : decode cX7_make 1 = .ok (.istore_n 1, 1) := by decide +kernel
theorem dX7_make_2 : decode cX7_make 2 = .ok (.iload_n 1, 1) := by decide +kernel
theorem dX7_make_3 : decode cX7_make 3 = .ok (.aload_n 0, 1) := by decide +kernel
theorem dX7_make_4 : decode cX7_make 4 = .ok (.getfield 31, 3) := by decide +kernel
theorem dX7_make_7 : decode cX7_make 7 = .ok (.getfield 39, 3) := by decide +kernel
theorem dX7_make_10 : decode cX7_make 10 = .ok (.if_icmp .ge 21, 3) := by decide +kernel
theorem dX7_make_13 : decode cX7_make 13 = .ok (.aload_n 0, 1) := by decide +kernel
theorem dX7_make_14 : decode cX7_make 14 = .ok (.getfield 18, 3) := by decide +kernel
theorem dX7_make_17 : decode cX7_make 17 = .ok (.iload_n 1, 1) := by decide +kernel
theorem dX7_make_18 : decode cX7_make 18 = .ok (.iconst (-1), 1) := by decide +kernel
theorem dX7_make_19 : decode cX7_make 19 = .ok (.iastore, 1) := by decide +kernel
theorem dX7_make_20 : decode cX7_make 20 = .ok (.aload_n 0, 1) := by decide +kernel
theorem dX7_make_21 : decode cX7_make 21 = .ok (.iload_n 1, 1) := by decide +kernel
theorem dX7_make_22 : decode cX7_make 22 = .ok (.invokevirtual 45, 3) := by decide +kernel
theorem dX7_make_25 : decode cX7_make 25 = .ok (.iinc 1 1, 3) := by decide +kernel
theorem dX7_make_28 : decode cX7_make 28 = .ok (.goto (-26), 3) := by decide +kernel
theorem dX7_make_31 : decode cX7_make 31 = .ok (.iconst 0, 1) := by decide +kernel
theorem dX7_make_32 : decode cX7_make 32 = .ok (.istore_n 1, 1) := by decide +kernel
theorem dX7_make_33 : decode cX7_make 33 = .ok (.iload_n 1, 1) := by decide +kernel
theorem dX7_make_34 : decode cX7_make 34 = .ok (.bipush 40, 2) := by decide +kernel
theorem dX7_make_36 : decode cX7_make 36 = .ok (.if_icmp .ge 18, 3) := by decide +kernel
theorem dX7_make_39 : decode cX7_make 39 = .ok (.aload_n 0, 1) := by decide +kernel
theorem dX7_make_40 : decode cX7_make 40 = .ok (.aload_n 0, 1) := by decide +kernel
theorem dX7_make_41 : decode cX7_make 41 = .ok (.iload_n 1, 1) := by decide +kernel
theorem dX7_make_42 : decode cX7_make 42 = .ok (.invokevirtual 49, 3) := by decide +kernel
theorem dX7_make_45 : decode cX7_make 45 = .ok (.invokevirtual 53, 3) := by decide +kernel
theorem dX7_make_48 : decode cX7_make 48 = .ok (.iinc 1 1, 3) := by decide +kernel
theorem dX7_make_51 : decode cX7_make 51 = .ok (.goto (-18), 3) := by decide +kernel
theorem dX7_make_54 : decode cX7_make 54 = .ok (.return_, 1) := by decide +kernel
set_option maxRecDepth 20000 in
theorem ggX7_doughsInPlan_X7_isInPlan : GoodIn wsX7_doughsInPlan wsX7_isInPlan := goodIn_r _ [7, 8, 9, 10, 11, 12, 13, 14, 15, 16, 17] (by decide +kernel) (by decide +kernel)
set_option maxRecDepth 20000 in
theorem gX7_doughsInPlan_X7_isInPlan : GoodIn wsX7_doughsInPlan (wsV RX7 56 RX7 yX7_isInPlan wsX7_isInPlan) := goodIn_app (goodIn_of _ (by decide +kernel)) ggX7_doughsInPlan_X7_isInPlan
theorem dX7_doughsInPlan_0 : decode cX7_doughsInPlan 0 = .ok (.iconst 0, 1) := by decide +kernel
theorem dX7_doughsInPlan_1 : decode cX7_doughsInPlan 1 = .ok (.istore_n 1, 1) := by decide +kernel
theorem dX7_doughsInPlan_2 : decode cX7_doughsInPlan 2 = .ok (.iconst 0, 1) := by decide +kernel
theorem dX7_doughsInPlan_3 : decode cX7_doughsInPlan 3 = .ok (.istore_n 2, 1) := by decide +kernel
theorem dX7_doughsInPlan_4 : decode cX7_doughsInPlan 4 = .ok (.iload_n 2, 1) := by decide +kernel
theorem dX7_doughsInPlan_5 : decode cX7_doughsInPlan 5 = .ok (.aload_n 0, 1) := by decide +kernel
theorem dX7_doughsInPlan_6 : decode cX7_doughsInPlan 6 = .ok (.getfield 31, 3) := by decide +kernel
theorem dX7_doughsInPlan_9 : decode cX7_doughsInPlan 9 = .ok (.getfield 39, 3) := by decide +kernel
theorem dX7_doughsInPlan_12 : decode cX7_doughsInPlan 12 = .ok (.if_icmp .ge 20, 3) := by decide +kernel
theorem dX7_doughsInPlan_15 : decode cX7_doughsInPlan 15 = .ok (.aload_n 0, 1) := by decide +kernel
theorem dX7_doughsInPlan_16 : decode cX7_doughsInPlan 16 = .ok (.iload_n 2, 1) := by decide +kernel
theorem dX7_doughsInPlan_17 : decode cX7_doughsInPlan 17 = .ok (.invokevirtual 56, 3) := by decide +kernel
theorem dX7_doughsInPlan_20 : decode cX7_doughsInPlan 20 = .ok (.ifCond .eq 6, 3) := by decide +kernel
theorem dX7_doughsInPlan_23 : decode cX7_doughsInPlan 23 = .ok (.iinc 1 1, 3) := by decide +kernel
theorem dX7_doughsInPlan_26 : decode cX7_doughsInPlan 26 = .ok (.iinc 2 1, 3) := by decide +kernel
theorem dX7_doughsInPlan_29 : decode cX7_doughsInPlan 29 = .ok (.goto (-25), 3) := by decide +kernel
theorem dX7_doughsInPlan_32 : decode cX7_doughsInPlan 32 = .ok (.iload_n 1, 1) := by decide +kernel
theorem dX7_doughsInPlan_33 : decode cX7_doughsInPlan 33 = .ok (.ireturn, 1) := by decide +kernel
set_option maxRecDepth 20000 in
theorem ggX7_doughsWithoutRound_X7_isInPlan : GoodIn wsX7_doughsWithoutRound wsX7_isInPlan := goodIn_r _ [8, 9, 10, 11, 12, 13, 14, 15, 16, 17, 18] (by decide +kernel) (by decide +kernel)
set_option maxRecDepth 20000 in
theorem gX7_doughsWithoutRound_X7_isInPlan : GoodIn wsX7_doughsWithoutRound (wsV RX7 56 RX7 yX7_isInPlan wsX7_isInPlan) := goodIn_app (goodIn_of _ (by decide +kernel)) ggX7_doughsWithoutRound_X7_isInPlan
theorem dX7_doughsWithoutRound_0 : decode cX7_doughsWithoutRound 0 = .ok (.iconst 0, 1) := by decide +kernel
theorem dX7_doughsWithoutRound_1 : decode cX7_doughsWithoutRound 1 = .ok (.istore_n 1, 1) := by decide +kernel
theorem dX7_doughsWithoutRound_2 : decode cX7_doughsWithoutRound 2 = .ok (.iconst 0, 1) := by decide +kernel
theorem dX7_doughsWithoutRound_3 : decode cX7_doughsWithoutRound 3 = .ok (.istore_n 2, 1) := by decide +kernel
theorem dX7_doughsWithoutRound_4 : decode cX7_doughsWithoutRound 4 = .ok (.iload_n 2, 1) := by decide +kernel
theorem dX7_doughsWithoutRound_5 : decode cX7_doughsWithoutRound 5 = .ok (.aload_n 0, 1) := by decide +kernel
theorem dX7_doughsWithoutRound_6 : decode cX7_doughsWithoutRound 6 = .ok (.getfield 31, 3) := by decide +kernel
theorem dX7_doughsWithoutRound_9 : decode cX7_doughsWithoutRound 9 = .ok (.getfield 39, 3) := by decide +kernel
theorem dX7_doughsWithoutRound_12 : decode cX7_doughsWithoutRound 12 = .ok (.if_icmp .ge 30, 3) := by decide +kernel
theorem dX7_doughsWithoutRound_15 : decode cX7_doughsWithoutRound 15 = .ok (.aload_n 0, 1) := by decide +kernel
theorem dX7_doughsWithoutRound_16 : decode cX7_doughsWithoutRound 16 = .ok (.iload_n 2, 1) := by decide +kernel
theorem dX7_doughsWithoutRound_17 : decode cX7_doughsWithoutRound 17 = .ok (.invokevirtual 56, 3) := by decide +kernel
theorem dX7_doughsWithoutRound_20 : decode cX7_doughsWithoutRound 20 = .ok (.ifCond .eq 16, 3) := by decide +kernel
theorem dX7_doughsWithoutRound_23 : decode cX7_doughsWithoutRound 23 = .ok (.aload_n 0, 1) := by decide +kernel
theorem dX7_doughsWithoutRound_24 : decode cX7_doughsWithoutRound 24 = .ok (.getfield 18, 3) := by decide +kernel
theorem dX7_doughsWithoutRound_27 : decode cX7_doughsWithoutRound 27 = .ok (.iload_n 2, 1) := by decide +kernel
theorem dX7_doughsWithoutRound_28 : decode cX7_doughsWithoutRound 28 = .ok (.iaload, 1) := by decide +kernel
theorem dX7_doughsWithoutRound_29 : decode cX7_doughsWithoutRound 29 = .ok (.iconst (-1), 1) := by decide +kernel
theorem dX7_doughsWithoutRound_30 : decode cX7_doughsWithoutRound 30 = .ok (.if_icmp .ne 6, 3) := by decide +kernel
theorem dX7_doughsWithoutRound_33 : decode cX7_doughsWithoutRound 33 = .ok (.iinc 1 1, 3) := by decide +kernel
theorem dX7_doughsWithoutRound_36 : decode cX7_doughsWithoutRound 36 = .ok (.iinc 2 1, 3) := by decide +kernel
theorem dX7_doughsWithoutRound_39 : decode cX7_doughsWithoutRound 39 = .ok (.goto (-35), 3) := by decide +kernel
theorem dX7_doughsWithoutRound_42 : decode cX7_doughsWithoutRound 42 = .ok (.iload_n 1, 1) := by decide +kernel
theorem dX7_doughsWithoutRound_43 : decode cX7_doughsWithoutRound 43 = .ok (.ireturn, 1) := by decide +kernel
theorem dX7_isInPlan_0 : decode cX7_isInPlan 0 = .ok (.aload_n 0, 1) := by decide +kernel
theorem dX7_isInPlan_1 : decode cX7_isInPlan 1 = .ok (.getfield 9, 3) := by decide +kernel
theorem dX7_isInPlan_4 : decode cX7_isInPlan 4 = .ok (.iload_n 1, 1) := by decide +kernel
theorem dX7_isInPlan_5 : decode cX7_isInPlan 5 = .ok (.iaload, 1) := by decide +kernel
theorem dX7_isInPlan_6 : decode cX7_isInPlan 6 = .ok (.aload_n 0, 1) := by decide +kernel
theorem dX7_isInPlan_7 : decode cX7_isInPlan 7 = .ok (.getfield 15, 3) := by decide +kernel
theorem dX7_isInPlan_10 : decode cX7_isInPlan 10 = .ok (.iload_n 1, 1) := by decide +kernel
theorem dX7_isInPlan_11 : decode cX7_isInPlan 11 = .ok (.iaload, 1) := by decide +kernel
theorem dX7_isInPlan_12 : decode cX7_isInPlan 12 = .ok (.if_icmp .gt 7, 3) := by decide +kernel
theorem dX7_isInPlan_15 : decode cX7_isInPlan 15 = .ok (.iconst 1, 1) := by decide +kernel
theorem dX7_isInPlan_16 : decode cX7_isInPlan 16 = .ok (.goto 4, 3) := by decide +kernel
theorem dX7_isInPlan_19 : decode cX7_isInPlan 19 = .ok (.iconst 0, 1) := by decide +kernel
theorem dX7_isInPlan_20 : decode cX7_isInPlan 20 = .ok (.ireturn, 1) := by decide +kernel
theorem dX7_canBegin_0 : decode cX7_canBegin 0 = .ok (.aload_n 0, 1) := by decide +kernel
theorem dX7_canBegin_1 : decode cX7_canBegin 1 = .ok (.getfield 9, 3) := by decide +kernel
theorem dX7_canBegin_4 : decode cX7_canBegin 4 = .ok (.iload_n 1, 1) := by decide +kernel
theorem dX7_canBegin_5 : decode cX7_canBegin 5 = .ok (.iaload, 1) := by decide +kernel
theorem dX7_canBegin_6 : decode cX7_canBegin 6 = .ok (.iload_n 2, 1) := by decide +kernel
theorem dX7_canBegin_7 : decode cX7_canBegin 7 = .ok (.if_icmp .gt 17, 3) := by decide +kernel
theorem dX7_canBegin_10 : decode cX7_canBegin 10 = .ok (.iload_n 2, 1) := by decide +kernel
theorem dX7_canBegin_11 : decode cX7_canBegin 11 = .ok (.aload_n 0, 1) := by decide +kernel
theorem dX7_canBegin_12 : decode cX7_canBegin 12 = .ok (.getfield 15, 3) := by decide +kernel
theorem dX7_canBegin_15 : decode cX7_canBegin 15 = .ok (.iload_n 1, 1) := by decide +kernel
theorem dX7_canBegin_16 : decode cX7_canBegin 16 = .ok (.iaload, 1) := by decide +kernel
theorem dX7_canBegin_17 : decode cX7_canBegin 17 = .ok (.if_icmp .gt 7, 3) := by decide +kernel
theorem dX7_canBegin_20 : decode cX7_canBegin 20 = .ok (.iconst 1, 1) := by decide +kernel
theorem dX7_canBegin_21 : decode cX7_canBegin 21 = .ok (.goto 4, 3) := by decide +kernel
theorem dX7_canBegin_24 : decode cX7_canBegin 24 = .ok (.iconst 0, 1) := by decide +kernel
theorem dX7_canBegin_25 : decode cX7_canBegin 25 = .ok (.ireturn, 1) := by decide +kernel
theorem dX7_beginOf_0 : decode cX7_beginOf 0 = .ok (.aload_n 0, 1) := by decide +kernel
theorem dX7_beginOf_1 : decode cX7_beginOf 1 = .ok (.getfield 35, 3) := by decide +kernel
theorem dX7_beginOf_4 : decode cX7_beginOf 4 = .ok (.getfield 60, 3) := by decide +kernel
theorem dX7_beginOf_7 : decode cX7_beginOf 7 = .ok (.bipush 10, 2) := by decide +kernel
theorem dX7_beginOf_9 : decode cX7_beginOf 9 = .ok (.iadd, 1) := by decide +kernel
theorem dX7_beginOf_10 : decode cX7_beginOf 10 = .ok (.iconst 1, 1) := by decide +kernel
theorem dX7_beginOf_11 : decode cX7_beginOf 11 = .ok (.isub, 1) := by decide +kernel
theorem dX7_beginOf_12 : decode cX7_beginOf 12 = .ok (.bipush 10, 2) := by decide +kernel
theorem dX7_beginOf_14 : decode cX7_beginOf 14 = .ok (.idiv, 1) := by decide +kernel
theorem dX7_beginOf_15 : decode cX7_beginOf 15 = .ok (.istore_n 2, 1) := by decide +kernel
theorem dX7_beginOf_16 : decode cX7_beginOf 16 = .ok (.iload_n 2, 1) := by decide +kernel
theorem dX7_beginOf_17 : decode cX7_beginOf 17 = .ok (.iload_n 1, 1) := by decide +kernel
theorem dX7_beginOf_18 : decode cX7_beginOf 18 = .ok (.iadd, 1) := by decide +kernel
theorem dX7_beginOf_19 : decode cX7_beginOf 19 = .ok (.bipush 10, 2) := by decide +kernel
theorem dX7_beginOf_21 : decode cX7_beginOf 21 = .ok (.imul, 1) := by decide +kernel
theorem dX7_beginOf_22 : decode cX7_beginOf 22 = .ok (.ireturn, 1) := by decide +kernel
set_option maxRecDepth 20000 in
theorem ggX7_giveRound_X7_canBegin : GoodIn wsX7_giveRound wsX7_canBegin := goodIn_r _ [11, 12, 6, 13, 14, 15, 16, 17, 18, 19, 20] (by decide +kernel) (by decide +kernel)
set_option maxRecDepth 20000 in
theorem gX7_giveRound_X7_canBegin : GoodIn wsX7_giveRound (wsV RX7 68 RX7 yX7_canBegin wsX7_canBegin) := goodIn_app (goodIn_of _ (by decide +kernel)) ggX7_giveRound_X7_canBegin
theorem dX7_giveRound_0 : decode cX7_giveRound 0 = .ok (.iconst 0, 1) := by decide +kernel
theorem dX7_giveRound_1 : decode cX7_giveRound 1 = .ok (.istore_n 2, 1) := by decide +kernel
theorem dX7_giveRound_2 : decode cX7_giveRound 2 = .ok (.iload_n 2, 1) := by decide +kernel
theorem dX7_giveRound_3 : decode cX7_giveRound 3 = .ok (.aload_n 0, 1) := by decide +kernel
theorem dX7_giveRound_4 : decode cX7_giveRound 4 = .ok (.getfield 35, 3) := by decide +kernel
theorem dX7_giveRound_7 : decode cX7_giveRound 7 = .ok (.getfield 65, 3) := by decide +kernel
theorem dX7_giveRound_10 : decode cX7_giveRound 10 = .ok (.if_icmp .ge 90, 3) := by decide +kernel
theorem dX7_giveRound_13 : decode cX7_giveRound 13 = .ok (.iconst (-1), 1) := by decide +kernel
theorem dX7_giveRound_14 : decode cX7_giveRound 14 = .ok (.istore_n 3, 1) := by decide +kernel
theorem dX7_giveRound_15 : decode cX7_giveRound 15 = .ok (.iconst 0, 1) := by decide +kernel
theorem dX7_giveRound_16 : decode cX7_giveRound 16 = .ok (.istore 4, 2) := by decide +kernel
theorem dX7_giveRound_18 : decode cX7_giveRound 18 = .ok (.iload 4, 2) := by decide +kernel
theorem dX7_giveRound_20 : decode cX7_giveRound 20 = .ok (.aload_n 0, 1) := by decide +kernel
theorem dX7_giveRound_21 : decode cX7_giveRound 21 = .ok (.getfield 31, 3) := by decide +kernel
theorem dX7_giveRound_24 : decode cX7_giveRound 24 = .ok (.getfield 39, 3) := by decide +kernel
theorem dX7_giveRound_27 : decode cX7_giveRound 27 = .ok (.if_icmp .ge 54, 3) := by decide +kernel
theorem dX7_giveRound_30 : decode cX7_giveRound 30 = .ok (.aload_n 0, 1) := by decide +kernel
theorem dX7_giveRound_31 : decode cX7_giveRound 31 = .ok (.getfield 18, 3) := by decide +kernel
theorem dX7_giveRound_34 : decode cX7_giveRound 34 = .ok (.iload 4, 2) := by decide +kernel
theorem dX7_giveRound_36 : decode cX7_giveRound 36 = .ok (.iaload, 1) := by decide +kernel
theorem dX7_giveRound_37 : decode cX7_giveRound 37 = .ok (.iconst (-1), 1) := by decide +kernel
theorem dX7_giveRound_38 : decode cX7_giveRound 38 = .ok (.if_icmp .ne 37, 3) := by decide +kernel
theorem dX7_giveRound_41 : decode cX7_giveRound 41 = .ok (.aload_n 0, 1) := by decide +kernel
theorem dX7_giveRound_42 : decode cX7_giveRound 42 = .ok (.iload 4, 2) := by decide +kernel
theorem dX7_giveRound_44 : decode cX7_giveRound 44 = .ok (.iload_n 1, 1) := by decide +kernel
theorem dX7_giveRound_45 : decode cX7_giveRound 45 = .ok (.invokevirtual 68, 3) := by decide +kernel
theorem dX7_giveRound_48 : decode cX7_giveRound 48 = .ok (.ifCond .eq 27, 3) := by decide +kernel
theorem dX7_giveRound_51 : decode cX7_giveRound 51 = .ok (.iload_n 3, 1) := by decide +kernel
theorem dX7_giveRound_52 : decode cX7_giveRound 52 = .ok (.iconst (-1), 1) := by decide +kernel
theorem dX7_giveRound_53 : decode cX7_giveRound 53 = .ok (.if_icmp .eq 19, 3) := by decide +kernel
theorem dX7_giveRound_56 : decode cX7_giveRound 56 = .ok (.aload_n 0, 1) := by decide +kernel
theorem dX7_giveRound_57 : decode cX7_giveRound 57 = .ok (.getfield 15, 3) := by decide +kernel
theorem dX7_giveRound_60 : decode cX7_giveRound 60 = .ok (.iload 4, 2) := by decide +kernel
theorem dX7_giveRound_62 : decode cX7_giveRound 62 = .ok (.iaload, 1) := by decide +kernel
theorem dX7_giveRound_63 : decode cX7_giveRound 63 = .ok (.aload_n 0, 1) := by decide +kernel
theorem dX7_giveRound_64 : decode cX7_giveRound 64 = .ok (.getfield 15, 3) := by decide +kernel
theorem dX7_giveRound_67 : decode cX7_giveRound 67 = .ok (.iload_n 3, 1) := by decide +kernel
theorem dX7_giveRound_68 : decode cX7_giveRound 68 = .ok (.iaload, 1) := by decide +kernel
theorem dX7_giveRound_69 : decode cX7_giveRound 69 = .ok (.if_icmp .ge 6, 3) := by decide +kernel
theorem dX7_giveRound_72 : decode cX7_giveRound 72 = .ok (.iload 4, 2) := by decide +kernel
theorem dX7_giveRound_74 : decode cX7_giveRound 74 = .ok (.istore_n 3, 1) := by decide +kernel
theorem dX7_giveRound_75 : decode cX7_giveRound 75 = .ok (.iinc 4 1, 3) := by decide +kernel
theorem dX7_giveRound_78 : decode cX7_giveRound 78 = .ok (.goto (-60), 3) := by decide +kernel
theorem dX7_giveRound_81 : decode cX7_giveRound 81 = .ok (.iload_n 3, 1) := by decide +kernel
theorem dX7_giveRound_82 : decode cX7_giveRound 82 = .ok (.iconst (-1), 1) := by decide +kernel
theorem dX7_giveRound_83 : decode cX7_giveRound 83 = .ok (.if_icmp .ne 4, 3) := by decide +kernel
theorem dX7_giveRound_86 : decode cX7_giveRound 86 = .ok (.return_, 1) := by decide +kernel
theorem dX7_giveRound_87 : decode cX7_giveRound 87 = .ok (.aload_n 0, 1) := by decide +kernel
theorem dX7_giveRound_88 : decode cX7_giveRound 88 = .ok (.getfield 18, 3) := by decide +kernel
theorem dX7_giveRound_91 : decode cX7_giveRound 91 = .ok (.iload_n 3, 1) := by decide +kernel
theorem dX7_giveRound_92 : decode cX7_giveRound 92 = .ok (.iload_n 1, 1) := by decide +kernel
theorem dX7_giveRound_93 : decode cX7_giveRound 93 = .ok (.iastore, 1) := by decide +kernel
theorem dX7_giveRound_94 : decode cX7_giveRound 94 = .ok (.iinc 2 1, 3) := by decide +kernel
theorem dX7_giveRound_97 : decode cX7_giveRound 97 = .ok (.goto (-95), 3) := by decide +kernel
theorem dX7_giveRound_100 : decode cX7_giveRound 100 = .ok (.return_, 1) := by decide +kernel
set_option maxRecDepth 20000 in
theorem ggX7_setTicks_X7_setTicksOfRising : GoodIn wsX7_setTicks wsX7_setTicksOfRising := goodIn_r _ [18, 2, 1, 3, 19, 20, 21, 22, 4, 23, 24, 25, 26, 27, 28, 29, 30, 31, 32, 33, 34, 35, 36, 37, 38, 39, 40, 41, 42, 43, 44, 45, 46] (by decide +kernel) (by decide +kernel)
set_option maxRecDepth 20000 in
theorem gX7_setTicks_X7_setTicksOfRising : GoodIn wsX7_setTicks (wsV RX7 95 RX7 yX7_setTicksOfRising wsX7_setTicksOfRising) := goodIn_app (goodIn_of _ (by decide +kernel)) ggX7_setTicks_X7_setTicksOfRising
theorem dX7_setTicks_0 : decode cX7_setTicks 0 = .ok (.aload_n 0, 1) := by decide +kernel
theorem dX7_setTicks_1 : decode cX7_setTicks 1 = .ok (.getfield 9, 3) := by decide +kernel
theorem dX7_setTicks_4 : decode cX7_setTicks 4 = .ok (.iload_n 1, 1) := by decide +kernel
theorem dX7_setTicks_5 : decode cX7_setTicks 5 = .ok (.aload_n 0, 1) := by decide +kernel
theorem dX7_setTicks_6 : decode cX7_setTicks 6 = .ok (.getfield 35, 3) := by decide +kernel
theorem dX7_setTicks_9 : decode cX7_setTicks 9 = .ok (.getfield 60, 3) := by decide +kernel
theorem dX7_setTicks_12 : decode cX7_setTicks 12 = .ok (.iastore, 1) := by decide +kernel
theorem dX7_setTicks_13 : decode cX7_setTicks 13 = .ok (.aload_n 0, 1) := by decide +kernel
theorem dX7_setTicks_14 : decode cX7_setTicks 14 = .ok (.getfield 15, 3) := by decide +kernel
theorem dX7_setTicks_17 : decode cX7_setTicks 17 = .ok (.iload_n 1, 1) := by decide +kernel
theorem dX7_setTicks_18 : decode cX7_setTicks 18 = .ok (.iconst (-1), 1) := by decide +kernel
theorem dX7_setTicks_19 : decode cX7_setTicks 19 = .ok (.iastore, 1) := by decide +kernel
theorem dX7_setTicks_20 : decode cX7_setTicks 20 = .ok (.aload_n 0, 1) := by decide +kernel
theorem dX7_setTicks_21 : decode cX7_setTicks 21 = .ok (.getfield 31, 3) := by decide +kernel
theorem dX7_setTicks_24 : decode cX7_setTicks 24 = .ok (.getfield 72, 3) := by decide +kernel
theorem dX7_setTicks_27 : decode cX7_setTicks 27 = .ok (.iload_n 1, 1) := by decide +kernel
theorem dX7_setTicks_28 : decode cX7_setTicks 28 = .ok (.iaload, 1) := by decide +kernel
theorem dX7_setTicks_29 : decode cX7_setTicks 29 = .ok (.istore_n 2, 1) := by decide +kernel
theorem dX7_setTicks_30 : decode cX7_setTicks 30 = .ok (.aload_n 0, 1) := by decide +kernel
theorem dX7_setTicks_31 : decode cX7_setTicks 31 = .ok (.getfield 31, 3) := by decide +kernel
theorem dX7_setTicks_34 : decode cX7_setTicks 34 = .ok (.getfield 75, 3) := by decide +kernel
theorem dX7_setTicks_37 : decode cX7_setTicks 37 = .ok (.iload_n 1, 1) := by decide +kernel
theorem dX7_setTicks_38 : decode cX7_setTicks 38 = .ok (.iaload, 1) := by decide +kernel
theorem dX7_setTicks_39 : decode cX7_setTicks 39 = .ok (.iconst 1, 1) := by decide +kernel
theorem dX7_setTicks_40 : decode cX7_setTicks 40 = .ok (.if_icmp .ne 31, 3) := by decide +kernel
theorem dX7_setTicks_43 : decode cX7_setTicks 43 = .ok (.aload_n 0, 1) := by decide +kernel
theorem dX7_setTicks_44 : decode cX7_setTicks 44 = .ok (.getfield 15, 3) := by decide +kernel
theorem dX7_setTicks_47 : decode cX7_setTicks 47 = .ok (.iload_n 1, 1) := by decide +kernel
theorem dX7_setTicks_48 : decode cX7_setTicks 48 = .ok (.aload_n 0, 1) := by decide +kernel
theorem dX7_setTicks_49 : decode cX7_setTicks 49 = .ok (.getfield 31, 3) := by decide +kernel
theorem dX7_setTicks_52 : decode cX7_setTicks 52 = .ok (.getfield 78, 3) := by decide +kernel
theorem dX7_setTicks_55 : decode cX7_setTicks 55 = .ok (.iload_n 1, 1) := by decide +kernel
theorem dX7_setTicks_56 : decode cX7_setTicks 56 = .ok (.iaload, 1) := by decide +kernel
theorem dX7_setTicks_57 : decode cX7_setTicks 57 = .ok (.aload_n 0, 1) := by decide +kernel
theorem dX7_setTicks_58 : decode cX7_setTicks 58 = .ok (.getfield 27, 3) := by decide +kernel
theorem dX7_setTicks_61 : decode cX7_setTicks 61 = .ok (.getfield 81, 3) := by decide +kernel
theorem dX7_setTicks_64 : decode cX7_setTicks 64 = .ok (.iload_n 2, 1) := by decide +kernel
theorem dX7_setTicks_65 : decode cX7_setTicks 65 = .ok (.iaload, 1) := by decide +kernel
theorem dX7_setTicks_66 : decode cX7_setTicks 66 = .ok (.iadd, 1) := by decide +kernel
theorem dX7_setTicks_67 : decode cX7_setTicks 67 = .ok (.iastore, 1) := by decide +kernel
theorem dX7_setTicks_68 : decode cX7_setTicks 68 = .ok (.goto 58, 3) := by decide +kernel
theorem dX7_setTicks_71 : decode cX7_setTicks 71 = .ok (.aload_n 0, 1) := by decide +kernel
theorem dX7_setTicks_72 : decode cX7_setTicks 72 = .ok (.getfield 31, 3) := by decide +kernel
theorem dX7_setTicks_75 : decode cX7_setTicks 75 = .ok (.getfield 75, 3) := by decide +kernel
theorem dX7_setTicks_78 : decode cX7_setTicks 78 = .ok (.iload_n 1, 1) := by decide +kernel
theorem dX7_setTicks_79 : decode cX7_setTicks 79 = .ok (.iaload, 1) := by decide +kernel
theorem dX7_setTicks_80 : decode cX7_setTicks 80 = .ok (.ifCond .ne 46, 3) := by decide +kernel
theorem dX7_setTicks_83 : decode cX7_setTicks 83 = .ok (.aload_n 0, 1) := by decide +kernel
theorem dX7_setTicks_84 : decode cX7_setTicks 84 = .ok (.iload_n 1, 1) := by decide +kernel
theorem dX7_setTicks_85 : decode cX7_setTicks 85 = .ok (.aload_n 0, 1) := by decide +kernel
theorem dX7_setTicks_86 : decode cX7_setTicks 86 = .ok (.getfield 27, 3) := by decide +kernel
theorem dX7_setTicks_89 : decode cX7_setTicks 89 = .ok (.getfield 86, 3) := by decide +kernel
theorem dX7_setTicks_92 : decode cX7_setTicks 92 = .ok (.iload_n 2, 1) := by decide +kernel
theorem dX7_setTicks_93 : decode cX7_setTicks 93 = .ok (.iaload, 1) := by decide +kernel
theorem dX7_setTicks_94 : decode cX7_setTicks 94 = .ok (.aload_n 0, 1) := by decide +kernel
theorem dX7_setTicks_95 : decode cX7_setTicks 95 = .ok (.getfield 31, 3) := by decide +kernel
theorem dX7_setTicks_98 : decode cX7_setTicks 98 = .ok (.getfield 89, 3) := by decide +kernel
theorem dX7_setTicks_101 : decode cX7_setTicks 101 = .ok (.iload_n 1, 1) := by decide +kernel
theorem dX7_setTicks_102 : decode cX7_setTicks 102 = .ok (.iaload, 1) := by decide +kernel
theorem dX7_setTicks_103 : decode cX7_setTicks 103 = .ok (.isub, 1) := by decide +kernel
theorem dX7_setTicks_104 : decode cX7_setTicks 104 = .ok (.aload_n 0, 1) := by decide +kernel
theorem dX7_setTicks_105 : decode cX7_setTicks 105 = .ok (.getfield 27, 3) := by decide +kernel
theorem dX7_setTicks_108 : decode cX7_setTicks 108 = .ok (.getfield 92, 3) := by decide +kernel
theorem dX7_setTicks_111 : decode cX7_setTicks 111 = .ok (.iload_n 2, 1) := by decide +kernel
theorem dX7_setTicks_112 : decode cX7_setTicks 112 = .ok (.iaload, 1) := by decide +kernel
theorem dX7_setTicks_113 : decode cX7_setTicks 113 = .ok (.aload_n 0, 1) := by decide +kernel
theorem dX7_setTicks_114 : decode cX7_setTicks 114 = .ok (.getfield 31, 3) := by decide +kernel
theorem dX7_setTicks_117 : decode cX7_setTicks 117 = .ok (.getfield 89, 3) := by decide +kernel
theorem dX7_setTicks_120 : decode cX7_setTicks 120 = .ok (.iload_n 1, 1) := by decide +kernel
theorem dX7_setTicks_121 : decode cX7_setTicks 121 = .ok (.iaload, 1) := by decide +kernel
theorem dX7_setTicks_122 : decode cX7_setTicks 122 = .ok (.isub, 1) := by decide +kernel
theorem dX7_setTicks_123 : decode cX7_setTicks 123 = .ok (.invokevirtual 95, 3) := by decide +kernel
theorem dX7_setTicks_126 : decode cX7_setTicks 126 = .ok (.return_, 1) := by decide +kernel
set_option maxRecDepth 20000 in
theorem ggX7_setTicksOfRising_X5_pointsOfATick : GoodIn wsX7_setTicksOfRising wsX5_pointsOfATick := goodIn_r _ [14, 15, 16, 17, 18, 19, 28, 29, 30, 31, 32] (by decide +kernel) (by decide +kernel)
set_option maxRecDepth 20000 in
theorem gX7_setTicksOfRising_X5_pointsOfATick : GoodIn wsX7_setTicksOfRising (wsV RX7 99 RX5 yX5_pointsOfATick wsX5_pointsOfATick) := goodIn_app (goodIn_of _ (by decide +kernel)) ggX7_setTicksOfRising_X5_pointsOfATick
theorem dX7_setTicksOfRising_0 : decode cX7_setTicksOfRising 0 = .ok (.aload_n 0, 1) := by decide +kernel
theorem dX7_setTicksOfRising_1 : decode cX7_setTicksOfRising 1 = .ok (.getfield 35, 3) := by decide +kernel
theorem dX7_setTicksOfRising_4 : decode cX7_setTicksOfRising 4 = .ok (.invokevirtual 99, 3) := by decide +kernel
theorem dX7_setTicksOfRising_7 : decode cX7_setTicksOfRising 7 = .ok (.istore 4, 2) := by decide +kernel
theorem dX7_setTicksOfRising_9 : decode cX7_setTicksOfRising 9 = .ok (.iload_n 3, 1) := by decide +kernel
theorem dX7_setTicksOfRising_10 : decode cX7_setTicksOfRising 10 = .ok (.ifCond .ge 4, 3) := by decide +kernel
theorem dX7_setTicksOfRising_13 : decode cX7_setTicksOfRising 13 = .ok (.return_, 1) := by decide +kernel
theorem dX7_setTicksOfRising_14 : decode cX7_setTicksOfRising 14 = .ok (.iload 4, 2) := by decide +kernel
theorem dX7_setTicksOfRising_16 : decode cX7_setTicksOfRising 16 = .ok (.ifCond .le 51, 3) := by decide +kernel
theorem dX7_setTicksOfRising_19 : decode cX7_setTicksOfRising 19 = .ok (.aload_n 0, 1) := by decide +kernel
theorem dX7_setTicksOfRising_20 : decode cX7_setTicksOfRising 20 = .ok (.getfield 9, 3) := by decide +kernel
theorem dX7_setTicksOfRising_23 : decode cX7_setTicksOfRising 23 = .ok (.iload_n 1, 1) := by decide +kernel
theorem dX7_setTicksOfRising_24 : decode cX7_setTicksOfRising 24 = .ok (.aload_n 0, 1) := by decide +kernel
theorem dX7_setTicksOfRising_25 : decode cX7_setTicksOfRising 25 = .ok (.getfield 35, 3) := by decide +kernel
theorem dX7_setTicksOfRising_28 : decode cX7_setTicksOfRising 28 = .ok (.getfield 60, 3) := by decide +kernel
theorem dX7_setTicksOfRising_31 : decode cX7_setTicksOfRising 31 = .ok (.iload_n 2, 1) := by decide +kernel
theorem dX7_setTicksOfRising_32 : decode cX7_setTicksOfRising 32 = .ok (.iconst 0, 1) := by decide +kernel
theorem dX7_setTicksOfRising_33 : decode cX7_setTicksOfRising 33 = .ok (.invokestatic 103, 3) := by decide +kernel
theorem dX7_setTicksOfRising_36 : decode cX7_setTicksOfRising 36 = .ok (.iload 4, 2) := by decide +kernel
theorem dX7_setTicksOfRising_38 : decode cX7_setTicksOfRising 38 = .ok (.iadd, 1) := by decide +kernel
theorem dX7_setTicksOfRising_39 : decode cX7_setTicksOfRising 39 = .ok (.iconst 1, 1) := by decide +kernel
theorem dX7_setTicksOfRising_40 : decode cX7_setTicksOfRising 40 = .ok (.isub, 1) := by decide +kernel
theorem dX7_setTicksOfRising_41 : decode cX7_setTicksOfRising 41 = .ok (.iload 4, 2) := by decide +kernel
theorem dX7_setTicksOfRising_43 : decode cX7_setTicksOfRising 43 = .ok (.idiv, 1) := by decide +kernel
theorem dX7_setTicksOfRising_44 : decode cX7_setTicksOfRising 44 = .ok (.iadd, 1) := by decide +kernel
theorem dX7_setTicksOfRising_45 : decode cX7_setTicksOfRising 45 = .ok (.iastore, 1) := by decide +kernel
theorem dX7_setTicksOfRising_46 : decode cX7_setTicksOfRising 46 = .ok (.aload_n 0, 1) := by decide +kernel
theorem dX7_setTicksOfRising_47 : decode cX7_setTicksOfRising 47 = .ok (.getfield 15, 3) := by decide +kernel
theorem dX7_setTicksOfRising_50 : decode cX7_setTicksOfRising 50 = .ok (.iload_n 1, 1) := by decide +kernel
theorem dX7_setTicksOfRising_51 : decode cX7_setTicksOfRising 51 = .ok (.aload_n 0, 1) := by decide +kernel
theorem dX7_setTicksOfRising_52 : decode cX7_setTicksOfRising 52 = .ok (.getfield 35, 3) := by decide +kernel
theorem dX7_setTicksOfRising_55 : decode cX7_setTicksOfRising 55 = .ok (.getfield 60, 3) := by decide +kernel
theorem dX7_setTicksOfRising_58 : decode cX7_setTicksOfRising 58 = .ok (.iload_n 3, 1) := by decide +kernel
theorem dX7_setTicksOfRising_59 : decode cX7_setTicksOfRising 59 = .ok (.iload 4, 2) := by decide +kernel
theorem dX7_setTicksOfRising_61 : decode cX7_setTicksOfRising 61 = .ok (.idiv, 1) := by decide +kernel
theorem dX7_setTicksOfRising_62 : decode cX7_setTicksOfRising 62 = .ok (.iadd, 1) := by decide +kernel
theorem dX7_setTicksOfRising_63 : decode cX7_setTicksOfRising 63 = .ok (.iastore, 1) := by decide +kernel
theorem dX7_setTicksOfRising_64 : decode cX7_setTicksOfRising 64 = .ok (.goto 15, 3) := by decide +kernel
theorem dX7_setTicksOfRising_67 : decode cX7_setTicksOfRising 67 = .ok (.iload_n 2, 1) := by decide +kernel
theorem dX7_setTicksOfRising_68 : decode cX7_setTicksOfRising 68 = .ok (.ifCond .gt 11, 3) := by decide +kernel
theorem dX7_setTicksOfRising_71 : decode cX7_setTicksOfRising 71 = .ok (.aload_n 0, 1) := by decide +kernel
theorem dX7_setTicksOfRising_72 : decode cX7_setTicksOfRising 72 = .ok (.getfield 15, 3) := by decide +kernel
theorem dX7_setTicksOfRising_75 : decode cX7_setTicksOfRising 75 = .ok (.iload_n 1, 1) := by decide +kernel
theorem dX7_setTicksOfRising_76 : decode cX7_setTicksOfRising 76 = .ok (.ldc 109, 2) := by decide +kernel
theorem dX7_setTicksOfRising_78 : decode cX7_setTicksOfRising 78 = .ok (.iastore, 1) := by decide +kernel
theorem dX7_setTicksOfRising_79 : decode cX7_setTicksOfRising 79 = .ok (.return_, 1) := by decide +kernel
set_option maxRecDepth 20000 in
theorem ggX7_leavesOneInVain_X7_make : GoodIn wsX7_leavesOneInVain wsX7_make := goodIn_r _ [8, 1, 2, 9, 10, 11, 12, 7, 13, 14, 15, 16, 17, 18, 19, 20, 21, 22, 23, 24, 25, 26, 27, 28, 29, 30, 31, 32, 33, 34, 35, 36, 37, 38, 39, 40, 41, 42, 43, 44, 45, 46, 47, 48, 49, 50, 51, 52, 53, 54, 55, 56, 57, 88, 89, 90, 91, 92, 93, 94, 95, 96, 97, 98, 99, 100, 101, 102, 103, 104, 105, 106, 107, 108, 109, 110, 111, 112, 113, 114, 115, 116] (by decide +kernel) (by decide +kernel)
set_option maxRecDepth 20000 in
theorem gX7_leavesOneInVain_X7_make : GoodIn wsX7_leavesOneInVain (wsV RX7 110 RX7 yX7_make wsX7_make) := goodIn_app (goodIn_of _ (by decide +kernel)) ggX7_leavesOneInVain_X7_make
set_option maxRecDepth 20000 in
theorem ggX7_leavesOneInVain_X7_doughsInPlan : GoodIn wsX7_leavesOneInVain wsX7_doughsInPlan := goodIn_r _ [61, 1, 2, 62, 63, 64, 7, 65, 14, 17, 88, 89, 90, 91, 92, 93, 94, 95, 96, 97, 98, 99, 100, 101, 102, 103] (by decide +kernel) (by decide +kernel)
set_option maxRecDepth 20000 in
theorem gX7_leavesOneInVain_X7_doughsInPlan : GoodIn wsX7_leavesOneInVain (wsV RX7 113 RX7 yX7_doughsInPlan wsX7_doughsInPlan) := goodIn_app (goodIn_of _ (by decide +kernel)) ggX7_leavesOneInVain_X7_doughsInPlan
set_option maxRecDepth 20000 in
theorem ggX7_leavesOneInVain_X7_doughsWithoutRound : GoodIn wsX7_leavesOneInVain wsX7_doughsWithoutRound := goodIn_r _ [69, 1, 2, 9, 62, 63, 64, 7, 65, 14, 17, 88, 89, 90, 91, 92, 93, 94, 95, 96, 97, 98, 99, 100, 101, 102, 103] (by decide +kernel) (by decide +kernel)
set_option maxRecDepth 20000 in
theorem gX7_leavesOneInVain_X7_doughsWithoutRound : GoodIn wsX7_leavesOneInVain (wsV RX7 116 RX7 yX7_doughsWithoutRound wsX7_doughsWithoutRound) := goodIn_app (goodIn_of _ (by decide +kernel)) ggX7_leavesOneInVain_X7_doughsWithoutRound
set_option maxRecDepth 20000 in
theorem ggX7_leavesOneInVain_X7_isInPlan : GoodIn wsX7_leavesOneInVain wsX7_isInPlan := goodIn_r _ [65, 14, 17, 88, 89, 90, 91, 92, 93, 94, 95] (by decide +kernel) (by decide +kernel)
set_option maxRecDepth 20000 in
theorem gX7_leavesOneInVain_X7_isInPlan : GoodIn wsX7_leavesOneInVain (wsV RX7 56 RX7 yX7_isInPlan wsX7_isInPlan) := goodIn_app (goodIn_of _ (by decide +kernel)) ggX7_leavesOneInVain_X7_isInPlan
set_option maxRecDepth 20000 in
theorem ggX7_leavesOneInVain_X7_allGetRounds : GoodIn wsX7_leavesOneInVain wsX7_allGetRounds := goodIn_r _ [73, 74, 3, 75, 76, 77, 78, 79, 80, 81, 7, 82, 15, 53, 45, 46, 47, 48, 16, 54, 55, 56, 57, 14, 17, 88, 89, 90, 91, 92, 93, 94, 95, 104, 105, 106, 107, 108] (by decide +kernel) (by decide +kernel)
set_option maxRecDepth 20000 in
theorem gX7_leavesOneInVain_X7_allGetRounds : GoodIn wsX7_leavesOneInVain (wsV RX7 119 RX7 yX7_allGetRounds wsX7_allGetRounds) := goodIn_app (goodIn_of _ (by decide +kernel)) ggX7_leavesOneInVain_X7_allGetRounds
set_option maxRecDepth 20000 in
theorem ggX7_leavesOneInVain_X11_makeNextOrder : GoodIn wsX7_leavesOneInVain wsX11_makeNextOrder := goodIn_r _ [84, 85, 86, 43, 87] (by decide +kernel) (by decide +kernel)
set_option maxRecDepth 20000 in
theorem gX7_leavesOneInVain_X11_makeNextOrder_n122 : GoodIn wsX7_leavesOneInVain (wsX11_makeNextOrder) := ggX7_leavesOneInVain_X11_makeNextOrder
theorem dX7_leavesOneInVain_0 : decode cX7_leavesOneInVain 0 = .ok (.aload_n 0, 1) := by decide +kernel
theorem dX7_leavesOneInVain_1 : decode cX7_leavesOneInVain 1 = .ok (.invokevirtual 110, 3) := by decide +kernel
theorem dX7_leavesOneInVain_4 : decode cX7_leavesOneInVain 4 = .ok (.aload_n 0, 1) := by decide +kernel
theorem dX7_leavesOneInVain_5 : decode cX7_leavesOneInVain 5 = .ok (.invokevirtual 113, 3) := by decide +kernel
theorem dX7_leavesOneInVain_8 : decode cX7_leavesOneInVain 8 = .ok (.istore_n 1, 1) := by decide +kernel
theorem dX7_leavesOneInVain_9 : decode cX7_leavesOneInVain 9 = .ok (.iload_n 1, 1) := by decide +kernel
theorem dX7_leavesOneInVain_10 : decode cX7_leavesOneInVain 10 = .ok (.bipush 6, 2) := by decide +kernel
theorem dX7_leavesOneInVain_12 : decode cX7_leavesOneInVain 12 = .ok (.if_icmp .gt 10, 3) := by decide +kernel
theorem dX7_leavesOneInVain_15 : decode cX7_leavesOneInVain 15 = .ok (.aload_n 0, 1) := by decide +kernel
theorem dX7_leavesOneInVain_16 : decode cX7_leavesOneInVain 16 = .ok (.invokevirtual 116, 3) := by decide +kernel
theorem dX7_leavesOneInVain_19 : decode cX7_leavesOneInVain 19 = .ok (.ifCond .ne 5, 3) := by decide +kernel
theorem dX7_leavesOneInVain_22 : decode cX7_leavesOneInVain 22 = .ok (.iconst 0, 1) := by decide +kernel
theorem dX7_leavesOneInVain_23 : decode cX7_leavesOneInVain 23 = .ok (.ireturn, 1) := by decide +kernel
theorem dX7_leavesOneInVain_24 : decode cX7_leavesOneInVain 24 = .ok (.iconst 0, 1) := by decide +kernel
theorem dX7_leavesOneInVain_25 : decode cX7_leavesOneInVain 25 = .ok (.istore_n 2, 1) := by decide +kernel
theorem dX7_leavesOneInVain_26 : decode cX7_leavesOneInVain 26 = .ok (.iconst 0, 1) := by decide +kernel
theorem dX7_leavesOneInVain_27 : decode cX7_leavesOneInVain 27 = .ok (.istore_n 3, 1) := by decide +kernel
theorem dX7_leavesOneInVain_28 : decode cX7_leavesOneInVain 28 = .ok (.iload_n 3, 1) := by decide +kernel
theorem dX7_leavesOneInVain_29 : decode cX7_leavesOneInVain 29 = .ok (.aload_n 0, 1) := by decide +kernel
theorem dX7_leavesOneInVain_30 : decode cX7_leavesOneInVain 30 = .ok (.getfield 31, 3) := by decide +kernel
theorem dX7_leavesOneInVain_33 : decode cX7_leavesOneInVain 33 = .ok (.getfield 39, 3) := by decide +kernel
theorem dX7_leavesOneInVain_36 : decode cX7_leavesOneInVain 36 = .ok (.if_icmp .ge 27, 3) := by decide +kernel
theorem dX7_leavesOneInVain_39 : decode cX7_leavesOneInVain 39 = .ok (.aload_n 0, 1) := by decide +kernel
theorem dX7_leavesOneInVain_40 : decode cX7_leavesOneInVain 40 = .ok (.iload_n 3, 1) := by decide +kernel
theorem dX7_leavesOneInVain_41 : decode cX7_leavesOneInVain 41 = .ok (.invokevirtual 56, 3) := by decide +kernel
theorem dX7_leavesOneInVain_44 : decode cX7_leavesOneInVain 44 = .ok (.ifCond .eq 13, 3) := by decide +kernel
theorem dX7_leavesOneInVain_47 : decode cX7_leavesOneInVain 47 = .ok (.aload_n 0, 1) := by decide +kernel
theorem dX7_leavesOneInVain_48 : decode cX7_leavesOneInVain 48 = .ok (.getfield 21, 3) := by decide +kernel
theorem dX7_leavesOneInVain_51 : decode cX7_leavesOneInVain 51 = .ok (.iload_n 2, 1) := by decide +kernel
theorem dX7_leavesOneInVain_52 : decode cX7_leavesOneInVain 52 = .ok (.iload_n 3, 1) := by decide +kernel
theorem dX7_leavesOneInVain_53 : decode cX7_leavesOneInVain 53 = .ok (.iastore, 1) := by decide +kernel
theorem dX7_leavesOneInVain_54 : decode cX7_leavesOneInVain 54 = .ok (.iinc 2 1, 3) := by decide +kernel
theorem dX7_leavesOneInVain_57 : decode cX7_leavesOneInVain 57 = .ok (.iinc 3 1, 3) := by decide +kernel
theorem dX7_leavesOneInVain_60 : decode cX7_leavesOneInVain 60 = .ok (.goto (-32), 3) := by decide +kernel
theorem dX7_leavesOneInVain_63 : decode cX7_leavesOneInVain 63 = .ok (.iconst 0, 1) := by decide +kernel
theorem dX7_leavesOneInVain_64 : decode cX7_leavesOneInVain 64 = .ok (.istore_n 3, 1) := by decide +kernel
theorem dX7_leavesOneInVain_65 : decode cX7_leavesOneInVain 65 = .ok (.iload_n 3, 1) := by decide +kernel
theorem dX7_leavesOneInVain_66 : decode cX7_leavesOneInVain 66 = .ok (.sipush 720, 3) := by decide +kernel
theorem dX7_leavesOneInVain_69 : decode cX7_leavesOneInVain 69 = .ok (.if_icmp .ge 32, 3) := by decide +kernel
theorem dX7_leavesOneInVain_72 : decode cX7_leavesOneInVain 72 = .ok (.aload_n 0, 1) := by decide +kernel
theorem dX7_leavesOneInVain_73 : decode cX7_leavesOneInVain 73 = .ok (.iload_n 1, 1) := by decide +kernel
theorem dX7_leavesOneInVain_74 : decode cX7_leavesOneInVain 74 = .ok (.invokevirtual 119, 3) := by decide +kernel
theorem dX7_leavesOneInVain_77 : decode cX7_leavesOneInVain 77 = .ok (.ifCond .eq 5, 3) := by decide +kernel
theorem dX7_leavesOneInVain_80 : decode cX7_leavesOneInVain 80 = .ok (.iconst 1, 1) := by decide +kernel
theorem dX7_leavesOneInVain_81 : decode cX7_leavesOneInVain 81 = .ok (.ireturn, 1) := by decide +kernel
theorem dX7_leavesOneInVain_82 : decode cX7_leavesOneInVain 82 = .ok (.aload_n 0, 1) := by decide +kernel
theorem dX7_leavesOneInVain_83 : decode cX7_leavesOneInVain 83 = .ok (.getfield 21, 3) := by decide +kernel
theorem dX7_leavesOneInVain_86 : decode cX7_leavesOneInVain 86 = .ok (.iload_n 1, 1) := by decide +kernel
theorem dX7_leavesOneInVain_87 : decode cX7_leavesOneInVain 87 = .ok (.invokestatic 122, 3) := by decide +kernel
theorem dX7_leavesOneInVain_90 : decode cX7_leavesOneInVain 90 = .ok (.ifCond .ne 5, 3) := by decide +kernel
theorem dX7_leavesOneInVain_93 : decode cX7_leavesOneInVain 93 = .ok (.iconst 0, 1) := by decide +kernel
theorem dX7_leavesOneInVain_94 : decode cX7_leavesOneInVain 94 = .ok (.ireturn, 1) := by decide +kernel
theorem dX7_leavesOneInVain_95 : decode cX7_leavesOneInVain 95 = .ok (.iinc 3 1, 3) := by decide +kernel
theorem dX7_leavesOneInVain_98 : decode cX7_leavesOneInVain 98 = .ok (.goto (-33), 3) := by decide +kernel
theorem dX7_leavesOneInVain_101 : decode cX7_leavesOneInVain 101 = .ok (.iconst 0, 1) := by decide +kernel
theorem dX7_leavesOneInVain_102 : decode cX7_leavesOneInVain 102 = .ok (.ireturn, 1) := by decide +kernel
set_option maxRecDepth 20000 in
theorem ggX7_allGetRounds_J7_fill_53178 : GoodIn wsX7_allGetRounds wsJ7_fill_53178 := goodIn_r _ [6] (by decide +kernel) (by decide +kernel)
set_option maxRecDepth 20000 in
theorem gX7_allGetRounds_J7_fill_53178 : GoodIn wsX7_allGetRounds (va_wsS RX7 126 yJ7_fill_53178 wsJ7_fill_53178) := goodIn_app (goodIn_of _ (by decide +kernel)) ggX7_allGetRounds_J7_fill_53178
set_option maxRecDepth 20000 in
theorem ggX7_allGetRounds_X7_earliestFree : GoodIn wsX7_allGetRounds wsX7_earliestFree := goodIn_r _ [11, 1, 12, 13, 14, 15, 16, 10, 17, 18, 19, 20, 21, 22, 23, 24, 25, 26, 27, 28, 29, 30, 31, 32, 33, 34, 35, 36, 37] (by decide +kernel) (by decide +kernel)
set_option maxRecDepth 20000 in
theorem gX7_allGetRounds_X7_earliestFree : GoodIn wsX7_allGetRounds (wsV RX7 132 RX7 yX7_earliestFree wsX7_earliestFree) := goodIn_app (goodIn_of _ (by decide +kernel)) ggX7_allGetRounds_X7_earliestFree
theorem dX7_allGetRounds_0 : decode cX7_allGetRounds 0 = .ok (.aload_n 0, 1) := by decide +kernel
theorem dX7_allGetRounds_1 : decode cX7_allGetRounds 1 = .ok (.getfield 24, 3) := by decide +kernel
theorem dX7_allGetRounds_4 : decode cX7_allGetRounds 4 = .ok (.iconst 0, 1) := by decide +kernel
theorem dX7_allGetRounds_5 : decode cX7_allGetRounds 5 = .ok (.invokestatic 126, 3) := by decide +kernel
theorem dX7_allGetRounds_8 : decode cX7_allGetRounds 8 = .ok (.iconst 0, 1) := by decide +kernel
theorem dX7_allGetRounds_9 : decode cX7_allGetRounds 9 = .ok (.istore_n 2, 1) := by decide +kernel
theorem dX7_allGetRounds_10 : decode cX7_allGetRounds 10 = .ok (.iload_n 2, 1) := by decide +kernel
theorem dX7_allGetRounds_11 : decode cX7_allGetRounds 11 = .ok (.iload_n 1, 1) := by decide +kernel
theorem dX7_allGetRounds_12 : decode cX7_allGetRounds 12 = .ok (.if_icmp .ge 37, 3) := by decide +kernel
theorem dX7_allGetRounds_15 : decode cX7_allGetRounds 15 = .ok (.aload_n 0, 1) := by decide +kernel
theorem dX7_allGetRounds_16 : decode cX7_allGetRounds 16 = .ok (.aload_n 0, 1) := by decide +kernel
theorem dX7_allGetRounds_17 : decode cX7_allGetRounds 17 = .ok (.getfield 21, 3) := by decide +kernel
theorem dX7_allGetRounds_20 : decode cX7_allGetRounds 20 = .ok (.iload_n 2, 1) := by decide +kernel
theorem dX7_allGetRounds_21 : decode cX7_allGetRounds 21 = .ok (.iaload, 1) := by decide +kernel
theorem dX7_allGetRounds_22 : decode cX7_allGetRounds 22 = .ok (.invokevirtual 132, 3) := by decide +kernel
theorem dX7_allGetRounds_25 : decode cX7_allGetRounds 25 = .ok (.istore_n 3, 1) := by decide +kernel
theorem dX7_allGetRounds_26 : decode cX7_allGetRounds 26 = .ok (.iload_n 3, 1) := by decide +kernel
theorem dX7_allGetRounds_27 : decode cX7_allGetRounds 27 = .ok (.iconst (-1), 1) := by decide +kernel
theorem dX7_allGetRounds_28 : decode cX7_allGetRounds 28 = .ok (.if_icmp .ne 5, 3) := by decide +kernel
theorem dX7_allGetRounds_31 : decode cX7_allGetRounds 31 = .ok (.iconst 0, 1) := by decide +kernel
theorem dX7_allGetRounds_32 : decode cX7_allGetRounds 32 = .ok (.ireturn, 1) := by decide +kernel
theorem dX7_allGetRounds_33 : decode cX7_allGetRounds 33 = .ok (.aload_n 0, 1) := by decide +kernel
theorem dX7_allGetRounds_34 : decode cX7_allGetRounds 34 = .ok (.getfield 24, 3) := by decide +kernel
theorem dX7_allGetRounds_37 : decode cX7_allGetRounds 37 = .ok (.iload_n 3, 1) := by decide +kernel
theorem dX7_allGetRounds_38 : decode cX7_allGetRounds 38 = .ok (.dup2, 1) := by decide +kernel
theorem dX7_allGetRounds_39 : decode cX7_allGetRounds 39 = .ok (.iaload, 1) := by decide +kernel
theorem dX7_allGetRounds_40 : decode cX7_allGetRounds 40 = .ok (.iconst 1, 1) := by decide +kernel
theorem dX7_allGetRounds_41 : decode cX7_allGetRounds 41 = .ok (.iadd, 1) := by decide +kernel
theorem dX7_allGetRounds_42 : decode cX7_allGetRounds 42 = .ok (.iastore, 1) := by decide +kernel
theorem dX7_allGetRounds_43 : decode cX7_allGetRounds 43 = .ok (.iinc 2 1, 3) := by decide +kernel
theorem dX7_allGetRounds_46 : decode cX7_allGetRounds 46 = .ok (.goto (-36), 3) := by decide +kernel
theorem dX7_allGetRounds_49 : decode cX7_allGetRounds 49 = .ok (.iconst 1, 1) := by decide +kernel
theorem dX7_allGetRounds_50 : decode cX7_allGetRounds 50 = .ok (.ireturn, 1) := by decide +kernel
set_option maxRecDepth 20000 in
theorem ggX7_earliestFree_X7_beginOf : GoodIn wsX7_earliestFree wsX7_beginOf := goodIn_r _ [8, 2, 9, 16, 17, 18, 19, 20, 21, 22, 23, 24, 25, 26, 27, 28] (by decide +kernel) (by decide +kernel)
set_option maxRecDepth 20000 in
theorem gX7_earliestFree_X7_beginOf : GoodIn wsX7_earliestFree (wsV RX7 49 RX7 yX7_beginOf wsX7_beginOf) := goodIn_app (goodIn_of _ (by decide +kernel)) ggX7_earliestFree_X7_beginOf
set_option maxRecDepth 20000 in
theorem ggX7_earliestFree_X7_canBegin : GoodIn wsX7_earliestFree wsX7_canBegin := goodIn_r _ [13, 14, 15, 16, 17, 18, 19, 20, 21, 22, 23] (by decide +kernel) (by decide +kernel)
set_option maxRecDepth 20000 in
theorem gX7_earliestFree_X7_canBegin : GoodIn wsX7_earliestFree (wsV RX7 68 RX7 yX7_canBegin wsX7_canBegin) := goodIn_app (goodIn_of _ (by decide +kernel)) ggX7_earliestFree_X7_canBegin
theorem dX7_earliestFree_0 : decode cX7_earliestFree 0 = .ok (.iconst 0, 1) := by decide +kernel
theorem dX7_earliestFree_1 : decode cX7_earliestFree 1 = .ok (.istore_n 2, 1) := by decide +kernel
theorem dX7_earliestFree_2 : decode cX7_earliestFree 2 = .ok (.iload_n 2, 1) := by decide +kernel
theorem dX7_earliestFree_3 : decode cX7_earliestFree 3 = .ok (.bipush 40, 2) := by decide +kernel
theorem dX7_earliestFree_5 : decode cX7_earliestFree 5 = .ok (.if_icmp .ge 40, 3) := by decide +kernel
theorem dX7_earliestFree_8 : decode cX7_earliestFree 8 = .ok (.aload_n 0, 1) := by decide +kernel
theorem dX7_earliestFree_9 : decode cX7_earliestFree 9 = .ok (.getfield 24, 3) := by decide +kernel
theorem dX7_earliestFree_12 : decode cX7_earliestFree 12 = .ok (.iload_n 2, 1) := by decide +kernel
theorem dX7_earliestFree_13 : decode cX7_earliestFree 13 = .ok (.iaload, 1) := by decide +kernel
theorem dX7_earliestFree_14 : decode cX7_earliestFree 14 = .ok (.aload_n 0, 1) := by decide +kernel
theorem dX7_earliestFree_15 : decode cX7_earliestFree 15 = .ok (.getfield 35, 3) := by decide +kernel
theorem dX7_earliestFree_18 : decode cX7_earliestFree 18 = .ok (.getfield 65, 3) := by decide +kernel
theorem dX7_earliestFree_21 : decode cX7_earliestFree 21 = .ok (.if_icmp .ge 18, 3) := by decide +kernel
theorem dX7_earliestFree_24 : decode cX7_earliestFree 24 = .ok (.aload_n 0, 1) := by decide +kernel
theorem dX7_earliestFree_25 : decode cX7_earliestFree 25 = .ok (.iload_n 1, 1) := by decide +kernel
theorem dX7_earliestFree_26 : decode cX7_earliestFree 26 = .ok (.aload_n 0, 1) := by decide +kernel
theorem dX7_earliestFree_27 : decode cX7_earliestFree 27 = .ok (.iload_n 2, 1) := by decide +kernel
theorem dX7_earliestFree_28 : decode cX7_earliestFree 28 = .ok (.invokevirtual 49, 3) := by decide +kernel
theorem dX7_earliestFree_31 : decode cX7_earliestFree 31 = .ok (.invokevirtual 68, 3) := by decide +kernel
theorem dX7_earliestFree_34 : decode cX7_earliestFree 34 = .ok (.ifCond .eq 5, 3) := by decide +kernel
theorem dX7_earliestFree_37 : decode cX7_earliestFree 37 = .ok (.iload_n 2, 1) := by decide +kernel
theorem dX7_earliestFree_38 : decode cX7_earliestFree 38 = .ok (.ireturn, 1) := by decide +kernel
theorem dX7_earliestFree_39 : decode cX7_earliestFree 39 = .ok (.iinc 2 1, 3) := by decide +kernel
theorem dX7_earliestFree_42 : decode cX7_earliestFree 42 = .ok (.goto (-40), 3) := by decide +kernel
theorem dX7_earliestFree_45 : decode cX7_earliestFree 45 = .ok (.iconst (-1), 1) := by decide +kernel
theorem dX7_earliestFree_46 : decode cX7_earliestFree 46 = .ok (.ireturn, 1) := by decide +kernel
theorem dX8_init_0 : decode cX8_init 0 = .ok (.aload_n 0, 1) := by decide +kernel
theorem dX8_init_1 : decode cX8_init 1 = .ok (.invokespecial 3, 3) := by decide +kernel
theorem dX8_init_4 : decode cX8_init 4 = .ok (.aload_n 0, 1) := by decide +kernel
theorem dX8_init_5 : decode cX8_init 5 = .ok (.bipush 6, 2) := by decide +kernel
theorem dX8_init_7 : decode cX8_init 7 = .ok (.newarray .int, 2) := by decide +kernel
theorem dX8_init_9 : decode cX8_init 9 = .ok (.putfield 9, 3) := by decide +kernel
theorem dX8_init_12 : decode cX8_init 12 = .ok (.aload_n 0, 1) := by decide +kernel
theorem dX8_init_13 : decode cX8_init 13 = .ok (.bipush 6, 2) := by decide +kernel
theorem dX8_init_15 : decode cX8_init 15 = .ok (.newarray .int, 2) := by decide +kernel
theorem dX8_init_17 : decode cX8_init 17 = .ok (.putfield 15, 3) := by decide +kernel
theorem dX8_init_20 : decode cX8_init 20 = .ok (.aload_n 0, 1) := by decide +kernel
theorem dX8_init_21 : decode cX8_init 21 = .ok (.bipush 6, 2) := by decide +kernel
theorem dX8_init_23 : decode cX8_init 23 = .ok (.newarray .int, 2) := by decide +kernel
theorem dX8_init_25 : decode cX8_init 25 = .ok (.putfield 18, 3) := by decide +kernel
theorem dX8_init_28 : decode cX8_init 28 = .ok (.aload_n 0, 1) := by decide +kernel
theorem dX8_init_29 : decode cX8_init 29 = .ok (.bipush 6, 2) := by decide +kernel
theorem dX8_init_31 : decode cX8_init 31 = .ok (.newarray .int, 2) := by decide +kernel
theorem dX8_init_33 : decode cX8_init 33 = .ok (.putfield 21, 3) := by decide +kernel
theorem dX8_init_36 : decode cX8_init 36 = .ok (.aload_n 0, 1) := by decide +kernel
theorem dX8_init_37 : decode cX8_init 37 = .ok (.bipush 6, 2) := by decide +kernel
theorem dX8_init_39 : decode cX8_init 39 = .ok (.newarray .int, 2) := by decide +kernel
theorem dX8_init_41 : decode cX8_init 41 = .ok (.putfield 24, 3) := by decide +kernel
theorem dX8_init_44 : decode cX8_init 44 = .ok (.aload_n 0, 1) := by decide +kernel
theorem dX8_init_45 : decode cX8_init 45 = .ok (.bipush 6, 2) := by decide +kernel
theorem dX8_init_47 : decode cX8_init 47 = .ok (.newarray .int, 2) := by decide +kernel
theorem dX8_init_49 : decode cX8_init 49 = .ok (.putfield 27, 3) := by decide +kernel
theorem dX8_init_52 : decode cX8_init 52 = .ok (.aload_n 0, 1) := by decide +kernel
theorem dX8_init_53 : decode cX8_init 53 = .ok (.bipush 48, 2) := by decide +kernel
theorem dX8_init_55 : decode cX8_init 55 = .ok (.newarray .int, 2) := by decide +kernel
theorem dX8_init_57 : decode cX8_init 57 = .ok (.putfield 30, 3) := by decide +kernel
theorem dX8_init_60 : decode cX8_init 60 = .ok (.iconst 0, 1) := by decide +kernel
theorem dX8_init_61 : decode cX8_init 61 = .ok (.istore_n 1, 1) := by decide +kernel
theorem dX8_init_62 : decode cX8_init 62 = .ok (.iload_n 1, 1) := by decide +kernel
theorem dX8_init_63 : decode cX8_init 63 = .ok (.bipush 6, 2) := by decide +kernel
theorem dX8_init_65 : decode cX8_init 65 = .ok (.if_icmp .ge 17, 3) := by decide +kernel
theorem dX8_init_68 : decode cX8_init 68 = .ok (.aload_n 0, 1) := by decide +kernel
theorem dX8_init_69 : decode cX8_init 69 = .ok (.getfield 27, 3) := by decide +kernel
theorem dX8_init_72 : decode cX8_init 72 = .ok (.iload_n 1, 1) := by decide +kernel
theorem dX8_init_73 : decode cX8_init 73 = .ok (.bipush 20, 2) := by decide +kernel
theorem dX8_init_75 : decode cX8_init 75 = .ok (.iastore, 1) := by decide +kernel
theorem dX8_init_76 : decode cX8_init 76 = .ok (.iinc 1 1, 3) := by decide +kernel
theorem dX8_init_79 : decode cX8_init 79 = .ok (.goto (-17), 3) := by decide +kernel
theorem dX8_init_82 : decode cX8_init 82 = .ok (.return_, 1) := by decide +kernel
set_option maxRecDepth 20000 in
theorem ggX8_isRipeWith_X11_isWithin : GoodIn wsX8_isRipeWith wsX11_isWithin := goodIn_r _ [5] (by decide +kernel) (by decide +kernel)
set_option maxRecDepth 20000 in
theorem gX8_isRipeWith_X11_isWithin_n33 : GoodIn wsX8_isRipeWith (wsX11_isWithin) := ggX8_isRipeWith_X11_isWithin
theorem dX8_isRipeWith_0 : decode cX8_isRipeWith 0 = .ok (.iload_n 2, 1) := by decide +kernel
theorem dX8_isRipeWith_1 : decode cX8_isRipeWith 1 = .ok (.aload_n 0, 1) := by decide +kernel
theorem dX8_isRipeWith_2 : decode cX8_isRipeWith 2 = .ok (.getfield 15, 3) := by decide +kernel
theorem dX8_isRipeWith_5 : decode cX8_isRipeWith 5 = .ok (.iload_n 1, 1) := by decide +kernel
theorem dX8_isRipeWith_6 : decode cX8_isRipeWith 6 = .ok (.iaload, 1) := by decide +kernel
theorem dX8_isRipeWith_7 : decode cX8_isRipeWith 7 = .ok (.aload_n 0, 1) := by decide +kernel
theorem dX8_isRipeWith_8 : decode cX8_isRipeWith 8 = .ok (.getfield 18, 3) := by decide +kernel
theorem dX8_isRipeWith_11 : decode cX8_isRipeWith 11 = .ok (.iload_n 1, 1) := by decide +kernel
theorem dX8_isRipeWith_12 : decode cX8_isRipeWith 12 = .ok (.iaload, 1) := by decide +kernel
theorem dX8_isRipeWith_13 : decode cX8_isRipeWith 13 = .ok (.invokestatic 33, 3) := by decide +kernel
theorem dX8_isRipeWith_16 : decode cX8_isRipeWith 16 = .ok (.ireturn, 1) := by decide +kernel
set_option maxRecDepth 20000 in
theorem ggX8_hasParts_X8_partsUpTo : GoodIn wsX8_hasParts wsX8_partsUpTo := goodIn_r _ [5, 6, 7, 8, 9, 10, 11, 12, 13, 14] (by decide +kernel) (by decide +kernel)
set_option maxRecDepth 20000 in
theorem gX8_hasParts_X8_partsUpTo : GoodIn wsX8_hasParts (wsV RX8 37 RX8 yX8_partsUpTo wsX8_partsUpTo) := goodIn_app (goodIn_of _ (by decide +kernel)) ggX8_hasParts_X8_partsUpTo
theorem dX8_hasParts_0 : decode cX8_hasParts 0 = .ok (.aload_n 0, 1) := by decide +kernel
theorem dX8_hasParts_1 : decode cX8_hasParts 1 = .ok (.iload_n 1, 1) := by decide +kernel
theorem dX8_hasParts_2 : decode cX8_hasParts 2 = .ok (.bipush 7, 2) := by decide +kernel
theorem dX8_hasParts_4 : decode cX8_hasParts 4 = .ok (.invokevirtual 37, 3) := by decide +kernel
theorem dX8_hasParts_7 : decode cX8_hasParts 7 = .ok (.ifCond .le 7, 3) := by decide +kernel
theorem dX8_hasParts_10 : decode cX8_hasParts 10 = .ok (.iconst 1, 1) := by decide +kernel
theorem dX8_hasParts_11 : decode cX8_hasParts 11 = .ok (.goto 4, 3) := by decide +kernel
theorem dX8_hasParts_14 : decode cX8_hasParts 14 = .ok (.iconst 0, 1) := by decide +kernel
theorem dX8_hasParts_15 : decode cX8_hasParts 15 = .ok (.ireturn, 1) := by decide +kernel
theorem dX8_partsUpTo_0 : decode cX8_partsUpTo 0 = .ok (.iconst 0, 1) := by decide +kernel
theorem dX8_partsUpTo_1 : decode cX8_partsUpTo 1 = .ok (.istore_n 3, 1) := by decide +kernel
theorem dX8_partsUpTo_2 : decode cX8_partsUpTo 2 = .ok (.iconst 0, 1) := by decide +kernel
theorem dX8_partsUpTo_3 : decode cX8_partsUpTo 3 = .ok (.istore 4, 2) := by decide +kernel
theorem dX8_partsUpTo_5 : decode cX8_partsUpTo 5 = .ok (.iload 4, 2) := by decide +kernel
theorem dX8_partsUpTo_7 : decode cX8_partsUpTo 7 = .ok (.iload_n 2, 1) := by decide +kernel
theorem dX8_partsUpTo_8 : decode cX8_partsUpTo 8 = .ok (.if_icmp .gt 24, 3) := by decide +kernel
theorem dX8_partsUpTo_11 : decode cX8_partsUpTo 11 = .ok (.iload_n 3, 1) := by decide +kernel
theorem dX8_partsUpTo_12 : decode cX8_partsUpTo 12 = .ok (.aload_n 0, 1) := by decide +kernel
theorem dX8_partsUpTo_13 : decode cX8_partsUpTo 13 = .ok (.getfield 30, 3) := by decide +kernel
theorem dX8_partsUpTo_16 : decode cX8_partsUpTo 16 = .ok (.iload_n 1, 1) := by decide +kernel
theorem dX8_partsUpTo_17 : decode cX8_partsUpTo 17 = .ok (.bipush 8, 2) := by decide +kernel
theorem dX8_partsUpTo_19 : decode cX8_partsUpTo 19 = .ok (.imul, 1) := by decide +kernel
theorem dX8_partsUpTo_20 : decode cX8_partsUpTo 20 = .ok (.iload 4, 2) := by decide +kernel
theorem dX8_partsUpTo_22 : decode cX8_partsUpTo 22 = .ok (.iadd, 1) := by decide +kernel
theorem dX8_partsUpTo_23 : decode cX8_partsUpTo 23 = .ok (.iaload, 1) := by decide +kernel
theorem dX8_partsUpTo_24 : decode cX8_partsUpTo 24 = .ok (.iadd, 1) := by decide +kernel
theorem dX8_partsUpTo_25 : decode cX8_partsUpTo 25 = .ok (.istore_n 3, 1) := by decide +kernel
theorem dX8_partsUpTo_26 : decode cX8_partsUpTo 26 = .ok (.iinc 4 1, 3) := by decide +kernel
theorem dX8_partsUpTo_29 : decode cX8_partsUpTo 29 = .ok (.goto (-24), 3) := by decide +kernel
theorem dX8_partsUpTo_32 : decode cX8_partsUpTo 32 = .ok (.iload_n 3, 1) := by decide +kernel
theorem dX8_partsUpTo_33 : decode cX8_partsUpTo 33 = .ok (.ireturn, 1) := by decide +kernel
set_option maxRecDepth 20000 in
theorem ggX8_scaled_X8_scaledUpTo : GoodIn wsX8_scaled wsX8_scaledUpTo := goodIn_r _ [5, 6, 7, 8, 4, 9, 10, 11, 12, 13, 14, 15, 16, 17, 18] (by decide +kernel) (by decide +kernel)
set_option maxRecDepth 20000 in
theorem gX8_scaled_X8_scaledUpTo : GoodIn wsX8_scaled (wsV RX8 41 RX8 yX8_scaledUpTo wsX8_scaledUpTo) := goodIn_app (goodIn_of _ (by decide +kernel)) ggX8_scaled_X8_scaledUpTo
theorem dX8_scaled_0 : decode cX8_scaled 0 = .ok (.aload_n 0, 1) := by decide +kernel
theorem dX8_scaled_1 : decode cX8_scaled 1 = .ok (.iload_n 1, 1) := by decide +kernel
theorem dX8_scaled_2 : decode cX8_scaled 2 = .ok (.iload_n 2, 1) := by decide +kernel
theorem dX8_scaled_3 : decode cX8_scaled 3 = .ok (.iload_n 3, 1) := by decide +kernel
theorem dX8_scaled_4 : decode cX8_scaled 4 = .ok (.invokevirtual 41, 3) := by decide +kernel
theorem dX8_scaled_7 : decode cX8_scaled 7 = .ok (.aload_n 0, 1) := by decide +kernel
theorem dX8_scaled_8 : decode cX8_scaled 8 = .ok (.iload_n 1, 1) := by decide +kernel
theorem dX8_scaled_9 : decode cX8_scaled 9 = .ok (.iload_n 2, 1) := by decide +kernel
theorem dX8_scaled_10 : decode cX8_scaled 10 = .ok (.iload_n 3, 1) := by decide +kernel
theorem dX8_scaled_11 : decode cX8_scaled 11 = .ok (.iconst 1, 1) := by decide +kernel
theorem dX8_scaled_12 : decode cX8_scaled 12 = .ok (.isub, 1) := by decide +kernel
theorem dX8_scaled_13 : decode cX8_scaled 13 = .ok (.invokevirtual 41, 3) := by decide +kernel
theorem dX8_scaled_16 : decode cX8_scaled 16 = .ok (.isub, 1) := by decide +kernel
theorem dX8_scaled_17 : decode cX8_scaled 17 = .ok (.ireturn, 1) := by decide +kernel
set_option maxRecDepth 20000 in
theorem ggX8_scaledUpTo_X8_partsUpTo : GoodIn wsX8_scaledUpTo wsX8_partsUpTo := goodIn_r _ [5, 6, 7, 8, 9, 10, 11, 12, 13, 14] (by decide +kernel) (by decide +kernel)
set_option maxRecDepth 20000 in
theorem gX8_scaledUpTo_X8_partsUpTo : GoodIn wsX8_scaledUpTo (wsV RX8 37 RX8 yX8_partsUpTo wsX8_partsUpTo) := goodIn_app (goodIn_of _ (by decide +kernel)) ggX8_scaledUpTo_X8_partsUpTo
theorem dX8_scaledUpTo_0 : decode cX8_scaledUpTo 0 = .ok (.aload_n 0, 1) := by decide +kernel
theorem dX8_scaledUpTo_1 : decode cX8_scaledUpTo 1 = .ok (.iload_n 1, 1) := by decide +kernel
theorem dX8_scaledUpTo_2 : decode cX8_scaledUpTo 2 = .ok (.bipush 7, 2) := by decide +kernel
theorem dX8_scaledUpTo_4 : decode cX8_scaledUpTo 4 = .ok (.invokevirtual 37, 3) := by decide +kernel
theorem dX8_scaledUpTo_7 : decode cX8_scaledUpTo 7 = .ok (.istore 4, 2) := by decide +kernel
theorem dX8_scaledUpTo_9 : decode cX8_scaledUpTo 9 = .ok (.iload 4, 2) := by decide +kernel
theorem dX8_scaledUpTo_11 : decode cX8_scaledUpTo 11 = .ok (.ifCond .gt 5, 3) := by decide +kernel
theorem dX8_scaledUpTo_14 : decode cX8_scaledUpTo 14 = .ok (.iconst 0, 1) := by decide +kernel
theorem dX8_scaledUpTo_15 : decode cX8_scaledUpTo 15 = .ok (.ireturn, 1) := by decide +kernel
theorem dX8_scaledUpTo_16 : decode cX8_scaledUpTo 16 = .ok (.iload_n 2, 1) := by decide +kernel
theorem dX8_scaledUpTo_17 : decode cX8_scaledUpTo 17 = .ok (.i2l, 1) := by decide +kernel
theorem dX8_scaledUpTo_18 : decode cX8_scaledUpTo 18 = .ok (.aload_n 0, 1) := by decide +kernel
theorem dX8_scaledUpTo_19 : decode cX8_scaledUpTo 19 = .ok (.iload_n 1, 1) := by decide +kernel
theorem dX8_scaledUpTo_20 : decode cX8_scaledUpTo 20 = .ok (.iload_n 3, 1) := by decide +kernel
theorem dX8_scaledUpTo_21 : decode cX8_scaledUpTo 21 = .ok (.invokevirtual 37, 3) := by decide +kernel
theorem dX8_scaledUpTo_24 : decode cX8_scaledUpTo 24 = .ok (.i2l, 1) := by decide +kernel
theorem dX8_scaledUpTo_25 : decode cX8_scaledUpTo 25 = .ok (.lmul, 1) := by decide +kernel
theorem dX8_scaledUpTo_26 : decode cX8_scaledUpTo 26 = .ok (.iload 4, 2) := by decide +kernel
theorem dX8_scaledUpTo_28 : decode cX8_scaledUpTo 28 = .ok (.i2l, 1) := by decide +kernel
theorem dX8_scaledUpTo_29 : decode cX8_scaledUpTo 29 = .ok (.ldiv, 1) := by decide +kernel
theorem dX8_scaledUpTo_30 : decode cX8_scaledUpTo 30 = .ok (.l2i, 1) := by decide +kernel
theorem dX8_scaledUpTo_31 : decode cX8_scaledUpTo 31 = .ok (.ireturn, 1) := by decide +kernel
theorem dX8_save_0 : decode cX8_save 0 = .ok (.aload_n 1, 1) := by decide +kernel
theorem dX8_save_1 : decode cX8_save 1 = .ok (.iload_n 2, 1) := by decide +kernel
theorem dX8_save_2 : decode cX8_save 2 = .ok (.aload_n 0, 1) := by decide +kernel
theorem dX8_save_3 : decode cX8_save 3 = .ok (.getfield 45, 3) := by decide +kernel
theorem dX8_save_6 : decode cX8_save 6 = .ok (.iastore, 1) := by decide +kernel
theorem dX8_save_7 : decode cX8_save 7 = .ok (.aload_n 0, 1) := by decide +kernel
theorem dX8_save_8 : decode cX8_save 8 = .ok (.getfield 27, 3) := by decide +kernel
theorem dX8_save_11 : decode cX8_save 11 = .ok (.iconst 0, 1) := by decide +kernel
theorem dX8_save_12 : decode cX8_save 12 = .ok (.aload_n 1, 1) := by decide +kernel
theorem dX8_save_13 : decode cX8_save 13 = .ok (.iload_n 2, 1) := by decide +kernel
theorem dX8_save_14 : decode cX8_save 14 = .ok (.iconst 1, 1) := by decide +kernel
theorem dX8_save_15 : decode cX8_save 15 = .ok (.iadd, 1) := by decide +kernel
theorem dX8_save_16 : decode cX8_save 16 = .ok (.bipush 6, 2) := by decide +kernel
theorem dX8_save_18 : decode cX8_save 18 = .ok (.invokestatic 49, 3) := by decide +kernel
theorem dX8_save_21 : decode cX8_save 21 = .ok (.aload_n 0, 1) := by decide +kernel
theorem dX8_save_22 : decode cX8_save 22 = .ok (.getfield 30, 3) := by decide +kernel
theorem dX8_save_25 : decode cX8_save 25 = .ok (.iconst 0, 1) := by decide +kernel
theorem dX8_save_26 : decode cX8_save 26 = .ok (.aload_n 1, 1) := by decide +kernel
theorem dX8_save_27 : decode cX8_save 27 = .ok (.iload_n 2, 1) := by decide +kernel
theorem dX8_save_28 : decode cX8_save 28 = .ok (.iconst 1, 1) := by decide +kernel
theorem dX8_save_29 : decode cX8_save 29 = .ok (.iadd, 1) := by decide +kernel
theorem dX8_save_30 : decode cX8_save 30 = .ok (.bipush 6, 2) := by decide +kernel
theorem dX8_save_32 : decode cX8_save 32 = .ok (.iadd, 1) := by decide +kernel
theorem dX8_save_33 : decode cX8_save 33 = .ok (.bipush 48, 2) := by decide +kernel
theorem dX8_save_35 : decode cX8_save 35 = .ok (.invokestatic 49, 3) := by decide +kernel
theorem dX8_save_38 : decode cX8_save 38 = .ok (.iload_n 2, 1) := by decide +kernel
theorem dX8_save_39 : decode cX8_save 39 = .ok (.bipush 55, 2) := by decide +kernel
theorem dX8_save_41 : decode cX8_save 41 = .ok (.iadd, 1) := by decide +kernel
theorem dX8_save_42 : decode cX8_save 42 = .ok (.ireturn, 1) := by decide +kernel
theorem dX8_load_0 : decode cX8_load 0 = .ok (.aload_n 0, 1) := by decide +kernel
theorem dX8_load_1 : decode cX8_load 1 = .ok (.aload_n 1, 1) := by decide +kernel
theorem dX8_load_2 : decode cX8_load 2 = .ok (.iload_n 2, 1) := by decide +kernel
theorem dX8_load_3 : decode cX8_load 3 = .ok (.iaload, 1) := by decide +kernel
theorem dX8_load_4 : decode cX8_load 4 = .ok (.putfield 45, 3) := by decide +kernel
theorem dX8_load_7 : decode cX8_load 7 = .ok (.aload_n 1, 1) := by decide +kernel
theorem dX8_load_8 : decode cX8_load 8 = .ok (.iload_n 2, 1) := by decide +kernel
theorem dX8_load_9 : decode cX8_load 9 = .ok (.iconst 1, 1) := by decide +kernel
theorem dX8_load_10 : decode cX8_load 10 = .ok (.iadd, 1) := by decide +kernel
theorem dX8_load_11 : decode cX8_load 11 = .ok (.aload_n 0, 1) := by decide +kernel
theorem dX8_load_12 : decode cX8_load 12 = .ok (.getfield 27, 3) := by decide +kernel
theorem dX8_load_15 : decode cX8_load 15 = .ok (.iconst 0, 1) := by decide +kernel
theorem dX8_load_16 : decode cX8_load 16 = .ok (.bipush 6, 2) := by decide +kernel
theorem dX8_load_18 : decode cX8_load 18 = .ok (.invokestatic 49, 3) := by decide +kernel
theorem dX8_load_21 : decode cX8_load 21 = .ok (.aload_n 1, 1) := by decide +kernel
theorem dX8_load_22 : decode cX8_load 22 = .ok (.iload_n 2, 1) := by decide +kernel
theorem dX8_load_23 : decode cX8_load 23 = .ok (.iconst 1, 1) := by decide +kernel
theorem dX8_load_24 : decode cX8_load 24 = .ok (.iadd, 1) := by decide +kernel
theorem dX8_load_25 : decode cX8_load 25 = .ok (.bipush 6, 2) := by decide +kernel
theorem dX8_load_27 : decode cX8_load 27 = .ok (.iadd, 1) := by decide +kernel
theorem dX8_load_28 : decode cX8_load 28 = .ok (.aload_n 0, 1) := by decide +kernel
theorem dX8_load_29 : decode cX8_load 29 = .ok (.getfield 30, 3) := by decide +kernel
theorem dX8_load_32 : decode cX8_load 32 = .ok (.iconst 0, 1) := by decide +kernel
theorem dX8_load_33 : decode cX8_load 33 = .ok (.bipush 48, 2) := by decide +kernel
theorem dX8_load_35 : decode cX8_load 35 = .ok (.invokestatic 49, 3) := by decide +kernel
theorem dX8_load_38 : decode cX8_load 38 = .ok (.iload_n 2, 1) := by decide +kernel
theorem dX8_load_39 : decode cX8_load 39 = .ok (.bipush 55, 2) := by decide +kernel
theorem dX8_load_41 : decode cX8_load 41 = .ok (.iadd, 1) := by decide +kernel
theorem dX8_load_42 : decode cX8_load 42 = .ok (.ireturn, 1) := by decide +kernel
theorem dX9_init_0 : decode cX9_init 0 = .ok (.aload_n 0, 1) := by decide +kernel
theorem dX9_init_1 : decode cX9_init 1 = .ok (.invokespecial 3, 3) := by decide +kernel
theorem dX9_init_4 : decode cX9_init 4 = .ok (.aload_n 0, 1) := by decide +kernel
theorem dX9_init_5 : decode cX9_init 5 = .ok (.bipush 6, 2) := by decide +kernel
theorem dX9_init_7 : decode cX9_init 7 = .ok (.newarray .int, 2) := by decide +kernel
theorem dX9_init_9 : decode cX9_init 9 = .ok (.putfield 9, 3) := by decide +kernel
theorem dX9_init_12 : decode cX9_init 12 = .ok (.aload_n 0, 1) := by decide +kernel
theorem dX9_init_13 : decode cX9_init 13 = .ok (.bipush 6, 2) := by decide +kernel
theorem dX9_init_15 : decode cX9_init 15 = .ok (.newarray .int, 2) := by decide +kernel
theorem dX9_init_17 : decode cX9_init 17 = .ok (.putfield 15, 3) := by decide +kernel
theorem dX9_init_20 : decode cX9_init 20 = .ok (.aload_n 0, 1) := by decide +kernel
theorem dX9_init_21 : decode cX9_init 21 = .ok (.aload_n 1, 1) := by decide +kernel
theorem dX9_init_22 : decode cX9_init 22 = .ok (.putfield 18, 3) := by decide +kernel
theorem dX9_init_25 : decode cX9_init 25 = .ok (.return_, 1) := by decide +kernel
set_option maxRecDepth 20000 in
theorem ggX9_find_X9_goOn : GoodIn wsX9_find wsX9_goOn := goodIn_r _ [5, 1, 6, 7, 8, 9, 10, 11, 12, 13, 14, 4, 15, 16, 17, 18, 2, 3, 19, 20, 21, 22, 23, 24, 25, 26, 27, 28, 29, 30] (by decide +kernel) (by decide +kernel)
set_option maxRecDepth 20000 in
theorem gX9_find_X9_goOn : GoodIn wsX9_find (va_wsS RX9 26 yX9_goOn wsX9_goOn) := goodIn_app (goodIn_of _ (by decide +kernel)) ggX9_find_X9_goOn
theorem dX9_find_0 : decode cX9_find 0 = .ok (.aload_n 0, 1) := by decide +kernel
theorem dX9_find_1 : decode cX9_find 1 = .ok (.iconst (-1), 1) := by decide +kernel
theorem dX9_find_2 : decode cX9_find 2 = .ok (.putfield 22, 3) := by decide +kernel
theorem dX9_find_5 : decode cX9_find 5 = .ok (.aload_n 0, 1) := by decide +kernel
theorem dX9_find_6 : decode cX9_find 6 = .ok (.iconst 0, 1) := by decide +kernel
theorem dX9_find_7 : decode cX9_find 7 = .ok (.iload_n 1, 1) := by decide +kernel
theorem dX9_find_8 : decode cX9_find 8 = .ok (.iconst 0, 1) := by decide +kernel
theorem dX9_find_9 : decode cX9_find 9 = .ok (.invokestatic 26, 3) := by decide +kernel
theorem dX9_find_12 : decode cX9_find 12 = .ok (.return_, 1) := by decide +kernel
set_option maxRecDepth 20000 in
theorem ggX9_goOn_X9_priceBetween : GoodIn wsX9_goOn wsX9_priceBetween := goodIn_r _ [12, 13, 14, 15, 18, 19, 20, 21, 22, 23, 24, 25, 26, 27, 28, 29] (by decide +kernel) (by decide +kernel)
set_option maxRecDepth 20000 in
theorem gX9_goOn_X9_priceBetween : GoodIn wsX9_goOn (wsV RX9 36 RX9 yX9_priceBetween wsX9_priceBetween) := goodIn_app (goodIn_of _ (by decide +kernel)) ggX9_goOn_X9_priceBetween
set_option maxRecDepth 20000 in
theorem ggX9_goOn_X9_goOn : GoodIn wsX9_goOn wsX9_goOn := goodIn_r _ [0, 1, 2, 3, 4, 5, 6, 7, 8, 9, 10, 11, 12, 13, 14, 15, 16, 17, 18, 19, 20, 21, 22, 23, 24, 25, 26, 27, 28, 29] (by decide +kernel) (by decide +kernel)
set_option maxRecDepth 20000 in
theorem gX9_goOn_X9_goOn : GoodIn wsX9_goOn (va_wsS RX9 26 yX9_goOn wsX9_goOn) := goodIn_app (goodIn_of _ (by decide +kernel)) ggX9_goOn_X9_goOn
theorem dX9_goOn_0 : decode cX9_goOn 0 = .ok (.aload_n 0, 1) := by decide +kernel
theorem dX9_goOn_1 : decode cX9_goOn 1 = .ok (.getfield 22, 3) := by decide +kernel
theorem dX9_goOn_4 : decode cX9_goOn 4 = .ok (.iconst (-1), 1) := by decide +kernel
theorem dX9_goOn_5 : decode cX9_goOn 5 = .ok (.if_icmp .eq 12, 3) := by decide +kernel
theorem dX9_goOn_8 : decode cX9_goOn 8 = .ok (.iload_n 3, 1) := by decide +kernel
theorem dX9_goOn_9 : decode cX9_goOn 9 = .ok (.aload_n 0, 1) := by decide +kernel
theorem dX9_goOn_10 : decode cX9_goOn 10 = .ok (.getfield 22, 3) := by decide +kernel
theorem dX9_goOn_13 : decode cX9_goOn 13 = .ok (.if_icmp .lt 4, 3) := by decide +kernel
theorem dX9_goOn_16 : decode cX9_goOn 16 = .ok (.return_, 1) := by decide +kernel
theorem dX9_goOn_17 : decode cX9_goOn 17 = .ok (.iload_n 2, 1) := by decide +kernel
theorem dX9_goOn_18 : decode cX9_goOn 18 = .ok (.ifCond .eq 9, 3) := by decide +kernel
theorem dX9_goOn_21 : decode cX9_goOn 21 = .ok (.iload_n 1, 1) := by decide +kernel
theorem dX9_goOn_22 : decode cX9_goOn 22 = .ok (.bipush 6, 2) := by decide +kernel
theorem dX9_goOn_24 : decode cX9_goOn 24 = .ok (.if_icmp .lt 24, 3) := by decide +kernel
theorem dX9_goOn_27 : decode cX9_goOn 27 = .ok (.aload_n 0, 1) := by decide +kernel
theorem dX9_goOn_28 : decode cX9_goOn 28 = .ok (.iload_n 3, 1) := by decide +kernel
theorem dX9_goOn_29 : decode cX9_goOn 29 = .ok (.putfield 22, 3) := by decide +kernel
theorem dX9_goOn_32 : decode cX9_goOn 32 = .ok (.aload_n 0, 1) := by decide +kernel
theorem dX9_goOn_33 : decode cX9_goOn 33 = .ok (.getfield 9, 3) := by decide +kernel
theorem dX9_goOn_36 : decode cX9_goOn 36 = .ok (.iconst 0, 1) := by decide +kernel
theorem dX9_goOn_37 : decode cX9_goOn 37 = .ok (.aload_n 0, 1) := by decide +kernel
theorem dX9_goOn_38 : decode cX9_goOn 38 = .ok (.getfield 15, 3) := by decide +kernel
theorem dX9_goOn_41 : decode cX9_goOn 41 = .ok (.iconst 0, 1) := by decide +kernel
theorem dX9_goOn_42 : decode cX9_goOn 42 = .ok (.bipush 6, 2) := by decide +kernel
theorem dX9_goOn_44 : decode cX9_goOn 44 = .ok (.invokestatic 30, 3) := by decide +kernel
theorem dX9_goOn_47 : decode cX9_goOn 47 = .ok (.return_, 1) := by decide +kernel
theorem dX9_goOn_48 : decode cX9_goOn 48 = .ok (.iconst 0, 1) := by decide +kernel
theorem dX9_goOn_49 : decode cX9_goOn 49 = .ok (.istore 4, 2) := by decide +kernel
theorem dX9_goOn_51 : decode cX9_goOn 51 = .ok (.iload 4, 2) := by decide +kernel
theorem dX9_goOn_53 : decode cX9_goOn 53 = .ok (.bipush 6, 2) := by decide +kernel
theorem dX9_goOn_55 : decode cX9_goOn 55 = .ok (.if_icmp .ge 69, 3) := by decide +kernel
theorem dX9_goOn_58 : decode cX9_goOn 58 = .ok (.iload_n 2, 1) := by decide +kernel
theorem dX9_goOn_59 : decode cX9_goOn 59 = .ok (.iload 4, 2) := by decide +kernel
theorem dX9_goOn_61 : decode cX9_goOn 61 = .ok (.ishr, 1) := by decide +kernel
theorem dX9_goOn_62 : decode cX9_goOn 62 = .ok (.iconst 1, 1) := by decide +kernel
theorem dX9_goOn_63 : decode cX9_goOn 63 = .ok (.iand, 1) := by decide +kernel
theorem dX9_goOn_64 : decode cX9_goOn 64 = .ok (.ifCond .eq 54, 3) := by decide +kernel
theorem dX9_goOn_67 : decode cX9_goOn 67 = .ok (.aload_n 0, 1) := by decide +kernel
theorem dX9_goOn_68 : decode cX9_goOn 68 = .ok (.getfield 9, 3) := by decide +kernel
theorem dX9_goOn_71 : decode cX9_goOn 71 = .ok (.iload_n 1, 1) := by decide +kernel
theorem dX9_goOn_72 : decode cX9_goOn 72 = .ok (.iload 4, 2) := by decide +kernel
theorem dX9_goOn_74 : decode cX9_goOn 74 = .ok (.iastore, 1) := by decide +kernel
theorem dX9_goOn_75 : decode cX9_goOn 75 = .ok (.iload_n 1, 1) := by decide +kernel
theorem dX9_goOn_76 : decode cX9_goOn 76 = .ok (.ifCond .le 20, 3) := by decide +kernel
theorem dX9_goOn_79 : decode cX9_goOn 79 = .ok (.aload_n 0, 1) := by decide +kernel
theorem dX9_goOn_80 : decode cX9_goOn 80 = .ok (.aload_n 0, 1) := by decide +kernel
theorem dX9_goOn_81 : decode cX9_goOn 81 = .ok (.getfield 9, 3) := by decide +kernel
theorem dX9_goOn_84 : decode cX9_goOn 84 = .ok (.iload_n 1, 1) := by decide +kernel
theorem dX9_goOn_85 : decode cX9_goOn 85 = .ok (.iconst 1, 1) := by decide +kernel
theorem dX9_goOn_86 : decode cX9_goOn 86 = .ok (.isub, 1) := by decide +kernel
theorem dX9_goOn_87 : decode cX9_goOn 87 = .ok (.iaload, 1) := by decide +kernel
theorem dX9_goOn_88 : decode cX9_goOn 88 = .ok (.iload 4, 2) := by decide +kernel
theorem dX9_goOn_90 : decode cX9_goOn 90 = .ok (.invokevirtual 36, 3) := by decide +kernel
theorem dX9_goOn_93 : decode cX9_goOn 93 = .ok (.goto 4, 3) := by decide +kernel
theorem dX9_goOn_96 : decode cX9_goOn 96 = .ok (.iconst 0, 1) := by decide +kernel
theorem dX9_goOn_97 : decode cX9_goOn 97 = .ok (.istore 5, 2) := by decide +kernel
theorem dX9_goOn_99 : decode cX9_goOn 99 = .ok (.aload_n 0, 1) := by decide +kernel
theorem dX9_goOn_100 : decode cX9_goOn 100 = .ok (.iload_n 1, 1) := by decide +kernel
theorem dX9_goOn_101 : decode cX9_goOn 101 = .ok (.iconst 1, 1) := by decide +kernel
theorem dX9_goOn_102 : decode cX9_goOn 102 = .ok (.iadd, 1) := by decide +kernel
theorem dX9_goOn_103 : decode cX9_goOn 103 = .ok (.iload_n 2, 1) := by decide +kernel
theorem dX9_goOn_104 : decode cX9_goOn 104 = .ok (.iconst 1, 1) := by decide +kernel
theorem dX9_goOn_105 : decode cX9_goOn 105 = .ok (.iload 4, 2) := by decide +kernel
theorem dX9_goOn_107 : decode cX9_goOn 107 = .ok (.ishl, 1) := by decide +kernel
theorem dX9_goOn_108 : decode cX9_goOn 108 = .ok (.iconst (-1), 1) := by decide +kernel
theorem dX9_goOn_109 : decode cX9_goOn 109 = .ok (.ixor, 1) := by decide +kernel
theorem dX9_goOn_110 : decode cX9_goOn 110 = .ok (.iand, 1) := by decide +kernel
theorem dX9_goOn_111 : decode cX9_goOn 111 = .ok (.iload_n 3, 1) := by decide +kernel
theorem dX9_goOn_112 : decode cX9_goOn 112 = .ok (.iload 5, 2) := by decide +kernel
theorem dX9_goOn_114 : decode cX9_goOn 114 = .ok (.iadd, 1) := by decide +kernel
theorem dX9_goOn_115 : decode cX9_goOn 115 = .ok (.invokestatic 26, 3) := by decide +kernel
theorem dX9_goOn_118 : decode cX9_goOn 118 = .ok (.iinc 4 1, 3) := by decide +kernel
theorem dX9_goOn_121 : decode cX9_goOn 121 = .ok (.goto (-70), 3) := by decide +kernel
theorem dX9_goOn_124 : decode cX9_goOn 124 = .ok (.return_, 1) := by decide +kernel
theorem dX9_priceBetween_0 : decode cX9_priceBetween 0 = .ok (.aload_n 0, 1) := by decide +kernel
theorem dX9_priceBetween_1 : decode cX9_priceBetween 1 = .ok (.getfield 18, 3) := by decide +kernel
theorem dX9_priceBetween_4 : decode cX9_priceBetween 4 = .ok (.getfield 40, 3) := by decide +kernel
theorem dX9_priceBetween_7 : decode cX9_priceBetween 7 = .ok (.iload_n 1, 1) := by decide +kernel
theorem dX9_priceBetween_8 : decode cX9_priceBetween 8 = .ok (.iaload, 1) := by decide +kernel
theorem dX9_priceBetween_9 : decode cX9_priceBetween 9 = .ok (.aload_n 0, 1) := by decide +kernel
theorem dX9_priceBetween_10 : decode cX9_priceBetween 10 = .ok (.getfield 18, 3) := by decide +kernel
theorem dX9_priceBetween_13 : decode cX9_priceBetween 13 = .ok (.getfield 40, 3) := by decide +kernel
theorem dX9_priceBetween_16 : decode cX9_priceBetween 16 = .ok (.iload_n 2, 1) := by decide +kernel
theorem dX9_priceBetween_17 : decode cX9_priceBetween 17 = .ok (.iaload, 1) := by decide +kernel
theorem dX9_priceBetween_18 : decode cX9_priceBetween 18 = .ok (.iconst (-1), 1) := by decide +kernel
theorem dX9_priceBetween_19 : decode cX9_priceBetween 19 = .ok (.ixor, 1) := by decide +kernel
theorem dX9_priceBetween_20 : decode cX9_priceBetween 20 = .ok (.iand, 1) := by decide +kernel
theorem dX9_priceBetween_21 : decode cX9_priceBetween 21 = .ok (.istore_n 3, 1) := by decide +kernel
theorem dX9_priceBetween_22 : decode cX9_priceBetween 22 = .ok (.iconst 0, 1) := by decide +kernel
theorem dX9_priceBetween_23 : decode cX9_priceBetween 23 = .ok (.istore 4, 2) := by decide +kernel
theorem dX9_priceBetween_25 : decode cX9_priceBetween 25 = .ok (.iconst 0, 1) := by decide +kernel
theorem dX9_priceBetween_26 : decode cX9_priceBetween 26 = .ok (.istore 5, 2) := by decide +kernel
theorem dX9_priceBetween_28 : decode cX9_priceBetween 28 = .ok (.iload 5, 2) := by decide +kernel
theorem dX9_priceBetween_30 : decode cX9_priceBetween 30 = .ok (.getstatic 45, 3) := by decide +kernel
theorem dX9_priceBetween_33 : decode cX9_priceBetween 33 = .ok (.arraylength, 1) := by decide +kernel
theorem dX9_priceBetween_34 : decode cX9_priceBetween 34 = .ok (.if_icmp .ge 29, 3) := by decide +kernel
theorem dX9_priceBetween_37 : decode cX9_priceBetween 37 = .ok (.iload_n 3, 1) := by decide +kernel
theorem dX9_priceBetween_38 : decode cX9_priceBetween 38 = .ok (.iload 5, 2) := by decide +kernel
theorem dX9_priceBetween_40 : decode cX9_priceBetween 40 = .ok (.ishr, 1) := by decide +kernel
theorem dX9_priceBetween_41 : decode cX9_priceBetween 41 = .ok (.iconst 1, 1) := by decide +kernel
theorem dX9_priceBetween_42 : decode cX9_priceBetween 42 = .ok (.iand, 1) := by decide +kernel
theorem dX9_priceBetween_43 : decode cX9_priceBetween 43 = .ok (.ifCond .eq 14, 3) := by decide +kernel
theorem dX9_priceBetween_46 : decode cX9_priceBetween 46 = .ok (.iload 4, 2) := by decide +kernel
theorem dX9_priceBetween_48 : decode cX9_priceBetween 48 = .ok (.getstatic 45, 3) := by decide +kernel
theorem dX9_priceBetween_51 : decode cX9_priceBetween 51 = .ok (.iload 5, 2) := by decide +kernel
theorem dX9_priceBetween_53 : decode cX9_priceBetween 53 = .ok (.iaload, 1) := by decide +kernel
theorem dX9_priceBetween_54 : decode cX9_priceBetween 54 = .ok (.iadd, 1) := by decide +kernel
theorem dX9_priceBetween_55 : decode cX9_priceBetween 55 = .ok (.istore 4, 2) := by decide +kernel
theorem dX9_priceBetween_57 : decode cX9_priceBetween 57 = .ok (.iinc 5 1, 3) := by decide +kernel
theorem dX9_priceBetween_60 : decode cX9_priceBetween 60 = .ok (.goto (-32), 3) := by decide +kernel
theorem dX9_priceBetween_63 : decode cX9_priceBetween 63 = .ok (.iload 4, 2) := by decide +kernel
theorem dX9_priceBetween_65 : decode cX9_priceBetween 65 = .ok (.ireturn, 1) := by decide +kernel
theorem dX10_init_0 : decode cX10_init 0 = .ok (.aload_n 0, 1) := by decide +kernel
theorem dX10_init_1 : decode cX10_init 1 = .ok (.invokespecial 3, 3) := by decide +kernel
theorem dX10_init_4 : decode cX10_init 4 = .ok (.aload_n 0, 1) := by decide +kernel
theorem dX10_init_5 : decode cX10_init 5 = .ok (.bipush 8, 2) := by decide +kernel
theorem dX10_init_7 : decode cX10_init 7 = .ok (.newarray .int, 2) := by decide +kernel
theorem dX10_init_9 : decode cX10_init 9 = .ok (.putfield 9, 3) := by decide +kernel
theorem dX10_init_12 : decode cX10_init 12 = .ok (.return_, 1) := by decide +kernel
theorem dX10_allGrams_0 : decode cX10_allGrams 0 = .ok (.iconst 0, 1) := by decide +kernel
theorem dX10_allGrams_1 : decode cX10_allGrams 1 = .ok (.istore_n 1, 1) := by decide +kernel
theorem dX10_allGrams_2 : decode cX10_allGrams 2 = .ok (.iconst 0, 1) := by decide +kernel
theorem dX10_allGrams_3 : decode cX10_allGrams 3 = .ok (.istore_n 2, 1) := by decide +kernel
theorem dX10_allGrams_4 : decode cX10_allGrams 4 = .ok (.iload_n 2, 1) := by decide +kernel
theorem dX10_allGrams_5 : decode cX10_allGrams 5 = .ok (.bipush 8, 2) := by decide +kernel
theorem dX10_allGrams_7 : decode cX10_allGrams 7 = .ok (.if_icmp .ge 18, 3) := by decide +kernel
theorem dX10_allGrams_10 : decode cX10_allGrams 10 = .ok (.iload_n 1, 1) := by decide +kernel
theorem dX10_allGrams_11 : decode cX10_allGrams 11 = .ok (.aload_n 0, 1) := by decide +kernel
theorem dX10_allGrams_12 : decode cX10_allGrams 12 = .ok (.getfield 9, 3) := by decide +kernel
theorem dX10_allGrams_15 : decode cX10_allGrams 15 = .ok (.iload_n 2, 1) := by decide +kernel
theorem dX10_allGrams_16 : decode cX10_allGrams 16 = .ok (.iaload, 1) := by decide +kernel
theorem dX10_allGrams_17 : decode cX10_allGrams 17 = .ok (.iadd, 1) := by decide +kernel
theorem dX10_allGrams_18 : decode cX10_allGrams 18 = .ok (.istore_n 1, 1) := by decide +kernel
theorem dX10_allGrams_19 : decode cX10_allGrams 19 = .ok (.iinc 2 1, 3) := by decide +kernel
theorem dX10_allGrams_22 : decode cX10_allGrams 22 = .ok (.goto (-18), 3) := by decide +kernel
theorem dX10_allGrams_25 : decode cX10_allGrams 25 = .ok (.iload_n 1, 1) := by decide +kernel
theorem dX10_allGrams_26 : decode cX10_allGrams 26 = .ok (.ireturn, 1) := by decide +kernel
theorem dX10_save_0 : decode cX10_save 0 = .ok (.aload_n 0, 1) := by decide +kernel
theorem dX10_save_1 : decode cX10_save 1 = .ok (.getfield 9, 3) := by decide +kernel
theorem dX10_save_4 : decode cX10_save 4 = .ok (.iconst 0, 1) := by decide +kernel
theorem dX10_save_5 : decode cX10_save 5 = .ok (.aload_n 1, 1) := by decide +kernel
theorem dX10_save_6 : decode cX10_save 6 = .ok (.iload_n 2, 1) := by decide +kernel
theorem dX10_save_7 : decode cX10_save 7 = .ok (.bipush 8, 2) := by decide +kernel
theorem dX10_save_9 : decode cX10_save 9 = .ok (.invokestatic 15, 3) := by decide +kernel
theorem dX10_save_12 : decode cX10_save 12 = .ok (.aload_n 1, 1) := by decide +kernel
theorem dX10_save_13 : decode cX10_save 13 = .ok (.iload_n 2, 1) := by decide +kernel
theorem dX10_save_14 : decode cX10_save 14 = .ok (.bipush 8, 2) := by decide +kernel
theorem dX10_save_16 : decode cX10_save 16 = .ok (.iadd, 1) := by decide +kernel
theorem dX10_save_17 : decode cX10_save 17 = .ok (.aload_n 0, 1) := by decide +kernel
theorem dX10_save_18 : decode cX10_save 18 = .ok (.getfield 21, 3) := by decide +kernel
theorem dX10_save_21 : decode cX10_save 21 = .ok (.iastore, 1) := by decide +kernel
theorem dX10_save_22 : decode cX10_save 22 = .ok (.aload_n 1, 1) := by decide +kernel
theorem dX10_save_23 : decode cX10_save 23 = .ok (.iload_n 2, 1) := by decide +kernel
theorem dX10_save_24 : decode cX10_save 24 = .ok (.bipush 8, 2) := by decide +kernel
theorem dX10_save_26 : decode cX10_save 26 = .ok (.iadd, 1) := by decide +kernel
theorem dX10_save_27 : decode cX10_save 27 = .ok (.iconst 1, 1) := by decide +kernel
theorem dX10_save_28 : decode cX10_save 28 = .ok (.iadd, 1) := by decide +kernel
theorem dX10_save_29 : decode cX10_save 29 = .ok (.aload_n 0, 1) := by decide +kernel
theorem dX10_save_30 : decode cX10_save 30 = .ok (.getfield 25, 3) := by decide +kernel
theorem dX10_save_33 : decode cX10_save 33 = .ok (.iastore, 1) := by decide +kernel
theorem dX10_save_34 : decode cX10_save 34 = .ok (.aload_n 1, 1) := by decide +kernel
theorem dX10_save_35 : decode cX10_save 35 = .ok (.iload_n 2, 1) := by decide +kernel
theorem dX10_save_36 : decode cX10_save 36 = .ok (.bipush 8, 2) := by decide +kernel
theorem dX10_save_38 : decode cX10_save 38 = .ok (.iadd, 1) := by decide +kernel
theorem dX10_save_39 : decode cX10_save 39 = .ok (.iconst 2, 1) := by decide +kernel
theorem dX10_save_40 : decode cX10_save 40 = .ok (.iadd, 1) := by decide +kernel
theorem dX10_save_41 : decode cX10_save 41 = .ok (.aload_n 0, 1) := by decide +kernel
theorem dX10_save_42 : decode cX10_save 42 = .ok (.getfield 28, 3) := by decide +kernel
theorem dX10_save_45 : decode cX10_save 45 = .ok (.iastore, 1) := by decide +kernel
theorem dX10_save_46 : decode cX10_save 46 = .ok (.iload_n 2, 1) := by decide +kernel
theorem dX10_save_47 : decode cX10_save 47 = .ok (.bipush 11, 2) := by decide +kernel
theorem dX10_save_49 : decode cX10_save 49 = .ok (.iadd, 1) := by decide +kernel
theorem dX10_save_50 : decode cX10_save 50 = .ok (.ireturn, 1) := by decide +kernel
theorem dX10_load_0 : decode cX10_load 0 = .ok (.aload_n 1, 1) := by decide +kernel
theorem dX10_load_1 : decode cX10_load 1 = .ok (.iload_n 2, 1) := by decide +kernel
theorem dX10_load_2 : decode cX10_load 2 = .ok (.aload_n 0, 1) := by decide +kernel
theorem dX10_load_3 : decode cX10_load 3 = .ok (.getfield 9, 3) := by decide +kernel
theorem dX10_load_6 : decode cX10_load 6 = .ok (.iconst 0, 1) := by decide +kernel
theorem dX10_load_7 : decode cX10_load 7 = .ok (.bipush 8, 2) := by decide +kernel
theorem dX10_load_9 : decode cX10_load 9 = .ok (.invokestatic 15, 3) := by decide +kernel
theorem dX10_load_12 : decode cX10_load 12 = .ok (.aload_n 0, 1) := by decide +kernel
theorem dX10_load_13 : decode cX10_load 13 = .ok (.aload_n 1, 1) := by decide +kernel
theorem dX10_load_14 : decode cX10_load 14 = .ok (.iload_n 2, 1) := by decide +kernel
theorem dX10_load_15 : decode cX10_load 15 = .ok (.bipush 8, 2) := by decide +kernel
theorem dX10_load_17 : decode cX10_load 17 = .ok (.iadd, 1) := by decide +kernel
theorem dX10_load_18 : decode cX10_load 18 = .ok (.iaload, 1) := by decide +kernel
theorem dX10_load_19 : decode cX10_load 19 = .ok (.putfield 21, 3) := by decide +kernel
theorem dX10_load_22 : decode cX10_load 22 = .ok (.aload_n 0, 1) := by decide +kernel
theorem dX10_load_23 : decode cX10_load 23 = .ok (.aload_n 1, 1) := by decide +kernel
theorem dX10_load_24 : decode cX10_load 24 = .ok (.iload_n 2, 1) := by decide +kernel
theorem dX10_load_25 : decode cX10_load 25 = .ok (.bipush 8, 2) := by decide +kernel
theorem dX10_load_27 : decode cX10_load 27 = .ok (.iadd, 1) := by decide +kernel
theorem dX10_load_28 : decode cX10_load 28 = .ok (.iconst 1, 1) := by decide +kernel
theorem dX10_load_29 : decode cX10_load 29 = .ok (.iadd, 1) := by decide +kernel
theorem dX10_load_30 : decode cX10_load 30 = .ok (.iaload, 1) := by decide +kernel
theorem dX10_load_31 : decode cX10_load 31 = .ok (.putfield 25, 3) := by decide +kernel
theorem dX10_load_34 : decode cX10_load 34 = .ok (.aload_n 0, 1) := by decide +kernel
theorem dX10_load_35 : decode cX10_load 35 = .ok (.aload_n 1, 1) := by decide +kernel
theorem dX10_load_36 : decode cX10_load 36 = .ok (.iload_n 2, 1) := by decide +kernel
theorem dX10_load_37 : decode cX10_load 37 = .ok (.bipush 8, 2) := by decide +kernel
theorem dX10_load_39 : decode cX10_load 39 = .ok (.iadd, 1) := by decide +kernel
theorem dX10_load_40 : decode cX10_load 40 = .ok (.iconst 2, 1) := by decide +kernel
theorem dX10_load_41 : decode cX10_load 41 = .ok (.iadd, 1) := by decide +kernel
theorem dX10_load_42 : decode cX10_load 42 = .ok (.iaload, 1) := by decide +kernel
theorem dX10_load_43 : decode cX10_load 43 = .ok (.putfield 28, 3) := by decide +kernel
theorem dX10_load_46 : decode cX10_load 46 = .ok (.iload_n 2, 1) := by decide +kernel
theorem dX10_load_47 : decode cX10_load 47 = .ok (.bipush 11, 2) := by decide +kernel
theorem dX10_load_49 : decode cX10_load 49 = .ok (.iadd, 1) := by decide +kernel
theorem dX10_load_50 : decode cX10_load 50 = .ok (.ireturn, 1) := by decide +kernel
theorem dX12_init_0 : decode cX12_init 0 = .ok (.aload_n 0, 1) := by decide +kernel
theorem dX12_init_1 : decode cX12_init 1 = .ok (.invokespecial 1, 3) := by decide +kernel
theorem dX12_init_4 : decode cX12_init 4 = .ok (.aload_n 0, 1) := by decide +kernel
theorem dX12_init_5 : decode cX12_init 5 = .ok (.bipush 17, 2) := by decide +kernel
theorem dX12_init_7 : decode cX12_init 7 = .ok (.putfield 7, 3) := by decide +kernel
theorem dX12_init_10 : decode cX12_init 10 = .ok (.aload_n 1, 1) := by decide +kernel
theorem dX12_init_11 : decode cX12_init 11 = .ok (.astore_n 2, 1) := by decide +kernel
theorem dX12_init_12 : decode cX12_init 12 = .ok (.aload_n 2, 1) := by decide +kernel
theorem dX12_init_13 : decode cX12_init 13 = .ok (.arraylength, 1) := by decide +kernel
theorem dX12_init_14 : decode cX12_init 14 = .ok (.istore_n 3, 1) := by decide +kernel
theorem dX12_init_15 : decode cX12_init 15 = .ok (.iconst 0, 1) := by decide +kernel
theorem dX12_init_16 : decode cX12_init 16 = .ok (.istore 4, 2) := by decide +kernel
theorem dX12_init_18 : decode cX12_init 18 = .ok (.iload 4, 2) := by decide +kernel
theorem dX12_init_20 : decode cX12_init 20 = .ok (.iload_n 3, 1) := by decide +kernel
theorem dX12_init_21 : decode cX12_init 21 = .ok (.if_icmp .ge 31, 3) := by decide +kernel
theorem dX12_init_24 : decode cX12_init 24 = .ok (.aload_n 2, 1) := by decide +kernel
theorem dX12_init_25 : decode cX12_init 25 = .ok (.iload 4, 2) := by decide +kernel
theorem dX12_init_27 : decode cX12_init 27 = .ok (.iaload, 1) := by decide +kernel
theorem dX12_init_28 : decode cX12_init 28 = .ok (.istore 5, 2) := by decide +kernel
theorem dX12_init_30 : decode cX12_init 30 = .ok (.aload_n 0, 1) := by decide +kernel
theorem dX12_init_31 : decode cX12_init 31 = .ok (.aload_n 0, 1) := by decide +kernel
theorem dX12_init_32 : decode cX12_init 32 = .ok (.getfield 7, 3) := by decide +kernel
theorem dX12_init_35 : decode cX12_init 35 = .ok (.iload 5, 2) := by decide +kernel
theorem dX12_init_37 : decode cX12_init 37 = .ok (.ixor, 1) := by decide +kernel
theorem dX12_init_38 : decode cX12_init 38 = .ok (.ldc 13, 2) := by decide +kernel
theorem dX12_init_40 : decode cX12_init 40 = .ok (.imul, 1) := by decide +kernel
theorem dX12_init_41 : decode cX12_init 41 = .ok (.iconst 1, 1) := by decide +kernel
theorem dX12_init_42 : decode cX12_init 42 = .ok (.iadd, 1) := by decide +kernel
theorem dX12_init_43 : decode cX12_init 43 = .ok (.putfield 7, 3) := by decide +kernel
theorem dX12_init_46 : decode cX12_init 46 = .ok (.iinc 4 1, 3) := by decide +kernel
theorem dX12_init_49 : decode cX12_init 49 = .ok (.goto (-31), 3) := by decide +kernel
theorem dX12_init_52 : decode cX12_init 52 = .ok (.return_, 1) := by decide +kernel
theorem dX12_next_0 : decode cX12_next 0 = .ok (.aload_n 0, 1) := by decide +kernel
theorem dX12_next_1 : decode cX12_next 1 = .ok (.aload_n 0, 1) := by decide +kernel
theorem dX12_next_2 : decode cX12_next 2 = .ok (.getfield 7, 3) := by decide +kernel
theorem dX12_next_5 : decode cX12_next 5 = .ok (.ldc 14, 2) := by decide +kernel
theorem dX12_next_7 : decode cX12_next 7 = .ok (.imul, 1) := by decide +kernel
theorem dX12_next_8 : decode cX12_next 8 = .ok (.sipush 12345, 3) := by decide +kernel
theorem dX12_next_11 : decode cX12_next 11 = .ok (.iadd, 1) := by decide +kernel
theorem dX12_next_12 : decode cX12_next 12 = .ok (.putfield 7, 3) := by decide +kernel
theorem dX12_next_15 : decode cX12_next 15 = .ok (.aload_n 0, 1) := by decide +kernel
theorem dX12_next_16 : decode cX12_next 16 = .ok (.getfield 7, 3) := by decide +kernel
theorem dX12_next_19 : decode cX12_next 19 = .ok (.bipush 16, 2) := by decide +kernel
theorem dX12_next_21 : decode cX12_next 21 = .ok (.iushr, 1) := by decide +kernel
theorem dX12_next_22 : decode cX12_next 22 = .ok (.iload_n 1, 1) := by decide +kernel
theorem dX12_next_23 : decode cX12_next 23 = .ok (.irem, 1) := by decide +kernel
theorem dX12_next_24 : decode cX12_next 24 = .ok (.ireturn, 1) := by decide +kernel
