theorem dX0_init_0 : decode cX0_init 0 = .ok (.aload_n 0, 1) := by decide +kernel
theorem dX0_init_1 : decode cX0_init 1 = .ok (.invokespecial 3, 3) := by decide +kernel
theorem dX0_init_4 : decode cX0_init 4 = .ok (.return_, 1) := by decide +kernel
theorem dX0_shorten_0 : decode cX0_shorten 0 = .ok (.aload_n 0, 1) := by decide +kernel
theorem dX0_shorten_1 : decode cX0_shorten 1 = .ok (.dup, 1) := by decide +kernel
theorem dX0_shorten_2 : decode cX0_shorten 2 = .ok (.getfield 9, 3) := by decide +kernel
theorem dX0_shorten_5 : decode cX0_shorten 5 = .ok (.iload_n 1, 1) := by decide +kernel
theorem dX0_shorten_6 : decode cX0_shorten 6 = .ok (.isub, 1) := by decide +kernel
theorem dX0_shorten_7 : decode cX0_shorten 7 = .ok (.putfield 9, 3) := by decide +kernel
theorem dX0_shorten_10 : decode cX0_shorten 10 = .ok (.aload_n 0, 1) := by decide +kernel
theorem dX0_shorten_11 : decode cX0_shorten 11 = .ok (.iconst 0, 1) := by decide +kernel
theorem dX0_shorten_12 : decode cX0_shorten 12 = .ok (.putfield 15, 3) := by decide +kernel
theorem dX0_shorten_15 : decode cX0_shorten 15 = .ok (.return_, 1) := by decide +kernel
theorem dX0_apples_0 : decode cX0_apples 0 = .ok (.aload_n 0, 1) := by decide +kernel
theorem dX0_apples_1 : decode cX0_apples 1 = .ok (.getfield 9, 3) := by decide +kernel
theorem dX0_apples_4 : decode cX0_apples 4 = .ok (.aload_n 0, 1) := by decide +kernel
theorem dX0_apples_5 : decode cX0_apples 5 = .ok (.getfield 19, 3) := by decide +kernel
theorem dX0_apples_8 : decode cX0_apples 8 = .ok (.imul, 1) := by decide +kernel
theorem dX0_apples_9 : decode cX0_apples 9 = .ok (.istore_n 1, 1) := by decide +kernel
theorem dX0_apples_10 : decode cX0_apples 10 = .ok (.aload_n 0, 1) := by decide +kernel
theorem dX0_apples_11 : decode cX0_apples 11 = .ok (.getfield 15, 3) := by decide +kernel
theorem dX0_apples_14 : decode cX0_apples 14 = .ok (.ifCond .eq 9, 3) := by decide +kernel
theorem dX0_apples_17 : decode cX0_apples 17 = .ok (.iload_n 1, 1) := by decide +kernel
theorem dX0_apples_18 : decode cX0_apples 18 = .ok (.iconst 4, 1) := by decide +kernel
theorem dX0_apples_19 : decode cX0_apples 19 = .ok (.idiv, 1) := by decide +kernel
theorem dX0_apples_20 : decode cX0_apples 20 = .ok (.goto 4, 3) := by decide +kernel
theorem dX0_apples_23 : decode cX0_apples 23 = .ok (.iload_n 1, 1) := by decide +kernel
theorem dX0_apples_24 : decode cX0_apples 24 = .ok (.ireturn, 1) := by decide +kernel
set_option maxRecDepth 20000 in
theorem ggX0_liveYear_X0_freeze : GoodIn wsX0_liveYear wsX0_freeze := goodIn_r _ [6, 7, 8, 9, 10, 11, 12, 25, 26, 27, 28] (by decide +kernel) (by decide +kernel)
set_option maxRecDepth 20000 in
theorem gX0_liveYear_X0_freeze : GoodIn wsX0_liveYear (wsV RX0 22 RX0 yX0_freeze wsX0_freeze) := goodIn_app (goodIn_of _ (by decide +kernel)) ggX0_liveYear_X0_freeze
set_option maxRecDepth 20000 in
theorem ggX0_liveYear_X0_apples : GoodIn wsX0_liveYear wsX0_apples := goodIn_r _ [16, 12, 17, 1, 25, 26, 27, 28] (by decide +kernel) (by decide +kernel)
set_option maxRecDepth 20000 in
theorem gX0_liveYear_X0_apples : GoodIn wsX0_liveYear (wsV RX0 26 RX0 yX0_apples wsX0_apples) := goodIn_app (goodIn_of _ (by decide +kernel)) ggX0_liveYear_X0_apples
set_option maxRecDepth 20000 in
theorem ggX0_liveYear_X0_grow : GoodIn wsX0_liveYear wsX0_grow := goodIn_r _ [21, 17, 12, 22, 23, 10, 24, 25, 26, 27, 28] (by decide +kernel) (by decide +kernel)
set_option maxRecDepth 20000 in
theorem gX0_liveYear_X0_grow : GoodIn wsX0_liveYear (wsV RX0 30 RX0 yX0_grow wsX0_grow) := goodIn_app (goodIn_of _ (by decide +kernel)) ggX0_liveYear_X0_grow
theorem dX0_liveYear_0 : decode cX0_liveYear 0 = .ok (.aload_n 0, 1) := by decide +kernel
theorem dX0_liveYear_1 : decode cX0_liveYear 1 = .ok (.iload_n 1, 1) := by decide +kernel
theorem dX0_liveYear_2 : decode cX0_liveYear 2 = .ok (.invokevirtual 22, 3) := by decide +kernel
theorem dX0_liveYear_5 : decode cX0_liveYear 5 = .ok (.aload_n 0, 1) := by decide +kernel
theorem dX0_liveYear_6 : decode cX0_liveYear 6 = .ok (.invokevirtual 26, 3) := by decide +kernel
theorem dX0_liveYear_9 : decode cX0_liveYear 9 = .ok (.istore_n 2, 1) := by decide +kernel
theorem dX0_liveYear_10 : decode cX0_liveYear 10 = .ok (.aload_n 0, 1) := by decide +kernel
theorem dX0_liveYear_11 : decode cX0_liveYear 11 = .ok (.iload_n 2, 1) := by decide +kernel
theorem dX0_liveYear_12 : decode cX0_liveYear 12 = .ok (.bipush 20, 2) := by decide +kernel
theorem dX0_liveYear_14 : decode cX0_liveYear 14 = .ok (.if_icmp .lt 7, 3) := by decide +kernel
theorem dX0_liveYear_17 : decode cX0_liveYear 17 = .ok (.iconst 1, 1) := by decide +kernel
theorem dX0_liveYear_18 : decode cX0_liveYear 18 = .ok (.goto 4, 3) := by decide +kernel
theorem dX0_liveYear_21 : decode cX0_liveYear 21 = .ok (.iconst 0, 1) := by decide +kernel
theorem dX0_liveYear_22 : decode cX0_liveYear 22 = .ok (.putfield 15, 3) := by decide +kernel
theorem dX0_liveYear_25 : decode cX0_liveYear 25 = .ok (.aload_n 0, 1) := by decide +kernel
theorem dX0_liveYear_26 : decode cX0_liveYear 26 = .ok (.invokevirtual 30, 3) := by decide +kernel
theorem dX0_liveYear_29 : decode cX0_liveYear 29 = .ok (.iload_n 2, 1) := by decide +kernel
theorem dX0_liveYear_30 : decode cX0_liveYear 30 = .ok (.ireturn, 1) := by decide +kernel
theorem dX0_freeze_0 : decode cX0_freeze 0 = .ok (.iconst 0, 1) := by decide +kernel
theorem dX0_freeze_1 : decode cX0_freeze 1 = .ok (.iload_n 1, 1) := by decide +kernel
theorem dX0_freeze_2 : decode cX0_freeze 2 = .ok (.aload_n 0, 1) := by decide +kernel
theorem dX0_freeze_3 : decode cX0_freeze 3 = .ok (.getfield 33, 3) := by decide +kernel
theorem dX0_freeze_6 : decode cX0_freeze 6 = .ok (.isub, 1) := by decide +kernel
theorem dX0_freeze_7 : decode cX0_freeze 7 = .ok (.invokestatic 36, 3) := by decide +kernel
theorem dX0_freeze_10 : decode cX0_freeze 10 = .ok (.istore_n 2, 1) := by decide +kernel
theorem dX0_freeze_11 : decode cX0_freeze 11 = .ok (.aload_n 0, 1) := by decide +kernel
theorem dX0_freeze_12 : decode cX0_freeze 12 = .ok (.iconst 0, 1) := by decide +kernel
theorem dX0_freeze_13 : decode cX0_freeze 13 = .ok (.aload_n 0, 1) := by decide +kernel
theorem dX0_freeze_14 : decode cX0_freeze 14 = .ok (.getfield 9, 3) := by decide +kernel
theorem dX0_freeze_17 : decode cX0_freeze 17 = .ok (.iload_n 2, 1) := by decide +kernel
theorem dX0_freeze_18 : decode cX0_freeze 18 = .ok (.isub, 1) := by decide +kernel
theorem dX0_freeze_19 : decode cX0_freeze 19 = .ok (.invokestatic 36, 3) := by decide +kernel
theorem dX0_freeze_22 : decode cX0_freeze 22 = .ok (.putfield 9, 3) := by decide +kernel
theorem dX0_freeze_25 : decode cX0_freeze 25 = .ok (.return_, 1) := by decide +kernel
theorem dX0_grow_0 : decode cX0_grow 0 = .ok (.aload_n 0, 1) := by decide +kernel
theorem dX0_grow_1 : decode cX0_grow 1 = .ok (.getfield 19, 3) := by decide +kernel
theorem dX0_grow_4 : decode cX0_grow 4 = .ok (.bipush 7, 2) := by decide +kernel
theorem dX0_grow_6 : decode cX0_grow 6 = .ok (.if_icmp .lt 7, 3) := by decide +kernel
theorem dX0_grow_9 : decode cX0_grow 9 = .ok (.iconst 2, 1) := by decide +kernel
theorem dX0_grow_10 : decode cX0_grow 10 = .ok (.goto 4, 3) := by decide +kernel
theorem dX0_grow_13 : decode cX0_grow 13 = .ok (.iconst 1, 1) := by decide +kernel
theorem dX0_grow_14 : decode cX0_grow 14 = .ok (.istore_n 1, 1) := by decide +kernel
theorem dX0_grow_15 : decode cX0_grow 15 = .ok (.aload_n 0, 1) := by decide +kernel
theorem dX0_grow_16 : decode cX0_grow 16 = .ok (.bipush 9, 2) := by decide +kernel
theorem dX0_grow_18 : decode cX0_grow 18 = .ok (.aload_n 0, 1) := by decide +kernel
theorem dX0_grow_19 : decode cX0_grow 19 = .ok (.getfield 9, 3) := by decide +kernel
theorem dX0_grow_22 : decode cX0_grow 22 = .ok (.iload_n 1, 1) := by decide +kernel
theorem dX0_grow_23 : decode cX0_grow 23 = .ok (.iadd, 1) := by decide +kernel
theorem dX0_grow_24 : decode cX0_grow 24 = .ok (.invokestatic 42, 3) := by decide +kernel
theorem dX0_grow_27 : decode cX0_grow 27 = .ok (.putfield 9, 3) := by decide +kernel
theorem dX0_grow_30 : decode cX0_grow 30 = .ok (.return_, 1) := by decide +kernel
set_option maxRecDepth 20000 in
theorem ggX1_init_X0_init : GoodIn wsX1_init wsX0_init := goodIn_r _ [23, 24, 2, 3] (by decide +kernel) (by decide +kernel)
set_option maxRecDepth 20000 in
theorem gX1_init_X0_init_n47 : GoodIn wsX1_init (wsX0_init) := ggX1_init_X0_init
set_option maxRecDepth 20000 in
theorem ggX1_init_J7_fill_53178 : GoodIn wsX1_init wsJ7_fill_53178 := goodIn_r _ [28] (by decide +kernel) (by decide +kernel)
set_option maxRecDepth 20000 in
theorem gX1_init_J7_fill_53178 : GoodIn wsX1_init (va_wsS RX1 55 yJ7_fill_53178 wsJ7_fill_53178) := goodIn_app (goodIn_of _ (by decide +kernel)) ggX1_init_J7_fill_53178
theorem dX1_init_0 : decode cX1_init 0 = .ok (.aload_n 0, 1) := by decide +kernel
theorem dX1_init_1 : decode cX1_init 1 = .ok (.invokespecial 1, 3) := by decide +kernel
theorem dX1_init_4 : decode cX1_init 4 = .ok (.aload_n 0, 1) := by decide +kernel
theorem dX1_init_5 : decode cX1_init 5 = .ok (.bipush 6, 2) := by decide +kernel
theorem dX1_init_7 : decode cX1_init 7 = .ok (.newarray .int, 2) := by decide +kernel
theorem dX1_init_9 : decode cX1_init 9 = .ok (.putfield 9, 3) := by decide +kernel
theorem dX1_init_12 : decode cX1_init 12 = .ok (.aload_n 0, 1) := by decide +kernel
theorem dX1_init_13 : decode cX1_init 13 = .ok (.bipush 6, 2) := by decide +kernel
theorem dX1_init_15 : decode cX1_init 15 = .ok (.newarray .int, 2) := by decide +kernel
theorem dX1_init_17 : decode cX1_init 17 = .ok (.putfield 13, 3) := by decide +kernel
theorem dX1_init_20 : decode cX1_init 20 = .ok (.aload_n 0, 1) := by decide +kernel
theorem dX1_init_21 : decode cX1_init 21 = .ok (.bipush 6, 2) := by decide +kernel
theorem dX1_init_23 : decode cX1_init 23 = .ok (.newarray .int, 2) := by decide +kernel
theorem dX1_init_25 : decode cX1_init 25 = .ok (.putfield 16, 3) := by decide +kernel
theorem dX1_init_28 : decode cX1_init 28 = .ok (.aload_n 0, 1) := by decide +kernel
theorem dX1_init_29 : decode cX1_init 29 = .ok (.bipush 10, 2) := by decide +kernel
theorem dX1_init_31 : decode cX1_init 31 = .ok (.newarray .int, 2) := by decide +kernel
theorem dX1_init_33 : decode cX1_init 33 = .ok (.putfield 19, 3) := by decide +kernel
theorem dX1_init_36 : decode cX1_init 36 = .ok (.aload_n 0, 1) := by decide +kernel
theorem dX1_init_37 : decode cX1_init 37 = .ok (.bipush 40, 2) := by decide +kernel
theorem dX1_init_39 : decode cX1_init 39 = .ok (.newarray .int, 2) := by decide +kernel
theorem dX1_init_41 : decode cX1_init 41 = .ok (.putfield 22, 3) := by decide +kernel
theorem dX1_init_44 : decode cX1_init 44 = .ok (.aload_n 0, 1) := by decide +kernel
theorem dX1_init_45 : decode cX1_init 45 = .ok (.bipush 40, 2) := by decide +kernel
theorem dX1_init_47 : decode cX1_init 47 = .ok (.newarray .int, 2) := by decide +kernel
theorem dX1_init_49 : decode cX1_init 49 = .ok (.putfield 25, 3) := by decide +kernel
theorem dX1_init_52 : decode cX1_init 52 = .ok (.aload_n 0, 1) := by decide +kernel
theorem dX1_init_53 : decode cX1_init 53 = .ok (.bipush 40, 2) := by decide +kernel
theorem dX1_init_55 : decode cX1_init 55 = .ok (.newarray .int, 2) := by decide +kernel
theorem dX1_init_57 : decode cX1_init 57 = .ok (.putfield 28, 3) := by decide +kernel
theorem dX1_init_60 : decode cX1_init 60 = .ok (.aload_n 0, 1) := by decide +kernel
theorem dX1_init_61 : decode cX1_init 61 = .ok (.bipush 40, 2) := by decide +kernel
theorem dX1_init_63 : decode cX1_init 63 = .ok (.newarray .boolean, 2) := by decide +kernel
theorem dX1_init_65 : decode cX1_init 65 = .ok (.putfield 31, 3) := by decide +kernel
theorem dX1_init_68 : decode cX1_init 68 = .ok (.aload_n 0, 1) := by decide +kernel
theorem dX1_init_69 : decode cX1_init 69 = .ok (.iconst 2, 1) := by decide +kernel
theorem dX1_init_70 : decode cX1_init 70 = .ok (.newarray .int, 2) := by decide +kernel
theorem dX1_init_72 : decode cX1_init 72 = .ok (.putfield 35, 3) := by decide +kernel
theorem dX1_init_75 : decode cX1_init 75 = .ok (.aload_n 0, 1) := by decide +kernel
theorem dX1_init_76 : decode cX1_init 76 = .ok (.iconst 0, 1) := by decide +kernel
theorem dX1_init_77 : decode cX1_init 77 = .ok (.putfield 38, 3) := by decide +kernel
theorem dX1_init_80 : decode cX1_init 80 = .ok (.aload_n 0, 1) := by decide +kernel
theorem dX1_init_81 : decode cX1_init 81 = .ok (.iconst 0, 1) := by decide +kernel
theorem dX1_init_82 : decode cX1_init 82 = .ok (.putfield 42, 3) := by decide +kernel
theorem dX1_init_85 : decode cX1_init 85 = .ok (.aload_n 0, 1) := by decide +kernel
theorem dX1_init_86 : decode cX1_init 86 = .ok (.new 45, 3) := by decide +kernel
theorem dX1_init_89 : decode cX1_init 89 = .ok (.dup, 1) := by decide +kernel
theorem dX1_init_90 : decode cX1_init 90 = .ok (.invokespecial 47, 3) := by decide +kernel
theorem dX1_init_93 : decode cX1_init 93 = .ok (.putfield 48, 3) := by decide +kernel
theorem dX1_init_96 : decode cX1_init 96 = .ok (.aload_n 0, 1) := by decide +kernel
theorem dX1_init_97 : decode cX1_init 97 = .ok (.sipush 541, 3) := by decide +kernel
theorem dX1_init_100 : decode cX1_init 100 = .ok (.newarray .int, 2) := by decide +kernel
theorem dX1_init_102 : decode cX1_init 102 = .ok (.putfield 52, 3) := by decide +kernel
theorem dX1_init_105 : decode cX1_init 105 = .ok (.aload_n 0, 1) := by decide +kernel
theorem dX1_init_106 : decode cX1_init 106 = .ok (.getfield 9, 3) := by decide +kernel
theorem dX1_init_109 : decode cX1_init 109 = .ok (.iconst 3, 1) := by decide +kernel
theorem dX1_init_110 : decode cX1_init 110 = .ok (.invokestatic 55, 3) := by decide +kernel
theorem dX1_init_113 : decode cX1_init 113 = .ok (.aload_n 0, 1) := by decide +kernel
theorem dX1_init_114 : decode cX1_init 114 = .ok (.getfield 13, 3) := by decide +kernel
theorem dX1_init_117 : decode cX1_init 117 = .ok (.iconst 4, 1) := by decide +kernel
theorem dX1_init_118 : decode cX1_init 118 = .ok (.invokestatic 55, 3) := by decide +kernel
theorem dX1_init_121 : decode cX1_init 121 = .ok (.aload_n 0, 1) := by decide +kernel
theorem dX1_init_122 : decode cX1_init 122 = .ok (.getfield 22, 3) := by decide +kernel
theorem dX1_init_125 : decode cX1_init 125 = .ok (.iconst (-1), 1) := by decide +kernel
theorem dX1_init_126 : decode cX1_init 126 = .ok (.invokestatic 55, 3) := by decide +kernel
theorem dX1_init_129 : decode cX1_init 129 = .ok (.aload_n 0, 1) := by decide +kernel
theorem dX1_init_130 : decode cX1_init 130 = .ok (.getfield 35, 3) := by decide +kernel
theorem dX1_init_133 : decode cX1_init 133 = .ok (.bipush 20, 2) := by decide +kernel
theorem dX1_init_135 : decode cX1_init 135 = .ok (.invokestatic 55, 3) := by decide +kernel
theorem dX1_init_138 : decode cX1_init 138 = .ok (.return_, 1) := by decide +kernel
set_option maxRecDepth 20000 in
theorem ggX1_setSort_X1_isSort : GoodIn wsX1_setSort wsX1_isSort := goodIn_r _ [10, 11, 12, 9, 13] (by decide +kernel) (by decide +kernel)
set_option maxRecDepth 20000 in
theorem gX1_setSort_X1_isSort : GoodIn wsX1_setSort (va_wsS RX1 61 yX1_isSort wsX1_isSort) := goodIn_app (goodIn_of _ (by decide +kernel)) ggX1_setSort_X1_isSort
set_option maxRecDepth 20000 in
theorem ggX1_setSort_X1_isWithin : GoodIn wsX1_setSort wsX1_isWithin := goodIn_r _ [13] (by decide +kernel) (by decide +kernel)
set_option maxRecDepth 20000 in
theorem gX1_setSort_X1_isWithin : GoodIn wsX1_setSort (va_wsS RX1 72 yX1_isWithin wsX1_isWithin) := goodIn_app (goodIn_of _ (by decide +kernel)) ggX1_setSort_X1_isWithin
theorem dX1_setSort_0 : decode cX1_setSort 0 = .ok (.iload_n 1, 1) := by decide +kernel
theorem dX1_setSort_1 : decode cX1_setSort 1 = .ok (.invokestatic 61, 3) := by decide +kernel
theorem dX1_setSort_4 : decode cX1_setSort 4 = .ok (.ifCond .ne 13, 3) := by decide +kernel
theorem dX1_setSort_7 : decode cX1_setSort 7 = .ok (.new 65, 3) := by decide +kernel
theorem dX1_setSort_10 : decode cX1_setSort 10 = .ok (.dup, 1) := by decide +kernel
theorem dX1_setSort_11 : decode cX1_setSort 11 = .ok (.ldc 67, 2) := by decide +kernel
theorem dX1_setSort_13 : decode cX1_setSort 13 = .ok (.invokespecial 69, 3) := by decide +kernel
theorem dX1_setSort_16 : decode cX1_setSort 16 = .ok (.athrow, 1) := by decide +kernel
theorem dX1_setSort_17 : decode cX1_setSort 17 = .ok (.iload_n 2, 1) := by decide +kernel
theorem dX1_setSort_18 : decode cX1_setSort 18 = .ok (.iconst 1, 1) := by decide +kernel
theorem dX1_setSort_19 : decode cX1_setSort 19 = .ok (.bipush 9, 2) := by decide +kernel
theorem dX1_setSort_21 : decode cX1_setSort 21 = .ok (.invokestatic 72, 3) := by decide +kernel
theorem dX1_setSort_24 : decode cX1_setSort 24 = .ok (.ifCond .eq 13, 3) := by decide +kernel
theorem dX1_setSort_27 : decode cX1_setSort 27 = .ok (.iload_n 3, 1) := by decide +kernel
theorem dX1_setSort_28 : decode cX1_setSort 28 = .ok (.iconst 0, 1) := by decide +kernel
theorem dX1_setSort_29 : decode cX1_setSort 29 = .ok (.bipush 9, 2) := by decide +kernel
theorem dX1_setSort_31 : decode cX1_setSort 31 = .ok (.invokestatic 72, 3) := by decide +kernel
theorem dX1_setSort_34 : decode cX1_setSort 34 = .ok (.ifCond .ne 13, 3) := by decide +kernel
theorem dX1_setSort_37 : decode cX1_setSort 37 = .ok (.new 76, 3) := by decide +kernel
theorem dX1_setSort_40 : decode cX1_setSort 40 = .ok (.dup, 1) := by decide +kernel
theorem dX1_setSort_41 : decode cX1_setSort 41 = .ok (.ldc 78, 2) := by decide +kernel
theorem dX1_setSort_43 : decode cX1_setSort 43 = .ok (.invokespecial 80, 3) := by decide +kernel
theorem dX1_setSort_46 : decode cX1_setSort 46 = .ok (.athrow, 1) := by decide +kernel
theorem dX1_setSort_47 : decode cX1_setSort 47 = .ok (.bipush 10, 2) := by decide +kernel
theorem dX1_setSort_49 : decode cX1_setSort 49 = .ok (.aload_n 0, 1) := by decide +kernel
theorem dX1_setSort_50 : decode cX1_setSort 50 = .ok (.getfield 9, 3) := by decide +kernel
theorem dX1_setSort_53 : decode cX1_setSort 53 = .ok (.iload_n 1, 1) := by decide +kernel
theorem dX1_setSort_54 : decode cX1_setSort 54 = .ok (.iaload, 1) := by decide +kernel
theorem dX1_setSort_55 : decode cX1_setSort 55 = .ok (.imul, 1) := by decide +kernel
theorem dX1_setSort_56 : decode cX1_setSort 56 = .ok (.aload_n 0, 1) := by decide +kernel
theorem dX1_setSort_57 : decode cX1_setSort 57 = .ok (.getfield 13, 3) := by decide +kernel
theorem dX1_setSort_60 : decode cX1_setSort 60 = .ok (.iload_n 1, 1) := by decide +kernel
theorem dX1_setSort_61 : decode cX1_setSort 61 = .ok (.iaload, 1) := by decide +kernel
theorem dX1_setSort_62 : decode cX1_setSort 62 = .ok (.iadd, 1) := by decide +kernel
theorem dX1_setSort_63 : decode cX1_setSort 63 = .ok (.istore 4, 2) := by decide +kernel
theorem dX1_setSort_65 : decode cX1_setSort 65 = .ok (.aload_n 0, 1) := by decide +kernel
theorem dX1_setSort_66 : decode cX1_setSort 66 = .ok (.getfield 9, 3) := by decide +kernel
theorem dX1_setSort_69 : decode cX1_setSort 69 = .ok (.iload_n 1, 1) := by decide +kernel
theorem dX1_setSort_70 : decode cX1_setSort 70 = .ok (.iload_n 2, 1) := by decide +kernel
theorem dX1_setSort_71 : decode cX1_setSort 71 = .ok (.iastore, 1) := by decide +kernel
theorem dX1_setSort_72 : decode cX1_setSort 72 = .ok (.aload_n 0, 1) := by decide +kernel
theorem dX1_setSort_73 : decode cX1_setSort 73 = .ok (.getfield 13, 3) := by decide +kernel
theorem dX1_setSort_76 : decode cX1_setSort 76 = .ok (.iload_n 1, 1) := by decide +kernel
theorem dX1_setSort_77 : decode cX1_setSort 77 = .ok (.iload_n 3, 1) := by decide +kernel
theorem dX1_setSort_78 : decode cX1_setSort 78 = .ok (.iastore, 1) := by decide +kernel
theorem dX1_setSort_79 : decode cX1_setSort 79 = .ok (.iload 4, 2) := by decide +kernel
theorem dX1_setSort_81 : decode cX1_setSort 81 = .ok (.ireturn, 1) := by decide +kernel
set_option maxRecDepth 20000 in
theorem ggX1_setFrost_X1_isWithin : GoodIn wsX1_setFrost wsX1_isWithin := goodIn_r _ [9] (by decide +kernel) (by decide +kernel)
set_option maxRecDepth 20000 in
theorem gX1_setFrost_X1_isWithin : GoodIn wsX1_setFrost (va_wsS RX1 72 yX1_isWithin wsX1_isWithin) := goodIn_app (goodIn_of _ (by decide +kernel)) ggX1_setFrost_X1_isWithin
theorem dX1_setFrost_0 : decode cX1_setFrost 0 = .ok (.iload_n 1, 1) := by decide +kernel
theorem dX1_setFrost_1 : decode cX1_setFrost 1 = .ok (.iconst 0, 1) := by decide +kernel
theorem dX1_setFrost_2 : decode cX1_setFrost 2 = .ok (.bipush 9, 2) := by decide +kernel
theorem dX1_setFrost_4 : decode cX1_setFrost 4 = .ok (.invokestatic 72, 3) := by decide +kernel
theorem dX1_setFrost_7 : decode cX1_setFrost 7 = .ok (.ifCond .ne 13, 3) := by decide +kernel
theorem dX1_setFrost_10 : decode cX1_setFrost 10 = .ok (.new 65, 3) := by decide +kernel
theorem dX1_setFrost_13 : decode cX1_setFrost 13 = .ok (.dup, 1) := by decide +kernel
theorem dX1_setFrost_14 : decode cX1_setFrost 14 = .ok (.ldc 81, 2) := by decide +kernel
theorem dX1_setFrost_16 : decode cX1_setFrost 16 = .ok (.invokespecial 69, 3) := by decide +kernel
theorem dX1_setFrost_19 : decode cX1_setFrost 19 = .ok (.athrow, 1) := by decide +kernel
theorem dX1_setFrost_20 : decode cX1_setFrost 20 = .ok (.iload_n 2, 1) := by decide +kernel
theorem dX1_setFrost_21 : decode cX1_setFrost 21 = .ok (.iconst 0, 1) := by decide +kernel
theorem dX1_setFrost_22 : decode cX1_setFrost 22 = .ok (.bipush 9, 2) := by decide +kernel
theorem dX1_setFrost_24 : decode cX1_setFrost 24 = .ok (.invokestatic 72, 3) := by decide +kernel
theorem dX1_setFrost_27 : decode cX1_setFrost 27 = .ok (.ifCond .ne 13, 3) := by decide +kernel
theorem dX1_setFrost_30 : decode cX1_setFrost 30 = .ok (.new 76, 3) := by decide +kernel
theorem dX1_setFrost_33 : decode cX1_setFrost 33 = .ok (.dup, 1) := by decide +kernel
theorem dX1_setFrost_34 : decode cX1_setFrost 34 = .ok (.ldc 83, 2) := by decide +kernel
theorem dX1_setFrost_36 : decode cX1_setFrost 36 = .ok (.invokespecial 80, 3) := by decide +kernel
theorem dX1_setFrost_39 : decode cX1_setFrost 39 = .ok (.athrow, 1) := by decide +kernel
theorem dX1_setFrost_40 : decode cX1_setFrost 40 = .ok (.aload_n 0, 1) := by decide +kernel
theorem dX1_setFrost_41 : decode cX1_setFrost 41 = .ok (.getfield 19, 3) := by decide +kernel
theorem dX1_setFrost_44 : decode cX1_setFrost 44 = .ok (.iload_n 1, 1) := by decide +kernel
theorem dX1_setFrost_45 : decode cX1_setFrost 45 = .ok (.iaload, 1) := by decide +kernel
theorem dX1_setFrost_46 : decode cX1_setFrost 46 = .ok (.istore_n 3, 1) := by decide +kernel
theorem dX1_setFrost_47 : decode cX1_setFrost 47 = .ok (.aload_n 0, 1) := by decide +kernel
theorem dX1_setFrost_48 : decode cX1_setFrost 48 = .ok (.getfield 19, 3) := by decide +kernel
theorem dX1_setFrost_51 : decode cX1_setFrost 51 = .ok (.iload_n 1, 1) := by decide +kernel
theorem dX1_setFrost_52 : decode cX1_setFrost 52 = .ok (.iload_n 2, 1) := by decide +kernel
theorem dX1_setFrost_53 : decode cX1_setFrost 53 = .ok (.iastore, 1) := by decide +kernel
theorem dX1_setFrost_54 : decode cX1_setFrost 54 = .ok (.iload_n 3, 1) := by decide +kernel
theorem dX1_setFrost_55 : decode cX1_setFrost 55 = .ok (.ireturn, 1) := by decide +kernel
set_option maxRecDepth 20000 in
theorem ggX1_plant_X1_isPlace : GoodIn wsX1_plant wsX1_isPlace := goodIn_r _ [8, 9, 10, 7, 11] (by decide +kernel) (by decide +kernel)
set_option maxRecDepth 20000 in
theorem gX1_plant_X1_isPlace : GoodIn wsX1_plant (va_wsS RX1 85 yX1_isPlace wsX1_isPlace) := goodIn_app (goodIn_of _ (by decide +kernel)) ggX1_plant_X1_isPlace
set_option maxRecDepth 20000 in
theorem ggX1_plant_X1_isSort : GoodIn wsX1_plant wsX1_isSort := goodIn_r _ [14, 9, 10, 7, 11] (by decide +kernel) (by decide +kernel)
set_option maxRecDepth 20000 in
theorem gX1_plant_X1_isSort : GoodIn wsX1_plant (va_wsS RX1 61 yX1_isSort wsX1_isSort) := goodIn_app (goodIn_of _ (by decide +kernel)) ggX1_plant_X1_isSort
set_option maxRecDepth 20000 in
theorem ggX1_plant_X1_isWithin : GoodIn wsX1_plant wsX1_isWithin := goodIn_r _ [11] (by decide +kernel) (by decide +kernel)
set_option maxRecDepth 20000 in
theorem gX1_plant_X1_isWithin : GoodIn wsX1_plant (va_wsS RX1 72 yX1_isWithin wsX1_isWithin) := goodIn_app (goodIn_of _ (by decide +kernel)) ggX1_plant_X1_isWithin
set_option maxRecDepth 20000 in
theorem ggX1_plant_X1_spotOf : GoodIn wsX1_plant wsX1_spotOf := goodIn_r _ [17] (by decide +kernel) (by decide +kernel)
set_option maxRecDepth 20000 in
theorem gX1_plant_X1_spotOf : GoodIn wsX1_plant (va_wsS RX1 93 yX1_spotOf wsX1_spotOf) := goodIn_app (goodIn_of _ (by decide +kernel)) ggX1_plant_X1_spotOf
set_option maxRecDepth 20000 in
theorem ggX1_plant_X1_plantAt : GoodIn wsX1_plant wsX1_plantAt := goodIn_r _ [21, 22, 23, 24, 25, 26, 27, 28, 7, 29, 30, 31, 32, 33, 34, 35, 36, 37, 38, 39, 40, 41, 48, 49, 50, 51, 52, 53, 54, 55, 56, 57, 58, 59, 60] (by decide +kernel) (by decide +kernel)
set_option maxRecDepth 20000 in
theorem gX1_plant_X1_plantAt : GoodIn wsX1_plant (wsV RX1 97 RX1 yX1_plantAt wsX1_plantAt) := goodIn_app (goodIn_of _ (by decide +kernel)) ggX1_plant_X1_plantAt
set_option maxRecDepth 20000 in
theorem ggX1_plant_X1_mirrorOf : GoodIn wsX1_plant wsX1_mirrorOf := goodIn_r _ [44] (by decide +kernel) (by decide +kernel)
set_option maxRecDepth 20000 in
theorem gX1_plant_X1_mirrorOf : GoodIn wsX1_plant (va_wsS RX1 100 yX1_mirrorOf wsX1_mirrorOf) := goodIn_app (goodIn_of _ (by decide +kernel)) ggX1_plant_X1_mirrorOf
set_option maxRecDepth 20000 in
theorem ggX1_plant_X1_whoDidIt : GoodIn wsX1_plant wsX1_whoDidIt := goodIn_r _ [47] (by decide +kernel) (by decide +kernel)
set_option maxRecDepth 20000 in
theorem gX1_plant_X1_whoDidIt : GoodIn wsX1_plant (va_wsS RX1 104 yX1_whoDidIt wsX1_whoDidIt) := goodIn_app (goodIn_of _ (by decide +kernel)) ggX1_plant_X1_whoDidIt
theorem dX1_plant_0 : decode cX1_plant 0 = .ok (.iload_n 1, 1) := by decide +kernel
theorem dX1_plant_1 : decode cX1_plant 1 = .ok (.iload_n 2, 1) := by decide +kernel
theorem dX1_plant_2 : decode cX1_plant 2 = .ok (.invokestatic 85, 3) := by decide +kernel
theorem dX1_plant_5 : decode cX1_plant 5 = .ok (.ifCond .ne 13, 3) := by decide +kernel
theorem dX1_plant_8 : decode cX1_plant 8 = .ok (.new 65, 3) := by decide +kernel
theorem dX1_plant_11 : decode cX1_plant 11 = .ok (.dup, 1) := by decide +kernel
theorem dX1_plant_12 : decode cX1_plant 12 = .ok (.ldc 89, 2) := by decide +kernel
theorem dX1_plant_14 : decode cX1_plant 14 = .ok (.invokespecial 69, 3) := by decide +kernel
theorem dX1_plant_17 : decode cX1_plant 17 = .ok (.athrow, 1) := by decide +kernel
theorem dX1_plant_18 : decode cX1_plant 18 = .ok (.iload_n 3, 1) := by decide +kernel
theorem dX1_plant_19 : decode cX1_plant 19 = .ok (.invokestatic 61, 3) := by decide +kernel
theorem dX1_plant_22 : decode cX1_plant 22 = .ok (.ifCond .eq 14, 3) := by decide +kernel
theorem dX1_plant_25 : decode cX1_plant 25 = .ok (.iload 4, 2) := by decide +kernel
theorem dX1_plant_27 : decode cX1_plant 27 = .ok (.iconst 1, 1) := by decide +kernel
theorem dX1_plant_28 : decode cX1_plant 28 = .ok (.bipush 9, 2) := by decide +kernel
theorem dX1_plant_30 : decode cX1_plant 30 = .ok (.invokestatic 72, 3) := by decide +kernel
theorem dX1_plant_33 : decode cX1_plant 33 = .ok (.ifCond .ne 13, 3) := by decide +kernel
theorem dX1_plant_36 : decode cX1_plant 36 = .ok (.new 76, 3) := by decide +kernel
theorem dX1_plant_39 : decode cX1_plant 39 = .ok (.dup, 1) := by decide +kernel
theorem dX1_plant_40 : decode cX1_plant 40 = .ok (.ldc 91, 2) := by decide +kernel
theorem dX1_plant_42 : decode cX1_plant 42 = .ok (.invokespecial 80, 3) := by decide +kernel
theorem dX1_plant_45 : decode cX1_plant 45 = .ok (.athrow, 1) := by decide +kernel
theorem dX1_plant_46 : decode cX1_plant 46 = .ok (.iload_n 1, 1) := by decide +kernel
theorem dX1_plant_47 : decode cX1_plant 47 = .ok (.iload_n 2, 1) := by decide +kernel
theorem dX1_plant_48 : decode cX1_plant 48 = .ok (.invokestatic 93, 3) := by decide +kernel
theorem dX1_plant_51 : decode cX1_plant 51 = .ok (.istore 5, 2) := by decide +kernel
theorem dX1_plant_53 : decode cX1_plant 53 = .ok (.aload_n 0, 1) := by decide +kernel
theorem dX1_plant_54 : decode cX1_plant 54 = .ok (.iload 5, 2) := by decide +kernel
theorem dX1_plant_56 : decode cX1_plant 56 = .ok (.iload_n 3, 1) := by decide +kernel
theorem dX1_plant_57 : decode cX1_plant 57 = .ok (.iload 4, 2) := by decide +kernel
theorem dX1_plant_59 : decode cX1_plant 59 = .ok (.invokevirtual 97, 3) := by decide +kernel
theorem dX1_plant_62 : decode cX1_plant 62 = .ok (.istore 6, 2) := by decide +kernel
theorem dX1_plant_64 : decode cX1_plant 64 = .ok (.aload_n 0, 1) := by decide +kernel
theorem dX1_plant_65 : decode cX1_plant 65 = .ok (.iload 5, 2) := by decide +kernel
theorem dX1_plant_67 : decode cX1_plant 67 = .ok (.invokestatic 100, 3) := by decide +kernel
theorem dX1_plant_70 : decode cX1_plant 70 = .ok (.iload_n 3, 1) := by decide +kernel
theorem dX1_plant_71 : decode cX1_plant 71 = .ok (.iload 4, 2) := by decide +kernel
theorem dX1_plant_73 : decode cX1_plant 73 = .ok (.invokevirtual 97, 3) := by decide +kernel
theorem dX1_plant_76 : decode cX1_plant 76 = .ok (.istore 7, 2) := by decide +kernel
theorem dX1_plant_78 : decode cX1_plant 78 = .ok (.iload 6, 2) := by decide +kernel
theorem dX1_plant_80 : decode cX1_plant 80 = .ok (.iload 7, 2) := by decide +kernel
theorem dX1_plant_82 : decode cX1_plant 82 = .ok (.invokestatic 104, 3) := by decide +kernel
theorem dX1_plant_85 : decode cX1_plant 85 = .ok (.ireturn, 1) := by decide +kernel
set_option maxRecDepth 20000 in
theorem ggX1_prune_X1_isPlace : GoodIn wsX1_prune wsX1_isPlace := goodIn_r _ [8, 9, 10, 7, 11] (by decide +kernel) (by decide +kernel)
set_option maxRecDepth 20000 in
theorem gX1_prune_X1_isPlace : GoodIn wsX1_prune (va_wsS RX1 85 yX1_isPlace wsX1_isPlace) := goodIn_app (goodIn_of _ (by decide +kernel)) ggX1_prune_X1_isPlace
set_option maxRecDepth 20000 in
theorem ggX1_prune_X1_isWithin : GoodIn wsX1_prune wsX1_isWithin := goodIn_r _ [11] (by decide +kernel) (by decide +kernel)
set_option maxRecDepth 20000 in
theorem gX1_prune_X1_isWithin : GoodIn wsX1_prune (va_wsS RX1 72 yX1_isWithin wsX1_isWithin) := goodIn_app (goodIn_of _ (by decide +kernel)) ggX1_prune_X1_isWithin
set_option maxRecDepth 20000 in
theorem ggX1_prune_X1_spotOf : GoodIn wsX1_prune wsX1_spotOf := goodIn_r _ [14] (by decide +kernel) (by decide +kernel)
set_option maxRecDepth 20000 in
theorem gX1_prune_X1_spotOf : GoodIn wsX1_prune (va_wsS RX1 93 yX1_spotOf wsX1_spotOf) := goodIn_app (goodIn_of _ (by decide +kernel)) ggX1_prune_X1_spotOf
set_option maxRecDepth 20000 in
theorem ggX1_prune_X1_pruneAt : GoodIn wsX1_prune wsX1_pruneAt := goodIn_r _ [18, 19, 20, 21, 22, 7, 23, 24, 25, 26, 27, 28, 29, 30, 31, 32, 33, 34, 35, 36, 37, 38, 39, 40, 41, 42, 43, 44, 45, 46, 47, 48, 49, 50, 51, 52, 53, 54, 55, 56, 57, 58, 65, 66, 67, 68, 69, 70, 71, 72, 73, 74, 75, 76, 77, 78, 79, 80, 81] (by decide +kernel) (by decide +kernel)
set_option maxRecDepth 20000 in
theorem gX1_prune_X1_pruneAt : GoodIn wsX1_prune (wsV RX1 110 RX1 yX1_pruneAt wsX1_pruneAt) := goodIn_app (goodIn_of _ (by decide +kernel)) ggX1_prune_X1_pruneAt
set_option maxRecDepth 20000 in
theorem ggX1_prune_X1_mirrorOf : GoodIn wsX1_prune wsX1_mirrorOf := goodIn_r _ [61] (by decide +kernel) (by decide +kernel)
set_option maxRecDepth 20000 in
theorem gX1_prune_X1_mirrorOf : GoodIn wsX1_prune (va_wsS RX1 100 yX1_mirrorOf wsX1_mirrorOf) := goodIn_app (goodIn_of _ (by decide +kernel)) ggX1_prune_X1_mirrorOf
set_option maxRecDepth 20000 in
theorem ggX1_prune_X1_whoDidIt : GoodIn wsX1_prune wsX1_whoDidIt := goodIn_r _ [64] (by decide +kernel) (by decide +kernel)
set_option maxRecDepth 20000 in
theorem gX1_prune_X1_whoDidIt : GoodIn wsX1_prune (va_wsS RX1 104 yX1_whoDidIt wsX1_whoDidIt) := goodIn_app (goodIn_of _ (by decide +kernel)) ggX1_prune_X1_whoDidIt
theorem dX1_prune_0 : decode cX1_prune 0 = .ok (.iload_n 1, 1) := by decide +kernel
theorem dX1_prune_1 : decode cX1_prune 1 = .ok (.iload_n 2, 1) := by decide +kernel
theorem dX1_prune_2 : decode cX1_prune 2 = .ok (.invokestatic 85, 3) := by decide +kernel
theorem dX1_prune_5 : decode cX1_prune 5 = .ok (.ifCond .ne 13, 3) := by decide +kernel
theorem dX1_prune_8 : decode cX1_prune 8 = .ok (.new 65, 3) := by decide +kernel
theorem dX1_prune_11 : decode cX1_prune 11 = .ok (.dup, 1) := by decide +kernel
theorem dX1_prune_12 : decode cX1_prune 12 = .ok (.ldc 89, 2) := by decide +kernel
theorem dX1_prune_14 : decode cX1_prune 14 = .ok (.invokespecial 69, 3) := by decide +kernel
theorem dX1_prune_17 : decode cX1_prune 17 = .ok (.athrow, 1) := by decide +kernel
theorem dX1_prune_18 : decode cX1_prune 18 = .ok (.iload_n 3, 1) := by decide +kernel
theorem dX1_prune_19 : decode cX1_prune 19 = .ok (.iconst 1, 1) := by decide +kernel
theorem dX1_prune_20 : decode cX1_prune 20 = .ok (.bipush 9, 2) := by decide +kernel
theorem dX1_prune_22 : decode cX1_prune 22 = .ok (.invokestatic 72, 3) := by decide +kernel
theorem dX1_prune_25 : decode cX1_prune 25 = .ok (.ifCond .ne 13, 3) := by decide +kernel
theorem dX1_prune_28 : decode cX1_prune 28 = .ok (.new 76, 3) := by decide +kernel
theorem dX1_prune_31 : decode cX1_prune 31 = .ok (.dup, 1) := by decide +kernel
theorem dX1_prune_32 : decode cX1_prune 32 = .ok (.ldc 108, 2) := by decide +kernel
theorem dX1_prune_34 : decode cX1_prune 34 = .ok (.invokespecial 80, 3) := by decide +kernel
theorem dX1_prune_37 : decode cX1_prune 37 = .ok (.athrow, 1) := by decide +kernel
theorem dX1_prune_38 : decode cX1_prune 38 = .ok (.iload_n 1, 1) := by decide +kernel
theorem dX1_prune_39 : decode cX1_prune 39 = .ok (.iload_n 2, 1) := by decide +kernel
theorem dX1_prune_40 : decode cX1_prune 40 = .ok (.invokestatic 93, 3) := by decide +kernel
theorem dX1_prune_43 : decode cX1_prune 43 = .ok (.istore 4, 2) := by decide +kernel
theorem dX1_prune_45 : decode cX1_prune 45 = .ok (.aload_n 0, 1) := by decide +kernel
theorem dX1_prune_46 : decode cX1_prune 46 = .ok (.iload 4, 2) := by decide +kernel
theorem dX1_prune_48 : decode cX1_prune 48 = .ok (.iload_n 3, 1) := by decide +kernel
theorem dX1_prune_49 : decode cX1_prune 49 = .ok (.invokevirtual 110, 3) := by decide +kernel
theorem dX1_prune_52 : decode cX1_prune 52 = .ok (.istore 5, 2) := by decide +kernel
theorem dX1_prune_54 : decode cX1_prune 54 = .ok (.aload_n 0, 1) := by decide +kernel
theorem dX1_prune_55 : decode cX1_prune 55 = .ok (.iload 4, 2) := by decide +kernel
theorem dX1_prune_57 : decode cX1_prune 57 = .ok (.invokestatic 100, 3) := by decide +kernel
theorem dX1_prune_60 : decode cX1_prune 60 = .ok (.iload_n 3, 1) := by decide +kernel
theorem dX1_prune_61 : decode cX1_prune 61 = .ok (.invokevirtual 110, 3) := by decide +kernel
theorem dX1_prune_64 : decode cX1_prune 64 = .ok (.istore 6, 2) := by decide +kernel
theorem dX1_prune_66 : decode cX1_prune 66 = .ok (.iload 5, 2) := by decide +kernel
theorem dX1_prune_68 : decode cX1_prune 68 = .ok (.iload 6, 2) := by decide +kernel
theorem dX1_prune_70 : decode cX1_prune 70 = .ok (.invokestatic 104, 3) := by decide +kernel
theorem dX1_prune_73 : decode cX1_prune 73 = .ok (.ireturn, 1) := by decide +kernel
set_option maxRecDepth 20000 in
theorem ggX1_graft_X1_isPlace : GoodIn wsX1_graft wsX1_isPlace := goodIn_r _ [8, 9, 10, 7, 11] (by decide +kernel) (by decide +kernel)
set_option maxRecDepth 20000 in
theorem gX1_graft_X1_isPlace : GoodIn wsX1_graft (va_wsS RX1 85 yX1_isPlace wsX1_isPlace) := goodIn_app (goodIn_of _ (by decide +kernel)) ggX1_graft_X1_isPlace
set_option maxRecDepth 20000 in
theorem ggX1_graft_X1_isSort : GoodIn wsX1_graft wsX1_isSort := goodIn_r _ [14, 9, 10, 7, 11] (by decide +kernel) (by decide +kernel)
set_option maxRecDepth 20000 in
theorem gX1_graft_X1_isSort : GoodIn wsX1_graft (va_wsS RX1 61 yX1_isSort wsX1_isSort) := goodIn_app (goodIn_of _ (by decide +kernel)) ggX1_graft_X1_isSort
set_option maxRecDepth 20000 in
theorem ggX1_graft_X1_spotOf : GoodIn wsX1_graft wsX1_spotOf := goodIn_r _ [17] (by decide +kernel) (by decide +kernel)
set_option maxRecDepth 20000 in
theorem gX1_graft_X1_spotOf : GoodIn wsX1_graft (va_wsS RX1 93 yX1_spotOf wsX1_spotOf) := goodIn_app (goodIn_of _ (by decide +kernel)) ggX1_graft_X1_spotOf
set_option maxRecDepth 20000 in
theorem ggX1_graft_X1_graftAt : GoodIn wsX1_graft wsX1_graftAt := goodIn_r _ [21, 22, 23, 24, 25, 26, 27, 28, 29, 30, 7, 31, 32, 33, 34, 35, 36, 37, 38, 39, 40, 41, 42, 43, 50, 51, 52, 53, 54, 55, 56, 57, 58, 59, 60, 61, 62] (by decide +kernel) (by decide +kernel)
set_option maxRecDepth 20000 in
theorem gX1_graft_X1_graftAt : GoodIn wsX1_graft (wsV RX1 113 RX1 yX1_graftAt wsX1_graftAt) := goodIn_app (goodIn_of _ (by decide +kernel)) ggX1_graft_X1_graftAt
set_option maxRecDepth 20000 in
theorem ggX1_graft_X1_mirrorOf : GoodIn wsX1_graft wsX1_mirrorOf := goodIn_r _ [46] (by decide +kernel) (by decide +kernel)
set_option maxRecDepth 20000 in
theorem gX1_graft_X1_mirrorOf : GoodIn wsX1_graft (va_wsS RX1 100 yX1_mirrorOf wsX1_mirrorOf) := goodIn_app (goodIn_of _ (by decide +kernel)) ggX1_graft_X1_mirrorOf
set_option maxRecDepth 20000 in
theorem ggX1_graft_X1_whoDidIt : GoodIn wsX1_graft wsX1_whoDidIt := goodIn_r _ [49] (by decide +kernel) (by decide +kernel)
set_option maxRecDepth 20000 in
theorem gX1_graft_X1_whoDidIt : GoodIn wsX1_graft (va_wsS RX1 104 yX1_whoDidIt wsX1_whoDidIt) := goodIn_app (goodIn_of _ (by decide +kernel)) ggX1_graft_X1_whoDidIt
theorem dX1_graft_0 : decode cX1_graft 0 = .ok (.iload_n 1, 1) := by decide +kernel
theorem dX1_graft_1 : decode cX1_graft 1 = .ok (.iload_n 2, 1) := by decide +kernel
theorem dX1_graft_2 : decode cX1_graft 2 = .ok (.invokestatic 85, 3) := by decide +kernel
theorem dX1_graft_5 : decode cX1_graft 5 = .ok (.ifCond .ne 13, 3) := by decide +kernel
theorem dX1_graft_8 : decode cX1_graft 8 = .ok (.new 65, 3) := by decide +kernel
theorem dX1_graft_11 : decode cX1_graft 11 = .ok (.dup, 1) := by decide +kernel
theorem dX1_graft_12 : decode cX1_graft 12 = .ok (.ldc 89, 2) := by decide +kernel
theorem dX1_graft_14 : decode cX1_graft 14 = .ok (.invokespecial 69, 3) := by decide +kernel
theorem dX1_graft_17 : decode cX1_graft 17 = .ok (.athrow, 1) := by decide +kernel
theorem dX1_graft_18 : decode cX1_graft 18 = .ok (.iload_n 3, 1) := by decide +kernel
theorem dX1_graft_19 : decode cX1_graft 19 = .ok (.invokestatic 61, 3) := by decide +kernel
theorem dX1_graft_22 : decode cX1_graft 22 = .ok (.ifCond .ne 13, 3) := by decide +kernel
theorem dX1_graft_25 : decode cX1_graft 25 = .ok (.new 76, 3) := by decide +kernel
theorem dX1_graft_28 : decode cX1_graft 28 = .ok (.dup, 1) := by decide +kernel
theorem dX1_graft_29 : decode cX1_graft 29 = .ok (.ldc 67, 2) := by decide +kernel
theorem dX1_graft_31 : decode cX1_graft 31 = .ok (.invokespecial 80, 3) := by decide +kernel
theorem dX1_graft_34 : decode cX1_graft 34 = .ok (.athrow, 1) := by decide +kernel
theorem dX1_graft_35 : decode cX1_graft 35 = .ok (.iload_n 1, 1) := by decide +kernel
theorem dX1_graft_36 : decode cX1_graft 36 = .ok (.iload_n 2, 1) := by decide +kernel
theorem dX1_graft_37 : decode cX1_graft 37 = .ok (.invokestatic 93, 3) := by decide +kernel
theorem dX1_graft_40 : decode cX1_graft 40 = .ok (.istore 4, 2) := by decide +kernel
theorem dX1_graft_42 : decode cX1_graft 42 = .ok (.aload_n 0, 1) := by decide +kernel
theorem dX1_graft_43 : decode cX1_graft 43 = .ok (.iload 4, 2) := by decide +kernel
theorem dX1_graft_45 : decode cX1_graft 45 = .ok (.iload_n 3, 1) := by decide +kernel
theorem dX1_graft_46 : decode cX1_graft 46 = .ok (.invokevirtual 113, 3) := by decide +kernel
theorem dX1_graft_49 : decode cX1_graft 49 = .ok (.istore 5, 2) := by decide +kernel
theorem dX1_graft_51 : decode cX1_graft 51 = .ok (.aload_n 0, 1) := by decide +kernel
theorem dX1_graft_52 : decode cX1_graft 52 = .ok (.iload 4, 2) := by decide +kernel
theorem dX1_graft_54 : decode cX1_graft 54 = .ok (.invokestatic 100, 3) := by decide +kernel
theorem dX1_graft_57 : decode cX1_graft 57 = .ok (.iload_n 3, 1) := by decide +kernel
theorem dX1_graft_58 : decode cX1_graft 58 = .ok (.invokevirtual 113, 3) := by decide +kernel
theorem dX1_graft_61 : decode cX1_graft 61 = .ok (.istore 6, 2) := by decide +kernel
theorem dX1_graft_63 : decode cX1_graft 63 = .ok (.iload 5, 2) := by decide +kernel
theorem dX1_graft_65 : decode cX1_graft 65 = .ok (.iload 6, 2) := by decide +kernel
theorem dX1_graft_67 : decode cX1_graft 67 = .ok (.invokestatic 104, 3) := by decide +kernel
theorem dX1_graft_70 : decode cX1_graft 70 = .ok (.ireturn, 1) := by decide +kernel
set_option maxRecDepth 20000 in
theorem ggX1_fell_X1_isPlace : GoodIn wsX1_fell wsX1_isPlace := goodIn_r _ [6, 7, 8, 5, 9] (by decide +kernel) (by decide +kernel)
set_option maxRecDepth 20000 in
theorem gX1_fell_X1_isPlace : GoodIn wsX1_fell (va_wsS RX1 85 yX1_isPlace wsX1_isPlace) := goodIn_app (goodIn_of _ (by decide +kernel)) ggX1_fell_X1_isPlace
set_option maxRecDepth 20000 in
theorem ggX1_fell_X1_spotOf : GoodIn wsX1_fell wsX1_spotOf := goodIn_r _ [12] (by decide +kernel) (by decide +kernel)
set_option maxRecDepth 20000 in
theorem gX1_fell_X1_spotOf : GoodIn wsX1_fell (va_wsS RX1 93 yX1_spotOf wsX1_spotOf) := goodIn_app (goodIn_of _ (by decide +kernel)) ggX1_fell_X1_spotOf
set_option maxRecDepth 20000 in
theorem ggX1_fell_X1_fellAt : GoodIn wsX1_fell wsX1_fellAt := goodIn_r _ [16, 17, 18, 19, 20, 21, 22, 23, 5, 24, 25, 26, 27, 28, 29, 30, 31, 32, 33, 34, 35, 36, 43, 44, 45, 46, 47, 48, 49, 50, 51, 52, 53, 54, 55] (by decide +kernel) (by decide +kernel)
set_option maxRecDepth 20000 in
theorem gX1_fell_X1_fellAt : GoodIn wsX1_fell (wsV RX1 116 RX1 yX1_fellAt wsX1_fellAt) := goodIn_app (goodIn_of _ (by decide +kernel)) ggX1_fell_X1_fellAt
set_option maxRecDepth 20000 in
theorem ggX1_fell_X1_mirrorOf : GoodIn wsX1_fell wsX1_mirrorOf := goodIn_r _ [39] (by decide +kernel) (by decide +kernel)
set_option maxRecDepth 20000 in
theorem gX1_fell_X1_mirrorOf : GoodIn wsX1_fell (va_wsS RX1 100 yX1_mirrorOf wsX1_mirrorOf) := goodIn_app (goodIn_of _ (by decide +kernel)) ggX1_fell_X1_mirrorOf
set_option maxRecDepth 20000 in
theorem ggX1_fell_X1_whoDidIt : GoodIn wsX1_fell wsX1_whoDidIt := goodIn_r _ [42] (by decide +kernel) (by decide +kernel)
set_option maxRecDepth 20000 in
theorem gX1_fell_X1_whoDidIt : GoodIn wsX1_fell (va_wsS RX1 104 yX1_whoDidIt wsX1_whoDidIt) := goodIn_app (goodIn_of _ (by decide +kernel)) ggX1_fell_X1_whoDidIt
theorem dX1_fell_0 : decode cX1_fell 0 = .ok (.iload_n 1, 1) := by decide +kernel
theorem dX1_fell_1 : decode cX1_fell 1 = .ok (.iload_n 2, 1) := by decide +kernel
theorem dX1_fell_2 : decode cX1_fell 2 = .ok (.invokestatic 85, 3) := by decide +kernel
theorem dX1_fell_5 : decode cX1_fell 5 = .ok (.ifCond .ne 13, 3) := by decide +kernel
theorem dX1_fell_8 : decode cX1_fell 8 = .ok (.new 65, 3) := by decide +kernel
theorem dX1_fell_11 : decode cX1_fell 11 = .ok (.dup, 1) := by decide +kernel
theorem dX1_fell_12 : decode cX1_fell 12 = .ok (.ldc 89, 2) := by decide +kernel
theorem dX1_fell_14 : decode cX1_fell 14 = .ok (.invokespecial 69, 3) := by decide +kernel
theorem dX1_fell_17 : decode cX1_fell 17 = .ok (.athrow, 1) := by decide +kernel
theorem dX1_fell_18 : decode cX1_fell 18 = .ok (.iload_n 1, 1) := by decide +kernel
theorem dX1_fell_19 : decode cX1_fell 19 = .ok (.iload_n 2, 1) := by decide +kernel
theorem dX1_fell_20 : decode cX1_fell 20 = .ok (.invokestatic 93, 3) := by decide +kernel
theorem dX1_fell_23 : decode cX1_fell 23 = .ok (.istore_n 3, 1) := by decide +kernel
theorem dX1_fell_24 : decode cX1_fell 24 = .ok (.aload_n 0, 1) := by decide +kernel
theorem dX1_fell_25 : decode cX1_fell 25 = .ok (.iload_n 3, 1) := by decide +kernel
theorem dX1_fell_26 : decode cX1_fell 26 = .ok (.invokevirtual 116, 3) := by decide +kernel
theorem dX1_fell_29 : decode cX1_fell 29 = .ok (.istore 4, 2) := by decide +kernel
theorem dX1_fell_31 : decode cX1_fell 31 = .ok (.aload_n 0, 1) := by decide +kernel
theorem dX1_fell_32 : decode cX1_fell 32 = .ok (.iload_n 3, 1) := by decide +kernel
theorem dX1_fell_33 : decode cX1_fell 33 = .ok (.invokestatic 100, 3) := by decide +kernel
theorem dX1_fell_36 : decode cX1_fell 36 = .ok (.invokevirtual 116, 3) := by decide +kernel
theorem dX1_fell_39 : decode cX1_fell 39 = .ok (.istore 5, 2) := by decide +kernel
theorem dX1_fell_41 : decode cX1_fell 41 = .ok (.iload 4, 2) := by decide +kernel
theorem dX1_fell_43 : decode cX1_fell 43 = .ok (.iload 5, 2) := by decide +kernel
theorem dX1_fell_45 : decode cX1_fell 45 = .ok (.invokestatic 104, 3) := by decide +kernel
theorem dX1_fell_48 : decode cX1_fell 48 = .ok (.ireturn, 1) := by decide +kernel
set_option maxRecDepth 20000 in
theorem ggX1_tree_X1_isPlace : GoodIn wsX1_tree wsX1_isPlace := goodIn_r _ [10, 11, 12, 9, 13] (by decide +kernel) (by decide +kernel)
set_option maxRecDepth 20000 in
theorem gX1_tree_X1_isPlace : GoodIn wsX1_tree (va_wsS RX1 85 yX1_isPlace wsX1_isPlace) := goodIn_app (goodIn_of _ (by decide +kernel)) ggX1_tree_X1_isPlace
set_option maxRecDepth 20000 in
theorem ggX1_tree_X1_isWithin : GoodIn wsX1_tree wsX1_isWithin := goodIn_r _ [13] (by decide +kernel) (by decide +kernel)
set_option maxRecDepth 20000 in
theorem gX1_tree_X1_isWithin : GoodIn wsX1_tree (va_wsS RX1 72 yX1_isWithin wsX1_isWithin) := goodIn_app (goodIn_of _ (by decide +kernel)) ggX1_tree_X1_isWithin
set_option maxRecDepth 20000 in
theorem ggX1_tree_X1_spotOf : GoodIn wsX1_tree wsX1_spotOf := goodIn_r _ [16] (by decide +kernel) (by decide +kernel)
set_option maxRecDepth 20000 in
theorem gX1_tree_X1_spotOf : GoodIn wsX1_tree (va_wsS RX1 93 yX1_spotOf wsX1_spotOf) := goodIn_app (goodIn_of _ (by decide +kernel)) ggX1_tree_X1_spotOf
set_option maxRecDepth 20000 in
theorem ggX1_tree_X1_hasTree : GoodIn wsX1_tree wsX1_hasTree := goodIn_r _ [20, 5, 38, 39, 40, 41, 42, 43, 44, 45, 46, 47, 48, 49, 50] (by decide +kernel) (by decide +kernel)
set_option maxRecDepth 20000 in
theorem gX1_tree_X1_hasTree : GoodIn wsX1_tree (wsV RX1 121 RX1 yX1_hasTree wsX1_hasTree) := goodIn_app (goodIn_of _ (by decide +kernel)) ggX1_tree_X1_hasTree
set_option maxRecDepth 20000 in
theorem ggX1_tree_X1_applesNow : GoodIn wsX1_tree wsX1_applesNow := goodIn_r _ [24, 25, 26, 27, 28, 9, 29, 4, 3, 6, 30, 5, 17, 18, 19, 20, 31, 32, 33, 34, 35, 36, 37, 38, 39, 40, 41, 42, 43, 44, 45, 46, 47, 48, 49, 50, 51, 52, 53, 54] (by decide +kernel) (by decide +kernel)
set_option maxRecDepth 20000 in
theorem gX1_tree_X1_applesNow : GoodIn wsX1_tree (wsV RX1 124 RX1 yX1_applesNow wsX1_applesNow) := goodIn_app (goodIn_of _ (by decide +kernel)) ggX1_tree_X1_applesNow
theorem dX1_tree_0 : decode cX1_tree 0 = .ok (.iload_n 1, 1) := by decide +kernel
theorem dX1_tree_1 : decode cX1_tree 1 = .ok (.iload_n 2, 1) := by decide +kernel
theorem dX1_tree_2 : decode cX1_tree 2 = .ok (.invokestatic 85, 3) := by decide +kernel
theorem dX1_tree_5 : decode cX1_tree 5 = .ok (.ifCond .eq 12, 3) := by decide +kernel
theorem dX1_tree_8 : decode cX1_tree 8 = .ok (.iload_n 3, 1) := by decide +kernel
theorem dX1_tree_9 : decode cX1_tree 9 = .ok (.iconst 0, 1) := by decide +kernel
theorem dX1_tree_10 : decode cX1_tree 10 = .ok (.iconst 5, 1) := by decide +kernel
theorem dX1_tree_11 : decode cX1_tree 11 = .ok (.invokestatic 72, 3) := by decide +kernel
theorem dX1_tree_14 : decode cX1_tree 14 = .ok (.ifCond .ne 13, 3) := by decide +kernel
theorem dX1_tree_17 : decode cX1_tree 17 = .ok (.new 65, 3) := by decide +kernel
theorem dX1_tree_20 : decode cX1_tree 20 = .ok (.dup, 1) := by decide +kernel
theorem dX1_tree_21 : decode cX1_tree 21 = .ok (.ldc 119, 2) := by decide +kernel
theorem dX1_tree_23 : decode cX1_tree 23 = .ok (.invokespecial 69, 3) := by decide +kernel
theorem dX1_tree_26 : decode cX1_tree 26 = .ok (.athrow, 1) := by decide +kernel
theorem dX1_tree_27 : decode cX1_tree 27 = .ok (.iload_n 1, 1) := by decide +kernel
theorem dX1_tree_28 : decode cX1_tree 28 = .ok (.iload_n 2, 1) := by decide +kernel
theorem dX1_tree_29 : decode cX1_tree 29 = .ok (.invokestatic 93, 3) := by decide +kernel
theorem dX1_tree_32 : decode cX1_tree 32 = .ok (.istore 4, 2) := by decide +kernel
theorem dX1_tree_34 : decode cX1_tree 34 = .ok (.iload_n 3, 1) := by decide +kernel
theorem dX1_tree_35 : decode cX1_tree 35 = .ok (.tableswitch 88 0 4 #[33, 48, 56, 64, 72], 33) := by decide +kernel
theorem dX1_tree_68 : decode cX1_tree 68 = .ok (.aload_n 0, 1) := by decide +kernel
theorem dX1_tree_69 : decode cX1_tree 69 = .ok (.iload 4, 2) := by decide +kernel
theorem dX1_tree_71 : decode cX1_tree 71 = .ok (.invokevirtual 121, 3) := by decide +kernel
theorem dX1_tree_74 : decode cX1_tree 74 = .ok (.ifCond .eq 7, 3) := by decide +kernel
theorem dX1_tree_77 : decode cX1_tree 77 = .ok (.iconst 1, 1) := by decide +kernel
theorem dX1_tree_78 : decode cX1_tree 78 = .ok (.goto 4, 3) := by decide +kernel
theorem dX1_tree_81 : decode cX1_tree 81 = .ok (.iconst 0, 1) := by decide +kernel
theorem dX1_tree_82 : decode cX1_tree 82 = .ok (.ireturn, 1) := by decide +kernel
theorem dX1_tree_83 : decode cX1_tree 83 = .ok (.aload_n 0, 1) := by decide +kernel
theorem dX1_tree_84 : decode cX1_tree 84 = .ok (.getfield 25, 3) := by decide +kernel
theorem dX1_tree_87 : decode cX1_tree 87 = .ok (.iload 4, 2) := by decide +kernel
theorem dX1_tree_89 : decode cX1_tree 89 = .ok (.iaload, 1) := by decide +kernel
theorem dX1_tree_90 : decode cX1_tree 90 = .ok (.ireturn, 1) := by decide +kernel
theorem dX1_tree_91 : decode cX1_tree 91 = .ok (.aload_n 0, 1) := by decide +kernel
theorem dX1_tree_92 : decode cX1_tree 92 = .ok (.getfield 28, 3) := by decide +kernel
theorem dX1_tree_95 : decode cX1_tree 95 = .ok (.iload 4, 2) := by decide +kernel
theorem dX1_tree_97 : decode cX1_tree 97 = .ok (.iaload, 1) := by decide +kernel
theorem dX1_tree_98 : decode cX1_tree 98 = .ok (.ireturn, 1) := by decide +kernel
theorem dX1_tree_99 : decode cX1_tree 99 = .ok (.aload_n 0, 1) := by decide +kernel
theorem dX1_tree_100 : decode cX1_tree 100 = .ok (.getfield 22, 3) := by decide +kernel
theorem dX1_tree_103 : decode cX1_tree 103 = .ok (.iload 4, 2) := by decide +kernel
theorem dX1_tree_105 : decode cX1_tree 105 = .ok (.iaload, 1) := by decide +kernel
theorem dX1_tree_106 : decode cX1_tree 106 = .ok (.ireturn, 1) := by decide +kernel
theorem dX1_tree_107 : decode cX1_tree 107 = .ok (.aload_n 0, 1) := by decide +kernel
theorem dX1_tree_108 : decode cX1_tree 108 = .ok (.getfield 31, 3) := by decide +kernel
theorem dX1_tree_111 : decode cX1_tree 111 = .ok (.iload 4, 2) := by decide +kernel
theorem dX1_tree_113 : decode cX1_tree 113 = .ok (.baload, 1) := by decide +kernel
theorem dX1_tree_114 : decode cX1_tree 114 = .ok (.ifCond .eq 7, 3) := by decide +kernel
theorem dX1_tree_117 : decode cX1_tree 117 = .ok (.iconst 1, 1) := by decide +kernel
theorem dX1_tree_118 : decode cX1_tree 118 = .ok (.goto 4, 3) := by decide +kernel
theorem dX1_tree_121 : decode cX1_tree 121 = .ok (.iconst 0, 1) := by decide +kernel
theorem dX1_tree_122 : decode cX1_tree 122 = .ok (.ireturn, 1) := by decide +kernel
theorem dX1_tree_123 : decode cX1_tree 123 = .ok (.aload_n 0, 1) := by decide +kernel
theorem dX1_tree_124 : decode cX1_tree 124 = .ok (.iload 4, 2) := by decide +kernel
theorem dX1_tree_126 : decode cX1_tree 126 = .ok (.invokevirtual 124, 3) := by decide +kernel
theorem dX1_tree_129 : decode cX1_tree 129 = .ok (.ireturn, 1) := by decide +kernel
set_option maxRecDepth 20000 in
theorem ggX1_sort_X1_isSort : GoodIn wsX1_sort wsX1_isSort := goodIn_r _ [9, 10, 11, 8, 12] (by decide +kernel) (by decide +kernel)
set_option maxRecDepth 20000 in
theorem gX1_sort_X1_isSort : GoodIn wsX1_sort (va_wsS RX1 61 yX1_isSort wsX1_isSort) := goodIn_app (goodIn_of _ (by decide +kernel)) ggX1_sort_X1_isSort
set_option maxRecDepth 20000 in
theorem ggX1_sort_X1_isWithin : GoodIn wsX1_sort wsX1_isWithin := goodIn_r _ [12] (by decide +kernel) (by decide +kernel)
set_option maxRecDepth 20000 in
theorem gX1_sort_X1_isWithin : GoodIn wsX1_sort (va_wsS RX1 72 yX1_isWithin wsX1_isWithin) := goodIn_app (goodIn_of _ (by decide +kernel)) ggX1_sort_X1_isWithin
set_option maxRecDepth 20000 in
theorem ggX1_sort_X1_treesOfSort : GoodIn wsX1_sort wsX1_treesOfSort := goodIn_r _ [16, 17, 18, 19, 20, 21, 22, 23, 24, 25, 26, 27, 28, 29, 30] (by decide +kernel) (by decide +kernel)
set_option maxRecDepth 20000 in
theorem gX1_sort_X1_treesOfSort : GoodIn wsX1_sort (wsV RX1 129 RX1 yX1_treesOfSort wsX1_treesOfSort) := goodIn_app (goodIn_of _ (by decide +kernel)) ggX1_sort_X1_treesOfSort
theorem dX1_sort_0 : decode cX1_sort 0 = .ok (.iload_n 1, 1) := by decide +kernel
theorem dX1_sort_1 : decode cX1_sort 1 = .ok (.invokestatic 61, 3) := by decide +kernel
theorem dX1_sort_4 : decode cX1_sort 4 = .ok (.ifCond .eq 12, 3) := by decide +kernel
theorem dX1_sort_7 : decode cX1_sort 7 = .ok (.iload_n 2, 1) := by decide +kernel
theorem dX1_sort_8 : decode cX1_sort 8 = .ok (.iconst 0, 1) := by decide +kernel
theorem dX1_sort_9 : decode cX1_sort 9 = .ok (.iconst 3, 1) := by decide +kernel
theorem dX1_sort_10 : decode cX1_sort 10 = .ok (.invokestatic 72, 3) := by decide +kernel
theorem dX1_sort_13 : decode cX1_sort 13 = .ok (.ifCond .ne 13, 3) := by decide +kernel
theorem dX1_sort_16 : decode cX1_sort 16 = .ok (.new 65, 3) := by decide +kernel
theorem dX1_sort_19 : decode cX1_sort 19 = .ok (.dup, 1) := by decide +kernel
theorem dX1_sort_20 : decode cX1_sort 20 = .ok (.ldc 127, 2) := by decide +kernel
theorem dX1_sort_22 : decode cX1_sort 22 = .ok (.invokespecial 69, 3) := by decide +kernel
theorem dX1_sort_25 : decode cX1_sort 25 = .ok (.athrow, 1) := by decide +kernel
theorem dX1_sort_26 : decode cX1_sort 26 = .ok (.iload_n 2, 1) := by decide +kernel
theorem dX1_sort_27 : decode cX1_sort 27 = .ok (.tableswitch 46 0 2 #[25, 32, 39], 25) := by decide +kernel
theorem dX1_sort_52 : decode cX1_sort 52 = .ok (.aload_n 0, 1) := by decide +kernel
theorem dX1_sort_53 : decode cX1_sort 53 = .ok (.getfield 9, 3) := by decide +kernel
theorem dX1_sort_56 : decode cX1_sort 56 = .ok (.iload_n 1, 1) := by decide +kernel
theorem dX1_sort_57 : decode cX1_sort 57 = .ok (.iaload, 1) := by decide +kernel
theorem dX1_sort_58 : decode cX1_sort 58 = .ok (.ireturn, 1) := by decide +kernel
theorem dX1_sort_59 : decode cX1_sort 59 = .ok (.aload_n 0, 1) := by decide +kernel
theorem dX1_sort_60 : decode cX1_sort 60 = .ok (.getfield 13, 3) := by decide +kernel
theorem dX1_sort_63 : decode cX1_sort 63 = .ok (.iload_n 1, 1) := by decide +kernel
theorem dX1_sort_64 : decode cX1_sort 64 = .ok (.iaload, 1) := by decide +kernel
theorem dX1_sort_65 : decode cX1_sort 65 = .ok (.ireturn, 1) := by decide +kernel
theorem dX1_sort_66 : decode cX1_sort 66 = .ok (.aload_n 0, 1) := by decide +kernel
theorem dX1_sort_67 : decode cX1_sort 67 = .ok (.getfield 16, 3) := by decide +kernel
theorem dX1_sort_70 : decode cX1_sort 70 = .ok (.iload_n 1, 1) := by decide +kernel
theorem dX1_sort_71 : decode cX1_sort 71 = .ok (.iaload, 1) := by decide +kernel
theorem dX1_sort_72 : decode cX1_sort 72 = .ok (.ireturn, 1) := by decide +kernel
theorem dX1_sort_73 : decode cX1_sort 73 = .ok (.aload_n 0, 1) := by decide +kernel
theorem dX1_sort_74 : decode cX1_sort 74 = .ok (.iload_n 1, 1) := by decide +kernel
theorem dX1_sort_75 : decode cX1_sort 75 = .ok (.invokevirtual 129, 3) := by decide +kernel
theorem dX1_sort_78 : decode cX1_sort 78 = .ok (.ireturn, 1) := by decide +kernel
set_option maxRecDepth 20000 in
theorem ggX1_count_X1_isWithin : GoodIn wsX1_count wsX1_isWithin := goodIn_r _ [8] (by decide +kernel) (by decide +kernel)
set_option maxRecDepth 20000 in
theorem gX1_count_X1_isWithin : GoodIn wsX1_count (va_wsS RX1 72 yX1_isWithin wsX1_isWithin) := goodIn_app (goodIn_of _ (by decide +kernel)) ggX1_count_X1_isWithin
set_option maxRecDepth 20000 in
theorem ggX1_count_X1_allTrees : GoodIn wsX1_count wsX1_allTrees := goodIn_r _ [12, 13, 14, 15, 7, 16, 17, 44, 45, 46, 47, 48, 49, 50, 51, 52, 53, 54, 55, 56] (by decide +kernel) (by decide +kernel)
set_option maxRecDepth 20000 in
theorem gX1_count_X1_allTrees : GoodIn wsX1_count (wsV RX1 134 RX1 yX1_allTrees wsX1_allTrees) := goodIn_app (goodIn_of _ (by decide +kernel)) ggX1_count_X1_allTrees
set_option maxRecDepth 20000 in
theorem ggX1_count_X1_allTired : GoodIn wsX1_count wsX1_allTired := goodIn_r _ [21, 22, 44, 45, 46, 47, 48, 49, 50, 51, 52, 53, 54, 55, 56] (by decide +kernel) (by decide +kernel)
set_option maxRecDepth 20000 in
theorem gX1_count_X1_allTired : GoodIn wsX1_count (wsV RX1 138 RX1 yX1_allTired wsX1_allTired) := goodIn_app (goodIn_of _ (by decide +kernel)) ggX1_count_X1_allTired
set_option maxRecDepth 20000 in
theorem ggX1_count_X1_applesInBarn : GoodIn wsX1_count wsX1_applesInBarn := goodIn_r _ [26, 27, 44, 45, 46, 47, 48, 49, 50, 51, 52, 53, 54, 55, 56] (by decide +kernel) (by decide +kernel)
set_option maxRecDepth 20000 in
theorem gX1_count_X1_applesInBarn : GoodIn wsX1_count (wsV RX1 141 RX1 yX1_applesInBarn wsX1_applesInBarn) := goodIn_app (goodIn_of _ (by decide +kernel)) ggX1_count_X1_applesInBarn
set_option maxRecDepth 20000 in
theorem ggX1_count_X1_weightInBarn : GoodIn wsX1_count wsX1_weightInBarn := goodIn_r _ [31, 27, 32, 44, 45, 46, 47, 48, 49, 50, 51, 52, 53, 54, 55, 56] (by decide +kernel) (by decide +kernel)
set_option maxRecDepth 20000 in
theorem gX1_count_X1_weightInBarn : GoodIn wsX1_count (wsV RX1 144 RX1 yX1_weightInBarn wsX1_weightInBarn) := goodIn_app (goodIn_of _ (by decide +kernel)) ggX1_count_X1_weightInBarn
set_option maxRecDepth 20000 in
theorem ggX1_count_X1_unlikePairs : GoodIn wsX1_count wsX1_unlikePairs := goodIn_r _ [36, 17, 37, 38, 39, 7, 40, 41, 42, 43, 44, 45, 46, 47, 48, 49, 50, 51, 52, 53, 54, 55, 56] (by decide +kernel) (by decide +kernel)
set_option maxRecDepth 20000 in
theorem gX1_count_X1_unlikePairs : GoodIn wsX1_count (wsV RX1 147 RX1 yX1_unlikePairs wsX1_unlikePairs) := goodIn_app (goodIn_of _ (by decide +kernel)) ggX1_count_X1_unlikePairs
theorem dX1_count_0 : decode cX1_count 0 = .ok (.iload_n 1, 1) := by decide +kernel
theorem dX1_count_1 : decode cX1_count 1 = .ok (.iconst 0, 1) := by decide +kernel
theorem dX1_count_2 : decode cX1_count 2 = .ok (.bipush 7, 2) := by decide +kernel
theorem dX1_count_4 : decode cX1_count 4 = .ok (.invokestatic 72, 3) := by decide +kernel
theorem dX1_count_7 : decode cX1_count 7 = .ok (.ifCond .ne 13, 3) := by decide +kernel
theorem dX1_count_10 : decode cX1_count 10 = .ok (.new 65, 3) := by decide +kernel
theorem dX1_count_13 : decode cX1_count 13 = .ok (.dup, 1) := by decide +kernel
theorem dX1_count_14 : decode cX1_count 14 = .ok (.ldc 132, 2) := by decide +kernel
theorem dX1_count_16 : decode cX1_count 16 = .ok (.invokespecial 69, 3) := by decide +kernel
theorem dX1_count_19 : decode cX1_count 19 = .ok (.athrow, 1) := by decide +kernel
theorem dX1_count_20 : decode cX1_count 20 = .ok (.iload_n 1, 1) := by decide +kernel
theorem dX1_count_21 : decode cX1_count 21 = .ok (.tableswitch 82 0 6 #[43, 48, 55, 62, 67, 72, 77], 43) := by decide +kernel
theorem dX1_count_64 : decode cX1_count 64 = .ok (.aload_n 0, 1) := by decide +kernel
theorem dX1_count_65 : decode cX1_count 65 = .ok (.getfield 38, 3) := by decide +kernel
theorem dX1_count_68 : decode cX1_count 68 = .ok (.ireturn, 1) := by decide +kernel
theorem dX1_count_69 : decode cX1_count 69 = .ok (.aload_n 0, 1) := by decide +kernel
theorem dX1_count_70 : decode cX1_count 70 = .ok (.getfield 35, 3) := by decide +kernel
theorem dX1_count_73 : decode cX1_count 73 = .ok (.iconst 0, 1) := by decide +kernel
theorem dX1_count_74 : decode cX1_count 74 = .ok (.iaload, 1) := by decide +kernel
theorem dX1_count_75 : decode cX1_count 75 = .ok (.ireturn, 1) := by decide +kernel
theorem dX1_count_76 : decode cX1_count 76 = .ok (.aload_n 0, 1) := by decide +kernel
theorem dX1_count_77 : decode cX1_count 77 = .ok (.getfield 35, 3) := by decide +kernel
theorem dX1_count_80 : decode cX1_count 80 = .ok (.iconst 1, 1) := by decide +kernel
theorem dX1_count_81 : decode cX1_count 81 = .ok (.iaload, 1) := by decide +kernel
theorem dX1_count_82 : decode cX1_count 82 = .ok (.ireturn, 1) := by decide +kernel
theorem dX1_count_83 : decode cX1_count 83 = .ok (.aload_n 0, 1) := by decide +kernel
theorem dX1_count_84 : decode cX1_count 84 = .ok (.invokevirtual 134, 3) := by decide +kernel
theorem dX1_count_87 : decode cX1_count 87 = .ok (.ireturn, 1) := by decide +kernel
theorem dX1_count_88 : decode cX1_count 88 = .ok (.aload_n 0, 1) := by decide +kernel
theorem dX1_count_89 : decode cX1_count 89 = .ok (.invokevirtual 138, 3) := by decide +kernel
theorem dX1_count_92 : decode cX1_count 92 = .ok (.ireturn, 1) := by decide +kernel
theorem dX1_count_93 : decode cX1_count 93 = .ok (.aload_n 0, 1) := by decide +kernel
theorem dX1_count_94 : decode cX1_count 94 = .ok (.invokevirtual 141, 3) := by decide +kernel
theorem dX1_count_97 : decode cX1_count 97 = .ok (.ireturn, 1) := by decide +kernel
theorem dX1_count_98 : decode cX1_count 98 = .ok (.aload_n 0, 1) := by decide +kernel
theorem dX1_count_99 : decode cX1_count 99 = .ok (.invokevirtual 144, 3) := by decide +kernel
theorem dX1_count_102 : decode cX1_count 102 = .ok (.ireturn, 1) := by decide +kernel
theorem dX1_count_103 : decode cX1_count 103 = .ok (.aload_n 0, 1) := by decide +kernel
theorem dX1_count_104 : decode cX1_count 104 = .ok (.invokevirtual 147, 3) := by decide +kernel
theorem dX1_count_107 : decode cX1_count 107 = .ok (.ireturn, 1) := by decide +kernel
set_option maxRecDepth 20000 in
theorem ggX1_leans_X1_isWithin : GoodIn wsX1_leans wsX1_isWithin := goodIn_r _ [6] (by decide +kernel) (by decide +kernel)
set_option maxRecDepth 20000 in
theorem gX1_leans_X1_isWithin : GoodIn wsX1_leans (va_wsS RX1 72 yX1_isWithin wsX1_isWithin) := goodIn_app (goodIn_of _ (by decide +kernel)) ggX1_leans_X1_isWithin
set_option maxRecDepth 20000 in
theorem ggX1_leans_X1_spotOf : GoodIn wsX1_leans wsX1_spotOf := goodIn_r _ [9] (by decide +kernel) (by decide +kernel)
set_option maxRecDepth 20000 in
theorem gX1_leans_X1_spotOf : GoodIn wsX1_leans (va_wsS RX1 93 yX1_spotOf wsX1_spotOf) := goodIn_app (goodIn_of _ (by decide +kernel)) ggX1_leans_X1_spotOf
set_option maxRecDepth 20000 in
theorem ggX1_leans_X1_applesNow : GoodIn wsX1_leans wsX1_applesNow := goodIn_r _ [13, 14, 15, 16, 17, 5, 18, 19, 20, 21, 22, 23, 24, 25, 26, 27, 28, 29, 30, 31, 32, 33, 34, 38, 39, 40, 41, 42, 43, 44, 45, 46, 47, 48, 49, 50, 51, 52, 53, 54] (by decide +kernel) (by decide +kernel)
set_option maxRecDepth 20000 in
theorem gX1_leans_X1_applesNow : GoodIn wsX1_leans (wsV RX1 124 RX1 yX1_applesNow wsX1_applesNow) := goodIn_app (goodIn_of _ (by decide +kernel)) ggX1_leans_X1_applesNow
set_option maxRecDepth 20000 in
theorem ggX1_leans_X1_mirrorOf : GoodIn wsX1_leans wsX1_mirrorOf := goodIn_r _ [37] (by decide +kernel) (by decide +kernel)
set_option maxRecDepth 20000 in
theorem gX1_leans_X1_mirrorOf : GoodIn wsX1_leans (va_wsS RX1 100 yX1_mirrorOf wsX1_mirrorOf) := goodIn_app (goodIn_of _ (by decide +kernel)) ggX1_leans_X1_mirrorOf
theorem dX1_leans_0 : decode cX1_leans 0 = .ok (.iload_n 1, 1) := by decide +kernel
theorem dX1_leans_1 : decode cX1_leans 1 = .ok (.iconst 0, 1) := by decide +kernel
theorem dX1_leans_2 : decode cX1_leans 2 = .ok (.iconst 4, 1) := by decide +kernel
theorem dX1_leans_3 : decode cX1_leans 3 = .ok (.invokestatic 72, 3) := by decide +kernel
theorem dX1_leans_6 : decode cX1_leans 6 = .ok (.ifCond .ne 13, 3) := by decide +kernel
theorem dX1_leans_9 : decode cX1_leans 9 = .ok (.new 65, 3) := by decide +kernel
theorem dX1_leans_12 : decode cX1_leans 12 = .ok (.dup, 1) := by decide +kernel
theorem dX1_leans_13 : decode cX1_leans 13 = .ok (.ldc 150, 2) := by decide +kernel
theorem dX1_leans_15 : decode cX1_leans 15 = .ok (.invokespecial 69, 3) := by decide +kernel
theorem dX1_leans_18 : decode cX1_leans 18 = .ok (.athrow, 1) := by decide +kernel
theorem dX1_leans_19 : decode cX1_leans 19 = .ok (.iconst 0, 1) := by decide +kernel
theorem dX1_leans_20 : decode cX1_leans 20 = .ok (.istore_n 2, 1) := by decide +kernel
theorem dX1_leans_21 : decode cX1_leans 21 = .ok (.iconst 0, 1) := by decide +kernel
theorem dX1_leans_22 : decode cX1_leans 22 = .ok (.istore_n 3, 1) := by decide +kernel
theorem dX1_leans_23 : decode cX1_leans 23 = .ok (.iload_n 3, 1) := by decide +kernel
theorem dX1_leans_24 : decode cX1_leans 24 = .ok (.iconst 4, 1) := by decide +kernel
theorem dX1_leans_25 : decode cX1_leans 25 = .ok (.if_icmp .ge 35, 3) := by decide +kernel
theorem dX1_leans_28 : decode cX1_leans 28 = .ok (.iload_n 1, 1) := by decide +kernel
theorem dX1_leans_29 : decode cX1_leans 29 = .ok (.iload_n 3, 1) := by decide +kernel
theorem dX1_leans_30 : decode cX1_leans 30 = .ok (.invokestatic 93, 3) := by decide +kernel
theorem dX1_leans_33 : decode cX1_leans 33 = .ok (.istore 4, 2) := by decide +kernel
theorem dX1_leans_35 : decode cX1_leans 35 = .ok (.iload_n 2, 1) := by decide +kernel
theorem dX1_leans_36 : decode cX1_leans 36 = .ok (.aload_n 0, 1) := by decide +kernel
theorem dX1_leans_37 : decode cX1_leans 37 = .ok (.iload 4, 2) := by decide +kernel
theorem dX1_leans_39 : decode cX1_leans 39 = .ok (.invokevirtual 124, 3) := by decide +kernel
theorem dX1_leans_42 : decode cX1_leans 42 = .ok (.aload_n 0, 1) := by decide +kernel
theorem dX1_leans_43 : decode cX1_leans 43 = .ok (.iload 4, 2) := by decide +kernel
theorem dX1_leans_45 : decode cX1_leans 45 = .ok (.invokestatic 100, 3) := by decide +kernel
theorem dX1_leans_48 : decode cX1_leans 48 = .ok (.invokevirtual 124, 3) := by decide +kernel
theorem dX1_leans_51 : decode cX1_leans 51 = .ok (.isub, 1) := by decide +kernel
theorem dX1_leans_52 : decode cX1_leans 52 = .ok (.iadd, 1) := by decide +kernel
theorem dX1_leans_53 : decode cX1_leans 53 = .ok (.istore_n 2, 1) := by decide +kernel
theorem dX1_leans_54 : decode cX1_leans 54 = .ok (.iinc 3 1, 3) := by decide +kernel
theorem dX1_leans_57 : decode cX1_leans 57 = .ok (.goto (-34), 3) := by decide +kernel
theorem dX1_leans_60 : decode cX1_leans 60 = .ok (.iload_n 2, 1) := by decide +kernel
theorem dX1_leans_61 : decode cX1_leans 61 = .ok (.ireturn, 1) := by decide +kernel
set_option maxRecDepth 20000 in
theorem ggX1_carry_X1_isSort : GoodIn wsX1_carry wsX1_isSort := goodIn_r _ [13, 14, 15, 12, 16] (by decide +kernel) (by decide +kernel)
set_option maxRecDepth 20000 in
theorem gX1_carry_X1_isSort : GoodIn wsX1_carry (va_wsS RX1 61 yX1_isSort wsX1_isSort) := goodIn_app (goodIn_of _ (by decide +kernel)) ggX1_carry_X1_isSort
set_option maxRecDepth 20000 in
theorem ggX1_carry_X1_isWithin : GoodIn wsX1_carry wsX1_isWithin := goodIn_r _ [16] (by decide +kernel) (by decide +kernel)
set_option maxRecDepth 20000 in
theorem gX1_carry_X1_isWithin : GoodIn wsX1_carry (va_wsS RX1 72 yX1_isWithin wsX1_isWithin) := goodIn_app (goodIn_of _ (by decide +kernel)) ggX1_carry_X1_isWithin
theorem dX1_carry_0 : decode cX1_carry 0 = .ok (.iload_n 1, 1) := by decide +kernel
theorem dX1_carry_1 : decode cX1_carry 1 = .ok (.invokestatic 61, 3) := by decide +kernel
theorem dX1_carry_4 : decode cX1_carry 4 = .ok (.ifCond .ne 13, 3) := by decide +kernel
theorem dX1_carry_7 : decode cX1_carry 7 = .ok (.new 65, 3) := by decide +kernel
theorem dX1_carry_10 : decode cX1_carry 10 = .ok (.dup, 1) := by decide +kernel
theorem dX1_carry_11 : decode cX1_carry 11 = .ok (.ldc 67, 2) := by decide +kernel
theorem dX1_carry_13 : decode cX1_carry 13 = .ok (.invokespecial 69, 3) := by decide +kernel
theorem dX1_carry_16 : decode cX1_carry 16 = .ok (.athrow, 1) := by decide +kernel
theorem dX1_carry_17 : decode cX1_carry 17 = .ok (.iload_n 2, 1) := by decide +kernel
theorem dX1_carry_18 : decode cX1_carry 18 = .ok (.iconst 0, 1) := by decide +kernel
theorem dX1_carry_19 : decode cX1_carry 19 = .ok (.sipush 200, 3) := by decide +kernel
theorem dX1_carry_22 : decode cX1_carry 22 = .ok (.invokestatic 72, 3) := by decide +kernel
theorem dX1_carry_25 : decode cX1_carry 25 = .ok (.ifCond .eq 20, 3) := by decide +kernel
theorem dX1_carry_28 : decode cX1_carry 28 = .ok (.iload_n 3, 1) := by decide +kernel
theorem dX1_carry_29 : decode cX1_carry 29 = .ok (.iconst 0, 1) := by decide +kernel
theorem dX1_carry_30 : decode cX1_carry 30 = .ok (.sipush 200, 3) := by decide +kernel
theorem dX1_carry_33 : decode cX1_carry 33 = .ok (.invokestatic 72, 3) := by decide +kernel
theorem dX1_carry_36 : decode cX1_carry 36 = .ok (.ifCond .eq 9, 3) := by decide +kernel
theorem dX1_carry_39 : decode cX1_carry 39 = .ok (.iload_n 2, 1) := by decide +kernel
theorem dX1_carry_40 : decode cX1_carry 40 = .ok (.iload_n 3, 1) := by decide +kernel
theorem dX1_carry_41 : decode cX1_carry 41 = .ok (.iadd, 1) := by decide +kernel
theorem dX1_carry_42 : decode cX1_carry 42 = .ok (.ifCond .ne 13, 3) := by decide +kernel
theorem dX1_carry_45 : decode cX1_carry 45 = .ok (.new 76, 3) := by decide +kernel
theorem dX1_carry_48 : decode cX1_carry 48 = .ok (.dup, 1) := by decide +kernel
theorem dX1_carry_49 : decode cX1_carry 49 = .ok (.ldc 152, 2) := by decide +kernel
theorem dX1_carry_51 : decode cX1_carry 51 = .ok (.invokespecial 80, 3) := by decide +kernel
theorem dX1_carry_54 : decode cX1_carry 54 = .ok (.athrow, 1) := by decide +kernel
theorem dX1_carry_55 : decode cX1_carry 55 = .ok (.iload_n 2, 1) := by decide +kernel
theorem dX1_carry_56 : decode cX1_carry 56 = .ok (.iload_n 3, 1) := by decide +kernel
theorem dX1_carry_57 : decode cX1_carry 57 = .ok (.iadd, 1) := by decide +kernel
theorem dX1_carry_58 : decode cX1_carry 58 = .ok (.aload_n 0, 1) := by decide +kernel
theorem dX1_carry_59 : decode cX1_carry 59 = .ok (.getfield 16, 3) := by decide +kernel
theorem dX1_carry_62 : decode cX1_carry 62 = .ok (.iload_n 1, 1) := by decide +kernel
theorem dX1_carry_63 : decode cX1_carry 63 = .ok (.iaload, 1) := by decide +kernel
theorem dX1_carry_64 : decode cX1_carry 64 = .ok (.if_icmp .le 13, 3) := by decide +kernel
theorem dX1_carry_67 : decode cX1_carry 67 = .ok (.new 154, 3) := by decide +kernel
theorem dX1_carry_70 : decode cX1_carry 70 = .ok (.dup, 1) := by decide +kernel
theorem dX1_carry_71 : decode cX1_carry 71 = .ok (.ldc 156, 2) := by decide +kernel
theorem dX1_carry_73 : decode cX1_carry 73 = .ok (.invokespecial 158, 3) := by decide +kernel
theorem dX1_carry_76 : decode cX1_carry 76 = .ok (.athrow, 1) := by decide +kernel
theorem dX1_carry_77 : decode cX1_carry 77 = .ok (.aload_n 0, 1) := by decide +kernel
theorem dX1_carry_78 : decode cX1_carry 78 = .ok (.getfield 16, 3) := by decide +kernel
theorem dX1_carry_81 : decode cX1_carry 81 = .ok (.iload_n 1, 1) := by decide +kernel
theorem dX1_carry_82 : decode cX1_carry 82 = .ok (.dup2, 1) := by decide +kernel
theorem dX1_carry_83 : decode cX1_carry 83 = .ok (.iaload, 1) := by decide +kernel
theorem dX1_carry_84 : decode cX1_carry 84 = .ok (.iload_n 2, 1) := by decide +kernel
theorem dX1_carry_85 : decode cX1_carry 85 = .ok (.iload_n 3, 1) := by decide +kernel
theorem dX1_carry_86 : decode cX1_carry 86 = .ok (.iadd, 1) := by decide +kernel
theorem dX1_carry_87 : decode cX1_carry 87 = .ok (.isub, 1) := by decide +kernel
theorem dX1_carry_88 : decode cX1_carry 88 = .ok (.iastore, 1) := by decide +kernel
theorem dX1_carry_89 : decode cX1_carry 89 = .ok (.aload_n 0, 1) := by decide +kernel
theorem dX1_carry_90 : decode cX1_carry 90 = .ok (.dup, 1) := by decide +kernel
theorem dX1_carry_91 : decode cX1_carry 91 = .ok (.getfield 42, 3) := by decide +kernel
theorem dX1_carry_94 : decode cX1_carry 94 = .ok (.iload_n 2, 1) := by decide +kernel
theorem dX1_carry_95 : decode cX1_carry 95 = .ok (.iload_n 3, 1) := by decide +kernel
theorem dX1_carry_96 : decode cX1_carry 96 = .ok (.isub, 1) := by decide +kernel
theorem dX1_carry_97 : decode cX1_carry 97 = .ok (.aload_n 0, 1) := by decide +kernel
theorem dX1_carry_98 : decode cX1_carry 98 = .ok (.getfield 9, 3) := by decide +kernel
theorem dX1_carry_101 : decode cX1_carry 101 = .ok (.iload_n 1, 1) := by decide +kernel
theorem dX1_carry_102 : decode cX1_carry 102 = .ok (.iaload, 1) := by decide +kernel
theorem dX1_carry_103 : decode cX1_carry 103 = .ok (.imul, 1) := by decide +kernel
theorem dX1_carry_104 : decode cX1_carry 104 = .ok (.iadd, 1) := by decide +kernel
theorem dX1_carry_105 : decode cX1_carry 105 = .ok (.putfield 42, 3) := by decide +kernel
theorem dX1_carry_108 : decode cX1_carry 108 = .ok (.aload_n 0, 1) := by decide +kernel
theorem dX1_carry_109 : decode cX1_carry 109 = .ok (.getfield 16, 3) := by decide +kernel
theorem dX1_carry_112 : decode cX1_carry 112 = .ok (.iload_n 1, 1) := by decide +kernel
theorem dX1_carry_113 : decode cX1_carry 113 = .ok (.iaload, 1) := by decide +kernel
theorem dX1_carry_114 : decode cX1_carry 114 = .ok (.ireturn, 1) := by decide +kernel
theorem dX1_tilt_0 : decode cX1_tilt 0 = .ok (.aload_n 0, 1) := by decide +kernel
theorem dX1_tilt_1 : decode cX1_tilt 1 = .ok (.getfield 42, 3) := by decide +kernel
theorem dX1_tilt_4 : decode cX1_tilt 4 = .ok (.ireturn, 1) := by decide +kernel
set_option maxRecDepth 20000 in
theorem ggX1_balance_X1_balancedApples : GoodIn wsX1_balance wsX1_balancedApples := goodIn_r _ [6, 7, 8, 9, 10, 11, 12, 13, 14, 28, 29, 30, 31, 32, 33, 34, 35, 36, 37, 38, 39, 40] (by decide +kernel) (by decide +kernel)
set_option maxRecDepth 20000 in
theorem gX1_balance_X1_balancedApples : GoodIn wsX1_balance (wsV RX1 159 RX1 yX1_balancedApples wsX1_balancedApples) := goodIn_app (goodIn_of _ (by decide +kernel)) ggX1_balance_X1_balancedApples
set_option maxRecDepth 20000 in
theorem ggX1_balance_X1_heaviestUpTo : GoodIn wsX1_balance wsX1_heaviestUpTo := goodIn_r _ [18, 19, 1, 8, 9, 10, 11, 20, 21, 22, 23, 2, 3, 4, 5, 6, 7, 12, 13, 14, 24, 25, 26, 27, 28, 29, 30, 31, 32, 33, 34, 35, 36, 37, 38, 39, 40] (by decide +kernel) (by decide +kernel)
set_option maxRecDepth 20000 in
theorem gX1_balance_X1_heaviestUpTo : GoodIn wsX1_balance (wsV RX1 162 RX1 yX1_heaviestUpTo wsX1_heaviestUpTo) := goodIn_app (goodIn_of _ (by decide +kernel)) ggX1_balance_X1_heaviestUpTo
theorem dX1_balance_0 : decode cX1_balance 0 = .ok (.iconst 0, 1) := by decide +kernel
theorem dX1_balance_1 : decode cX1_balance 1 = .ok (.istore_n 1, 1) := by decide +kernel
theorem dX1_balance_2 : decode cX1_balance 2 = .ok (.iconst 0, 1) := by decide +kernel
theorem dX1_balance_3 : decode cX1_balance 3 = .ok (.istore_n 2, 1) := by decide +kernel
theorem dX1_balance_4 : decode cX1_balance 4 = .ok (.iload_n 2, 1) := by decide +kernel
theorem dX1_balance_5 : decode cX1_balance 5 = .ok (.bipush 6, 2) := by decide +kernel
theorem dX1_balance_7 : decode cX1_balance 7 = .ok (.if_icmp .ge 24, 3) := by decide +kernel
theorem dX1_balance_10 : decode cX1_balance 10 = .ok (.iload_n 1, 1) := by decide +kernel
theorem dX1_balance_11 : decode cX1_balance 11 = .ok (.aload_n 0, 1) := by decide +kernel
theorem dX1_balance_12 : decode cX1_balance 12 = .ok (.iload_n 2, 1) := by decide +kernel
theorem dX1_balance_13 : decode cX1_balance 13 = .ok (.invokevirtual 159, 3) := by decide +kernel
theorem dX1_balance_16 : decode cX1_balance 16 = .ok (.aload_n 0, 1) := by decide +kernel
theorem dX1_balance_17 : decode cX1_balance 17 = .ok (.getfield 9, 3) := by decide +kernel
theorem dX1_balance_20 : decode cX1_balance 20 = .ok (.iload_n 2, 1) := by decide +kernel
theorem dX1_balance_21 : decode cX1_balance 21 = .ok (.iaload, 1) := by decide +kernel
theorem dX1_balance_22 : decode cX1_balance 22 = .ok (.imul, 1) := by decide +kernel
theorem dX1_balance_23 : decode cX1_balance 23 = .ok (.iadd, 1) := by decide +kernel
theorem dX1_balance_24 : decode cX1_balance 24 = .ok (.istore_n 1, 1) := by decide +kernel
theorem dX1_balance_25 : decode cX1_balance 25 = .ok (.iinc 2 1, 3) := by decide +kernel
theorem dX1_balance_28 : decode cX1_balance 28 = .ok (.goto (-24), 3) := by decide +kernel
theorem dX1_balance_31 : decode cX1_balance 31 = .ok (.iload_n 1, 1) := by decide +kernel
theorem dX1_balance_32 : decode cX1_balance 32 = .ok (.iconst 2, 1) := by decide +kernel
theorem dX1_balance_33 : decode cX1_balance 33 = .ok (.aload_n 0, 1) := by decide +kernel
theorem dX1_balance_34 : decode cX1_balance 34 = .ok (.iload_n 1, 1) := by decide +kernel
theorem dX1_balance_35 : decode cX1_balance 35 = .ok (.iconst 2, 1) := by decide +kernel
theorem dX1_balance_36 : decode cX1_balance 36 = .ok (.idiv, 1) := by decide +kernel
theorem dX1_balance_37 : decode cX1_balance 37 = .ok (.invokevirtual 162, 3) := by decide +kernel
theorem dX1_balance_40 : decode cX1_balance 40 = .ok (.imul, 1) := by decide +kernel
theorem dX1_balance_41 : decode cX1_balance 41 = .ok (.isub, 1) := by decide +kernel
theorem dX1_balance_42 : decode cX1_balance 42 = .ok (.ireturn, 1) := by decide +kernel
set_option maxRecDepth 20000 in
theorem ggX1_pass_X1_isWithin : GoodIn wsX1_pass wsX1_isWithin := goodIn_r _ [8] (by decide +kernel) (by decide +kernel)
set_option maxRecDepth 20000 in
theorem gX1_pass_X1_isWithin : GoodIn wsX1_pass (va_wsS RX1 72 yX1_isWithin wsX1_isWithin) := goodIn_app (goodIn_of _ (by decide +kernel)) ggX1_pass_X1_isWithin
set_option maxRecDepth 20000 in
theorem ggX1_pass_X1_hasTree : GoodIn wsX1_pass wsX1_hasTree := goodIn_r _ [12, 13, 72, 73, 74, 75, 76, 77, 78, 79, 80, 81, 82, 83, 84] (by decide +kernel) (by decide +kernel)
set_option maxRecDepth 20000 in
theorem gX1_pass_X1_hasTree : GoodIn wsX1_pass (wsV RX1 121 RX1 yX1_hasTree wsX1_hasTree) := goodIn_app (goodIn_of _ (by decide +kernel)) ggX1_pass_X1_hasTree
set_option maxRecDepth 20000 in
theorem ggX1_pass_X1_passAt : GoodIn wsX1_pass wsX1_passAt := goodIn_r _ [17, 18, 13, 19, 20, 21, 7, 22, 23, 24, 25, 26, 27, 9, 10, 11, 12, 28, 29, 30, 31, 32, 3, 33, 34, 35, 36, 37, 38, 39, 40, 41, 42, 43, 44, 45, 46, 47, 48, 49, 50, 51, 52, 53, 54, 55, 56, 57, 58, 59, 60, 61, 62, 63, 64, 65, 66, 67, 72, 73, 74, 75, 76, 77, 78, 79, 80, 81, 82, 83, 84, 85, 86, 87, 88] (by decide +kernel) (by decide +kernel)
set_option maxRecDepth 20000 in
theorem gX1_pass_X1_passAt : GoodIn wsX1_pass (wsV RX1 167 RX1 yX1_passAt wsX1_passAt) := goodIn_app (goodIn_of _ (by decide +kernel)) ggX1_pass_X1_passAt
set_option maxRecDepth 20000 in
theorem ggX1_pass_J7_fill_53178 : GoodIn wsX1_pass wsJ7_fill_53178 := goodIn_r _ [71] (by decide +kernel) (by decide +kernel)
set_option maxRecDepth 20000 in
theorem gX1_pass_J7_fill_53178 : GoodIn wsX1_pass (va_wsS RX1 55 yJ7_fill_53178 wsJ7_fill_53178) := goodIn_app (goodIn_of _ (by decide +kernel)) ggX1_pass_J7_fill_53178
theorem dX1_pass_0 : decode cX1_pass 0 = .ok (.iload_n 1, 1) := by decide +kernel
theorem dX1_pass_1 : decode cX1_pass 1 = .ok (.iconst 1, 1) := by decide +kernel
theorem dX1_pass_2 : decode cX1_pass 2 = .ok (.bipush 30, 2) := by decide +kernel
theorem dX1_pass_4 : decode cX1_pass 4 = .ok (.invokestatic 72, 3) := by decide +kernel
theorem dX1_pass_7 : decode cX1_pass 7 = .ok (.ifCond .ne 13, 3) := by decide +kernel
theorem dX1_pass_10 : decode cX1_pass 10 = .ok (.new 76, 3) := by decide +kernel
theorem dX1_pass_13 : decode cX1_pass 13 = .ok (.dup, 1) := by decide +kernel
theorem dX1_pass_14 : decode cX1_pass 14 = .ok (.ldc 165, 2) := by decide +kernel
theorem dX1_pass_16 : decode cX1_pass 16 = .ok (.invokespecial 80, 3) := by decide +kernel
theorem dX1_pass_19 : decode cX1_pass 19 = .ok (.athrow, 1) := by decide +kernel
theorem dX1_pass_20 : decode cX1_pass 20 = .ok (.iconst 0, 1) := by decide +kernel
theorem dX1_pass_21 : decode cX1_pass 21 = .ok (.istore_n 2, 1) := by decide +kernel
theorem dX1_pass_22 : decode cX1_pass 22 = .ok (.iconst 0, 1) := by decide +kernel
theorem dX1_pass_23 : decode cX1_pass 23 = .ok (.istore_n 3, 1) := by decide +kernel
theorem dX1_pass_24 : decode cX1_pass 24 = .ok (.iload_n 3, 1) := by decide +kernel
theorem dX1_pass_25 : decode cX1_pass 25 = .ok (.bipush 40, 2) := by decide +kernel
theorem dX1_pass_27 : decode cX1_pass 27 = .ok (.if_icmp .ge 26, 3) := by decide +kernel
theorem dX1_pass_30 : decode cX1_pass 30 = .ok (.aload_n 0, 1) := by decide +kernel
theorem dX1_pass_31 : decode cX1_pass 31 = .ok (.iload_n 3, 1) := by decide +kernel
theorem dX1_pass_32 : decode cX1_pass 32 = .ok (.invokevirtual 121, 3) := by decide +kernel
theorem dX1_pass_35 : decode cX1_pass 35 = .ok (.ifCond .eq 12, 3) := by decide +kernel
theorem dX1_pass_38 : decode cX1_pass 38 = .ok (.iload_n 2, 1) := by decide +kernel
theorem dX1_pass_39 : decode cX1_pass 39 = .ok (.aload_n 0, 1) := by decide +kernel
theorem dX1_pass_40 : decode cX1_pass 40 = .ok (.iload_n 3, 1) := by decide +kernel
theorem dX1_pass_41 : decode cX1_pass 41 = .ok (.iload_n 1, 1) := by decide +kernel
theorem dX1_pass_42 : decode cX1_pass 42 = .ok (.invokevirtual 167, 3) := by decide +kernel
theorem dX1_pass_45 : decode cX1_pass 45 = .ok (.iadd, 1) := by decide +kernel
theorem dX1_pass_46 : decode cX1_pass 46 = .ok (.istore_n 2, 1) := by decide +kernel
theorem dX1_pass_47 : decode cX1_pass 47 = .ok (.iinc 3 1, 3) := by decide +kernel
theorem dX1_pass_50 : decode cX1_pass 50 = .ok (.goto (-26), 3) := by decide +kernel
theorem dX1_pass_53 : decode cX1_pass 53 = .ok (.aload_n 0, 1) := by decide +kernel
theorem dX1_pass_54 : decode cX1_pass 54 = .ok (.dup, 1) := by decide +kernel
theorem dX1_pass_55 : decode cX1_pass 55 = .ok (.getfield 38, 3) := by decide +kernel
theorem dX1_pass_58 : decode cX1_pass 58 = .ok (.iload_n 1, 1) := by decide +kernel
theorem dX1_pass_59 : decode cX1_pass 59 = .ok (.iadd, 1) := by decide +kernel
theorem dX1_pass_60 : decode cX1_pass 60 = .ok (.putfield 38, 3) := by decide +kernel
theorem dX1_pass_63 : decode cX1_pass 63 = .ok (.aload_n 0, 1) := by decide +kernel
theorem dX1_pass_64 : decode cX1_pass 64 = .ok (.getfield 35, 3) := by decide +kernel
theorem dX1_pass_67 : decode cX1_pass 67 = .ok (.bipush 20, 2) := by decide +kernel
theorem dX1_pass_69 : decode cX1_pass 69 = .ok (.invokestatic 55, 3) := by decide +kernel
theorem dX1_pass_72 : decode cX1_pass 72 = .ok (.iload_n 2, 1) := by decide +kernel
theorem dX1_pass_73 : decode cX1_pass 73 = .ok (.ireturn, 1) := by decide +kernel
set_option maxRecDepth 20000 in
theorem ggX1_foresee_X1_isWithin : GoodIn wsX1_foresee wsX1_isWithin := goodIn_r _ [9] (by decide +kernel) (by decide +kernel)
set_option maxRecDepth 20000 in
theorem gX1_foresee_X1_isWithin : GoodIn wsX1_foresee (va_wsS RX1 72 yX1_isWithin wsX1_isWithin) := goodIn_app (goodIn_of _ (by decide +kernel)) ggX1_foresee_X1_isWithin
set_option maxRecDepth 20000 in
theorem ggX1_foresee_X1_hasTree : GoodIn wsX1_foresee wsX1_hasTree := goodIn_r _ [13, 14, 60, 61, 62, 63, 64, 65, 66, 67, 68, 69, 70, 71, 72] (by decide +kernel) (by decide +kernel)
set_option maxRecDepth 20000 in
theorem gX1_foresee_X1_hasTree : GoodIn wsX1_foresee (wsV RX1 121 RX1 yX1_hasTree wsX1_hasTree) := goodIn_app (goodIn_of _ (by decide +kernel)) ggX1_foresee_X1_hasTree
set_option maxRecDepth 20000 in
theorem ggX1_foresee_X1_lookAt : GoodIn wsX1_foresee wsX1_lookAt := goodIn_r _ [18, 5, 19, 20, 21, 22, 14, 10, 11, 12, 8, 13, 60, 61, 62, 63, 64, 65, 66, 67, 68, 69, 70, 71, 72, 73, 74, 75, 76] (by decide +kernel) (by decide +kernel)
set_option maxRecDepth 20000 in
theorem gX1_foresee_X1_lookAt : GoodIn wsX1_foresee (wsV RX1 170 RX1 yX1_lookAt wsX1_lookAt) := goodIn_app (goodIn_of _ (by decide +kernel)) ggX1_foresee_X1_lookAt
set_option maxRecDepth 20000 in
theorem ggX1_foresee_X1_liveLooked : GoodIn wsX1_foresee wsX1_liveLooked := goodIn_r _ [26, 5, 27, 28, 29, 30, 31, 32, 33, 34, 35, 36, 37, 38, 39, 40, 41, 42, 43, 44, 45, 46, 47, 48, 49, 50, 51, 52, 53, 54, 55, 56, 57, 58, 59, 60, 61, 62, 63, 64, 65, 66, 67, 68, 69, 70, 71, 72, 73, 74, 75, 76] (by decide +kernel) (by decide +kernel)
set_option maxRecDepth 20000 in
theorem gX1_foresee_X1_liveLooked : GoodIn wsX1_foresee (wsV RX1 174 RX1 yX1_liveLooked wsX1_liveLooked) := goodIn_app (goodIn_of _ (by decide +kernel)) ggX1_foresee_X1_liveLooked
theorem dX1_foresee_0 : decode cX1_foresee 0 = .ok (.iload_n 1, 1) := by decide +kernel
theorem dX1_foresee_1 : decode cX1_foresee 1 = .ok (.iconst 1, 1) := by decide +kernel
theorem dX1_foresee_2 : decode cX1_foresee 2 = .ok (.bipush 30, 2) := by decide +kernel
theorem dX1_foresee_4 : decode cX1_foresee 4 = .ok (.invokestatic 72, 3) := by decide +kernel
theorem dX1_foresee_7 : decode cX1_foresee 7 = .ok (.ifCond .ne 13, 3) := by decide +kernel
theorem dX1_foresee_10 : decode cX1_foresee 10 = .ok (.new 76, 3) := by decide +kernel
theorem dX1_foresee_13 : decode cX1_foresee 13 = .ok (.dup, 1) := by decide +kernel
theorem dX1_foresee_14 : decode cX1_foresee 14 = .ok (.ldc 165, 2) := by decide +kernel
theorem dX1_foresee_16 : decode cX1_foresee 16 = .ok (.invokespecial 80, 3) := by decide +kernel
theorem dX1_foresee_19 : decode cX1_foresee 19 = .ok (.athrow, 1) := by decide +kernel
theorem dX1_foresee_20 : decode cX1_foresee 20 = .ok (.iload_n 2, 1) := by decide +kernel
theorem dX1_foresee_21 : decode cX1_foresee 21 = .ok (.iconst 0, 1) := by decide +kernel
theorem dX1_foresee_22 : decode cX1_foresee 22 = .ok (.iconst 2, 1) := by decide +kernel
theorem dX1_foresee_23 : decode cX1_foresee 23 = .ok (.invokestatic 72, 3) := by decide +kernel
theorem dX1_foresee_26 : decode cX1_foresee 26 = .ok (.ifCond .ne 13, 3) := by decide +kernel
theorem dX1_foresee_29 : decode cX1_foresee 29 = .ok (.new 65, 3) := by decide +kernel
theorem dX1_foresee_32 : decode cX1_foresee 32 = .ok (.dup, 1) := by decide +kernel
theorem dX1_foresee_33 : decode cX1_foresee 33 = .ok (.ldc 132, 2) := by decide +kernel
theorem dX1_foresee_35 : decode cX1_foresee 35 = .ok (.invokespecial 69, 3) := by decide +kernel
theorem dX1_foresee_38 : decode cX1_foresee 38 = .ok (.athrow, 1) := by decide +kernel
theorem dX1_foresee_39 : decode cX1_foresee 39 = .ok (.iconst 0, 1) := by decide +kernel
theorem dX1_foresee_40 : decode cX1_foresee 40 = .ok (.istore_n 3, 1) := by decide +kernel
theorem dX1_foresee_41 : decode cX1_foresee 41 = .ok (.iconst 0, 1) := by decide +kernel
theorem dX1_foresee_42 : decode cX1_foresee 42 = .ok (.istore 4, 2) := by decide +kernel
theorem dX1_foresee_44 : decode cX1_foresee 44 = .ok (.iconst 0, 1) := by decide +kernel
theorem dX1_foresee_45 : decode cX1_foresee 45 = .ok (.istore 5, 2) := by decide +kernel
theorem dX1_foresee_47 : decode cX1_foresee 47 = .ok (.iconst 0, 1) := by decide +kernel
theorem dX1_foresee_48 : decode cX1_foresee 48 = .ok (.istore 6, 2) := by decide +kernel
theorem dX1_foresee_50 : decode cX1_foresee 50 = .ok (.iload 6, 2) := by decide +kernel
theorem dX1_foresee_52 : decode cX1_foresee 52 = .ok (.bipush 40, 2) := by decide +kernel
theorem dX1_foresee_54 : decode cX1_foresee 54 = .ok (.if_icmp .ge 64, 3) := by decide +kernel
theorem dX1_foresee_57 : decode cX1_foresee 57 = .ok (.aload_n 0, 1) := by decide +kernel
theorem dX1_foresee_58 : decode cX1_foresee 58 = .ok (.iload 6, 2) := by decide +kernel
theorem dX1_foresee_60 : decode cX1_foresee 60 = .ok (.invokevirtual 121, 3) := by decide +kernel
theorem dX1_foresee_63 : decode cX1_foresee 63 = .ok (.ifCond .eq 49, 3) := by decide +kernel
theorem dX1_foresee_66 : decode cX1_foresee 66 = .ok (.aload_n 0, 1) := by decide +kernel
theorem dX1_foresee_67 : decode cX1_foresee 67 = .ok (.iload 6, 2) := by decide +kernel
theorem dX1_foresee_69 : decode cX1_foresee 69 = .ok (.invokevirtual 170, 3) := by decide +kernel
theorem dX1_foresee_72 : decode cX1_foresee 72 = .ok (.iload_n 3, 1) := by decide +kernel
theorem dX1_foresee_73 : decode cX1_foresee 73 = .ok (.aload_n 0, 1) := by decide +kernel
theorem dX1_foresee_74 : decode cX1_foresee 74 = .ok (.iload_n 1, 1) := by decide +kernel
theorem dX1_foresee_75 : decode cX1_foresee 75 = .ok (.invokevirtual 174, 3) := by decide +kernel
theorem dX1_foresee_78 : decode cX1_foresee 78 = .ok (.iadd, 1) := by decide +kernel
theorem dX1_foresee_79 : decode cX1_foresee 79 = .ok (.istore_n 3, 1) := by decide +kernel
theorem dX1_foresee_80 : decode cX1_foresee 80 = .ok (.iload 4, 2) := by decide +kernel
theorem dX1_foresee_82 : decode cX1_foresee 82 = .ok (.aload_n 0, 1) := by decide +kernel
theorem dX1_foresee_83 : decode cX1_foresee 83 = .ok (.getfield 48, 3) := by decide +kernel
theorem dX1_foresee_86 : decode cX1_foresee 86 = .ok (.getfield 177, 3) := by decide +kernel
theorem dX1_foresee_89 : decode cX1_foresee 89 = .ok (.iadd, 1) := by decide +kernel
theorem dX1_foresee_90 : decode cX1_foresee 90 = .ok (.istore 4, 2) := by decide +kernel
theorem dX1_foresee_92 : decode cX1_foresee 92 = .ok (.iload 5, 2) := by decide +kernel
theorem dX1_foresee_94 : decode cX1_foresee 94 = .ok (.aload_n 0, 1) := by decide +kernel
theorem dX1_foresee_95 : decode cX1_foresee 95 = .ok (.getfield 48, 3) := by decide +kernel
theorem dX1_foresee_98 : decode cX1_foresee 98 = .ok (.getfield 179, 3) := by decide +kernel
theorem dX1_foresee_101 : decode cX1_foresee 101 = .ok (.ifCond .eq 7, 3) := by decide +kernel
theorem dX1_foresee_104 : decode cX1_foresee 104 = .ok (.iconst 1, 1) := by decide +kernel
theorem dX1_foresee_105 : decode cX1_foresee 105 = .ok (.goto 4, 3) := by decide +kernel
theorem dX1_foresee_108 : decode cX1_foresee 108 = .ok (.iconst 0, 1) := by decide +kernel
theorem dX1_foresee_109 : decode cX1_foresee 109 = .ok (.iadd, 1) := by decide +kernel
theorem dX1_foresee_110 : decode cX1_foresee 110 = .ok (.istore 5, 2) := by decide +kernel
theorem dX1_foresee_112 : decode cX1_foresee 112 = .ok (.iinc 6 1, 3) := by decide +kernel
theorem dX1_foresee_115 : decode cX1_foresee 115 = .ok (.goto (-65), 3) := by decide +kernel
theorem dX1_foresee_118 : decode cX1_foresee 118 = .ok (.iload_n 2, 1) := by decide +kernel
theorem dX1_foresee_119 : decode cX1_foresee 119 = .ok (.ifCond .ne 7, 3) := by decide +kernel
theorem dX1_foresee_122 : decode cX1_foresee 122 = .ok (.iload_n 3, 1) := by decide +kernel
theorem dX1_foresee_123 : decode cX1_foresee 123 = .ok (.goto 15, 3) := by decide +kernel
theorem dX1_foresee_126 : decode cX1_foresee 126 = .ok (.iload_n 2, 1) := by decide +kernel
theorem dX1_foresee_127 : decode cX1_foresee 127 = .ok (.iconst 1, 1) := by decide +kernel
theorem dX1_foresee_128 : decode cX1_foresee 128 = .ok (.if_icmp .ne 8, 3) := by decide +kernel
theorem dX1_foresee_131 : decode cX1_foresee 131 = .ok (.iload 4, 2) := by decide +kernel
theorem dX1_foresee_133 : decode cX1_foresee 133 = .ok (.goto 5, 3) := by decide +kernel
theorem dX1_foresee_136 : decode cX1_foresee 136 = .ok (.iload 5, 2) := by decide +kernel
theorem dX1_foresee_138 : decode cX1_foresee 138 = .ok (.ireturn, 1) := by decide +kernel
set_option maxRecDepth 20000 in
theorem ggX1_mean_X1_allTrees : GoodIn wsX1_mean wsX1_allTrees := goodIn_r _ [6, 7, 8, 9, 5, 10, 11, 12, 13, 14, 15, 16, 17, 18, 19, 20, 21, 22, 23, 24] (by decide +kernel) (by decide +kernel)
set_option maxRecDepth 20000 in
theorem gX1_mean_X1_allTrees : GoodIn wsX1_mean (wsV RX1 134 RX1 yX1_allTrees wsX1_allTrees) := goodIn_app (goodIn_of _ (by decide +kernel)) ggX1_mean_X1_allTrees
theorem dX1_mean_0 : decode cX1_mean 0 = .ok (.aload_n 0, 1) := by decide +kernel
theorem dX1_mean_1 : decode cX1_mean 1 = .ok (.invokevirtual 134, 3) := by decide +kernel
theorem dX1_mean_4 : decode cX1_mean 4 = .ok (.istore_n 1, 1) := by decide +kernel
theorem dX1_mean_5 : decode cX1_mean 5 = .ok (.iload_n 1, 1) := by decide +kernel
theorem dX1_mean_6 : decode cX1_mean 6 = .ok (.ifCond .ne 5, 3) := by decide +kernel
theorem dX1_mean_9 : decode cX1_mean 9 = .ok (.dconst 0, 1) := by decide +kernel
theorem dX1_mean_10 : decode cX1_mean 10 = .ok (.dreturn, 1) := by decide +kernel
theorem dX1_mean_11 : decode cX1_mean 11 = .ok (.iconst 0, 1) := by decide +kernel
theorem dX1_mean_12 : decode cX1_mean 12 = .ok (.istore_n 2, 1) := by decide +kernel
theorem dX1_mean_13 : decode cX1_mean 13 = .ok (.iconst 0, 1) := by decide +kernel
theorem dX1_mean_14 : decode cX1_mean 14 = .ok (.istore_n 3, 1) := by decide +kernel
theorem dX1_mean_15 : decode cX1_mean 15 = .ok (.iload_n 3, 1) := by decide +kernel
theorem dX1_mean_16 : decode cX1_mean 16 = .ok (.bipush 40, 2) := by decide +kernel
theorem dX1_mean_18 : decode cX1_mean 18 = .ok (.if_icmp .ge 18, 3) := by decide +kernel
theorem dX1_mean_21 : decode cX1_mean 21 = .ok (.iload_n 2, 1) := by decide +kernel
theorem dX1_mean_22 : decode cX1_mean 22 = .ok (.aload_n 0, 1) := by decide +kernel
theorem dX1_mean_23 : decode cX1_mean 23 = .ok (.getfield 25, 3) := by decide +kernel
theorem dX1_mean_26 : decode cX1_mean 26 = .ok (.iload_n 3, 1) := by decide +kernel
theorem dX1_mean_27 : decode cX1_mean 27 = .ok (.iaload, 1) := by decide +kernel
theorem dX1_mean_28 : decode cX1_mean 28 = .ok (.iadd, 1) := by decide +kernel
theorem dX1_mean_29 : decode cX1_mean 29 = .ok (.istore_n 2, 1) := by decide +kernel
theorem dX1_mean_30 : decode cX1_mean 30 = .ok (.iinc 3 1, 3) := by decide +kernel
theorem dX1_mean_33 : decode cX1_mean 33 = .ok (.goto (-18), 3) := by decide +kernel
theorem dX1_mean_36 : decode cX1_mean 36 = .ok (.iload_n 2, 1) := by decide +kernel
theorem dX1_mean_37 : decode cX1_mean 37 = .ok (.i2d, 1) := by decide +kernel
theorem dX1_mean_38 : decode cX1_mean 38 = .ok (.iload_n 1, 1) := by decide +kernel
theorem dX1_mean_39 : decode cX1_mean 39 = .ok (.i2d, 1) := by decide +kernel
theorem dX1_mean_40 : decode cX1_mean 40 = .ok (.ddiv, 1) := by decide +kernel
theorem dX1_mean_41 : decode cX1_mean 41 = .ok (.dreturn, 1) := by decide +kernel
theorem dX1_isWithin_0 : decode cX1_isWithin 0 = .ok (.iload_n 0, 1) := by decide +kernel
theorem dX1_isWithin_1 : decode cX1_isWithin 1 = .ok (.iload_n 1, 1) := by decide +kernel
theorem dX1_isWithin_2 : decode cX1_isWithin 2 = .ok (.if_icmp .lt 12, 3) := by decide +kernel
theorem dX1_isWithin_5 : decode cX1_isWithin 5 = .ok (.iload_n 0, 1) := by decide +kernel
theorem dX1_isWithin_6 : decode cX1_isWithin 6 = .ok (.iload_n 2, 1) := by decide +kernel
theorem dX1_isWithin_7 : decode cX1_isWithin 7 = .ok (.if_icmp .gt 7, 3) := by decide +kernel
theorem dX1_isWithin_10 : decode cX1_isWithin 10 = .ok (.iconst 1, 1) := by decide +kernel
theorem dX1_isWithin_11 : decode cX1_isWithin 11 = .ok (.goto 4, 3) := by decide +kernel
theorem dX1_isWithin_14 : decode cX1_isWithin 14 = .ok (.iconst 0, 1) := by decide +kernel
theorem dX1_isWithin_15 : decode cX1_isWithin 15 = .ok (.ireturn, 1) := by decide +kernel
set_option maxRecDepth 20000 in
theorem ggX1_isSort_X1_isWithin : GoodIn wsX1_isSort wsX1_isWithin := goodIn_r _ [4] (by decide +kernel) (by decide +kernel)
set_option maxRecDepth 20000 in
theorem gX1_isSort_X1_isWithin : GoodIn wsX1_isSort (va_wsS RX1 72 yX1_isWithin wsX1_isWithin) := goodIn_app (goodIn_of _ (by decide +kernel)) ggX1_isSort_X1_isWithin
theorem dX1_isSort_0 : decode cX1_isSort 0 = .ok (.iload_n 0, 1) := by decide +kernel
theorem dX1_isSort_1 : decode cX1_isSort 1 = .ok (.iconst 0, 1) := by decide +kernel
theorem dX1_isSort_2 : decode cX1_isSort 2 = .ok (.iconst 5, 1) := by decide +kernel
theorem dX1_isSort_3 : decode cX1_isSort 3 = .ok (.invokestatic 72, 3) := by decide +kernel
theorem dX1_isSort_6 : decode cX1_isSort 6 = .ok (.ireturn, 1) := by decide +kernel
set_option maxRecDepth 20000 in
theorem ggX1_isPlace_X1_isWithin : GoodIn wsX1_isPlace wsX1_isWithin := goodIn_r _ [4] (by decide +kernel) (by decide +kernel)
set_option maxRecDepth 20000 in
theorem gX1_isPlace_X1_isWithin : GoodIn wsX1_isPlace (va_wsS RX1 72 yX1_isWithin wsX1_isWithin) := goodIn_app (goodIn_of _ (by decide +kernel)) ggX1_isPlace_X1_isWithin
theorem dX1_isPlace_0 : decode cX1_isPlace 0 = .ok (.iload_n 0, 1) := by decide +kernel
theorem dX1_isPlace_1 : decode cX1_isPlace 1 = .ok (.iconst 0, 1) := by decide +kernel
theorem dX1_isPlace_2 : decode cX1_isPlace 2 = .ok (.iconst 4, 1) := by decide +kernel
theorem dX1_isPlace_3 : decode cX1_isPlace 3 = .ok (.invokestatic 72, 3) := by decide +kernel
theorem dX1_isPlace_6 : decode cX1_isPlace 6 = .ok (.ifCond .eq 17, 3) := by decide +kernel
theorem dX1_isPlace_9 : decode cX1_isPlace 9 = .ok (.iload_n 1, 1) := by decide +kernel
theorem dX1_isPlace_10 : decode cX1_isPlace 10 = .ok (.iconst 0, 1) := by decide +kernel
theorem dX1_isPlace_11 : decode cX1_isPlace 11 = .ok (.bipush 7, 2) := by decide +kernel
theorem dX1_isPlace_13 : decode cX1_isPlace 13 = .ok (.invokestatic 72, 3) := by decide +kernel
theorem dX1_isPlace_16 : decode cX1_isPlace 16 = .ok (.ifCond .eq 7, 3) := by decide +kernel
theorem dX1_isPlace_19 : decode cX1_isPlace 19 = .ok (.iconst 1, 1) := by decide +kernel
theorem dX1_isPlace_20 : decode cX1_isPlace 20 = .ok (.goto 4, 3) := by decide +kernel
theorem dX1_isPlace_23 : decode cX1_isPlace 23 = .ok (.iconst 0, 1) := by decide +kernel
theorem dX1_isPlace_24 : decode cX1_isPlace 24 = .ok (.ireturn, 1) := by decide +kernel
theorem dX1_spotOf_0 : decode cX1_spotOf 0 = .ok (.iload_n 0, 1) := by decide +kernel
theorem dX1_spotOf_1 : decode cX1_spotOf 1 = .ok (.bipush 8, 2) := by decide +kernel
theorem dX1_spotOf_3 : decode cX1_spotOf 3 = .ok (.imul, 1) := by decide +kernel
theorem dX1_spotOf_4 : decode cX1_spotOf 4 = .ok (.iload_n 1, 1) := by decide +kernel
theorem dX1_spotOf_5 : decode cX1_spotOf 5 = .ok (.iadd, 1) := by decide +kernel
theorem dX1_spotOf_6 : decode cX1_spotOf 6 = .ok (.ireturn, 1) := by decide +kernel
theorem dX1_mirrorOf_0 : decode cX1_mirrorOf 0 = .ok (.iload_n 0, 1) := by decide +kernel
theorem dX1_mirrorOf_1 : decode cX1_mirrorOf 1 = .ok (.bipush 8, 2) := by decide +kernel
theorem dX1_mirrorOf_3 : decode cX1_mirrorOf 3 = .ok (.irem, 1) := by decide +kernel
theorem dX1_mirrorOf_4 : decode cX1_mirrorOf 4 = .ok (.istore_n 1, 1) := by decide +kernel
theorem dX1_mirrorOf_5 : decode cX1_mirrorOf 5 = .ok (.iload_n 0, 1) := by decide +kernel
theorem dX1_mirrorOf_6 : decode cX1_mirrorOf 6 = .ok (.iload_n 1, 1) := by decide +kernel
theorem dX1_mirrorOf_7 : decode cX1_mirrorOf 7 = .ok (.isub, 1) := by decide +kernel
theorem dX1_mirrorOf_8 : decode cX1_mirrorOf 8 = .ok (.bipush 7, 2) := by decide +kernel
theorem dX1_mirrorOf_10 : decode cX1_mirrorOf 10 = .ok (.iload_n 1, 1) := by decide +kernel
theorem dX1_mirrorOf_11 : decode cX1_mirrorOf 11 = .ok (.isub, 1) := by decide +kernel
theorem dX1_mirrorOf_12 : decode cX1_mirrorOf 12 = .ok (.iadd, 1) := by decide +kernel
theorem dX1_mirrorOf_13 : decode cX1_mirrorOf 13 = .ok (.ireturn, 1) := by decide +kernel
theorem dX1_twinOf_0 : decode cX1_twinOf 0 = .ok (.iload_n 0, 1) := by decide +kernel
theorem dX1_twinOf_1 : decode cX1_twinOf 1 = .ok (.bipush 8, 2) := by decide +kernel
theorem dX1_twinOf_3 : decode cX1_twinOf 3 = .ok (.irem, 1) := by decide +kernel
theorem dX1_twinOf_4 : decode cX1_twinOf 4 = .ok (.iconst 4, 1) := by decide +kernel
theorem dX1_twinOf_5 : decode cX1_twinOf 5 = .ok (.if_icmp .ge 7, 3) := by decide +kernel
theorem dX1_twinOf_8 : decode cX1_twinOf 8 = .ok (.iconst 0, 1) := by decide +kernel
theorem dX1_twinOf_9 : decode cX1_twinOf 9 = .ok (.goto 4, 3) := by decide +kernel
theorem dX1_twinOf_12 : decode cX1_twinOf 12 = .ok (.iconst 1, 1) := by decide +kernel
theorem dX1_twinOf_13 : decode cX1_twinOf 13 = .ok (.ireturn, 1) := by decide +kernel
theorem dX1_hasTree_0 : decode cX1_hasTree 0 = .ok (.aload_n 0, 1) := by decide +kernel
theorem dX1_hasTree_1 : decode cX1_hasTree 1 = .ok (.getfield 22, 3) := by decide +kernel
theorem dX1_hasTree_4 : decode cX1_hasTree 4 = .ok (.iload_n 1, 1) := by decide +kernel
theorem dX1_hasTree_5 : decode cX1_hasTree 5 = .ok (.iaload, 1) := by decide +kernel
theorem dX1_hasTree_6 : decode cX1_hasTree 6 = .ok (.iconst (-1), 1) := by decide +kernel
theorem dX1_hasTree_7 : decode cX1_hasTree 7 = .ok (.if_icmp .eq 7, 3) := by decide +kernel
theorem dX1_hasTree_10 : decode cX1_hasTree 10 = .ok (.iconst 1, 1) := by decide +kernel
theorem dX1_hasTree_11 : decode cX1_hasTree 11 = .ok (.goto 4, 3) := by decide +kernel
theorem dX1_hasTree_14 : decode cX1_hasTree 14 = .ok (.iconst 0, 1) := by decide +kernel
theorem dX1_hasTree_15 : decode cX1_hasTree 15 = .ok (.ireturn, 1) := by decide +kernel
theorem dX1_whoDidIt_0 : decode cX1_whoDidIt 0 = .ok (.iload_n 0, 1) := by decide +kernel
theorem dX1_whoDidIt_1 : decode cX1_whoDidIt 1 = .ok (.ifCond .eq 7, 3) := by decide +kernel
theorem dX1_whoDidIt_4 : decode cX1_whoDidIt 4 = .ok (.iconst 1, 1) := by decide +kernel
theorem dX1_whoDidIt_5 : decode cX1_whoDidIt 5 = .ok (.goto 4, 3) := by decide +kernel
theorem dX1_whoDidIt_8 : decode cX1_whoDidIt 8 = .ok (.iconst 0, 1) := by decide +kernel
theorem dX1_whoDidIt_9 : decode cX1_whoDidIt 9 = .ok (.iload_n 1, 1) := by decide +kernel
theorem dX1_whoDidIt_10 : decode cX1_whoDidIt 10 = .ok (.ifCond .eq 7, 3) := by decide +kernel
theorem dX1_whoDidIt_13 : decode cX1_whoDidIt 13 = .ok (.iconst 2, 1) := by decide +kernel
theorem dX1_whoDidIt_14 : decode cX1_whoDidIt 14 = .ok (.goto 4, 3) := by decide +kernel
theorem dX1_whoDidIt_17 : decode cX1_whoDidIt 17 = .ok (.iconst 0, 1) := by decide +kernel
theorem dX1_whoDidIt_18 : decode cX1_whoDidIt 18 = .ok (.iadd, 1) := by decide +kernel
theorem dX1_whoDidIt_19 : decode cX1_whoDidIt 19 = .ok (.ireturn, 1) := by decide +kernel
set_option maxRecDepth 20000 in
theorem ggX1_canPay_X1_twinOf : GoodIn wsX1_canPay wsX1_twinOf := goodIn_r _ [5] (by decide +kernel) (by decide +kernel)
set_option maxRecDepth 20000 in
theorem gX1_canPay_X1_twinOf : GoodIn wsX1_canPay (va_wsS RX1 202 yX1_twinOf wsX1_twinOf) := goodIn_app (goodIn_of _ (by decide +kernel)) ggX1_canPay_X1_twinOf
theorem dX1_canPay_0 : decode cX1_canPay 0 = .ok (.aload_n 0, 1) := by decide +kernel
theorem dX1_canPay_1 : decode cX1_canPay 1 = .ok (.getfield 35, 3) := by decide +kernel
theorem dX1_canPay_4 : decode cX1_canPay 4 = .ok (.iload_n 1, 1) := by decide +kernel
theorem dX1_canPay_5 : decode cX1_canPay 5 = .ok (.invokestatic 202, 3) := by decide +kernel
theorem dX1_canPay_8 : decode cX1_canPay 8 = .ok (.iaload, 1) := by decide +kernel
theorem dX1_canPay_9 : decode cX1_canPay 9 = .ok (.iload_n 2, 1) := by decide +kernel
theorem dX1_canPay_10 : decode cX1_canPay 10 = .ok (.if_icmp .lt 7, 3) := by decide +kernel
theorem dX1_canPay_13 : decode cX1_canPay 13 = .ok (.iconst 1, 1) := by decide +kernel
theorem dX1_canPay_14 : decode cX1_canPay 14 = .ok (.goto 4, 3) := by decide +kernel
theorem dX1_canPay_17 : decode cX1_canPay 17 = .ok (.iconst 0, 1) := by decide +kernel
theorem dX1_canPay_18 : decode cX1_canPay 18 = .ok (.ireturn, 1) := by decide +kernel
set_option maxRecDepth 20000 in
theorem ggX1_pay_X1_twinOf : GoodIn wsX1_pay wsX1_twinOf := goodIn_r _ [5] (by decide +kernel) (by decide +kernel)
set_option maxRecDepth 20000 in
theorem gX1_pay_X1_twinOf : GoodIn wsX1_pay (va_wsS RX1 202 yX1_twinOf wsX1_twinOf) := goodIn_app (goodIn_of _ (by decide +kernel)) ggX1_pay_X1_twinOf
theorem dX1_pay_0 : decode cX1_pay 0 = .ok (.aload_n 0, 1) := by decide +kernel
theorem dX1_pay_1 : decode cX1_pay 1 = .ok (.getfield 35, 3) := by decide +kernel
theorem dX1_pay_4 : decode cX1_pay 4 = .ok (.iload_n 1, 1) := by decide +kernel
theorem dX1_pay_5 : decode cX1_pay 5 = .ok (.invokestatic 202, 3) := by decide +kernel
theorem dX1_pay_8 : decode cX1_pay 8 = .ok (.dup2, 1) := by decide +kernel
theorem dX1_pay_9 : decode cX1_pay 9 = .ok (.iaload, 1) := by decide +kernel
theorem dX1_pay_10 : decode cX1_pay 10 = .ok (.iload_n 2, 1) := by decide +kernel
theorem dX1_pay_11 : decode cX1_pay 11 = .ok (.isub, 1) := by decide +kernel
theorem dX1_pay_12 : decode cX1_pay 12 = .ok (.iastore, 1) := by decide +kernel
theorem dX1_pay_13 : decode cX1_pay 13 = .ok (.return_, 1) := by decide +kernel
set_option maxRecDepth 20000 in
theorem ggX1_plantAt_X1_hasTree : GoodIn wsX1_plantAt wsX1_hasTree := goodIn_r _ [9, 1, 22, 23, 24, 25, 26, 27, 28, 29, 30, 31, 32, 33, 34] (by decide +kernel) (by decide +kernel)
set_option maxRecDepth 20000 in
theorem gX1_plantAt_X1_hasTree : GoodIn wsX1_plantAt (wsV RX1 121 RX1 yX1_hasTree wsX1_hasTree) := goodIn_app (goodIn_of _ (by decide +kernel)) ggX1_plantAt_X1_hasTree
set_option maxRecDepth 20000 in
theorem ggX1_plantAt_X1_canPay : GoodIn wsX1_plantAt wsX1_canPay := goodIn_r _ [13, 14, 15, 16, 8, 17, 22, 23, 24, 25, 26, 27, 28, 29, 30, 31, 32, 33, 34] (by decide +kernel) (by decide +kernel)
set_option maxRecDepth 20000 in
theorem gX1_plantAt_X1_canPay : GoodIn wsX1_plantAt (wsV RX1 205 RX1 yX1_canPay wsX1_canPay) := goodIn_app (goodIn_of _ (by decide +kernel)) ggX1_plantAt_X1_canPay
set_option maxRecDepth 20000 in
theorem ggX1_plantAt_X1_pay : GoodIn wsX1_plantAt wsX1_pay := goodIn_r _ [21, 14, 15, 16, 8, 17, 22, 23, 24, 25, 26, 27, 28, 29, 30, 31, 32, 33, 34] (by decide +kernel) (by decide +kernel)
set_option maxRecDepth 20000 in
theorem gX1_plantAt_X1_pay : GoodIn wsX1_plantAt (wsV RX1 208 RX1 yX1_pay wsX1_pay) := goodIn_app (goodIn_of _ (by decide +kernel)) ggX1_plantAt_X1_pay
theorem dX1_plantAt_0 : decode cX1_plantAt 0 = .ok (.aload_n 0, 1) := by decide +kernel
theorem dX1_plantAt_1 : decode cX1_plantAt 1 = .ok (.iload_n 1, 1) := by decide +kernel
theorem dX1_plantAt_2 : decode cX1_plantAt 2 = .ok (.invokevirtual 121, 3) := by decide +kernel
theorem dX1_plantAt_5 : decode cX1_plantAt 5 = .ok (.ifCond .ne 12, 3) := by decide +kernel
theorem dX1_plantAt_8 : decode cX1_plantAt 8 = .ok (.aload_n 0, 1) := by decide +kernel
theorem dX1_plantAt_9 : decode cX1_plantAt 9 = .ok (.iload_n 1, 1) := by decide +kernel
theorem dX1_plantAt_10 : decode cX1_plantAt 10 = .ok (.iconst 5, 1) := by decide +kernel
theorem dX1_plantAt_11 : decode cX1_plantAt 11 = .ok (.invokevirtual 205, 3) := by decide +kernel
theorem dX1_plantAt_14 : decode cX1_plantAt 14 = .ok (.ifCond .ne 5, 3) := by decide +kernel
theorem dX1_plantAt_17 : decode cX1_plantAt 17 = .ok (.iconst 0, 1) := by decide +kernel
theorem dX1_plantAt_18 : decode cX1_plantAt 18 = .ok (.ireturn, 1) := by decide +kernel
theorem dX1_plantAt_19 : decode cX1_plantAt 19 = .ok (.aload_n 0, 1) := by decide +kernel
theorem dX1_plantAt_20 : decode cX1_plantAt 20 = .ok (.iload_n 1, 1) := by decide +kernel
theorem dX1_plantAt_21 : decode cX1_plantAt 21 = .ok (.iconst 5, 1) := by decide +kernel
theorem dX1_plantAt_22 : decode cX1_plantAt 22 = .ok (.invokevirtual 208, 3) := by decide +kernel
theorem dX1_plantAt_25 : decode cX1_plantAt 25 = .ok (.aload_n 0, 1) := by decide +kernel
theorem dX1_plantAt_26 : decode cX1_plantAt 26 = .ok (.getfield 22, 3) := by decide +kernel
theorem dX1_plantAt_29 : decode cX1_plantAt 29 = .ok (.iload_n 1, 1) := by decide +kernel
theorem dX1_plantAt_30 : decode cX1_plantAt 30 = .ok (.iload_n 2, 1) := by decide +kernel
theorem dX1_plantAt_31 : decode cX1_plantAt 31 = .ok (.iastore, 1) := by decide +kernel
theorem dX1_plantAt_32 : decode cX1_plantAt 32 = .ok (.aload_n 0, 1) := by decide +kernel
theorem dX1_plantAt_33 : decode cX1_plantAt 33 = .ok (.getfield 25, 3) := by decide +kernel
theorem dX1_plantAt_36 : decode cX1_plantAt 36 = .ok (.iload_n 1, 1) := by decide +kernel
theorem dX1_plantAt_37 : decode cX1_plantAt 37 = .ok (.iconst 1, 1) := by decide +kernel
theorem dX1_plantAt_38 : decode cX1_plantAt 38 = .ok (.iastore, 1) := by decide +kernel
theorem dX1_plantAt_39 : decode cX1_plantAt 39 = .ok (.aload_n 0, 1) := by decide +kernel
theorem dX1_plantAt_40 : decode cX1_plantAt 40 = .ok (.getfield 28, 3) := by decide +kernel
theorem dX1_plantAt_43 : decode cX1_plantAt 43 = .ok (.iload_n 1, 1) := by decide +kernel
theorem dX1_plantAt_44 : decode cX1_plantAt 44 = .ok (.iload_n 3, 1) := by decide +kernel
theorem dX1_plantAt_45 : decode cX1_plantAt 45 = .ok (.iastore, 1) := by decide +kernel
theorem dX1_plantAt_46 : decode cX1_plantAt 46 = .ok (.aload_n 0, 1) := by decide +kernel
theorem dX1_plantAt_47 : decode cX1_plantAt 47 = .ok (.getfield 31, 3) := by decide +kernel
theorem dX1_plantAt_50 : decode cX1_plantAt 50 = .ok (.iload_n 1, 1) := by decide +kernel
theorem dX1_plantAt_51 : decode cX1_plantAt 51 = .ok (.iconst 0, 1) := by decide +kernel
theorem dX1_plantAt_52 : decode cX1_plantAt 52 = .ok (.bastore, 1) := by decide +kernel
theorem dX1_plantAt_53 : decode cX1_plantAt 53 = .ok (.iconst 1, 1) := by decide +kernel
theorem dX1_plantAt_54 : decode cX1_plantAt 54 = .ok (.ireturn, 1) := by decide +kernel
set_option maxRecDepth 20000 in
theorem ggX1_canPrune_X1_hasTree : GoodIn wsX1_canPrune wsX1_hasTree := goodIn_r _ [6, 7, 16, 17, 18, 19, 20, 21, 22, 23, 24, 25, 26, 27, 28] (by decide +kernel) (by decide +kernel)
set_option maxRecDepth 20000 in
theorem gX1_canPrune_X1_hasTree : GoodIn wsX1_canPrune (wsV RX1 121 RX1 yX1_hasTree wsX1_hasTree) := goodIn_app (goodIn_of _ (by decide +kernel)) ggX1_canPrune_X1_hasTree
set_option maxRecDepth 20000 in
theorem ggX1_canPrune_X1_canPay : GoodIn wsX1_canPrune wsX1_canPay := goodIn_r _ [11, 12, 13, 14, 5, 15, 16, 17, 18, 19, 20, 21, 22, 23, 24, 25, 26, 27, 28] (by decide +kernel) (by decide +kernel)
set_option maxRecDepth 20000 in
theorem gX1_canPrune_X1_canPay : GoodIn wsX1_canPrune (wsV RX1 205 RX1 yX1_canPay wsX1_canPay) := goodIn_app (goodIn_of _ (by decide +kernel)) ggX1_canPrune_X1_canPay
theorem dX1_canPrune_0 : decode cX1_canPrune 0 = .ok (.aload_n 0, 1) := by decide +kernel
theorem dX1_canPrune_1 : decode cX1_canPrune 1 = .ok (.iload_n 1, 1) := by decide +kernel
theorem dX1_canPrune_2 : decode cX1_canPrune 2 = .ok (.invokevirtual 121, 3) := by decide +kernel
theorem dX1_canPrune_5 : decode cX1_canPrune 5 = .ok (.ifCond .eq 26, 3) := by decide +kernel
theorem dX1_canPrune_8 : decode cX1_canPrune 8 = .ok (.aload_n 0, 1) := by decide +kernel
theorem dX1_canPrune_9 : decode cX1_canPrune 9 = .ok (.getfield 25, 3) := by decide +kernel
theorem dX1_canPrune_12 : decode cX1_canPrune 12 = .ok (.iload_n 1, 1) := by decide +kernel
theorem dX1_canPrune_13 : decode cX1_canPrune 13 = .ok (.iaload, 1) := by decide +kernel
theorem dX1_canPrune_14 : decode cX1_canPrune 14 = .ok (.iload_n 2, 1) := by decide +kernel
theorem dX1_canPrune_15 : decode cX1_canPrune 15 = .ok (.if_icmp .lt 16, 3) := by decide +kernel
theorem dX1_canPrune_18 : decode cX1_canPrune 18 = .ok (.aload_n 0, 1) := by decide +kernel
theorem dX1_canPrune_19 : decode cX1_canPrune 19 = .ok (.iload_n 1, 1) := by decide +kernel
theorem dX1_canPrune_20 : decode cX1_canPrune 20 = .ok (.iconst 2, 1) := by decide +kernel
theorem dX1_canPrune_21 : decode cX1_canPrune 21 = .ok (.invokevirtual 205, 3) := by decide +kernel
theorem dX1_canPrune_24 : decode cX1_canPrune 24 = .ok (.ifCond .eq 7, 3) := by decide +kernel
theorem dX1_canPrune_27 : decode cX1_canPrune 27 = .ok (.iconst 1, 1) := by decide +kernel
theorem dX1_canPrune_28 : decode cX1_canPrune 28 = .ok (.goto 4, 3) := by decide +kernel
theorem dX1_canPrune_31 : decode cX1_canPrune 31 = .ok (.iconst 0, 1) := by decide +kernel
theorem dX1_canPrune_32 : decode cX1_canPrune 32 = .ok (.ireturn, 1) := by decide +kernel
set_option maxRecDepth 20000 in
theorem ggX1_pruneAt_X1_canPrune : GoodIn wsX1_pruneAt wsX1_canPrune := goodIn_r _ [6, 7, 8, 9, 10, 5, 11, 12, 13, 14, 15, 16, 17, 18, 19, 20, 42, 43, 44, 45, 46, 47, 48, 49, 50, 51, 52, 53, 54] (by decide +kernel) (by decide +kernel)
set_option maxRecDepth 20000 in
theorem gX1_pruneAt_X1_canPrune : GoodIn wsX1_pruneAt (wsV RX1 212 RX1 yX1_canPrune wsX1_canPrune) := goodIn_app (goodIn_of _ (by decide +kernel)) ggX1_pruneAt_X1_canPrune
set_option maxRecDepth 20000 in
theorem ggX1_pruneAt_X1_pay : GoodIn wsX1_pruneAt wsX1_pay := goodIn_r _ [24, 17, 18, 19, 5, 20, 42, 43, 44, 45, 46, 47, 48, 49, 50, 51, 52, 53, 54] (by decide +kernel) (by decide +kernel)
set_option maxRecDepth 20000 in
theorem gX1_pruneAt_X1_pay : GoodIn wsX1_pruneAt (wsV RX1 208 RX1 yX1_pay wsX1_pay) := goodIn_app (goodIn_of _ (by decide +kernel)) ggX1_pruneAt_X1_pay
set_option maxRecDepth 20000 in
theorem ggX1_pruneAt_X1_lookAt : GoodIn wsX1_pruneAt wsX1_lookAt := goodIn_r _ [28, 1, 29, 7, 30, 31, 12, 8, 9, 10, 5, 11, 42, 43, 44, 45, 46, 47, 48, 49, 50, 51, 52, 53, 54, 55, 56, 57, 58] (by decide +kernel) (by decide +kernel)
set_option maxRecDepth 20000 in
theorem gX1_pruneAt_X1_lookAt : GoodIn wsX1_pruneAt (wsV RX1 170 RX1 yX1_lookAt wsX1_lookAt) := goodIn_app (goodIn_of _ (by decide +kernel)) ggX1_pruneAt_X1_lookAt
set_option maxRecDepth 20000 in
theorem ggX1_pruneAt_X0_shorten : GoodIn wsX1_pruneAt wsX0_shorten := goodIn_r _ [35, 36, 37, 55, 56, 57, 58] (by decide +kernel) (by decide +kernel)
set_option maxRecDepth 20000 in
theorem gX1_pruneAt_X0_shorten_n215 : GoodIn wsX1_pruneAt (wsX0_shorten) := ggX1_pruneAt_X0_shorten
set_option maxRecDepth 20000 in
theorem ggX1_pruneAt_X1_keepLooked : GoodIn wsX1_pruneAt wsX1_keepLooked := goodIn_r _ [41, 7, 1, 30, 42, 43, 44, 45, 46, 47, 48, 49, 50, 51, 52, 53, 54, 55, 56, 57, 58] (by decide +kernel) (by decide +kernel)
set_option maxRecDepth 20000 in
theorem gX1_pruneAt_X1_keepLooked : GoodIn wsX1_pruneAt (wsV RX1 218 RX1 yX1_keepLooked wsX1_keepLooked) := goodIn_app (goodIn_of _ (by decide +kernel)) ggX1_pruneAt_X1_keepLooked
theorem dX1_pruneAt_0 : decode cX1_pruneAt 0 = .ok (.aload_n 0, 1) := by decide +kernel
theorem dX1_pruneAt_1 : decode cX1_pruneAt 1 = .ok (.iload_n 1, 1) := by decide +kernel
theorem dX1_pruneAt_2 : decode cX1_pruneAt 2 = .ok (.iload_n 2, 1) := by decide +kernel
theorem dX1_pruneAt_3 : decode cX1_pruneAt 3 = .ok (.invokevirtual 212, 3) := by decide +kernel
theorem dX1_pruneAt_6 : decode cX1_pruneAt 6 = .ok (.ifCond .ne 5, 3) := by decide +kernel
theorem dX1_pruneAt_9 : decode cX1_pruneAt 9 = .ok (.iconst 0, 1) := by decide +kernel
theorem dX1_pruneAt_10 : decode cX1_pruneAt 10 = .ok (.ireturn, 1) := by decide +kernel
theorem dX1_pruneAt_11 : decode cX1_pruneAt 11 = .ok (.aload_n 0, 1) := by decide +kernel
theorem dX1_pruneAt_12 : decode cX1_pruneAt 12 = .ok (.iload_n 1, 1) := by decide +kernel
theorem dX1_pruneAt_13 : decode cX1_pruneAt 13 = .ok (.iconst 2, 1) := by decide +kernel
theorem dX1_pruneAt_14 : decode cX1_pruneAt 14 = .ok (.invokevirtual 208, 3) := by decide +kernel
theorem dX1_pruneAt_17 : decode cX1_pruneAt 17 = .ok (.aload_n 0, 1) := by decide +kernel
theorem dX1_pruneAt_18 : decode cX1_pruneAt 18 = .ok (.iload_n 1, 1) := by decide +kernel
theorem dX1_pruneAt_19 : decode cX1_pruneAt 19 = .ok (.invokevirtual 170, 3) := by decide +kernel
theorem dX1_pruneAt_22 : decode cX1_pruneAt 22 = .ok (.aload_n 0, 1) := by decide +kernel
theorem dX1_pruneAt_23 : decode cX1_pruneAt 23 = .ok (.getfield 48, 3) := by decide +kernel
theorem dX1_pruneAt_26 : decode cX1_pruneAt 26 = .ok (.iload_n 2, 1) := by decide +kernel
theorem dX1_pruneAt_27 : decode cX1_pruneAt 27 = .ok (.invokevirtual 215, 3) := by decide +kernel
theorem dX1_pruneAt_30 : decode cX1_pruneAt 30 = .ok (.aload_n 0, 1) := by decide +kernel
theorem dX1_pruneAt_31 : decode cX1_pruneAt 31 = .ok (.iload_n 1, 1) := by decide +kernel
theorem dX1_pruneAt_32 : decode cX1_pruneAt 32 = .ok (.invokevirtual 218, 3) := by decide +kernel
theorem dX1_pruneAt_35 : decode cX1_pruneAt 35 = .ok (.iconst 1, 1) := by decide +kernel
theorem dX1_pruneAt_36 : decode cX1_pruneAt 36 = .ok (.ireturn, 1) := by decide +kernel
set_option maxRecDepth 20000 in
theorem ggX1_graftAt_X1_hasTree : GoodIn wsX1_graftAt wsX1_hasTree := goodIn_r _ [11, 1, 24, 25, 26, 27, 28, 29, 30, 31, 32, 33, 34, 35, 36] (by decide +kernel) (by decide +kernel)
set_option maxRecDepth 20000 in
theorem gX1_graftAt_X1_hasTree : GoodIn wsX1_graftAt (wsV RX1 121 RX1 yX1_hasTree wsX1_hasTree) := goodIn_app (goodIn_of _ (by decide +kernel)) ggX1_graftAt_X1_hasTree
set_option maxRecDepth 20000 in
theorem ggX1_graftAt_X1_canPay : GoodIn wsX1_graftAt wsX1_canPay := goodIn_r _ [15, 16, 17, 18, 10, 19, 24, 25, 26, 27, 28, 29, 30, 31, 32, 33, 34, 35, 36] (by decide +kernel) (by decide +kernel)
set_option maxRecDepth 20000 in
theorem gX1_graftAt_X1_canPay : GoodIn wsX1_graftAt (wsV RX1 205 RX1 yX1_canPay wsX1_canPay) := goodIn_app (goodIn_of _ (by decide +kernel)) ggX1_graftAt_X1_canPay
set_option maxRecDepth 20000 in
theorem ggX1_graftAt_X1_pay : GoodIn wsX1_graftAt wsX1_pay := goodIn_r _ [23, 16, 17, 18, 10, 19, 24, 25, 26, 27, 28, 29, 30, 31, 32, 33, 34, 35, 36] (by decide +kernel) (by decide +kernel)
set_option maxRecDepth 20000 in
theorem gX1_graftAt_X1_pay : GoodIn wsX1_graftAt (wsV RX1 208 RX1 yX1_pay wsX1_pay) := goodIn_app (goodIn_of _ (by decide +kernel)) ggX1_graftAt_X1_pay
theorem dX1_graftAt_0 : decode cX1_graftAt 0 = .ok (.aload_n 0, 1) := by decide +kernel
theorem dX1_graftAt_1 : decode cX1_graftAt 1 = .ok (.iload_n 1, 1) := by decide +kernel
theorem dX1_graftAt_2 : decode cX1_graftAt 2 = .ok (.invokevirtual 121, 3) := by decide +kernel
theorem dX1_graftAt_5 : decode cX1_graftAt 5 = .ok (.ifCond .eq 32, 3) := by decide +kernel
theorem dX1_graftAt_8 : decode cX1_graftAt 8 = .ok (.aload_n 0, 1) := by decide +kernel
theorem dX1_graftAt_9 : decode cX1_graftAt 9 = .ok (.getfield 22, 3) := by decide +kernel
theorem dX1_graftAt_12 : decode cX1_graftAt 12 = .ok (.iload_n 1, 1) := by decide +kernel
theorem dX1_graftAt_13 : decode cX1_graftAt 13 = .ok (.iaload, 1) := by decide +kernel
theorem dX1_graftAt_14 : decode cX1_graftAt 14 = .ok (.iload_n 2, 1) := by decide +kernel
theorem dX1_graftAt_15 : decode cX1_graftAt 15 = .ok (.if_icmp .eq 22, 3) := by decide +kernel
theorem dX1_graftAt_18 : decode cX1_graftAt 18 = .ok (.aload_n 0, 1) := by decide +kernel
theorem dX1_graftAt_19 : decode cX1_graftAt 19 = .ok (.getfield 25, 3) := by decide +kernel
theorem dX1_graftAt_22 : decode cX1_graftAt 22 = .ok (.iload_n 1, 1) := by decide +kernel
theorem dX1_graftAt_23 : decode cX1_graftAt 23 = .ok (.iaload, 1) := by decide +kernel
theorem dX1_graftAt_24 : decode cX1_graftAt 24 = .ok (.iconst 1, 1) := by decide +kernel
theorem dX1_graftAt_25 : decode cX1_graftAt 25 = .ok (.if_icmp .lt 12, 3) := by decide +kernel
theorem dX1_graftAt_28 : decode cX1_graftAt 28 = .ok (.aload_n 0, 1) := by decide +kernel
theorem dX1_graftAt_29 : decode cX1_graftAt 29 = .ok (.iload_n 1, 1) := by decide +kernel
theorem dX1_graftAt_30 : decode cX1_graftAt 30 = .ok (.iconst 4, 1) := by decide +kernel
theorem dX1_graftAt_31 : decode cX1_graftAt 31 = .ok (.invokevirtual 205, 3) := by decide +kernel
theorem dX1_graftAt_34 : decode cX1_graftAt 34 = .ok (.ifCond .ne 5, 3) := by decide +kernel
theorem dX1_graftAt_37 : decode cX1_graftAt 37 = .ok (.iconst 0, 1) := by decide +kernel
theorem dX1_graftAt_38 : decode cX1_graftAt 38 = .ok (.ireturn, 1) := by decide +kernel
theorem dX1_graftAt_39 : decode cX1_graftAt 39 = .ok (.aload_n 0, 1) := by decide +kernel
theorem dX1_graftAt_40 : decode cX1_graftAt 40 = .ok (.iload_n 1, 1) := by decide +kernel
theorem dX1_graftAt_41 : decode cX1_graftAt 41 = .ok (.iconst 4, 1) := by decide +kernel
theorem dX1_graftAt_42 : decode cX1_graftAt 42 = .ok (.invokevirtual 208, 3) := by decide +kernel
theorem dX1_graftAt_45 : decode cX1_graftAt 45 = .ok (.aload_n 0, 1) := by decide +kernel
theorem dX1_graftAt_46 : decode cX1_graftAt 46 = .ok (.getfield 22, 3) := by decide +kernel
theorem dX1_graftAt_49 : decode cX1_graftAt 49 = .ok (.iload_n 1, 1) := by decide +kernel
theorem dX1_graftAt_50 : decode cX1_graftAt 50 = .ok (.iload_n 2, 1) := by decide +kernel
theorem dX1_graftAt_51 : decode cX1_graftAt 51 = .ok (.iastore, 1) := by decide +kernel
theorem dX1_graftAt_52 : decode cX1_graftAt 52 = .ok (.aload_n 0, 1) := by decide +kernel
theorem dX1_graftAt_53 : decode cX1_graftAt 53 = .ok (.getfield 25, 3) := by decide +kernel
theorem dX1_graftAt_56 : decode cX1_graftAt 56 = .ok (.iload_n 1, 1) := by decide +kernel
theorem dX1_graftAt_57 : decode cX1_graftAt 57 = .ok (.iconst 1, 1) := by decide +kernel
theorem dX1_graftAt_58 : decode cX1_graftAt 58 = .ok (.aload_n 0, 1) := by decide +kernel
theorem dX1_graftAt_59 : decode cX1_graftAt 59 = .ok (.getfield 25, 3) := by decide +kernel
theorem dX1_graftAt_62 : decode cX1_graftAt 62 = .ok (.iload_n 1, 1) := by decide +kernel
theorem dX1_graftAt_63 : decode cX1_graftAt 63 = .ok (.iaload, 1) := by decide +kernel
theorem dX1_graftAt_64 : decode cX1_graftAt 64 = .ok (.iconst 2, 1) := by decide +kernel
theorem dX1_graftAt_65 : decode cX1_graftAt 65 = .ok (.idiv, 1) := by decide +kernel
theorem dX1_graftAt_66 : decode cX1_graftAt 66 = .ok (.invokestatic 221, 3) := by decide +kernel
theorem dX1_graftAt_69 : decode cX1_graftAt 69 = .ok (.iastore, 1) := by decide +kernel
theorem dX1_graftAt_70 : decode cX1_graftAt 70 = .ok (.iconst 1, 1) := by decide +kernel
theorem dX1_graftAt_71 : decode cX1_graftAt 71 = .ok (.ireturn, 1) := by decide +kernel
set_option maxRecDepth 20000 in
theorem ggX1_fellAt_X1_hasTree : GoodIn wsX1_fellAt wsX1_hasTree := goodIn_r _ [9, 1, 22, 23, 24, 25, 26, 27, 28, 29, 30, 31, 32, 33, 34] (by decide +kernel) (by decide +kernel)
set_option maxRecDepth 20000 in
theorem gX1_fellAt_X1_hasTree : GoodIn wsX1_fellAt (wsV RX1 121 RX1 yX1_hasTree wsX1_hasTree) := goodIn_app (goodIn_of _ (by decide +kernel)) ggX1_fellAt_X1_hasTree
set_option maxRecDepth 20000 in
theorem ggX1_fellAt_X1_canPay : GoodIn wsX1_fellAt wsX1_canPay := goodIn_r _ [13, 14, 15, 16, 8, 17, 22, 23, 24, 25, 26, 27, 28, 29, 30, 31, 32, 33, 34] (by decide +kernel) (by decide +kernel)
set_option maxRecDepth 20000 in
theorem gX1_fellAt_X1_canPay : GoodIn wsX1_fellAt (wsV RX1 205 RX1 yX1_canPay wsX1_canPay) := goodIn_app (goodIn_of _ (by decide +kernel)) ggX1_fellAt_X1_canPay
set_option maxRecDepth 20000 in
theorem ggX1_fellAt_X1_pay : GoodIn wsX1_fellAt wsX1_pay := goodIn_r _ [21, 14, 15, 16, 8, 17, 22, 23, 24, 25, 26, 27, 28, 29, 30, 31, 32, 33, 34] (by decide +kernel) (by decide +kernel)
set_option maxRecDepth 20000 in
theorem gX1_fellAt_X1_pay : GoodIn wsX1_fellAt (wsV RX1 208 RX1 yX1_pay wsX1_pay) := goodIn_app (goodIn_of _ (by decide +kernel)) ggX1_fellAt_X1_pay
theorem dX1_fellAt_0 : decode cX1_fellAt 0 = .ok (.aload_n 0, 1) := by decide +kernel
theorem dX1_fellAt_1 : decode cX1_fellAt 1 = .ok (.iload_n 1, 1) := by decide +kernel
theorem dX1_fellAt_2 : decode cX1_fellAt 2 = .ok (.invokevirtual 121, 3) := by decide +kernel
theorem dX1_fellAt_5 : decode cX1_fellAt 5 = .ok (.ifCond .eq 13, 3) := by decide +kernel
theorem dX1_fellAt_8 : decode cX1_fellAt 8 = .ok (.aload_n 0, 1) := by decide +kernel
theorem dX1_fellAt_9 : decode cX1_fellAt 9 = .ok (.iload_n 1, 1) := by decide +kernel
theorem dX1_fellAt_10 : decode cX1_fellAt 10 = .ok (.bipush 6, 2) := by decide +kernel
theorem dX1_fellAt_12 : decode cX1_fellAt 12 = .ok (.invokevirtual 205, 3) := by decide +kernel
theorem dX1_fellAt_15 : decode cX1_fellAt 15 = .ok (.ifCond .ne 5, 3) := by decide +kernel
theorem dX1_fellAt_18 : decode cX1_fellAt 18 = .ok (.iconst 0, 1) := by decide +kernel
theorem dX1_fellAt_19 : decode cX1_fellAt 19 = .ok (.ireturn, 1) := by decide +kernel
theorem dX1_fellAt_20 : decode cX1_fellAt 20 = .ok (.aload_n 0, 1) := by decide +kernel
theorem dX1_fellAt_21 : decode cX1_fellAt 21 = .ok (.iload_n 1, 1) := by decide +kernel
theorem dX1_fellAt_22 : decode cX1_fellAt 22 = .ok (.bipush 6, 2) := by decide +kernel
theorem dX1_fellAt_24 : decode cX1_fellAt 24 = .ok (.invokevirtual 208, 3) := by decide +kernel
theorem dX1_fellAt_27 : decode cX1_fellAt 27 = .ok (.aload_n 0, 1) := by decide +kernel
theorem dX1_fellAt_28 : decode cX1_fellAt 28 = .ok (.getfield 22, 3) := by decide +kernel
theorem dX1_fellAt_31 : decode cX1_fellAt 31 = .ok (.iload_n 1, 1) := by decide +kernel
theorem dX1_fellAt_32 : decode cX1_fellAt 32 = .ok (.iconst (-1), 1) := by decide +kernel
theorem dX1_fellAt_33 : decode cX1_fellAt 33 = .ok (.iastore, 1) := by decide +kernel
theorem dX1_fellAt_34 : decode cX1_fellAt 34 = .ok (.aload_n 0, 1) := by decide +kernel
theorem dX1_fellAt_35 : decode cX1_fellAt 35 = .ok (.getfield 25, 3) := by decide +kernel
theorem dX1_fellAt_38 : decode cX1_fellAt 38 = .ok (.iload_n 1, 1) := by decide +kernel
theorem dX1_fellAt_39 : decode cX1_fellAt 39 = .ok (.iconst 0, 1) := by decide +kernel
theorem dX1_fellAt_40 : decode cX1_fellAt 40 = .ok (.iastore, 1) := by decide +kernel
theorem dX1_fellAt_41 : decode cX1_fellAt 41 = .ok (.aload_n 0, 1) := by decide +kernel
theorem dX1_fellAt_42 : decode cX1_fellAt 42 = .ok (.getfield 28, 3) := by decide +kernel
theorem dX1_fellAt_45 : decode cX1_fellAt 45 = .ok (.iload_n 1, 1) := by decide +kernel
theorem dX1_fellAt_46 : decode cX1_fellAt 46 = .ok (.iconst 0, 1) := by decide +kernel
theorem dX1_fellAt_47 : decode cX1_fellAt 47 = .ok (.iastore, 1) := by decide +kernel
theorem dX1_fellAt_48 : decode cX1_fellAt 48 = .ok (.aload_n 0, 1) := by decide +kernel
theorem dX1_fellAt_49 : decode cX1_fellAt 49 = .ok (.getfield 31, 3) := by decide +kernel
theorem dX1_fellAt_52 : decode cX1_fellAt 52 = .ok (.iload_n 1, 1) := by decide +kernel
theorem dX1_fellAt_53 : decode cX1_fellAt 53 = .ok (.iconst 0, 1) := by decide +kernel
theorem dX1_fellAt_54 : decode cX1_fellAt 54 = .ok (.bastore, 1) := by decide +kernel
theorem dX1_fellAt_55 : decode cX1_fellAt 55 = .ok (.iconst 1, 1) := by decide +kernel
theorem dX1_fellAt_56 : decode cX1_fellAt 56 = .ok (.ireturn, 1) := by decide +kernel
theorem dX1_treesOfSort_0 : decode cX1_treesOfSort 0 = .ok (.iconst 0, 1) := by decide +kernel
theorem dX1_treesOfSort_1 : decode cX1_treesOfSort 1 = .ok (.istore_n 2, 1) := by decide +kernel
theorem dX1_treesOfSort_2 : decode cX1_treesOfSort 2 = .ok (.iconst 0, 1) := by decide +kernel
theorem dX1_treesOfSort_3 : decode cX1_treesOfSort 3 = .ok (.istore_n 3, 1) := by decide +kernel
theorem dX1_treesOfSort_4 : decode cX1_treesOfSort 4 = .ok (.iload_n 3, 1) := by decide +kernel
theorem dX1_treesOfSort_5 : decode cX1_treesOfSort 5 = .ok (.bipush 40, 2) := by decide +kernel
theorem dX1_treesOfSort_7 : decode cX1_treesOfSort 7 = .ok (.if_icmp .ge 27, 3) := by decide +kernel
theorem dX1_treesOfSort_10 : decode cX1_treesOfSort 10 = .ok (.iload_n 2, 1) := by decide +kernel
theorem dX1_treesOfSort_11 : decode cX1_treesOfSort 11 = .ok (.aload_n 0, 1) := by decide +kernel
theorem dX1_treesOfSort_12 : decode cX1_treesOfSort 12 = .ok (.getfield 22, 3) := by decide +kernel
theorem dX1_treesOfSort_15 : decode cX1_treesOfSort 15 = .ok (.iload_n 3, 1) := by decide +kernel
theorem dX1_treesOfSort_16 : decode cX1_treesOfSort 16 = .ok (.iaload, 1) := by decide +kernel
theorem dX1_treesOfSort_17 : decode cX1_treesOfSort 17 = .ok (.iload_n 1, 1) := by decide +kernel
theorem dX1_treesOfSort_18 : decode cX1_treesOfSort 18 = .ok (.if_icmp .ne 7, 3) := by decide +kernel
theorem dX1_treesOfSort_21 : decode cX1_treesOfSort 21 = .ok (.iconst 1, 1) := by decide +kernel
theorem dX1_treesOfSort_22 : decode cX1_treesOfSort 22 = .ok (.goto 4, 3) := by decide +kernel
theorem dX1_treesOfSort_25 : decode cX1_treesOfSort 25 = .ok (.iconst 0, 1) := by decide +kernel
theorem dX1_treesOfSort_26 : decode cX1_treesOfSort 26 = .ok (.iadd, 1) := by decide +kernel
theorem dX1_treesOfSort_27 : decode cX1_treesOfSort 27 = .ok (.istore_n 2, 1) := by decide +kernel
theorem dX1_treesOfSort_28 : decode cX1_treesOfSort 28 = .ok (.iinc 3 1, 3) := by decide +kernel
theorem dX1_treesOfSort_31 : decode cX1_treesOfSort 31 = .ok (.goto (-27), 3) := by decide +kernel
theorem dX1_treesOfSort_34 : decode cX1_treesOfSort 34 = .ok (.iload_n 2, 1) := by decide +kernel
theorem dX1_treesOfSort_35 : decode cX1_treesOfSort 35 = .ok (.ireturn, 1) := by decide +kernel
set_option maxRecDepth 20000 in
theorem ggX1_allTrees_X1_hasTree : GoodIn wsX1_allTrees wsX1_hasTree := goodIn_r _ [5, 6, 7, 8, 9, 10, 11, 12, 13, 14, 15, 16, 17, 18, 19] (by decide +kernel) (by decide +kernel)
set_option maxRecDepth 20000 in
theorem gX1_allTrees_X1_hasTree : GoodIn wsX1_allTrees (wsV RX1 121 RX1 yX1_hasTree wsX1_hasTree) := goodIn_app (goodIn_of _ (by decide +kernel)) ggX1_allTrees_X1_hasTree
theorem dX1_allTrees_0 : decode cX1_allTrees 0 = .ok (.iconst 0, 1) := by decide +kernel
theorem dX1_allTrees_1 : decode cX1_allTrees 1 = .ok (.istore_n 1, 1) := by decide +kernel
theorem dX1_allTrees_2 : decode cX1_allTrees 2 = .ok (.iconst 0, 1) := by decide +kernel
theorem dX1_allTrees_3 : decode cX1_allTrees 3 = .ok (.istore_n 2, 1) := by decide +kernel
theorem dX1_allTrees_4 : decode cX1_allTrees 4 = .ok (.iload_n 2, 1) := by decide +kernel
theorem dX1_allTrees_5 : decode cX1_allTrees 5 = .ok (.bipush 40, 2) := by decide +kernel
theorem dX1_allTrees_7 : decode cX1_allTrees 7 = .ok (.if_icmp .ge 25, 3) := by decide +kernel
theorem dX1_allTrees_10 : decode cX1_allTrees 10 = .ok (.iload_n 1, 1) := by decide +kernel
theorem dX1_allTrees_11 : decode cX1_allTrees 11 = .ok (.aload_n 0, 1) := by decide +kernel
theorem dX1_allTrees_12 : decode cX1_allTrees 12 = .ok (.iload_n 2, 1) := by decide +kernel
theorem dX1_allTrees_13 : decode cX1_allTrees 13 = .ok (.invokevirtual 121, 3) := by decide +kernel
theorem dX1_allTrees_16 : decode cX1_allTrees 16 = .ok (.ifCond .eq 7, 3) := by decide +kernel
theorem dX1_allTrees_19 : decode cX1_allTrees 19 = .ok (.iconst 1, 1) := by decide +kernel
theorem dX1_allTrees_20 : decode cX1_allTrees 20 = .ok (.goto 4, 3) := by decide +kernel
theorem dX1_allTrees_23 : decode cX1_allTrees 23 = .ok (.iconst 0, 1) := by decide +kernel
theorem dX1_allTrees_24 : decode cX1_allTrees 24 = .ok (.iadd, 1) := by decide +kernel
theorem dX1_allTrees_25 : decode cX1_allTrees 25 = .ok (.istore_n 1, 1) := by decide +kernel
theorem dX1_allTrees_26 : decode cX1_allTrees 26 = .ok (.iinc 2 1, 3) := by decide +kernel
theorem dX1_allTrees_29 : decode cX1_allTrees 29 = .ok (.goto (-25), 3) := by decide +kernel
theorem dX1_allTrees_32 : decode cX1_allTrees 32 = .ok (.iload_n 1, 1) := by decide +kernel
theorem dX1_allTrees_33 : decode cX1_allTrees 33 = .ok (.ireturn, 1) := by decide +kernel
theorem dX1_allTired_0 : decode cX1_allTired 0 = .ok (.iconst 0, 1) := by decide +kernel
theorem dX1_allTired_1 : decode cX1_allTired 1 = .ok (.istore_n 1, 1) := by decide +kernel
theorem dX1_allTired_2 : decode cX1_allTired 2 = .ok (.iconst 0, 1) := by decide +kernel
theorem dX1_allTired_3 : decode cX1_allTired 3 = .ok (.istore_n 2, 1) := by decide +kernel
theorem dX1_allTired_4 : decode cX1_allTired 4 = .ok (.iload_n 2, 1) := by decide +kernel
theorem dX1_allTired_5 : decode cX1_allTired 5 = .ok (.bipush 40, 2) := by decide +kernel
theorem dX1_allTired_7 : decode cX1_allTired 7 = .ok (.if_icmp .ge 26, 3) := by decide +kernel
theorem dX1_allTired_10 : decode cX1_allTired 10 = .ok (.iload_n 1, 1) := by decide +kernel
theorem dX1_allTired_11 : decode cX1_allTired 11 = .ok (.aload_n 0, 1) := by decide +kernel
theorem dX1_allTired_12 : decode cX1_allTired 12 = .ok (.getfield 31, 3) := by decide +kernel
theorem dX1_allTired_15 : decode cX1_allTired 15 = .ok (.iload_n 2, 1) := by decide +kernel
theorem dX1_allTired_16 : decode cX1_allTired 16 = .ok (.baload, 1) := by decide +kernel
theorem dX1_allTired_17 : decode cX1_allTired 17 = .ok (.ifCond .eq 7, 3) := by decide +kernel
theorem dX1_allTired_20 : decode cX1_allTired 20 = .ok (.iconst 1, 1) := by decide +kernel
theorem dX1_allTired_21 : decode cX1_allTired 21 = .ok (.goto 4, 3) := by decide +kernel
theorem dX1_allTired_24 : decode cX1_allTired 24 = .ok (.iconst 0, 1) := by decide +kernel
theorem dX1_allTired_25 : decode cX1_allTired 25 = .ok (.iadd, 1) := by decide +kernel
theorem dX1_allTired_26 : decode cX1_allTired 26 = .ok (.istore_n 1, 1) := by decide +kernel
theorem dX1_allTired_27 : decode cX1_allTired 27 = .ok (.iinc 2 1, 3) := by decide +kernel
theorem dX1_allTired_30 : decode cX1_allTired 30 = .ok (.goto (-26), 3) := by decide +kernel
theorem dX1_allTired_33 : decode cX1_allTired 33 = .ok (.iload_n 1, 1) := by decide +kernel
theorem dX1_allTired_34 : decode cX1_allTired 34 = .ok (.ireturn, 1) := by decide +kernel
theorem dX1_applesInBarn_0 : decode cX1_applesInBarn 0 = .ok (.iconst 0, 1) := by decide +kernel
theorem dX1_applesInBarn_1 : decode cX1_applesInBarn 1 = .ok (.istore_n 1, 1) := by decide +kernel
theorem dX1_applesInBarn_2 : decode cX1_applesInBarn 2 = .ok (.iconst 0, 1) := by decide +kernel
theorem dX1_applesInBarn_3 : decode cX1_applesInBarn 3 = .ok (.istore_n 2, 1) := by decide +kernel
theorem dX1_applesInBarn_4 : decode cX1_applesInBarn 4 = .ok (.iload_n 2, 1) := by decide +kernel
theorem dX1_applesInBarn_5 : decode cX1_applesInBarn 5 = .ok (.bipush 6, 2) := by decide +kernel
theorem dX1_applesInBarn_7 : decode cX1_applesInBarn 7 = .ok (.if_icmp .ge 18, 3) := by decide +kernel
theorem dX1_applesInBarn_10 : decode cX1_applesInBarn 10 = .ok (.iload_n 1, 1) := by decide +kernel
theorem dX1_applesInBarn_11 : decode cX1_applesInBarn 11 = .ok (.aload_n 0, 1) := by decide +kernel
theorem dX1_applesInBarn_12 : decode cX1_applesInBarn 12 = .ok (.getfield 16, 3) := by decide +kernel
theorem dX1_applesInBarn_15 : decode cX1_applesInBarn 15 = .ok (.iload_n 2, 1) := by decide +kernel
theorem dX1_applesInBarn_16 : decode cX1_applesInBarn 16 = .ok (.iaload, 1) := by decide +kernel
theorem dX1_applesInBarn_17 : decode cX1_applesInBarn 17 = .ok (.iadd, 1) := by decide +kernel
theorem dX1_applesInBarn_18 : decode cX1_applesInBarn 18 = .ok (.istore_n 1, 1) := by decide +kernel
theorem dX1_applesInBarn_19 : decode cX1_applesInBarn 19 = .ok (.iinc 2 1, 3) := by decide +kernel
theorem dX1_applesInBarn_22 : decode cX1_applesInBarn 22 = .ok (.goto (-18), 3) := by decide +kernel
theorem dX1_applesInBarn_25 : decode cX1_applesInBarn 25 = .ok (.iload_n 1, 1) := by decide +kernel
theorem dX1_applesInBarn_26 : decode cX1_applesInBarn 26 = .ok (.ireturn, 1) := by decide +kernel
theorem dX1_weightInBarn_0 : decode cX1_weightInBarn 0 = .ok (.iconst 0, 1) := by decide +kernel
theorem dX1_weightInBarn_1 : decode cX1_weightInBarn 1 = .ok (.istore_n 1, 1) := by decide +kernel
theorem dX1_weightInBarn_2 : decode cX1_weightInBarn 2 = .ok (.iconst 0, 1) := by decide +kernel
theorem dX1_weightInBarn_3 : decode cX1_weightInBarn 3 = .ok (.istore_n 2, 1) := by decide +kernel
theorem dX1_weightInBarn_4 : decode cX1_weightInBarn 4 = .ok (.iload_n 2, 1) := by decide +kernel
theorem dX1_weightInBarn_5 : decode cX1_weightInBarn 5 = .ok (.bipush 6, 2) := by decide +kernel
theorem dX1_weightInBarn_7 : decode cX1_weightInBarn 7 = .ok (.if_icmp .ge 25, 3) := by decide +kernel
theorem dX1_weightInBarn_10 : decode cX1_weightInBarn 10 = .ok (.iload_n 1, 1) := by decide +kernel
theorem dX1_weightInBarn_11 : decode cX1_weightInBarn 11 = .ok (.aload_n 0, 1) := by decide +kernel
theorem dX1_weightInBarn_12 : decode cX1_weightInBarn 12 = .ok (.getfield 16, 3) := by decide +kernel
theorem dX1_weightInBarn_15 : decode cX1_weightInBarn 15 = .ok (.iload_n 2, 1) := by decide +kernel
theorem dX1_weightInBarn_16 : decode cX1_weightInBarn 16 = .ok (.iaload, 1) := by decide +kernel
theorem dX1_weightInBarn_17 : decode cX1_weightInBarn 17 = .ok (.aload_n 0, 1) := by decide +kernel
theorem dX1_weightInBarn_18 : decode cX1_weightInBarn 18 = .ok (.getfield 9, 3) := by decide +kernel
theorem dX1_weightInBarn_21 : decode cX1_weightInBarn 21 = .ok (.iload_n 2, 1) := by decide +kernel
theorem dX1_weightInBarn_22 : decode cX1_weightInBarn 22 = .ok (.iaload, 1) := by decide +kernel
theorem dX1_weightInBarn_23 : decode cX1_weightInBarn 23 = .ok (.imul, 1) := by decide +kernel
theorem dX1_weightInBarn_24 : decode cX1_weightInBarn 24 = .ok (.iadd, 1) := by decide +kernel
theorem dX1_weightInBarn_25 : decode cX1_weightInBarn 25 = .ok (.istore_n 1, 1) := by decide +kernel
theorem dX1_weightInBarn_26 : decode cX1_weightInBarn 26 = .ok (.iinc 2 1, 3) := by decide +kernel
theorem dX1_weightInBarn_29 : decode cX1_weightInBarn 29 = .ok (.goto (-25), 3) := by decide +kernel
theorem dX1_weightInBarn_32 : decode cX1_weightInBarn 32 = .ok (.iload_n 1, 1) := by decide +kernel
theorem dX1_weightInBarn_33 : decode cX1_weightInBarn 33 = .ok (.ireturn, 1) := by decide +kernel
set_option maxRecDepth 20000 in
theorem ggX1_unlikePairs_X1_spotOf : GoodIn wsX1_unlikePairs wsX1_spotOf := goodIn_r _ [6] (by decide +kernel) (by decide +kernel)
set_option maxRecDepth 20000 in
theorem gX1_unlikePairs_X1_spotOf : GoodIn wsX1_unlikePairs (va_wsS RX1 93 yX1_spotOf wsX1_spotOf) := goodIn_app (goodIn_of _ (by decide +kernel)) ggX1_unlikePairs_X1_spotOf
set_option maxRecDepth 20000 in
theorem ggX1_unlikePairs_X1_mirrorOf : GoodIn wsX1_unlikePairs wsX1_mirrorOf := goodIn_r _ [9] (by decide +kernel) (by decide +kernel)
set_option maxRecDepth 20000 in
theorem gX1_unlikePairs_X1_mirrorOf : GoodIn wsX1_unlikePairs (va_wsS RX1 100 yX1_mirrorOf wsX1_mirrorOf) := goodIn_app (goodIn_of _ (by decide +kernel)) ggX1_unlikePairs_X1_mirrorOf
theorem dX1_unlikePairs_0 : decode cX1_unlikePairs 0 = .ok (.iconst 0, 1) := by decide +kernel
theorem dX1_unlikePairs_1 : decode cX1_unlikePairs 1 = .ok (.istore_n 1, 1) := by decide +kernel
theorem dX1_unlikePairs_2 : decode cX1_unlikePairs 2 = .ok (.iconst 0, 1) := by decide +kernel
theorem dX1_unlikePairs_3 : decode cX1_unlikePairs 3 = .ok (.istore_n 2, 1) := by decide +kernel
theorem dX1_unlikePairs_4 : decode cX1_unlikePairs 4 = .ok (.iload_n 2, 1) := by decide +kernel
theorem dX1_unlikePairs_5 : decode cX1_unlikePairs 5 = .ok (.iconst 5, 1) := by decide +kernel
theorem dX1_unlikePairs_6 : decode cX1_unlikePairs 6 = .ok (.if_icmp .ge 78, 3) := by decide +kernel
theorem dX1_unlikePairs_9 : decode cX1_unlikePairs 9 = .ok (.iconst 0, 1) := by decide +kernel
theorem dX1_unlikePairs_10 : decode cX1_unlikePairs 10 = .ok (.istore_n 3, 1) := by decide +kernel
theorem dX1_unlikePairs_11 : decode cX1_unlikePairs 11 = .ok (.iload_n 3, 1) := by decide +kernel
theorem dX1_unlikePairs_12 : decode cX1_unlikePairs 12 = .ok (.iconst 4, 1) := by decide +kernel
theorem dX1_unlikePairs_13 : decode cX1_unlikePairs 13 = .ok (.if_icmp .ge 65, 3) := by decide +kernel
theorem dX1_unlikePairs_16 : decode cX1_unlikePairs 16 = .ok (.iload_n 2, 1) := by decide +kernel
theorem dX1_unlikePairs_17 : decode cX1_unlikePairs 17 = .ok (.iload_n 3, 1) := by decide +kernel
theorem dX1_unlikePairs_18 : decode cX1_unlikePairs 18 = .ok (.invokestatic 93, 3) := by decide +kernel
theorem dX1_unlikePairs_21 : decode cX1_unlikePairs 21 = .ok (.istore 4, 2) := by decide +kernel
theorem dX1_unlikePairs_23 : decode cX1_unlikePairs 23 = .ok (.iload 4, 2) := by decide +kernel
theorem dX1_unlikePairs_25 : decode cX1_unlikePairs 25 = .ok (.invokestatic 100, 3) := by decide +kernel
theorem dX1_unlikePairs_28 : decode cX1_unlikePairs 28 = .ok (.istore 5, 2) := by decide +kernel
theorem dX1_unlikePairs_30 : decode cX1_unlikePairs 30 = .ok (.iload_n 1, 1) := by decide +kernel
theorem dX1_unlikePairs_31 : decode cX1_unlikePairs 31 = .ok (.aload_n 0, 1) := by decide +kernel
theorem dX1_unlikePairs_32 : decode cX1_unlikePairs 32 = .ok (.getfield 22, 3) := by decide +kernel
theorem dX1_unlikePairs_35 : decode cX1_unlikePairs 35 = .ok (.iload 4, 2) := by decide +kernel
theorem dX1_unlikePairs_37 : decode cX1_unlikePairs 37 = .ok (.iaload, 1) := by decide +kernel
theorem dX1_unlikePairs_38 : decode cX1_unlikePairs 38 = .ok (.aload_n 0, 1) := by decide +kernel
theorem dX1_unlikePairs_39 : decode cX1_unlikePairs 39 = .ok (.getfield 22, 3) := by decide +kernel
theorem dX1_unlikePairs_42 : decode cX1_unlikePairs 42 = .ok (.iload 5, 2) := by decide +kernel
theorem dX1_unlikePairs_44 : decode cX1_unlikePairs 44 = .ok (.iaload, 1) := by decide +kernel
theorem dX1_unlikePairs_45 : decode cX1_unlikePairs 45 = .ok (.if_icmp .ne 20, 3) := by decide +kernel
theorem dX1_unlikePairs_48 : decode cX1_unlikePairs 48 = .ok (.aload_n 0, 1) := by decide +kernel
theorem dX1_unlikePairs_49 : decode cX1_unlikePairs 49 = .ok (.getfield 25, 3) := by decide +kernel
theorem dX1_unlikePairs_52 : decode cX1_unlikePairs 52 = .ok (.iload 4, 2) := by decide +kernel
theorem dX1_unlikePairs_54 : decode cX1_unlikePairs 54 = .ok (.iaload, 1) := by decide +kernel
theorem dX1_unlikePairs_55 : decode cX1_unlikePairs 55 = .ok (.aload_n 0, 1) := by decide +kernel
theorem dX1_unlikePairs_56 : decode cX1_unlikePairs 56 = .ok (.getfield 25, 3) := by decide +kernel
theorem dX1_unlikePairs_59 : decode cX1_unlikePairs 59 = .ok (.iload 5, 2) := by decide +kernel
theorem dX1_unlikePairs_61 : decode cX1_unlikePairs 61 = .ok (.iaload, 1) := by decide +kernel
theorem dX1_unlikePairs_62 : decode cX1_unlikePairs 62 = .ok (.if_icmp .eq 7, 3) := by decide +kernel
theorem dX1_unlikePairs_65 : decode cX1_unlikePairs 65 = .ok (.iconst 1, 1) := by decide +kernel
theorem dX1_unlikePairs_66 : decode cX1_unlikePairs 66 = .ok (.goto 4, 3) := by decide +kernel
theorem dX1_unlikePairs_69 : decode cX1_unlikePairs 69 = .ok (.iconst 0, 1) := by decide +kernel
theorem dX1_unlikePairs_70 : decode cX1_unlikePairs 70 = .ok (.iadd, 1) := by decide +kernel
theorem dX1_unlikePairs_71 : decode cX1_unlikePairs 71 = .ok (.istore_n 1, 1) := by decide +kernel
theorem dX1_unlikePairs_72 : decode cX1_unlikePairs 72 = .ok (.iinc 3 1, 3) := by decide +kernel
theorem dX1_unlikePairs_75 : decode cX1_unlikePairs 75 = .ok (.goto (-64), 3) := by decide +kernel
theorem dX1_unlikePairs_78 : decode cX1_unlikePairs 78 = .ok (.iinc 2 1, 3) := by decide +kernel
theorem dX1_unlikePairs_81 : decode cX1_unlikePairs 81 = .ok (.goto (-77), 3) := by decide +kernel
theorem dX1_unlikePairs_84 : decode cX1_unlikePairs 84 = .ok (.iload_n 1, 1) := by decide +kernel
theorem dX1_unlikePairs_85 : decode cX1_unlikePairs 85 = .ok (.ireturn, 1) := by decide +kernel
theorem dX1_balancedApples_0 : decode cX1_balancedApples 0 = .ok (.iconst 0, 1) := by decide +kernel
theorem dX1_balancedApples_1 : decode cX1_balancedApples 1 = .ok (.aload_n 0, 1) := by decide +kernel
theorem dX1_balancedApples_2 : decode cX1_balancedApples 2 = .ok (.getfield 16, 3) := by decide +kernel
theorem dX1_balancedApples_5 : decode cX1_balancedApples 5 = .ok (.iload_n 1, 1) := by decide +kernel
theorem dX1_balancedApples_6 : decode cX1_balancedApples 6 = .ok (.iaload, 1) := by decide +kernel
theorem dX1_balancedApples_7 : decode cX1_balancedApples 7 = .ok (.bipush 20, 2) := by decide +kernel
theorem dX1_balancedApples_9 : decode cX1_balancedApples 9 = .ok (.invokestatic 226, 3) := by decide +kernel
theorem dX1_balancedApples_12 : decode cX1_balancedApples 12 = .ok (.invokestatic 221, 3) := by decide +kernel
theorem dX1_balancedApples_15 : decode cX1_balancedApples 15 = .ok (.ireturn, 1) := by decide +kernel
set_option maxRecDepth 20000 in
theorem ggX1_heaviestUpTo_J7_fill_53178 : GoodIn wsX1_heaviestUpTo wsJ7_fill_53178 := goodIn_r _ [10] (by decide +kernel) (by decide +kernel)
set_option maxRecDepth 20000 in
theorem gX1_heaviestUpTo_J7_fill_53178 : GoodIn wsX1_heaviestUpTo (va_wsS RX1 55 yJ7_fill_53178 wsJ7_fill_53178) := goodIn_app (goodIn_of _ (by decide +kernel)) ggX1_heaviestUpTo_J7_fill_53178
set_option maxRecDepth 20000 in
theorem ggX1_heaviestUpTo_X1_balancedApples : GoodIn wsX1_heaviestUpTo wsX1_balancedApples := goodIn_r _ [15, 16, 3, 4, 5, 6, 17, 18, 19, 24, 25, 26, 27, 28, 29, 30, 31, 32, 33, 34, 35, 36] (by decide +kernel) (by decide +kernel)
set_option maxRecDepth 20000 in
theorem gX1_heaviestUpTo_X1_balancedApples : GoodIn wsX1_heaviestUpTo (wsV RX1 159 RX1 yX1_balancedApples wsX1_balancedApples) := goodIn_app (goodIn_of _ (by decide +kernel)) ggX1_heaviestUpTo_X1_balancedApples
set_option maxRecDepth 20000 in
theorem ggX1_heaviestUpTo_X1_reachWithSort : GoodIn wsX1_heaviestUpTo wsX1_reachWithSort := goodIn_r _ [23, 1, 24, 25, 26, 27, 28, 29, 30, 31, 32, 33, 34, 35, 36] (by decide +kernel) (by decide +kernel)
set_option maxRecDepth 20000 in
theorem gX1_heaviestUpTo_X1_reachWithSort : GoodIn wsX1_heaviestUpTo (wsV RX1 229 RX1 yX1_reachWithSort wsX1_reachWithSort) := goodIn_app (goodIn_of _ (by decide +kernel)) ggX1_heaviestUpTo_X1_reachWithSort
theorem dX1_heaviestUpTo_0 : decode cX1_heaviestUpTo 0 = .ok (.aload_n 0, 1) := by decide +kernel
theorem dX1_heaviestUpTo_1 : decode cX1_heaviestUpTo 1 = .ok (.getfield 52, 3) := by decide +kernel
theorem dX1_heaviestUpTo_4 : decode cX1_heaviestUpTo 4 = .ok (.iconst (-1), 1) := by decide +kernel
theorem dX1_heaviestUpTo_5 : decode cX1_heaviestUpTo 5 = .ok (.invokestatic 55, 3) := by decide +kernel
theorem dX1_heaviestUpTo_8 : decode cX1_heaviestUpTo 8 = .ok (.aload_n 0, 1) := by decide +kernel
theorem dX1_heaviestUpTo_9 : decode cX1_heaviestUpTo 9 = .ok (.getfield 52, 3) := by decide +kernel
theorem dX1_heaviestUpTo_12 : decode cX1_heaviestUpTo 12 = .ok (.iconst 0, 1) := by decide +kernel
theorem dX1_heaviestUpTo_13 : decode cX1_heaviestUpTo 13 = .ok (.iconst 0, 1) := by decide +kernel
theorem dX1_heaviestUpTo_14 : decode cX1_heaviestUpTo 14 = .ok (.iastore, 1) := by decide +kernel
theorem dX1_heaviestUpTo_15 : decode cX1_heaviestUpTo 15 = .ok (.iconst 0, 1) := by decide +kernel
theorem dX1_heaviestUpTo_16 : decode cX1_heaviestUpTo 16 = .ok (.istore_n 2, 1) := by decide +kernel
theorem dX1_heaviestUpTo_17 : decode cX1_heaviestUpTo 17 = .ok (.iload_n 2, 1) := by decide +kernel
theorem dX1_heaviestUpTo_18 : decode cX1_heaviestUpTo 18 = .ok (.bipush 6, 2) := by decide +kernel
theorem dX1_heaviestUpTo_20 : decode cX1_heaviestUpTo 20 = .ok (.if_icmp .ge 24, 3) := by decide +kernel
theorem dX1_heaviestUpTo_23 : decode cX1_heaviestUpTo 23 = .ok (.aload_n 0, 1) := by decide +kernel
theorem dX1_heaviestUpTo_24 : decode cX1_heaviestUpTo 24 = .ok (.aload_n 0, 1) := by decide +kernel
theorem dX1_heaviestUpTo_25 : decode cX1_heaviestUpTo 25 = .ok (.getfield 9, 3) := by decide +kernel
theorem dX1_heaviestUpTo_28 : decode cX1_heaviestUpTo 28 = .ok (.iload_n 2, 1) := by decide +kernel
theorem dX1_heaviestUpTo_29 : decode cX1_heaviestUpTo 29 = .ok (.iaload, 1) := by decide +kernel
theorem dX1_heaviestUpTo_30 : decode cX1_heaviestUpTo 30 = .ok (.aload_n 0, 1) := by decide +kernel
theorem dX1_heaviestUpTo_31 : decode cX1_heaviestUpTo 31 = .ok (.iload_n 2, 1) := by decide +kernel
theorem dX1_heaviestUpTo_32 : decode cX1_heaviestUpTo 32 = .ok (.invokevirtual 159, 3) := by decide +kernel
theorem dX1_heaviestUpTo_35 : decode cX1_heaviestUpTo 35 = .ok (.invokevirtual 229, 3) := by decide +kernel
theorem dX1_heaviestUpTo_38 : decode cX1_heaviestUpTo 38 = .ok (.iinc 2 1, 3) := by decide +kernel
theorem dX1_heaviestUpTo_41 : decode cX1_heaviestUpTo 41 = .ok (.goto (-24), 3) := by decide +kernel
theorem dX1_heaviestUpTo_44 : decode cX1_heaviestUpTo 44 = .ok (.iload_n 1, 1) := by decide +kernel
theorem dX1_heaviestUpTo_45 : decode cX1_heaviestUpTo 45 = .ok (.sipush 540, 3) := by decide +kernel
theorem dX1_heaviestUpTo_48 : decode cX1_heaviestUpTo 48 = .ok (.invokestatic 226, 3) := by decide +kernel
theorem dX1_heaviestUpTo_51 : decode cX1_heaviestUpTo 51 = .ok (.istore_n 2, 1) := by decide +kernel
theorem dX1_heaviestUpTo_52 : decode cX1_heaviestUpTo 52 = .ok (.iload_n 2, 1) := by decide +kernel
theorem dX1_heaviestUpTo_53 : decode cX1_heaviestUpTo 53 = .ok (.ifCond .le 19, 3) := by decide +kernel
theorem dX1_heaviestUpTo_56 : decode cX1_heaviestUpTo 56 = .ok (.aload_n 0, 1) := by decide +kernel
theorem dX1_heaviestUpTo_57 : decode cX1_heaviestUpTo 57 = .ok (.getfield 52, 3) := by decide +kernel
theorem dX1_heaviestUpTo_60 : decode cX1_heaviestUpTo 60 = .ok (.iload_n 2, 1) := by decide +kernel
theorem dX1_heaviestUpTo_61 : decode cX1_heaviestUpTo 61 = .ok (.iaload, 1) := by decide +kernel
theorem dX1_heaviestUpTo_62 : decode cX1_heaviestUpTo 62 = .ok (.iconst (-1), 1) := by decide +kernel
theorem dX1_heaviestUpTo_63 : decode cX1_heaviestUpTo 63 = .ok (.if_icmp .ne 9, 3) := by decide +kernel
theorem dX1_heaviestUpTo_66 : decode cX1_heaviestUpTo 66 = .ok (.iinc 2 (-1), 3) := by decide +kernel
theorem dX1_heaviestUpTo_69 : decode cX1_heaviestUpTo 69 = .ok (.goto (-17), 3) := by decide +kernel
theorem dX1_heaviestUpTo_72 : decode cX1_heaviestUpTo 72 = .ok (.iload_n 2, 1) := by decide +kernel
theorem dX1_heaviestUpTo_73 : decode cX1_heaviestUpTo 73 = .ok (.ireturn, 1) := by decide +kernel
theorem dX1_reachWithSort_0 : decode cX1_reachWithSort 0 = .ok (.iconst 0, 1) := by decide +kernel
theorem dX1_reachWithSort_1 : decode cX1_reachWithSort 1 = .ok (.istore_n 3, 1) := by decide +kernel
theorem dX1_reachWithSort_2 : decode cX1_reachWithSort 2 = .ok (.iload_n 3, 1) := by decide +kernel
theorem dX1_reachWithSort_3 : decode cX1_reachWithSort 3 = .ok (.sipush 540, 3) := by decide +kernel
theorem dX1_reachWithSort_6 : decode cX1_reachWithSort 6 = .ok (.if_icmp .gt 66, 3) := by decide +kernel
theorem dX1_reachWithSort_9 : decode cX1_reachWithSort 9 = .ok (.aload_n 0, 1) := by decide +kernel
theorem dX1_reachWithSort_10 : decode cX1_reachWithSort 10 = .ok (.getfield 52, 3) := by decide +kernel
theorem dX1_reachWithSort_13 : decode cX1_reachWithSort 13 = .ok (.iload_n 3, 1) := by decide +kernel
theorem dX1_reachWithSort_14 : decode cX1_reachWithSort 14 = .ok (.iaload, 1) := by decide +kernel
theorem dX1_reachWithSort_15 : decode cX1_reachWithSort 15 = .ok (.iconst (-1), 1) := by decide +kernel
theorem dX1_reachWithSort_16 : decode cX1_reachWithSort 16 = .ok (.if_icmp .eq 13, 3) := by decide +kernel
theorem dX1_reachWithSort_19 : decode cX1_reachWithSort 19 = .ok (.aload_n 0, 1) := by decide +kernel
theorem dX1_reachWithSort_20 : decode cX1_reachWithSort 20 = .ok (.getfield 52, 3) := by decide +kernel
theorem dX1_reachWithSort_23 : decode cX1_reachWithSort 23 = .ok (.iload_n 3, 1) := by decide +kernel
theorem dX1_reachWithSort_24 : decode cX1_reachWithSort 24 = .ok (.iconst 0, 1) := by decide +kernel
theorem dX1_reachWithSort_25 : decode cX1_reachWithSort 25 = .ok (.iastore, 1) := by decide +kernel
theorem dX1_reachWithSort_26 : decode cX1_reachWithSort 26 = .ok (.goto 40, 3) := by decide +kernel
theorem dX1_reachWithSort_29 : decode cX1_reachWithSort 29 = .ok (.iload_n 3, 1) := by decide +kernel
theorem dX1_reachWithSort_30 : decode cX1_reachWithSort 30 = .ok (.iload_n 1, 1) := by decide +kernel
theorem dX1_reachWithSort_31 : decode cX1_reachWithSort 31 = .ok (.if_icmp .lt 35, 3) := by decide +kernel
theorem dX1_reachWithSort_34 : decode cX1_reachWithSort 34 = .ok (.aload_n 0, 1) := by decide +kernel
theorem dX1_reachWithSort_35 : decode cX1_reachWithSort 35 = .ok (.getfield 52, 3) := by decide +kernel
theorem dX1_reachWithSort_38 : decode cX1_reachWithSort 38 = .ok (.iload_n 3, 1) := by decide +kernel
theorem dX1_reachWithSort_39 : decode cX1_reachWithSort 39 = .ok (.iload_n 1, 1) := by decide +kernel
theorem dX1_reachWithSort_40 : decode cX1_reachWithSort 40 = .ok (.isub, 1) := by decide +kernel
theorem dX1_reachWithSort_41 : decode cX1_reachWithSort 41 = .ok (.iaload, 1) := by decide +kernel
theorem dX1_reachWithSort_42 : decode cX1_reachWithSort 42 = .ok (.istore 4, 2) := by decide +kernel
theorem dX1_reachWithSort_44 : decode cX1_reachWithSort 44 = .ok (.iload 4, 2) := by decide +kernel
theorem dX1_reachWithSort_46 : decode cX1_reachWithSort 46 = .ok (.iconst (-1), 1) := by decide +kernel
theorem dX1_reachWithSort_47 : decode cX1_reachWithSort 47 = .ok (.if_icmp .eq 19, 3) := by decide +kernel
theorem dX1_reachWithSort_50 : decode cX1_reachWithSort 50 = .ok (.iload 4, 2) := by decide +kernel
theorem dX1_reachWithSort_52 : decode cX1_reachWithSort 52 = .ok (.iload_n 2, 1) := by decide +kernel
theorem dX1_reachWithSort_53 : decode cX1_reachWithSort 53 = .ok (.if_icmp .ge 13, 3) := by decide +kernel
theorem dX1_reachWithSort_56 : decode cX1_reachWithSort 56 = .ok (.aload_n 0, 1) := by decide +kernel
theorem dX1_reachWithSort_57 : decode cX1_reachWithSort 57 = .ok (.getfield 52, 3) := by decide +kernel
theorem dX1_reachWithSort_60 : decode cX1_reachWithSort 60 = .ok (.iload_n 3, 1) := by decide +kernel
theorem dX1_reachWithSort_61 : decode cX1_reachWithSort 61 = .ok (.iload 4, 2) := by decide +kernel
theorem dX1_reachWithSort_63 : decode cX1_reachWithSort 63 = .ok (.iconst 1, 1) := by decide +kernel
theorem dX1_reachWithSort_64 : decode cX1_reachWithSort 64 = .ok (.iadd, 1) := by decide +kernel
theorem dX1_reachWithSort_65 : decode cX1_reachWithSort 65 = .ok (.iastore, 1) := by decide +kernel
theorem dX1_reachWithSort_66 : decode cX1_reachWithSort 66 = .ok (.iinc 3 1, 3) := by decide +kernel
theorem dX1_reachWithSort_69 : decode cX1_reachWithSort 69 = .ok (.goto (-67), 3) := by decide +kernel
theorem dX1_reachWithSort_72 : decode cX1_reachWithSort 72 = .ok (.return_, 1) := by decide +kernel
set_option maxRecDepth 20000 in
theorem ggX1_lookAt_X1_hasTree : GoodIn wsX1_lookAt wsX1_hasTree := goodIn_r _ [11, 6, 12, 13, 14, 15, 16, 17, 18, 19, 20, 21, 22, 23, 24] (by decide +kernel) (by decide +kernel)
set_option maxRecDepth 20000 in
theorem gX1_lookAt_X1_hasTree : GoodIn wsX1_lookAt (wsV RX1 121 RX1 yX1_hasTree wsX1_hasTree) := goodIn_app (goodIn_of _ (by decide +kernel)) ggX1_lookAt_X1_hasTree
theorem dX1_lookAt_0 : decode cX1_lookAt 0 = .ok (.aload_n 0, 1) := by decide +kernel
theorem dX1_lookAt_1 : decode cX1_lookAt 1 = .ok (.getfield 48, 3) := by decide +kernel
theorem dX1_lookAt_4 : decode cX1_lookAt 4 = .ok (.aload_n 0, 1) := by decide +kernel
theorem dX1_lookAt_5 : decode cX1_lookAt 5 = .ok (.getfield 28, 3) := by decide +kernel
theorem dX1_lookAt_8 : decode cX1_lookAt 8 = .ok (.iload_n 1, 1) := by decide +kernel
theorem dX1_lookAt_9 : decode cX1_lookAt 9 = .ok (.iaload, 1) := by decide +kernel
theorem dX1_lookAt_10 : decode cX1_lookAt 10 = .ok (.putfield 232, 3) := by decide +kernel
theorem dX1_lookAt_13 : decode cX1_lookAt 13 = .ok (.aload_n 0, 1) := by decide +kernel
theorem dX1_lookAt_14 : decode cX1_lookAt 14 = .ok (.getfield 48, 3) := by decide +kernel
theorem dX1_lookAt_17 : decode cX1_lookAt 17 = .ok (.aload_n 0, 1) := by decide +kernel
theorem dX1_lookAt_18 : decode cX1_lookAt 18 = .ok (.getfield 25, 3) := by decide +kernel
theorem dX1_lookAt_21 : decode cX1_lookAt 21 = .ok (.iload_n 1, 1) := by decide +kernel
theorem dX1_lookAt_22 : decode cX1_lookAt 22 = .ok (.iaload, 1) := by decide +kernel
theorem dX1_lookAt_23 : decode cX1_lookAt 23 = .ok (.putfield 177, 3) := by decide +kernel
theorem dX1_lookAt_26 : decode cX1_lookAt 26 = .ok (.aload_n 0, 1) := by decide +kernel
theorem dX1_lookAt_27 : decode cX1_lookAt 27 = .ok (.getfield 48, 3) := by decide +kernel
theorem dX1_lookAt_30 : decode cX1_lookAt 30 = .ok (.aload_n 0, 1) := by decide +kernel
theorem dX1_lookAt_31 : decode cX1_lookAt 31 = .ok (.getfield 31, 3) := by decide +kernel
theorem dX1_lookAt_34 : decode cX1_lookAt 34 = .ok (.iload_n 1, 1) := by decide +kernel
theorem dX1_lookAt_35 : decode cX1_lookAt 35 = .ok (.baload, 1) := by decide +kernel
theorem dX1_lookAt_36 : decode cX1_lookAt 36 = .ok (.putfield 179, 3) := by decide +kernel
theorem dX1_lookAt_39 : decode cX1_lookAt 39 = .ok (.aload_n 0, 1) := by decide +kernel
theorem dX1_lookAt_40 : decode cX1_lookAt 40 = .ok (.getfield 48, 3) := by decide +kernel
theorem dX1_lookAt_43 : decode cX1_lookAt 43 = .ok (.aload_n 0, 1) := by decide +kernel
theorem dX1_lookAt_44 : decode cX1_lookAt 44 = .ok (.iload_n 1, 1) := by decide +kernel
theorem dX1_lookAt_45 : decode cX1_lookAt 45 = .ok (.invokevirtual 121, 3) := by decide +kernel
theorem dX1_lookAt_48 : decode cX1_lookAt 48 = .ok (.ifCond .eq 17, 3) := by decide +kernel
theorem dX1_lookAt_51 : decode cX1_lookAt 51 = .ok (.aload_n 0, 1) := by decide +kernel
theorem dX1_lookAt_52 : decode cX1_lookAt 52 = .ok (.getfield 13, 3) := by decide +kernel
theorem dX1_lookAt_55 : decode cX1_lookAt 55 = .ok (.aload_n 0, 1) := by decide +kernel
theorem dX1_lookAt_56 : decode cX1_lookAt 56 = .ok (.getfield 22, 3) := by decide +kernel
theorem dX1_lookAt_59 : decode cX1_lookAt 59 = .ok (.iload_n 1, 1) := by decide +kernel
theorem dX1_lookAt_60 : decode cX1_lookAt 60 = .ok (.iaload, 1) := by decide +kernel
theorem dX1_lookAt_61 : decode cX1_lookAt 61 = .ok (.iaload, 1) := by decide +kernel
theorem dX1_lookAt_62 : decode cX1_lookAt 62 = .ok (.goto 4, 3) := by decide +kernel
theorem dX1_lookAt_65 : decode cX1_lookAt 65 = .ok (.iconst 0, 1) := by decide +kernel
theorem dX1_lookAt_66 : decode cX1_lookAt 66 = .ok (.putfield 235, 3) := by decide +kernel
theorem dX1_lookAt_69 : decode cX1_lookAt 69 = .ok (.return_, 1) := by decide +kernel
theorem dX1_keepLooked_0 : decode cX1_keepLooked 0 = .ok (.aload_n 0, 1) := by decide +kernel
theorem dX1_keepLooked_1 : decode cX1_keepLooked 1 = .ok (.getfield 25, 3) := by decide +kernel
theorem dX1_keepLooked_4 : decode cX1_keepLooked 4 = .ok (.iload_n 1, 1) := by decide +kernel
theorem dX1_keepLooked_5 : decode cX1_keepLooked 5 = .ok (.aload_n 0, 1) := by decide +kernel
theorem dX1_keepLooked_6 : decode cX1_keepLooked 6 = .ok (.getfield 48, 3) := by decide +kernel
theorem dX1_keepLooked_9 : decode cX1_keepLooked 9 = .ok (.getfield 177, 3) := by decide +kernel
theorem dX1_keepLooked_12 : decode cX1_keepLooked 12 = .ok (.iastore, 1) := by decide +kernel
theorem dX1_keepLooked_13 : decode cX1_keepLooked 13 = .ok (.aload_n 0, 1) := by decide +kernel
theorem dX1_keepLooked_14 : decode cX1_keepLooked 14 = .ok (.getfield 31, 3) := by decide +kernel
theorem dX1_keepLooked_17 : decode cX1_keepLooked 17 = .ok (.iload_n 1, 1) := by decide +kernel
theorem dX1_keepLooked_18 : decode cX1_keepLooked 18 = .ok (.aload_n 0, 1) := by decide +kernel
theorem dX1_keepLooked_19 : decode cX1_keepLooked 19 = .ok (.getfield 48, 3) := by decide +kernel
theorem dX1_keepLooked_22 : decode cX1_keepLooked 22 = .ok (.getfield 179, 3) := by decide +kernel
theorem dX1_keepLooked_25 : decode cX1_keepLooked 25 = .ok (.bastore, 1) := by decide +kernel
theorem dX1_keepLooked_26 : decode cX1_keepLooked 26 = .ok (.return_, 1) := by decide +kernel
set_option maxRecDepth 20000 in
theorem ggX1_applesNow_X1_lookAt : GoodIn wsX1_applesNow wsX1_lookAt := goodIn_r _ [6, 1, 7, 8, 9, 10, 11, 12, 13, 14, 5, 15, 23, 24, 25, 26, 27, 28, 29, 30, 31, 32, 33, 34, 35, 36, 37, 38, 39] (by decide +kernel) (by decide +kernel)
set_option maxRecDepth 20000 in
theorem gX1_applesNow_X1_lookAt : GoodIn wsX1_applesNow (wsV RX1 170 RX1 yX1_lookAt wsX1_lookAt) := goodIn_app (goodIn_of _ (by decide +kernel)) ggX1_applesNow_X1_lookAt
set_option maxRecDepth 20000 in
theorem ggX1_applesNow_X0_apples : GoodIn wsX1_applesNow wsX0_apples := goodIn_r _ [19, 20, 21, 22, 36, 37, 38, 39] (by decide +kernel) (by decide +kernel)
set_option maxRecDepth 20000 in
theorem gX1_applesNow_X0_apples_n237 : GoodIn wsX1_applesNow (wsX0_apples) := ggX1_applesNow_X0_apples
theorem dX1_applesNow_0 : decode cX1_applesNow 0 = .ok (.aload_n 0, 1) := by decide +kernel
theorem dX1_applesNow_1 : decode cX1_applesNow 1 = .ok (.iload_n 1, 1) := by decide +kernel
theorem dX1_applesNow_2 : decode cX1_applesNow 2 = .ok (.invokevirtual 170, 3) := by decide +kernel
theorem dX1_applesNow_5 : decode cX1_applesNow 5 = .ok (.aload_n 0, 1) := by decide +kernel
theorem dX1_applesNow_6 : decode cX1_applesNow 6 = .ok (.getfield 48, 3) := by decide +kernel
theorem dX1_applesNow_9 : decode cX1_applesNow 9 = .ok (.invokevirtual 237, 3) := by decide +kernel
theorem dX1_applesNow_12 : decode cX1_applesNow 12 = .ok (.ireturn, 1) := by decide +kernel
set_option maxRecDepth 20000 in
theorem ggX1_liveLooked_J9_floorMod_7cf53 : GoodIn wsX1_liveLooked wsJ9_floorMod_7cf53 := goodIn_r _ [7] (by decide +kernel) (by decide +kernel)
set_option maxRecDepth 20000 in
theorem gX1_liveLooked_J9_floorMod_7cf53 : GoodIn wsX1_liveLooked (va_wsS RX1 240 yJ9_floorMod_7cf53 wsJ9_floorMod_7cf53) := goodIn_app (goodIn_of _ (by decide +kernel)) ggX1_liveLooked_J9_floorMod_7cf53
set_option maxRecDepth 20000 in
theorem ggX1_liveLooked_X0_liveYear : GoodIn wsX1_liveLooked wsX0_liveYear := goodIn_r _ [11, 12, 13, 14, 15, 9, 16, 17, 18, 19, 20, 21, 22, 23, 24, 25, 26, 27, 28, 29, 30, 31, 32, 33, 34, 48, 49, 50, 51] (by decide +kernel) (by decide +kernel)
set_option maxRecDepth 20000 in
theorem gX1_liveLooked_X0_liveYear_n243 : GoodIn wsX1_liveLooked (wsX0_liveYear) := ggX1_liveLooked_X0_liveYear
theorem dX1_liveLooked_0 : decode cX1_liveLooked 0 = .ok (.iconst 0, 1) := by decide +kernel
theorem dX1_liveLooked_1 : decode cX1_liveLooked 1 = .ok (.istore_n 2, 1) := by decide +kernel
theorem dX1_liveLooked_2 : decode cX1_liveLooked 2 = .ok (.iconst 0, 1) := by decide +kernel
theorem dX1_liveLooked_3 : decode cX1_liveLooked 3 = .ok (.istore_n 3, 1) := by decide +kernel
theorem dX1_liveLooked_4 : decode cX1_liveLooked 4 = .ok (.iload_n 3, 1) := by decide +kernel
theorem dX1_liveLooked_5 : decode cX1_liveLooked 5 = .ok (.iload_n 1, 1) := by decide +kernel
theorem dX1_liveLooked_6 : decode cX1_liveLooked 6 = .ok (.if_icmp .ge 35, 3) := by decide +kernel
theorem dX1_liveLooked_9 : decode cX1_liveLooked 9 = .ok (.iload_n 2, 1) := by decide +kernel
theorem dX1_liveLooked_10 : decode cX1_liveLooked 10 = .ok (.aload_n 0, 1) := by decide +kernel
theorem dX1_liveLooked_11 : decode cX1_liveLooked 11 = .ok (.getfield 48, 3) := by decide +kernel
theorem dX1_liveLooked_14 : decode cX1_liveLooked 14 = .ok (.aload_n 0, 1) := by decide +kernel
theorem dX1_liveLooked_15 : decode cX1_liveLooked 15 = .ok (.getfield 19, 3) := by decide +kernel
theorem dX1_liveLooked_18 : decode cX1_liveLooked 18 = .ok (.aload_n 0, 1) := by decide +kernel
theorem dX1_liveLooked_19 : decode cX1_liveLooked 19 = .ok (.getfield 38, 3) := by decide +kernel
theorem dX1_liveLooked_22 : decode cX1_liveLooked 22 = .ok (.iload_n 3, 1) := by decide +kernel
theorem dX1_liveLooked_23 : decode cX1_liveLooked 23 = .ok (.iadd, 1) := by decide +kernel
theorem dX1_liveLooked_24 : decode cX1_liveLooked 24 = .ok (.bipush 10, 2) := by decide +kernel
theorem dX1_liveLooked_26 : decode cX1_liveLooked 26 = .ok (.invokestatic 240, 3) := by decide +kernel
theorem dX1_liveLooked_29 : decode cX1_liveLooked 29 = .ok (.iaload, 1) := by decide +kernel
theorem dX1_liveLooked_30 : decode cX1_liveLooked 30 = .ok (.invokevirtual 243, 3) := by decide +kernel
theorem dX1_liveLooked_33 : decode cX1_liveLooked 33 = .ok (.iadd, 1) := by decide +kernel
theorem dX1_liveLooked_34 : decode cX1_liveLooked 34 = .ok (.istore_n 2, 1) := by decide +kernel
theorem dX1_liveLooked_35 : decode cX1_liveLooked 35 = .ok (.iinc 3 1, 3) := by decide +kernel
theorem dX1_liveLooked_38 : decode cX1_liveLooked 38 = .ok (.goto (-34), 3) := by decide +kernel
theorem dX1_liveLooked_41 : decode cX1_liveLooked 41 = .ok (.iload_n 2, 1) := by decide +kernel
theorem dX1_liveLooked_42 : decode cX1_liveLooked 42 = .ok (.ireturn, 1) := by decide +kernel
set_option maxRecDepth 20000 in
theorem ggX1_passAt_X1_lookAt : GoodIn wsX1_passAt wsX1_lookAt := goodIn_r _ [7, 8, 9, 10, 11, 12, 2, 13, 14, 15, 6, 16, 58, 59, 60, 61, 62, 63, 64, 65, 66, 67, 68, 69, 70, 71, 72, 73, 74] (by decide +kernel) (by decide +kernel)
set_option maxRecDepth 20000 in
theorem gX1_passAt_X1_lookAt : GoodIn wsX1_passAt (wsV RX1 170 RX1 yX1_lookAt wsX1_lookAt) := goodIn_app (goodIn_of _ (by decide +kernel)) ggX1_passAt_X1_lookAt
set_option maxRecDepth 20000 in
theorem ggX1_passAt_X1_liveLooked : GoodIn wsX1_passAt wsX1_liveLooked := goodIn_r _ [20, 8, 21, 22, 23, 24, 25, 26, 27, 28, 29, 30, 31, 32, 33, 34, 35, 36, 37, 38, 39, 40, 41, 42, 43, 44, 45, 46, 47, 48, 49, 50, 51, 52, 53, 58, 59, 60, 61, 62, 63, 64, 65, 66, 67, 68, 69, 70, 71, 72, 73, 74] (by decide +kernel) (by decide +kernel)
set_option maxRecDepth 20000 in
theorem gX1_passAt_X1_liveLooked : GoodIn wsX1_passAt (wsV RX1 174 RX1 yX1_liveLooked wsX1_liveLooked) := goodIn_app (goodIn_of _ (by decide +kernel)) ggX1_passAt_X1_liveLooked
set_option maxRecDepth 20000 in
theorem ggX1_passAt_X1_keepLooked : GoodIn wsX1_passAt wsX1_keepLooked := goodIn_r _ [57, 10, 8, 11, 58, 59, 60, 61, 62, 63, 64, 65, 66, 67, 68, 69, 70, 71, 72, 73, 74] (by decide +kernel) (by decide +kernel)
set_option maxRecDepth 20000 in
theorem gX1_passAt_X1_keepLooked : GoodIn wsX1_passAt (wsV RX1 218 RX1 yX1_keepLooked wsX1_keepLooked) := goodIn_app (goodIn_of _ (by decide +kernel)) ggX1_passAt_X1_keepLooked
theorem dX1_passAt_0 : decode cX1_passAt 0 = .ok (.aload_n 0, 1) := by decide +kernel
theorem dX1_passAt_1 : decode cX1_passAt 1 = .ok (.iload_n 1, 1) := by decide +kernel
theorem dX1_passAt_2 : decode cX1_passAt 2 = .ok (.invokevirtual 170, 3) := by decide +kernel
theorem dX1_passAt_5 : decode cX1_passAt 5 = .ok (.aload_n 0, 1) := by decide +kernel
theorem dX1_passAt_6 : decode cX1_passAt 6 = .ok (.iload_n 2, 1) := by decide +kernel
theorem dX1_passAt_7 : decode cX1_passAt 7 = .ok (.invokevirtual 174, 3) := by decide +kernel
theorem dX1_passAt_10 : decode cX1_passAt 10 = .ok (.istore_n 3, 1) := by decide +kernel
theorem dX1_passAt_11 : decode cX1_passAt 11 = .ok (.aload_n 0, 1) := by decide +kernel
theorem dX1_passAt_12 : decode cX1_passAt 12 = .ok (.iload_n 1, 1) := by decide +kernel
theorem dX1_passAt_13 : decode cX1_passAt 13 = .ok (.invokevirtual 218, 3) := by decide +kernel
theorem dX1_passAt_16 : decode cX1_passAt 16 = .ok (.aload_n 0, 1) := by decide +kernel
theorem dX1_passAt_17 : decode cX1_passAt 17 = .ok (.getfield 16, 3) := by decide +kernel
theorem dX1_passAt_20 : decode cX1_passAt 20 = .ok (.aload_n 0, 1) := by decide +kernel
theorem dX1_passAt_21 : decode cX1_passAt 21 = .ok (.getfield 22, 3) := by decide +kernel
theorem dX1_passAt_24 : decode cX1_passAt 24 = .ok (.iload_n 1, 1) := by decide +kernel
theorem dX1_passAt_25 : decode cX1_passAt 25 = .ok (.iaload, 1) := by decide +kernel
theorem dX1_passAt_26 : decode cX1_passAt 26 = .ok (.dup2, 1) := by decide +kernel
theorem dX1_passAt_27 : decode cX1_passAt 27 = .ok (.iaload, 1) := by decide +kernel
theorem dX1_passAt_28 : decode cX1_passAt 28 = .ok (.iload_n 3, 1) := by decide +kernel
theorem dX1_passAt_29 : decode cX1_passAt 29 = .ok (.iadd, 1) := by decide +kernel
theorem dX1_passAt_30 : decode cX1_passAt 30 = .ok (.iastore, 1) := by decide +kernel
theorem dX1_passAt_31 : decode cX1_passAt 31 = .ok (.iload_n 3, 1) := by decide +kernel
theorem dX1_passAt_32 : decode cX1_passAt 32 = .ok (.ireturn, 1) := by decide +kernel
theorem dJ9_floorMod_7cf53_0 : decode cJ9_floorMod_7cf53 0 = .ok (.iload_n 0, 1) := by decide +kernel
theorem dJ9_floorMod_7cf53_1 : decode cJ9_floorMod_7cf53 1 = .ok (.iload_n 1, 1) := by decide +kernel
theorem dJ9_floorMod_7cf53_2 : decode cJ9_floorMod_7cf53 2 = .ok (.irem, 1) := by decide +kernel
theorem dJ9_floorMod_7cf53_3 : decode cJ9_floorMod_7cf53 3 = .ok (.istore_n 2, 1) := by decide +kernel
theorem dJ9_floorMod_7cf53_4 : decode cJ9_floorMod_7cf53 4 = .ok (.iload_n 0, 1) := by decide +kernel
theorem dJ9_floorMod_7cf53_5 : decode cJ9_floorMod_7cf53 5 = .ok (.iload_n 1, 1) := by decide +kernel
theorem dJ9_floorMod_7cf53_6 : decode cJ9_floorMod_7cf53 6 = .ok (.ixor, 1) := by decide +kernel
theorem dJ9_floorMod_7cf53_7 : decode cJ9_floorMod_7cf53 7 = .ok (.ifCond .ge 11, 3) := by decide +kernel
theorem dJ9_floorMod_7cf53_10 : decode cJ9_floorMod_7cf53 10 = .ok (.iload_n 2, 1) := by decide +kernel
theorem dJ9_floorMod_7cf53_11 : decode cJ9_floorMod_7cf53 11 = .ok (.ifCond .eq 7, 3) := by decide +kernel
theorem dJ9_floorMod_7cf53_14 : decode cJ9_floorMod_7cf53 14 = .ok (.iload_n 2, 1) := by decide +kernel
theorem dJ9_floorMod_7cf53_15 : decode cJ9_floorMod_7cf53 15 = .ok (.iload_n 1, 1) := by decide +kernel
theorem dJ9_floorMod_7cf53_16 : decode cJ9_floorMod_7cf53 16 = .ok (.iadd, 1) := by decide +kernel
theorem dJ9_floorMod_7cf53_17 : decode cJ9_floorMod_7cf53 17 = .ok (.ireturn, 1) := by decide +kernel
theorem dJ9_floorMod_7cf53_18 : decode cJ9_floorMod_7cf53 18 = .ok (.iload_n 2, 1) := by decide +kernel
theorem dJ9_floorMod_7cf53_19 : decode cJ9_floorMod_7cf53 19 = .ok (.ireturn, 1) := by decide +kernel
theorem dJ9_max_7cf53_0 : decode cJ9_max_7cf53 0 = .ok (.iload_n 0, 1) := by decide +kernel
theorem dJ9_max_7cf53_1 : decode cJ9_max_7cf53 1 = .ok (.iload_n 1, 1) := by decide +kernel
theorem dJ9_max_7cf53_2 : decode cJ9_max_7cf53 2 = .ok (.if_icmp .lt 7, 3) := by decide +kernel
theorem dJ9_max_7cf53_5 : decode cJ9_max_7cf53 5 = .ok (.iload_n 0, 1) := by decide +kernel
theorem dJ9_max_7cf53_6 : decode cJ9_max_7cf53 6 = .ok (.goto 4, 3) := by decide +kernel
theorem dJ9_max_7cf53_9 : decode cJ9_max_7cf53 9 = .ok (.iload_n 1, 1) := by decide +kernel
theorem dJ9_max_7cf53_10 : decode cJ9_max_7cf53 10 = .ok (.ireturn, 1) := by decide +kernel
theorem dJ9_min_7cf53_0 : decode cJ9_min_7cf53 0 = .ok (.iload_n 0, 1) := by decide +kernel
theorem dJ9_min_7cf53_1 : decode cJ9_min_7cf53 1 = .ok (.iload_n 1, 1) := by decide +kernel
theorem dJ9_min_7cf53_2 : decode cJ9_min_7cf53 2 = .ok (.if_icmp .gt 7, 3) := by decide +kernel
theorem dJ9_min_7cf53_5 : decode cJ9_min_7cf53 5 = .ok (.iload_n 0, 1) := by decide +kernel
theorem dJ9_min_7cf53_6 : decode cJ9_min_7cf53 6 = .ok (.goto 4, 3) := by decide +kernel
theorem dJ9_min_7cf53_9 : decode cJ9_min_7cf53 9 = .ok (.iload_n 1, 1) := by decide +kernel
theorem dJ9_min_7cf53_10 : decode cJ9_min_7cf53 10 = .ok (.ireturn, 1) := by decide +kernel
theorem dJ7_fill_53178_0 : decode cJ7_fill_53178 0 = .ok (.iconst 0, 1) := by decide +kernel
theorem dJ7_fill_53178_1 : decode cJ7_fill_53178 1 = .ok (.istore_n 2, 1) := by decide +kernel
theorem dJ7_fill_53178_2 : decode cJ7_fill_53178 2 = .ok (.aload_n 0, 1) := by decide +kernel
theorem dJ7_fill_53178_3 : decode cJ7_fill_53178 3 = .ok (.arraylength, 1) := by decide +kernel
theorem dJ7_fill_53178_4 : decode cJ7_fill_53178 4 = .ok (.istore_n 3, 1) := by decide +kernel
theorem dJ7_fill_53178_5 : decode cJ7_fill_53178 5 = .ok (.iload_n 2, 1) := by decide +kernel
theorem dJ7_fill_53178_6 : decode cJ7_fill_53178 6 = .ok (.iload_n 3, 1) := by decide +kernel
theorem dJ7_fill_53178_7 : decode cJ7_fill_53178 7 = .ok (.if_icmp .ge 13, 3) := by decide +kernel
theorem dJ7_fill_53178_10 : decode cJ7_fill_53178 10 = .ok (.aload_n 0, 1) := by decide +kernel
theorem dJ7_fill_53178_11 : decode cJ7_fill_53178 11 = .ok (.iload_n 2, 1) := by decide +kernel
theorem dJ7_fill_53178_12 : decode cJ7_fill_53178 12 = .ok (.iload_n 1, 1) := by decide +kernel
theorem dJ7_fill_53178_13 : decode cJ7_fill_53178 13 = .ok (.iastore, 1) := by decide +kernel
theorem dJ7_fill_53178_14 : decode cJ7_fill_53178 14 = .ok (.iinc 2 1, 3) := by decide +kernel
theorem dJ7_fill_53178_17 : decode cJ7_fill_53178 17 = .ok (.goto (-12), 3) := by decide +kernel
theorem dJ7_fill_53178_20 : decode cJ7_fill_53178 20 = .ok (.return_, 1) := by decide +kernel
