theorem dX2_init_0 : decode cX2_init 0 = .ok (.aload_n 0, 1) := by decide +kernel
theorem dX2_init_1 : decode cX2_init 1 = .ok (.invokespecial 1, 3) := by decide +kernel
theorem dX2_init_4 : decode cX2_init 4 = .ok (.aload_n 0, 1) := by decide +kernel
theorem dX2_init_5 : decode cX2_init 5 = .ok (.bipush 6, 2) := by decide +kernel
theorem dX2_init_7 : decode cX2_init 7 = .ok (.newarray .int, 2) := by decide +kernel
theorem dX2_init_9 : decode cX2_init 9 = .ok (.putfield 9, 3) := by decide +kernel
theorem dX2_init_12 : decode cX2_init 12 = .ok (.aload_n 0, 1) := by decide +kernel
theorem dX2_init_13 : decode cX2_init 13 = .ok (.bipush 6, 2) := by decide +kernel
theorem dX2_init_15 : decode cX2_init 15 = .ok (.newarray .int, 2) := by decide +kernel
theorem dX2_init_17 : decode cX2_init 17 = .ok (.putfield 13, 3) := by decide +kernel
theorem dX2_init_20 : decode cX2_init 20 = .ok (.aload_n 0, 1) := by decide +kernel
theorem dX2_init_21 : decode cX2_init 21 = .ok (.bipush 10, 2) := by decide +kernel
theorem dX2_init_23 : decode cX2_init 23 = .ok (.newarray .int, 2) := by decide +kernel
theorem dX2_init_25 : decode cX2_init 25 = .ok (.putfield 16, 3) := by decide +kernel
theorem dX2_init_28 : decode cX2_init 28 = .ok (.aload_n 0, 1) := by decide +kernel
theorem dX2_init_29 : decode cX2_init 29 = .ok (.sipush 200, 3) := by decide +kernel
theorem dX2_init_32 : decode cX2_init 32 = .ok (.newarray .int, 2) := by decide +kernel
theorem dX2_init_34 : decode cX2_init 34 = .ok (.putfield 19, 3) := by decide +kernel
theorem dX2_init_37 : decode cX2_init 37 = .ok (.aload_n 0, 1) := by decide +kernel
theorem dX2_init_38 : decode cX2_init 38 = .ok (.bipush 6, 2) := by decide +kernel
theorem dX2_init_40 : decode cX2_init 40 = .ok (.newarray .int, 2) := by decide +kernel
theorem dX2_init_42 : decode cX2_init 42 = .ok (.putfield 22, 3) := by decide +kernel
theorem dX2_init_45 : decode cX2_init 45 = .ok (.aload_n 0, 1) := by decide +kernel
theorem dX2_init_46 : decode cX2_init 46 = .ok (.iconst 3, 1) := by decide +kernel
theorem dX2_init_47 : decode cX2_init 47 = .ok (.newarray .int, 2) := by decide +kernel
theorem dX2_init_49 : decode cX2_init 49 = .ok (.dup, 1) := by decide +kernel
theorem dX2_init_50 : decode cX2_init 50 = .ok (.iconst 0, 1) := by decide +kernel
theorem dX2_init_51 : decode cX2_init 51 = .ok (.bipush 20, 2) := by decide +kernel
theorem dX2_init_53 : decode cX2_init 53 = .ok (.iastore, 1) := by decide +kernel
theorem dX2_init_54 : decode cX2_init 54 = .ok (.dup, 1) := by decide +kernel
theorem dX2_init_55 : decode cX2_init 55 = .ok (.iconst 1, 1) := by decide +kernel
theorem dX2_init_56 : decode cX2_init 56 = .ok (.bipush 20, 2) := by decide +kernel
theorem dX2_init_58 : decode cX2_init 58 = .ok (.iastore, 1) := by decide +kernel
theorem dX2_init_59 : decode cX2_init 59 = .ok (.dup, 1) := by decide +kernel
theorem dX2_init_60 : decode cX2_init 60 = .ok (.iconst 2, 1) := by decide +kernel
theorem dX2_init_61 : decode cX2_init 61 = .ok (.iconst 0, 1) := by decide +kernel
theorem dX2_init_62 : decode cX2_init 62 = .ok (.iastore, 1) := by decide +kernel
theorem dX2_init_63 : decode cX2_init 63 = .ok (.putfield 25, 3) := by decide +kernel
theorem dX2_init_66 : decode cX2_init 66 = .ok (.iconst 0, 1) := by decide +kernel
theorem dX2_init_67 : decode cX2_init 67 = .ok (.istore_n 1, 1) := by decide +kernel
theorem dX2_init_68 : decode cX2_init 68 = .ok (.iload_n 1, 1) := by decide +kernel
theorem dX2_init_69 : decode cX2_init 69 = .ok (.bipush 6, 2) := by decide +kernel
theorem dX2_init_71 : decode cX2_init 71 = .ok (.if_icmp .ge 23, 3) := by decide +kernel
theorem dX2_init_74 : decode cX2_init 74 = .ok (.aload_n 0, 1) := by decide +kernel
theorem dX2_init_75 : decode cX2_init 75 = .ok (.getfield 9, 3) := by decide +kernel
theorem dX2_init_78 : decode cX2_init 78 = .ok (.iload_n 1, 1) := by decide +kernel
theorem dX2_init_79 : decode cX2_init 79 = .ok (.iconst 3, 1) := by decide +kernel
theorem dX2_init_80 : decode cX2_init 80 = .ok (.iastore, 1) := by decide +kernel
theorem dX2_init_81 : decode cX2_init 81 = .ok (.aload_n 0, 1) := by decide +kernel
theorem dX2_init_82 : decode cX2_init 82 = .ok (.getfield 13, 3) := by decide +kernel
theorem dX2_init_85 : decode cX2_init 85 = .ok (.iload_n 1, 1) := by decide +kernel
theorem dX2_init_86 : decode cX2_init 86 = .ok (.iconst 4, 1) := by decide +kernel
theorem dX2_init_87 : decode cX2_init 87 = .ok (.iastore, 1) := by decide +kernel
theorem dX2_init_88 : decode cX2_init 88 = .ok (.iinc 1 1, 3) := by decide +kernel
theorem dX2_init_91 : decode cX2_init 91 = .ok (.goto (-23), 3) := by decide +kernel
theorem dX2_init_94 : decode cX2_init 94 = .ok (.return_, 1) := by decide +kernel
theorem dX2_thrown_0 : decode cX2_thrown 0 = .ok (.aload_n 0, 1) := by decide +kernel
theorem dX2_thrown_1 : decode cX2_thrown 1 = .ok (.getfield 28, 3) := by decide +kernel
theorem dX2_thrown_4 : decode cX2_thrown 4 = .ok (.ireturn, 1) := by decide +kernel
theorem dX2_fail_0 : decode cX2_fail 0 = .ok (.aload_n 0, 1) := by decide +kernel
theorem dX2_fail_1 : decode cX2_fail 1 = .ok (.iload_n 1, 1) := by decide +kernel
theorem dX2_fail_2 : decode cX2_fail 2 = .ok (.putfield 28, 3) := by decide +kernel
theorem dX2_fail_5 : decode cX2_fail 5 = .ok (.iconst 0, 1) := by decide +kernel
theorem dX2_fail_6 : decode cX2_fail 6 = .ok (.ireturn, 1) := by decide +kernel
theorem dX2_isIn_0 : decode cX2_isIn 0 = .ok (.iload_n 0, 1) := by decide +kernel
theorem dX2_isIn_1 : decode cX2_isIn 1 = .ok (.iload_n 1, 1) := by decide +kernel
theorem dX2_isIn_2 : decode cX2_isIn 2 = .ok (.if_icmp .lt 12, 3) := by decide +kernel
theorem dX2_isIn_5 : decode cX2_isIn 5 = .ok (.iload_n 0, 1) := by decide +kernel
theorem dX2_isIn_6 : decode cX2_isIn 6 = .ok (.iload_n 2, 1) := by decide +kernel
theorem dX2_isIn_7 : decode cX2_isIn 7 = .ok (.if_icmp .gt 7, 3) := by decide +kernel
theorem dX2_isIn_10 : decode cX2_isIn 10 = .ok (.iconst 1, 1) := by decide +kernel
theorem dX2_isIn_11 : decode cX2_isIn 11 = .ok (.goto 4, 3) := by decide +kernel
theorem dX2_isIn_14 : decode cX2_isIn 14 = .ok (.iconst 0, 1) := by decide +kernel
theorem dX2_isIn_15 : decode cX2_isIn 15 = .ok (.ireturn, 1) := by decide +kernel
set_option maxRecDepth 20000 in
theorem ggX2_isSpot_X2_isIn : GoodIn wsX2_isSpot wsX2_isIn := goodIn_r _ [4] (by decide +kernel) (by decide +kernel)
set_option maxRecDepth 20000 in
theorem gX2_isSpot_X2_isIn : GoodIn wsX2_isSpot (va_wsS RX2 32 yX2_isIn wsX2_isIn) := goodIn_app (goodIn_of _ (by decide +kernel)) ggX2_isSpot_X2_isIn
theorem dX2_isSpot_0 : decode cX2_isSpot 0 = .ok (.iload_n 0, 1) := by decide +kernel
theorem dX2_isSpot_1 : decode cX2_isSpot 1 = .ok (.iconst 0, 1) := by decide +kernel
theorem dX2_isSpot_2 : decode cX2_isSpot 2 = .ok (.iconst 4, 1) := by decide +kernel
theorem dX2_isSpot_3 : decode cX2_isSpot 3 = .ok (.invokestatic 32, 3) := by decide +kernel
theorem dX2_isSpot_6 : decode cX2_isSpot 6 = .ok (.ifCond .eq 17, 3) := by decide +kernel
theorem dX2_isSpot_9 : decode cX2_isSpot 9 = .ok (.iload_n 1, 1) := by decide +kernel
theorem dX2_isSpot_10 : decode cX2_isSpot 10 = .ok (.iconst 0, 1) := by decide +kernel
theorem dX2_isSpot_11 : decode cX2_isSpot 11 = .ok (.bipush 7, 2) := by decide +kernel
theorem dX2_isSpot_13 : decode cX2_isSpot 13 = .ok (.invokestatic 32, 3) := by decide +kernel
theorem dX2_isSpot_16 : decode cX2_isSpot 16 = .ok (.ifCond .eq 7, 3) := by decide +kernel
theorem dX2_isSpot_19 : decode cX2_isSpot 19 = .ok (.iconst 1, 1) := by decide +kernel
theorem dX2_isSpot_20 : decode cX2_isSpot 20 = .ok (.goto 4, 3) := by decide +kernel
theorem dX2_isSpot_23 : decode cX2_isSpot 23 = .ok (.iconst 0, 1) := by decide +kernel
theorem dX2_isSpot_24 : decode cX2_isSpot 24 = .ok (.ireturn, 1) := by decide +kernel
set_option maxRecDepth 20000 in
theorem ggX2_isSort_X2_isIn : GoodIn wsX2_isSort wsX2_isIn := goodIn_r _ [4] (by decide +kernel) (by decide +kernel)
set_option maxRecDepth 20000 in
theorem gX2_isSort_X2_isIn : GoodIn wsX2_isSort (va_wsS RX2 32 yX2_isIn wsX2_isIn) := goodIn_app (goodIn_of _ (by decide +kernel)) ggX2_isSort_X2_isIn
theorem dX2_isSort_0 : decode cX2_isSort 0 = .ok (.iload_n 0, 1) := by decide +kernel
theorem dX2_isSort_1 : decode cX2_isSort 1 = .ok (.iconst 0, 1) := by decide +kernel
theorem dX2_isSort_2 : decode cX2_isSort 2 = .ok (.iconst 5, 1) := by decide +kernel
theorem dX2_isSort_3 : decode cX2_isSort 3 = .ok (.invokestatic 32, 3) := by decide +kernel
theorem dX2_isSort_6 : decode cX2_isSort 6 = .ok (.ireturn, 1) := by decide +kernel
theorem dX2_tr_0 : decode cX2_tr 0 = .ok (.aload_n 0, 1) := by decide +kernel
theorem dX2_tr_1 : decode cX2_tr 1 = .ok (.getfield 19, 3) := by decide +kernel
theorem dX2_tr_4 : decode cX2_tr 4 = .ok (.iconst 5, 1) := by decide +kernel
theorem dX2_tr_5 : decode cX2_tr 5 = .ok (.iload_n 1, 1) := by decide +kernel
theorem dX2_tr_6 : decode cX2_tr 6 = .ok (.imul, 1) := by decide +kernel
theorem dX2_tr_7 : decode cX2_tr 7 = .ok (.iload_n 2, 1) := by decide +kernel
theorem dX2_tr_8 : decode cX2_tr 8 = .ok (.iadd, 1) := by decide +kernel
theorem dX2_tr_9 : decode cX2_tr 9 = .ok (.iaload, 1) := by decide +kernel
theorem dX2_tr_10 : decode cX2_tr 10 = .ok (.ireturn, 1) := by decide +kernel
theorem dX2_set_0 : decode cX2_set 0 = .ok (.aload_n 0, 1) := by decide +kernel
theorem dX2_set_1 : decode cX2_set 1 = .ok (.getfield 19, 3) := by decide +kernel
theorem dX2_set_4 : decode cX2_set 4 = .ok (.iconst 5, 1) := by decide +kernel
theorem dX2_set_5 : decode cX2_set 5 = .ok (.iload_n 1, 1) := by decide +kernel
theorem dX2_set_6 : decode cX2_set 6 = .ok (.imul, 1) := by decide +kernel
theorem dX2_set_7 : decode cX2_set 7 = .ok (.iload_n 2, 1) := by decide +kernel
theorem dX2_set_8 : decode cX2_set 8 = .ok (.iadd, 1) := by decide +kernel
theorem dX2_set_9 : decode cX2_set 9 = .ok (.iload_n 3, 1) := by decide +kernel
theorem dX2_set_10 : decode cX2_set 10 = .ok (.iastore, 1) := by decide +kernel
theorem dX2_set_11 : decode cX2_set 11 = .ok (.return_, 1) := by decide +kernel
set_option maxRecDepth 20000 in
theorem ggX2_setSort_X2_isSort : GoodIn wsX2_setSort wsX2_isSort := goodIn_r _ [7, 8, 9, 6, 10] (by decide +kernel) (by decide +kernel)
set_option maxRecDepth 20000 in
theorem gX2_setSort_X2_isSort : GoodIn wsX2_setSort (va_wsS RX2 36 yX2_isSort wsX2_isSort) := goodIn_app (goodIn_of _ (by decide +kernel)) ggX2_setSort_X2_isSort
set_option maxRecDepth 20000 in
theorem ggX2_setSort_X2_fail : GoodIn wsX2_setSort wsX2_fail := goodIn_r _ [14, 1, 15, 16, 17, 18, 19, 20, 21, 22] (by decide +kernel) (by decide +kernel)
set_option maxRecDepth 20000 in
theorem gX2_setSort_X2_fail : GoodIn wsX2_setSort (wsV RX2 40 RX2 yX2_fail wsX2_fail) := goodIn_app (goodIn_of _ (by decide +kernel)) ggX2_setSort_X2_fail
set_option maxRecDepth 20000 in
theorem ggX2_setSort_X2_isIn : GoodIn wsX2_setSort wsX2_isIn := goodIn_r _ [10] (by decide +kernel) (by decide +kernel)
set_option maxRecDepth 20000 in
theorem gX2_setSort_X2_isIn : GoodIn wsX2_setSort (va_wsS RX2 32 yX2_isIn wsX2_isIn) := goodIn_app (goodIn_of _ (by decide +kernel)) ggX2_setSort_X2_isIn
theorem dX2_setSort_0 : decode cX2_setSort 0 = .ok (.aload_n 0, 1) := by decide +kernel
theorem dX2_setSort_1 : decode cX2_setSort 1 = .ok (.iconst 0, 1) := by decide +kernel
theorem dX2_setSort_2 : decode cX2_setSort 2 = .ok (.putfield 28, 3) := by decide +kernel
theorem dX2_setSort_5 : decode cX2_setSort 5 = .ok (.iload_n 1, 1) := by decide +kernel
theorem dX2_setSort_6 : decode cX2_setSort 6 = .ok (.invokestatic 36, 3) := by decide +kernel
theorem dX2_setSort_9 : decode cX2_setSort 9 = .ok (.ifCond .ne 9, 3) := by decide +kernel
theorem dX2_setSort_12 : decode cX2_setSort 12 = .ok (.aload_n 0, 1) := by decide +kernel
theorem dX2_setSort_13 : decode cX2_setSort 13 = .ok (.iconst 1, 1) := by decide +kernel
theorem dX2_setSort_14 : decode cX2_setSort 14 = .ok (.invokevirtual 40, 3) := by decide +kernel
theorem dX2_setSort_17 : decode cX2_setSort 17 = .ok (.ireturn, 1) := by decide +kernel
theorem dX2_setSort_18 : decode cX2_setSort 18 = .ok (.iload_n 2, 1) := by decide +kernel
theorem dX2_setSort_19 : decode cX2_setSort 19 = .ok (.iconst 1, 1) := by decide +kernel
theorem dX2_setSort_20 : decode cX2_setSort 20 = .ok (.bipush 9, 2) := by decide +kernel
theorem dX2_setSort_22 : decode cX2_setSort 22 = .ok (.invokestatic 32, 3) := by decide +kernel
theorem dX2_setSort_25 : decode cX2_setSort 25 = .ok (.ifCond .eq 13, 3) := by decide +kernel
theorem dX2_setSort_28 : decode cX2_setSort 28 = .ok (.iload_n 3, 1) := by decide +kernel
theorem dX2_setSort_29 : decode cX2_setSort 29 = .ok (.iconst 0, 1) := by decide +kernel
theorem dX2_setSort_30 : decode cX2_setSort 30 = .ok (.bipush 9, 2) := by decide +kernel
theorem dX2_setSort_32 : decode cX2_setSort 32 = .ok (.invokestatic 32, 3) := by decide +kernel
theorem dX2_setSort_35 : decode cX2_setSort 35 = .ok (.ifCond .ne 9, 3) := by decide +kernel
theorem dX2_setSort_38 : decode cX2_setSort 38 = .ok (.aload_n 0, 1) := by decide +kernel
theorem dX2_setSort_39 : decode cX2_setSort 39 = .ok (.iconst 2, 1) := by decide +kernel
theorem dX2_setSort_40 : decode cX2_setSort 40 = .ok (.invokevirtual 40, 3) := by decide +kernel
theorem dX2_setSort_43 : decode cX2_setSort 43 = .ok (.ireturn, 1) := by decide +kernel
theorem dX2_setSort_44 : decode cX2_setSort 44 = .ok (.bipush 10, 2) := by decide +kernel
theorem dX2_setSort_46 : decode cX2_setSort 46 = .ok (.aload_n 0, 1) := by decide +kernel
theorem dX2_setSort_47 : decode cX2_setSort 47 = .ok (.getfield 9, 3) := by decide +kernel
theorem dX2_setSort_50 : decode cX2_setSort 50 = .ok (.iload_n 1, 1) := by decide +kernel
theorem dX2_setSort_51 : decode cX2_setSort 51 = .ok (.iaload, 1) := by decide +kernel
theorem dX2_setSort_52 : decode cX2_setSort 52 = .ok (.imul, 1) := by decide +kernel
theorem dX2_setSort_53 : decode cX2_setSort 53 = .ok (.aload_n 0, 1) := by decide +kernel
theorem dX2_setSort_54 : decode cX2_setSort 54 = .ok (.getfield 13, 3) := by decide +kernel
theorem dX2_setSort_57 : decode cX2_setSort 57 = .ok (.iload_n 1, 1) := by decide +kernel
theorem dX2_setSort_58 : decode cX2_setSort 58 = .ok (.iaload, 1) := by decide +kernel
theorem dX2_setSort_59 : decode cX2_setSort 59 = .ok (.iadd, 1) := by decide +kernel
theorem dX2_setSort_60 : decode cX2_setSort 60 = .ok (.istore 4, 2) := by decide +kernel
theorem dX2_setSort_62 : decode cX2_setSort 62 = .ok (.aload_n 0, 1) := by decide +kernel
theorem dX2_setSort_63 : decode cX2_setSort 63 = .ok (.getfield 9, 3) := by decide +kernel
theorem dX2_setSort_66 : decode cX2_setSort 66 = .ok (.iload_n 1, 1) := by decide +kernel
theorem dX2_setSort_67 : decode cX2_setSort 67 = .ok (.iload_n 2, 1) := by decide +kernel
theorem dX2_setSort_68 : decode cX2_setSort 68 = .ok (.iastore, 1) := by decide +kernel
theorem dX2_setSort_69 : decode cX2_setSort 69 = .ok (.aload_n 0, 1) := by decide +kernel
theorem dX2_setSort_70 : decode cX2_setSort 70 = .ok (.getfield 13, 3) := by decide +kernel
theorem dX2_setSort_73 : decode cX2_setSort 73 = .ok (.iload_n 1, 1) := by decide +kernel
theorem dX2_setSort_74 : decode cX2_setSort 74 = .ok (.iload_n 3, 1) := by decide +kernel
theorem dX2_setSort_75 : decode cX2_setSort 75 = .ok (.iastore, 1) := by decide +kernel
theorem dX2_setSort_76 : decode cX2_setSort 76 = .ok (.iload 4, 2) := by decide +kernel
theorem dX2_setSort_78 : decode cX2_setSort 78 = .ok (.ireturn, 1) := by decide +kernel
set_option maxRecDepth 20000 in
theorem ggX2_setFrost_X2_isIn : GoodIn wsX2_setFrost wsX2_isIn := goodIn_r _ [6] (by decide +kernel) (by decide +kernel)
set_option maxRecDepth 20000 in
theorem gX2_setFrost_X2_isIn : GoodIn wsX2_setFrost (va_wsS RX2 32 yX2_isIn wsX2_isIn) := goodIn_app (goodIn_of _ (by decide +kernel)) ggX2_setFrost_X2_isIn
set_option maxRecDepth 20000 in
theorem ggX2_setFrost_X2_fail : GoodIn wsX2_setFrost wsX2_fail := goodIn_r _ [10, 1, 11, 12, 13, 14, 15, 16, 17, 18] (by decide +kernel) (by decide +kernel)
set_option maxRecDepth 20000 in
theorem gX2_setFrost_X2_fail : GoodIn wsX2_setFrost (wsV RX2 40 RX2 yX2_fail wsX2_fail) := goodIn_app (goodIn_of _ (by decide +kernel)) ggX2_setFrost_X2_fail
theorem dX2_setFrost_0 : decode cX2_setFrost 0 = .ok (.aload_n 0, 1) := by decide +kernel
theorem dX2_setFrost_1 : decode cX2_setFrost 1 = .ok (.iconst 0, 1) := by decide +kernel
theorem dX2_setFrost_2 : decode cX2_setFrost 2 = .ok (.putfield 28, 3) := by decide +kernel
theorem dX2_setFrost_5 : decode cX2_setFrost 5 = .ok (.iload_n 1, 1) := by decide +kernel
theorem dX2_setFrost_6 : decode cX2_setFrost 6 = .ok (.iconst 0, 1) := by decide +kernel
theorem dX2_setFrost_7 : decode cX2_setFrost 7 = .ok (.bipush 9, 2) := by decide +kernel
theorem dX2_setFrost_9 : decode cX2_setFrost 9 = .ok (.invokestatic 32, 3) := by decide +kernel
theorem dX2_setFrost_12 : decode cX2_setFrost 12 = .ok (.ifCond .ne 9, 3) := by decide +kernel
theorem dX2_setFrost_15 : decode cX2_setFrost 15 = .ok (.aload_n 0, 1) := by decide +kernel
theorem dX2_setFrost_16 : decode cX2_setFrost 16 = .ok (.iconst 1, 1) := by decide +kernel
theorem dX2_setFrost_17 : decode cX2_setFrost 17 = .ok (.invokevirtual 40, 3) := by decide +kernel
theorem dX2_setFrost_20 : decode cX2_setFrost 20 = .ok (.ireturn, 1) := by decide +kernel
theorem dX2_setFrost_21 : decode cX2_setFrost 21 = .ok (.iload_n 2, 1) := by decide +kernel
theorem dX2_setFrost_22 : decode cX2_setFrost 22 = .ok (.iconst 0, 1) := by decide +kernel
theorem dX2_setFrost_23 : decode cX2_setFrost 23 = .ok (.bipush 9, 2) := by decide +kernel
theorem dX2_setFrost_25 : decode cX2_setFrost 25 = .ok (.invokestatic 32, 3) := by decide +kernel
theorem dX2_setFrost_28 : decode cX2_setFrost 28 = .ok (.ifCond .ne 9, 3) := by decide +kernel
theorem dX2_setFrost_31 : decode cX2_setFrost 31 = .ok (.aload_n 0, 1) := by decide +kernel
theorem dX2_setFrost_32 : decode cX2_setFrost 32 = .ok (.iconst 2, 1) := by decide +kernel
theorem dX2_setFrost_33 : decode cX2_setFrost 33 = .ok (.invokevirtual 40, 3) := by decide +kernel
theorem dX2_setFrost_36 : decode cX2_setFrost 36 = .ok (.ireturn, 1) := by decide +kernel
theorem dX2_setFrost_37 : decode cX2_setFrost 37 = .ok (.aload_n 0, 1) := by decide +kernel
theorem dX2_setFrost_38 : decode cX2_setFrost 38 = .ok (.getfield 16, 3) := by decide +kernel
theorem dX2_setFrost_41 : decode cX2_setFrost 41 = .ok (.iload_n 1, 1) := by decide +kernel
theorem dX2_setFrost_42 : decode cX2_setFrost 42 = .ok (.iaload, 1) := by decide +kernel
theorem dX2_setFrost_43 : decode cX2_setFrost 43 = .ok (.istore_n 3, 1) := by decide +kernel
theorem dX2_setFrost_44 : decode cX2_setFrost 44 = .ok (.aload_n 0, 1) := by decide +kernel
theorem dX2_setFrost_45 : decode cX2_setFrost 45 = .ok (.getfield 16, 3) := by decide +kernel
theorem dX2_setFrost_48 : decode cX2_setFrost 48 = .ok (.iload_n 1, 1) := by decide +kernel
theorem dX2_setFrost_49 : decode cX2_setFrost 49 = .ok (.iload_n 2, 1) := by decide +kernel
theorem dX2_setFrost_50 : decode cX2_setFrost 50 = .ok (.iastore, 1) := by decide +kernel
theorem dX2_setFrost_51 : decode cX2_setFrost 51 = .ok (.iload_n 3, 1) := by decide +kernel
theorem dX2_setFrost_52 : decode cX2_setFrost 52 = .ok (.ireturn, 1) := by decide +kernel
set_option maxRecDepth 20000 in
theorem ggX2_can_X2_tr : GoodIn wsX2_can wsX2_tr := goodIn_r _ [5, 6, 7, 8, 9, 10, 11, 12, 13, 14] (by decide +kernel) (by decide +kernel)
set_option maxRecDepth 20000 in
theorem gX2_can_X2_tr : GoodIn wsX2_can (wsV RX2 44 RX2 yX2_tr wsX2_tr) := goodIn_app (goodIn_of _ (by decide +kernel)) ggX2_can_X2_tr
theorem dX2_can_0 : decode cX2_can 0 = .ok (.aload_n 0, 1) := by decide +kernel
theorem dX2_can_1 : decode cX2_can 1 = .ok (.iload_n 1, 1) := by decide +kernel
theorem dX2_can_2 : decode cX2_can 2 = .ok (.iconst 0, 1) := by decide +kernel
theorem dX2_can_3 : decode cX2_can 3 = .ok (.invokevirtual 44, 3) := by decide +kernel
theorem dX2_can_6 : decode cX2_can 6 = .ok (.iconst 1, 1) := by decide +kernel
theorem dX2_can_7 : decode cX2_can 7 = .ok (.if_icmp .ne 7, 3) := by decide +kernel
theorem dX2_can_10 : decode cX2_can 10 = .ok (.iconst 1, 1) := by decide +kernel
theorem dX2_can_11 : decode cX2_can 11 = .ok (.goto 4, 3) := by decide +kernel
theorem dX2_can_14 : decode cX2_can 14 = .ok (.iconst 0, 1) := by decide +kernel
theorem dX2_can_15 : decode cX2_can 15 = .ok (.istore 4, 2) := by decide +kernel
theorem dX2_can_17 : decode cX2_can 17 = .ok (.iload_n 2, 1) := by decide +kernel
theorem dX2_can_18 : decode cX2_can 18 = .ok (.tableswitch 88 0 2 #[26, 37, 58], 26) := by decide +kernel
theorem dX2_can_44 : decode cX2_can 44 = .ok (.iload 4, 2) := by decide +kernel
theorem dX2_can_46 : decode cX2_can 46 = .ok (.ifCond .ne 7, 3) := by decide +kernel
theorem dX2_can_49 : decode cX2_can 49 = .ok (.iconst 1, 1) := by decide +kernel
theorem dX2_can_50 : decode cX2_can 50 = .ok (.goto 4, 3) := by decide +kernel
theorem dX2_can_53 : decode cX2_can 53 = .ok (.iconst 0, 1) := by decide +kernel
theorem dX2_can_54 : decode cX2_can 54 = .ok (.ireturn, 1) := by decide +kernel
theorem dX2_can_55 : decode cX2_can 55 = .ok (.iload 4, 2) := by decide +kernel
theorem dX2_can_57 : decode cX2_can 57 = .ok (.ifCond .eq 17, 3) := by decide +kernel
theorem dX2_can_60 : decode cX2_can 60 = .ok (.aload_n 0, 1) := by decide +kernel
theorem dX2_can_61 : decode cX2_can 61 = .ok (.iload_n 1, 1) := by decide +kernel
theorem dX2_can_62 : decode cX2_can 62 = .ok (.iconst 1, 1) := by decide +kernel
theorem dX2_can_63 : decode cX2_can 63 = .ok (.invokevirtual 44, 3) := by decide +kernel
theorem dX2_can_66 : decode cX2_can 66 = .ok (.iload_n 3, 1) := by decide +kernel
theorem dX2_can_67 : decode cX2_can 67 = .ok (.if_icmp .lt 7, 3) := by decide +kernel
theorem dX2_can_70 : decode cX2_can 70 = .ok (.iconst 1, 1) := by decide +kernel
theorem dX2_can_71 : decode cX2_can 71 = .ok (.goto 4, 3) := by decide +kernel
theorem dX2_can_74 : decode cX2_can 74 = .ok (.iconst 0, 1) := by decide +kernel
theorem dX2_can_75 : decode cX2_can 75 = .ok (.ireturn, 1) := by decide +kernel
theorem dX2_can_76 : decode cX2_can 76 = .ok (.iload 4, 2) := by decide +kernel
theorem dX2_can_78 : decode cX2_can 78 = .ok (.ifCond .eq 26, 3) := by decide +kernel
theorem dX2_can_81 : decode cX2_can 81 = .ok (.aload_n 0, 1) := by decide +kernel
theorem dX2_can_82 : decode cX2_can 82 = .ok (.iload_n 1, 1) := by decide +kernel
theorem dX2_can_83 : decode cX2_can 83 = .ok (.iconst 3, 1) := by decide +kernel
theorem dX2_can_84 : decode cX2_can 84 = .ok (.invokevirtual 44, 3) := by decide +kernel
theorem dX2_can_87 : decode cX2_can 87 = .ok (.iload_n 3, 1) := by decide +kernel
theorem dX2_can_88 : decode cX2_can 88 = .ok (.if_icmp .eq 16, 3) := by decide +kernel
theorem dX2_can_91 : decode cX2_can 91 = .ok (.aload_n 0, 1) := by decide +kernel
theorem dX2_can_92 : decode cX2_can 92 = .ok (.iload_n 1, 1) := by decide +kernel
theorem dX2_can_93 : decode cX2_can 93 = .ok (.iconst 1, 1) := by decide +kernel
theorem dX2_can_94 : decode cX2_can 94 = .ok (.invokevirtual 44, 3) := by decide +kernel
theorem dX2_can_97 : decode cX2_can 97 = .ok (.ifCond .le 7, 3) := by decide +kernel
theorem dX2_can_100 : decode cX2_can 100 = .ok (.iconst 1, 1) := by decide +kernel
theorem dX2_can_101 : decode cX2_can 101 = .ok (.goto 4, 3) := by decide +kernel
theorem dX2_can_104 : decode cX2_can 104 = .ok (.iconst 0, 1) := by decide +kernel
theorem dX2_can_105 : decode cX2_can 105 = .ok (.ireturn, 1) := by decide +kernel
theorem dX2_can_106 : decode cX2_can 106 = .ok (.iload 4, 2) := by decide +kernel
theorem dX2_can_108 : decode cX2_can 108 = .ok (.ireturn, 1) := by decide +kernel
set_option maxRecDepth 20000 in
theorem ggX2_change_X2_tr : GoodIn wsX2_change wsX2_tr := goodIn_r _ [15, 2, 20, 21, 22, 23, 24, 25, 26, 27] (by decide +kernel) (by decide +kernel)
set_option maxRecDepth 20000 in
theorem gX2_change_X2_tr : GoodIn wsX2_change (wsV RX2 44 RX2 yX2_tr wsX2_tr) := goodIn_app (goodIn_of _ (by decide +kernel)) ggX2_change_X2_tr
set_option maxRecDepth 20000 in
theorem ggX2_change_X2_set : GoodIn wsX2_change wsX2_set := goodIn_r _ [19, 2, 20, 21, 22, 23, 24, 25, 26, 27] (by decide +kernel) (by decide +kernel)
set_option maxRecDepth 20000 in
theorem gX2_change_X2_set : GoodIn wsX2_change (wsV RX2 54 RX2 yX2_set wsX2_set) := goodIn_app (goodIn_of _ (by decide +kernel)) ggX2_change_X2_set
theorem dX2_change_0 : decode cX2_change 0 = .ok (.iload_n 2, 1) := by decide +kernel
theorem dX2_change_1 : decode cX2_change 1 = .ok (.tableswitch 122 0 2 #[27, 70, 94], 27) := by decide +kernel
theorem dX2_change_28 : decode cX2_change 28 = .ok (.iconst 5, 1) := by decide +kernel
theorem dX2_change_29 : decode cX2_change 29 = .ok (.newarray .int, 2) := by decide +kernel
theorem dX2_change_31 : decode cX2_change 31 = .ok (.dup, 1) := by decide +kernel
theorem dX2_change_32 : decode cX2_change 32 = .ok (.iconst 0, 1) := by decide +kernel
theorem dX2_change_33 : decode cX2_change 33 = .ok (.iconst 1, 1) := by decide +kernel
theorem dX2_change_34 : decode cX2_change 34 = .ok (.iastore, 1) := by decide +kernel
theorem dX2_change_35 : decode cX2_change 35 = .ok (.dup, 1) := by decide +kernel
theorem dX2_change_36 : decode cX2_change 36 = .ok (.iconst 1, 1) := by decide +kernel
theorem dX2_change_37 : decode cX2_change 37 = .ok (.iconst 1, 1) := by decide +kernel
theorem dX2_change_38 : decode cX2_change 38 = .ok (.iastore, 1) := by decide +kernel
theorem dX2_change_39 : decode cX2_change 39 = .ok (.dup, 1) := by decide +kernel
theorem dX2_change_40 : decode cX2_change 40 = .ok (.iconst 2, 1) := by decide +kernel
theorem dX2_change_41 : decode cX2_change 41 = .ok (.iload 4, 2) := by decide +kernel
theorem dX2_change_43 : decode cX2_change 43 = .ok (.iastore, 1) := by decide +kernel
theorem dX2_change_44 : decode cX2_change 44 = .ok (.dup, 1) := by decide +kernel
theorem dX2_change_45 : decode cX2_change 45 = .ok (.iconst 3, 1) := by decide +kernel
theorem dX2_change_46 : decode cX2_change 46 = .ok (.iload_n 3, 1) := by decide +kernel
theorem dX2_change_47 : decode cX2_change 47 = .ok (.iastore, 1) := by decide +kernel
theorem dX2_change_48 : decode cX2_change 48 = .ok (.dup, 1) := by decide +kernel
theorem dX2_change_49 : decode cX2_change 49 = .ok (.iconst 4, 1) := by decide +kernel
theorem dX2_change_50 : decode cX2_change 50 = .ok (.iconst 0, 1) := by decide +kernel
theorem dX2_change_51 : decode cX2_change 51 = .ok (.iastore, 1) := by decide +kernel
theorem dX2_change_52 : decode cX2_change 52 = .ok (.astore 5, 2) := by decide +kernel
theorem dX2_change_54 : decode cX2_change 54 = .ok (.aload 5, 2) := by decide +kernel
theorem dX2_change_56 : decode cX2_change 56 = .ok (.iconst 0, 1) := by decide +kernel
theorem dX2_change_57 : decode cX2_change 57 = .ok (.aload_n 0, 1) := by decide +kernel
theorem dX2_change_58 : decode cX2_change 58 = .ok (.getfield 19, 3) := by decide +kernel
theorem dX2_change_61 : decode cX2_change 61 = .ok (.iconst 5, 1) := by decide +kernel
theorem dX2_change_62 : decode cX2_change 62 = .ok (.iload_n 1, 1) := by decide +kernel
theorem dX2_change_63 : decode cX2_change 63 = .ok (.imul, 1) := by decide +kernel
theorem dX2_change_64 : decode cX2_change 64 = .ok (.iconst 5, 1) := by decide +kernel
theorem dX2_change_65 : decode cX2_change 65 = .ok (.invokestatic 48, 3) := by decide +kernel
theorem dX2_change_68 : decode cX2_change 68 = .ok (.goto 78, 3) := by decide +kernel
theorem dX2_change_71 : decode cX2_change 71 = .ok (.aload_n 0, 1) := by decide +kernel
theorem dX2_change_72 : decode cX2_change 72 = .ok (.iload_n 1, 1) := by decide +kernel
theorem dX2_change_73 : decode cX2_change 73 = .ok (.iconst 1, 1) := by decide +kernel
theorem dX2_change_74 : decode cX2_change 74 = .ok (.aload_n 0, 1) := by decide +kernel
theorem dX2_change_75 : decode cX2_change 75 = .ok (.iload_n 1, 1) := by decide +kernel
theorem dX2_change_76 : decode cX2_change 76 = .ok (.iconst 1, 1) := by decide +kernel
theorem dX2_change_77 : decode cX2_change 77 = .ok (.invokevirtual 44, 3) := by decide +kernel
theorem dX2_change_80 : decode cX2_change 80 = .ok (.iload_n 3, 1) := by decide +kernel
theorem dX2_change_81 : decode cX2_change 81 = .ok (.isub, 1) := by decide +kernel
theorem dX2_change_82 : decode cX2_change 82 = .ok (.invokevirtual 54, 3) := by decide +kernel
theorem dX2_change_85 : decode cX2_change 85 = .ok (.aload_n 0, 1) := by decide +kernel
theorem dX2_change_86 : decode cX2_change 86 = .ok (.iload_n 1, 1) := by decide +kernel
theorem dX2_change_87 : decode cX2_change 87 = .ok (.iconst 4, 1) := by decide +kernel
theorem dX2_change_88 : decode cX2_change 88 = .ok (.iconst 0, 1) := by decide +kernel
theorem dX2_change_89 : decode cX2_change 89 = .ok (.invokevirtual 54, 3) := by decide +kernel
theorem dX2_change_92 : decode cX2_change 92 = .ok (.goto 54, 3) := by decide +kernel
theorem dX2_change_95 : decode cX2_change 95 = .ok (.aload_n 0, 1) := by decide +kernel
theorem dX2_change_96 : decode cX2_change 96 = .ok (.iload_n 1, 1) := by decide +kernel
theorem dX2_change_97 : decode cX2_change 97 = .ok (.iconst 3, 1) := by decide +kernel
theorem dX2_change_98 : decode cX2_change 98 = .ok (.iload_n 3, 1) := by decide +kernel
theorem dX2_change_99 : decode cX2_change 99 = .ok (.invokevirtual 54, 3) := by decide +kernel
theorem dX2_change_102 : decode cX2_change 102 = .ok (.aload_n 0, 1) := by decide +kernel
theorem dX2_change_103 : decode cX2_change 103 = .ok (.iload_n 1, 1) := by decide +kernel
theorem dX2_change_104 : decode cX2_change 104 = .ok (.iconst 1, 1) := by decide +kernel
theorem dX2_change_105 : decode cX2_change 105 = .ok (.iconst 1, 1) := by decide +kernel
theorem dX2_change_106 : decode cX2_change 106 = .ok (.aload_n 0, 1) := by decide +kernel
theorem dX2_change_107 : decode cX2_change 107 = .ok (.iload_n 1, 1) := by decide +kernel
theorem dX2_change_108 : decode cX2_change 108 = .ok (.iconst 1, 1) := by decide +kernel
theorem dX2_change_109 : decode cX2_change 109 = .ok (.invokevirtual 44, 3) := by decide +kernel
theorem dX2_change_112 : decode cX2_change 112 = .ok (.iconst 2, 1) := by decide +kernel
theorem dX2_change_113 : decode cX2_change 113 = .ok (.idiv, 1) := by decide +kernel
theorem dX2_change_114 : decode cX2_change 114 = .ok (.invokestatic 58, 3) := by decide +kernel
theorem dX2_change_117 : decode cX2_change 117 = .ok (.invokevirtual 54, 3) := by decide +kernel
theorem dX2_change_120 : decode cX2_change 120 = .ok (.goto 26, 3) := by decide +kernel
theorem dX2_change_123 : decode cX2_change 123 = .ok (.iconst 0, 1) := by decide +kernel
theorem dX2_change_124 : decode cX2_change 124 = .ok (.istore 6, 2) := by decide +kernel
theorem dX2_change_126 : decode cX2_change 126 = .ok (.iload 6, 2) := by decide +kernel
theorem dX2_change_128 : decode cX2_change 128 = .ok (.iconst 5, 1) := by decide +kernel
theorem dX2_change_129 : decode cX2_change 129 = .ok (.if_icmp .ge 17, 3) := by decide +kernel
theorem dX2_change_132 : decode cX2_change 132 = .ok (.aload_n 0, 1) := by decide +kernel
theorem dX2_change_133 : decode cX2_change 133 = .ok (.iload_n 1, 1) := by decide +kernel
theorem dX2_change_134 : decode cX2_change 134 = .ok (.iload 6, 2) := by decide +kernel
theorem dX2_change_136 : decode cX2_change 136 = .ok (.iconst 0, 1) := by decide +kernel
theorem dX2_change_137 : decode cX2_change 137 = .ok (.invokevirtual 54, 3) := by decide +kernel
theorem dX2_change_140 : decode cX2_change 140 = .ok (.iinc 6 1, 3) := by decide +kernel
theorem dX2_change_143 : decode cX2_change 143 = .ok (.goto (-17), 3) := by decide +kernel
theorem dX2_change_146 : decode cX2_change 146 = .ok (.return_, 1) := by decide +kernel
set_option maxRecDepth 20000 in
theorem ggX2_does_X2_can : GoodIn wsX2_does wsX2_can := goodIn_r _ [7, 8, 9, 10, 6, 11, 12, 30, 31, 32, 33, 34, 35, 36, 37] (by decide +kernel) (by decide +kernel)
set_option maxRecDepth 20000 in
theorem gX2_does_X2_can : GoodIn wsX2_does (wsV RX2 66 RX2 yX2_can wsX2_can) := goodIn_app (goodIn_of _ (by decide +kernel)) ggX2_does_X2_can
set_option maxRecDepth 20000 in
theorem ggX2_does_X2_change : GoodIn wsX2_does wsX2_change := goodIn_r _ [16, 17, 12, 18, 19, 20, 21, 22, 23, 24, 25, 8, 9, 10, 6, 11, 26, 27, 28, 29, 30, 31, 32, 33, 34, 35, 36, 37] (by decide +kernel) (by decide +kernel)
set_option maxRecDepth 20000 in
theorem gX2_does_X2_change : GoodIn wsX2_does (wsV RX2 69 RX2 yX2_change wsX2_change) := goodIn_app (goodIn_of _ (by decide +kernel)) ggX2_does_X2_change
theorem dX2_does_0 : decode cX2_does 0 = .ok (.iload_n 2, 1) := by decide +kernel
theorem dX2_does_1 : decode cX2_does 1 = .ok (.iconst 4, 1) := by decide +kernel
theorem dX2_does_2 : decode cX2_does 2 = .ok (.idiv, 1) := by decide +kernel
theorem dX2_does_3 : decode cX2_does 3 = .ok (.istore 6, 2) := by decide +kernel
theorem dX2_does_5 : decode cX2_does 5 = .ok (.bipush 8, 2) := by decide +kernel
theorem dX2_does_7 : decode cX2_does 7 = .ok (.iload_n 1, 1) := by decide +kernel
theorem dX2_does_8 : decode cX2_does 8 = .ok (.imul, 1) := by decide +kernel
theorem dX2_does_9 : decode cX2_does 9 = .ok (.iload_n 2, 1) := by decide +kernel
theorem dX2_does_10 : decode cX2_does 10 = .ok (.iadd, 1) := by decide +kernel
theorem dX2_does_11 : decode cX2_does 11 = .ok (.istore 7, 2) := by decide +kernel
theorem dX2_does_13 : decode cX2_does 13 = .ok (.aload_n 0, 1) := by decide +kernel
theorem dX2_does_14 : decode cX2_does 14 = .ok (.getfield 25, 3) := by decide +kernel
theorem dX2_does_17 : decode cX2_does 17 = .ok (.iload 6, 2) := by decide +kernel
theorem dX2_does_19 : decode cX2_does 19 = .ok (.iaload, 1) := by decide +kernel
theorem dX2_does_20 : decode cX2_does 20 = .ok (.getstatic 63, 3) := by decide +kernel
theorem dX2_does_23 : decode cX2_does 23 = .ok (.iload_n 3, 1) := by decide +kernel
theorem dX2_does_24 : decode cX2_does 24 = .ok (.iaload, 1) := by decide +kernel
theorem dX2_does_25 : decode cX2_does 25 = .ok (.if_icmp .lt 15, 3) := by decide +kernel
theorem dX2_does_28 : decode cX2_does 28 = .ok (.aload_n 0, 1) := by decide +kernel
theorem dX2_does_29 : decode cX2_does 29 = .ok (.iload 7, 2) := by decide +kernel
theorem dX2_does_31 : decode cX2_does 31 = .ok (.iload_n 3, 1) := by decide +kernel
theorem dX2_does_32 : decode cX2_does 32 = .ok (.iload 4, 2) := by decide +kernel
theorem dX2_does_34 : decode cX2_does 34 = .ok (.invokevirtual 66, 3) := by decide +kernel
theorem dX2_does_37 : decode cX2_does 37 = .ok (.ifCond .ne 5, 3) := by decide +kernel
theorem dX2_does_40 : decode cX2_does 40 = .ok (.iconst 0, 1) := by decide +kernel
theorem dX2_does_41 : decode cX2_does 41 = .ok (.ireturn, 1) := by decide +kernel
theorem dX2_does_42 : decode cX2_does 42 = .ok (.aload_n 0, 1) := by decide +kernel
theorem dX2_does_43 : decode cX2_does 43 = .ok (.getfield 25, 3) := by decide +kernel
theorem dX2_does_46 : decode cX2_does 46 = .ok (.iload 6, 2) := by decide +kernel
theorem dX2_does_48 : decode cX2_does 48 = .ok (.dup2, 1) := by decide +kernel
theorem dX2_does_49 : decode cX2_does 49 = .ok (.iaload, 1) := by decide +kernel
theorem dX2_does_50 : decode cX2_does 50 = .ok (.getstatic 63, 3) := by decide +kernel
theorem dX2_does_53 : decode cX2_does 53 = .ok (.iload_n 3, 1) := by decide +kernel
theorem dX2_does_54 : decode cX2_does 54 = .ok (.iaload, 1) := by decide +kernel
theorem dX2_does_55 : decode cX2_does 55 = .ok (.isub, 1) := by decide +kernel
theorem dX2_does_56 : decode cX2_does 56 = .ok (.iastore, 1) := by decide +kernel
theorem dX2_does_57 : decode cX2_does 57 = .ok (.aload_n 0, 1) := by decide +kernel
theorem dX2_does_58 : decode cX2_does 58 = .ok (.iload 7, 2) := by decide +kernel
theorem dX2_does_60 : decode cX2_does 60 = .ok (.iload_n 3, 1) := by decide +kernel
theorem dX2_does_61 : decode cX2_does 61 = .ok (.iload 4, 2) := by decide +kernel
theorem dX2_does_63 : decode cX2_does 63 = .ok (.iload 5, 2) := by decide +kernel
theorem dX2_does_65 : decode cX2_does 65 = .ok (.invokevirtual 69, 3) := by decide +kernel
theorem dX2_does_68 : decode cX2_does 68 = .ok (.iconst 1, 1) := by decide +kernel
theorem dX2_does_69 : decode cX2_does 69 = .ok (.ireturn, 1) := by decide +kernel
set_option maxRecDepth 20000 in
theorem ggX2_both_X2_does : GoodIn wsX2_both wsX2_does := goodIn_r _ [5, 6, 7, 8, 9, 10, 4, 11, 12, 13, 14, 15, 16, 17, 18, 19, 20, 21, 22, 23, 24, 25, 26, 27, 28, 29, 30, 31, 32, 33, 34, 35, 36, 37, 38, 39, 40, 41] (by decide +kernel) (by decide +kernel)
set_option maxRecDepth 20000 in
theorem gX2_both_X2_does : GoodIn wsX2_both (wsV RX2 73 RX2 yX2_does wsX2_does) := goodIn_app (goodIn_of _ (by decide +kernel)) ggX2_both_X2_does
theorem dX2_both_0 : decode cX2_both 0 = .ok (.aload_n 0, 1) := by decide +kernel
theorem dX2_both_1 : decode cX2_both 1 = .ok (.iload_n 1, 1) := by decide +kernel
theorem dX2_both_2 : decode cX2_both 2 = .ok (.iload_n 2, 1) := by decide +kernel
theorem dX2_both_3 : decode cX2_both 3 = .ok (.iload_n 3, 1) := by decide +kernel
theorem dX2_both_4 : decode cX2_both 4 = .ok (.iload 4, 2) := by decide +kernel
theorem dX2_both_6 : decode cX2_both 6 = .ok (.iload 5, 2) := by decide +kernel
theorem dX2_both_8 : decode cX2_both 8 = .ok (.invokevirtual 73, 3) := by decide +kernel
theorem dX2_both_11 : decode cX2_both 11 = .ok (.istore 6, 2) := by decide +kernel
theorem dX2_both_13 : decode cX2_both 13 = .ok (.aload_n 0, 1) := by decide +kernel
theorem dX2_both_14 : decode cX2_both 14 = .ok (.iload_n 1, 1) := by decide +kernel
theorem dX2_both_15 : decode cX2_both 15 = .ok (.bipush 7, 2) := by decide +kernel
theorem dX2_both_17 : decode cX2_both 17 = .ok (.iload_n 2, 1) := by decide +kernel
theorem dX2_both_18 : decode cX2_both 18 = .ok (.isub, 1) := by decide +kernel
theorem dX2_both_19 : decode cX2_both 19 = .ok (.iload_n 3, 1) := by decide +kernel
theorem dX2_both_20 : decode cX2_both 20 = .ok (.iload 4, 2) := by decide +kernel
theorem dX2_both_22 : decode cX2_both 22 = .ok (.iload 5, 2) := by decide +kernel
theorem dX2_both_24 : decode cX2_both 24 = .ok (.invokevirtual 73, 3) := by decide +kernel
theorem dX2_both_27 : decode cX2_both 27 = .ok (.istore 7, 2) := by decide +kernel
theorem dX2_both_29 : decode cX2_both 29 = .ok (.iload 6, 2) := by decide +kernel
theorem dX2_both_31 : decode cX2_both 31 = .ok (.ifCond .eq 7, 3) := by decide +kernel
theorem dX2_both_34 : decode cX2_both 34 = .ok (.iconst 1, 1) := by decide +kernel
theorem dX2_both_35 : decode cX2_both 35 = .ok (.goto 4, 3) := by decide +kernel
theorem dX2_both_38 : decode cX2_both 38 = .ok (.iconst 0, 1) := by decide +kernel
theorem dX2_both_39 : decode cX2_both 39 = .ok (.iload 7, 2) := by decide +kernel
theorem dX2_both_41 : decode cX2_both 41 = .ok (.ifCond .eq 7, 3) := by decide +kernel
theorem dX2_both_44 : decode cX2_both 44 = .ok (.iconst 2, 1) := by decide +kernel
theorem dX2_both_45 : decode cX2_both 45 = .ok (.goto 4, 3) := by decide +kernel
theorem dX2_both_48 : decode cX2_both 48 = .ok (.iconst 0, 1) := by decide +kernel
theorem dX2_both_49 : decode cX2_both 49 = .ok (.iadd, 1) := by decide +kernel
theorem dX2_both_50 : decode cX2_both 50 = .ok (.ireturn, 1) := by decide +kernel
set_option maxRecDepth 20000 in
theorem ggX2_plant_X2_isSpot : GoodIn wsX2_plant wsX2_isSpot := goodIn_r _ [5, 6, 7, 4, 8] (by decide +kernel) (by decide +kernel)
set_option maxRecDepth 20000 in
theorem gX2_plant_X2_isSpot : GoodIn wsX2_plant (va_wsS RX2 77 yX2_isSpot wsX2_isSpot) := goodIn_app (goodIn_of _ (by decide +kernel)) ggX2_plant_X2_isSpot
set_option maxRecDepth 20000 in
theorem ggX2_plant_X2_fail : GoodIn wsX2_plant wsX2_fail := goodIn_r _ [12, 1, 52, 53, 54, 55, 56, 57, 58, 59] (by decide +kernel) (by decide +kernel)
set_option maxRecDepth 20000 in
theorem gX2_plant_X2_fail : GoodIn wsX2_plant (wsV RX2 40 RX2 yX2_fail wsX2_fail) := goodIn_app (goodIn_of _ (by decide +kernel)) ggX2_plant_X2_fail
set_option maxRecDepth 20000 in
theorem ggX2_plant_X2_isSort : GoodIn wsX2_plant wsX2_isSort := goodIn_r _ [15, 6, 7, 4, 8] (by decide +kernel) (by decide +kernel)
set_option maxRecDepth 20000 in
theorem gX2_plant_X2_isSort : GoodIn wsX2_plant (va_wsS RX2 36 yX2_isSort wsX2_isSort) := goodIn_app (goodIn_of _ (by decide +kernel)) ggX2_plant_X2_isSort
set_option maxRecDepth 20000 in
theorem ggX2_plant_X2_isIn : GoodIn wsX2_plant wsX2_isIn := goodIn_r _ [8] (by decide +kernel) (by decide +kernel)
set_option maxRecDepth 20000 in
theorem gX2_plant_X2_isIn : GoodIn wsX2_plant (va_wsS RX2 32 yX2_isIn wsX2_isIn) := goodIn_app (goodIn_of _ (by decide +kernel)) ggX2_plant_X2_isIn
set_option maxRecDepth 20000 in
theorem ggX2_plant_X2_both : GoodIn wsX2_plant wsX2_both := goodIn_r _ [19, 20, 21, 22, 4, 23, 24, 25, 26, 27, 28, 29, 30, 31, 32, 33, 34, 35, 36, 37, 38, 39, 40, 41, 42, 43, 44, 45, 46, 47, 48, 49, 50, 51, 52, 53, 54, 55, 56, 57, 58, 59] (by decide +kernel) (by decide +kernel)
set_option maxRecDepth 20000 in
theorem gX2_plant_X2_both : GoodIn wsX2_plant (wsV RX2 81 RX2 yX2_both wsX2_both) := goodIn_app (goodIn_of _ (by decide +kernel)) ggX2_plant_X2_both
theorem dX2_plant_0 : decode cX2_plant 0 = .ok (.aload_n 0, 1) := by decide +kernel
theorem dX2_plant_1 : decode cX2_plant 1 = .ok (.iconst 0, 1) := by decide +kernel
theorem dX2_plant_2 : decode cX2_plant 2 = .ok (.putfield 28, 3) := by decide +kernel
theorem dX2_plant_5 : decode cX2_plant 5 = .ok (.iload_n 1, 1) := by decide +kernel
theorem dX2_plant_6 : decode cX2_plant 6 = .ok (.iload_n 2, 1) := by decide +kernel
theorem dX2_plant_7 : decode cX2_plant 7 = .ok (.invokestatic 77, 3) := by decide +kernel
theorem dX2_plant_10 : decode cX2_plant 10 = .ok (.ifCond .ne 9, 3) := by decide +kernel
theorem dX2_plant_13 : decode cX2_plant 13 = .ok (.aload_n 0, 1) := by decide +kernel
theorem dX2_plant_14 : decode cX2_plant 14 = .ok (.iconst 1, 1) := by decide +kernel
theorem dX2_plant_15 : decode cX2_plant 15 = .ok (.invokevirtual 40, 3) := by decide +kernel
theorem dX2_plant_18 : decode cX2_plant 18 = .ok (.ireturn, 1) := by decide +kernel
theorem dX2_plant_19 : decode cX2_plant 19 = .ok (.iload_n 3, 1) := by decide +kernel
theorem dX2_plant_20 : decode cX2_plant 20 = .ok (.invokestatic 36, 3) := by decide +kernel
theorem dX2_plant_23 : decode cX2_plant 23 = .ok (.ifCond .eq 27, 3) := by decide +kernel
theorem dX2_plant_26 : decode cX2_plant 26 = .ok (.iload 4, 2) := by decide +kernel
theorem dX2_plant_28 : decode cX2_plant 28 = .ok (.iconst 1, 1) := by decide +kernel
theorem dX2_plant_29 : decode cX2_plant 29 = .ok (.bipush 9, 2) := by decide +kernel
theorem dX2_plant_31 : decode cX2_plant 31 = .ok (.invokestatic 32, 3) := by decide +kernel
theorem dX2_plant_34 : decode cX2_plant 34 = .ok (.ifCond .eq 16, 3) := by decide +kernel
theorem dX2_plant_37 : decode cX2_plant 37 = .ok (.aload_n 0, 1) := by decide +kernel
theorem dX2_plant_38 : decode cX2_plant 38 = .ok (.iload_n 1, 1) := by decide +kernel
theorem dX2_plant_39 : decode cX2_plant 39 = .ok (.iload_n 2, 1) := by decide +kernel
theorem dX2_plant_40 : decode cX2_plant 40 = .ok (.iconst 0, 1) := by decide +kernel
theorem dX2_plant_41 : decode cX2_plant 41 = .ok (.iload_n 3, 1) := by decide +kernel
theorem dX2_plant_42 : decode cX2_plant 42 = .ok (.iload 4, 2) := by decide +kernel
theorem dX2_plant_44 : decode cX2_plant 44 = .ok (.invokevirtual 81, 3) := by decide +kernel
theorem dX2_plant_47 : decode cX2_plant 47 = .ok (.goto 8, 3) := by decide +kernel
theorem dX2_plant_50 : decode cX2_plant 50 = .ok (.aload_n 0, 1) := by decide +kernel
theorem dX2_plant_51 : decode cX2_plant 51 = .ok (.iconst 2, 1) := by decide +kernel
theorem dX2_plant_52 : decode cX2_plant 52 = .ok (.invokevirtual 40, 3) := by decide +kernel
theorem dX2_plant_55 : decode cX2_plant 55 = .ok (.ireturn, 1) := by decide +kernel
set_option maxRecDepth 20000 in
theorem ggX2_prune_X2_isSpot : GoodIn wsX2_prune wsX2_isSpot := goodIn_r _ [5, 6, 7, 4, 8] (by decide +kernel) (by decide +kernel)
set_option maxRecDepth 20000 in
theorem gX2_prune_X2_isSpot : GoodIn wsX2_prune (va_wsS RX2 77 yX2_isSpot wsX2_isSpot) := goodIn_app (goodIn_of _ (by decide +kernel)) ggX2_prune_X2_isSpot
set_option maxRecDepth 20000 in
theorem ggX2_prune_X2_fail : GoodIn wsX2_prune wsX2_fail := goodIn_r _ [12, 1, 49, 50, 51, 52, 53, 54, 55, 56] (by decide +kernel) (by decide +kernel)
set_option maxRecDepth 20000 in
theorem gX2_prune_X2_fail : GoodIn wsX2_prune (wsV RX2 40 RX2 yX2_fail wsX2_fail) := goodIn_app (goodIn_of _ (by decide +kernel)) ggX2_prune_X2_fail
set_option maxRecDepth 20000 in
theorem ggX2_prune_X2_isIn : GoodIn wsX2_prune wsX2_isIn := goodIn_r _ [8] (by decide +kernel) (by decide +kernel)
set_option maxRecDepth 20000 in
theorem gX2_prune_X2_isIn : GoodIn wsX2_prune (va_wsS RX2 32 yX2_isIn wsX2_isIn) := goodIn_app (goodIn_of _ (by decide +kernel)) ggX2_prune_X2_isIn
set_option maxRecDepth 20000 in
theorem ggX2_prune_X2_both : GoodIn wsX2_prune wsX2_both := goodIn_r _ [16, 17, 18, 19, 4, 20, 21, 22, 23, 24, 25, 26, 27, 28, 29, 30, 31, 32, 33, 34, 35, 36, 37, 38, 39, 40, 41, 42, 43, 44, 45, 46, 47, 48, 49, 50, 51, 52, 53, 54, 55, 56] (by decide +kernel) (by decide +kernel)
set_option maxRecDepth 20000 in
theorem gX2_prune_X2_both : GoodIn wsX2_prune (wsV RX2 81 RX2 yX2_both wsX2_both) := goodIn_app (goodIn_of _ (by decide +kernel)) ggX2_prune_X2_both
theorem dX2_prune_0 : decode cX2_prune 0 = .ok (.aload_n 0, 1) := by decide +kernel
theorem dX2_prune_1 : decode cX2_prune 1 = .ok (.iconst 0, 1) := by decide +kernel
theorem dX2_prune_2 : decode cX2_prune 2 = .ok (.putfield 28, 3) := by decide +kernel
theorem dX2_prune_5 : decode cX2_prune 5 = .ok (.iload_n 1, 1) := by decide +kernel
theorem dX2_prune_6 : decode cX2_prune 6 = .ok (.iload_n 2, 1) := by decide +kernel
theorem dX2_prune_7 : decode cX2_prune 7 = .ok (.invokestatic 77, 3) := by decide +kernel
theorem dX2_prune_10 : decode cX2_prune 10 = .ok (.ifCond .ne 9, 3) := by decide +kernel
theorem dX2_prune_13 : decode cX2_prune 13 = .ok (.aload_n 0, 1) := by decide +kernel
theorem dX2_prune_14 : decode cX2_prune 14 = .ok (.iconst 1, 1) := by decide +kernel
theorem dX2_prune_15 : decode cX2_prune 15 = .ok (.invokevirtual 40, 3) := by decide +kernel
theorem dX2_prune_18 : decode cX2_prune 18 = .ok (.ireturn, 1) := by decide +kernel
theorem dX2_prune_19 : decode cX2_prune 19 = .ok (.iload_n 3, 1) := by decide +kernel
theorem dX2_prune_20 : decode cX2_prune 20 = .ok (.iconst 1, 1) := by decide +kernel
theorem dX2_prune_21 : decode cX2_prune 21 = .ok (.bipush 9, 2) := by decide +kernel
theorem dX2_prune_23 : decode cX2_prune 23 = .ok (.invokestatic 32, 3) := by decide +kernel
theorem dX2_prune_26 : decode cX2_prune 26 = .ok (.ifCond .eq 15, 3) := by decide +kernel
theorem dX2_prune_29 : decode cX2_prune 29 = .ok (.aload_n 0, 1) := by decide +kernel
theorem dX2_prune_30 : decode cX2_prune 30 = .ok (.iload_n 1, 1) := by decide +kernel
theorem dX2_prune_31 : decode cX2_prune 31 = .ok (.iload_n 2, 1) := by decide +kernel
theorem dX2_prune_32 : decode cX2_prune 32 = .ok (.iconst 1, 1) := by decide +kernel
theorem dX2_prune_33 : decode cX2_prune 33 = .ok (.iload_n 3, 1) := by decide +kernel
theorem dX2_prune_34 : decode cX2_prune 34 = .ok (.iconst 0, 1) := by decide +kernel
theorem dX2_prune_35 : decode cX2_prune 35 = .ok (.invokevirtual 81, 3) := by decide +kernel
theorem dX2_prune_38 : decode cX2_prune 38 = .ok (.goto 8, 3) := by decide +kernel
theorem dX2_prune_41 : decode cX2_prune 41 = .ok (.aload_n 0, 1) := by decide +kernel
theorem dX2_prune_42 : decode cX2_prune 42 = .ok (.iconst 2, 1) := by decide +kernel
theorem dX2_prune_43 : decode cX2_prune 43 = .ok (.invokevirtual 40, 3) := by decide +kernel
theorem dX2_prune_46 : decode cX2_prune 46 = .ok (.ireturn, 1) := by decide +kernel
set_option maxRecDepth 20000 in
theorem ggX2_graft_X2_isSpot : GoodIn wsX2_graft wsX2_isSpot := goodIn_r _ [5, 6, 7, 4, 8] (by decide +kernel) (by decide +kernel)
set_option maxRecDepth 20000 in
theorem gX2_graft_X2_isSpot : GoodIn wsX2_graft (va_wsS RX2 77 yX2_isSpot wsX2_isSpot) := goodIn_app (goodIn_of _ (by decide +kernel)) ggX2_graft_X2_isSpot
set_option maxRecDepth 20000 in
theorem ggX2_graft_X2_fail : GoodIn wsX2_graft wsX2_fail := goodIn_r _ [12, 1, 52, 53, 54, 55, 56, 57, 58, 59] (by decide +kernel) (by decide +kernel)
set_option maxRecDepth 20000 in
theorem gX2_graft_X2_fail : GoodIn wsX2_graft (wsV RX2 40 RX2 yX2_fail wsX2_fail) := goodIn_app (goodIn_of _ (by decide +kernel)) ggX2_graft_X2_fail
set_option maxRecDepth 20000 in
theorem ggX2_graft_X2_isSort : GoodIn wsX2_graft wsX2_isSort := goodIn_r _ [15, 6, 7, 4, 8] (by decide +kernel) (by decide +kernel)
set_option maxRecDepth 20000 in
theorem gX2_graft_X2_isSort : GoodIn wsX2_graft (va_wsS RX2 36 yX2_isSort wsX2_isSort) := goodIn_app (goodIn_of _ (by decide +kernel)) ggX2_graft_X2_isSort
set_option maxRecDepth 20000 in
theorem ggX2_graft_X2_both : GoodIn wsX2_graft wsX2_both := goodIn_r _ [19, 20, 21, 22, 4, 23, 24, 25, 26, 27, 28, 29, 30, 31, 32, 33, 34, 35, 36, 37, 38, 39, 40, 41, 42, 43, 44, 45, 46, 47, 48, 49, 50, 51, 52, 53, 54, 55, 56, 57, 58, 59] (by decide +kernel) (by decide +kernel)
set_option maxRecDepth 20000 in
theorem gX2_graft_X2_both : GoodIn wsX2_graft (wsV RX2 81 RX2 yX2_both wsX2_both) := goodIn_app (goodIn_of _ (by decide +kernel)) ggX2_graft_X2_both
theorem dX2_graft_0 : decode cX2_graft 0 = .ok (.aload_n 0, 1) := by decide +kernel
theorem dX2_graft_1 : decode cX2_graft 1 = .ok (.iconst 0, 1) := by decide +kernel
theorem dX2_graft_2 : decode cX2_graft 2 = .ok (.putfield 28, 3) := by decide +kernel
theorem dX2_graft_5 : decode cX2_graft 5 = .ok (.iload_n 1, 1) := by decide +kernel
theorem dX2_graft_6 : decode cX2_graft 6 = .ok (.iload_n 2, 1) := by decide +kernel
theorem dX2_graft_7 : decode cX2_graft 7 = .ok (.invokestatic 77, 3) := by decide +kernel
theorem dX2_graft_10 : decode cX2_graft 10 = .ok (.ifCond .ne 9, 3) := by decide +kernel
theorem dX2_graft_13 : decode cX2_graft 13 = .ok (.aload_n 0, 1) := by decide +kernel
theorem dX2_graft_14 : decode cX2_graft 14 = .ok (.iconst 1, 1) := by decide +kernel
theorem dX2_graft_15 : decode cX2_graft 15 = .ok (.invokevirtual 40, 3) := by decide +kernel
theorem dX2_graft_18 : decode cX2_graft 18 = .ok (.ireturn, 1) := by decide +kernel
theorem dX2_graft_19 : decode cX2_graft 19 = .ok (.iload_n 3, 1) := by decide +kernel
theorem dX2_graft_20 : decode cX2_graft 20 = .ok (.invokestatic 36, 3) := by decide +kernel
theorem dX2_graft_23 : decode cX2_graft 23 = .ok (.ifCond .eq 15, 3) := by decide +kernel
theorem dX2_graft_26 : decode cX2_graft 26 = .ok (.aload_n 0, 1) := by decide +kernel
theorem dX2_graft_27 : decode cX2_graft 27 = .ok (.iload_n 1, 1) := by decide +kernel
theorem dX2_graft_28 : decode cX2_graft 28 = .ok (.iload_n 2, 1) := by decide +kernel
theorem dX2_graft_29 : decode cX2_graft 29 = .ok (.iconst 2, 1) := by decide +kernel
theorem dX2_graft_30 : decode cX2_graft 30 = .ok (.iload_n 3, 1) := by decide +kernel
theorem dX2_graft_31 : decode cX2_graft 31 = .ok (.iconst 0, 1) := by decide +kernel
theorem dX2_graft_32 : decode cX2_graft 32 = .ok (.invokevirtual 81, 3) := by decide +kernel
theorem dX2_graft_35 : decode cX2_graft 35 = .ok (.goto 8, 3) := by decide +kernel
theorem dX2_graft_38 : decode cX2_graft 38 = .ok (.aload_n 0, 1) := by decide +kernel
theorem dX2_graft_39 : decode cX2_graft 39 = .ok (.iconst 2, 1) := by decide +kernel
theorem dX2_graft_40 : decode cX2_graft 40 = .ok (.invokevirtual 40, 3) := by decide +kernel
theorem dX2_graft_43 : decode cX2_graft 43 = .ok (.ireturn, 1) := by decide +kernel
set_option maxRecDepth 20000 in
theorem ggX2_fell_X2_isSpot : GoodIn wsX2_fell wsX2_isSpot := goodIn_r _ [5, 6, 7, 4, 8] (by decide +kernel) (by decide +kernel)
set_option maxRecDepth 20000 in
theorem gX2_fell_X2_isSpot : GoodIn wsX2_fell (va_wsS RX2 77 yX2_isSpot wsX2_isSpot) := goodIn_app (goodIn_of _ (by decide +kernel)) ggX2_fell_X2_isSpot
set_option maxRecDepth 20000 in
theorem ggX2_fell_X2_both : GoodIn wsX2_fell wsX2_both := goodIn_r _ [12, 13, 14, 15, 4, 16, 17, 18, 19, 20, 21, 22, 23, 24, 25, 26, 27, 28, 29, 30, 31, 32, 33, 34, 35, 36, 37, 38, 39, 40, 41, 42, 43, 44, 49, 50, 51, 52, 53, 54, 55, 56] (by decide +kernel) (by decide +kernel)
set_option maxRecDepth 20000 in
theorem gX2_fell_X2_both : GoodIn wsX2_fell (wsV RX2 81 RX2 yX2_both wsX2_both) := goodIn_app (goodIn_of _ (by decide +kernel)) ggX2_fell_X2_both
set_option maxRecDepth 20000 in
theorem ggX2_fell_X2_fail : GoodIn wsX2_fell wsX2_fail := goodIn_r _ [48, 1, 49, 50, 51, 52, 53, 54, 55, 56] (by decide +kernel) (by decide +kernel)
set_option maxRecDepth 20000 in
theorem gX2_fell_X2_fail : GoodIn wsX2_fell (wsV RX2 40 RX2 yX2_fail wsX2_fail) := goodIn_app (goodIn_of _ (by decide +kernel)) ggX2_fell_X2_fail
theorem dX2_fell_0 : decode cX2_fell 0 = .ok (.aload_n 0, 1) := by decide +kernel
theorem dX2_fell_1 : decode cX2_fell 1 = .ok (.iconst 0, 1) := by decide +kernel
theorem dX2_fell_2 : decode cX2_fell 2 = .ok (.putfield 28, 3) := by decide +kernel
theorem dX2_fell_5 : decode cX2_fell 5 = .ok (.iload_n 1, 1) := by decide +kernel
theorem dX2_fell_6 : decode cX2_fell 6 = .ok (.iload_n 2, 1) := by decide +kernel
theorem dX2_fell_7 : decode cX2_fell 7 = .ok (.invokestatic 77, 3) := by decide +kernel
theorem dX2_fell_10 : decode cX2_fell 10 = .ok (.ifCond .eq 15, 3) := by decide +kernel
theorem dX2_fell_13 : decode cX2_fell 13 = .ok (.aload_n 0, 1) := by decide +kernel
theorem dX2_fell_14 : decode cX2_fell 14 = .ok (.iload_n 1, 1) := by decide +kernel
theorem dX2_fell_15 : decode cX2_fell 15 = .ok (.iload_n 2, 1) := by decide +kernel
theorem dX2_fell_16 : decode cX2_fell 16 = .ok (.iconst 3, 1) := by decide +kernel
theorem dX2_fell_17 : decode cX2_fell 17 = .ok (.iconst 0, 1) := by decide +kernel
theorem dX2_fell_18 : decode cX2_fell 18 = .ok (.iconst 0, 1) := by decide +kernel
theorem dX2_fell_19 : decode cX2_fell 19 = .ok (.invokevirtual 81, 3) := by decide +kernel
theorem dX2_fell_22 : decode cX2_fell 22 = .ok (.goto 8, 3) := by decide +kernel
theorem dX2_fell_25 : decode cX2_fell 25 = .ok (.aload_n 0, 1) := by decide +kernel
theorem dX2_fell_26 : decode cX2_fell 26 = .ok (.iconst 1, 1) := by decide +kernel
theorem dX2_fell_27 : decode cX2_fell 27 = .ok (.invokevirtual 40, 3) := by decide +kernel
theorem dX2_fell_30 : decode cX2_fell 30 = .ok (.ireturn, 1) := by decide +kernel
set_option maxRecDepth 20000 in
theorem ggX2_apples_X2_tr : GoodIn wsX2_apples wsX2_tr := goodIn_r _ [5, 6, 7, 8, 9, 10, 11, 12, 13, 14] (by decide +kernel) (by decide +kernel)
set_option maxRecDepth 20000 in
theorem gX2_apples_X2_tr : GoodIn wsX2_apples (wsV RX2 44 RX2 yX2_tr wsX2_tr) := goodIn_app (goodIn_of _ (by decide +kernel)) ggX2_apples_X2_tr
theorem dX2_apples_0 : decode cX2_apples 0 = .ok (.aload_n 0, 1) := by decide +kernel
theorem dX2_apples_1 : decode cX2_apples 1 = .ok (.iload_n 1, 1) := by decide +kernel
theorem dX2_apples_2 : decode cX2_apples 2 = .ok (.iconst 1, 1) := by decide +kernel
theorem dX2_apples_3 : decode cX2_apples 3 = .ok (.invokevirtual 44, 3) := by decide +kernel
theorem dX2_apples_6 : decode cX2_apples 6 = .ok (.aload_n 0, 1) := by decide +kernel
theorem dX2_apples_7 : decode cX2_apples 7 = .ok (.iload_n 1, 1) := by decide +kernel
theorem dX2_apples_8 : decode cX2_apples 8 = .ok (.iconst 2, 1) := by decide +kernel
theorem dX2_apples_9 : decode cX2_apples 9 = .ok (.invokevirtual 44, 3) := by decide +kernel
theorem dX2_apples_12 : decode cX2_apples 12 = .ok (.imul, 1) := by decide +kernel
theorem dX2_apples_13 : decode cX2_apples 13 = .ok (.istore_n 2, 1) := by decide +kernel
theorem dX2_apples_14 : decode cX2_apples 14 = .ok (.aload_n 0, 1) := by decide +kernel
theorem dX2_apples_15 : decode cX2_apples 15 = .ok (.iload_n 1, 1) := by decide +kernel
theorem dX2_apples_16 : decode cX2_apples 16 = .ok (.iconst 4, 1) := by decide +kernel
theorem dX2_apples_17 : decode cX2_apples 17 = .ok (.invokevirtual 44, 3) := by decide +kernel
theorem dX2_apples_20 : decode cX2_apples 20 = .ok (.iconst 1, 1) := by decide +kernel
theorem dX2_apples_21 : decode cX2_apples 21 = .ok (.if_icmp .ne 9, 3) := by decide +kernel
theorem dX2_apples_24 : decode cX2_apples 24 = .ok (.iload_n 2, 1) := by decide +kernel
theorem dX2_apples_25 : decode cX2_apples 25 = .ok (.iconst 4, 1) := by decide +kernel
theorem dX2_apples_26 : decode cX2_apples 26 = .ok (.idiv, 1) := by decide +kernel
theorem dX2_apples_27 : decode cX2_apples 27 = .ok (.goto 4, 3) := by decide +kernel
theorem dX2_apples_30 : decode cX2_apples 30 = .ok (.iload_n 2, 1) := by decide +kernel
theorem dX2_apples_31 : decode cX2_apples 31 = .ok (.ireturn, 1) := by decide +kernel
set_option maxRecDepth 20000 in
theorem ggX2_treeTold_X2_apples : GoodIn wsX2_treeTold wsX2_apples := goodIn_r _ [5, 6, 7, 8, 4, 9, 10, 11, 12, 13, 14, 15, 16, 17, 18] (by decide +kernel) (by decide +kernel)
set_option maxRecDepth 20000 in
theorem gX2_treeTold_X2_apples : GoodIn wsX2_treeTold (wsV RX2 85 RX2 yX2_apples wsX2_apples) := goodIn_app (goodIn_of _ (by decide +kernel)) ggX2_treeTold_X2_apples
set_option maxRecDepth 20000 in
theorem ggX2_treeTold_X2_tr : GoodIn wsX2_treeTold wsX2_tr := goodIn_r _ [9, 10, 11, 12, 13, 14, 15, 16, 17, 18] (by decide +kernel) (by decide +kernel)
set_option maxRecDepth 20000 in
theorem gX2_treeTold_X2_tr : GoodIn wsX2_treeTold (wsV RX2 44 RX2 yX2_tr wsX2_tr) := goodIn_app (goodIn_of _ (by decide +kernel)) ggX2_treeTold_X2_tr
theorem dX2_treeTold_0 : decode cX2_treeTold 0 = .ok (.iload_n 2, 1) := by decide +kernel
theorem dX2_treeTold_1 : decode cX2_treeTold 1 = .ok (.iconst 5, 1) := by decide +kernel
theorem dX2_treeTold_2 : decode cX2_treeTold 2 = .ok (.if_icmp .ne 9, 3) := by decide +kernel
theorem dX2_treeTold_5 : decode cX2_treeTold 5 = .ok (.aload_n 0, 1) := by decide +kernel
theorem dX2_treeTold_6 : decode cX2_treeTold 6 = .ok (.iload_n 1, 1) := by decide +kernel
theorem dX2_treeTold_7 : decode cX2_treeTold 7 = .ok (.invokevirtual 85, 3) := by decide +kernel
theorem dX2_treeTold_10 : decode cX2_treeTold 10 = .ok (.ireturn, 1) := by decide +kernel
theorem dX2_treeTold_11 : decode cX2_treeTold 11 = .ok (.iload_n 2, 1) := by decide +kernel
theorem dX2_treeTold_12 : decode cX2_treeTold 12 = .ok (.iconst 3, 1) := by decide +kernel
theorem dX2_treeTold_13 : decode cX2_treeTold 13 = .ok (.if_icmp .ne 16, 3) := by decide +kernel
theorem dX2_treeTold_16 : decode cX2_treeTold 16 = .ok (.aload_n 0, 1) := by decide +kernel
theorem dX2_treeTold_17 : decode cX2_treeTold 17 = .ok (.iload_n 1, 1) := by decide +kernel
theorem dX2_treeTold_18 : decode cX2_treeTold 18 = .ok (.iconst 0, 1) := by decide +kernel
theorem dX2_treeTold_19 : decode cX2_treeTold 19 = .ok (.invokevirtual 44, 3) := by decide +kernel
theorem dX2_treeTold_22 : decode cX2_treeTold 22 = .ok (.ifCond .ne 7, 3) := by decide +kernel
theorem dX2_treeTold_25 : decode cX2_treeTold 25 = .ok (.iconst (-1), 1) := by decide +kernel
theorem dX2_treeTold_26 : decode cX2_treeTold 26 = .ok (.goto 9, 3) := by decide +kernel
theorem dX2_treeTold_29 : decode cX2_treeTold 29 = .ok (.aload_n 0, 1) := by decide +kernel
theorem dX2_treeTold_30 : decode cX2_treeTold 30 = .ok (.iload_n 1, 1) := by decide +kernel
theorem dX2_treeTold_31 : decode cX2_treeTold 31 = .ok (.iload_n 2, 1) := by decide +kernel
theorem dX2_treeTold_32 : decode cX2_treeTold 32 = .ok (.invokevirtual 44, 3) := by decide +kernel
theorem dX2_treeTold_35 : decode cX2_treeTold 35 = .ok (.ireturn, 1) := by decide +kernel
set_option maxRecDepth 20000 in
theorem ggX2_tree_X2_isSpot : GoodIn wsX2_tree wsX2_isSpot := goodIn_r _ [5, 6, 7, 4, 8] (by decide +kernel) (by decide +kernel)
set_option maxRecDepth 20000 in
theorem gX2_tree_X2_isSpot : GoodIn wsX2_tree (va_wsS RX2 77 yX2_isSpot wsX2_isSpot) := goodIn_app (goodIn_of _ (by decide +kernel)) ggX2_tree_X2_isSpot
set_option maxRecDepth 20000 in
theorem ggX2_tree_X2_isIn : GoodIn wsX2_tree wsX2_isIn := goodIn_r _ [8] (by decide +kernel) (by decide +kernel)
set_option maxRecDepth 20000 in
theorem gX2_tree_X2_isIn : GoodIn wsX2_tree (va_wsS RX2 32 yX2_isIn wsX2_isIn) := goodIn_app (goodIn_of _ (by decide +kernel)) ggX2_tree_X2_isIn
set_option maxRecDepth 20000 in
theorem ggX2_tree_X2_treeTold : GoodIn wsX2_tree wsX2_treeTold := goodIn_r _ [12, 13, 14, 15, 4, 16, 17, 18, 19, 20, 21, 26, 27, 28, 29, 30, 31, 32, 33] (by decide +kernel) (by decide +kernel)
set_option maxRecDepth 20000 in
theorem gX2_tree_X2_treeTold : GoodIn wsX2_tree (wsV RX2 88 RX2 yX2_treeTold wsX2_treeTold) := goodIn_app (goodIn_of _ (by decide +kernel)) ggX2_tree_X2_treeTold
set_option maxRecDepth 20000 in
theorem ggX2_tree_X2_fail : GoodIn wsX2_tree wsX2_fail := goodIn_r _ [25, 1, 26, 27, 28, 29, 30, 31, 32, 33] (by decide +kernel) (by decide +kernel)
set_option maxRecDepth 20000 in
theorem gX2_tree_X2_fail : GoodIn wsX2_tree (wsV RX2 40 RX2 yX2_fail wsX2_fail) := goodIn_app (goodIn_of _ (by decide +kernel)) ggX2_tree_X2_fail
theorem dX2_tree_0 : decode cX2_tree 0 = .ok (.aload_n 0, 1) := by decide +kernel
theorem dX2_tree_1 : decode cX2_tree 1 = .ok (.iconst 0, 1) := by decide +kernel
theorem dX2_tree_2 : decode cX2_tree 2 = .ok (.putfield 28, 3) := by decide +kernel
theorem dX2_tree_5 : decode cX2_tree 5 = .ok (.iload_n 1, 1) := by decide +kernel
theorem dX2_tree_6 : decode cX2_tree 6 = .ok (.iload_n 2, 1) := by decide +kernel
theorem dX2_tree_7 : decode cX2_tree 7 = .ok (.invokestatic 77, 3) := by decide +kernel
theorem dX2_tree_10 : decode cX2_tree 10 = .ok (.ifCond .eq 26, 3) := by decide +kernel
theorem dX2_tree_13 : decode cX2_tree 13 = .ok (.iload_n 3, 1) := by decide +kernel
theorem dX2_tree_14 : decode cX2_tree 14 = .ok (.iconst 0, 1) := by decide +kernel
theorem dX2_tree_15 : decode cX2_tree 15 = .ok (.iconst 5, 1) := by decide +kernel
theorem dX2_tree_16 : decode cX2_tree 16 = .ok (.invokestatic 32, 3) := by decide +kernel
theorem dX2_tree_19 : decode cX2_tree 19 = .ok (.ifCond .eq 17, 3) := by decide +kernel
theorem dX2_tree_22 : decode cX2_tree 22 = .ok (.aload_n 0, 1) := by decide +kernel
theorem dX2_tree_23 : decode cX2_tree 23 = .ok (.bipush 8, 2) := by decide +kernel
theorem dX2_tree_25 : decode cX2_tree 25 = .ok (.iload_n 1, 1) := by decide +kernel
theorem dX2_tree_26 : decode cX2_tree 26 = .ok (.imul, 1) := by decide +kernel
theorem dX2_tree_27 : decode cX2_tree 27 = .ok (.iload_n 2, 1) := by decide +kernel
theorem dX2_tree_28 : decode cX2_tree 28 = .ok (.iadd, 1) := by decide +kernel
theorem dX2_tree_29 : decode cX2_tree 29 = .ok (.iload_n 3, 1) := by decide +kernel
theorem dX2_tree_30 : decode cX2_tree 30 = .ok (.invokevirtual 88, 3) := by decide +kernel
theorem dX2_tree_33 : decode cX2_tree 33 = .ok (.goto 8, 3) := by decide +kernel
theorem dX2_tree_36 : decode cX2_tree 36 = .ok (.aload_n 0, 1) := by decide +kernel
theorem dX2_tree_37 : decode cX2_tree 37 = .ok (.iconst 1, 1) := by decide +kernel
theorem dX2_tree_38 : decode cX2_tree 38 = .ok (.invokevirtual 40, 3) := by decide +kernel
theorem dX2_tree_41 : decode cX2_tree 41 = .ok (.ireturn, 1) := by decide +kernel
set_option maxRecDepth 20000 in
theorem ggX2_sortTold_X2_tr : GoodIn wsX2_sortTold wsX2_tr := goodIn_r _ [8, 9, 10, 11, 12, 13, 14, 15, 16, 17] (by decide +kernel) (by decide +kernel)
set_option maxRecDepth 20000 in
theorem gX2_sortTold_X2_tr : GoodIn wsX2_sortTold (wsV RX2 44 RX2 yX2_tr wsX2_tr) := goodIn_app (goodIn_of _ (by decide +kernel)) ggX2_sortTold_X2_tr
theorem dX2_sortTold_0 : decode cX2_sortTold 0 = .ok (.iconst 0, 1) := by decide +kernel
theorem dX2_sortTold_1 : decode cX2_sortTold 1 = .ok (.istore_n 3, 1) := by decide +kernel
theorem dX2_sortTold_2 : decode cX2_sortTold 2 = .ok (.iload_n 2, 1) := by decide +kernel
theorem dX2_sortTold_3 : decode cX2_sortTold 3 = .ok (.iconst 3, 1) := by decide +kernel
theorem dX2_sortTold_4 : decode cX2_sortTold 4 = .ok (.if_icmp .ge 37, 3) := by decide +kernel
theorem dX2_sortTold_7 : decode cX2_sortTold 7 = .ok (.iload_n 2, 1) := by decide +kernel
theorem dX2_sortTold_8 : decode cX2_sortTold 8 = .ok (.ifCond .ne 12, 3) := by decide +kernel
theorem dX2_sortTold_11 : decode cX2_sortTold 11 = .ok (.aload_n 0, 1) := by decide +kernel
theorem dX2_sortTold_12 : decode cX2_sortTold 12 = .ok (.getfield 9, 3) := by decide +kernel
theorem dX2_sortTold_15 : decode cX2_sortTold 15 = .ok (.iload_n 1, 1) := by decide +kernel
theorem dX2_sortTold_16 : decode cX2_sortTold 16 = .ok (.iaload, 1) := by decide +kernel
theorem dX2_sortTold_17 : decode cX2_sortTold 17 = .ok (.goto 23, 3) := by decide +kernel
theorem dX2_sortTold_20 : decode cX2_sortTold 20 = .ok (.iload_n 2, 1) := by decide +kernel
theorem dX2_sortTold_21 : decode cX2_sortTold 21 = .ok (.iconst 1, 1) := by decide +kernel
theorem dX2_sortTold_22 : decode cX2_sortTold 22 = .ok (.if_icmp .ne 12, 3) := by decide +kernel
theorem dX2_sortTold_25 : decode cX2_sortTold 25 = .ok (.aload_n 0, 1) := by decide +kernel
theorem dX2_sortTold_26 : decode cX2_sortTold 26 = .ok (.getfield 13, 3) := by decide +kernel
theorem dX2_sortTold_29 : decode cX2_sortTold 29 = .ok (.iload_n 1, 1) := by decide +kernel
theorem dX2_sortTold_30 : decode cX2_sortTold 30 = .ok (.iaload, 1) := by decide +kernel
theorem dX2_sortTold_31 : decode cX2_sortTold 31 = .ok (.goto 9, 3) := by decide +kernel
theorem dX2_sortTold_34 : decode cX2_sortTold 34 = .ok (.aload_n 0, 1) := by decide +kernel
theorem dX2_sortTold_35 : decode cX2_sortTold 35 = .ok (.getfield 22, 3) := by decide +kernel
theorem dX2_sortTold_38 : decode cX2_sortTold 38 = .ok (.iload_n 1, 1) := by decide +kernel
theorem dX2_sortTold_39 : decode cX2_sortTold 39 = .ok (.iaload, 1) := by decide +kernel
theorem dX2_sortTold_40 : decode cX2_sortTold 40 = .ok (.ireturn, 1) := by decide +kernel
theorem dX2_sortTold_41 : decode cX2_sortTold 41 = .ok (.iconst 0, 1) := by decide +kernel
theorem dX2_sortTold_42 : decode cX2_sortTold 42 = .ok (.istore 4, 2) := by decide +kernel
theorem dX2_sortTold_44 : decode cX2_sortTold 44 = .ok (.iload 4, 2) := by decide +kernel
theorem dX2_sortTold_46 : decode cX2_sortTold 46 = .ok (.bipush 40, 2) := by decide +kernel
theorem dX2_sortTold_48 : decode cX2_sortTold 48 = .ok (.if_icmp .ge 39, 3) := by decide +kernel
theorem dX2_sortTold_51 : decode cX2_sortTold 51 = .ok (.iload_n 3, 1) := by decide +kernel
theorem dX2_sortTold_52 : decode cX2_sortTold 52 = .ok (.aload_n 0, 1) := by decide +kernel
theorem dX2_sortTold_53 : decode cX2_sortTold 53 = .ok (.iload 4, 2) := by decide +kernel
theorem dX2_sortTold_55 : decode cX2_sortTold 55 = .ok (.iconst 0, 1) := by decide +kernel
theorem dX2_sortTold_56 : decode cX2_sortTold 56 = .ok (.invokevirtual 44, 3) := by decide +kernel
theorem dX2_sortTold_59 : decode cX2_sortTold 59 = .ok (.iconst 1, 1) := by decide +kernel
theorem dX2_sortTold_60 : decode cX2_sortTold 60 = .ok (.if_icmp .ne 18, 3) := by decide +kernel
theorem dX2_sortTold_63 : decode cX2_sortTold 63 = .ok (.aload_n 0, 1) := by decide +kernel
theorem dX2_sortTold_64 : decode cX2_sortTold 64 = .ok (.iload 4, 2) := by decide +kernel
theorem dX2_sortTold_66 : decode cX2_sortTold 66 = .ok (.iconst 3, 1) := by decide +kernel
theorem dX2_sortTold_67 : decode cX2_sortTold 67 = .ok (.invokevirtual 44, 3) := by decide +kernel
theorem dX2_sortTold_70 : decode cX2_sortTold 70 = .ok (.iload_n 1, 1) := by decide +kernel
theorem dX2_sortTold_71 : decode cX2_sortTold 71 = .ok (.if_icmp .ne 7, 3) := by decide +kernel
theorem dX2_sortTold_74 : decode cX2_sortTold 74 = .ok (.iconst 1, 1) := by decide +kernel
theorem dX2_sortTold_75 : decode cX2_sortTold 75 = .ok (.goto 4, 3) := by decide +kernel
theorem dX2_sortTold_78 : decode cX2_sortTold 78 = .ok (.iconst 0, 1) := by decide +kernel
theorem dX2_sortTold_79 : decode cX2_sortTold 79 = .ok (.iadd, 1) := by decide +kernel
theorem dX2_sortTold_80 : decode cX2_sortTold 80 = .ok (.istore_n 3, 1) := by decide +kernel
theorem dX2_sortTold_81 : decode cX2_sortTold 81 = .ok (.iinc 4 1, 3) := by decide +kernel
theorem dX2_sortTold_84 : decode cX2_sortTold 84 = .ok (.goto (-40), 3) := by decide +kernel
theorem dX2_sortTold_87 : decode cX2_sortTold 87 = .ok (.iload_n 3, 1) := by decide +kernel
theorem dX2_sortTold_88 : decode cX2_sortTold 88 = .ok (.ireturn, 1) := by decide +kernel
set_option maxRecDepth 20000 in
theorem ggX2_sort_X2_isSort : GoodIn wsX2_sort wsX2_isSort := goodIn_r _ [5, 6, 7, 4, 8] (by decide +kernel) (by decide +kernel)
set_option maxRecDepth 20000 in
theorem gX2_sort_X2_isSort : GoodIn wsX2_sort (va_wsS RX2 36 yX2_isSort wsX2_isSort) := goodIn_app (goodIn_of _ (by decide +kernel)) ggX2_sort_X2_isSort
set_option maxRecDepth 20000 in
theorem ggX2_sort_X2_isIn : GoodIn wsX2_sort wsX2_isIn := goodIn_r _ [8] (by decide +kernel) (by decide +kernel)
set_option maxRecDepth 20000 in
theorem gX2_sort_X2_isIn : GoodIn wsX2_sort (va_wsS RX2 32 yX2_isIn wsX2_isIn) := goodIn_app (goodIn_of _ (by decide +kernel)) ggX2_sort_X2_isIn
set_option maxRecDepth 20000 in
theorem ggX2_sort_X2_sortTold : GoodIn wsX2_sort wsX2_sortTold := goodIn_r _ [12, 13, 14, 15, 16, 17, 18, 4, 19, 20, 25, 26, 27, 28, 29, 30, 31, 32] (by decide +kernel) (by decide +kernel)
set_option maxRecDepth 20000 in
theorem gX2_sort_X2_sortTold : GoodIn wsX2_sort (wsV RX2 91 RX2 yX2_sortTold wsX2_sortTold) := goodIn_app (goodIn_of _ (by decide +kernel)) ggX2_sort_X2_sortTold
set_option maxRecDepth 20000 in
theorem ggX2_sort_X2_fail : GoodIn wsX2_sort wsX2_fail := goodIn_r _ [24, 1, 25, 26, 27, 28, 29, 30, 31, 32] (by decide +kernel) (by decide +kernel)
set_option maxRecDepth 20000 in
theorem gX2_sort_X2_fail : GoodIn wsX2_sort (wsV RX2 40 RX2 yX2_fail wsX2_fail) := goodIn_app (goodIn_of _ (by decide +kernel)) ggX2_sort_X2_fail
theorem dX2_sort_0 : decode cX2_sort 0 = .ok (.aload_n 0, 1) := by decide +kernel
theorem dX2_sort_1 : decode cX2_sort 1 = .ok (.iconst 0, 1) := by decide +kernel
theorem dX2_sort_2 : decode cX2_sort 2 = .ok (.putfield 28, 3) := by decide +kernel
theorem dX2_sort_5 : decode cX2_sort 5 = .ok (.iload_n 1, 1) := by decide +kernel
theorem dX2_sort_6 : decode cX2_sort 6 = .ok (.invokestatic 36, 3) := by decide +kernel
theorem dX2_sort_9 : decode cX2_sort 9 = .ok (.ifCond .eq 21, 3) := by decide +kernel
theorem dX2_sort_12 : decode cX2_sort 12 = .ok (.iload_n 2, 1) := by decide +kernel
theorem dX2_sort_13 : decode cX2_sort 13 = .ok (.iconst 0, 1) := by decide +kernel
theorem dX2_sort_14 : decode cX2_sort 14 = .ok (.iconst 3, 1) := by decide +kernel
theorem dX2_sort_15 : decode cX2_sort 15 = .ok (.invokestatic 32, 3) := by decide +kernel
theorem dX2_sort_18 : decode cX2_sort 18 = .ok (.ifCond .eq 12, 3) := by decide +kernel
theorem dX2_sort_21 : decode cX2_sort 21 = .ok (.aload_n 0, 1) := by decide +kernel
theorem dX2_sort_22 : decode cX2_sort 22 = .ok (.iload_n 1, 1) := by decide +kernel
theorem dX2_sort_23 : decode cX2_sort 23 = .ok (.iload_n 2, 1) := by decide +kernel
theorem dX2_sort_24 : decode cX2_sort 24 = .ok (.invokevirtual 91, 3) := by decide +kernel
theorem dX2_sort_27 : decode cX2_sort 27 = .ok (.goto 8, 3) := by decide +kernel
theorem dX2_sort_30 : decode cX2_sort 30 = .ok (.aload_n 0, 1) := by decide +kernel
theorem dX2_sort_31 : decode cX2_sort 31 = .ok (.iconst 1, 1) := by decide +kernel
theorem dX2_sort_32 : decode cX2_sort 32 = .ok (.invokevirtual 40, 3) := by decide +kernel
theorem dX2_sort_35 : decode cX2_sort 35 = .ok (.ireturn, 1) := by decide +kernel
set_option maxRecDepth 20000 in
theorem ggX2_all_X2_tr : GoodIn wsX2_all wsX2_tr := goodIn_r _ [5, 6, 7, 8, 9, 10, 11, 12, 13, 14] (by decide +kernel) (by decide +kernel)
set_option maxRecDepth 20000 in
theorem gX2_all_X2_tr : GoodIn wsX2_all (wsV RX2 44 RX2 yX2_tr wsX2_tr) := goodIn_app (goodIn_of _ (by decide +kernel)) ggX2_all_X2_tr
theorem dX2_all_0 : decode cX2_all 0 = .ok (.iconst 0, 1) := by decide +kernel
theorem dX2_all_1 : decode cX2_all 1 = .ok (.istore_n 2, 1) := by decide +kernel
theorem dX2_all_2 : decode cX2_all 2 = .ok (.iconst 0, 1) := by decide +kernel
theorem dX2_all_3 : decode cX2_all 3 = .ok (.istore_n 3, 1) := by decide +kernel
theorem dX2_all_4 : decode cX2_all 4 = .ok (.iload_n 3, 1) := by decide +kernel
theorem dX2_all_5 : decode cX2_all 5 = .ok (.bipush 40, 2) := by decide +kernel
theorem dX2_all_7 : decode cX2_all 7 = .ok (.if_icmp .ge 18, 3) := by decide +kernel
theorem dX2_all_10 : decode cX2_all 10 = .ok (.iload_n 2, 1) := by decide +kernel
theorem dX2_all_11 : decode cX2_all 11 = .ok (.aload_n 0, 1) := by decide +kernel
theorem dX2_all_12 : decode cX2_all 12 = .ok (.iload_n 3, 1) := by decide +kernel
theorem dX2_all_13 : decode cX2_all 13 = .ok (.iload_n 1, 1) := by decide +kernel
theorem dX2_all_14 : decode cX2_all 14 = .ok (.invokevirtual 44, 3) := by decide +kernel
theorem dX2_all_17 : decode cX2_all 17 = .ok (.iadd, 1) := by decide +kernel
theorem dX2_all_18 : decode cX2_all 18 = .ok (.istore_n 2, 1) := by decide +kernel
theorem dX2_all_19 : decode cX2_all 19 = .ok (.iinc 3 1, 3) := by decide +kernel
theorem dX2_all_22 : decode cX2_all 22 = .ok (.goto (-18), 3) := by decide +kernel
theorem dX2_all_25 : decode cX2_all 25 = .ok (.iload_n 2, 1) := by decide +kernel
theorem dX2_all_26 : decode cX2_all 26 = .ok (.ireturn, 1) := by decide +kernel
set_option maxRecDepth 20000 in
theorem ggX2_counted_X2_all : GoodIn wsX2_counted wsX2_all := goodIn_r _ [8, 9, 10, 11, 7, 12, 13, 14, 15, 16, 17, 18, 19, 20, 21] (by decide +kernel) (by decide +kernel)
set_option maxRecDepth 20000 in
theorem gX2_counted_X2_all : GoodIn wsX2_counted (wsV RX2 94 RX2 yX2_all wsX2_all) := goodIn_app (goodIn_of _ (by decide +kernel)) ggX2_counted_X2_all
set_option maxRecDepth 20000 in
theorem ggX2_counted_X2_tr : GoodIn wsX2_counted wsX2_tr := goodIn_r _ [12, 13, 14, 15, 16, 17, 18, 19, 20, 21] (by decide +kernel) (by decide +kernel)
set_option maxRecDepth 20000 in
theorem gX2_counted_X2_tr : GoodIn wsX2_counted (wsV RX2 44 RX2 yX2_tr wsX2_tr) := goodIn_app (goodIn_of _ (by decide +kernel)) ggX2_counted_X2_tr
theorem dX2_counted_0 : decode cX2_counted 0 = .ok (.iconst 0, 1) := by decide +kernel
theorem dX2_counted_1 : decode cX2_counted 1 = .ok (.istore_n 2, 1) := by decide +kernel
theorem dX2_counted_2 : decode cX2_counted 2 = .ok (.iload_n 1, 1) := by decide +kernel
theorem dX2_counted_3 : decode cX2_counted 3 = .ok (.tableswitch 110 0 6 #[41, 48, 48, 57, 63, 69, 69], 41) := by decide +kernel
theorem dX2_counted_44 : decode cX2_counted 44 = .ok (.aload_n 0, 1) := by decide +kernel
theorem dX2_counted_45 : decode cX2_counted 45 = .ok (.getfield 25, 3) := by decide +kernel
theorem dX2_counted_48 : decode cX2_counted 48 = .ok (.iconst 2, 1) := by decide +kernel
theorem dX2_counted_49 : decode cX2_counted 49 = .ok (.iaload, 1) := by decide +kernel
theorem dX2_counted_50 : decode cX2_counted 50 = .ok (.ireturn, 1) := by decide +kernel
theorem dX2_counted_51 : decode cX2_counted 51 = .ok (.aload_n 0, 1) := by decide +kernel
theorem dX2_counted_52 : decode cX2_counted 52 = .ok (.getfield 25, 3) := by decide +kernel
theorem dX2_counted_55 : decode cX2_counted 55 = .ok (.iload_n 1, 1) := by decide +kernel
theorem dX2_counted_56 : decode cX2_counted 56 = .ok (.iconst 1, 1) := by decide +kernel
theorem dX2_counted_57 : decode cX2_counted 57 = .ok (.isub, 1) := by decide +kernel
theorem dX2_counted_58 : decode cX2_counted 58 = .ok (.iaload, 1) := by decide +kernel
theorem dX2_counted_59 : decode cX2_counted 59 = .ok (.ireturn, 1) := by decide +kernel
theorem dX2_counted_60 : decode cX2_counted 60 = .ok (.aload_n 0, 1) := by decide +kernel
theorem dX2_counted_61 : decode cX2_counted 61 = .ok (.iconst 0, 1) := by decide +kernel
theorem dX2_counted_62 : decode cX2_counted 62 = .ok (.invokevirtual 94, 3) := by decide +kernel
theorem dX2_counted_65 : decode cX2_counted 65 = .ok (.ireturn, 1) := by decide +kernel
theorem dX2_counted_66 : decode cX2_counted 66 = .ok (.aload_n 0, 1) := by decide +kernel
theorem dX2_counted_67 : decode cX2_counted 67 = .ok (.iconst 4, 1) := by decide +kernel
theorem dX2_counted_68 : decode cX2_counted 68 = .ok (.invokevirtual 94, 3) := by decide +kernel
theorem dX2_counted_71 : decode cX2_counted 71 = .ok (.ireturn, 1) := by decide +kernel
theorem dX2_counted_72 : decode cX2_counted 72 = .ok (.iconst 0, 1) := by decide +kernel
theorem dX2_counted_73 : decode cX2_counted 73 = .ok (.istore_n 3, 1) := by decide +kernel
theorem dX2_counted_74 : decode cX2_counted 74 = .ok (.iload_n 3, 1) := by decide +kernel
theorem dX2_counted_75 : decode cX2_counted 75 = .ok (.bipush 6, 2) := by decide +kernel
theorem dX2_counted_77 : decode cX2_counted 77 = .ok (.if_icmp .ge 34, 3) := by decide +kernel
theorem dX2_counted_80 : decode cX2_counted 80 = .ok (.iload_n 2, 1) := by decide +kernel
theorem dX2_counted_81 : decode cX2_counted 81 = .ok (.aload_n 0, 1) := by decide +kernel
theorem dX2_counted_82 : decode cX2_counted 82 = .ok (.getfield 22, 3) := by decide +kernel
theorem dX2_counted_85 : decode cX2_counted 85 = .ok (.iload_n 3, 1) := by decide +kernel
theorem dX2_counted_86 : decode cX2_counted 86 = .ok (.iaload, 1) := by decide +kernel
theorem dX2_counted_87 : decode cX2_counted 87 = .ok (.iload_n 1, 1) := by decide +kernel
theorem dX2_counted_88 : decode cX2_counted 88 = .ok (.iconst 5, 1) := by decide +kernel
theorem dX2_counted_89 : decode cX2_counted 89 = .ok (.if_icmp .ne 7, 3) := by decide +kernel
theorem dX2_counted_92 : decode cX2_counted 92 = .ok (.iconst 1, 1) := by decide +kernel
theorem dX2_counted_93 : decode cX2_counted 93 = .ok (.goto 9, 3) := by decide +kernel
theorem dX2_counted_96 : decode cX2_counted 96 = .ok (.aload_n 0, 1) := by decide +kernel
theorem dX2_counted_97 : decode cX2_counted 97 = .ok (.getfield 9, 3) := by decide +kernel
theorem dX2_counted_100 : decode cX2_counted 100 = .ok (.iload_n 3, 1) := by decide +kernel
theorem dX2_counted_101 : decode cX2_counted 101 = .ok (.iaload, 1) := by decide +kernel
theorem dX2_counted_102 : decode cX2_counted 102 = .ok (.imul, 1) := by decide +kernel
theorem dX2_counted_103 : decode cX2_counted 103 = .ok (.iadd, 1) := by decide +kernel
theorem dX2_counted_104 : decode cX2_counted 104 = .ok (.istore_n 2, 1) := by decide +kernel
theorem dX2_counted_105 : decode cX2_counted 105 = .ok (.iinc 3 1, 3) := by decide +kernel
theorem dX2_counted_108 : decode cX2_counted 108 = .ok (.goto (-34), 3) := by decide +kernel
theorem dX2_counted_111 : decode cX2_counted 111 = .ok (.iload_n 2, 1) := by decide +kernel
theorem dX2_counted_112 : decode cX2_counted 112 = .ok (.ireturn, 1) := by decide +kernel
theorem dX2_counted_113 : decode cX2_counted 113 = .ok (.iconst 0, 1) := by decide +kernel
theorem dX2_counted_114 : decode cX2_counted 114 = .ok (.istore_n 3, 1) := by decide +kernel
theorem dX2_counted_115 : decode cX2_counted 115 = .ok (.iload_n 3, 1) := by decide +kernel
theorem dX2_counted_116 : decode cX2_counted 116 = .ok (.bipush 40, 2) := by decide +kernel
theorem dX2_counted_118 : decode cX2_counted 118 = .ok (.if_icmp .ge 105, 3) := by decide +kernel
theorem dX2_counted_121 : decode cX2_counted 121 = .ok (.iload_n 3, 1) := by decide +kernel
theorem dX2_counted_122 : decode cX2_counted 122 = .ok (.bipush 8, 2) := by decide +kernel
theorem dX2_counted_124 : decode cX2_counted 124 = .ok (.idiv, 1) := by decide +kernel
theorem dX2_counted_125 : decode cX2_counted 125 = .ok (.bipush 8, 2) := by decide +kernel
theorem dX2_counted_127 : decode cX2_counted 127 = .ok (.imul, 1) := by decide +kernel
theorem dX2_counted_128 : decode cX2_counted 128 = .ok (.bipush 8, 2) := by decide +kernel
theorem dX2_counted_130 : decode cX2_counted 130 = .ok (.iadd, 1) := by decide +kernel
theorem dX2_counted_131 : decode cX2_counted 131 = .ok (.iconst 1, 1) := by decide +kernel
theorem dX2_counted_132 : decode cX2_counted 132 = .ok (.isub, 1) := by decide +kernel
theorem dX2_counted_133 : decode cX2_counted 133 = .ok (.iload_n 3, 1) := by decide +kernel
theorem dX2_counted_134 : decode cX2_counted 134 = .ok (.bipush 8, 2) := by decide +kernel
theorem dX2_counted_136 : decode cX2_counted 136 = .ok (.irem, 1) := by decide +kernel
theorem dX2_counted_137 : decode cX2_counted 137 = .ok (.isub, 1) := by decide +kernel
theorem dX2_counted_138 : decode cX2_counted 138 = .ok (.istore 4, 2) := by decide +kernel
theorem dX2_counted_140 : decode cX2_counted 140 = .ok (.iload 4, 2) := by decide +kernel
theorem dX2_counted_142 : decode cX2_counted 142 = .ok (.iload_n 3, 1) := by decide +kernel
theorem dX2_counted_143 : decode cX2_counted 143 = .ok (.if_icmp .ge 6, 3) := by decide +kernel
theorem dX2_counted_146 : decode cX2_counted 146 = .ok (.goto 71, 3) := by decide +kernel
theorem dX2_counted_149 : decode cX2_counted 149 = .ok (.aload_n 0, 1) := by decide +kernel
theorem dX2_counted_150 : decode cX2_counted 150 = .ok (.iload_n 3, 1) := by decide +kernel
theorem dX2_counted_151 : decode cX2_counted 151 = .ok (.iconst 0, 1) := by decide +kernel
theorem dX2_counted_152 : decode cX2_counted 152 = .ok (.invokevirtual 44, 3) := by decide +kernel
theorem dX2_counted_155 : decode cX2_counted 155 = .ok (.aload_n 0, 1) := by decide +kernel
theorem dX2_counted_156 : decode cX2_counted 156 = .ok (.iload 4, 2) := by decide +kernel
theorem dX2_counted_158 : decode cX2_counted 158 = .ok (.iconst 0, 1) := by decide +kernel
theorem dX2_counted_159 : decode cX2_counted 159 = .ok (.invokevirtual 44, 3) := by decide +kernel
theorem dX2_counted_162 : decode cX2_counted 162 = .ok (.if_icmp .ne 39, 3) := by decide +kernel
theorem dX2_counted_165 : decode cX2_counted 165 = .ok (.aload_n 0, 1) := by decide +kernel
theorem dX2_counted_166 : decode cX2_counted 166 = .ok (.iload_n 3, 1) := by decide +kernel
theorem dX2_counted_167 : decode cX2_counted 167 = .ok (.iconst 3, 1) := by decide +kernel
theorem dX2_counted_168 : decode cX2_counted 168 = .ok (.invokevirtual 44, 3) := by decide +kernel
theorem dX2_counted_171 : decode cX2_counted 171 = .ok (.aload_n 0, 1) := by decide +kernel
theorem dX2_counted_172 : decode cX2_counted 172 = .ok (.iload 4, 2) := by decide +kernel
theorem dX2_counted_174 : decode cX2_counted 174 = .ok (.iconst 3, 1) := by decide +kernel
theorem dX2_counted_175 : decode cX2_counted 175 = .ok (.invokevirtual 44, 3) := by decide +kernel
theorem dX2_counted_178 : decode cX2_counted 178 = .ok (.if_icmp .ne 23, 3) := by decide +kernel
theorem dX2_counted_181 : decode cX2_counted 181 = .ok (.aload_n 0, 1) := by decide +kernel
theorem dX2_counted_182 : decode cX2_counted 182 = .ok (.iload_n 3, 1) := by decide +kernel
theorem dX2_counted_183 : decode cX2_counted 183 = .ok (.iconst 1, 1) := by decide +kernel
theorem dX2_counted_184 : decode cX2_counted 184 = .ok (.invokevirtual 44, 3) := by decide +kernel
theorem dX2_counted_187 : decode cX2_counted 187 = .ok (.aload_n 0, 1) := by decide +kernel
theorem dX2_counted_188 : decode cX2_counted 188 = .ok (.iload 4, 2) := by decide +kernel
theorem dX2_counted_190 : decode cX2_counted 190 = .ok (.iconst 1, 1) := by decide +kernel
theorem dX2_counted_191 : decode cX2_counted 191 = .ok (.invokevirtual 44, 3) := by decide +kernel
theorem dX2_counted_194 : decode cX2_counted 194 = .ok (.if_icmp .ne 7, 3) := by decide +kernel
theorem dX2_counted_197 : decode cX2_counted 197 = .ok (.iconst 1, 1) := by decide +kernel
theorem dX2_counted_198 : decode cX2_counted 198 = .ok (.goto 4, 3) := by decide +kernel
theorem dX2_counted_201 : decode cX2_counted 201 = .ok (.iconst 0, 1) := by decide +kernel
theorem dX2_counted_202 : decode cX2_counted 202 = .ok (.istore 5, 2) := by decide +kernel
theorem dX2_counted_204 : decode cX2_counted 204 = .ok (.iload_n 2, 1) := by decide +kernel
theorem dX2_counted_205 : decode cX2_counted 205 = .ok (.iload 5, 2) := by decide +kernel
theorem dX2_counted_207 : decode cX2_counted 207 = .ok (.ifCond .eq 7, 3) := by decide +kernel
theorem dX2_counted_210 : decode cX2_counted 210 = .ok (.iconst 0, 1) := by decide +kernel
theorem dX2_counted_211 : decode cX2_counted 211 = .ok (.goto 4, 3) := by decide +kernel
theorem dX2_counted_214 : decode cX2_counted 214 = .ok (.iconst 1, 1) := by decide +kernel
theorem dX2_counted_215 : decode cX2_counted 215 = .ok (.iadd, 1) := by decide +kernel
theorem dX2_counted_216 : decode cX2_counted 216 = .ok (.istore_n 2, 1) := by decide +kernel
theorem dX2_counted_217 : decode cX2_counted 217 = .ok (.iinc 3 1, 3) := by decide +kernel
theorem dX2_counted_220 : decode cX2_counted 220 = .ok (.goto (-105), 3) := by decide +kernel
theorem dX2_counted_223 : decode cX2_counted 223 = .ok (.iload_n 2, 1) := by decide +kernel
theorem dX2_counted_224 : decode cX2_counted 224 = .ok (.ireturn, 1) := by decide +kernel
set_option maxRecDepth 20000 in
theorem ggX2_count_X2_isIn : GoodIn wsX2_count wsX2_isIn := goodIn_r _ [5] (by decide +kernel) (by decide +kernel)
set_option maxRecDepth 20000 in
theorem gX2_count_X2_isIn : GoodIn wsX2_count (va_wsS RX2 32 yX2_isIn wsX2_isIn) := goodIn_app (goodIn_of _ (by decide +kernel)) ggX2_count_X2_isIn
set_option maxRecDepth 20000 in
theorem ggX2_count_X2_counted : GoodIn wsX2_count wsX2_counted := goodIn_r _ [9, 10, 11, 12, 13, 14, 15, 4, 16, 17, 18, 19, 20, 21, 26, 27, 28, 29, 30, 31, 32, 33] (by decide +kernel) (by decide +kernel)
set_option maxRecDepth 20000 in
theorem gX2_count_X2_counted : GoodIn wsX2_count (wsV RX2 97 RX2 yX2_counted wsX2_counted) := goodIn_app (goodIn_of _ (by decide +kernel)) ggX2_count_X2_counted
set_option maxRecDepth 20000 in
theorem ggX2_count_X2_fail : GoodIn wsX2_count wsX2_fail := goodIn_r _ [25, 1, 26, 27, 28, 29, 30, 31, 32, 33] (by decide +kernel) (by decide +kernel)
set_option maxRecDepth 20000 in
theorem gX2_count_X2_fail : GoodIn wsX2_count (wsV RX2 40 RX2 yX2_fail wsX2_fail) := goodIn_app (goodIn_of _ (by decide +kernel)) ggX2_count_X2_fail
theorem dX2_count_0 : decode cX2_count 0 = .ok (.aload_n 0, 1) := by decide +kernel
theorem dX2_count_1 : decode cX2_count 1 = .ok (.iconst 0, 1) := by decide +kernel
theorem dX2_count_2 : decode cX2_count 2 = .ok (.putfield 28, 3) := by decide +kernel
theorem dX2_count_5 : decode cX2_count 5 = .ok (.iload_n 1, 1) := by decide +kernel
theorem dX2_count_6 : decode cX2_count 6 = .ok (.iconst 0, 1) := by decide +kernel
theorem dX2_count_7 : decode cX2_count 7 = .ok (.bipush 7, 2) := by decide +kernel
theorem dX2_count_9 : decode cX2_count 9 = .ok (.invokestatic 32, 3) := by decide +kernel
theorem dX2_count_12 : decode cX2_count 12 = .ok (.ifCond .eq 11, 3) := by decide +kernel
theorem dX2_count_15 : decode cX2_count 15 = .ok (.aload_n 0, 1) := by decide +kernel
theorem dX2_count_16 : decode cX2_count 16 = .ok (.iload_n 1, 1) := by decide +kernel
theorem dX2_count_17 : decode cX2_count 17 = .ok (.invokevirtual 97, 3) := by decide +kernel
theorem dX2_count_20 : decode cX2_count 20 = .ok (.goto 8, 3) := by decide +kernel
theorem dX2_count_23 : decode cX2_count 23 = .ok (.aload_n 0, 1) := by decide +kernel
theorem dX2_count_24 : decode cX2_count 24 = .ok (.iconst 1, 1) := by decide +kernel
theorem dX2_count_25 : decode cX2_count 25 = .ok (.invokevirtual 40, 3) := by decide +kernel
theorem dX2_count_28 : decode cX2_count 28 = .ok (.ireturn, 1) := by decide +kernel
set_option maxRecDepth 20000 in
theorem ggX2_leans_X2_isIn : GoodIn wsX2_leans wsX2_isIn := goodIn_r _ [5] (by decide +kernel) (by decide +kernel)
set_option maxRecDepth 20000 in
theorem gX2_leans_X2_isIn : GoodIn wsX2_leans (va_wsS RX2 32 yX2_isIn wsX2_isIn) := goodIn_app (goodIn_of _ (by decide +kernel)) ggX2_leans_X2_isIn
set_option maxRecDepth 20000 in
theorem ggX2_leans_X2_fail : GoodIn wsX2_leans wsX2_fail := goodIn_r _ [9, 1, 19, 20, 21, 22, 23, 24, 25, 26] (by decide +kernel) (by decide +kernel)
set_option maxRecDepth 20000 in
theorem gX2_leans_X2_fail : GoodIn wsX2_leans (wsV RX2 40 RX2 yX2_fail wsX2_fail) := goodIn_app (goodIn_of _ (by decide +kernel)) ggX2_leans_X2_fail
set_option maxRecDepth 20000 in
theorem ggX2_leans_X2_apples : GoodIn wsX2_leans wsX2_apples := goodIn_r _ [13, 14, 15, 16, 4, 17, 18, 19, 20, 21, 22, 23, 24, 25, 26] (by decide +kernel) (by decide +kernel)
set_option maxRecDepth 20000 in
theorem gX2_leans_X2_apples : GoodIn wsX2_leans (wsV RX2 85 RX2 yX2_apples wsX2_apples) := goodIn_app (goodIn_of _ (by decide +kernel)) ggX2_leans_X2_apples
theorem dX2_leans_0 : decode cX2_leans 0 = .ok (.aload_n 0, 1) := by decide +kernel
theorem dX2_leans_1 : decode cX2_leans 1 = .ok (.iconst 0, 1) := by decide +kernel
theorem dX2_leans_2 : decode cX2_leans 2 = .ok (.putfield 28, 3) := by decide +kernel
theorem dX2_leans_5 : decode cX2_leans 5 = .ok (.iload_n 1, 1) := by decide +kernel
theorem dX2_leans_6 : decode cX2_leans 6 = .ok (.iconst 0, 1) := by decide +kernel
theorem dX2_leans_7 : decode cX2_leans 7 = .ok (.iconst 4, 1) := by decide +kernel
theorem dX2_leans_8 : decode cX2_leans 8 = .ok (.invokestatic 32, 3) := by decide +kernel
theorem dX2_leans_11 : decode cX2_leans 11 = .ok (.ifCond .ne 9, 3) := by decide +kernel
theorem dX2_leans_14 : decode cX2_leans 14 = .ok (.aload_n 0, 1) := by decide +kernel
theorem dX2_leans_15 : decode cX2_leans 15 = .ok (.iconst 1, 1) := by decide +kernel
theorem dX2_leans_16 : decode cX2_leans 16 = .ok (.invokevirtual 40, 3) := by decide +kernel
theorem dX2_leans_19 : decode cX2_leans 19 = .ok (.ireturn, 1) := by decide +kernel
theorem dX2_leans_20 : decode cX2_leans 20 = .ok (.iconst 0, 1) := by decide +kernel
theorem dX2_leans_21 : decode cX2_leans 21 = .ok (.istore_n 2, 1) := by decide +kernel
theorem dX2_leans_22 : decode cX2_leans 22 = .ok (.iconst 0, 1) := by decide +kernel
theorem dX2_leans_23 : decode cX2_leans 23 = .ok (.istore_n 3, 1) := by decide +kernel
theorem dX2_leans_24 : decode cX2_leans 24 = .ok (.iload_n 3, 1) := by decide +kernel
theorem dX2_leans_25 : decode cX2_leans 25 = .ok (.bipush 8, 2) := by decide +kernel
theorem dX2_leans_27 : decode cX2_leans 27 = .ok (.if_icmp .ge 41, 3) := by decide +kernel
theorem dX2_leans_30 : decode cX2_leans 30 = .ok (.iload_n 2, 1) := by decide +kernel
theorem dX2_leans_31 : decode cX2_leans 31 = .ok (.iload_n 3, 1) := by decide +kernel
theorem dX2_leans_32 : decode cX2_leans 32 = .ok (.iconst 4, 1) := by decide +kernel
theorem dX2_leans_33 : decode cX2_leans 33 = .ok (.if_icmp .ge 16, 3) := by decide +kernel
theorem dX2_leans_36 : decode cX2_leans 36 = .ok (.aload_n 0, 1) := by decide +kernel
theorem dX2_leans_37 : decode cX2_leans 37 = .ok (.bipush 8, 2) := by decide +kernel
theorem dX2_leans_39 : decode cX2_leans 39 = .ok (.iload_n 1, 1) := by decide +kernel
theorem dX2_leans_40 : decode cX2_leans 40 = .ok (.imul, 1) := by decide +kernel
theorem dX2_leans_41 : decode cX2_leans 41 = .ok (.iload_n 3, 1) := by decide +kernel
theorem dX2_leans_42 : decode cX2_leans 42 = .ok (.iadd, 1) := by decide +kernel
theorem dX2_leans_43 : decode cX2_leans 43 = .ok (.invokevirtual 85, 3) := by decide +kernel
theorem dX2_leans_46 : decode cX2_leans 46 = .ok (.goto 14, 3) := by decide +kernel
theorem dX2_leans_49 : decode cX2_leans 49 = .ok (.aload_n 0, 1) := by decide +kernel
theorem dX2_leans_50 : decode cX2_leans 50 = .ok (.bipush 8, 2) := by decide +kernel
theorem dX2_leans_52 : decode cX2_leans 52 = .ok (.iload_n 1, 1) := by decide +kernel
theorem dX2_leans_53 : decode cX2_leans 53 = .ok (.imul, 1) := by decide +kernel
theorem dX2_leans_54 : decode cX2_leans 54 = .ok (.iload_n 3, 1) := by decide +kernel
theorem dX2_leans_55 : decode cX2_leans 55 = .ok (.iadd, 1) := by decide +kernel
theorem dX2_leans_56 : decode cX2_leans 56 = .ok (.invokevirtual 85, 3) := by decide +kernel
theorem dX2_leans_59 : decode cX2_leans 59 = .ok (.ineg, 1) := by decide +kernel
theorem dX2_leans_60 : decode cX2_leans 60 = .ok (.iadd, 1) := by decide +kernel
theorem dX2_leans_61 : decode cX2_leans 61 = .ok (.istore_n 2, 1) := by decide +kernel
theorem dX2_leans_62 : decode cX2_leans 62 = .ok (.iinc 3 1, 3) := by decide +kernel
theorem dX2_leans_65 : decode cX2_leans 65 = .ok (.goto (-41), 3) := by decide +kernel
theorem dX2_leans_68 : decode cX2_leans 68 = .ok (.iload_n 2, 1) := by decide +kernel
theorem dX2_leans_69 : decode cX2_leans 69 = .ok (.ireturn, 1) := by decide +kernel
set_option maxRecDepth 20000 in
theorem ggX2_carry_X2_isSort : GoodIn wsX2_carry wsX2_isSort := goodIn_r _ [8, 9, 10, 7, 11] (by decide +kernel) (by decide +kernel)
set_option maxRecDepth 20000 in
theorem gX2_carry_X2_isSort : GoodIn wsX2_carry (va_wsS RX2 36 yX2_isSort wsX2_isSort) := goodIn_app (goodIn_of _ (by decide +kernel)) ggX2_carry_X2_isSort
set_option maxRecDepth 20000 in
theorem ggX2_carry_X2_fail : GoodIn wsX2_carry wsX2_fail := goodIn_r _ [15, 1, 16, 17, 18, 19, 20, 21, 22, 23] (by decide +kernel) (by decide +kernel)
set_option maxRecDepth 20000 in
theorem gX2_carry_X2_fail : GoodIn wsX2_carry (wsV RX2 40 RX2 yX2_fail wsX2_fail) := goodIn_app (goodIn_of _ (by decide +kernel)) ggX2_carry_X2_fail
set_option maxRecDepth 20000 in
theorem ggX2_carry_X2_isIn : GoodIn wsX2_carry wsX2_isIn := goodIn_r _ [11] (by decide +kernel) (by decide +kernel)
set_option maxRecDepth 20000 in
theorem gX2_carry_X2_isIn : GoodIn wsX2_carry (va_wsS RX2 32 yX2_isIn wsX2_isIn) := goodIn_app (goodIn_of _ (by decide +kernel)) ggX2_carry_X2_isIn
theorem dX2_carry_0 : decode cX2_carry 0 = .ok (.aload_n 0, 1) := by decide +kernel
theorem dX2_carry_1 : decode cX2_carry 1 = .ok (.iconst 0, 1) := by decide +kernel
theorem dX2_carry_2 : decode cX2_carry 2 = .ok (.putfield 28, 3) := by decide +kernel
theorem dX2_carry_5 : decode cX2_carry 5 = .ok (.iload_n 1, 1) := by decide +kernel
theorem dX2_carry_6 : decode cX2_carry 6 = .ok (.invokestatic 36, 3) := by decide +kernel
theorem dX2_carry_9 : decode cX2_carry 9 = .ok (.ifCond .ne 9, 3) := by decide +kernel
theorem dX2_carry_12 : decode cX2_carry 12 = .ok (.aload_n 0, 1) := by decide +kernel
theorem dX2_carry_13 : decode cX2_carry 13 = .ok (.iconst 1, 1) := by decide +kernel
theorem dX2_carry_14 : decode cX2_carry 14 = .ok (.invokevirtual 40, 3) := by decide +kernel
theorem dX2_carry_17 : decode cX2_carry 17 = .ok (.ireturn, 1) := by decide +kernel
theorem dX2_carry_18 : decode cX2_carry 18 = .ok (.iload_n 2, 1) := by decide +kernel
theorem dX2_carry_19 : decode cX2_carry 19 = .ok (.iconst 0, 1) := by decide +kernel
theorem dX2_carry_20 : decode cX2_carry 20 = .ok (.sipush 200, 3) := by decide +kernel
theorem dX2_carry_23 : decode cX2_carry 23 = .ok (.invokestatic 32, 3) := by decide +kernel
theorem dX2_carry_26 : decode cX2_carry 26 = .ok (.ifCond .eq 20, 3) := by decide +kernel
theorem dX2_carry_29 : decode cX2_carry 29 = .ok (.iload_n 3, 1) := by decide +kernel
theorem dX2_carry_30 : decode cX2_carry 30 = .ok (.iconst 0, 1) := by decide +kernel
theorem dX2_carry_31 : decode cX2_carry 31 = .ok (.sipush 200, 3) := by decide +kernel
theorem dX2_carry_34 : decode cX2_carry 34 = .ok (.invokestatic 32, 3) := by decide +kernel
theorem dX2_carry_37 : decode cX2_carry 37 = .ok (.ifCond .eq 9, 3) := by decide +kernel
theorem dX2_carry_40 : decode cX2_carry 40 = .ok (.iload_n 2, 1) := by decide +kernel
theorem dX2_carry_41 : decode cX2_carry 41 = .ok (.iload_n 3, 1) := by decide +kernel
theorem dX2_carry_42 : decode cX2_carry 42 = .ok (.iadd, 1) := by decide +kernel
theorem dX2_carry_43 : decode cX2_carry 43 = .ok (.ifCond .ne 9, 3) := by decide +kernel
theorem dX2_carry_46 : decode cX2_carry 46 = .ok (.aload_n 0, 1) := by decide +kernel
theorem dX2_carry_47 : decode cX2_carry 47 = .ok (.iconst 2, 1) := by decide +kernel
theorem dX2_carry_48 : decode cX2_carry 48 = .ok (.invokevirtual 40, 3) := by decide +kernel
theorem dX2_carry_51 : decode cX2_carry 51 = .ok (.ireturn, 1) := by decide +kernel
theorem dX2_carry_52 : decode cX2_carry 52 = .ok (.iload_n 2, 1) := by decide +kernel
theorem dX2_carry_53 : decode cX2_carry 53 = .ok (.iload_n 3, 1) := by decide +kernel
theorem dX2_carry_54 : decode cX2_carry 54 = .ok (.iadd, 1) := by decide +kernel
theorem dX2_carry_55 : decode cX2_carry 55 = .ok (.aload_n 0, 1) := by decide +kernel
theorem dX2_carry_56 : decode cX2_carry 56 = .ok (.getfield 22, 3) := by decide +kernel
theorem dX2_carry_59 : decode cX2_carry 59 = .ok (.iload_n 1, 1) := by decide +kernel
theorem dX2_carry_60 : decode cX2_carry 60 = .ok (.iaload, 1) := by decide +kernel
theorem dX2_carry_61 : decode cX2_carry 61 = .ok (.if_icmp .le 9, 3) := by decide +kernel
theorem dX2_carry_64 : decode cX2_carry 64 = .ok (.aload_n 0, 1) := by decide +kernel
theorem dX2_carry_65 : decode cX2_carry 65 = .ok (.iconst 3, 1) := by decide +kernel
theorem dX2_carry_66 : decode cX2_carry 66 = .ok (.invokevirtual 40, 3) := by decide +kernel
theorem dX2_carry_69 : decode cX2_carry 69 = .ok (.ireturn, 1) := by decide +kernel
theorem dX2_carry_70 : decode cX2_carry 70 = .ok (.aload_n 0, 1) := by decide +kernel
theorem dX2_carry_71 : decode cX2_carry 71 = .ok (.getfield 22, 3) := by decide +kernel
theorem dX2_carry_74 : decode cX2_carry 74 = .ok (.iload_n 1, 1) := by decide +kernel
theorem dX2_carry_75 : decode cX2_carry 75 = .ok (.dup2, 1) := by decide +kernel
theorem dX2_carry_76 : decode cX2_carry 76 = .ok (.iaload, 1) := by decide +kernel
theorem dX2_carry_77 : decode cX2_carry 77 = .ok (.iload_n 2, 1) := by decide +kernel
theorem dX2_carry_78 : decode cX2_carry 78 = .ok (.iload_n 3, 1) := by decide +kernel
theorem dX2_carry_79 : decode cX2_carry 79 = .ok (.iadd, 1) := by decide +kernel
theorem dX2_carry_80 : decode cX2_carry 80 = .ok (.isub, 1) := by decide +kernel
theorem dX2_carry_81 : decode cX2_carry 81 = .ok (.iastore, 1) := by decide +kernel
theorem dX2_carry_82 : decode cX2_carry 82 = .ok (.aload_n 0, 1) := by decide +kernel
theorem dX2_carry_83 : decode cX2_carry 83 = .ok (.dup, 1) := by decide +kernel
theorem dX2_carry_84 : decode cX2_carry 84 = .ok (.getfield 100, 3) := by decide +kernel
theorem dX2_carry_87 : decode cX2_carry 87 = .ok (.aload_n 0, 1) := by decide +kernel
theorem dX2_carry_88 : decode cX2_carry 88 = .ok (.getfield 9, 3) := by decide +kernel
theorem dX2_carry_91 : decode cX2_carry 91 = .ok (.iload_n 1, 1) := by decide +kernel
theorem dX2_carry_92 : decode cX2_carry 92 = .ok (.iaload, 1) := by decide +kernel
theorem dX2_carry_93 : decode cX2_carry 93 = .ok (.iload_n 2, 1) := by decide +kernel
theorem dX2_carry_94 : decode cX2_carry 94 = .ok (.iload_n 3, 1) := by decide +kernel
theorem dX2_carry_95 : decode cX2_carry 95 = .ok (.isub, 1) := by decide +kernel
theorem dX2_carry_96 : decode cX2_carry 96 = .ok (.imul, 1) := by decide +kernel
theorem dX2_carry_97 : decode cX2_carry 97 = .ok (.iadd, 1) := by decide +kernel
theorem dX2_carry_98 : decode cX2_carry 98 = .ok (.putfield 100, 3) := by decide +kernel
theorem dX2_carry_101 : decode cX2_carry 101 = .ok (.aload_n 0, 1) := by decide +kernel
theorem dX2_carry_102 : decode cX2_carry 102 = .ok (.getfield 22, 3) := by decide +kernel
theorem dX2_carry_105 : decode cX2_carry 105 = .ok (.iload_n 1, 1) := by decide +kernel
theorem dX2_carry_106 : decode cX2_carry 106 = .ok (.iaload, 1) := by decide +kernel
theorem dX2_carry_107 : decode cX2_carry 107 = .ok (.ireturn, 1) := by decide +kernel
theorem dX2_tilt_0 : decode cX2_tilt 0 = .ok (.aload_n 0, 1) := by decide +kernel
theorem dX2_tilt_1 : decode cX2_tilt 1 = .ok (.iconst 0, 1) := by decide +kernel
theorem dX2_tilt_2 : decode cX2_tilt 2 = .ok (.putfield 28, 3) := by decide +kernel
theorem dX2_tilt_5 : decode cX2_tilt 5 = .ok (.aload_n 0, 1) := by decide +kernel
theorem dX2_tilt_6 : decode cX2_tilt 6 = .ok (.getfield 100, 3) := by decide +kernel
theorem dX2_tilt_9 : decode cX2_tilt 9 = .ok (.ireturn, 1) := by decide +kernel
theorem dX2_balance_0 : decode cX2_balance 0 = .ok (.aload_n 0, 1) := by decide +kernel
theorem dX2_balance_1 : decode cX2_balance 1 = .ok (.iconst 0, 1) := by decide +kernel
theorem dX2_balance_2 : decode cX2_balance 2 = .ok (.putfield 28, 3) := by decide +kernel
theorem dX2_balance_5 : decode cX2_balance 5 = .ok (.iconst 0, 1) := by decide +kernel
theorem dX2_balance_6 : decode cX2_balance 6 = .ok (.istore_n 1, 1) := by decide +kernel
theorem dX2_balance_7 : decode cX2_balance 7 = .ok (.iconst 0, 1) := by decide +kernel
theorem dX2_balance_8 : decode cX2_balance 8 = .ok (.istore_n 2, 1) := by decide +kernel
theorem dX2_balance_9 : decode cX2_balance 9 = .ok (.iload_n 2, 1) := by decide +kernel
theorem dX2_balance_10 : decode cX2_balance 10 = .ok (.bipush 6, 2) := by decide +kernel
theorem dX2_balance_12 : decode cX2_balance 12 = .ok (.if_icmp .ge 30, 3) := by decide +kernel
theorem dX2_balance_15 : decode cX2_balance 15 = .ok (.iload_n 1, 1) := by decide +kernel
theorem dX2_balance_16 : decode cX2_balance 16 = .ok (.aload_n 0, 1) := by decide +kernel
theorem dX2_balance_17 : decode cX2_balance 17 = .ok (.getfield 9, 3) := by decide +kernel
theorem dX2_balance_20 : decode cX2_balance 20 = .ok (.iload_n 2, 1) := by decide +kernel
theorem dX2_balance_21 : decode cX2_balance 21 = .ok (.iaload, 1) := by decide +kernel
theorem dX2_balance_22 : decode cX2_balance 22 = .ok (.bipush 20, 2) := by decide +kernel
theorem dX2_balance_24 : decode cX2_balance 24 = .ok (.aload_n 0, 1) := by decide +kernel
theorem dX2_balance_25 : decode cX2_balance 25 = .ok (.getfield 22, 3) := by decide +kernel
theorem dX2_balance_28 : decode cX2_balance 28 = .ok (.iload_n 2, 1) := by decide +kernel
theorem dX2_balance_29 : decode cX2_balance 29 = .ok (.iaload, 1) := by decide +kernel
theorem dX2_balance_30 : decode cX2_balance 30 = .ok (.invokestatic 103, 3) := by decide +kernel
theorem dX2_balance_33 : decode cX2_balance 33 = .ok (.imul, 1) := by decide +kernel
theorem dX2_balance_34 : decode cX2_balance 34 = .ok (.iadd, 1) := by decide +kernel
theorem dX2_balance_35 : decode cX2_balance 35 = .ok (.istore_n 1, 1) := by decide +kernel
theorem dX2_balance_36 : decode cX2_balance 36 = .ok (.iinc 2 1, 3) := by decide +kernel
theorem dX2_balance_39 : decode cX2_balance 39 = .ok (.goto (-30), 3) := by decide +kernel
theorem dX2_balance_42 : decode cX2_balance 42 = .ok (.iload_n 1, 1) := by decide +kernel
theorem dX2_balance_43 : decode cX2_balance 43 = .ok (.iconst 1, 1) := by decide +kernel
theorem dX2_balance_44 : decode cX2_balance 44 = .ok (.iadd, 1) := by decide +kernel
theorem dX2_balance_45 : decode cX2_balance 45 = .ok (.newarray .boolean, 2) := by decide +kernel
theorem dX2_balance_47 : decode cX2_balance 47 = .ok (.astore_n 2, 1) := by decide +kernel
theorem dX2_balance_48 : decode cX2_balance 48 = .ok (.aload_n 2, 1) := by decide +kernel
theorem dX2_balance_49 : decode cX2_balance 49 = .ok (.iconst 0, 1) := by decide +kernel
theorem dX2_balance_50 : decode cX2_balance 50 = .ok (.iconst 1, 1) := by decide +kernel
theorem dX2_balance_51 : decode cX2_balance 51 = .ok (.bastore, 1) := by decide +kernel
theorem dX2_balance_52 : decode cX2_balance 52 = .ok (.iconst 0, 1) := by decide +kernel
theorem dX2_balance_53 : decode cX2_balance 53 = .ok (.istore_n 3, 1) := by decide +kernel
theorem dX2_balance_54 : decode cX2_balance 54 = .ok (.iload_n 3, 1) := by decide +kernel
theorem dX2_balance_55 : decode cX2_balance 55 = .ok (.bipush 6, 2) := by decide +kernel
theorem dX2_balance_57 : decode cX2_balance 57 = .ok (.if_icmp .ge 72, 3) := by decide +kernel
theorem dX2_balance_60 : decode cX2_balance 60 = .ok (.iconst 0, 1) := by decide +kernel
theorem dX2_balance_61 : decode cX2_balance 61 = .ok (.istore 4, 2) := by decide +kernel
theorem dX2_balance_63 : decode cX2_balance 63 = .ok (.iload 4, 2) := by decide +kernel
theorem dX2_balance_65 : decode cX2_balance 65 = .ok (.bipush 20, 2) := by decide +kernel
theorem dX2_balance_67 : decode cX2_balance 67 = .ok (.aload_n 0, 1) := by decide +kernel
theorem dX2_balance_68 : decode cX2_balance 68 = .ok (.getfield 22, 3) := by decide +kernel
theorem dX2_balance_71 : decode cX2_balance 71 = .ok (.iload_n 3, 1) := by decide +kernel
theorem dX2_balance_72 : decode cX2_balance 72 = .ok (.iaload, 1) := by decide +kernel
theorem dX2_balance_73 : decode cX2_balance 73 = .ok (.invokestatic 103, 3) := by decide +kernel
theorem dX2_balance_76 : decode cX2_balance 76 = .ok (.if_icmp .ge 47, 3) := by decide +kernel
theorem dX2_balance_79 : decode cX2_balance 79 = .ok (.iload_n 1, 1) := by decide +kernel
theorem dX2_balance_80 : decode cX2_balance 80 = .ok (.istore 5, 2) := by decide +kernel
theorem dX2_balance_82 : decode cX2_balance 82 = .ok (.iload 5, 2) := by decide +kernel
theorem dX2_balance_84 : decode cX2_balance 84 = .ok (.aload_n 0, 1) := by decide +kernel
theorem dX2_balance_85 : decode cX2_balance 85 = .ok (.getfield 9, 3) := by decide +kernel
theorem dX2_balance_88 : decode cX2_balance 88 = .ok (.iload_n 3, 1) := by decide +kernel
theorem dX2_balance_89 : decode cX2_balance 89 = .ok (.iaload, 1) := by decide +kernel
theorem dX2_balance_90 : decode cX2_balance 90 = .ok (.if_icmp .lt 27, 3) := by decide +kernel
theorem dX2_balance_93 : decode cX2_balance 93 = .ok (.aload_n 2, 1) := by decide +kernel
theorem dX2_balance_94 : decode cX2_balance 94 = .ok (.iload 5, 2) := by decide +kernel
theorem dX2_balance_96 : decode cX2_balance 96 = .ok (.dup2, 1) := by decide +kernel
theorem dX2_balance_97 : decode cX2_balance 97 = .ok (.baload, 1) := by decide +kernel
theorem dX2_balance_98 : decode cX2_balance 98 = .ok (.aload_n 2, 1) := by decide +kernel
theorem dX2_balance_99 : decode cX2_balance 99 = .ok (.iload 5, 2) := by decide +kernel
theorem dX2_balance_101 : decode cX2_balance 101 = .ok (.aload_n 0, 1) := by decide +kernel
theorem dX2_balance_102 : decode cX2_balance 102 = .ok (.getfield 9, 3) := by decide +kernel
theorem dX2_balance_105 : decode cX2_balance 105 = .ok (.iload_n 3, 1) := by decide +kernel
theorem dX2_balance_106 : decode cX2_balance 106 = .ok (.iaload, 1) := by decide +kernel
theorem dX2_balance_107 : decode cX2_balance 107 = .ok (.isub, 1) := by decide +kernel
theorem dX2_balance_108 : decode cX2_balance 108 = .ok (.baload, 1) := by decide +kernel
theorem dX2_balance_109 : decode cX2_balance 109 = .ok (.ior, 1) := by decide +kernel
theorem dX2_balance_110 : decode cX2_balance 110 = .ok (.bastore, 1) := by decide +kernel
theorem dX2_balance_111 : decode cX2_balance 111 = .ok (.iinc 5 (-1), 3) := by decide +kernel
theorem dX2_balance_114 : decode cX2_balance 114 = .ok (.goto (-32), 3) := by decide +kernel
theorem dX2_balance_117 : decode cX2_balance 117 = .ok (.iinc 4 1, 3) := by decide +kernel
theorem dX2_balance_120 : decode cX2_balance 120 = .ok (.goto (-57), 3) := by decide +kernel
theorem dX2_balance_123 : decode cX2_balance 123 = .ok (.iinc 3 1, 3) := by decide +kernel
theorem dX2_balance_126 : decode cX2_balance 126 = .ok (.goto (-72), 3) := by decide +kernel
theorem dX2_balance_129 : decode cX2_balance 129 = .ok (.iload_n 1, 1) := by decide +kernel
theorem dX2_balance_130 : decode cX2_balance 130 = .ok (.iconst 2, 1) := by decide +kernel
theorem dX2_balance_131 : decode cX2_balance 131 = .ok (.idiv, 1) := by decide +kernel
theorem dX2_balance_132 : decode cX2_balance 132 = .ok (.istore_n 3, 1) := by decide +kernel
theorem dX2_balance_133 : decode cX2_balance 133 = .ok (.aload_n 2, 1) := by decide +kernel
theorem dX2_balance_134 : decode cX2_balance 134 = .ok (.iload_n 3, 1) := by decide +kernel
theorem dX2_balance_135 : decode cX2_balance 135 = .ok (.baload, 1) := by decide +kernel
theorem dX2_balance_136 : decode cX2_balance 136 = .ok (.ifCond .ne 9, 3) := by decide +kernel
theorem dX2_balance_139 : decode cX2_balance 139 = .ok (.iinc 3 (-1), 3) := by decide +kernel
theorem dX2_balance_142 : decode cX2_balance 142 = .ok (.goto (-9), 3) := by decide +kernel
theorem dX2_balance_145 : decode cX2_balance 145 = .ok (.iload_n 1, 1) := by decide +kernel
theorem dX2_balance_146 : decode cX2_balance 146 = .ok (.iconst 2, 1) := by decide +kernel
theorem dX2_balance_147 : decode cX2_balance 147 = .ok (.iload_n 3, 1) := by decide +kernel
theorem dX2_balance_148 : decode cX2_balance 148 = .ok (.imul, 1) := by decide +kernel
theorem dX2_balance_149 : decode cX2_balance 149 = .ok (.isub, 1) := by decide +kernel
theorem dX2_balance_150 : decode cX2_balance 150 = .ok (.ireturn, 1) := by decide +kernel
set_option maxRecDepth 20000 in
theorem ggX2_yearOn_X2_tr : GoodIn wsX2_yearOn wsX2_tr := goodIn_r _ [16, 17, 26, 27, 28, 29, 30, 31, 32, 33] (by decide +kernel) (by decide +kernel)
set_option maxRecDepth 20000 in
theorem gX2_yearOn_X2_tr : GoodIn wsX2_yearOn (wsV RX2 44 RX2 yX2_tr wsX2_tr) := goodIn_app (goodIn_of _ (by decide +kernel)) ggX2_yearOn_X2_tr
set_option maxRecDepth 20000 in
theorem ggX2_yearOn_X2_set : GoodIn wsX2_yearOn wsX2_set := goodIn_r _ [21, 17, 26, 27, 28, 29, 30, 31, 32, 33] (by decide +kernel) (by decide +kernel)
set_option maxRecDepth 20000 in
theorem gX2_yearOn_X2_set : GoodIn wsX2_yearOn (wsV RX2 54 RX2 yX2_set wsX2_set) := goodIn_app (goodIn_of _ (by decide +kernel)) ggX2_yearOn_X2_set
set_option maxRecDepth 20000 in
theorem ggX2_yearOn_X2_apples : GoodIn wsX2_yearOn wsX2_apples := goodIn_r _ [25, 12, 13, 14, 15, 16, 17, 26, 27, 28, 29, 30, 31, 32, 33] (by decide +kernel) (by decide +kernel)
set_option maxRecDepth 20000 in
theorem gX2_yearOn_X2_apples : GoodIn wsX2_yearOn (wsV RX2 85 RX2 yX2_apples wsX2_apples) := goodIn_app (goodIn_of _ (by decide +kernel)) ggX2_yearOn_X2_apples
theorem dX2_yearOn_0 : decode cX2_yearOn 0 = .ok (.iconst 0, 1) := by decide +kernel
theorem dX2_yearOn_1 : decode cX2_yearOn 1 = .ok (.istore_n 1, 1) := by decide +kernel
theorem dX2_yearOn_2 : decode cX2_yearOn 2 = .ok (.aload_n 0, 1) := by decide +kernel
theorem dX2_yearOn_3 : decode cX2_yearOn 3 = .ok (.getfield 16, 3) := by decide +kernel
theorem dX2_yearOn_6 : decode cX2_yearOn 6 = .ok (.aload_n 0, 1) := by decide +kernel
theorem dX2_yearOn_7 : decode cX2_yearOn 7 = .ok (.getfield 25, 3) := by decide +kernel
theorem dX2_yearOn_10 : decode cX2_yearOn 10 = .ok (.iconst 2, 1) := by decide +kernel
theorem dX2_yearOn_11 : decode cX2_yearOn 11 = .ok (.iaload, 1) := by decide +kernel
theorem dX2_yearOn_12 : decode cX2_yearOn 12 = .ok (.bipush 10, 2) := by decide +kernel
theorem dX2_yearOn_14 : decode cX2_yearOn 14 = .ok (.irem, 1) := by decide +kernel
theorem dX2_yearOn_15 : decode cX2_yearOn 15 = .ok (.iaload, 1) := by decide +kernel
theorem dX2_yearOn_16 : decode cX2_yearOn 16 = .ok (.istore_n 2, 1) := by decide +kernel
theorem dX2_yearOn_17 : decode cX2_yearOn 17 = .ok (.iconst 0, 1) := by decide +kernel
theorem dX2_yearOn_18 : decode cX2_yearOn 18 = .ok (.istore_n 3, 1) := by decide +kernel
theorem dX2_yearOn_19 : decode cX2_yearOn 19 = .ok (.iload_n 3, 1) := by decide +kernel
theorem dX2_yearOn_20 : decode cX2_yearOn 20 = .ok (.bipush 40, 2) := by decide +kernel
theorem dX2_yearOn_22 : decode cX2_yearOn 22 = .ok (.if_icmp .ge 135, 3) := by decide +kernel
theorem dX2_yearOn_25 : decode cX2_yearOn 25 = .ok (.aload_n 0, 1) := by decide +kernel
theorem dX2_yearOn_26 : decode cX2_yearOn 26 = .ok (.iload_n 3, 1) := by decide +kernel
theorem dX2_yearOn_27 : decode cX2_yearOn 27 = .ok (.iconst 0, 1) := by decide +kernel
theorem dX2_yearOn_28 : decode cX2_yearOn 28 = .ok (.invokevirtual 44, 3) := by decide +kernel
theorem dX2_yearOn_31 : decode cX2_yearOn 31 = .ok (.ifCond .ne 6, 3) := by decide +kernel
theorem dX2_yearOn_34 : decode cX2_yearOn 34 = .ok (.goto 117, 3) := by decide +kernel
theorem dX2_yearOn_37 : decode cX2_yearOn 37 = .ok (.iconst 0, 1) := by decide +kernel
theorem dX2_yearOn_38 : decode cX2_yearOn 38 = .ok (.aload_n 0, 1) := by decide +kernel
theorem dX2_yearOn_39 : decode cX2_yearOn 39 = .ok (.iload_n 3, 1) := by decide +kernel
theorem dX2_yearOn_40 : decode cX2_yearOn 40 = .ok (.iconst 1, 1) := by decide +kernel
theorem dX2_yearOn_41 : decode cX2_yearOn 41 = .ok (.invokevirtual 44, 3) := by decide +kernel
theorem dX2_yearOn_44 : decode cX2_yearOn 44 = .ok (.iconst 0, 1) := by decide +kernel
theorem dX2_yearOn_45 : decode cX2_yearOn 45 = .ok (.iload_n 2, 1) := by decide +kernel
theorem dX2_yearOn_46 : decode cX2_yearOn 46 = .ok (.aload_n 0, 1) := by decide +kernel
theorem dX2_yearOn_47 : decode cX2_yearOn 47 = .ok (.getfield 13, 3) := by decide +kernel
theorem dX2_yearOn_50 : decode cX2_yearOn 50 = .ok (.aload_n 0, 1) := by decide +kernel
theorem dX2_yearOn_51 : decode cX2_yearOn 51 = .ok (.iload_n 3, 1) := by decide +kernel
theorem dX2_yearOn_52 : decode cX2_yearOn 52 = .ok (.iconst 3, 1) := by decide +kernel
theorem dX2_yearOn_53 : decode cX2_yearOn 53 = .ok (.invokevirtual 44, 3) := by decide +kernel
theorem dX2_yearOn_56 : decode cX2_yearOn 56 = .ok (.iaload, 1) := by decide +kernel
theorem dX2_yearOn_57 : decode cX2_yearOn 57 = .ok (.isub, 1) := by decide +kernel
theorem dX2_yearOn_58 : decode cX2_yearOn 58 = .ok (.invokestatic 58, 3) := by decide +kernel
theorem dX2_yearOn_61 : decode cX2_yearOn 61 = .ok (.isub, 1) := by decide +kernel
theorem dX2_yearOn_62 : decode cX2_yearOn 62 = .ok (.invokestatic 58, 3) := by decide +kernel
theorem dX2_yearOn_65 : decode cX2_yearOn 65 = .ok (.istore 4, 2) := by decide +kernel
theorem dX2_yearOn_67 : decode cX2_yearOn 67 = .ok (.aload_n 0, 1) := by decide +kernel
theorem dX2_yearOn_68 : decode cX2_yearOn 68 = .ok (.iload_n 3, 1) := by decide +kernel
theorem dX2_yearOn_69 : decode cX2_yearOn 69 = .ok (.iconst 1, 1) := by decide +kernel
theorem dX2_yearOn_70 : decode cX2_yearOn 70 = .ok (.iload 4, 2) := by decide +kernel
theorem dX2_yearOn_72 : decode cX2_yearOn 72 = .ok (.invokevirtual 54, 3) := by decide +kernel
theorem dX2_yearOn_75 : decode cX2_yearOn 75 = .ok (.aload_n 0, 1) := by decide +kernel
theorem dX2_yearOn_76 : decode cX2_yearOn 76 = .ok (.iload_n 3, 1) := by decide +kernel
theorem dX2_yearOn_77 : decode cX2_yearOn 77 = .ok (.invokevirtual 85, 3) := by decide +kernel
theorem dX2_yearOn_80 : decode cX2_yearOn 80 = .ok (.istore 5, 2) := by decide +kernel
theorem dX2_yearOn_82 : decode cX2_yearOn 82 = .ok (.aload_n 0, 1) := by decide +kernel
theorem dX2_yearOn_83 : decode cX2_yearOn 83 = .ok (.getfield 22, 3) := by decide +kernel
theorem dX2_yearOn_86 : decode cX2_yearOn 86 = .ok (.aload_n 0, 1) := by decide +kernel
theorem dX2_yearOn_87 : decode cX2_yearOn 87 = .ok (.iload_n 3, 1) := by decide +kernel
theorem dX2_yearOn_88 : decode cX2_yearOn 88 = .ok (.iconst 3, 1) := by decide +kernel
theorem dX2_yearOn_89 : decode cX2_yearOn 89 = .ok (.invokevirtual 44, 3) := by decide +kernel
theorem dX2_yearOn_92 : decode cX2_yearOn 92 = .ok (.dup2, 1) := by decide +kernel
theorem dX2_yearOn_93 : decode cX2_yearOn 93 = .ok (.iaload, 1) := by decide +kernel
theorem dX2_yearOn_94 : decode cX2_yearOn 94 = .ok (.iload 5, 2) := by decide +kernel
theorem dX2_yearOn_96 : decode cX2_yearOn 96 = .ok (.iadd, 1) := by decide +kernel
theorem dX2_yearOn_97 : decode cX2_yearOn 97 = .ok (.iastore, 1) := by decide +kernel
theorem dX2_yearOn_98 : decode cX2_yearOn 98 = .ok (.iload_n 1, 1) := by decide +kernel
theorem dX2_yearOn_99 : decode cX2_yearOn 99 = .ok (.iload 5, 2) := by decide +kernel
theorem dX2_yearOn_101 : decode cX2_yearOn 101 = .ok (.iadd, 1) := by decide +kernel
theorem dX2_yearOn_102 : decode cX2_yearOn 102 = .ok (.istore_n 1, 1) := by decide +kernel
theorem dX2_yearOn_103 : decode cX2_yearOn 103 = .ok (.aload_n 0, 1) := by decide +kernel
theorem dX2_yearOn_104 : decode cX2_yearOn 104 = .ok (.iload_n 3, 1) := by decide +kernel
theorem dX2_yearOn_105 : decode cX2_yearOn 105 = .ok (.iconst 4, 1) := by decide +kernel
theorem dX2_yearOn_106 : decode cX2_yearOn 106 = .ok (.iload 5, 2) := by decide +kernel
theorem dX2_yearOn_108 : decode cX2_yearOn 108 = .ok (.bipush 20, 2) := by decide +kernel
theorem dX2_yearOn_110 : decode cX2_yearOn 110 = .ok (.if_icmp .lt 7, 3) := by decide +kernel
theorem dX2_yearOn_113 : decode cX2_yearOn 113 = .ok (.iconst 1, 1) := by decide +kernel
theorem dX2_yearOn_114 : decode cX2_yearOn 114 = .ok (.goto 4, 3) := by decide +kernel
theorem dX2_yearOn_117 : decode cX2_yearOn 117 = .ok (.iconst 0, 1) := by decide +kernel
theorem dX2_yearOn_118 : decode cX2_yearOn 118 = .ok (.invokevirtual 54, 3) := by decide +kernel
theorem dX2_yearOn_121 : decode cX2_yearOn 121 = .ok (.aload_n 0, 1) := by decide +kernel
theorem dX2_yearOn_122 : decode cX2_yearOn 122 = .ok (.iload_n 3, 1) := by decide +kernel
theorem dX2_yearOn_123 : decode cX2_yearOn 123 = .ok (.iconst 1, 1) := by decide +kernel
theorem dX2_yearOn_124 : decode cX2_yearOn 124 = .ok (.bipush 9, 2) := by decide +kernel
theorem dX2_yearOn_126 : decode cX2_yearOn 126 = .ok (.iload 4, 2) := by decide +kernel
theorem dX2_yearOn_128 : decode cX2_yearOn 128 = .ok (.aload_n 0, 1) := by decide +kernel
theorem dX2_yearOn_129 : decode cX2_yearOn 129 = .ok (.iload_n 3, 1) := by decide +kernel
theorem dX2_yearOn_130 : decode cX2_yearOn 130 = .ok (.iconst 2, 1) := by decide +kernel
theorem dX2_yearOn_131 : decode cX2_yearOn 131 = .ok (.invokevirtual 44, 3) := by decide +kernel
theorem dX2_yearOn_134 : decode cX2_yearOn 134 = .ok (.bipush 7, 2) := by decide +kernel
theorem dX2_yearOn_136 : decode cX2_yearOn 136 = .ok (.if_icmp .lt 7, 3) := by decide +kernel
theorem dX2_yearOn_139 : decode cX2_yearOn 139 = .ok (.iconst 2, 1) := by decide +kernel
theorem dX2_yearOn_140 : decode cX2_yearOn 140 = .ok (.goto 4, 3) := by decide +kernel
theorem dX2_yearOn_143 : decode cX2_yearOn 143 = .ok (.iconst 1, 1) := by decide +kernel
theorem dX2_yearOn_144 : decode cX2_yearOn 144 = .ok (.iadd, 1) := by decide +kernel
theorem dX2_yearOn_145 : decode cX2_yearOn 145 = .ok (.invokestatic 103, 3) := by decide +kernel
theorem dX2_yearOn_148 : decode cX2_yearOn 148 = .ok (.invokevirtual 54, 3) := by decide +kernel
theorem dX2_yearOn_151 : decode cX2_yearOn 151 = .ok (.iinc 3 1, 3) := by decide +kernel
theorem dX2_yearOn_154 : decode cX2_yearOn 154 = .ok (.goto (-135), 3) := by decide +kernel
theorem dX2_yearOn_157 : decode cX2_yearOn 157 = .ok (.aload_n 0, 1) := by decide +kernel
theorem dX2_yearOn_158 : decode cX2_yearOn 158 = .ok (.getfield 25, 3) := by decide +kernel
theorem dX2_yearOn_161 : decode cX2_yearOn 161 = .ok (.iconst 0, 1) := by decide +kernel
theorem dX2_yearOn_162 : decode cX2_yearOn 162 = .ok (.bipush 20, 2) := by decide +kernel
theorem dX2_yearOn_164 : decode cX2_yearOn 164 = .ok (.iastore, 1) := by decide +kernel
theorem dX2_yearOn_165 : decode cX2_yearOn 165 = .ok (.aload_n 0, 1) := by decide +kernel
theorem dX2_yearOn_166 : decode cX2_yearOn 166 = .ok (.getfield 25, 3) := by decide +kernel
theorem dX2_yearOn_169 : decode cX2_yearOn 169 = .ok (.iconst 1, 1) := by decide +kernel
theorem dX2_yearOn_170 : decode cX2_yearOn 170 = .ok (.bipush 20, 2) := by decide +kernel
theorem dX2_yearOn_172 : decode cX2_yearOn 172 = .ok (.iastore, 1) := by decide +kernel
theorem dX2_yearOn_173 : decode cX2_yearOn 173 = .ok (.aload_n 0, 1) := by decide +kernel
theorem dX2_yearOn_174 : decode cX2_yearOn 174 = .ok (.getfield 25, 3) := by decide +kernel
theorem dX2_yearOn_177 : decode cX2_yearOn 177 = .ok (.iconst 2, 1) := by decide +kernel
theorem dX2_yearOn_178 : decode cX2_yearOn 178 = .ok (.dup2, 1) := by decide +kernel
theorem dX2_yearOn_179 : decode cX2_yearOn 179 = .ok (.iaload, 1) := by decide +kernel
theorem dX2_yearOn_180 : decode cX2_yearOn 180 = .ok (.iconst 1, 1) := by decide +kernel
theorem dX2_yearOn_181 : decode cX2_yearOn 181 = .ok (.iadd, 1) := by decide +kernel
theorem dX2_yearOn_182 : decode cX2_yearOn 182 = .ok (.iastore, 1) := by decide +kernel
theorem dX2_yearOn_183 : decode cX2_yearOn 183 = .ok (.iload_n 1, 1) := by decide +kernel
theorem dX2_yearOn_184 : decode cX2_yearOn 184 = .ok (.ireturn, 1) := by decide +kernel
set_option maxRecDepth 20000 in
theorem ggX2_yearsOn_X2_yearOn : GoodIn wsX2_yearsOn wsX2_yearOn := goodIn_r _ [5, 6, 7, 8, 9, 10, 11, 12, 13, 14, 15, 16, 17, 18, 19, 4, 20, 21, 22, 23, 24, 25, 26, 27, 28, 29, 30, 31, 32, 33, 34, 35, 36, 37] (by decide +kernel) (by decide +kernel)
set_option maxRecDepth 20000 in
theorem gX2_yearsOn_X2_yearOn : GoodIn wsX2_yearsOn (wsV RX2 106 RX2 yX2_yearOn wsX2_yearOn) := goodIn_app (goodIn_of _ (by decide +kernel)) ggX2_yearsOn_X2_yearOn
theorem dX2_yearsOn_0 : decode cX2_yearsOn 0 = .ok (.iconst 0, 1) := by decide +kernel
theorem dX2_yearsOn_1 : decode cX2_yearsOn 1 = .ok (.istore_n 2, 1) := by decide +kernel
theorem dX2_yearsOn_2 : decode cX2_yearsOn 2 = .ok (.iconst 0, 1) := by decide +kernel
theorem dX2_yearsOn_3 : decode cX2_yearsOn 3 = .ok (.istore_n 3, 1) := by decide +kernel
theorem dX2_yearsOn_4 : decode cX2_yearsOn 4 = .ok (.iload_n 3, 1) := by decide +kernel
theorem dX2_yearsOn_5 : decode cX2_yearsOn 5 = .ok (.iload_n 1, 1) := by decide +kernel
theorem dX2_yearsOn_6 : decode cX2_yearsOn 6 = .ok (.if_icmp .ge 16, 3) := by decide +kernel
theorem dX2_yearsOn_9 : decode cX2_yearsOn 9 = .ok (.iload_n 2, 1) := by decide +kernel
theorem dX2_yearsOn_10 : decode cX2_yearsOn 10 = .ok (.aload_n 0, 1) := by decide +kernel
theorem dX2_yearsOn_11 : decode cX2_yearsOn 11 = .ok (.invokevirtual 106, 3) := by decide +kernel
theorem dX2_yearsOn_14 : decode cX2_yearsOn 14 = .ok (.iadd, 1) := by decide +kernel
theorem dX2_yearsOn_15 : decode cX2_yearsOn 15 = .ok (.istore_n 2, 1) := by decide +kernel
theorem dX2_yearsOn_16 : decode cX2_yearsOn 16 = .ok (.iinc 3 1, 3) := by decide +kernel
theorem dX2_yearsOn_19 : decode cX2_yearsOn 19 = .ok (.goto (-15), 3) := by decide +kernel
theorem dX2_yearsOn_22 : decode cX2_yearsOn 22 = .ok (.iload_n 2, 1) := by decide +kernel
theorem dX2_yearsOn_23 : decode cX2_yearsOn 23 = .ok (.ireturn, 1) := by decide +kernel
set_option maxRecDepth 20000 in
theorem ggX2_pass_X2_isIn : GoodIn wsX2_pass wsX2_isIn := goodIn_r _ [5] (by decide +kernel) (by decide +kernel)
set_option maxRecDepth 20000 in
theorem gX2_pass_X2_isIn : GoodIn wsX2_pass (va_wsS RX2 32 yX2_isIn wsX2_isIn) := goodIn_app (goodIn_of _ (by decide +kernel)) ggX2_pass_X2_isIn
set_option maxRecDepth 20000 in
theorem ggX2_pass_X2_yearsOn : GoodIn wsX2_pass wsX2_yearsOn := goodIn_r _ [9, 10, 11, 12, 4, 13, 14, 15, 16, 17, 18, 19, 20, 21, 22, 23, 24, 25, 26, 27, 28, 29, 30, 31, 32, 33, 34, 35, 36, 37, 42, 43, 44, 45, 46, 47, 48, 49] (by decide +kernel) (by decide +kernel)
set_option maxRecDepth 20000 in
theorem gX2_pass_X2_yearsOn : GoodIn wsX2_pass (wsV RX2 110 RX2 yX2_yearsOn wsX2_yearsOn) := goodIn_app (goodIn_of _ (by decide +kernel)) ggX2_pass_X2_yearsOn
set_option maxRecDepth 20000 in
theorem ggX2_pass_X2_fail : GoodIn wsX2_pass wsX2_fail := goodIn_r _ [41, 1, 42, 43, 44, 45, 46, 47, 48, 49] (by decide +kernel) (by decide +kernel)
set_option maxRecDepth 20000 in
theorem gX2_pass_X2_fail : GoodIn wsX2_pass (wsV RX2 40 RX2 yX2_fail wsX2_fail) := goodIn_app (goodIn_of _ (by decide +kernel)) ggX2_pass_X2_fail
theorem dX2_pass_0 : decode cX2_pass 0 = .ok (.aload_n 0, 1) := by decide +kernel
theorem dX2_pass_1 : decode cX2_pass 1 = .ok (.iconst 0, 1) := by decide +kernel
theorem dX2_pass_2 : decode cX2_pass 2 = .ok (.putfield 28, 3) := by decide +kernel
theorem dX2_pass_5 : decode cX2_pass 5 = .ok (.iload_n 1, 1) := by decide +kernel
theorem dX2_pass_6 : decode cX2_pass 6 = .ok (.iconst 1, 1) := by decide +kernel
theorem dX2_pass_7 : decode cX2_pass 7 = .ok (.bipush 30, 2) := by decide +kernel
theorem dX2_pass_9 : decode cX2_pass 9 = .ok (.invokestatic 32, 3) := by decide +kernel
theorem dX2_pass_12 : decode cX2_pass 12 = .ok (.ifCond .eq 11, 3) := by decide +kernel
theorem dX2_pass_15 : decode cX2_pass 15 = .ok (.aload_n 0, 1) := by decide +kernel
theorem dX2_pass_16 : decode cX2_pass 16 = .ok (.iload_n 1, 1) := by decide +kernel
theorem dX2_pass_17 : decode cX2_pass 17 = .ok (.invokevirtual 110, 3) := by decide +kernel
theorem dX2_pass_20 : decode cX2_pass 20 = .ok (.goto 8, 3) := by decide +kernel
theorem dX2_pass_23 : decode cX2_pass 23 = .ok (.aload_n 0, 1) := by decide +kernel
theorem dX2_pass_24 : decode cX2_pass 24 = .ok (.iconst 1, 1) := by decide +kernel
theorem dX2_pass_25 : decode cX2_pass 25 = .ok (.invokevirtual 40, 3) := by decide +kernel
theorem dX2_pass_28 : decode cX2_pass 28 = .ok (.ireturn, 1) := by decide +kernel
theorem dX2_kept_0 : decode cX2_kept 0 = .ok (.iconst 3, 1) := by decide +kernel
theorem dX2_kept_1 : decode cX2_kept 1 = .ok (.anewarray 113, 3) := by decide +kernel
theorem dX2_kept_4 : decode cX2_kept 4 = .ok (.dup, 1) := by decide +kernel
theorem dX2_kept_5 : decode cX2_kept 5 = .ok (.iconst 0, 1) := by decide +kernel
theorem dX2_kept_6 : decode cX2_kept 6 = .ok (.aload_n 0, 1) := by decide +kernel
theorem dX2_kept_7 : decode cX2_kept 7 = .ok (.getfield 19, 3) := by decide +kernel
theorem dX2_kept_10 : decode cX2_kept 10 = .ok (.invokevirtual 114, 3) := by decide +kernel
theorem dX2_kept_13 : decode cX2_kept 13 = .ok (.checkcast 113, 3) := by decide +kernel
theorem dX2_kept_16 : decode cX2_kept 16 = .ok (.aastore, 1) := by decide +kernel
theorem dX2_kept_17 : decode cX2_kept 17 = .ok (.dup, 1) := by decide +kernel
theorem dX2_kept_18 : decode cX2_kept 18 = .ok (.iconst 1, 1) := by decide +kernel
theorem dX2_kept_19 : decode cX2_kept 19 = .ok (.aload_n 0, 1) := by decide +kernel
theorem dX2_kept_20 : decode cX2_kept 20 = .ok (.getfield 22, 3) := by decide +kernel
theorem dX2_kept_23 : decode cX2_kept 23 = .ok (.invokevirtual 114, 3) := by decide +kernel
theorem dX2_kept_26 : decode cX2_kept 26 = .ok (.checkcast 113, 3) := by decide +kernel
theorem dX2_kept_29 : decode cX2_kept 29 = .ok (.aastore, 1) := by decide +kernel
theorem dX2_kept_30 : decode cX2_kept 30 = .ok (.dup, 1) := by decide +kernel
theorem dX2_kept_31 : decode cX2_kept 31 = .ok (.iconst 2, 1) := by decide +kernel
theorem dX2_kept_32 : decode cX2_kept 32 = .ok (.aload_n 0, 1) := by decide +kernel
theorem dX2_kept_33 : decode cX2_kept 33 = .ok (.getfield 25, 3) := by decide +kernel
theorem dX2_kept_36 : decode cX2_kept 36 = .ok (.invokevirtual 114, 3) := by decide +kernel
theorem dX2_kept_39 : decode cX2_kept 39 = .ok (.checkcast 113, 3) := by decide +kernel
theorem dX2_kept_42 : decode cX2_kept 42 = .ok (.aastore, 1) := by decide +kernel
theorem dX2_kept_43 : decode cX2_kept 43 = .ok (.areturn, 1) := by decide +kernel
theorem dX2_bringBack_0 : decode cX2_bringBack 0 = .ok (.iconst 3, 1) := by decide +kernel
theorem dX2_bringBack_1 : decode cX2_bringBack 1 = .ok (.anewarray 113, 3) := by decide +kernel
theorem dX2_bringBack_4 : decode cX2_bringBack 4 = .ok (.dup, 1) := by decide +kernel
theorem dX2_bringBack_5 : decode cX2_bringBack 5 = .ok (.iconst 0, 1) := by decide +kernel
theorem dX2_bringBack_6 : decode cX2_bringBack 6 = .ok (.aload_n 0, 1) := by decide +kernel
theorem dX2_bringBack_7 : decode cX2_bringBack 7 = .ok (.getfield 19, 3) := by decide +kernel
theorem dX2_bringBack_10 : decode cX2_bringBack 10 = .ok (.aastore, 1) := by decide +kernel
theorem dX2_bringBack_11 : decode cX2_bringBack 11 = .ok (.dup, 1) := by decide +kernel
theorem dX2_bringBack_12 : decode cX2_bringBack 12 = .ok (.iconst 1, 1) := by decide +kernel
theorem dX2_bringBack_13 : decode cX2_bringBack 13 = .ok (.aload_n 0, 1) := by decide +kernel
theorem dX2_bringBack_14 : decode cX2_bringBack 14 = .ok (.getfield 22, 3) := by decide +kernel
theorem dX2_bringBack_17 : decode cX2_bringBack 17 = .ok (.aastore, 1) := by decide +kernel
theorem dX2_bringBack_18 : decode cX2_bringBack 18 = .ok (.dup, 1) := by decide +kernel
theorem dX2_bringBack_19 : decode cX2_bringBack 19 = .ok (.iconst 2, 1) := by decide +kernel
theorem dX2_bringBack_20 : decode cX2_bringBack 20 = .ok (.aload_n 0, 1) := by decide +kernel
theorem dX2_bringBack_21 : decode cX2_bringBack 21 = .ok (.getfield 25, 3) := by decide +kernel
theorem dX2_bringBack_24 : decode cX2_bringBack 24 = .ok (.aastore, 1) := by decide +kernel
theorem dX2_bringBack_25 : decode cX2_bringBack 25 = .ok (.astore_n 2, 1) := by decide +kernel
theorem dX2_bringBack_26 : decode cX2_bringBack 26 = .ok (.iconst 0, 1) := by decide +kernel
theorem dX2_bringBack_27 : decode cX2_bringBack 27 = .ok (.istore_n 3, 1) := by decide +kernel
theorem dX2_bringBack_28 : decode cX2_bringBack 28 = .ok (.iload_n 3, 1) := by decide +kernel
theorem dX2_bringBack_29 : decode cX2_bringBack 29 = .ok (.aload_n 2, 1) := by decide +kernel
theorem dX2_bringBack_30 : decode cX2_bringBack 30 = .ok (.arraylength, 1) := by decide +kernel
theorem dX2_bringBack_31 : decode cX2_bringBack 31 = .ok (.if_icmp .ge 24, 3) := by decide +kernel
theorem dX2_bringBack_34 : decode cX2_bringBack 34 = .ok (.aload_n 1, 1) := by decide +kernel
theorem dX2_bringBack_35 : decode cX2_bringBack 35 = .ok (.iload_n 3, 1) := by decide +kernel
theorem dX2_bringBack_36 : decode cX2_bringBack 36 = .ok (.aaload, 1) := by decide +kernel
theorem dX2_bringBack_37 : decode cX2_bringBack 37 = .ok (.iconst 0, 1) := by decide +kernel
theorem dX2_bringBack_38 : decode cX2_bringBack 38 = .ok (.aload_n 2, 1) := by decide +kernel
theorem dX2_bringBack_39 : decode cX2_bringBack 39 = .ok (.iload_n 3, 1) := by decide +kernel
theorem dX2_bringBack_40 : decode cX2_bringBack 40 = .ok (.aaload, 1) := by decide +kernel
theorem dX2_bringBack_41 : decode cX2_bringBack 41 = .ok (.iconst 0, 1) := by decide +kernel
theorem dX2_bringBack_42 : decode cX2_bringBack 42 = .ok (.aload_n 2, 1) := by decide +kernel
theorem dX2_bringBack_43 : decode cX2_bringBack 43 = .ok (.iload_n 3, 1) := by decide +kernel
theorem dX2_bringBack_44 : decode cX2_bringBack 44 = .ok (.aaload, 1) := by decide +kernel
theorem dX2_bringBack_45 : decode cX2_bringBack 45 = .ok (.arraylength, 1) := by decide +kernel
theorem dX2_bringBack_46 : decode cX2_bringBack 46 = .ok (.invokestatic 48, 3) := by decide +kernel
theorem dX2_bringBack_49 : decode cX2_bringBack 49 = .ok (.iinc 3 1, 3) := by decide +kernel
theorem dX2_bringBack_52 : decode cX2_bringBack 52 = .ok (.goto (-24), 3) := by decide +kernel
theorem dX2_bringBack_55 : decode cX2_bringBack 55 = .ok (.return_, 1) := by decide +kernel
set_option maxRecDepth 20000 in
theorem ggX2_foresee_X2_isIn : GoodIn wsX2_foresee wsX2_isIn := goodIn_r _ [5] (by decide +kernel) (by decide +kernel)
set_option maxRecDepth 20000 in
theorem gX2_foresee_X2_isIn : GoodIn wsX2_foresee (va_wsS RX2 32 yX2_isIn wsX2_isIn) := goodIn_app (goodIn_of _ (by decide +kernel)) ggX2_foresee_X2_isIn
set_option maxRecDepth 20000 in
theorem ggX2_foresee_X2_fail : GoodIn wsX2_foresee wsX2_fail := goodIn_r _ [9, 1, 64, 65, 66, 67, 68, 69, 70, 71] (by decide +kernel) (by decide +kernel)
set_option maxRecDepth 20000 in
theorem gX2_foresee_X2_fail : GoodIn wsX2_foresee (wsV RX2 40 RX2 yX2_fail wsX2_fail) := goodIn_app (goodIn_of _ (by decide +kernel)) ggX2_foresee_X2_fail
set_option maxRecDepth 20000 in
theorem ggX2_foresee_X2_kept : GoodIn wsX2_foresee wsX2_kept := goodIn_r _ [13, 14, 15, 16, 17, 18, 19, 20, 21, 22, 64, 65, 66, 67, 68, 69, 70, 71] (by decide +kernel) (by decide +kernel)
set_option maxRecDepth 20000 in
theorem gX2_foresee_X2_kept : GoodIn wsX2_foresee (wsV RX2 118 RX2 yX2_kept wsX2_kept) := goodIn_app (goodIn_of _ (by decide +kernel)) ggX2_foresee_X2_kept
set_option maxRecDepth 20000 in
theorem ggX2_foresee_X2_yearsOn : GoodIn wsX2_foresee wsX2_yearsOn := goodIn_r _ [26, 27, 28, 29, 4, 30, 31, 22, 32, 33, 34, 35, 36, 21, 37, 38, 39, 40, 41, 42, 43, 15, 44, 45, 46, 47, 48, 49, 50, 51, 64, 65, 66, 67, 68, 69, 70, 71] (by decide +kernel) (by decide +kernel)
set_option maxRecDepth 20000 in
theorem gX2_foresee_X2_yearsOn : GoodIn wsX2_foresee (wsV RX2 110 RX2 yX2_yearsOn wsX2_yearsOn) := goodIn_app (goodIn_of _ (by decide +kernel)) ggX2_foresee_X2_yearsOn
set_option maxRecDepth 20000 in
theorem ggX2_foresee_X2_all : GoodIn wsX2_foresee wsX2_all := goodIn_r _ [55, 40, 41, 42, 4, 43, 15, 64, 65, 66, 67, 68, 69, 70, 71] (by decide +kernel) (by decide +kernel)
set_option maxRecDepth 20000 in
theorem gX2_foresee_X2_all : GoodIn wsX2_foresee (wsV RX2 94 RX2 yX2_all wsX2_all) := goodIn_app (goodIn_of _ (by decide +kernel)) ggX2_foresee_X2_all
set_option maxRecDepth 20000 in
theorem ggX2_foresee_X2_bringBack : GoodIn wsX2_foresee wsX2_bringBack := goodIn_r _ [59, 14, 15, 21, 22, 60, 61, 62, 63, 64, 65, 66, 67, 68, 69, 70, 71] (by decide +kernel) (by decide +kernel)
set_option maxRecDepth 20000 in
theorem gX2_foresee_X2_bringBack : GoodIn wsX2_foresee (wsV RX2 122 RX2 yX2_bringBack wsX2_bringBack) := goodIn_app (goodIn_of _ (by decide +kernel)) ggX2_foresee_X2_bringBack
theorem dX2_foresee_0 : decode cX2_foresee 0 = .ok (.aload_n 0, 1) := by decide +kernel
theorem dX2_foresee_1 : decode cX2_foresee 1 = .ok (.iconst 0, 1) := by decide +kernel
theorem dX2_foresee_2 : decode cX2_foresee 2 = .ok (.putfield 28, 3) := by decide +kernel
theorem dX2_foresee_5 : decode cX2_foresee 5 = .ok (.iload_n 1, 1) := by decide +kernel
theorem dX2_foresee_6 : decode cX2_foresee 6 = .ok (.iconst 1, 1) := by decide +kernel
theorem dX2_foresee_7 : decode cX2_foresee 7 = .ok (.bipush 30, 2) := by decide +kernel
theorem dX2_foresee_9 : decode cX2_foresee 9 = .ok (.invokestatic 32, 3) := by decide +kernel
theorem dX2_foresee_12 : decode cX2_foresee 12 = .ok (.ifCond .ne 9, 3) := by decide +kernel
theorem dX2_foresee_15 : decode cX2_foresee 15 = .ok (.aload_n 0, 1) := by decide +kernel
theorem dX2_foresee_16 : decode cX2_foresee 16 = .ok (.iconst 1, 1) := by decide +kernel
theorem dX2_foresee_17 : decode cX2_foresee 17 = .ok (.invokevirtual 40, 3) := by decide +kernel
theorem dX2_foresee_20 : decode cX2_foresee 20 = .ok (.ireturn, 1) := by decide +kernel
theorem dX2_foresee_21 : decode cX2_foresee 21 = .ok (.iload_n 2, 1) := by decide +kernel
theorem dX2_foresee_22 : decode cX2_foresee 22 = .ok (.iconst 0, 1) := by decide +kernel
theorem dX2_foresee_23 : decode cX2_foresee 23 = .ok (.iconst 2, 1) := by decide +kernel
theorem dX2_foresee_24 : decode cX2_foresee 24 = .ok (.invokestatic 32, 3) := by decide +kernel
theorem dX2_foresee_27 : decode cX2_foresee 27 = .ok (.ifCond .ne 9, 3) := by decide +kernel
theorem dX2_foresee_30 : decode cX2_foresee 30 = .ok (.aload_n 0, 1) := by decide +kernel
theorem dX2_foresee_31 : decode cX2_foresee 31 = .ok (.iconst 2, 1) := by decide +kernel
theorem dX2_foresee_32 : decode cX2_foresee 32 = .ok (.invokevirtual 40, 3) := by decide +kernel
theorem dX2_foresee_35 : decode cX2_foresee 35 = .ok (.ireturn, 1) := by decide +kernel
theorem dX2_foresee_36 : decode cX2_foresee 36 = .ok (.aload_n 0, 1) := by decide +kernel
theorem dX2_foresee_37 : decode cX2_foresee 37 = .ok (.invokevirtual 118, 3) := by decide +kernel
theorem dX2_foresee_40 : decode cX2_foresee 40 = .ok (.astore_n 3, 1) := by decide +kernel
theorem dX2_foresee_41 : decode cX2_foresee 41 = .ok (.aload_n 0, 1) := by decide +kernel
theorem dX2_foresee_42 : decode cX2_foresee 42 = .ok (.iload_n 1, 1) := by decide +kernel
theorem dX2_foresee_43 : decode cX2_foresee 43 = .ok (.invokevirtual 110, 3) := by decide +kernel
theorem dX2_foresee_46 : decode cX2_foresee 46 = .ok (.istore 4, 2) := by decide +kernel
theorem dX2_foresee_48 : decode cX2_foresee 48 = .ok (.iload_n 2, 1) := by decide +kernel
theorem dX2_foresee_49 : decode cX2_foresee 49 = .ok (.ifCond .ne 8, 3) := by decide +kernel
theorem dX2_foresee_52 : decode cX2_foresee 52 = .ok (.iload 4, 2) := by decide +kernel
theorem dX2_foresee_54 : decode cX2_foresee 54 = .ok (.goto 17, 3) := by decide +kernel
theorem dX2_foresee_57 : decode cX2_foresee 57 = .ok (.aload_n 0, 1) := by decide +kernel
theorem dX2_foresee_58 : decode cX2_foresee 58 = .ok (.iload_n 2, 1) := by decide +kernel
theorem dX2_foresee_59 : decode cX2_foresee 59 = .ok (.iconst 1, 1) := by decide +kernel
theorem dX2_foresee_60 : decode cX2_foresee 60 = .ok (.if_icmp .ne 7, 3) := by decide +kernel
theorem dX2_foresee_63 : decode cX2_foresee 63 = .ok (.iconst 1, 1) := by decide +kernel
theorem dX2_foresee_64 : decode cX2_foresee 64 = .ok (.goto 4, 3) := by decide +kernel
theorem dX2_foresee_67 : decode cX2_foresee 67 = .ok (.iconst 4, 1) := by decide +kernel
theorem dX2_foresee_68 : decode cX2_foresee 68 = .ok (.invokevirtual 94, 3) := by decide +kernel
theorem dX2_foresee_71 : decode cX2_foresee 71 = .ok (.istore 5, 2) := by decide +kernel
theorem dX2_foresee_73 : decode cX2_foresee 73 = .ok (.aload_n 0, 1) := by decide +kernel
theorem dX2_foresee_74 : decode cX2_foresee 74 = .ok (.aload_n 3, 1) := by decide +kernel
theorem dX2_foresee_75 : decode cX2_foresee 75 = .ok (.invokevirtual 122, 3) := by decide +kernel
theorem dX2_foresee_78 : decode cX2_foresee 78 = .ok (.iload 5, 2) := by decide +kernel
theorem dX2_foresee_80 : decode cX2_foresee 80 = .ok (.ireturn, 1) := by decide +kernel
set_option maxRecDepth 20000 in
theorem ggX2_advise_X2_isIn : GoodIn wsX2_advise wsX2_isIn := goodIn_r _ [5] (by decide +kernel) (by decide +kernel)
set_option maxRecDepth 20000 in
theorem gX2_advise_X2_isIn : GoodIn wsX2_advise (va_wsS RX2 32 yX2_isIn wsX2_isIn) := goodIn_app (goodIn_of _ (by decide +kernel)) ggX2_advise_X2_isIn
set_option maxRecDepth 20000 in
theorem ggX2_advise_X2_fail : GoodIn wsX2_advise wsX2_fail := goodIn_r _ [9, 1, 78, 79, 80, 81, 82, 83, 84, 85] (by decide +kernel) (by decide +kernel)
set_option maxRecDepth 20000 in
theorem gX2_advise_X2_fail : GoodIn wsX2_advise (wsV RX2 40 RX2 yX2_fail wsX2_fail) := goodIn_app (goodIn_of _ (by decide +kernel)) ggX2_advise_X2_fail
set_option maxRecDepth 20000 in
theorem ggX2_advise_X2_kept : GoodIn wsX2_advise wsX2_kept := goodIn_r _ [13, 14, 15, 16, 17, 18, 19, 20, 21, 22, 78, 79, 80, 81, 82, 83, 84, 85] (by decide +kernel) (by decide +kernel)
set_option maxRecDepth 20000 in
theorem gX2_advise_X2_kept : GoodIn wsX2_advise (wsV RX2 118 RX2 yX2_kept wsX2_kept) := goodIn_app (goodIn_of _ (by decide +kernel)) ggX2_advise_X2_kept
set_option maxRecDepth 20000 in
theorem ggX2_advise_X2_yearsOn : GoodIn wsX2_advise wsX2_yearsOn := goodIn_r _ [26, 27, 28, 29, 4, 30, 31, 22, 32, 33, 34, 35, 36, 21, 37, 38, 39, 40, 41, 42, 43, 15, 44, 45, 46, 47, 48, 49, 50, 51, 78, 79, 80, 81, 82, 83, 84, 85] (by decide +kernel) (by decide +kernel)
set_option maxRecDepth 20000 in
theorem gX2_advise_X2_yearsOn : GoodIn wsX2_advise (wsV RX2 110 RX2 yX2_yearsOn wsX2_yearsOn) := goodIn_app (goodIn_of _ (by decide +kernel)) ggX2_advise_X2_yearsOn
set_option maxRecDepth 20000 in
theorem ggX2_advise_X2_bringBack : GoodIn wsX2_advise wsX2_bringBack := goodIn_r _ [55, 14, 15, 21, 22, 56, 57, 58, 59, 78, 79, 80, 81, 82, 83, 84, 85] (by decide +kernel) (by decide +kernel)
set_option maxRecDepth 20000 in
theorem gX2_advise_X2_bringBack : GoodIn wsX2_advise (wsV RX2 122 RX2 yX2_bringBack wsX2_bringBack) := goodIn_app (goodIn_of _ (by decide +kernel)) ggX2_advise_X2_bringBack
set_option maxRecDepth 20000 in
theorem ggX2_advise_X2_both : GoodIn wsX2_advise wsX2_both := goodIn_r _ [63, 64, 65, 66, 4, 67, 22, 68, 69, 70, 71, 72, 40, 41, 42, 43, 15, 73, 74, 75, 76, 77, 56, 57, 58, 59, 33, 34, 35, 36, 44, 45, 46, 47, 78, 79, 80, 81, 82, 83, 84, 85] (by decide +kernel) (by decide +kernel)
set_option maxRecDepth 20000 in
theorem gX2_advise_X2_both : GoodIn wsX2_advise (wsV RX2 81 RX2 yX2_both wsX2_both) := goodIn_app (goodIn_of _ (by decide +kernel)) ggX2_advise_X2_both
theorem dX2_advise_0 : decode cX2_advise 0 = .ok (.aload_n 0, 1) := by decide +kernel
theorem dX2_advise_1 : decode cX2_advise 1 = .ok (.iconst 0, 1) := by decide +kernel
theorem dX2_advise_2 : decode cX2_advise 2 = .ok (.putfield 28, 3) := by decide +kernel
theorem dX2_advise_5 : decode cX2_advise 5 = .ok (.iload_n 1, 1) := by decide +kernel
theorem dX2_advise_6 : decode cX2_advise 6 = .ok (.iconst 1, 1) := by decide +kernel
theorem dX2_advise_7 : decode cX2_advise 7 = .ok (.bipush 6, 2) := by decide +kernel
theorem dX2_advise_9 : decode cX2_advise 9 = .ok (.invokestatic 32, 3) := by decide +kernel
theorem dX2_advise_12 : decode cX2_advise 12 = .ok (.ifCond .ne 9, 3) := by decide +kernel
theorem dX2_advise_15 : decode cX2_advise 15 = .ok (.aload_n 0, 1) := by decide +kernel
theorem dX2_advise_16 : decode cX2_advise 16 = .ok (.iconst 1, 1) := by decide +kernel
theorem dX2_advise_17 : decode cX2_advise 17 = .ok (.invokevirtual 40, 3) := by decide +kernel
theorem dX2_advise_20 : decode cX2_advise 20 = .ok (.ireturn, 1) := by decide +kernel
theorem dX2_advise_21 : decode cX2_advise 21 = .ok (.aload_n 0, 1) := by decide +kernel
theorem dX2_advise_22 : decode cX2_advise 22 = .ok (.invokevirtual 118, 3) := by decide +kernel
theorem dX2_advise_25 : decode cX2_advise 25 = .ok (.astore_n 2, 1) := by decide +kernel
theorem dX2_advise_26 : decode cX2_advise 26 = .ok (.iconst (-1), 1) := by decide +kernel
theorem dX2_advise_27 : decode cX2_advise 27 = .ok (.istore_n 3, 1) := by decide +kernel
theorem dX2_advise_28 : decode cX2_advise 28 = .ok (.aload_n 0, 1) := by decide +kernel
theorem dX2_advise_29 : decode cX2_advise 29 = .ok (.iload_n 1, 1) := by decide +kernel
theorem dX2_advise_30 : decode cX2_advise 30 = .ok (.invokevirtual 110, 3) := by decide +kernel
theorem dX2_advise_33 : decode cX2_advise 33 = .ok (.istore 4, 2) := by decide +kernel
theorem dX2_advise_35 : decode cX2_advise 35 = .ok (.aload_n 0, 1) := by decide +kernel
theorem dX2_advise_36 : decode cX2_advise 36 = .ok (.aload_n 2, 1) := by decide +kernel
theorem dX2_advise_37 : decode cX2_advise 37 = .ok (.invokevirtual 122, 3) := by decide +kernel
theorem dX2_advise_40 : decode cX2_advise 40 = .ok (.iconst 0, 1) := by decide +kernel
theorem dX2_advise_41 : decode cX2_advise 41 = .ok (.istore 5, 2) := by decide +kernel
theorem dX2_advise_43 : decode cX2_advise 43 = .ok (.iload 5, 2) := by decide +kernel
theorem dX2_advise_45 : decode cX2_advise 45 = .ok (.bipush 40, 2) := by decide +kernel
theorem dX2_advise_47 : decode cX2_advise 47 = .ok (.if_icmp .ge 91, 3) := by decide +kernel
theorem dX2_advise_50 : decode cX2_advise 50 = .ok (.iconst 1, 1) := by decide +kernel
theorem dX2_advise_51 : decode cX2_advise 51 = .ok (.istore 6, 2) := by decide +kernel
theorem dX2_advise_53 : decode cX2_advise 53 = .ok (.iload 6, 2) := by decide +kernel
theorem dX2_advise_55 : decode cX2_advise 55 = .ok (.bipush 9, 2) := by decide +kernel
theorem dX2_advise_57 : decode cX2_advise 57 = .ok (.if_icmp .gt 75, 3) := by decide +kernel
theorem dX2_advise_60 : decode cX2_advise 60 = .ok (.aload_n 0, 1) := by decide +kernel
theorem dX2_advise_61 : decode cX2_advise 61 = .ok (.iload 5, 2) := by decide +kernel
theorem dX2_advise_63 : decode cX2_advise 63 = .ok (.bipush 8, 2) := by decide +kernel
theorem dX2_advise_65 : decode cX2_advise 65 = .ok (.idiv, 1) := by decide +kernel
theorem dX2_advise_66 : decode cX2_advise 66 = .ok (.iload 5, 2) := by decide +kernel
theorem dX2_advise_68 : decode cX2_advise 68 = .ok (.bipush 8, 2) := by decide +kernel
theorem dX2_advise_70 : decode cX2_advise 70 = .ok (.irem, 1) := by decide +kernel
theorem dX2_advise_71 : decode cX2_advise 71 = .ok (.iconst 1, 1) := by decide +kernel
theorem dX2_advise_72 : decode cX2_advise 72 = .ok (.iload 6, 2) := by decide +kernel
theorem dX2_advise_74 : decode cX2_advise 74 = .ok (.iconst 0, 1) := by decide +kernel
theorem dX2_advise_75 : decode cX2_advise 75 = .ok (.invokevirtual 81, 3) := by decide +kernel
theorem dX2_advise_78 : decode cX2_advise 78 = .ok (.pop, 1) := by decide +kernel
theorem dX2_advise_79 : decode cX2_advise 79 = .ok (.aload_n 0, 1) := by decide +kernel
theorem dX2_advise_80 : decode cX2_advise 80 = .ok (.iload_n 1, 1) := by decide +kernel
theorem dX2_advise_81 : decode cX2_advise 81 = .ok (.invokevirtual 110, 3) := by decide +kernel
theorem dX2_advise_84 : decode cX2_advise 84 = .ok (.istore 7, 2) := by decide +kernel
theorem dX2_advise_86 : decode cX2_advise 86 = .ok (.aload_n 0, 1) := by decide +kernel
theorem dX2_advise_87 : decode cX2_advise 87 = .ok (.aload_n 2, 1) := by decide +kernel
theorem dX2_advise_88 : decode cX2_advise 88 = .ok (.invokevirtual 122, 3) := by decide +kernel
theorem dX2_advise_91 : decode cX2_advise 91 = .ok (.iload 7, 2) := by decide +kernel
theorem dX2_advise_93 : decode cX2_advise 93 = .ok (.iload 4, 2) := by decide +kernel
theorem dX2_advise_95 : decode cX2_advise 95 = .ok (.if_icmp .gt 6, 3) := by decide +kernel
theorem dX2_advise_98 : decode cX2_advise 98 = .ok (.goto 28, 3) := by decide +kernel
theorem dX2_advise_101 : decode cX2_advise 101 = .ok (.bipush 100, 2) := by decide +kernel
theorem dX2_advise_103 : decode cX2_advise 103 = .ok (.iload 5, 2) := by decide +kernel
theorem dX2_advise_105 : decode cX2_advise 105 = .ok (.bipush 8, 2) := by decide +kernel
theorem dX2_advise_107 : decode cX2_advise 107 = .ok (.idiv, 1) := by decide +kernel
theorem dX2_advise_108 : decode cX2_advise 108 = .ok (.imul, 1) := by decide +kernel
theorem dX2_advise_109 : decode cX2_advise 109 = .ok (.bipush 10, 2) := by decide +kernel
theorem dX2_advise_111 : decode cX2_advise 111 = .ok (.iload 5, 2) := by decide +kernel
theorem dX2_advise_113 : decode cX2_advise 113 = .ok (.bipush 8, 2) := by decide +kernel
theorem dX2_advise_115 : decode cX2_advise 115 = .ok (.irem, 1) := by decide +kernel
theorem dX2_advise_116 : decode cX2_advise 116 = .ok (.imul, 1) := by decide +kernel
theorem dX2_advise_117 : decode cX2_advise 117 = .ok (.iadd, 1) := by decide +kernel
theorem dX2_advise_118 : decode cX2_advise 118 = .ok (.iload 6, 2) := by decide +kernel
theorem dX2_advise_120 : decode cX2_advise 120 = .ok (.iadd, 1) := by decide +kernel
theorem dX2_advise_121 : decode cX2_advise 121 = .ok (.istore_n 3, 1) := by decide +kernel
theorem dX2_advise_122 : decode cX2_advise 122 = .ok (.iload 7, 2) := by decide +kernel
theorem dX2_advise_124 : decode cX2_advise 124 = .ok (.istore 4, 2) := by decide +kernel
theorem dX2_advise_126 : decode cX2_advise 126 = .ok (.iinc 6 1, 3) := by decide +kernel
theorem dX2_advise_129 : decode cX2_advise 129 = .ok (.goto (-76), 3) := by decide +kernel
theorem dX2_advise_132 : decode cX2_advise 132 = .ok (.iinc 5 1, 3) := by decide +kernel
theorem dX2_advise_135 : decode cX2_advise 135 = .ok (.goto (-92), 3) := by decide +kernel
theorem dX2_advise_138 : decode cX2_advise 138 = .ok (.iload_n 3, 1) := by decide +kernel
theorem dX2_advise_139 : decode cX2_advise 139 = .ok (.ireturn, 1) := by decide +kernel
set_option maxRecDepth 20000 in
theorem ggX2_mean_X2_all : GoodIn wsX2_mean wsX2_all := goodIn_r _ [6, 7, 8, 9, 5, 10, 11, 12, 13, 14, 15, 16, 17, 18, 19] (by decide +kernel) (by decide +kernel)
set_option maxRecDepth 20000 in
theorem gX2_mean_X2_all : GoodIn wsX2_mean (wsV RX2 94 RX2 yX2_all wsX2_all) := goodIn_app (goodIn_of _ (by decide +kernel)) ggX2_mean_X2_all
theorem dX2_mean_0 : decode cX2_mean 0 = .ok (.aload_n 0, 1) := by decide +kernel
theorem dX2_mean_1 : decode cX2_mean 1 = .ok (.iconst 0, 1) := by decide +kernel
theorem dX2_mean_2 : decode cX2_mean 2 = .ok (.putfield 28, 3) := by decide +kernel
theorem dX2_mean_5 : decode cX2_mean 5 = .ok (.aload_n 0, 1) := by decide +kernel
theorem dX2_mean_6 : decode cX2_mean 6 = .ok (.iconst 0, 1) := by decide +kernel
theorem dX2_mean_7 : decode cX2_mean 7 = .ok (.invokevirtual 94, 3) := by decide +kernel
theorem dX2_mean_10 : decode cX2_mean 10 = .ok (.ifCond .ne 7, 3) := by decide +kernel
theorem dX2_mean_13 : decode cX2_mean 13 = .ok (.dconst 0, 1) := by decide +kernel
theorem dX2_mean_14 : decode cX2_mean 14 = .ok (.goto 16, 3) := by decide +kernel
theorem dX2_mean_17 : decode cX2_mean 17 = .ok (.aload_n 0, 1) := by decide +kernel
theorem dX2_mean_18 : decode cX2_mean 18 = .ok (.iconst 1, 1) := by decide +kernel
theorem dX2_mean_19 : decode cX2_mean 19 = .ok (.invokevirtual 94, 3) := by decide +kernel
theorem dX2_mean_22 : decode cX2_mean 22 = .ok (.i2d, 1) := by decide +kernel
theorem dX2_mean_23 : decode cX2_mean 23 = .ok (.aload_n 0, 1) := by decide +kernel
theorem dX2_mean_24 : decode cX2_mean 24 = .ok (.iconst 0, 1) := by decide +kernel
theorem dX2_mean_25 : decode cX2_mean 25 = .ok (.invokevirtual 94, 3) := by decide +kernel
theorem dX2_mean_28 : decode cX2_mean 28 = .ok (.i2d, 1) := by decide +kernel
theorem dX2_mean_29 : decode cX2_mean 29 = .ok (.ddiv, 1) := by decide +kernel
theorem dX2_mean_30 : decode cX2_mean 30 = .ok (.dreturn, 1) := by decide +kernel
set_option maxRecDepth 20000 in
theorem ggX2_digest_X2_counted : GoodIn wsX2_digest wsX2_counted := goodIn_r _ [10, 11, 12, 13, 14, 15, 16, 9, 17, 18, 19, 20, 21, 22, 36, 37, 38, 39, 40, 41, 42, 43] (by decide +kernel) (by decide +kernel)
set_option maxRecDepth 20000 in
theorem gX2_digest_X2_counted : GoodIn wsX2_digest (wsV RX2 97 RX2 yX2_counted wsX2_counted) := goodIn_app (goodIn_of _ (by decide +kernel)) ggX2_digest_X2_counted
set_option maxRecDepth 20000 in
theorem ggX2_digest_X2_sortTold : GoodIn wsX2_digest wsX2_sortTold := goodIn_r _ [26, 13, 27, 12, 18, 19, 20, 9, 21, 22, 36, 37, 38, 39, 40, 41, 42, 43] (by decide +kernel) (by decide +kernel)
set_option maxRecDepth 20000 in
theorem gX2_digest_X2_sortTold : GoodIn wsX2_digest (wsV RX2 91 RX2 yX2_sortTold wsX2_sortTold) := goodIn_app (goodIn_of _ (by decide +kernel)) ggX2_digest_X2_sortTold
set_option maxRecDepth 20000 in
theorem ggX2_digest_X2_treeTold : GoodIn wsX2_digest wsX2_treeTold := goodIn_r _ [31, 32, 33, 34, 9, 35, 18, 19, 20, 21, 22, 36, 37, 38, 39, 40, 41, 42, 43] (by decide +kernel) (by decide +kernel)
set_option maxRecDepth 20000 in
theorem gX2_digest_X2_treeTold : GoodIn wsX2_digest (wsV RX2 88 RX2 yX2_treeTold wsX2_treeTold) := goodIn_app (goodIn_of _ (by decide +kernel)) ggX2_digest_X2_treeTold
theorem dX2_digest_0 : decode cX2_digest 0 = .ok (.aload_n 0, 1) := by decide +kernel
theorem dX2_digest_1 : decode cX2_digest 1 = .ok (.iconst 0, 1) := by decide +kernel
theorem dX2_digest_2 : decode cX2_digest 2 = .ok (.putfield 28, 3) := by decide +kernel
theorem dX2_digest_5 : decode cX2_digest 5 = .ok (.ldc2_w 126, 3) := by decide +kernel
theorem dX2_digest_8 : decode cX2_digest 8 = .ok (.lstore_n 1, 1) := by decide +kernel
theorem dX2_digest_9 : decode cX2_digest 9 = .ok (.iconst 0, 1) := by decide +kernel
theorem dX2_digest_10 : decode cX2_digest 10 = .ok (.istore_n 3, 1) := by decide +kernel
theorem dX2_digest_11 : decode cX2_digest 11 = .ok (.iload_n 3, 1) := by decide +kernel
theorem dX2_digest_12 : decode cX2_digest 12 = .ok (.bipush 8, 2) := by decide +kernel
theorem dX2_digest_14 : decode cX2_digest 14 = .ok (.if_icmp .ge 22, 3) := by decide +kernel
theorem dX2_digest_17 : decode cX2_digest 17 = .ok (.lload_n 1, 1) := by decide +kernel
theorem dX2_digest_18 : decode cX2_digest 18 = .ok (.ldc2_w 128, 3) := by decide +kernel
theorem dX2_digest_21 : decode cX2_digest 21 = .ok (.lmul, 1) := by decide +kernel
theorem dX2_digest_22 : decode cX2_digest 22 = .ok (.aload_n 0, 1) := by decide +kernel
theorem dX2_digest_23 : decode cX2_digest 23 = .ok (.iload_n 3, 1) := by decide +kernel
theorem dX2_digest_24 : decode cX2_digest 24 = .ok (.invokevirtual 97, 3) := by decide +kernel
theorem dX2_digest_27 : decode cX2_digest 27 = .ok (.i2l, 1) := by decide +kernel
theorem dX2_digest_28 : decode cX2_digest 28 = .ok (.ladd, 1) := by decide +kernel
theorem dX2_digest_29 : decode cX2_digest 29 = .ok (.lstore_n 1, 1) := by decide +kernel
theorem dX2_digest_30 : decode cX2_digest 30 = .ok (.iinc 3 1, 3) := by decide +kernel
theorem dX2_digest_33 : decode cX2_digest 33 = .ok (.goto (-22), 3) := by decide +kernel
theorem dX2_digest_36 : decode cX2_digest 36 = .ok (.iconst 0, 1) := by decide +kernel
theorem dX2_digest_37 : decode cX2_digest 37 = .ok (.istore_n 3, 1) := by decide +kernel
theorem dX2_digest_38 : decode cX2_digest 38 = .ok (.iload_n 3, 1) := by decide +kernel
theorem dX2_digest_39 : decode cX2_digest 39 = .ok (.bipush 6, 2) := by decide +kernel
theorem dX2_digest_41 : decode cX2_digest 41 = .ok (.if_icmp .ge 39, 3) := by decide +kernel
theorem dX2_digest_44 : decode cX2_digest 44 = .ok (.iconst 0, 1) := by decide +kernel
theorem dX2_digest_45 : decode cX2_digest 45 = .ok (.istore 4, 2) := by decide +kernel
theorem dX2_digest_47 : decode cX2_digest 47 = .ok (.iload 4, 2) := by decide +kernel
theorem dX2_digest_49 : decode cX2_digest 49 = .ok (.iconst 4, 1) := by decide +kernel
theorem dX2_digest_50 : decode cX2_digest 50 = .ok (.if_icmp .ge 24, 3) := by decide +kernel
theorem dX2_digest_53 : decode cX2_digest 53 = .ok (.lload_n 1, 1) := by decide +kernel
theorem dX2_digest_54 : decode cX2_digest 54 = .ok (.ldc2_w 128, 3) := by decide +kernel
theorem dX2_digest_57 : decode cX2_digest 57 = .ok (.lmul, 1) := by decide +kernel
theorem dX2_digest_58 : decode cX2_digest 58 = .ok (.aload_n 0, 1) := by decide +kernel
theorem dX2_digest_59 : decode cX2_digest 59 = .ok (.iload_n 3, 1) := by decide +kernel
theorem dX2_digest_60 : decode cX2_digest 60 = .ok (.iload 4, 2) := by decide +kernel
theorem dX2_digest_62 : decode cX2_digest 62 = .ok (.invokevirtual 91, 3) := by decide +kernel
theorem dX2_digest_65 : decode cX2_digest 65 = .ok (.i2l, 1) := by decide +kernel
theorem dX2_digest_66 : decode cX2_digest 66 = .ok (.ladd, 1) := by decide +kernel
theorem dX2_digest_67 : decode cX2_digest 67 = .ok (.lstore_n 1, 1) := by decide +kernel
theorem dX2_digest_68 : decode cX2_digest 68 = .ok (.iinc 4 1, 3) := by decide +kernel
theorem dX2_digest_71 : decode cX2_digest 71 = .ok (.goto (-24), 3) := by decide +kernel
theorem dX2_digest_74 : decode cX2_digest 74 = .ok (.iinc 3 1, 3) := by decide +kernel
theorem dX2_digest_77 : decode cX2_digest 77 = .ok (.goto (-39), 3) := by decide +kernel
theorem dX2_digest_80 : decode cX2_digest 80 = .ok (.aload_n 0, 1) := by decide +kernel
theorem dX2_digest_81 : decode cX2_digest 81 = .ok (.getfield 16, 3) := by decide +kernel
theorem dX2_digest_84 : decode cX2_digest 84 = .ok (.astore_n 3, 1) := by decide +kernel
theorem dX2_digest_85 : decode cX2_digest 85 = .ok (.aload_n 3, 1) := by decide +kernel
theorem dX2_digest_86 : decode cX2_digest 86 = .ok (.arraylength, 1) := by decide +kernel
theorem dX2_digest_87 : decode cX2_digest 87 = .ok (.istore 4, 2) := by decide +kernel
theorem dX2_digest_89 : decode cX2_digest 89 = .ok (.iconst 0, 1) := by decide +kernel
theorem dX2_digest_90 : decode cX2_digest 90 = .ok (.istore 5, 2) := by decide +kernel
theorem dX2_digest_92 : decode cX2_digest 92 = .ok (.iload 5, 2) := by decide +kernel
theorem dX2_digest_94 : decode cX2_digest 94 = .ok (.iload 4, 2) := by decide +kernel
theorem dX2_digest_96 : decode cX2_digest 96 = .ok (.if_icmp .ge 25, 3) := by decide +kernel
theorem dX2_digest_99 : decode cX2_digest 99 = .ok (.aload_n 3, 1) := by decide +kernel
theorem dX2_digest_100 : decode cX2_digest 100 = .ok (.iload 5, 2) := by decide +kernel
theorem dX2_digest_102 : decode cX2_digest 102 = .ok (.iaload, 1) := by decide +kernel
theorem dX2_digest_103 : decode cX2_digest 103 = .ok (.istore 6, 2) := by decide +kernel
theorem dX2_digest_105 : decode cX2_digest 105 = .ok (.lload_n 1, 1) := by decide +kernel
theorem dX2_digest_106 : decode cX2_digest 106 = .ok (.ldc2_w 128, 3) := by decide +kernel
theorem dX2_digest_109 : decode cX2_digest 109 = .ok (.lmul, 1) := by decide +kernel
theorem dX2_digest_110 : decode cX2_digest 110 = .ok (.iload 6, 2) := by decide +kernel
theorem dX2_digest_112 : decode cX2_digest 112 = .ok (.i2l, 1) := by decide +kernel
theorem dX2_digest_113 : decode cX2_digest 113 = .ok (.ladd, 1) := by decide +kernel
theorem dX2_digest_114 : decode cX2_digest 114 = .ok (.lstore_n 1, 1) := by decide +kernel
theorem dX2_digest_115 : decode cX2_digest 115 = .ok (.iinc 5 1, 3) := by decide +kernel
theorem dX2_digest_118 : decode cX2_digest 118 = .ok (.goto (-26), 3) := by decide +kernel
theorem dX2_digest_121 : decode cX2_digest 121 = .ok (.iconst 0, 1) := by decide +kernel
theorem dX2_digest_122 : decode cX2_digest 122 = .ok (.istore_n 3, 1) := by decide +kernel
theorem dX2_digest_123 : decode cX2_digest 123 = .ok (.iload_n 3, 1) := by decide +kernel
theorem dX2_digest_124 : decode cX2_digest 124 = .ok (.bipush 40, 2) := by decide +kernel
theorem dX2_digest_126 : decode cX2_digest 126 = .ok (.if_icmp .ge 40, 3) := by decide +kernel
theorem dX2_digest_129 : decode cX2_digest 129 = .ok (.iconst 0, 1) := by decide +kernel
theorem dX2_digest_130 : decode cX2_digest 130 = .ok (.istore 4, 2) := by decide +kernel
theorem dX2_digest_132 : decode cX2_digest 132 = .ok (.iload 4, 2) := by decide +kernel
theorem dX2_digest_134 : decode cX2_digest 134 = .ok (.bipush 6, 2) := by decide +kernel
theorem dX2_digest_136 : decode cX2_digest 136 = .ok (.if_icmp .ge 24, 3) := by decide +kernel
theorem dX2_digest_139 : decode cX2_digest 139 = .ok (.lload_n 1, 1) := by decide +kernel
theorem dX2_digest_140 : decode cX2_digest 140 = .ok (.ldc2_w 128, 3) := by decide +kernel
theorem dX2_digest_143 : decode cX2_digest 143 = .ok (.lmul, 1) := by decide +kernel
theorem dX2_digest_144 : decode cX2_digest 144 = .ok (.aload_n 0, 1) := by decide +kernel
theorem dX2_digest_145 : decode cX2_digest 145 = .ok (.iload_n 3, 1) := by decide +kernel
theorem dX2_digest_146 : decode cX2_digest 146 = .ok (.iload 4, 2) := by decide +kernel
theorem dX2_digest_148 : decode cX2_digest 148 = .ok (.invokevirtual 88, 3) := by decide +kernel
theorem dX2_digest_151 : decode cX2_digest 151 = .ok (.i2l, 1) := by decide +kernel
theorem dX2_digest_152 : decode cX2_digest 152 = .ok (.ladd, 1) := by decide +kernel
theorem dX2_digest_153 : decode cX2_digest 153 = .ok (.lstore_n 1, 1) := by decide +kernel
theorem dX2_digest_154 : decode cX2_digest 154 = .ok (.iinc 4 1, 3) := by decide +kernel
theorem dX2_digest_157 : decode cX2_digest 157 = .ok (.goto (-25), 3) := by decide +kernel
theorem dX2_digest_160 : decode cX2_digest 160 = .ok (.iinc 3 1, 3) := by decide +kernel
theorem dX2_digest_163 : decode cX2_digest 163 = .ok (.goto (-40), 3) := by decide +kernel
theorem dX2_digest_166 : decode cX2_digest 166 = .ok (.lload_n 1, 1) := by decide +kernel
theorem dX2_digest_167 : decode cX2_digest 167 = .ok (.ldc2_w 128, 3) := by decide +kernel
theorem dX2_digest_170 : decode cX2_digest 170 = .ok (.lmul, 1) := by decide +kernel
theorem dX2_digest_171 : decode cX2_digest 171 = .ok (.aload_n 0, 1) := by decide +kernel
theorem dX2_digest_172 : decode cX2_digest 172 = .ok (.getfield 100, 3) := by decide +kernel
theorem dX2_digest_175 : decode cX2_digest 175 = .ok (.i2l, 1) := by decide +kernel
theorem dX2_digest_176 : decode cX2_digest 176 = .ok (.ladd, 1) := by decide +kernel
theorem dX2_digest_177 : decode cX2_digest 177 = .ok (.lreturn, 1) := by decide +kernel
theorem dJ9_floorMod_7cf53_0 : decode cJ9_floorMod_7cf53 0 = .ok (.iload_n 0, 1) := by decide +kernel
theorem dJ9_floorMod_7cf53_1 : decode cJ9_floorMod_7cf53 1 = .ok (.iload_n 1, 1) := by decide +kernel
theorem dJ9_floorMod_7cf53_2 : decode cJ9_floorMod_7cf53 2 = .ok (.irem, 1) := by decide +kernel
theorem dJ9_floorMod_7cf53_3 : decode cJ9_floorMod_7cf53 3 = .ok (.istore_n 2, 1) := by decide +kernel
theorem dJ9_floorMod_7cf53_4 : decode cJ9_floorMod_7cf53 4 = .ok (.iload_n 0, 1) := by decide +kernel
theorem dJ9_floorMod_7cf53_5 : decode cJ9_floorMod_7cf53 5 = .ok (.iload_n 1, 1) := by decide +kernel
theorem dJ9_floorMod_7cf53_6 : decode cJ9_floorMod_7cf53 6 = .ok (.ixor, 1) := by decide +kernel
theorem dJ9_floorMod_7cf53_7 : decode cJ9_floorMod_7cf53 7 = .ok (.ifCond .ge 11, 3) := by decide +kernel
theorem dJ9_floorMod_7cf53_10 : decode cJ9_floorMod_7cf53 10 = .ok (.iload_n 2, 1) := by decide +kernel
theorem dJ9_floorMod_7cf53_11 : decode cJ9_floorMod_7cf53 11 = .ok (.ifCond .eq 7, 3) := by decide +kernel
theorem dJ9_floorMod_7cf53_14 : decode cJ9_floorMod_7cf53 14 = .ok (.iload_n 2, 1) := by decide +kernel
theorem dJ9_floorMod_7cf53_15 : decode cJ9_floorMod_7cf53 15 = .ok (.iload_n 1, 1) := by decide +kernel
theorem dJ9_floorMod_7cf53_16 : decode cJ9_floorMod_7cf53 16 = .ok (.iadd, 1) := by decide +kernel
theorem dJ9_floorMod_7cf53_17 : decode cJ9_floorMod_7cf53 17 = .ok (.ireturn, 1) := by decide +kernel
theorem dJ9_floorMod_7cf53_18 : decode cJ9_floorMod_7cf53 18 = .ok (.iload_n 2, 1) := by decide +kernel
theorem dJ9_floorMod_7cf53_19 : decode cJ9_floorMod_7cf53 19 = .ok (.ireturn, 1) := by decide +kernel
theorem dJ9_max_7cf53_0 : decode cJ9_max_7cf53 0 = .ok (.iload_n 0, 1) := by decide +kernel
theorem dJ9_max_7cf53_1 : decode cJ9_max_7cf53 1 = .ok (.iload_n 1, 1) := by decide +kernel
theorem dJ9_max_7cf53_2 : decode cJ9_max_7cf53 2 = .ok (.if_icmp .lt 7, 3) := by decide +kernel
theorem dJ9_max_7cf53_5 : decode cJ9_max_7cf53 5 = .ok (.iload_n 0, 1) := by decide +kernel
theorem dJ9_max_7cf53_6 : decode cJ9_max_7cf53 6 = .ok (.goto 4, 3) := by decide +kernel
theorem dJ9_max_7cf53_9 : decode cJ9_max_7cf53 9 = .ok (.iload_n 1, 1) := by decide +kernel
theorem dJ9_max_7cf53_10 : decode cJ9_max_7cf53 10 = .ok (.ireturn, 1) := by decide +kernel
theorem dJ9_min_7cf53_0 : decode cJ9_min_7cf53 0 = .ok (.iload_n 0, 1) := by decide +kernel
theorem dJ9_min_7cf53_1 : decode cJ9_min_7cf53 1 = .ok (.iload_n 1, 1) := by decide +kernel
theorem dJ9_min_7cf53_2 : decode cJ9_min_7cf53 2 = .ok (.if_icmp .gt 7, 3) := by decide +kernel
theorem dJ9_min_7cf53_5 : decode cJ9_min_7cf53 5 = .ok (.iload_n 0, 1) := by decide +kernel
theorem dJ9_min_7cf53_6 : decode cJ9_min_7cf53 6 = .ok (.goto 4, 3) := by decide +kernel
theorem dJ9_min_7cf53_9 : decode cJ9_min_7cf53 9 = .ok (.iload_n 1, 1) := by decide +kernel
theorem dJ9_min_7cf53_10 : decode cJ9_min_7cf53 10 = .ok (.ireturn, 1) := by decide +kernel
theorem dJ7_fill_53178_0 : decode cJ7_fill_53178 0 = .ok (.iconst 0, 1) := by decide +kernel
theorem dJ7_fill_53178_1 : decode cJ7_fill_53178 1 = .ok (.istore_n 2, 1) := by decide +kernel
theorem dJ7_fill_53178_2 : decode cJ7_fill_53178 2 = .ok (.aload_n 0, 1) := by decide +kernel
theorem dJ7_fill_53178_3 : decode cJ7_fill_53178 3 = .ok (.arraylength, 1) := by decide +kernel
theorem dJ7_fill_53178_4 : decode cJ7_fill_53178 4 = .ok (.istore_n 3, 1) := by decide +kernel
theorem dJ7_fill_53178_5 : decode cJ7_fill_53178 5 = .ok (.iload_n 2, 1) := by decide +kernel
theorem dJ7_fill_53178_6 : decode cJ7_fill_53178 6 = .ok (.iload_n 3, 1) := by decide +kernel
theorem dJ7_fill_53178_7 : decode cJ7_fill_53178 7 = .ok (.if_icmp .ge 13, 3) := by decide +kernel
theorem dJ7_fill_53178_10 : decode cJ7_fill_53178 10 = .ok (.aload_n 0, 1) := by decide +kernel
theorem dJ7_fill_53178_11 : decode cJ7_fill_53178 11 = .ok (.iload_n 2, 1) := by decide +kernel
theorem dJ7_fill_53178_12 : decode cJ7_fill_53178 12 = .ok (.iload_n 1, 1) := by decide +kernel
theorem dJ7_fill_53178_13 : decode cJ7_fill_53178 13 = .ok (.iastore, 1) := by decide +kernel
theorem dJ7_fill_53178_14 : decode cJ7_fill_53178 14 = .ok (.iinc 2 1, 3) := by decide +kernel
theorem dJ7_fill_53178_17 : decode cJ7_fill_53178 17 = .ok (.goto (-12), 3) := by decide +kernel
theorem dJ7_fill_53178_20 : decode cJ7_fill_53178 20 = .ok (.return_, 1) := by decide +kernel
set_option maxRecDepth 20000 in
theorem ggL_setSort_X1_setSort : GoodIn wsL_setSort wsX1_setSort := goodIn_ca (goodIn_ca (goodIn_r _ [7, 8, 9, 10, 11, 12, 13, 14, 15, 6, 16, 17, 18, 19, 20, 21, 22, 23, 24, 25, 26, 27, 28, 29, 30, 31, 32] (by decide +kernel) (by decide +kernel)) (goodIn_sub (fun _ h => List.mem_cons_of_mem _ (List.mem_append_left _ (List.mem_append_right _ h))) (by decide +kernel))) (goodIn_sub (fun _ h => List.mem_cons_of_mem _ (List.mem_append_right _ h)) (by decide +kernel))
set_option maxRecDepth 20000 in
theorem gL_setSort_X1_setSort : GoodIn wsL_setSort (wsV RL 7 RX1 yX1_setSort wsX1_setSort) := goodIn_app (goodIn_of _ (by decide +kernel)) ggL_setSort_X1_setSort
