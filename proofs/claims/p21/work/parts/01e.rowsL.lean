theorem dL_below_0 : decode cL_below 0 = .ok (.iload_n 0, 1) := by decide +kernel
theorem dL_below_1 : decode cL_below 1 = .ok (.ldc 7, 2) := by decide +kernel
theorem dL_below_3 : decode cL_below 3 = .ok (.iand, 1) := by decide +kernel
theorem dL_below_4 : decode cL_below 4 = .ok (.iload_n 1, 1) := by decide +kernel
theorem dL_below_5 : decode cL_below 5 = .ok (.irem, 1) := by decide +kernel
theorem dL_below_6 : decode cL_below 6 = .ok (.ireturn, 1) := by decide +kernel
theorem dL_cell_0 : decode cL_cell 0 = .ok (.iload_n 1, 1) := by decide +kernel
theorem dL_cell_1 : decode cL_cell 1 = .ok (.aload_n 0, 1) := by decide +kernel
theorem dL_cell_2 : decode cL_cell 2 = .ok (.arraylength, 1) := by decide +kernel
theorem dL_cell_3 : decode cL_cell 3 = .ok (.if_icmp .ge 9, 3) := by decide +kernel
theorem dL_cell_6 : decode cL_cell 6 = .ok (.aload_n 0, 1) := by decide +kernel
theorem dL_cell_7 : decode cL_cell 7 = .ok (.iload_n 1, 1) := by decide +kernel
theorem dL_cell_8 : decode cL_cell 8 = .ok (.iaload, 1) := by decide +kernel
theorem dL_cell_9 : decode cL_cell 9 = .ok (.goto 9, 3) := by decide +kernel
theorem dL_cell_12 : decode cL_cell 12 = .ok (.ldc 8, 2) := by decide +kernel
theorem dL_cell_14 : decode cL_cell 14 = .ok (.iload_n 1, 1) := by decide +kernel
theorem dL_cell_15 : decode cL_cell 15 = .ok (.iconst 3, 1) := by decide +kernel
theorem dL_cell_16 : decode cL_cell 16 = .ok (.iadd, 1) := by decide +kernel
theorem dL_cell_17 : decode cL_cell 17 = .ok (.imul, 1) := by decide +kernel
theorem dL_cell_18 : decode cL_cell 18 = .ok (.ireturn, 1) := by decide +kernel
set_option maxRecDepth 20000 in
theorem ggL_build_X2_init : GoodIn wsL_build wsX2_init := goodIn_r _ [8, 9, 10, 11, 12, 13, 14, 15, 16, 17, 18, 219, 220, 221, 222, 223, 224, 225, 226] (by decide +kernel) (by decide +kernel)
set_option maxRecDepth 20000 in
theorem gL_build_X2_init_n11 : GoodIn wsL_build (wsX2_init) := ggL_build_X2_init
set_option maxRecDepth 20000 in
theorem ggL_build_L_cell : GoodIn wsL_build wsL_cell := goodIn_r _ [22, 23] (by decide +kernel) (by decide +kernel)
set_option maxRecDepth 20000 in
theorem gL_build_L_cell : GoodIn wsL_build (va_wsS RL 12 yL_cell wsL_cell) := goodIn_app (goodIn_of _ (by decide +kernel)) ggL_build_L_cell
set_option maxRecDepth 20000 in
theorem ggL_build_L_below : GoodIn wsL_build wsL_below := goodIn_r _ [26, 27] (by decide +kernel) (by decide +kernel)
set_option maxRecDepth 20000 in
theorem gL_build_L_below : GoodIn wsL_build (va_wsS RL 18 yL_below wsL_below) := goodIn_app (goodIn_of _ (by decide +kernel)) ggL_build_L_below
set_option maxRecDepth 20000 in
theorem ggL_build_X1_setSort : GoodIn wsL_build wsX1_setSort := goodIn_ca (goodIn_ca (goodIn_r _ [32, 33, 34, 35, 36, 37, 38, 39, 40, 31, 41, 42, 43, 44, 227, 228, 229, 230, 231, 232, 233, 234, 235, 236, 237, 238, 239] (by decide +kernel) (by decide +kernel)) (goodIn_sub (fun _ h => List.mem_cons_of_mem _ (List.mem_append_left _ (List.mem_append_left _ (List.mem_append_right _ h)))) (by decide +kernel))) (goodIn_sub (fun _ h => List.mem_cons_of_mem _ (List.mem_append_left _ (List.mem_append_right _ h))) (by decide +kernel))
set_option maxRecDepth 20000 in
theorem gL_build_X1_setSort : GoodIn wsL_build (wsV RL 29 RX1 yX1_setSort wsX1_setSort) := goodIn_app (goodIn_of _ (by decide +kernel)) ggL_build_X1_setSort
set_option maxRecDepth 20000 in
theorem ggL_build_X1_setFrost : GoodIn wsL_build wsX1_setFrost := goodIn_ca (goodIn_ca (goodIn_r _ [48, 33, 34, 35, 36, 49, 42, 43, 31, 44, 227, 228, 229, 230, 231, 232, 233, 234, 235, 236, 237, 238, 239] (by decide +kernel) (by decide +kernel)) (goodIn_sub (fun _ h => List.mem_cons_of_mem _ (List.mem_append_left _ (List.mem_append_left _ (List.mem_append_right _ h)))) (by decide +kernel))) (goodIn_sub (fun _ h => List.mem_cons_of_mem _ (List.mem_append_left _ (List.mem_append_right _ h))) (by decide +kernel))
set_option maxRecDepth 20000 in
theorem gL_build_X1_setFrost : GoodIn wsL_build (wsV RL 38 RX1 yX1_setFrost wsX1_setFrost) := goodIn_app (goodIn_of _ (by decide +kernel)) ggL_build_X1_setFrost
set_option maxRecDepth 20000 in
theorem ggL_build_L_act : GoodIn wsL_build wsL_act := goodIn_ca (goodIn_ca (goodIn_ca (goodIn_r _ [52, 53, 54, 55, 56, 57, 58, 4, 24, 25, 21, 26, 27, 59, 60, 61, 31, 62, 33, 34, 35, 36, 63, 64, 65, 42, 43, 44, 39, 40, 41, 66, 67, 68, 69, 70, 71, 72, 73, 74, 75, 76, 77, 78, 79, 80, 81, 82, 83, 84, 85, 86, 87, 88, 89, 90, 91, 92, 93, 94, 95, 96, 97, 98, 99, 100, 101, 3, 102, 12, 103, 104, 18, 105, 106, 107, 108, 109, 110, 111, 112, 10, 11, 113, 114, 115, 116, 117, 118, 119, 120, 121, 122, 123, 124, 125, 126, 127, 128, 129, 130, 38, 131, 132, 133, 134, 135, 136, 137, 138, 139, 140, 141, 142, 143, 144, 145, 146, 147, 148, 149, 150, 151, 152, 153, 154, 155, 156, 157, 158, 159, 160, 161, 162, 163, 164, 165, 166, 167, 37, 219, 220, 221, 222, 223, 224, 225, 226, 227, 228, 229, 230, 231, 232, 233, 234, 235, 236, 237, 238, 239, 240, 241, 242, 243, 244, 245, 246, 247] (by decide +kernel) (by decide +kernel)) (goodIn_sub (fun _ h => List.mem_cons_of_mem _ (List.mem_append_left _ (List.mem_append_left _ (List.mem_append_right _ h)))) (by decide +kernel))) (goodIn_sub (fun _ h => List.mem_cons_of_mem _ (List.mem_append_left _ (List.mem_append_right _ h))) (by decide +kernel))) (goodIn_sub (fun _ h => List.mem_cons_of_mem _ (List.mem_append_right _ h)) (by decide +kernel))
set_option maxRecDepth 20000 in
theorem gL_build_L_act : GoodIn wsL_build (va_wsS RL 41 yL_act wsL_act) := goodIn_app (goodIn_of _ (by decide +kernel)) ggL_build_L_act
set_option maxRecDepth 20000 in
theorem ggL_build_X1_pass : GoodIn wsL_build wsX1_pass := goodIn_ca (goodIn_r _ [171, 35, 36, 172, 85, 42, 43, 31, 44, 77, 78, 79, 80, 73, 173, 174, 175, 176, 166, 127, 128, 129, 130, 122, 75, 74, 76, 38, 177, 178, 179, 180, 49, 181, 182, 183, 184, 185, 132, 186, 187, 136, 188, 189, 190, 191, 192, 193, 150, 56, 151, 135, 194, 195, 196, 197, 198, 199, 200, 201, 202, 203, 55, 57, 137, 138, 139, 140, 204, 205, 206, 207, 227, 228, 229, 230, 231, 232, 233, 234, 235, 236, 237, 238, 239, 244, 245, 246, 247] (by decide +kernel) (by decide +kernel)) (goodIn_sub (fun _ h => List.mem_cons_of_mem _ (List.mem_append_left _ (List.mem_append_right _ h))) (by decide +kernel))
set_option maxRecDepth 20000 in
theorem gL_build_X1_pass : GoodIn wsL_build (wsV RL 45 RX1 yX1_pass wsX1_pass) := goodIn_app (goodIn_of _ (by decide +kernel)) ggL_build_X1_pass
set_option maxRecDepth 20000 in
theorem ggL_build_X2_pass : GoodIn wsL_build wsX2_pass := goodIn_r _ [211, 12, 16, 212, 15, 104, 103, 17, 109, 108, 18, 213, 214, 215, 107, 216, 217, 113, 218, 219, 220, 221, 222, 223, 224, 225, 226, 240, 241, 242, 243] (by decide +kernel) (by decide +kernel)
set_option maxRecDepth 20000 in
theorem gL_build_X2_pass : GoodIn wsL_build (wsV RL 49 RX2 yX2_pass wsX2_pass) := goodIn_app (goodIn_of _ (by decide +kernel)) ggL_build_X2_pass
theorem dL_build_0 : decode cL_build 0 = .ok (.new 9, 3) := by decide +kernel
theorem dL_build_3 : decode cL_build 3 = .ok (.dup, 1) := by decide +kernel
theorem dL_build_4 : decode cL_build 4 = .ok (.invokespecial 11, 3) := by decide +kernel
theorem dL_build_7 : decode cL_build 7 = .ok (.astore_n 2, 1) := by decide +kernel
theorem dL_build_8 : decode cL_build 8 = .ok (.iconst 0, 1) := by decide +kernel
theorem dL_build_9 : decode cL_build 9 = .ok (.istore_n 3, 1) := by decide +kernel
theorem dL_build_10 : decode cL_build 10 = .ok (.iload_n 3, 1) := by decide +kernel
theorem dL_build_11 : decode cL_build 11 = .ok (.bipush 6, 2) := by decide +kernel
theorem dL_build_13 : decode cL_build 13 = .ok (.if_icmp .ge 92, 3) := by decide +kernel
theorem dL_build_16 : decode cL_build 16 = .ok (.aload_n 1, 1) := by decide +kernel
theorem dL_build_17 : decode cL_build 17 = .ok (.iconst 0, 1) := by decide +kernel
theorem dL_build_18 : decode cL_build 18 = .ok (.invokestatic 12, 3) := by decide +kernel
theorem dL_build_21 : decode cL_build 21 = .ok (.iload_n 3, 1) := by decide +kernel
theorem dL_build_22 : decode cL_build 22 = .ok (.ishr, 1) := by decide +kernel
theorem dL_build_23 : decode cL_build 23 = .ok (.iconst 3, 1) := by decide +kernel
theorem dL_build_24 : decode cL_build 24 = .ok (.invokestatic 18, 3) := by decide +kernel
theorem dL_build_27 : decode cL_build 27 = .ok (.ifCond .ne 6, 3) := by decide +kernel
theorem dL_build_30 : decode cL_build 30 = .ok (.goto 69, 3) := by decide +kernel
theorem dL_build_33 : decode cL_build 33 = .ok (.aload_n 2, 1) := by decide +kernel
theorem dL_build_34 : decode cL_build 34 = .ok (.getfield 22, 3) := by decide +kernel
theorem dL_build_37 : decode cL_build 37 = .ok (.iload_n 3, 1) := by decide +kernel
theorem dL_build_38 : decode cL_build 38 = .ok (.iconst 1, 1) := by decide +kernel
theorem dL_build_39 : decode cL_build 39 = .ok (.aload_n 1, 1) := by decide +kernel
theorem dL_build_40 : decode cL_build 40 = .ok (.iconst 1, 1) := by decide +kernel
theorem dL_build_41 : decode cL_build 41 = .ok (.invokestatic 12, 3) := by decide +kernel
theorem dL_build_44 : decode cL_build 44 = .ok (.iconst 2, 1) := by decide +kernel
theorem dL_build_45 : decode cL_build 45 = .ok (.iload_n 3, 1) := by decide +kernel
theorem dL_build_46 : decode cL_build 46 = .ok (.imul, 1) := by decide +kernel
theorem dL_build_47 : decode cL_build 47 = .ok (.ishr, 1) := by decide +kernel
theorem dL_build_48 : decode cL_build 48 = .ok (.bipush 9, 2) := by decide +kernel
theorem dL_build_50 : decode cL_build 50 = .ok (.invokestatic 18, 3) := by decide +kernel
theorem dL_build_53 : decode cL_build 53 = .ok (.iadd, 1) := by decide +kernel
theorem dL_build_54 : decode cL_build 54 = .ok (.iastore, 1) := by decide +kernel
theorem dL_build_55 : decode cL_build 55 = .ok (.aload_n 2, 1) := by decide +kernel
theorem dL_build_56 : decode cL_build 56 = .ok (.getfield 26, 3) := by decide +kernel
theorem dL_build_59 : decode cL_build 59 = .ok (.iload_n 3, 1) := by decide +kernel
theorem dL_build_60 : decode cL_build 60 = .ok (.aload_n 1, 1) := by decide +kernel
theorem dL_build_61 : decode cL_build 61 = .ok (.iconst 2, 1) := by decide +kernel
theorem dL_build_62 : decode cL_build 62 = .ok (.invokestatic 12, 3) := by decide +kernel
theorem dL_build_65 : decode cL_build 65 = .ok (.iconst 2, 1) := by decide +kernel
theorem dL_build_66 : decode cL_build 66 = .ok (.iload_n 3, 1) := by decide +kernel
theorem dL_build_67 : decode cL_build 67 = .ok (.imul, 1) := by decide +kernel
theorem dL_build_68 : decode cL_build 68 = .ok (.ishr, 1) := by decide +kernel
theorem dL_build_69 : decode cL_build 69 = .ok (.bipush 10, 2) := by decide +kernel
theorem dL_build_71 : decode cL_build 71 = .ok (.invokestatic 18, 3) := by decide +kernel
theorem dL_build_74 : decode cL_build 74 = .ok (.iastore, 1) := by decide +kernel
theorem dL_build_75 : decode cL_build 75 = .ok (.aload_n 0, 1) := by decide +kernel
theorem dL_build_76 : decode cL_build 76 = .ok (.iload_n 3, 1) := by decide +kernel
theorem dL_build_77 : decode cL_build 77 = .ok (.aload_n 2, 1) := by decide +kernel
theorem dL_build_78 : decode cL_build 78 = .ok (.getfield 22, 3) := by decide +kernel
theorem dL_build_81 : decode cL_build 81 = .ok (.iload_n 3, 1) := by decide +kernel
theorem dL_build_82 : decode cL_build 82 = .ok (.iaload, 1) := by decide +kernel
theorem dL_build_83 : decode cL_build 83 = .ok (.aload_n 2, 1) := by decide +kernel
theorem dL_build_84 : decode cL_build 84 = .ok (.getfield 26, 3) := by decide +kernel
theorem dL_build_87 : decode cL_build 87 = .ok (.iload_n 3, 1) := by decide +kernel
theorem dL_build_88 : decode cL_build 88 = .ok (.iaload, 1) := by decide +kernel
theorem dL_build_89 : decode cL_build 89 = .ok (.invokevirtual 29, 3) := by decide +kernel
theorem dL_build_92 : decode cL_build 92 = .ok (.bipush 34, 2) := by decide +kernel
theorem dL_build_94 : decode cL_build 94 = .ok (.if_icmp .eq 5, 3) := by decide +kernel
theorem dL_build_97 : decode cL_build 97 = .ok (.aconst_null, 1) := by decide +kernel
theorem dL_build_98 : decode cL_build 98 = .ok (.areturn, 1) := by decide +kernel
theorem dL_build_99 : decode cL_build 99 = .ok (.iinc 3 1, 3) := by decide +kernel
theorem dL_build_102 : decode cL_build 102 = .ok (.goto (-92), 3) := by decide +kernel
theorem dL_build_105 : decode cL_build 105 = .ok (.iconst 0, 1) := by decide +kernel
theorem dL_build_106 : decode cL_build 106 = .ok (.istore_n 3, 1) := by decide +kernel
theorem dL_build_107 : decode cL_build 107 = .ok (.iload_n 3, 1) := by decide +kernel
theorem dL_build_108 : decode cL_build 108 = .ok (.bipush 10, 2) := by decide +kernel
theorem dL_build_110 : decode cL_build 110 = .ok (.if_icmp .ge 61, 3) := by decide +kernel
theorem dL_build_113 : decode cL_build 113 = .ok (.aload_n 2, 1) := by decide +kernel
theorem dL_build_114 : decode cL_build 114 = .ok (.getfield 35, 3) := by decide +kernel
theorem dL_build_117 : decode cL_build 117 = .ok (.iload_n 3, 1) := by decide +kernel
theorem dL_build_118 : decode cL_build 118 = .ok (.aload_n 1, 1) := by decide +kernel
theorem dL_build_119 : decode cL_build 119 = .ok (.iconst 3, 1) := by decide +kernel
theorem dL_build_120 : decode cL_build 120 = .ok (.invokestatic 12, 3) := by decide +kernel
theorem dL_build_123 : decode cL_build 123 = .ok (.iload_n 3, 1) := by decide +kernel
theorem dL_build_124 : decode cL_build 124 = .ok (.ishr, 1) := by decide +kernel
theorem dL_build_125 : decode cL_build 125 = .ok (.iconst 3, 1) := by decide +kernel
theorem dL_build_126 : decode cL_build 126 = .ok (.invokestatic 18, 3) := by decide +kernel
theorem dL_build_129 : decode cL_build 129 = .ok (.ifCond .ne 18, 3) := by decide +kernel
theorem dL_build_132 : decode cL_build 132 = .ok (.aload_n 1, 1) := by decide +kernel
theorem dL_build_133 : decode cL_build 133 = .ok (.iconst 4, 1) := by decide +kernel
theorem dL_build_134 : decode cL_build 134 = .ok (.invokestatic 12, 3) := by decide +kernel
theorem dL_build_137 : decode cL_build 137 = .ok (.iload_n 3, 1) := by decide +kernel
theorem dL_build_138 : decode cL_build 138 = .ok (.ishr, 1) := by decide +kernel
theorem dL_build_139 : decode cL_build 139 = .ok (.bipush 10, 2) := by decide +kernel
theorem dL_build_141 : decode cL_build 141 = .ok (.invokestatic 18, 3) := by decide +kernel
theorem dL_build_144 : decode cL_build 144 = .ok (.goto 4, 3) := by decide +kernel
theorem dL_build_147 : decode cL_build 147 = .ok (.iconst 0, 1) := by decide +kernel
theorem dL_build_148 : decode cL_build 148 = .ok (.iastore, 1) := by decide +kernel
theorem dL_build_149 : decode cL_build 149 = .ok (.aload_n 0, 1) := by decide +kernel
theorem dL_build_150 : decode cL_build 150 = .ok (.iload_n 3, 1) := by decide +kernel
theorem dL_build_151 : decode cL_build 151 = .ok (.aload_n 2, 1) := by decide +kernel
theorem dL_build_152 : decode cL_build 152 = .ok (.getfield 35, 3) := by decide +kernel
theorem dL_build_155 : decode cL_build 155 = .ok (.iload_n 3, 1) := by decide +kernel
theorem dL_build_156 : decode cL_build 156 = .ok (.iaload, 1) := by decide +kernel
theorem dL_build_157 : decode cL_build 157 = .ok (.invokevirtual 38, 3) := by decide +kernel
theorem dL_build_160 : decode cL_build 160 = .ok (.ifCond .eq 5, 3) := by decide +kernel
theorem dL_build_163 : decode cL_build 163 = .ok (.aconst_null, 1) := by decide +kernel
theorem dL_build_164 : decode cL_build 164 = .ok (.areturn, 1) := by decide +kernel
theorem dL_build_165 : decode cL_build 165 = .ok (.iinc 3 1, 3) := by decide +kernel
theorem dL_build_168 : decode cL_build 168 = .ok (.goto (-61), 3) := by decide +kernel
theorem dL_build_171 : decode cL_build 171 = .ok (.iconst 0, 1) := by decide +kernel
theorem dL_build_172 : decode cL_build 172 = .ok (.istore_n 3, 1) := by decide +kernel
theorem dL_build_173 : decode cL_build 173 = .ok (.iload_n 3, 1) := by decide +kernel
theorem dL_build_174 : decode cL_build 174 = .ok (.bipush 16, 2) := by decide +kernel
theorem dL_build_176 : decode cL_build 176 = .ok (.if_icmp .ge 64, 3) := by decide +kernel
theorem dL_build_179 : decode cL_build 179 = .ok (.aload_n 1, 1) := by decide +kernel
theorem dL_build_180 : decode cL_build 180 = .ok (.iconst 5, 1) := by decide +kernel
theorem dL_build_181 : decode cL_build 181 = .ok (.iload_n 3, 1) := by decide +kernel
theorem dL_build_182 : decode cL_build 182 = .ok (.iconst 4, 1) := by decide +kernel
theorem dL_build_183 : decode cL_build 183 = .ok (.irem, 1) := by decide +kernel
theorem dL_build_184 : decode cL_build 184 = .ok (.iadd, 1) := by decide +kernel
theorem dL_build_185 : decode cL_build 185 = .ok (.invokestatic 12, 3) := by decide +kernel
theorem dL_build_188 : decode cL_build 188 = .ok (.iload_n 3, 1) := by decide +kernel
theorem dL_build_189 : decode cL_build 189 = .ok (.iconst 4, 1) := by decide +kernel
theorem dL_build_190 : decode cL_build 190 = .ok (.idiv, 1) := by decide +kernel
theorem dL_build_191 : decode cL_build 191 = .ok (.iconst 5, 1) := by decide +kernel
theorem dL_build_192 : decode cL_build 192 = .ok (.imul, 1) := by decide +kernel
theorem dL_build_193 : decode cL_build 193 = .ok (.ishr, 1) := by decide +kernel
theorem dL_build_194 : decode cL_build 194 = .ok (.bipush 41, 2) := by decide +kernel
theorem dL_build_196 : decode cL_build 196 = .ok (.iload_n 3, 1) := by decide +kernel
theorem dL_build_197 : decode cL_build 197 = .ok (.imul, 1) := by decide +kernel
theorem dL_build_198 : decode cL_build 198 = .ok (.iadd, 1) := by decide +kernel
theorem dL_build_199 : decode cL_build 199 = .ok (.istore 4, 2) := by decide +kernel
theorem dL_build_201 : decode cL_build 201 = .ok (.aload_n 0, 1) := by decide +kernel
theorem dL_build_202 : decode cL_build 202 = .ok (.aload_n 2, 1) := by decide +kernel
theorem dL_build_203 : decode cL_build 203 = .ok (.iload 4, 2) := by decide +kernel
theorem dL_build_205 : decode cL_build 205 = .ok (.invokestatic 41, 3) := by decide +kernel
theorem dL_build_208 : decode cL_build 208 = .ok (.ifCond .ne 5, 3) := by decide +kernel
theorem dL_build_211 : decode cL_build 211 = .ok (.aconst_null, 1) := by decide +kernel
theorem dL_build_212 : decode cL_build 212 = .ok (.areturn, 1) := by decide +kernel
theorem dL_build_213 : decode cL_build 213 = .ok (.iload_n 3, 1) := by decide +kernel
theorem dL_build_214 : decode cL_build 214 = .ok (.iconst 3, 1) := by decide +kernel
theorem dL_build_215 : decode cL_build 215 = .ok (.irem, 1) := by decide +kernel
theorem dL_build_216 : decode cL_build 216 = .ok (.iconst 2, 1) := by decide +kernel
theorem dL_build_217 : decode cL_build 217 = .ok (.if_icmp .ne 17, 3) := by decide +kernel
theorem dL_build_220 : decode cL_build 220 = .ok (.aload_n 0, 1) := by decide +kernel
theorem dL_build_221 : decode cL_build 221 = .ok (.iconst 1, 1) := by decide +kernel
theorem dL_build_222 : decode cL_build 222 = .ok (.invokevirtual 45, 3) := by decide +kernel
theorem dL_build_225 : decode cL_build 225 = .ok (.aload_n 2, 1) := by decide +kernel
theorem dL_build_226 : decode cL_build 226 = .ok (.invokevirtual 49, 3) := by decide +kernel
theorem dL_build_229 : decode cL_build 229 = .ok (.if_icmp .eq 5, 3) := by decide +kernel
theorem dL_build_232 : decode cL_build 232 = .ok (.aconst_null, 1) := by decide +kernel
theorem dL_build_233 : decode cL_build 233 = .ok (.areturn, 1) := by decide +kernel
theorem dL_build_234 : decode cL_build 234 = .ok (.iinc 3 1, 3) := by decide +kernel
theorem dL_build_237 : decode cL_build 237 = .ok (.goto (-64), 3) := by decide +kernel
theorem dL_build_240 : decode cL_build 240 = .ok (.aload_n 2, 1) := by decide +kernel
theorem dL_build_241 : decode cL_build 241 = .ok (.areturn, 1) := by decide +kernel
set_option maxRecDepth 20000 in
theorem ggL_act_L_below : GoodIn wsL_act wsL_below := goodIn_r _ [11, 12] (by decide +kernel) (by decide +kernel)
set_option maxRecDepth 20000 in
theorem gL_act_L_below : GoodIn wsL_act (va_wsS RL 18 yL_below wsL_below) := goodIn_app (goodIn_of _ (by decide +kernel)) ggL_act_L_below
set_option maxRecDepth 20000 in
theorem ggL_act_X1_plant : GoodIn wsL_act wsX1_plant := goodIn_ca (goodIn_ca (goodIn_r _ [17, 18, 19, 20, 21, 22, 23, 16, 24, 25, 26, 27, 28, 29, 30, 31, 32, 33, 34, 35, 36, 37, 38, 39, 40, 41, 42, 43, 44, 45, 46, 47, 48, 49, 50, 51, 52, 53, 54, 55, 56, 57, 58, 59, 60, 61, 62, 63, 148, 149, 150, 151, 152, 153, 154, 155, 156, 157, 158, 159, 160] (by decide +kernel) (by decide +kernel)) (goodIn_sub (fun _ h => List.mem_cons_of_mem _ (List.mem_append_left _ (List.mem_append_left _ (List.mem_append_right _ h)))) (by decide +kernel))) (goodIn_sub (fun _ h => List.mem_cons_of_mem _ (List.mem_append_left _ (List.mem_append_right _ h))) (by decide +kernel))
set_option maxRecDepth 20000 in
theorem gL_act_X1_plant : GoodIn wsL_act (wsV RL 52 RX1 yX1_plant wsX1_plant) := goodIn_app (goodIn_of _ (by decide +kernel)) ggL_act_X1_plant
set_option maxRecDepth 20000 in
theorem ggL_act_X2_work : GoodIn wsL_act wsX2_work := goodIn_r _ [68, 69, 70, 71, 72, 73, 74, 75, 76, 77, 78, 79, 80, 81, 82, 83, 140, 141, 142, 143, 144, 145, 146, 147, 161, 162, 163, 164] (by decide +kernel) (by decide +kernel)
set_option maxRecDepth 20000 in
theorem gL_act_X2_work : GoodIn wsL_act (wsV RL 56 RX2 yX2_work wsX2_work) := goodIn_app (goodIn_of _ (by decide +kernel)) ggL_act_X2_work
set_option maxRecDepth 20000 in
theorem ggL_act_X1_prune : GoodIn wsL_act wsX1_prune := goodIn_ca (goodIn_ca (goodIn_r _ [87, 18, 19, 20, 21, 22, 23, 16, 24, 25, 26, 27, 31, 32, 33, 88, 89, 90, 91, 92, 93, 94, 95, 96, 39, 42, 43, 44, 45, 38, 46, 47, 48, 49, 50, 51, 52, 53, 54, 55, 56, 57, 97, 98, 99, 100, 40, 41, 101, 102, 103, 104, 105, 106, 107, 108, 109, 110, 111, 58, 59, 60, 61, 62, 63, 148, 149, 150, 151, 152, 153, 154, 155, 156, 157, 158, 159, 160, 165, 166, 167, 168] (by decide +kernel) (by decide +kernel)) (goodIn_sub (fun _ h => List.mem_cons_of_mem _ (List.mem_append_left _ (List.mem_append_left _ (List.mem_append_right _ h)))) (by decide +kernel))) (goodIn_sub (fun _ h => List.mem_cons_of_mem _ (List.mem_append_left _ (List.mem_append_right _ h))) (by decide +kernel))
set_option maxRecDepth 20000 in
theorem gL_act_X1_prune : GoodIn wsL_act (wsV RL 60 RX1 yX1_prune wsX1_prune) := goodIn_app (goodIn_of _ (by decide +kernel)) ggL_act_X1_prune
set_option maxRecDepth 20000 in
theorem ggL_act_X1_graft : GoodIn wsL_act wsX1_graft := goodIn_ca (goodIn_ca (goodIn_r _ [115, 18, 19, 20, 21, 22, 23, 16, 24, 25, 26, 27, 28, 29, 30, 31, 32, 33, 116, 117, 118, 119, 38, 39, 120, 121, 4, 122, 42, 43, 44, 45, 46, 47, 48, 49, 50, 51, 52, 53, 54, 55, 56, 57, 58, 59, 60, 61, 62, 63, 148, 149, 150, 151, 152, 153, 154, 155, 156, 157, 158, 159, 160] (by decide +kernel) (by decide +kernel)) (goodIn_sub (fun _ h => List.mem_cons_of_mem _ (List.mem_append_left _ (List.mem_append_left _ (List.mem_append_right _ h)))) (by decide +kernel))) (goodIn_sub (fun _ h => List.mem_cons_of_mem _ (List.mem_append_left _ (List.mem_append_right _ h))) (by decide +kernel))
set_option maxRecDepth 20000 in
theorem gL_act_X1_graft : GoodIn wsL_act (wsV RL 63 RX1 yX1_graft wsX1_graft) := goodIn_app (goodIn_of _ (by decide +kernel)) ggL_act_X1_graft
set_option maxRecDepth 20000 in
theorem ggL_act_X1_fell : GoodIn wsL_act wsX1_fell := goodIn_ca (goodIn_r _ [126, 18, 19, 22, 23, 16, 24, 25, 26, 27, 31, 32, 33, 127, 128, 129, 130, 38, 39, 40, 41, 42, 43, 44, 45, 46, 47, 48, 49, 50, 51, 52, 53, 54, 55, 56, 57, 58, 59, 60, 61, 62, 63, 148, 149, 150, 151, 152, 153, 154, 155, 156, 157, 158, 159, 160] (by decide +kernel) (by decide +kernel)) (goodIn_sub (fun _ h => List.mem_cons_of_mem _ (List.mem_append_left _ (List.mem_append_left _ (List.mem_append_right _ h)))) (by decide +kernel))
set_option maxRecDepth 20000 in
theorem gL_act_X1_fell : GoodIn wsL_act (wsV RL 66 RX1 yX1_fell wsX1_fell) := goodIn_app (goodIn_of _ (by decide +kernel)) ggL_act_X1_fell
set_option maxRecDepth 20000 in
theorem ggL_act_X1_carry : GoodIn wsL_act wsX1_carry := goodIn_ca (goodIn_ca (goodIn_ca (goodIn_r _ [134, 18, 19, 20, 21, 135, 136, 137, 138, 139, 28, 29, 16, 30, 25, 26, 27, 148, 149, 150, 151, 152, 153, 154, 155, 156, 157, 158, 159, 160] (by decide +kernel) (by decide +kernel)) (goodIn_sub (fun _ h => List.mem_cons_of_mem _ (List.mem_append_left _ (List.mem_append_left _ (List.mem_append_right _ h)))) (by decide +kernel))) (goodIn_sub (fun _ h => List.mem_cons_of_mem _ (List.mem_append_left _ (List.mem_append_right _ h))) (by decide +kernel))) (goodIn_sub (fun _ h => List.mem_cons_of_mem _ (List.mem_append_right _ h)) (by decide +kernel))
set_option maxRecDepth 20000 in
theorem gL_act_X1_carry : GoodIn wsL_act (wsV RL 81 RX1 yX1_carry wsX1_carry) := goodIn_app (goodIn_of _ (by decide +kernel)) ggL_act_X1_carry
theorem dL_act_0 : decode cL_act 0 = .ok (.iload_n 2, 1) := by decide +kernel
theorem dL_act_1 : decode cL_act 1 = .ok (.iconst 5, 1) := by decide +kernel
theorem dL_act_2 : decode cL_act 2 = .ok (.invokestatic 18, 3) := by decide +kernel
theorem dL_act_5 : decode cL_act 5 = .ok (.istore_n 3, 1) := by decide +kernel
theorem dL_act_6 : decode cL_act 6 = .ok (.iload_n 2, 1) := by decide +kernel
theorem dL_act_7 : decode cL_act 7 = .ok (.iconst 2, 1) := by decide +kernel
theorem dL_act_8 : decode cL_act 8 = .ok (.ishr, 1) := by decide +kernel
theorem dL_act_9 : decode cL_act 9 = .ok (.bipush 8, 2) := by decide +kernel
theorem dL_act_11 : decode cL_act 11 = .ok (.invokestatic 18, 3) := by decide +kernel
theorem dL_act_14 : decode cL_act 14 = .ok (.istore 4, 2) := by decide +kernel
theorem dL_act_16 : decode cL_act 16 = .ok (.iload_n 2, 1) := by decide +kernel
theorem dL_act_17 : decode cL_act 17 = .ok (.iconst 4, 1) := by decide +kernel
theorem dL_act_18 : decode cL_act 18 = .ok (.ishr, 1) := by decide +kernel
theorem dL_act_19 : decode cL_act 19 = .ok (.bipush 6, 2) := by decide +kernel
theorem dL_act_21 : decode cL_act 21 = .ok (.invokestatic 18, 3) := by decide +kernel
theorem dL_act_24 : decode cL_act 24 = .ok (.istore 5, 2) := by decide +kernel
theorem dL_act_26 : decode cL_act 26 = .ok (.iload_n 2, 1) := by decide +kernel
theorem dL_act_27 : decode cL_act 27 = .ok (.bipush 7, 2) := by decide +kernel
theorem dL_act_29 : decode cL_act 29 = .ok (.ishr, 1) := by decide +kernel
theorem dL_act_30 : decode cL_act 30 = .ok (.bipush 8, 2) := by decide +kernel
theorem dL_act_32 : decode cL_act 32 = .ok (.invokestatic 18, 3) := by decide +kernel
theorem dL_act_35 : decode cL_act 35 = .ok (.tableswitch 203 0 6 #[41, 41, 41, 85, 85, 138, 167], 41) := by decide +kernel
theorem dL_act_76 : decode cL_act 76 = .ok (.iconst 1, 1) := by decide +kernel
theorem dL_act_77 : decode cL_act 77 = .ok (.iload_n 2, 1) := by decide +kernel
theorem dL_act_78 : decode cL_act 78 = .ok (.iconst 3, 1) := by decide +kernel
theorem dL_act_79 : decode cL_act 79 = .ok (.ishr, 1) := by decide +kernel
theorem dL_act_80 : decode cL_act 80 = .ok (.bipush 9, 2) := by decide +kernel
theorem dL_act_82 : decode cL_act 82 = .ok (.invokestatic 18, 3) := by decide +kernel
theorem dL_act_85 : decode cL_act 85 = .ok (.iadd, 1) := by decide +kernel
theorem dL_act_86 : decode cL_act 86 = .ok (.istore 6, 2) := by decide +kernel
theorem dL_act_88 : decode cL_act 88 = .ok (.aload_n 0, 1) := by decide +kernel
theorem dL_act_89 : decode cL_act 89 = .ok (.iload_n 3, 1) := by decide +kernel
theorem dL_act_90 : decode cL_act 90 = .ok (.iload 4, 2) := by decide +kernel
theorem dL_act_92 : decode cL_act 92 = .ok (.iload 5, 2) := by decide +kernel
theorem dL_act_94 : decode cL_act 94 = .ok (.iload 6, 2) := by decide +kernel
theorem dL_act_96 : decode cL_act 96 = .ok (.invokevirtual 52, 3) := by decide +kernel
theorem dL_act_99 : decode cL_act 99 = .ok (.aload_n 1, 1) := by decide +kernel
theorem dL_act_100 : decode cL_act 100 = .ok (.iconst 0, 1) := by decide +kernel
theorem dL_act_101 : decode cL_act 101 = .ok (.iload_n 3, 1) := by decide +kernel
theorem dL_act_102 : decode cL_act 102 = .ok (.iload 4, 2) := by decide +kernel
theorem dL_act_104 : decode cL_act 104 = .ok (.iload 5, 2) := by decide +kernel
theorem dL_act_106 : decode cL_act 106 = .ok (.iload 6, 2) := by decide +kernel
theorem dL_act_108 : decode cL_act 108 = .ok (.invokevirtual 56, 3) := by decide +kernel
theorem dL_act_111 : decode cL_act 111 = .ok (.if_icmp .ne 7, 3) := by decide +kernel
theorem dL_act_114 : decode cL_act 114 = .ok (.iconst 1, 1) := by decide +kernel
theorem dL_act_115 : decode cL_act 115 = .ok (.goto 4, 3) := by decide +kernel
theorem dL_act_118 : decode cL_act 118 = .ok (.iconst 0, 1) := by decide +kernel
theorem dL_act_119 : decode cL_act 119 = .ok (.ireturn, 1) := by decide +kernel
theorem dL_act_120 : decode cL_act 120 = .ok (.iconst 1, 1) := by decide +kernel
theorem dL_act_121 : decode cL_act 121 = .ok (.iload_n 2, 1) := by decide +kernel
theorem dL_act_122 : decode cL_act 122 = .ok (.iconst 5, 1) := by decide +kernel
theorem dL_act_123 : decode cL_act 123 = .ok (.ishr, 1) := by decide +kernel
theorem dL_act_124 : decode cL_act 124 = .ok (.iload_n 2, 1) := by decide +kernel
theorem dL_act_125 : decode cL_act 125 = .ok (.iconst 2, 1) := by decide +kernel
theorem dL_act_126 : decode cL_act 126 = .ok (.invokestatic 18, 3) := by decide +kernel
theorem dL_act_129 : decode cL_act 129 = .ok (.ifCond .ne 8, 3) := by decide +kernel
theorem dL_act_132 : decode cL_act 132 = .ok (.bipush 9, 2) := by decide +kernel
theorem dL_act_134 : decode cL_act 134 = .ok (.goto 4, 3) := by decide +kernel
theorem dL_act_137 : decode cL_act 137 = .ok (.iconst 3, 1) := by decide +kernel
theorem dL_act_138 : decode cL_act 138 = .ok (.invokestatic 18, 3) := by decide +kernel
theorem dL_act_141 : decode cL_act 141 = .ok (.iadd, 1) := by decide +kernel
theorem dL_act_142 : decode cL_act 142 = .ok (.istore 7, 2) := by decide +kernel
theorem dL_act_144 : decode cL_act 144 = .ok (.aload_n 0, 1) := by decide +kernel
theorem dL_act_145 : decode cL_act 145 = .ok (.iload_n 3, 1) := by decide +kernel
theorem dL_act_146 : decode cL_act 146 = .ok (.iload 4, 2) := by decide +kernel
theorem dL_act_148 : decode cL_act 148 = .ok (.iload 7, 2) := by decide +kernel
theorem dL_act_150 : decode cL_act 150 = .ok (.invokevirtual 60, 3) := by decide +kernel
theorem dL_act_153 : decode cL_act 153 = .ok (.aload_n 1, 1) := by decide +kernel
theorem dL_act_154 : decode cL_act 154 = .ok (.iconst 1, 1) := by decide +kernel
theorem dL_act_155 : decode cL_act 155 = .ok (.iload_n 3, 1) := by decide +kernel
theorem dL_act_156 : decode cL_act 156 = .ok (.iload 4, 2) := by decide +kernel
theorem dL_act_158 : decode cL_act 158 = .ok (.iload 7, 2) := by decide +kernel
theorem dL_act_160 : decode cL_act 160 = .ok (.iconst 0, 1) := by decide +kernel
theorem dL_act_161 : decode cL_act 161 = .ok (.invokevirtual 56, 3) := by decide +kernel
theorem dL_act_164 : decode cL_act 164 = .ok (.if_icmp .ne 7, 3) := by decide +kernel
theorem dL_act_167 : decode cL_act 167 = .ok (.iconst 1, 1) := by decide +kernel
theorem dL_act_168 : decode cL_act 168 = .ok (.goto 4, 3) := by decide +kernel
theorem dL_act_171 : decode cL_act 171 = .ok (.iconst 0, 1) := by decide +kernel
theorem dL_act_172 : decode cL_act 172 = .ok (.ireturn, 1) := by decide +kernel
theorem dL_act_173 : decode cL_act 173 = .ok (.aload_n 0, 1) := by decide +kernel
theorem dL_act_174 : decode cL_act 174 = .ok (.iload_n 3, 1) := by decide +kernel
theorem dL_act_175 : decode cL_act 175 = .ok (.iload 4, 2) := by decide +kernel
theorem dL_act_177 : decode cL_act 177 = .ok (.iload 5, 2) := by decide +kernel
theorem dL_act_179 : decode cL_act 179 = .ok (.invokevirtual 63, 3) := by decide +kernel
theorem dL_act_182 : decode cL_act 182 = .ok (.aload_n 1, 1) := by decide +kernel
theorem dL_act_183 : decode cL_act 183 = .ok (.iconst 2, 1) := by decide +kernel
theorem dL_act_184 : decode cL_act 184 = .ok (.iload_n 3, 1) := by decide +kernel
theorem dL_act_185 : decode cL_act 185 = .ok (.iload 4, 2) := by decide +kernel
theorem dL_act_187 : decode cL_act 187 = .ok (.iload 5, 2) := by decide +kernel
theorem dL_act_189 : decode cL_act 189 = .ok (.iconst 0, 1) := by decide +kernel
theorem dL_act_190 : decode cL_act 190 = .ok (.invokevirtual 56, 3) := by decide +kernel
theorem dL_act_193 : decode cL_act 193 = .ok (.if_icmp .ne 7, 3) := by decide +kernel
theorem dL_act_196 : decode cL_act 196 = .ok (.iconst 1, 1) := by decide +kernel
theorem dL_act_197 : decode cL_act 197 = .ok (.goto 4, 3) := by decide +kernel
theorem dL_act_200 : decode cL_act 200 = .ok (.iconst 0, 1) := by decide +kernel
theorem dL_act_201 : decode cL_act 201 = .ok (.ireturn, 1) := by decide +kernel
theorem dL_act_202 : decode cL_act 202 = .ok (.iload_n 2, 1) := by decide +kernel
theorem dL_act_203 : decode cL_act 203 = .ok (.iconst 5, 1) := by decide +kernel
theorem dL_act_204 : decode cL_act 204 = .ok (.ishr, 1) := by decide +kernel
theorem dL_act_205 : decode cL_act 205 = .ok (.iconst 3, 1) := by decide +kernel
theorem dL_act_206 : decode cL_act 206 = .ok (.invokestatic 18, 3) := by decide +kernel
theorem dL_act_209 : decode cL_act 209 = .ok (.ifCond .gt 23, 3) := by decide +kernel
theorem dL_act_212 : decode cL_act 212 = .ok (.aload_n 0, 1) := by decide +kernel
theorem dL_act_213 : decode cL_act 213 = .ok (.iload_n 3, 1) := by decide +kernel
theorem dL_act_214 : decode cL_act 214 = .ok (.iload 4, 2) := by decide +kernel
theorem dL_act_216 : decode cL_act 216 = .ok (.invokevirtual 66, 3) := by decide +kernel
theorem dL_act_219 : decode cL_act 219 = .ok (.aload_n 1, 1) := by decide +kernel
theorem dL_act_220 : decode cL_act 220 = .ok (.iconst 3, 1) := by decide +kernel
theorem dL_act_221 : decode cL_act 221 = .ok (.iload_n 3, 1) := by decide +kernel
theorem dL_act_222 : decode cL_act 222 = .ok (.iload 4, 2) := by decide +kernel
theorem dL_act_224 : decode cL_act 224 = .ok (.iconst 0, 1) := by decide +kernel
theorem dL_act_225 : decode cL_act 225 = .ok (.iconst 0, 1) := by decide +kernel
theorem dL_act_226 : decode cL_act 226 = .ok (.invokevirtual 56, 3) := by decide +kernel
theorem dL_act_229 : decode cL_act 229 = .ok (.if_icmp .ne 7, 3) := by decide +kernel
theorem dL_act_232 : decode cL_act 232 = .ok (.iconst 1, 1) := by decide +kernel
theorem dL_act_233 : decode cL_act 233 = .ok (.goto 4, 3) := by decide +kernel
theorem dL_act_236 : decode cL_act 236 = .ok (.iconst 0, 1) := by decide +kernel
theorem dL_act_237 : decode cL_act 237 = .ok (.ireturn, 1) := by decide +kernel
theorem dL_act_238 : decode cL_act 238 = .ok (.sipush 400, 3) := by decide +kernel
theorem dL_act_241 : decode cL_act 241 = .ok (.aload_n 1, 1) := by decide +kernel
theorem dL_act_242 : decode cL_act 242 = .ok (.getfield 69, 3) := by decide +kernel
theorem dL_act_245 : decode cL_act 245 = .ok (.iload 5, 2) := by decide +kernel
theorem dL_act_247 : decode cL_act 247 = .ok (.iaload, 1) := by decide +kernel
theorem dL_act_248 : decode cL_act 248 = .ok (.invokestatic 72, 3) := by decide +kernel
theorem dL_act_251 : decode cL_act 251 = .ok (.istore 8, 2) := by decide +kernel
theorem dL_act_253 : decode cL_act 253 = .ok (.iload 8, 2) := by decide +kernel
theorem dL_act_255 : decode cL_act 255 = .ok (.ifCond .ne 5, 3) := by decide +kernel
theorem dL_act_258 : decode cL_act 258 = .ok (.iconst 1, 1) := by decide +kernel
theorem dL_act_259 : decode cL_act 259 = .ok (.ireturn, 1) := by decide +kernel
theorem dL_act_260 : decode cL_act 260 = .ok (.sipush 200, 3) := by decide +kernel
theorem dL_act_263 : decode cL_act 263 = .ok (.iload_n 2, 1) := by decide +kernel
theorem dL_act_264 : decode cL_act 264 = .ok (.iconst 1, 1) := by decide +kernel
theorem dL_act_265 : decode cL_act 265 = .ok (.ishr, 1) := by decide +kernel
theorem dL_act_266 : decode cL_act 266 = .ok (.iload 8, 2) := by decide +kernel
theorem dL_act_268 : decode cL_act 268 = .ok (.iconst 1, 1) := by decide +kernel
theorem dL_act_269 : decode cL_act 269 = .ok (.iadd, 1) := by decide +kernel
theorem dL_act_270 : decode cL_act 270 = .ok (.invokestatic 18, 3) := by decide +kernel
theorem dL_act_273 : decode cL_act 273 = .ok (.invokestatic 72, 3) := by decide +kernel
theorem dL_act_276 : decode cL_act 276 = .ok (.istore 9, 2) := by decide +kernel
theorem dL_act_278 : decode cL_act 278 = .ok (.sipush 200, 3) := by decide +kernel
theorem dL_act_281 : decode cL_act 281 = .ok (.iload_n 2, 1) := by decide +kernel
theorem dL_act_282 : decode cL_act 282 = .ok (.iconst 5, 1) := by decide +kernel
theorem dL_act_283 : decode cL_act 283 = .ok (.ishr, 1) := by decide +kernel
theorem dL_act_284 : decode cL_act 284 = .ok (.iload 8, 2) := by decide +kernel
theorem dL_act_286 : decode cL_act 286 = .ok (.iload 9, 2) := by decide +kernel
theorem dL_act_288 : decode cL_act 288 = .ok (.isub, 1) := by decide +kernel
theorem dL_act_289 : decode cL_act 289 = .ok (.iconst 1, 1) := by decide +kernel
theorem dL_act_290 : decode cL_act 290 = .ok (.iadd, 1) := by decide +kernel
theorem dL_act_291 : decode cL_act 291 = .ok (.invokestatic 18, 3) := by decide +kernel
theorem dL_act_294 : decode cL_act 294 = .ok (.invokestatic 72, 3) := by decide +kernel
theorem dL_act_297 : decode cL_act 297 = .ok (.istore 10, 2) := by decide +kernel
theorem dL_act_299 : decode cL_act 299 = .ok (.iload 9, 2) := by decide +kernel
theorem dL_act_301 : decode cL_act 301 = .ok (.iload 10, 2) := by decide +kernel
theorem dL_act_303 : decode cL_act 303 = .ok (.iadd, 1) := by decide +kernel
theorem dL_act_304 : decode cL_act 304 = .ok (.ifCond .ne 5, 3) := by decide +kernel
theorem dL_act_307 : decode cL_act 307 = .ok (.iconst 1, 1) := by decide +kernel
theorem dL_act_308 : decode cL_act 308 = .ok (.ireturn, 1) := by decide +kernel
theorem dL_act_309 : decode cL_act 309 = .ok (.aload_n 1, 1) := by decide +kernel
theorem dL_act_310 : decode cL_act 310 = .ok (.getfield 69, 3) := by decide +kernel
theorem dL_act_313 : decode cL_act 313 = .ok (.iload 5, 2) := by decide +kernel
theorem dL_act_315 : decode cL_act 315 = .ok (.dup2, 1) := by decide +kernel
theorem dL_act_316 : decode cL_act 316 = .ok (.iaload, 1) := by decide +kernel
theorem dL_act_317 : decode cL_act 317 = .ok (.iload 9, 2) := by decide +kernel
theorem dL_act_319 : decode cL_act 319 = .ok (.iload 10, 2) := by decide +kernel
theorem dL_act_321 : decode cL_act 321 = .ok (.iadd, 1) := by decide +kernel
theorem dL_act_322 : decode cL_act 322 = .ok (.isub, 1) := by decide +kernel
theorem dL_act_323 : decode cL_act 323 = .ok (.iastore, 1) := by decide +kernel
theorem dL_act_324 : decode cL_act 324 = .ok (.aload_n 1, 1) := by decide +kernel
theorem dL_act_325 : decode cL_act 325 = .ok (.dup, 1) := by decide +kernel
theorem dL_act_326 : decode cL_act 326 = .ok (.getfield 77, 3) := by decide +kernel
theorem dL_act_329 : decode cL_act 329 = .ok (.aload_n 1, 1) := by decide +kernel
theorem dL_act_330 : decode cL_act 330 = .ok (.getfield 22, 3) := by decide +kernel
theorem dL_act_333 : decode cL_act 333 = .ok (.iload 5, 2) := by decide +kernel
theorem dL_act_335 : decode cL_act 335 = .ok (.iaload, 1) := by decide +kernel
theorem dL_act_336 : decode cL_act 336 = .ok (.iload 9, 2) := by decide +kernel
theorem dL_act_338 : decode cL_act 338 = .ok (.imul, 1) := by decide +kernel
theorem dL_act_339 : decode cL_act 339 = .ok (.aload_n 1, 1) := by decide +kernel
theorem dL_act_340 : decode cL_act 340 = .ok (.getfield 22, 3) := by decide +kernel
theorem dL_act_343 : decode cL_act 343 = .ok (.iload 5, 2) := by decide +kernel
theorem dL_act_345 : decode cL_act 345 = .ok (.iaload, 1) := by decide +kernel
theorem dL_act_346 : decode cL_act 346 = .ok (.iload 10, 2) := by decide +kernel
theorem dL_act_348 : decode cL_act 348 = .ok (.imul, 1) := by decide +kernel
theorem dL_act_349 : decode cL_act 349 = .ok (.isub, 1) := by decide +kernel
theorem dL_act_350 : decode cL_act 350 = .ok (.iadd, 1) := by decide +kernel
theorem dL_act_351 : decode cL_act 351 = .ok (.putfield 77, 3) := by decide +kernel
theorem dL_act_354 : decode cL_act 354 = .ok (.aload_n 0, 1) := by decide +kernel
theorem dL_act_355 : decode cL_act 355 = .ok (.iload 5, 2) := by decide +kernel
theorem dL_act_357 : decode cL_act 357 = .ok (.iload 9, 2) := by decide +kernel
theorem dL_act_359 : decode cL_act 359 = .ok (.iload 10, 2) := by decide +kernel
theorem dL_act_361 : decode cL_act 361 = .ok (.invokevirtual 81, 3) := by decide +kernel
theorem dL_act_364 : decode cL_act 364 = .ok (.aload_n 1, 1) := by decide +kernel
theorem dL_act_365 : decode cL_act 365 = .ok (.getfield 69, 3) := by decide +kernel
theorem dL_act_368 : decode cL_act 368 = .ok (.iload 5, 2) := by decide +kernel
theorem dL_act_370 : decode cL_act 370 = .ok (.iaload, 1) := by decide +kernel
theorem dL_act_371 : decode cL_act 371 = .ok (.if_icmp .ne 7, 3) := by decide +kernel
theorem dL_act_374 : decode cL_act 374 = .ok (.iconst 1, 1) := by decide +kernel
theorem dL_act_375 : decode cL_act 375 = .ok (.goto 4, 3) := by decide +kernel
theorem dL_act_378 : decode cL_act 378 = .ok (.iconst 0, 1) := by decide +kernel
theorem dL_act_379 : decode cL_act 379 = .ok (.ireturn, 1) := by decide +kernel
set_option maxRecDepth 20000 in
theorem ggL_trees_X1_tree : GoodIn wsL_trees wsX1_tree := goodIn_ca (goodIn_r _ [7, 8, 9, 10, 11, 12, 13, 14, 15, 6, 16, 17, 18, 19, 20, 21, 22, 23, 24, 25, 26, 27, 28, 29, 30, 31, 32, 33, 34, 35, 36, 37, 38, 39, 40, 41, 42, 43, 44, 45, 46, 47, 48, 49, 50, 51, 52, 53, 54, 55, 56, 57, 58, 59, 60] (by decide +kernel) (by decide +kernel)) (goodIn_sub (fun _ h => List.mem_cons_of_mem _ (List.mem_append_right _ h)) (by decide +kernel))
set_option maxRecDepth 20000 in
theorem gL_trees_X1_tree : GoodIn wsL_trees (wsV RL 128 RX1 yX1_tree wsX1_tree) := goodIn_app (goodIn_of _ (by decide +kernel)) ggL_trees_X1_tree
theorem dL_trees_0 : decode cL_trees 0 = .ok (.bipush 40, 2) := by decide +kernel
theorem dL_trees_2 : decode cL_trees 2 = .ok (.iconst 5, 1) := by decide +kernel
theorem dL_trees_3 : decode cL_trees 3 = .ok (.multianewarray 126 2, 4) := by decide +kernel
theorem dL_trees_7 : decode cL_trees 7 = .ok (.astore_n 1, 1) := by decide +kernel
theorem dL_trees_8 : decode cL_trees 8 = .ok (.iconst 0, 1) := by decide +kernel
theorem dL_trees_9 : decode cL_trees 9 = .ok (.istore_n 2, 1) := by decide +kernel
theorem dL_trees_10 : decode cL_trees 10 = .ok (.iload_n 2, 1) := by decide +kernel
theorem dL_trees_11 : decode cL_trees 11 = .ok (.bipush 40, 2) := by decide +kernel
theorem dL_trees_13 : decode cL_trees 13 = .ok (.if_icmp .ge 40, 3) := by decide +kernel
theorem dL_trees_16 : decode cL_trees 16 = .ok (.iconst 0, 1) := by decide +kernel
theorem dL_trees_17 : decode cL_trees 17 = .ok (.istore_n 3, 1) := by decide +kernel
theorem dL_trees_18 : decode cL_trees 18 = .ok (.iload_n 3, 1) := by decide +kernel
theorem dL_trees_19 : decode cL_trees 19 = .ok (.iconst 5, 1) := by decide +kernel
theorem dL_trees_20 : decode cL_trees 20 = .ok (.if_icmp .ge 27, 3) := by decide +kernel
theorem dL_trees_23 : decode cL_trees 23 = .ok (.aload_n 1, 1) := by decide +kernel
theorem dL_trees_24 : decode cL_trees 24 = .ok (.iload_n 2, 1) := by decide +kernel
theorem dL_trees_25 : decode cL_trees 25 = .ok (.aaload, 1) := by decide +kernel
theorem dL_trees_26 : decode cL_trees 26 = .ok (.iload_n 3, 1) := by decide +kernel
theorem dL_trees_27 : decode cL_trees 27 = .ok (.aload_n 0, 1) := by decide +kernel
theorem dL_trees_28 : decode cL_trees 28 = .ok (.iload_n 2, 1) := by decide +kernel
theorem dL_trees_29 : decode cL_trees 29 = .ok (.bipush 8, 2) := by decide +kernel
theorem dL_trees_31 : decode cL_trees 31 = .ok (.idiv, 1) := by decide +kernel
theorem dL_trees_32 : decode cL_trees 32 = .ok (.iload_n 2, 1) := by decide +kernel
theorem dL_trees_33 : decode cL_trees 33 = .ok (.bipush 8, 2) := by decide +kernel
theorem dL_trees_35 : decode cL_trees 35 = .ok (.irem, 1) := by decide +kernel
theorem dL_trees_36 : decode cL_trees 36 = .ok (.iload_n 3, 1) := by decide +kernel
theorem dL_trees_37 : decode cL_trees 37 = .ok (.invokevirtual 128, 3) := by decide +kernel
theorem dL_trees_40 : decode cL_trees 40 = .ok (.iastore, 1) := by decide +kernel
theorem dL_trees_41 : decode cL_trees 41 = .ok (.iinc 3 1, 3) := by decide +kernel
theorem dL_trees_44 : decode cL_trees 44 = .ok (.goto (-26), 3) := by decide +kernel
theorem dL_trees_47 : decode cL_trees 47 = .ok (.iinc 2 1, 3) := by decide +kernel
theorem dL_trees_50 : decode cL_trees 50 = .ok (.goto (-40), 3) := by decide +kernel
theorem dL_trees_53 : decode cL_trees 53 = .ok (.aload_n 1, 1) := by decide +kernel
theorem dL_trees_54 : decode cL_trees 54 = .ok (.areturn, 1) := by decide +kernel
theorem dL_same_0 : decode cL_same 0 = .ok (.iconst 0, 1) := by decide +kernel
theorem dL_same_1 : decode cL_same 1 = .ok (.istore_n 2, 1) := by decide +kernel
theorem dL_same_2 : decode cL_same 2 = .ok (.iload_n 2, 1) := by decide +kernel
theorem dL_same_3 : decode cL_same 3 = .ok (.iconst 5, 1) := by decide +kernel
theorem dL_same_4 : decode cL_same 4 = .ok (.if_icmp .ge 20, 3) := by decide +kernel
theorem dL_same_7 : decode cL_same 7 = .ok (.aload_n 0, 1) := by decide +kernel
theorem dL_same_8 : decode cL_same 8 = .ok (.iload_n 2, 1) := by decide +kernel
theorem dL_same_9 : decode cL_same 9 = .ok (.iaload, 1) := by decide +kernel
theorem dL_same_10 : decode cL_same 10 = .ok (.aload_n 1, 1) := by decide +kernel
theorem dL_same_11 : decode cL_same 11 = .ok (.iload_n 2, 1) := by decide +kernel
theorem dL_same_12 : decode cL_same 12 = .ok (.iaload, 1) := by decide +kernel
theorem dL_same_13 : decode cL_same 13 = .ok (.if_icmp .eq 5, 3) := by decide +kernel
theorem dL_same_16 : decode cL_same 16 = .ok (.iconst 0, 1) := by decide +kernel
theorem dL_same_17 : decode cL_same 17 = .ok (.ireturn, 1) := by decide +kernel
theorem dL_same_18 : decode cL_same 18 = .ok (.iinc 2 1, 3) := by decide +kernel
theorem dL_same_21 : decode cL_same 21 = .ok (.goto (-19), 3) := by decide +kernel
theorem dL_same_24 : decode cL_same 24 = .ok (.iconst 1, 1) := by decide +kernel
theorem dL_same_25 : decode cL_same 25 = .ok (.ireturn, 1) := by decide +kernel
theorem dL_alike_0 : decode cL_alike 0 = .ok (.aload_n 0, 1) := by decide +kernel
theorem dL_alike_1 : decode cL_alike 1 = .ok (.iload_n 1, 1) := by decide +kernel
theorem dL_alike_2 : decode cL_alike 2 = .ok (.aaload, 1) := by decide +kernel
theorem dL_alike_3 : decode cL_alike 3 = .ok (.iconst 0, 1) := by decide +kernel
theorem dL_alike_4 : decode cL_alike 4 = .ok (.iaload, 1) := by decide +kernel
theorem dL_alike_5 : decode cL_alike 5 = .ok (.aload_n 0, 1) := by decide +kernel
theorem dL_alike_6 : decode cL_alike 6 = .ok (.iload_n 2, 1) := by decide +kernel
theorem dL_alike_7 : decode cL_alike 7 = .ok (.aaload, 1) := by decide +kernel
theorem dL_alike_8 : decode cL_alike 8 = .ok (.iconst 0, 1) := by decide +kernel
theorem dL_alike_9 : decode cL_alike 9 = .ok (.iaload, 1) := by decide +kernel
theorem dL_alike_10 : decode cL_alike 10 = .ok (.if_icmp .ne 33, 3) := by decide +kernel
theorem dL_alike_13 : decode cL_alike 13 = .ok (.aload_n 0, 1) := by decide +kernel
theorem dL_alike_14 : decode cL_alike 14 = .ok (.iload_n 1, 1) := by decide +kernel
theorem dL_alike_15 : decode cL_alike 15 = .ok (.aaload, 1) := by decide +kernel
theorem dL_alike_16 : decode cL_alike 16 = .ok (.iconst 1, 1) := by decide +kernel
theorem dL_alike_17 : decode cL_alike 17 = .ok (.iaload, 1) := by decide +kernel
theorem dL_alike_18 : decode cL_alike 18 = .ok (.aload_n 0, 1) := by decide +kernel
theorem dL_alike_19 : decode cL_alike 19 = .ok (.iload_n 2, 1) := by decide +kernel
theorem dL_alike_20 : decode cL_alike 20 = .ok (.aaload, 1) := by decide +kernel
theorem dL_alike_21 : decode cL_alike 21 = .ok (.iconst 1, 1) := by decide +kernel
theorem dL_alike_22 : decode cL_alike 22 = .ok (.iaload, 1) := by decide +kernel
theorem dL_alike_23 : decode cL_alike 23 = .ok (.if_icmp .ne 20, 3) := by decide +kernel
theorem dL_alike_26 : decode cL_alike 26 = .ok (.aload_n 0, 1) := by decide +kernel
theorem dL_alike_27 : decode cL_alike 27 = .ok (.iload_n 1, 1) := by decide +kernel
theorem dL_alike_28 : decode cL_alike 28 = .ok (.aaload, 1) := by decide +kernel
theorem dL_alike_29 : decode cL_alike 29 = .ok (.iconst 3, 1) := by decide +kernel
theorem dL_alike_30 : decode cL_alike 30 = .ok (.iaload, 1) := by decide +kernel
theorem dL_alike_31 : decode cL_alike 31 = .ok (.aload_n 0, 1) := by decide +kernel
theorem dL_alike_32 : decode cL_alike 32 = .ok (.iload_n 2, 1) := by decide +kernel
theorem dL_alike_33 : decode cL_alike 33 = .ok (.aaload, 1) := by decide +kernel
theorem dL_alike_34 : decode cL_alike 34 = .ok (.iconst 3, 1) := by decide +kernel
theorem dL_alike_35 : decode cL_alike 35 = .ok (.iaload, 1) := by decide +kernel
theorem dL_alike_36 : decode cL_alike 36 = .ok (.if_icmp .ne 7, 3) := by decide +kernel
theorem dL_alike_39 : decode cL_alike 39 = .ok (.iconst 1, 1) := by decide +kernel
theorem dL_alike_40 : decode cL_alike 40 = .ok (.goto 4, 3) := by decide +kernel
theorem dL_alike_43 : decode cL_alike 43 = .ok (.iconst 0, 1) := by decide +kernel
theorem dL_alike_44 : decode cL_alike 44 = .ok (.ireturn, 1) := by decide +kernel
set_option maxRecDepth 20000 in
theorem ggL_even_X1_sort : GoodIn wsL_even wsX1_sort := goodIn_ca (goodIn_r _ [9, 10, 11, 12, 13, 14, 15, 16, 8, 17, 18, 19, 20, 21, 22, 23, 24, 25, 26, 27, 28, 29, 30, 31, 32, 33, 34, 35, 36, 37, 38] (by decide +kernel) (by decide +kernel)) (goodIn_sub (fun _ h => List.mem_cons_of_mem _ (List.mem_append_right _ h)) (by decide +kernel))
set_option maxRecDepth 20000 in
theorem gL_even_X1_sort : GoodIn wsL_even (wsV RL 106 RX1 yX1_sort wsX1_sort) := goodIn_app (goodIn_of _ (by decide +kernel)) ggL_even_X1_sort
theorem dL_even_0 : decode cL_even 0 = .ok (.iconst 0, 1) := by decide +kernel
theorem dL_even_1 : decode cL_even 1 = .ok (.istore_n 1, 1) := by decide +kernel
theorem dL_even_2 : decode cL_even 2 = .ok (.iconst 0, 1) := by decide +kernel
theorem dL_even_3 : decode cL_even 3 = .ok (.istore_n 2, 1) := by decide +kernel
theorem dL_even_4 : decode cL_even 4 = .ok (.iload_n 2, 1) := by decide +kernel
theorem dL_even_5 : decode cL_even 5 = .ok (.bipush 6, 2) := by decide +kernel
theorem dL_even_7 : decode cL_even 7 = .ok (.if_icmp .ge 30, 3) := by decide +kernel
theorem dL_even_10 : decode cL_even 10 = .ok (.iload_n 1, 1) := by decide +kernel
theorem dL_even_11 : decode cL_even 11 = .ok (.aload_n 0, 1) := by decide +kernel
theorem dL_even_12 : decode cL_even 12 = .ok (.iload_n 2, 1) := by decide +kernel
theorem dL_even_13 : decode cL_even 13 = .ok (.iconst 0, 1) := by decide +kernel
theorem dL_even_14 : decode cL_even 14 = .ok (.invokevirtual 106, 3) := by decide +kernel
theorem dL_even_17 : decode cL_even 17 = .ok (.bipush 20, 2) := by decide +kernel
theorem dL_even_19 : decode cL_even 19 = .ok (.aload_n 0, 1) := by decide +kernel
theorem dL_even_20 : decode cL_even 20 = .ok (.iload_n 2, 1) := by decide +kernel
theorem dL_even_21 : decode cL_even 21 = .ok (.iconst 2, 1) := by decide +kernel
theorem dL_even_22 : decode cL_even 22 = .ok (.invokevirtual 106, 3) := by decide +kernel
theorem dL_even_25 : decode cL_even 25 = .ok (.invokestatic 72, 3) := by decide +kernel
theorem dL_even_28 : decode cL_even 28 = .ok (.imul, 1) := by decide +kernel
theorem dL_even_29 : decode cL_even 29 = .ok (.iadd, 1) := by decide +kernel
theorem dL_even_30 : decode cL_even 30 = .ok (.istore_n 1, 1) := by decide +kernel
theorem dL_even_31 : decode cL_even 31 = .ok (.iinc 2 1, 3) := by decide +kernel
theorem dL_even_34 : decode cL_even 34 = .ok (.goto (-30), 3) := by decide +kernel
theorem dL_even_37 : decode cL_even 37 = .ok (.iload_n 1, 1) := by decide +kernel
theorem dL_even_38 : decode cL_even 38 = .ok (.iconst 2, 1) := by decide +kernel
theorem dL_even_39 : decode cL_even 39 = .ok (.irem, 1) := by decide +kernel
theorem dL_even_40 : decode cL_even 40 = .ok (.ireturn, 1) := by decide +kernel
