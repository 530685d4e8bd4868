theorem dX2_init_0 : decode cX2_init 0 = .ok (.aload_n 0, 1) := by decide +kernel
theorem dX2_init_1 : decode cX2_init 1 = .ok (.invokespecial 1, 3) := by decide +kernel
theorem dX2_init_4 : decode cX2_init 4 = .ok (.aload_n 0, 1) := by decide +kernel
theorem dX2_init_5 : decode cX2_init 5 = .ok (.iconst 5, 1) := by decide +kernel
theorem dX2_init_6 : decode cX2_init 6 = .ok (.bipush 8, 2) := by decide +kernel
theorem dX2_init_8 : decode cX2_init 8 = .ok (.multianewarray 7 2, 4) := by decide +kernel
theorem dX2_init_12 : decode cX2_init 12 = .ok (.putfield 9, 3) := by decide +kernel
theorem dX2_init_15 : decode cX2_init 15 = .ok (.aload_n 0, 1) := by decide +kernel
theorem dX2_init_16 : decode cX2_init 16 = .ok (.bipush 6, 2) := by decide +kernel
theorem dX2_init_18 : decode cX2_init 18 = .ok (.newarray .int, 2) := by decide +kernel
theorem dX2_init_20 : decode cX2_init 20 = .ok (.dup, 1) := by decide +kernel
theorem dX2_init_21 : decode cX2_init 21 = .ok (.iconst 0, 1) := by decide +kernel
theorem dX2_init_22 : decode cX2_init 22 = .ok (.iconst 3, 1) := by decide +kernel
theorem dX2_init_23 : decode cX2_init 23 = .ok (.iastore, 1) := by decide +kernel
theorem dX2_init_24 : decode cX2_init 24 = .ok (.dup, 1) := by decide +kernel
theorem dX2_init_25 : decode cX2_init 25 = .ok (.iconst 1, 1) := by decide +kernel
theorem dX2_init_26 : decode cX2_init 26 = .ok (.iconst 3, 1) := by decide +kernel
theorem dX2_init_27 : decode cX2_init 27 = .ok (.iastore, 1) := by decide +kernel
theorem dX2_init_28 : decode cX2_init 28 = .ok (.dup, 1) := by decide +kernel
theorem dX2_init_29 : decode cX2_init 29 = .ok (.iconst 2, 1) := by decide +kernel
theorem dX2_init_30 : decode cX2_init 30 = .ok (.iconst 3, 1) := by decide +kernel
theorem dX2_init_31 : decode cX2_init 31 = .ok (.iastore, 1) := by decide +kernel
theorem dX2_init_32 : decode cX2_init 32 = .ok (.dup, 1) := by decide +kernel
theorem dX2_init_33 : decode cX2_init 33 = .ok (.iconst 3, 1) := by decide +kernel
theorem dX2_init_34 : decode cX2_init 34 = .ok (.iconst 3, 1) := by decide +kernel
theorem dX2_init_35 : decode cX2_init 35 = .ok (.iastore, 1) := by decide +kernel
theorem dX2_init_36 : decode cX2_init 36 = .ok (.dup, 1) := by decide +kernel
theorem dX2_init_37 : decode cX2_init 37 = .ok (.iconst 4, 1) := by decide +kernel
theorem dX2_init_38 : decode cX2_init 38 = .ok (.iconst 3, 1) := by decide +kernel
theorem dX2_init_39 : decode cX2_init 39 = .ok (.iastore, 1) := by decide +kernel
theorem dX2_init_40 : decode cX2_init 40 = .ok (.dup, 1) := by decide +kernel
theorem dX2_init_41 : decode cX2_init 41 = .ok (.iconst 5, 1) := by decide +kernel
theorem dX2_init_42 : decode cX2_init 42 = .ok (.iconst 3, 1) := by decide +kernel
theorem dX2_init_43 : decode cX2_init 43 = .ok (.iastore, 1) := by decide +kernel
theorem dX2_init_44 : decode cX2_init 44 = .ok (.putfield 14, 3) := by decide +kernel
theorem dX2_init_47 : decode cX2_init 47 = .ok (.aload_n 0, 1) := by decide +kernel
theorem dX2_init_48 : decode cX2_init 48 = .ok (.bipush 6, 2) := by decide +kernel
theorem dX2_init_50 : decode cX2_init 50 = .ok (.newarray .int, 2) := by decide +kernel
theorem dX2_init_52 : decode cX2_init 52 = .ok (.dup, 1) := by decide +kernel
theorem dX2_init_53 : decode cX2_init 53 = .ok (.iconst 0, 1) := by decide +kernel
theorem dX2_init_54 : decode cX2_init 54 = .ok (.iconst 4, 1) := by decide +kernel
theorem dX2_init_55 : decode cX2_init 55 = .ok (.iastore, 1) := by decide +kernel
theorem dX2_init_56 : decode cX2_init 56 = .ok (.dup, 1) := by decide +kernel
theorem dX2_init_57 : decode cX2_init 57 = .ok (.iconst 1, 1) := by decide +kernel
theorem dX2_init_58 : decode cX2_init 58 = .ok (.iconst 4, 1) := by decide +kernel
theorem dX2_init_59 : decode cX2_init 59 = .ok (.iastore, 1) := by decide +kernel
theorem dX2_init_60 : decode cX2_init 60 = .ok (.dup, 1) := by decide +kernel
theorem dX2_init_61 : decode cX2_init 61 = .ok (.iconst 2, 1) := by decide +kernel
theorem dX2_init_62 : decode cX2_init 62 = .ok (.iconst 4, 1) := by decide +kernel
theorem dX2_init_63 : decode cX2_init 63 = .ok (.iastore, 1) := by decide +kernel
theorem dX2_init_64 : decode cX2_init 64 = .ok (.dup, 1) := by decide +kernel
theorem dX2_init_65 : decode cX2_init 65 = .ok (.iconst 3, 1) := by decide +kernel
theorem dX2_init_66 : decode cX2_init 66 = .ok (.iconst 4, 1) := by decide +kernel
theorem dX2_init_67 : decode cX2_init 67 = .ok (.iastore, 1) := by decide +kernel
theorem dX2_init_68 : decode cX2_init 68 = .ok (.dup, 1) := by decide +kernel
theorem dX2_init_69 : decode cX2_init 69 = .ok (.iconst 4, 1) := by decide +kernel
theorem dX2_init_70 : decode cX2_init 70 = .ok (.iconst 4, 1) := by decide +kernel
theorem dX2_init_71 : decode cX2_init 71 = .ok (.iastore, 1) := by decide +kernel
theorem dX2_init_72 : decode cX2_init 72 = .ok (.dup, 1) := by decide +kernel
theorem dX2_init_73 : decode cX2_init 73 = .ok (.iconst 5, 1) := by decide +kernel
theorem dX2_init_74 : decode cX2_init 74 = .ok (.iconst 4, 1) := by decide +kernel
theorem dX2_init_75 : decode cX2_init 75 = .ok (.iastore, 1) := by decide +kernel
theorem dX2_init_76 : decode cX2_init 76 = .ok (.putfield 18, 3) := by decide +kernel
theorem dX2_init_79 : decode cX2_init 79 = .ok (.aload_n 0, 1) := by decide +kernel
theorem dX2_init_80 : decode cX2_init 80 = .ok (.bipush 10, 2) := by decide +kernel
theorem dX2_init_82 : decode cX2_init 82 = .ok (.newarray .int, 2) := by decide +kernel
theorem dX2_init_84 : decode cX2_init 84 = .ok (.putfield 21, 3) := by decide +kernel
theorem dX2_init_87 : decode cX2_init 87 = .ok (.aload_n 0, 1) := by decide +kernel
theorem dX2_init_88 : decode cX2_init 88 = .ok (.bipush 6, 2) := by decide +kernel
theorem dX2_init_90 : decode cX2_init 90 = .ok (.newarray .int, 2) := by decide +kernel
theorem dX2_init_92 : decode cX2_init 92 = .ok (.putfield 24, 3) := by decide +kernel
theorem dX2_init_95 : decode cX2_init 95 = .ok (.aload_n 0, 1) := by decide +kernel
theorem dX2_init_96 : decode cX2_init 96 = .ok (.iconst 2, 1) := by decide +kernel
theorem dX2_init_97 : decode cX2_init 97 = .ok (.newarray .int, 2) := by decide +kernel
theorem dX2_init_99 : decode cX2_init 99 = .ok (.dup, 1) := by decide +kernel
theorem dX2_init_100 : decode cX2_init 100 = .ok (.iconst 0, 1) := by decide +kernel
theorem dX2_init_101 : decode cX2_init 101 = .ok (.bipush 20, 2) := by decide +kernel
theorem dX2_init_103 : decode cX2_init 103 = .ok (.iastore, 1) := by decide +kernel
theorem dX2_init_104 : decode cX2_init 104 = .ok (.dup, 1) := by decide +kernel
theorem dX2_init_105 : decode cX2_init 105 = .ok (.iconst 1, 1) := by decide +kernel
theorem dX2_init_106 : decode cX2_init 106 = .ok (.bipush 20, 2) := by decide +kernel
theorem dX2_init_108 : decode cX2_init 108 = .ok (.iastore, 1) := by decide +kernel
theorem dX2_init_109 : decode cX2_init 109 = .ok (.putfield 27, 3) := by decide +kernel
theorem dX2_init_112 : decode cX2_init 112 = .ok (.return_, 1) := by decide +kernel
set_option maxRecDepth 20000 in
theorem ggX2_work_X3_init : GoodIn wsX2_work wsX3_init := goodIn_r _ [11, 12, 13, 14, 15, 24, 25, 26, 27] (by decide +kernel) (by decide +kernel)
set_option maxRecDepth 20000 in
theorem gX2_work_X3_init_n47 : GoodIn wsX2_work (wsX3_init) := ggX2_work_X3_init
theorem dX2_work_0 : decode cX2_work 0 = .ok (.iconst 0, 1) := by decide +kernel
theorem dX2_work_1 : decode cX2_work 1 = .ok (.istore 6, 2) := by decide +kernel
theorem dX2_work_3 : decode cX2_work 3 = .ok (.iconst 0, 1) := by decide +kernel
theorem dX2_work_4 : decode cX2_work 4 = .ok (.istore 7, 2) := by decide +kernel
theorem dX2_work_6 : decode cX2_work 6 = .ok (.iload 7, 2) := by decide +kernel
theorem dX2_work_8 : decode cX2_work 8 = .ok (.iconst 2, 1) := by decide +kernel
theorem dX2_work_9 : decode cX2_work 9 = .ok (.if_icmp .ge 306, 3) := by decide +kernel
theorem dX2_work_12 : decode cX2_work 12 = .ok (.iload 7, 2) := by decide +kernel
theorem dX2_work_14 : decode cX2_work 14 = .ok (.ifCond .ne 7, 3) := by decide +kernel
theorem dX2_work_17 : decode cX2_work 17 = .ok (.iload_n 3, 1) := by decide +kernel
theorem dX2_work_18 : decode cX2_work 18 = .ok (.goto 7, 3) := by decide +kernel
theorem dX2_work_21 : decode cX2_work 21 = .ok (.bipush 7, 2) := by decide +kernel
theorem dX2_work_23 : decode cX2_work 23 = .ok (.iload_n 3, 1) := by decide +kernel
theorem dX2_work_24 : decode cX2_work 24 = .ok (.isub, 1) := by decide +kernel
theorem dX2_work_25 : decode cX2_work 25 = .ok (.istore 8, 2) := by decide +kernel
theorem dX2_work_27 : decode cX2_work 27 = .ok (.iload 8, 2) := by decide +kernel
theorem dX2_work_29 : decode cX2_work 29 = .ok (.iconst 4, 1) := by decide +kernel
theorem dX2_work_30 : decode cX2_work 30 = .ok (.if_icmp .ge 7, 3) := by decide +kernel
theorem dX2_work_33 : decode cX2_work 33 = .ok (.iconst 0, 1) := by decide +kernel
theorem dX2_work_34 : decode cX2_work 34 = .ok (.goto 4, 3) := by decide +kernel
theorem dX2_work_37 : decode cX2_work 37 = .ok (.iconst 1, 1) := by decide +kernel
theorem dX2_work_38 : decode cX2_work 38 = .ok (.istore 9, 2) := by decide +kernel
theorem dX2_work_40 : decode cX2_work 40 = .ok (.iload_n 1, 1) := by decide +kernel
theorem dX2_work_41 : decode cX2_work 41 = .ok (.ifCond .ne 7, 3) := by decide +kernel
theorem dX2_work_44 : decode cX2_work 44 = .ok (.iconst 5, 1) := by decide +kernel
theorem dX2_work_45 : decode cX2_work 45 = .ok (.goto 23, 3) := by decide +kernel
theorem dX2_work_48 : decode cX2_work 48 = .ok (.iload_n 1, 1) := by decide +kernel
theorem dX2_work_49 : decode cX2_work 49 = .ok (.iconst 1, 1) := by decide +kernel
theorem dX2_work_50 : decode cX2_work 50 = .ok (.if_icmp .ne 7, 3) := by decide +kernel
theorem dX2_work_53 : decode cX2_work 53 = .ok (.iconst 2, 1) := by decide +kernel
theorem dX2_work_54 : decode cX2_work 54 = .ok (.goto 14, 3) := by decide +kernel
theorem dX2_work_57 : decode cX2_work 57 = .ok (.iload_n 1, 1) := by decide +kernel
theorem dX2_work_58 : decode cX2_work 58 = .ok (.iconst 2, 1) := by decide +kernel
theorem dX2_work_59 : decode cX2_work 59 = .ok (.if_icmp .ne 7, 3) := by decide +kernel
theorem dX2_work_62 : decode cX2_work 62 = .ok (.iconst 4, 1) := by decide +kernel
theorem dX2_work_63 : decode cX2_work 63 = .ok (.goto 5, 3) := by decide +kernel
theorem dX2_work_66 : decode cX2_work 66 = .ok (.bipush 6, 2) := by decide +kernel
theorem dX2_work_68 : decode cX2_work 68 = .ok (.istore 10, 2) := by decide +kernel
theorem dX2_work_70 : decode cX2_work 70 = .ok (.aload_n 0, 1) := by decide +kernel
theorem dX2_work_71 : decode cX2_work 71 = .ok (.getfield 9, 3) := by decide +kernel
theorem dX2_work_74 : decode cX2_work 74 = .ok (.iload_n 2, 1) := by decide +kernel
theorem dX2_work_75 : decode cX2_work 75 = .ok (.aaload, 1) := by decide +kernel
theorem dX2_work_76 : decode cX2_work 76 = .ok (.iload 8, 2) := by decide +kernel
theorem dX2_work_78 : decode cX2_work 78 = .ok (.aaload, 1) := by decide +kernel
theorem dX2_work_79 : decode cX2_work 79 = .ok (.astore 11, 2) := by decide +kernel
theorem dX2_work_81 : decode cX2_work 81 = .ok (.iload_n 1, 1) := by decide +kernel
theorem dX2_work_82 : decode cX2_work 82 = .ok (.ifCond .ne 16, 3) := by decide +kernel
theorem dX2_work_85 : decode cX2_work 85 = .ok (.aload 11, 2) := by decide +kernel
theorem dX2_work_87 : decode cX2_work 87 = .ok (.ifnonnull 7, 3) := by decide +kernel
theorem dX2_work_90 : decode cX2_work 90 = .ok (.iconst 1, 1) := by decide +kernel
theorem dX2_work_91 : decode cX2_work 91 = .ok (.goto 58, 3) := by decide +kernel
theorem dX2_work_94 : decode cX2_work 94 = .ok (.iconst 0, 1) := by decide +kernel
theorem dX2_work_95 : decode cX2_work 95 = .ok (.goto 54, 3) := by decide +kernel
theorem dX2_work_98 : decode cX2_work 98 = .ok (.aload 11, 2) := by decide +kernel
theorem dX2_work_100 : decode cX2_work 100 = .ok (.ifnull 48, 3) := by decide +kernel
theorem dX2_work_103 : decode cX2_work 103 = .ok (.iload_n 1, 1) := by decide +kernel
theorem dX2_work_104 : decode cX2_work 104 = .ok (.iconst 1, 1) := by decide +kernel
theorem dX2_work_105 : decode cX2_work 105 = .ok (.if_icmp .ne 16, 3) := by decide +kernel
theorem dX2_work_108 : decode cX2_work 108 = .ok (.aload 11, 2) := by decide +kernel
theorem dX2_work_110 : decode cX2_work 110 = .ok (.getfield 41, 3) := by decide +kernel
theorem dX2_work_113 : decode cX2_work 113 = .ok (.iload 4, 2) := by decide +kernel
theorem dX2_work_115 : decode cX2_work 115 = .ok (.if_icmp .lt 33, 3) := by decide +kernel
theorem dX2_work_118 : decode cX2_work 118 = .ok (.goto 26, 3) := by decide +kernel
theorem dX2_work_121 : decode cX2_work 121 = .ok (.iload_n 1, 1) := by decide +kernel
theorem dX2_work_122 : decode cX2_work 122 = .ok (.iconst 2, 1) := by decide +kernel
theorem dX2_work_123 : decode cX2_work 123 = .ok (.if_icmp .ne 21, 3) := by decide +kernel
theorem dX2_work_126 : decode cX2_work 126 = .ok (.aload 11, 2) := by decide +kernel
theorem dX2_work_128 : decode cX2_work 128 = .ok (.getfield 44, 3) := by decide +kernel
theorem dX2_work_131 : decode cX2_work 131 = .ok (.iload 4, 2) := by decide +kernel
theorem dX2_work_133 : decode cX2_work 133 = .ok (.if_icmp .eq 15, 3) := by decide +kernel
theorem dX2_work_136 : decode cX2_work 136 = .ok (.aload 11, 2) := by decide +kernel
theorem dX2_work_138 : decode cX2_work 138 = .ok (.getfield 41, 3) := by decide +kernel
theorem dX2_work_141 : decode cX2_work 141 = .ok (.ifCond .le 7, 3) := by decide +kernel
theorem dX2_work_144 : decode cX2_work 144 = .ok (.iconst 1, 1) := by decide +kernel
theorem dX2_work_145 : decode cX2_work 145 = .ok (.goto 4, 3) := by decide +kernel
theorem dX2_work_148 : decode cX2_work 148 = .ok (.iconst 0, 1) := by decide +kernel
theorem dX2_work_149 : decode cX2_work 149 = .ok (.istore 12, 2) := by decide +kernel
theorem dX2_work_151 : decode cX2_work 151 = .ok (.iload 12, 2) := by decide +kernel
theorem dX2_work_153 : decode cX2_work 153 = .ok (.ifCond .eq 156, 3) := by decide +kernel
theorem dX2_work_156 : decode cX2_work 156 = .ok (.aload_n 0, 1) := by decide +kernel
theorem dX2_work_157 : decode cX2_work 157 = .ok (.getfield 27, 3) := by decide +kernel
theorem dX2_work_160 : decode cX2_work 160 = .ok (.iload 9, 2) := by decide +kernel
theorem dX2_work_162 : decode cX2_work 162 = .ok (.iaload, 1) := by decide +kernel
theorem dX2_work_163 : decode cX2_work 163 = .ok (.iload 10, 2) := by decide +kernel
theorem dX2_work_165 : decode cX2_work 165 = .ok (.if_icmp .ge 6, 3) := by decide +kernel
theorem dX2_work_168 : decode cX2_work 168 = .ok (.goto 141, 3) := by decide +kernel
theorem dX2_work_171 : decode cX2_work 171 = .ok (.aload_n 0, 1) := by decide +kernel
theorem dX2_work_172 : decode cX2_work 172 = .ok (.getfield 27, 3) := by decide +kernel
theorem dX2_work_175 : decode cX2_work 175 = .ok (.iload 9, 2) := by decide +kernel
theorem dX2_work_177 : decode cX2_work 177 = .ok (.dup2, 1) := by decide +kernel
theorem dX2_work_178 : decode cX2_work 178 = .ok (.iaload, 1) := by decide +kernel
theorem dX2_work_179 : decode cX2_work 179 = .ok (.iload 10, 2) := by decide +kernel
theorem dX2_work_181 : decode cX2_work 181 = .ok (.isub, 1) := by decide +kernel
theorem dX2_work_182 : decode cX2_work 182 = .ok (.iastore, 1) := by decide +kernel
theorem dX2_work_183 : decode cX2_work 183 = .ok (.iload 6, 2) := by decide +kernel
theorem dX2_work_185 : decode cX2_work 185 = .ok (.iload 7, 2) := by decide +kernel
theorem dX2_work_187 : decode cX2_work 187 = .ok (.iconst 1, 1) := by decide +kernel
theorem dX2_work_188 : decode cX2_work 188 = .ok (.iadd, 1) := by decide +kernel
theorem dX2_work_189 : decode cX2_work 189 = .ok (.iadd, 1) := by decide +kernel
theorem dX2_work_190 : decode cX2_work 190 = .ok (.istore 6, 2) := by decide +kernel
theorem dX2_work_192 : decode cX2_work 192 = .ok (.iload_n 1, 1) := by decide +kernel
theorem dX2_work_193 : decode cX2_work 193 = .ok (.ifCond .ne 40, 3) := by decide +kernel
theorem dX2_work_196 : decode cX2_work 196 = .ok (.new 32, 3) := by decide +kernel
theorem dX2_work_199 : decode cX2_work 199 = .ok (.dup, 1) := by decide +kernel
theorem dX2_work_200 : decode cX2_work 200 = .ok (.invokespecial 47, 3) := by decide +kernel
theorem dX2_work_203 : decode cX2_work 203 = .ok (.astore 11, 2) := by decide +kernel
theorem dX2_work_205 : decode cX2_work 205 = .ok (.aload 11, 2) := by decide +kernel
theorem dX2_work_207 : decode cX2_work 207 = .ok (.iload 4, 2) := by decide +kernel
theorem dX2_work_209 : decode cX2_work 209 = .ok (.putfield 44, 3) := by decide +kernel
theorem dX2_work_212 : decode cX2_work 212 = .ok (.aload 11, 2) := by decide +kernel
theorem dX2_work_214 : decode cX2_work 214 = .ok (.iload 5, 2) := by decide +kernel
theorem dX2_work_216 : decode cX2_work 216 = .ok (.putfield 48, 3) := by decide +kernel
theorem dX2_work_219 : decode cX2_work 219 = .ok (.aload_n 0, 1) := by decide +kernel
theorem dX2_work_220 : decode cX2_work 220 = .ok (.getfield 9, 3) := by decide +kernel
theorem dX2_work_223 : decode cX2_work 223 = .ok (.iload_n 2, 1) := by decide +kernel
theorem dX2_work_224 : decode cX2_work 224 = .ok (.aaload, 1) := by decide +kernel
theorem dX2_work_225 : decode cX2_work 225 = .ok (.iload 8, 2) := by decide +kernel
theorem dX2_work_227 : decode cX2_work 227 = .ok (.aload 11, 2) := by decide +kernel
theorem dX2_work_229 : decode cX2_work 229 = .ok (.aastore, 1) := by decide +kernel
theorem dX2_work_230 : decode cX2_work 230 = .ok (.goto 79, 3) := by decide +kernel
theorem dX2_work_233 : decode cX2_work 233 = .ok (.iload_n 1, 1) := by decide +kernel
theorem dX2_work_234 : decode cX2_work 234 = .ok (.iconst 1, 1) := by decide +kernel
theorem dX2_work_235 : decode cX2_work 235 = .ok (.if_icmp .ne 24, 3) := by decide +kernel
theorem dX2_work_238 : decode cX2_work 238 = .ok (.aload 11, 2) := by decide +kernel
theorem dX2_work_240 : decode cX2_work 240 = .ok (.dup, 1) := by decide +kernel
theorem dX2_work_241 : decode cX2_work 241 = .ok (.getfield 41, 3) := by decide +kernel
theorem dX2_work_244 : decode cX2_work 244 = .ok (.iload 4, 2) := by decide +kernel
theorem dX2_work_246 : decode cX2_work 246 = .ok (.isub, 1) := by decide +kernel
theorem dX2_work_247 : decode cX2_work 247 = .ok (.putfield 41, 3) := by decide +kernel
theorem dX2_work_250 : decode cX2_work 250 = .ok (.aload 11, 2) := by decide +kernel
theorem dX2_work_252 : decode cX2_work 252 = .ok (.iconst 0, 1) := by decide +kernel
theorem dX2_work_253 : decode cX2_work 253 = .ok (.putfield 51, 3) := by decide +kernel
theorem dX2_work_256 : decode cX2_work 256 = .ok (.goto 53, 3) := by decide +kernel
theorem dX2_work_259 : decode cX2_work 259 = .ok (.iload_n 1, 1) := by decide +kernel
theorem dX2_work_260 : decode cX2_work 260 = .ok (.iconst 2, 1) := by decide +kernel
theorem dX2_work_261 : decode cX2_work 261 = .ok (.if_icmp .ne 38, 3) := by decide +kernel
theorem dX2_work_264 : decode cX2_work 264 = .ok (.aload 11, 2) := by decide +kernel
theorem dX2_work_266 : decode cX2_work 266 = .ok (.iload 4, 2) := by decide +kernel
theorem dX2_work_268 : decode cX2_work 268 = .ok (.putfield 44, 3) := by decide +kernel
theorem dX2_work_271 : decode cX2_work 271 = .ok (.aload 11, 2) := by decide +kernel
theorem dX2_work_273 : decode cX2_work 273 = .ok (.aload 11, 2) := by decide +kernel
theorem dX2_work_275 : decode cX2_work 275 = .ok (.getfield 41, 3) := by decide +kernel
theorem dX2_work_278 : decode cX2_work 278 = .ok (.iconst 1, 1) := by decide +kernel
theorem dX2_work_279 : decode cX2_work 279 = .ok (.if_icmp .le 13, 3) := by decide +kernel
theorem dX2_work_282 : decode cX2_work 282 = .ok (.aload 11, 2) := by decide +kernel
theorem dX2_work_284 : decode cX2_work 284 = .ok (.getfield 41, 3) := by decide +kernel
theorem dX2_work_287 : decode cX2_work 287 = .ok (.iconst 2, 1) := by decide +kernel
theorem dX2_work_288 : decode cX2_work 288 = .ok (.idiv, 1) := by decide +kernel
theorem dX2_work_289 : decode cX2_work 289 = .ok (.goto 4, 3) := by decide +kernel
theorem dX2_work_292 : decode cX2_work 292 = .ok (.iconst 1, 1) := by decide +kernel
theorem dX2_work_293 : decode cX2_work 293 = .ok (.putfield 41, 3) := by decide +kernel
theorem dX2_work_296 : decode cX2_work 296 = .ok (.goto 13, 3) := by decide +kernel
theorem dX2_work_299 : decode cX2_work 299 = .ok (.aload_n 0, 1) := by decide +kernel
theorem dX2_work_300 : decode cX2_work 300 = .ok (.getfield 9, 3) := by decide +kernel
theorem dX2_work_303 : decode cX2_work 303 = .ok (.iload_n 2, 1) := by decide +kernel
theorem dX2_work_304 : decode cX2_work 304 = .ok (.aaload, 1) := by decide +kernel
theorem dX2_work_305 : decode cX2_work 305 = .ok (.iload 8, 2) := by decide +kernel
theorem dX2_work_307 : decode cX2_work 307 = .ok (.aconst_null, 1) := by decide +kernel
theorem dX2_work_308 : decode cX2_work 308 = .ok (.aastore, 1) := by decide +kernel
theorem dX2_work_309 : decode cX2_work 309 = .ok (.iinc 7 1, 3) := by decide +kernel
theorem dX2_work_312 : decode cX2_work 312 = .ok (.goto (-306), 3) := by decide +kernel
theorem dX2_work_315 : decode cX2_work 315 = .ok (.iload 6, 2) := by decide +kernel
theorem dX2_work_317 : decode cX2_work 317 = .ok (.ireturn, 1) := by decide +kernel
set_option maxRecDepth 20000 in
theorem ggX2_pass_X3_apples : GoodIn wsX2_pass wsX3_apples := goodIn_r _ [15, 16, 17, 18, 27, 28, 29, 30] (by decide +kernel) (by decide +kernel)
set_option maxRecDepth 20000 in
theorem gX2_pass_X3_apples : GoodIn wsX2_pass (wsV RX2 55 RX3 yX3_apples wsX3_apples) := goodIn_app (goodIn_of _ (by decide +kernel)) ggX2_pass_X3_apples
theorem dX2_pass_0 : decode cX2_pass 0 = .ok (.iconst 0, 1) := by decide +kernel
theorem dX2_pass_1 : decode cX2_pass 1 = .ok (.istore_n 1, 1) := by decide +kernel
theorem dX2_pass_2 : decode cX2_pass 2 = .ok (.aload_n 0, 1) := by decide +kernel
theorem dX2_pass_3 : decode cX2_pass 3 = .ok (.getfield 9, 3) := by decide +kernel
theorem dX2_pass_6 : decode cX2_pass 6 = .ok (.astore_n 2, 1) := by decide +kernel
theorem dX2_pass_7 : decode cX2_pass 7 = .ok (.aload_n 2, 1) := by decide +kernel
theorem dX2_pass_8 : decode cX2_pass 8 = .ok (.arraylength, 1) := by decide +kernel
theorem dX2_pass_9 : decode cX2_pass 9 = .ok (.istore_n 3, 1) := by decide +kernel
theorem dX2_pass_10 : decode cX2_pass 10 = .ok (.iconst 0, 1) := by decide +kernel
theorem dX2_pass_11 : decode cX2_pass 11 = .ok (.istore 4, 2) := by decide +kernel
theorem dX2_pass_13 : decode cX2_pass 13 = .ok (.iload 4, 2) := by decide +kernel
theorem dX2_pass_15 : decode cX2_pass 15 = .ok (.iload_n 3, 1) := by decide +kernel
theorem dX2_pass_16 : decode cX2_pass 16 = .ok (.if_icmp .ge 208, 3) := by decide +kernel
theorem dX2_pass_19 : decode cX2_pass 19 = .ok (.aload_n 2, 1) := by decide +kernel
theorem dX2_pass_20 : decode cX2_pass 20 = .ok (.iload 4, 2) := by decide +kernel
theorem dX2_pass_22 : decode cX2_pass 22 = .ok (.aaload, 1) := by decide +kernel
theorem dX2_pass_23 : decode cX2_pass 23 = .ok (.astore 5, 2) := by decide +kernel
theorem dX2_pass_25 : decode cX2_pass 25 = .ok (.aload 5, 2) := by decide +kernel
theorem dX2_pass_27 : decode cX2_pass 27 = .ok (.astore 6, 2) := by decide +kernel
theorem dX2_pass_29 : decode cX2_pass 29 = .ok (.aload 6, 2) := by decide +kernel
theorem dX2_pass_31 : decode cX2_pass 31 = .ok (.arraylength, 1) := by decide +kernel
theorem dX2_pass_32 : decode cX2_pass 32 = .ok (.istore 7, 2) := by decide +kernel
theorem dX2_pass_34 : decode cX2_pass 34 = .ok (.iconst 0, 1) := by decide +kernel
theorem dX2_pass_35 : decode cX2_pass 35 = .ok (.istore 8, 2) := by decide +kernel
theorem dX2_pass_37 : decode cX2_pass 37 = .ok (.iload 8, 2) := by decide +kernel
theorem dX2_pass_39 : decode cX2_pass 39 = .ok (.iload 7, 2) := by decide +kernel
theorem dX2_pass_41 : decode cX2_pass 41 = .ok (.if_icmp .ge 177, 3) := by decide +kernel
theorem dX2_pass_44 : decode cX2_pass 44 = .ok (.aload 6, 2) := by decide +kernel
theorem dX2_pass_46 : decode cX2_pass 46 = .ok (.iload 8, 2) := by decide +kernel
theorem dX2_pass_48 : decode cX2_pass 48 = .ok (.aaload, 1) := by decide +kernel
theorem dX2_pass_49 : decode cX2_pass 49 = .ok (.astore 9, 2) := by decide +kernel
theorem dX2_pass_51 : decode cX2_pass 51 = .ok (.aload 9, 2) := by decide +kernel
theorem dX2_pass_53 : decode cX2_pass 53 = .ok (.ifnonnull 6, 3) := by decide +kernel
theorem dX2_pass_56 : decode cX2_pass 56 = .ok (.goto 156, 3) := by decide +kernel
theorem dX2_pass_59 : decode cX2_pass 59 = .ok (.aload_n 0, 1) := by decide +kernel
theorem dX2_pass_60 : decode cX2_pass 60 = .ok (.getfield 21, 3) := by decide +kernel
theorem dX2_pass_63 : decode cX2_pass 63 = .ok (.aload_n 0, 1) := by decide +kernel
theorem dX2_pass_64 : decode cX2_pass 64 = .ok (.getfield 37, 3) := by decide +kernel
theorem dX2_pass_67 : decode cX2_pass 67 = .ok (.bipush 10, 2) := by decide +kernel
theorem dX2_pass_69 : decode cX2_pass 69 = .ok (.irem, 1) := by decide +kernel
theorem dX2_pass_70 : decode cX2_pass 70 = .ok (.iaload, 1) := by decide +kernel
theorem dX2_pass_71 : decode cX2_pass 71 = .ok (.aload_n 0, 1) := by decide +kernel
theorem dX2_pass_72 : decode cX2_pass 72 = .ok (.getfield 18, 3) := by decide +kernel
theorem dX2_pass_75 : decode cX2_pass 75 = .ok (.aload 9, 2) := by decide +kernel
theorem dX2_pass_77 : decode cX2_pass 77 = .ok (.getfield 44, 3) := by decide +kernel
theorem dX2_pass_80 : decode cX2_pass 80 = .ok (.iaload, 1) := by decide +kernel
theorem dX2_pass_81 : decode cX2_pass 81 = .ok (.isub, 1) := by decide +kernel
theorem dX2_pass_82 : decode cX2_pass 82 = .ok (.istore 10, 2) := by decide +kernel
theorem dX2_pass_84 : decode cX2_pass 84 = .ok (.iload 10, 2) := by decide +kernel
theorem dX2_pass_86 : decode cX2_pass 86 = .ok (.ifCond .le 30, 3) := by decide +kernel
theorem dX2_pass_89 : decode cX2_pass 89 = .ok (.aload 9, 2) := by decide +kernel
theorem dX2_pass_91 : decode cX2_pass 91 = .ok (.aload 9, 2) := by decide +kernel
theorem dX2_pass_93 : decode cX2_pass 93 = .ok (.getfield 41, 3) := by decide +kernel
theorem dX2_pass_96 : decode cX2_pass 96 = .ok (.iload 10, 2) := by decide +kernel
theorem dX2_pass_98 : decode cX2_pass 98 = .ok (.if_icmp .le 14, 3) := by decide +kernel
theorem dX2_pass_101 : decode cX2_pass 101 = .ok (.aload 9, 2) := by decide +kernel
theorem dX2_pass_103 : decode cX2_pass 103 = .ok (.getfield 41, 3) := by decide +kernel
theorem dX2_pass_106 : decode cX2_pass 106 = .ok (.iload 10, 2) := by decide +kernel
theorem dX2_pass_108 : decode cX2_pass 108 = .ok (.isub, 1) := by decide +kernel
theorem dX2_pass_109 : decode cX2_pass 109 = .ok (.goto 4, 3) := by decide +kernel
theorem dX2_pass_112 : decode cX2_pass 112 = .ok (.iconst 0, 1) := by decide +kernel
theorem dX2_pass_113 : decode cX2_pass 113 = .ok (.putfield 41, 3) := by decide +kernel
theorem dX2_pass_116 : decode cX2_pass 116 = .ok (.aload 9, 2) := by decide +kernel
theorem dX2_pass_118 : decode cX2_pass 118 = .ok (.invokevirtual 55, 3) := by decide +kernel
theorem dX2_pass_121 : decode cX2_pass 121 = .ok (.istore 11, 2) := by decide +kernel
theorem dX2_pass_123 : decode cX2_pass 123 = .ok (.aload_n 0, 1) := by decide +kernel
theorem dX2_pass_124 : decode cX2_pass 124 = .ok (.getfield 24, 3) := by decide +kernel
theorem dX2_pass_127 : decode cX2_pass 127 = .ok (.aload 9, 2) := by decide +kernel
theorem dX2_pass_129 : decode cX2_pass 129 = .ok (.getfield 44, 3) := by decide +kernel
theorem dX2_pass_132 : decode cX2_pass 132 = .ok (.dup2, 1) := by decide +kernel
theorem dX2_pass_133 : decode cX2_pass 133 = .ok (.iaload, 1) := by decide +kernel
theorem dX2_pass_134 : decode cX2_pass 134 = .ok (.iload 11, 2) := by decide +kernel
theorem dX2_pass_136 : decode cX2_pass 136 = .ok (.iadd, 1) := by decide +kernel
theorem dX2_pass_137 : decode cX2_pass 137 = .ok (.iastore, 1) := by decide +kernel
theorem dX2_pass_138 : decode cX2_pass 138 = .ok (.iload_n 1, 1) := by decide +kernel
theorem dX2_pass_139 : decode cX2_pass 139 = .ok (.iload 11, 2) := by decide +kernel
theorem dX2_pass_141 : decode cX2_pass 141 = .ok (.iadd, 1) := by decide +kernel
theorem dX2_pass_142 : decode cX2_pass 142 = .ok (.istore_n 1, 1) := by decide +kernel
theorem dX2_pass_143 : decode cX2_pass 143 = .ok (.aload 9, 2) := by decide +kernel
theorem dX2_pass_145 : decode cX2_pass 145 = .ok (.iload 11, 2) := by decide +kernel
theorem dX2_pass_147 : decode cX2_pass 147 = .ok (.bipush 19, 2) := by decide +kernel
theorem dX2_pass_149 : decode cX2_pass 149 = .ok (.if_icmp .le 7, 3) := by decide +kernel
theorem dX2_pass_152 : decode cX2_pass 152 = .ok (.iconst 1, 1) := by decide +kernel
theorem dX2_pass_153 : decode cX2_pass 153 = .ok (.goto 4, 3) := by decide +kernel
theorem dX2_pass_156 : decode cX2_pass 156 = .ok (.iconst 0, 1) := by decide +kernel
theorem dX2_pass_157 : decode cX2_pass 157 = .ok (.putfield 51, 3) := by decide +kernel
theorem dX2_pass_160 : decode cX2_pass 160 = .ok (.aload 9, 2) := by decide +kernel
theorem dX2_pass_162 : decode cX2_pass 162 = .ok (.getfield 41, 3) := by decide +kernel
theorem dX2_pass_165 : decode cX2_pass 165 = .ok (.bipush 9, 2) := by decide +kernel
theorem dX2_pass_167 : decode cX2_pass 167 = .ok (.if_icmp .ge 14, 3) := by decide +kernel
theorem dX2_pass_170 : decode cX2_pass 170 = .ok (.aload 9, 2) := by decide +kernel
theorem dX2_pass_172 : decode cX2_pass 172 = .ok (.dup, 1) := by decide +kernel
theorem dX2_pass_173 : decode cX2_pass 173 = .ok (.getfield 41, 3) := by decide +kernel
theorem dX2_pass_176 : decode cX2_pass 176 = .ok (.iconst 1, 1) := by decide +kernel
theorem dX2_pass_177 : decode cX2_pass 177 = .ok (.iadd, 1) := by decide +kernel
theorem dX2_pass_178 : decode cX2_pass 178 = .ok (.putfield 41, 3) := by decide +kernel
theorem dX2_pass_181 : decode cX2_pass 181 = .ok (.aload 9, 2) := by decide +kernel
theorem dX2_pass_183 : decode cX2_pass 183 = .ok (.getfield 41, 3) := by decide +kernel
theorem dX2_pass_186 : decode cX2_pass 186 = .ok (.bipush 9, 2) := by decide +kernel
theorem dX2_pass_188 : decode cX2_pass 188 = .ok (.if_icmp .ge 24, 3) := by decide +kernel
theorem dX2_pass_191 : decode cX2_pass 191 = .ok (.aload 9, 2) := by decide +kernel
theorem dX2_pass_193 : decode cX2_pass 193 = .ok (.getfield 48, 3) := by decide +kernel
theorem dX2_pass_196 : decode cX2_pass 196 = .ok (.bipush 6, 2) := by decide +kernel
theorem dX2_pass_198 : decode cX2_pass 198 = .ok (.if_icmp .le 14, 3) := by decide +kernel
theorem dX2_pass_201 : decode cX2_pass 201 = .ok (.aload 9, 2) := by decide +kernel
theorem dX2_pass_203 : decode cX2_pass 203 = .ok (.dup, 1) := by decide +kernel
theorem dX2_pass_204 : decode cX2_pass 204 = .ok (.getfield 41, 3) := by decide +kernel
theorem dX2_pass_207 : decode cX2_pass 207 = .ok (.iconst 1, 1) := by decide +kernel
theorem dX2_pass_208 : decode cX2_pass 208 = .ok (.iadd, 1) := by decide +kernel
theorem dX2_pass_209 : decode cX2_pass 209 = .ok (.putfield 41, 3) := by decide +kernel
theorem dX2_pass_212 : decode cX2_pass 212 = .ok (.iinc 8 1, 3) := by decide +kernel
theorem dX2_pass_215 : decode cX2_pass 215 = .ok (.goto (-178), 3) := by decide +kernel
theorem dX2_pass_218 : decode cX2_pass 218 = .ok (.iinc 4 1, 3) := by decide +kernel
theorem dX2_pass_221 : decode cX2_pass 221 = .ok (.goto (-208), 3) := by decide +kernel
theorem dX2_pass_224 : decode cX2_pass 224 = .ok (.aload_n 0, 1) := by decide +kernel
theorem dX2_pass_225 : decode cX2_pass 225 = .ok (.getfield 27, 3) := by decide +kernel
theorem dX2_pass_228 : decode cX2_pass 228 = .ok (.iconst 0, 1) := by decide +kernel
theorem dX2_pass_229 : decode cX2_pass 229 = .ok (.bipush 20, 2) := by decide +kernel
theorem dX2_pass_231 : decode cX2_pass 231 = .ok (.iastore, 1) := by decide +kernel
theorem dX2_pass_232 : decode cX2_pass 232 = .ok (.aload_n 0, 1) := by decide +kernel
theorem dX2_pass_233 : decode cX2_pass 233 = .ok (.getfield 27, 3) := by decide +kernel
theorem dX2_pass_236 : decode cX2_pass 236 = .ok (.iconst 1, 1) := by decide +kernel
theorem dX2_pass_237 : decode cX2_pass 237 = .ok (.bipush 20, 2) := by decide +kernel
theorem dX2_pass_239 : decode cX2_pass 239 = .ok (.iastore, 1) := by decide +kernel
theorem dX2_pass_240 : decode cX2_pass 240 = .ok (.aload_n 0, 1) := by decide +kernel
theorem dX2_pass_241 : decode cX2_pass 241 = .ok (.dup, 1) := by decide +kernel
theorem dX2_pass_242 : decode cX2_pass 242 = .ok (.getfield 37, 3) := by decide +kernel
theorem dX2_pass_245 : decode cX2_pass 245 = .ok (.iconst 1, 1) := by decide +kernel
theorem dX2_pass_246 : decode cX2_pass 246 = .ok (.iadd, 1) := by decide +kernel
theorem dX2_pass_247 : decode cX2_pass 247 = .ok (.putfield 37, 3) := by decide +kernel
theorem dX2_pass_250 : decode cX2_pass 250 = .ok (.iload_n 1, 1) := by decide +kernel
theorem dX2_pass_251 : decode cX2_pass 251 = .ok (.ireturn, 1) := by decide +kernel
theorem dX2_branches_0 : decode cX2_branches 0 = .ok (.iconst 0, 1) := by decide +kernel
theorem dX2_branches_1 : decode cX2_branches 1 = .ok (.istore_n 1, 1) := by decide +kernel
theorem dX2_branches_2 : decode cX2_branches 2 = .ok (.aload_n 0, 1) := by decide +kernel
theorem dX2_branches_3 : decode cX2_branches 3 = .ok (.getfield 9, 3) := by decide +kernel
theorem dX2_branches_6 : decode cX2_branches 6 = .ok (.astore_n 2, 1) := by decide +kernel
theorem dX2_branches_7 : decode cX2_branches 7 = .ok (.aload_n 2, 1) := by decide +kernel
theorem dX2_branches_8 : decode cX2_branches 8 = .ok (.arraylength, 1) := by decide +kernel
theorem dX2_branches_9 : decode cX2_branches 9 = .ok (.istore_n 3, 1) := by decide +kernel
theorem dX2_branches_10 : decode cX2_branches 10 = .ok (.iconst 0, 1) := by decide +kernel
theorem dX2_branches_11 : decode cX2_branches 11 = .ok (.istore 4, 2) := by decide +kernel
theorem dX2_branches_13 : decode cX2_branches 13 = .ok (.iload 4, 2) := by decide +kernel
theorem dX2_branches_15 : decode cX2_branches 15 = .ok (.iload_n 3, 1) := by decide +kernel
theorem dX2_branches_16 : decode cX2_branches 16 = .ok (.if_icmp .ge 64, 3) := by decide +kernel
theorem dX2_branches_19 : decode cX2_branches 19 = .ok (.aload_n 2, 1) := by decide +kernel
theorem dX2_branches_20 : decode cX2_branches 20 = .ok (.iload 4, 2) := by decide +kernel
theorem dX2_branches_22 : decode cX2_branches 22 = .ok (.aaload, 1) := by decide +kernel
theorem dX2_branches_23 : decode cX2_branches 23 = .ok (.astore 5, 2) := by decide +kernel
theorem dX2_branches_25 : decode cX2_branches 25 = .ok (.aload 5, 2) := by decide +kernel
theorem dX2_branches_27 : decode cX2_branches 27 = .ok (.astore 6, 2) := by decide +kernel
theorem dX2_branches_29 : decode cX2_branches 29 = .ok (.aload 6, 2) := by decide +kernel
theorem dX2_branches_31 : decode cX2_branches 31 = .ok (.arraylength, 1) := by decide +kernel
theorem dX2_branches_32 : decode cX2_branches 32 = .ok (.istore 7, 2) := by decide +kernel
theorem dX2_branches_34 : decode cX2_branches 34 = .ok (.iconst 0, 1) := by decide +kernel
theorem dX2_branches_35 : decode cX2_branches 35 = .ok (.istore 8, 2) := by decide +kernel
theorem dX2_branches_37 : decode cX2_branches 37 = .ok (.iload 8, 2) := by decide +kernel
theorem dX2_branches_39 : decode cX2_branches 39 = .ok (.iload 7, 2) := by decide +kernel
theorem dX2_branches_41 : decode cX2_branches 41 = .ok (.if_icmp .ge 33, 3) := by decide +kernel
theorem dX2_branches_44 : decode cX2_branches 44 = .ok (.aload 6, 2) := by decide +kernel
theorem dX2_branches_46 : decode cX2_branches 46 = .ok (.iload 8, 2) := by decide +kernel
theorem dX2_branches_48 : decode cX2_branches 48 = .ok (.aaload, 1) := by decide +kernel
theorem dX2_branches_49 : decode cX2_branches 49 = .ok (.astore 9, 2) := by decide +kernel
theorem dX2_branches_51 : decode cX2_branches 51 = .ok (.iload_n 1, 1) := by decide +kernel
theorem dX2_branches_52 : decode cX2_branches 52 = .ok (.aload 9, 2) := by decide +kernel
theorem dX2_branches_54 : decode cX2_branches 54 = .ok (.ifnonnull 7, 3) := by decide +kernel
theorem dX2_branches_57 : decode cX2_branches 57 = .ok (.iconst 0, 1) := by decide +kernel
theorem dX2_branches_58 : decode cX2_branches 58 = .ok (.goto 8, 3) := by decide +kernel
theorem dX2_branches_61 : decode cX2_branches 61 = .ok (.aload 9, 2) := by decide +kernel
theorem dX2_branches_63 : decode cX2_branches 63 = .ok (.getfield 41, 3) := by decide +kernel
theorem dX2_branches_66 : decode cX2_branches 66 = .ok (.iadd, 1) := by decide +kernel
theorem dX2_branches_67 : decode cX2_branches 67 = .ok (.istore_n 1, 1) := by decide +kernel
theorem dX2_branches_68 : decode cX2_branches 68 = .ok (.iinc 8 1, 3) := by decide +kernel
theorem dX2_branches_71 : decode cX2_branches 71 = .ok (.goto (-34), 3) := by decide +kernel
theorem dX2_branches_74 : decode cX2_branches 74 = .ok (.iinc 4 1, 3) := by decide +kernel
theorem dX2_branches_77 : decode cX2_branches 77 = .ok (.goto (-64), 3) := by decide +kernel
theorem dX2_branches_80 : decode cX2_branches 80 = .ok (.iload_n 1, 1) := by decide +kernel
theorem dX2_branches_81 : decode cX2_branches 81 = .ok (.ireturn, 1) := by decide +kernel
theorem dX2_tired_0 : decode cX2_tired 0 = .ok (.iconst 0, 1) := by decide +kernel
theorem dX2_tired_1 : decode cX2_tired 1 = .ok (.istore_n 1, 1) := by decide +kernel
theorem dX2_tired_2 : decode cX2_tired 2 = .ok (.aload_n 0, 1) := by decide +kernel
theorem dX2_tired_3 : decode cX2_tired 3 = .ok (.getfield 9, 3) := by decide +kernel
theorem dX2_tired_6 : decode cX2_tired 6 = .ok (.astore_n 2, 1) := by decide +kernel
theorem dX2_tired_7 : decode cX2_tired 7 = .ok (.aload_n 2, 1) := by decide +kernel
theorem dX2_tired_8 : decode cX2_tired 8 = .ok (.arraylength, 1) := by decide +kernel
theorem dX2_tired_9 : decode cX2_tired 9 = .ok (.istore_n 3, 1) := by decide +kernel
theorem dX2_tired_10 : decode cX2_tired 10 = .ok (.iconst 0, 1) := by decide +kernel
theorem dX2_tired_11 : decode cX2_tired 11 = .ok (.istore 4, 2) := by decide +kernel
theorem dX2_tired_13 : decode cX2_tired 13 = .ok (.iload 4, 2) := by decide +kernel
theorem dX2_tired_15 : decode cX2_tired 15 = .ok (.iload_n 3, 1) := by decide +kernel
theorem dX2_tired_16 : decode cX2_tired 16 = .ok (.if_icmp .ge 68, 3) := by decide +kernel
theorem dX2_tired_19 : decode cX2_tired 19 = .ok (.aload_n 2, 1) := by decide +kernel
theorem dX2_tired_20 : decode cX2_tired 20 = .ok (.iload 4, 2) := by decide +kernel
theorem dX2_tired_22 : decode cX2_tired 22 = .ok (.aaload, 1) := by decide +kernel
theorem dX2_tired_23 : decode cX2_tired 23 = .ok (.astore 5, 2) := by decide +kernel
theorem dX2_tired_25 : decode cX2_tired 25 = .ok (.aload 5, 2) := by decide +kernel
theorem dX2_tired_27 : decode cX2_tired 27 = .ok (.astore 6, 2) := by decide +kernel
theorem dX2_tired_29 : decode cX2_tired 29 = .ok (.aload 6, 2) := by decide +kernel
theorem dX2_tired_31 : decode cX2_tired 31 = .ok (.arraylength, 1) := by decide +kernel
theorem dX2_tired_32 : decode cX2_tired 32 = .ok (.istore 7, 2) := by decide +kernel
theorem dX2_tired_34 : decode cX2_tired 34 = .ok (.iconst 0, 1) := by decide +kernel
theorem dX2_tired_35 : decode cX2_tired 35 = .ok (.istore 8, 2) := by decide +kernel
theorem dX2_tired_37 : decode cX2_tired 37 = .ok (.iload 8, 2) := by decide +kernel
theorem dX2_tired_39 : decode cX2_tired 39 = .ok (.iload 7, 2) := by decide +kernel
theorem dX2_tired_41 : decode cX2_tired 41 = .ok (.if_icmp .ge 37, 3) := by decide +kernel
theorem dX2_tired_44 : decode cX2_tired 44 = .ok (.aload 6, 2) := by decide +kernel
theorem dX2_tired_46 : decode cX2_tired 46 = .ok (.iload 8, 2) := by decide +kernel
theorem dX2_tired_48 : decode cX2_tired 48 = .ok (.aaload, 1) := by decide +kernel
theorem dX2_tired_49 : decode cX2_tired 49 = .ok (.astore 9, 2) := by decide +kernel
theorem dX2_tired_51 : decode cX2_tired 51 = .ok (.iload_n 1, 1) := by decide +kernel
theorem dX2_tired_52 : decode cX2_tired 52 = .ok (.aload 9, 2) := by decide +kernel
theorem dX2_tired_54 : decode cX2_tired 54 = .ok (.ifnull 15, 3) := by decide +kernel
theorem dX2_tired_57 : decode cX2_tired 57 = .ok (.aload 9, 2) := by decide +kernel
theorem dX2_tired_59 : decode cX2_tired 59 = .ok (.getfield 51, 3) := by decide +kernel
theorem dX2_tired_62 : decode cX2_tired 62 = .ok (.ifCond .eq 7, 3) := by decide +kernel
theorem dX2_tired_65 : decode cX2_tired 65 = .ok (.iconst 1, 1) := by decide +kernel
theorem dX2_tired_66 : decode cX2_tired 66 = .ok (.goto 4, 3) := by decide +kernel
theorem dX2_tired_69 : decode cX2_tired 69 = .ok (.iconst 0, 1) := by decide +kernel
theorem dX2_tired_70 : decode cX2_tired 70 = .ok (.iadd, 1) := by decide +kernel
theorem dX2_tired_71 : decode cX2_tired 71 = .ok (.istore_n 1, 1) := by decide +kernel
theorem dX2_tired_72 : decode cX2_tired 72 = .ok (.iinc 8 1, 3) := by decide +kernel
theorem dX2_tired_75 : decode cX2_tired 75 = .ok (.goto (-38), 3) := by decide +kernel
theorem dX2_tired_78 : decode cX2_tired 78 = .ok (.iinc 4 1, 3) := by decide +kernel
theorem dX2_tired_81 : decode cX2_tired 81 = .ok (.goto (-68), 3) := by decide +kernel
theorem dX2_tired_84 : decode cX2_tired 84 = .ok (.iload_n 1, 1) := by decide +kernel
theorem dX2_tired_85 : decode cX2_tired 85 = .ok (.ireturn, 1) := by decide +kernel
set_option maxRecDepth 20000 in
theorem ggX2_isSame_X3_apples : GoodIn wsX2_isSame wsX3_apples := goodIn_r _ [17, 18, 19, 20, 134, 135, 136, 137] (by decide +kernel) (by decide +kernel)
set_option maxRecDepth 20000 in
theorem gX2_isSame_X3_apples : GoodIn wsX2_isSame (wsV RX2 55 RX3 yX3_apples wsX3_apples) := goodIn_app (goodIn_of _ (by decide +kernel)) ggX2_isSame_X3_apples
set_option maxRecDepth 20000 in
theorem ggX2_isSame_X1_tree : GoodIn wsX2_isSame wsX1_tree := goodIn_ca (goodIn_r _ [25, 26, 27, 28, 29, 30, 31, 32, 33, 24, 34, 35, 36, 37, 38, 39, 40, 41, 42, 43, 44, 45, 46, 47, 48, 49, 50, 51, 52, 53, 54, 55, 56, 57, 58, 59, 60, 61, 138, 139, 140, 141, 142, 143, 144, 145, 146, 147, 148, 149, 150, 151, 152, 153, 154] (by decide +kernel) (by decide +kernel)) (goodIn_sub (fun _ h => List.mem_cons_of_mem _ (List.mem_append_right _ h)) (by decide +kernel))
set_option maxRecDepth 20000 in
theorem gX2_isSame_X1_tree : GoodIn wsX2_isSame (wsV RX2 62 RX1 yX1_tree wsX1_tree) := goodIn_app (goodIn_of _ (by decide +kernel)) ggX2_isSame_X1_tree
set_option maxRecDepth 20000 in
theorem ggX2_isSame_X1_leans : GoodIn wsX2_isSame wsX1_leans := goodIn_ca (goodIn_r _ [65, 26, 27, 35, 36, 24, 37, 38, 39, 40, 45, 46, 47, 48, 49, 50, 51, 52, 53, 29, 28, 31, 54, 30, 41, 42, 43, 44, 55, 56, 57, 58, 59, 60, 61, 66, 67, 68, 138, 139, 140, 141, 142, 143, 144, 145, 146, 147, 148, 149, 150, 151, 152, 153, 154] (by decide +kernel) (by decide +kernel)) (goodIn_sub (fun _ h => List.mem_cons_of_mem _ (List.mem_append_right _ h)) (by decide +kernel))
set_option maxRecDepth 20000 in
theorem gX2_isSame_X1_leans : GoodIn wsX2_isSame (wsV RX2 68 RX1 yX1_leans wsX1_leans) := goodIn_app (goodIn_of _ (by decide +kernel)) ggX2_isSame_X1_leans
set_option maxRecDepth 20000 in
theorem ggX2_isSame_X1_sort : GoodIn wsX2_isSame wsX1_sort := goodIn_ca (goodIn_r _ [72, 26, 27, 73, 54, 74, 75, 76, 24, 77, 35, 36, 37, 78, 79, 80, 81, 30, 138, 139, 140, 141, 142, 143, 144, 145, 146, 147, 148, 149, 150] (by decide +kernel) (by decide +kernel)) (goodIn_sub (fun _ h => List.mem_cons_of_mem _ (List.mem_append_right _ h)) (by decide +kernel))
set_option maxRecDepth 20000 in
theorem gX2_isSame_X1_sort : GoodIn wsX2_isSame (wsV RX2 72 RX1 yX1_sort wsX1_sort) := goodIn_app (goodIn_of _ (by decide +kernel)) ggX2_isSame_X1_sort
set_option maxRecDepth 20000 in
theorem ggX2_isSame_X2_tired : GoodIn wsX2_isSame wsX2_tired := goodIn_r _ [86, 2, 6, 126, 127, 128, 129, 130, 131, 132, 133, 134, 135, 136, 137] (by decide +kernel) (by decide +kernel)
set_option maxRecDepth 20000 in
theorem gX2_isSame_X2_tired : GoodIn wsX2_isSame (wsV RX2 75 RX2 yX2_tired wsX2_tired) := goodIn_app (goodIn_of _ (by decide +kernel)) ggX2_isSame_X2_tired
set_option maxRecDepth 20000 in
theorem ggX2_isSame_X1_count : GoodIn wsX2_isSame wsX1_count := goodIn_ca (goodIn_r _ [90, 26, 27, 91, 92, 35, 36, 24, 37, 93, 94, 95, 96, 41, 42, 43, 44, 30, 97, 98, 99, 100, 31, 101, 102, 103, 104, 74, 105, 106, 107, 108, 73, 109, 110, 111, 112, 28, 38, 39, 40, 66, 67, 68, 138, 139, 140, 141, 142, 143, 144, 145, 146, 147, 148, 149, 150] (by decide +kernel) (by decide +kernel)) (goodIn_sub (fun _ h => List.mem_cons_of_mem _ (List.mem_append_right _ h)) (by decide +kernel))
set_option maxRecDepth 20000 in
theorem gX2_isSame_X1_count : GoodIn wsX2_isSame (wsV RX2 77 RX1 yX1_count wsX1_count) := goodIn_app (goodIn_of _ (by decide +kernel)) ggX2_isSame_X1_count
set_option maxRecDepth 20000 in
theorem ggX2_isSame_X1_tilt : GoodIn wsX2_isSame wsX1_tilt := goodIn_r _ [116, 117, 138, 139, 140, 141, 142, 143, 144, 145, 146, 147, 148, 149, 150] (by decide +kernel) (by decide +kernel)
set_option maxRecDepth 20000 in
theorem gX2_isSame_X1_tilt : GoodIn wsX2_isSame (wsV RX2 80 RX1 yX1_tilt wsX1_tilt) := goodIn_app (goodIn_of _ (by decide +kernel)) ggX2_isSame_X1_tilt
set_option maxRecDepth 20000 in
theorem ggX2_isSame_X1_mean : GoodIn wsX2_isSame wsX1_mean := goodIn_r _ [121, 28, 93, 94, 95, 24, 96, 41, 42, 43, 44, 30, 138, 139, 140, 141, 142, 143, 144, 145, 146, 147, 148, 149, 150] (by decide +kernel) (by decide +kernel)
set_option maxRecDepth 20000 in
theorem gX2_isSame_X1_mean : GoodIn wsX2_isSame (wsV RX2 85 RX1 yX1_mean wsX1_mean) := goodIn_app (goodIn_of _ (by decide +kernel)) ggX2_isSame_X1_mean
set_option maxRecDepth 20000 in
theorem ggX2_isSame_X2_branches : GoodIn wsX2_isSame wsX2_branches := goodIn_r _ [125, 2, 3, 126, 127, 128, 129, 130, 131, 132, 133, 134, 135, 136, 137] (by decide +kernel) (by decide +kernel)
set_option maxRecDepth 20000 in
theorem gX2_isSame_X2_branches : GoodIn wsX2_isSame (wsV RX2 89 RX2 yX2_branches wsX2_branches) := goodIn_app (goodIn_of _ (by decide +kernel)) ggX2_isSame_X2_branches
theorem dX2_isSame_0 : decode cX2_isSame 0 = .ok (.iconst 0, 1) := by decide +kernel
theorem dX2_isSame_1 : decode cX2_isSame 1 = .ok (.istore_n 2, 1) := by decide +kernel
theorem dX2_isSame_2 : decode cX2_isSame 2 = .ok (.iconst 0, 1) := by decide +kernel
theorem dX2_isSame_3 : decode cX2_isSame 3 = .ok (.istore_n 3, 1) := by decide +kernel
theorem dX2_isSame_4 : decode cX2_isSame 4 = .ok (.iconst 0, 1) := by decide +kernel
theorem dX2_isSame_5 : decode cX2_isSame 5 = .ok (.istore 4, 2) := by decide +kernel
theorem dX2_isSame_7 : decode cX2_isSame 7 = .ok (.iconst 0, 1) := by decide +kernel
theorem dX2_isSame_8 : decode cX2_isSame 8 = .ok (.istore 5, 2) := by decide +kernel
theorem dX2_isSame_10 : decode cX2_isSame 10 = .ok (.bipush 6, 2) := by decide +kernel
theorem dX2_isSame_12 : decode cX2_isSame 12 = .ok (.newarray .int, 2) := by decide +kernel
theorem dX2_isSame_14 : decode cX2_isSame 14 = .ok (.astore 6, 2) := by decide +kernel
theorem dX2_isSame_16 : decode cX2_isSame 16 = .ok (.iconst 0, 1) := by decide +kernel
theorem dX2_isSame_17 : decode cX2_isSame 17 = .ok (.istore 7, 2) := by decide +kernel
theorem dX2_isSame_19 : decode cX2_isSame 19 = .ok (.iload 7, 2) := by decide +kernel
theorem dX2_isSame_21 : decode cX2_isSame 21 = .ok (.iconst 5, 1) := by decide +kernel
theorem dX2_isSame_22 : decode cX2_isSame 22 = .ok (.if_icmp .ge 313, 3) := by decide +kernel
theorem dX2_isSame_25 : decode cX2_isSame 25 = .ok (.iconst 0, 1) := by decide +kernel
theorem dX2_isSame_26 : decode cX2_isSame 26 = .ok (.istore 8, 2) := by decide +kernel
theorem dX2_isSame_28 : decode cX2_isSame 28 = .ok (.iconst 0, 1) := by decide +kernel
theorem dX2_isSame_29 : decode cX2_isSame 29 = .ok (.istore 9, 2) := by decide +kernel
theorem dX2_isSame_31 : decode cX2_isSame 31 = .ok (.iload 9, 2) := by decide +kernel
theorem dX2_isSame_33 : decode cX2_isSame 33 = .ok (.bipush 8, 2) := by decide +kernel
theorem dX2_isSame_35 : decode cX2_isSame 35 = .ok (.if_icmp .ge 281, 3) := by decide +kernel
theorem dX2_isSame_38 : decode cX2_isSame 38 = .ok (.aload_n 0, 1) := by decide +kernel
theorem dX2_isSame_39 : decode cX2_isSame 39 = .ok (.getfield 9, 3) := by decide +kernel
theorem dX2_isSame_42 : decode cX2_isSame 42 = .ok (.iload 7, 2) := by decide +kernel
theorem dX2_isSame_44 : decode cX2_isSame 44 = .ok (.aaload, 1) := by decide +kernel
theorem dX2_isSame_45 : decode cX2_isSame 45 = .ok (.iload 9, 2) := by decide +kernel
theorem dX2_isSame_47 : decode cX2_isSame 47 = .ok (.aaload, 1) := by decide +kernel
theorem dX2_isSame_48 : decode cX2_isSame 48 = .ok (.astore 10, 2) := by decide +kernel
theorem dX2_isSame_50 : decode cX2_isSame 50 = .ok (.aload 10, 2) := by decide +kernel
theorem dX2_isSame_52 : decode cX2_isSame 52 = .ok (.ifnonnull 34, 3) := by decide +kernel
theorem dX2_isSame_55 : decode cX2_isSame 55 = .ok (.bipush 6, 2) := by decide +kernel
theorem dX2_isSame_57 : decode cX2_isSame 57 = .ok (.newarray .int, 2) := by decide +kernel
theorem dX2_isSame_59 : decode cX2_isSame 59 = .ok (.dup, 1) := by decide +kernel
theorem dX2_isSame_60 : decode cX2_isSame 60 = .ok (.iconst 0, 1) := by decide +kernel
theorem dX2_isSame_61 : decode cX2_isSame 61 = .ok (.iconst 0, 1) := by decide +kernel
theorem dX2_isSame_62 : decode cX2_isSame 62 = .ok (.iastore, 1) := by decide +kernel
theorem dX2_isSame_63 : decode cX2_isSame 63 = .ok (.dup, 1) := by decide +kernel
theorem dX2_isSame_64 : decode cX2_isSame 64 = .ok (.iconst 1, 1) := by decide +kernel
theorem dX2_isSame_65 : decode cX2_isSame 65 = .ok (.iconst 0, 1) := by decide +kernel
theorem dX2_isSame_66 : decode cX2_isSame 66 = .ok (.iastore, 1) := by decide +kernel
theorem dX2_isSame_67 : decode cX2_isSame 67 = .ok (.dup, 1) := by decide +kernel
theorem dX2_isSame_68 : decode cX2_isSame 68 = .ok (.iconst 2, 1) := by decide +kernel
theorem dX2_isSame_69 : decode cX2_isSame 69 = .ok (.iconst 0, 1) := by decide +kernel
theorem dX2_isSame_70 : decode cX2_isSame 70 = .ok (.iastore, 1) := by decide +kernel
theorem dX2_isSame_71 : decode cX2_isSame 71 = .ok (.dup, 1) := by decide +kernel
theorem dX2_isSame_72 : decode cX2_isSame 72 = .ok (.iconst 3, 1) := by decide +kernel
theorem dX2_isSame_73 : decode cX2_isSame 73 = .ok (.iconst (-1), 1) := by decide +kernel
theorem dX2_isSame_74 : decode cX2_isSame 74 = .ok (.iastore, 1) := by decide +kernel
theorem dX2_isSame_75 : decode cX2_isSame 75 = .ok (.dup, 1) := by decide +kernel
theorem dX2_isSame_76 : decode cX2_isSame 76 = .ok (.iconst 4, 1) := by decide +kernel
theorem dX2_isSame_77 : decode cX2_isSame 77 = .ok (.iconst 0, 1) := by decide +kernel
theorem dX2_isSame_78 : decode cX2_isSame 78 = .ok (.iastore, 1) := by decide +kernel
theorem dX2_isSame_79 : decode cX2_isSame 79 = .ok (.dup, 1) := by decide +kernel
theorem dX2_isSame_80 : decode cX2_isSame 80 = .ok (.iconst 5, 1) := by decide +kernel
theorem dX2_isSame_81 : decode cX2_isSame 81 = .ok (.iconst 0, 1) := by decide +kernel
theorem dX2_isSame_82 : decode cX2_isSame 82 = .ok (.iastore, 1) := by decide +kernel
theorem dX2_isSame_83 : decode cX2_isSame 83 = .ok (.goto 59, 3) := by decide +kernel
theorem dX2_isSame_86 : decode cX2_isSame 86 = .ok (.bipush 6, 2) := by decide +kernel
theorem dX2_isSame_88 : decode cX2_isSame 88 = .ok (.newarray .int, 2) := by decide +kernel
theorem dX2_isSame_90 : decode cX2_isSame 90 = .ok (.dup, 1) := by decide +kernel
theorem dX2_isSame_91 : decode cX2_isSame 91 = .ok (.iconst 0, 1) := by decide +kernel
theorem dX2_isSame_92 : decode cX2_isSame 92 = .ok (.iconst 1, 1) := by decide +kernel
theorem dX2_isSame_93 : decode cX2_isSame 93 = .ok (.iastore, 1) := by decide +kernel
theorem dX2_isSame_94 : decode cX2_isSame 94 = .ok (.dup, 1) := by decide +kernel
theorem dX2_isSame_95 : decode cX2_isSame 95 = .ok (.iconst 1, 1) := by decide +kernel
theorem dX2_isSame_96 : decode cX2_isSame 96 = .ok (.aload 10, 2) := by decide +kernel
theorem dX2_isSame_98 : decode cX2_isSame 98 = .ok (.getfield 41, 3) := by decide +kernel
theorem dX2_isSame_101 : decode cX2_isSame 101 = .ok (.iastore, 1) := by decide +kernel
theorem dX2_isSame_102 : decode cX2_isSame 102 = .ok (.dup, 1) := by decide +kernel
theorem dX2_isSame_103 : decode cX2_isSame 103 = .ok (.iconst 2, 1) := by decide +kernel
theorem dX2_isSame_104 : decode cX2_isSame 104 = .ok (.aload 10, 2) := by decide +kernel
theorem dX2_isSame_106 : decode cX2_isSame 106 = .ok (.getfield 48, 3) := by decide +kernel
theorem dX2_isSame_109 : decode cX2_isSame 109 = .ok (.iastore, 1) := by decide +kernel
theorem dX2_isSame_110 : decode cX2_isSame 110 = .ok (.dup, 1) := by decide +kernel
theorem dX2_isSame_111 : decode cX2_isSame 111 = .ok (.iconst 3, 1) := by decide +kernel
theorem dX2_isSame_112 : decode cX2_isSame 112 = .ok (.aload 10, 2) := by decide +kernel
theorem dX2_isSame_114 : decode cX2_isSame 114 = .ok (.getfield 44, 3) := by decide +kernel
theorem dX2_isSame_117 : decode cX2_isSame 117 = .ok (.iastore, 1) := by decide +kernel
theorem dX2_isSame_118 : decode cX2_isSame 118 = .ok (.dup, 1) := by decide +kernel
theorem dX2_isSame_119 : decode cX2_isSame 119 = .ok (.iconst 4, 1) := by decide +kernel
theorem dX2_isSame_120 : decode cX2_isSame 120 = .ok (.aload 10, 2) := by decide +kernel
theorem dX2_isSame_122 : decode cX2_isSame 122 = .ok (.getfield 51, 3) := by decide +kernel
theorem dX2_isSame_125 : decode cX2_isSame 125 = .ok (.ifCond .eq 7, 3) := by decide +kernel
theorem dX2_isSame_128 : decode cX2_isSame 128 = .ok (.iconst 1, 1) := by decide +kernel
theorem dX2_isSame_129 : decode cX2_isSame 129 = .ok (.goto 4, 3) := by decide +kernel
theorem dX2_isSame_132 : decode cX2_isSame 132 = .ok (.iconst 0, 1) := by decide +kernel
theorem dX2_isSame_133 : decode cX2_isSame 133 = .ok (.iastore, 1) := by decide +kernel
theorem dX2_isSame_134 : decode cX2_isSame 134 = .ok (.dup, 1) := by decide +kernel
theorem dX2_isSame_135 : decode cX2_isSame 135 = .ok (.iconst 5, 1) := by decide +kernel
theorem dX2_isSame_136 : decode cX2_isSame 136 = .ok (.aload 10, 2) := by decide +kernel
theorem dX2_isSame_138 : decode cX2_isSame 138 = .ok (.invokevirtual 55, 3) := by decide +kernel
theorem dX2_isSame_141 : decode cX2_isSame 141 = .ok (.iastore, 1) := by decide +kernel
theorem dX2_isSame_142 : decode cX2_isSame 142 = .ok (.astore 11, 2) := by decide +kernel
theorem dX2_isSame_144 : decode cX2_isSame 144 = .ok (.iconst 0, 1) := by decide +kernel
theorem dX2_isSame_145 : decode cX2_isSame 145 = .ok (.istore 12, 2) := by decide +kernel
theorem dX2_isSame_147 : decode cX2_isSame 147 = .ok (.iload 12, 2) := by decide +kernel
theorem dX2_isSame_149 : decode cX2_isSame 149 = .ok (.bipush 6, 2) := by decide +kernel
theorem dX2_isSame_151 : decode cX2_isSame 151 = .ok (.if_icmp .ge 29, 3) := by decide +kernel
theorem dX2_isSame_154 : decode cX2_isSame 154 = .ok (.aload_n 1, 1) := by decide +kernel
theorem dX2_isSame_155 : decode cX2_isSame 155 = .ok (.iload 7, 2) := by decide +kernel
theorem dX2_isSame_157 : decode cX2_isSame 157 = .ok (.iload 9, 2) := by decide +kernel
theorem dX2_isSame_159 : decode cX2_isSame 159 = .ok (.iload 12, 2) := by decide +kernel
theorem dX2_isSame_161 : decode cX2_isSame 161 = .ok (.invokevirtual 62, 3) := by decide +kernel
theorem dX2_isSame_164 : decode cX2_isSame 164 = .ok (.aload 11, 2) := by decide +kernel
theorem dX2_isSame_166 : decode cX2_isSame 166 = .ok (.iload 12, 2) := by decide +kernel
theorem dX2_isSame_168 : decode cX2_isSame 168 = .ok (.iaload, 1) := by decide +kernel
theorem dX2_isSame_169 : decode cX2_isSame 169 = .ok (.if_icmp .eq 5, 3) := by decide +kernel
theorem dX2_isSame_172 : decode cX2_isSame 172 = .ok (.iconst 0, 1) := by decide +kernel
theorem dX2_isSame_173 : decode cX2_isSame 173 = .ok (.ireturn, 1) := by decide +kernel
theorem dX2_isSame_174 : decode cX2_isSame 174 = .ok (.iinc 12 1, 3) := by decide +kernel
theorem dX2_isSame_177 : decode cX2_isSame 177 = .ok (.goto (-30), 3) := by decide +kernel
theorem dX2_isSame_180 : decode cX2_isSame 180 = .ok (.iload_n 2, 1) := by decide +kernel
theorem dX2_isSame_181 : decode cX2_isSame 181 = .ok (.aload 11, 2) := by decide +kernel
theorem dX2_isSame_183 : decode cX2_isSame 183 = .ok (.iconst 0, 1) := by decide +kernel
theorem dX2_isSame_184 : decode cX2_isSame 184 = .ok (.iaload, 1) := by decide +kernel
theorem dX2_isSame_185 : decode cX2_isSame 185 = .ok (.iadd, 1) := by decide +kernel
theorem dX2_isSame_186 : decode cX2_isSame 186 = .ok (.istore_n 2, 1) := by decide +kernel
theorem dX2_isSame_187 : decode cX2_isSame 187 = .ok (.iload 8, 2) := by decide +kernel
theorem dX2_isSame_189 : decode cX2_isSame 189 = .ok (.iload 9, 2) := by decide +kernel
theorem dX2_isSame_191 : decode cX2_isSame 191 = .ok (.iconst 4, 1) := by decide +kernel
theorem dX2_isSame_192 : decode cX2_isSame 192 = .ok (.if_icmp .ge 10, 3) := by decide +kernel
theorem dX2_isSame_195 : decode cX2_isSame 195 = .ok (.aload 11, 2) := by decide +kernel
theorem dX2_isSame_197 : decode cX2_isSame 197 = .ok (.iconst 5, 1) := by decide +kernel
theorem dX2_isSame_198 : decode cX2_isSame 198 = .ok (.iaload, 1) := by decide +kernel
theorem dX2_isSame_199 : decode cX2_isSame 199 = .ok (.goto 8, 3) := by decide +kernel
theorem dX2_isSame_202 : decode cX2_isSame 202 = .ok (.aload 11, 2) := by decide +kernel
theorem dX2_isSame_204 : decode cX2_isSame 204 = .ok (.iconst 5, 1) := by decide +kernel
theorem dX2_isSame_205 : decode cX2_isSame 205 = .ok (.iaload, 1) := by decide +kernel
theorem dX2_isSame_206 : decode cX2_isSame 206 = .ok (.ineg, 1) := by decide +kernel
theorem dX2_isSame_207 : decode cX2_isSame 207 = .ok (.iadd, 1) := by decide +kernel
theorem dX2_isSame_208 : decode cX2_isSame 208 = .ok (.istore 8, 2) := by decide +kernel
theorem dX2_isSame_210 : decode cX2_isSame 210 = .ok (.aload 10, 2) := by decide +kernel
theorem dX2_isSame_212 : decode cX2_isSame 212 = .ok (.ifnull 15, 3) := by decide +kernel
theorem dX2_isSame_215 : decode cX2_isSame 215 = .ok (.aload 6, 2) := by decide +kernel
theorem dX2_isSame_217 : decode cX2_isSame 217 = .ok (.aload 10, 2) := by decide +kernel
theorem dX2_isSame_219 : decode cX2_isSame 219 = .ok (.getfield 44, 3) := by decide +kernel
theorem dX2_isSame_222 : decode cX2_isSame 222 = .ok (.dup2, 1) := by decide +kernel
theorem dX2_isSame_223 : decode cX2_isSame 223 = .ok (.iaload, 1) := by decide +kernel
theorem dX2_isSame_224 : decode cX2_isSame 224 = .ok (.iconst 1, 1) := by decide +kernel
theorem dX2_isSame_225 : decode cX2_isSame 225 = .ok (.iadd, 1) := by decide +kernel
theorem dX2_isSame_226 : decode cX2_isSame 226 = .ok (.iastore, 1) := by decide +kernel
theorem dX2_isSame_227 : decode cX2_isSame 227 = .ok (.iload 9, 2) := by decide +kernel
theorem dX2_isSame_229 : decode cX2_isSame 229 = .ok (.iconst 3, 1) := by decide +kernel
theorem dX2_isSame_230 : decode cX2_isSame 230 = .ok (.if_icmp .le 6, 3) := by decide +kernel
theorem dX2_isSame_233 : decode cX2_isSame 233 = .ok (.goto 77, 3) := by decide +kernel
theorem dX2_isSame_236 : decode cX2_isSame 236 = .ok (.aload_n 0, 1) := by decide +kernel
theorem dX2_isSame_237 : decode cX2_isSame 237 = .ok (.getfield 9, 3) := by decide +kernel
theorem dX2_isSame_240 : decode cX2_isSame 240 = .ok (.iload 7, 2) := by decide +kernel
theorem dX2_isSame_242 : decode cX2_isSame 242 = .ok (.aaload, 1) := by decide +kernel
theorem dX2_isSame_243 : decode cX2_isSame 243 = .ok (.bipush 7, 2) := by decide +kernel
theorem dX2_isSame_245 : decode cX2_isSame 245 = .ok (.iload 9, 2) := by decide +kernel
theorem dX2_isSame_247 : decode cX2_isSame 247 = .ok (.isub, 1) := by decide +kernel
theorem dX2_isSame_248 : decode cX2_isSame 248 = .ok (.aaload, 1) := by decide +kernel
theorem dX2_isSame_249 : decode cX2_isSame 249 = .ok (.astore 12, 2) := by decide +kernel
theorem dX2_isSame_251 : decode cX2_isSame 251 = .ok (.iload_n 3, 1) := by decide +kernel
theorem dX2_isSame_252 : decode cX2_isSame 252 = .ok (.aload 10, 2) := by decide +kernel
theorem dX2_isSame_254 : decode cX2_isSame 254 = .ok (.ifnull 8, 3) := by decide +kernel
theorem dX2_isSame_257 : decode cX2_isSame 257 = .ok (.aload 12, 2) := by decide +kernel
theorem dX2_isSame_259 : decode cX2_isSame 259 = .ok (.ifnonnull 18, 3) := by decide +kernel
theorem dX2_isSame_262 : decode cX2_isSame 262 = .ok (.aload 10, 2) := by decide +kernel
theorem dX2_isSame_264 : decode cX2_isSame 264 = .ok (.aload 12, 2) := by decide +kernel
theorem dX2_isSame_266 : decode cX2_isSame 266 = .ok (.if_acmp .ne 7, 3) := by decide +kernel
theorem dX2_isSame_269 : decode cX2_isSame 269 = .ok (.iconst 0, 1) := by decide +kernel
theorem dX2_isSame_270 : decode cX2_isSame 270 = .ok (.goto 38, 3) := by decide +kernel
theorem dX2_isSame_273 : decode cX2_isSame 273 = .ok (.iconst 1, 1) := by decide +kernel
theorem dX2_isSame_274 : decode cX2_isSame 274 = .ok (.goto 34, 3) := by decide +kernel
theorem dX2_isSame_277 : decode cX2_isSame 277 = .ok (.aload 10, 2) := by decide +kernel
theorem dX2_isSame_279 : decode cX2_isSame 279 = .ok (.getfield 44, 3) := by decide +kernel
theorem dX2_isSame_282 : decode cX2_isSame 282 = .ok (.aload 12, 2) := by decide +kernel
theorem dX2_isSame_284 : decode cX2_isSame 284 = .ok (.getfield 44, 3) := by decide +kernel
theorem dX2_isSame_287 : decode cX2_isSame 287 = .ok (.if_icmp .ne 16, 3) := by decide +kernel
theorem dX2_isSame_290 : decode cX2_isSame 290 = .ok (.aload 10, 2) := by decide +kernel
theorem dX2_isSame_292 : decode cX2_isSame 292 = .ok (.getfield 41, 3) := by decide +kernel
theorem dX2_isSame_295 : decode cX2_isSame 295 = .ok (.aload 12, 2) := by decide +kernel
theorem dX2_isSame_297 : decode cX2_isSame 297 = .ok (.getfield 41, 3) := by decide +kernel
theorem dX2_isSame_300 : decode cX2_isSame 300 = .ok (.if_icmp .eq 7, 3) := by decide +kernel
theorem dX2_isSame_303 : decode cX2_isSame 303 = .ok (.iconst 1, 1) := by decide +kernel
theorem dX2_isSame_304 : decode cX2_isSame 304 = .ok (.goto 4, 3) := by decide +kernel
theorem dX2_isSame_307 : decode cX2_isSame 307 = .ok (.iconst 0, 1) := by decide +kernel
theorem dX2_isSame_308 : decode cX2_isSame 308 = .ok (.iadd, 1) := by decide +kernel
theorem dX2_isSame_309 : decode cX2_isSame 309 = .ok (.istore_n 3, 1) := by decide +kernel
theorem dX2_isSame_310 : decode cX2_isSame 310 = .ok (.iinc 9 1, 3) := by decide +kernel
theorem dX2_isSame_313 : decode cX2_isSame 313 = .ok (.goto (-282), 3) := by decide +kernel
theorem dX2_isSame_316 : decode cX2_isSame 316 = .ok (.aload_n 1, 1) := by decide +kernel
theorem dX2_isSame_317 : decode cX2_isSame 317 = .ok (.iload 7, 2) := by decide +kernel
theorem dX2_isSame_319 : decode cX2_isSame 319 = .ok (.invokevirtual 68, 3) := by decide +kernel
theorem dX2_isSame_322 : decode cX2_isSame 322 = .ok (.iload 8, 2) := by decide +kernel
theorem dX2_isSame_324 : decode cX2_isSame 324 = .ok (.if_icmp .eq 5, 3) := by decide +kernel
theorem dX2_isSame_327 : decode cX2_isSame 327 = .ok (.iconst 0, 1) := by decide +kernel
theorem dX2_isSame_328 : decode cX2_isSame 328 = .ok (.ireturn, 1) := by decide +kernel
theorem dX2_isSame_329 : decode cX2_isSame 329 = .ok (.iinc 7 1, 3) := by decide +kernel
theorem dX2_isSame_332 : decode cX2_isSame 332 = .ok (.goto (-313), 3) := by decide +kernel
theorem dX2_isSame_335 : decode cX2_isSame 335 = .ok (.iconst 0, 1) := by decide +kernel
theorem dX2_isSame_336 : decode cX2_isSame 336 = .ok (.istore 7, 2) := by decide +kernel
theorem dX2_isSame_338 : decode cX2_isSame 338 = .ok (.iload 7, 2) := by decide +kernel
theorem dX2_isSame_340 : decode cX2_isSame 340 = .ok (.bipush 6, 2) := by decide +kernel
theorem dX2_isSame_342 : decode cX2_isSame 342 = .ok (.if_icmp .ge 117, 3) := by decide +kernel
theorem dX2_isSame_345 : decode cX2_isSame 345 = .ok (.iload 4, 2) := by decide +kernel
theorem dX2_isSame_347 : decode cX2_isSame 347 = .ok (.aload_n 0, 1) := by decide +kernel
theorem dX2_isSame_348 : decode cX2_isSame 348 = .ok (.getfield 24, 3) := by decide +kernel
theorem dX2_isSame_351 : decode cX2_isSame 351 = .ok (.iload 7, 2) := by decide +kernel
theorem dX2_isSame_353 : decode cX2_isSame 353 = .ok (.iaload, 1) := by decide +kernel
theorem dX2_isSame_354 : decode cX2_isSame 354 = .ok (.iadd, 1) := by decide +kernel
theorem dX2_isSame_355 : decode cX2_isSame 355 = .ok (.istore 4, 2) := by decide +kernel
theorem dX2_isSame_357 : decode cX2_isSame 357 = .ok (.iload 5, 2) := by decide +kernel
theorem dX2_isSame_359 : decode cX2_isSame 359 = .ok (.aload_n 0, 1) := by decide +kernel
theorem dX2_isSame_360 : decode cX2_isSame 360 = .ok (.getfield 24, 3) := by decide +kernel
theorem dX2_isSame_363 : decode cX2_isSame 363 = .ok (.iload 7, 2) := by decide +kernel
theorem dX2_isSame_365 : decode cX2_isSame 365 = .ok (.iaload, 1) := by decide +kernel
theorem dX2_isSame_366 : decode cX2_isSame 366 = .ok (.aload_n 0, 1) := by decide +kernel
theorem dX2_isSame_367 : decode cX2_isSame 367 = .ok (.getfield 14, 3) := by decide +kernel
theorem dX2_isSame_370 : decode cX2_isSame 370 = .ok (.iload 7, 2) := by decide +kernel
theorem dX2_isSame_372 : decode cX2_isSame 372 = .ok (.iaload, 1) := by decide +kernel
theorem dX2_isSame_373 : decode cX2_isSame 373 = .ok (.imul, 1) := by decide +kernel
theorem dX2_isSame_374 : decode cX2_isSame 374 = .ok (.iadd, 1) := by decide +kernel
theorem dX2_isSame_375 : decode cX2_isSame 375 = .ok (.istore 5, 2) := by decide +kernel
theorem dX2_isSame_377 : decode cX2_isSame 377 = .ok (.iconst 4, 1) := by decide +kernel
theorem dX2_isSame_378 : decode cX2_isSame 378 = .ok (.newarray .int, 2) := by decide +kernel
theorem dX2_isSame_380 : decode cX2_isSame 380 = .ok (.dup, 1) := by decide +kernel
theorem dX2_isSame_381 : decode cX2_isSame 381 = .ok (.iconst 0, 1) := by decide +kernel
theorem dX2_isSame_382 : decode cX2_isSame 382 = .ok (.aload_n 0, 1) := by decide +kernel
theorem dX2_isSame_383 : decode cX2_isSame 383 = .ok (.getfield 14, 3) := by decide +kernel
theorem dX2_isSame_386 : decode cX2_isSame 386 = .ok (.iload 7, 2) := by decide +kernel
theorem dX2_isSame_388 : decode cX2_isSame 388 = .ok (.iaload, 1) := by decide +kernel
theorem dX2_isSame_389 : decode cX2_isSame 389 = .ok (.iastore, 1) := by decide +kernel
theorem dX2_isSame_390 : decode cX2_isSame 390 = .ok (.dup, 1) := by decide +kernel
theorem dX2_isSame_391 : decode cX2_isSame 391 = .ok (.iconst 1, 1) := by decide +kernel
theorem dX2_isSame_392 : decode cX2_isSame 392 = .ok (.aload_n 0, 1) := by decide +kernel
theorem dX2_isSame_393 : decode cX2_isSame 393 = .ok (.getfield 18, 3) := by decide +kernel
theorem dX2_isSame_396 : decode cX2_isSame 396 = .ok (.iload 7, 2) := by decide +kernel
theorem dX2_isSame_398 : decode cX2_isSame 398 = .ok (.iaload, 1) := by decide +kernel
theorem dX2_isSame_399 : decode cX2_isSame 399 = .ok (.iastore, 1) := by decide +kernel
theorem dX2_isSame_400 : decode cX2_isSame 400 = .ok (.dup, 1) := by decide +kernel
theorem dX2_isSame_401 : decode cX2_isSame 401 = .ok (.iconst 2, 1) := by decide +kernel
theorem dX2_isSame_402 : decode cX2_isSame 402 = .ok (.aload_n 0, 1) := by decide +kernel
theorem dX2_isSame_403 : decode cX2_isSame 403 = .ok (.getfield 24, 3) := by decide +kernel
theorem dX2_isSame_406 : decode cX2_isSame 406 = .ok (.iload 7, 2) := by decide +kernel
theorem dX2_isSame_408 : decode cX2_isSame 408 = .ok (.iaload, 1) := by decide +kernel
theorem dX2_isSame_409 : decode cX2_isSame 409 = .ok (.iastore, 1) := by decide +kernel
theorem dX2_isSame_410 : decode cX2_isSame 410 = .ok (.dup, 1) := by decide +kernel
theorem dX2_isSame_411 : decode cX2_isSame 411 = .ok (.iconst 3, 1) := by decide +kernel
theorem dX2_isSame_412 : decode cX2_isSame 412 = .ok (.aload 6, 2) := by decide +kernel
theorem dX2_isSame_414 : decode cX2_isSame 414 = .ok (.iload 7, 2) := by decide +kernel
theorem dX2_isSame_416 : decode cX2_isSame 416 = .ok (.iaload, 1) := by decide +kernel
theorem dX2_isSame_417 : decode cX2_isSame 417 = .ok (.iastore, 1) := by decide +kernel
theorem dX2_isSame_418 : decode cX2_isSame 418 = .ok (.astore 8, 2) := by decide +kernel
theorem dX2_isSame_420 : decode cX2_isSame 420 = .ok (.iconst 0, 1) := by decide +kernel
theorem dX2_isSame_421 : decode cX2_isSame 421 = .ok (.istore 9, 2) := by decide +kernel
theorem dX2_isSame_423 : decode cX2_isSame 423 = .ok (.iload 9, 2) := by decide +kernel
theorem dX2_isSame_425 : decode cX2_isSame 425 = .ok (.iconst 4, 1) := by decide +kernel
theorem dX2_isSame_426 : decode cX2_isSame 426 = .ok (.if_icmp .ge 27, 3) := by decide +kernel
theorem dX2_isSame_429 : decode cX2_isSame 429 = .ok (.aload_n 1, 1) := by decide +kernel
theorem dX2_isSame_430 : decode cX2_isSame 430 = .ok (.iload 7, 2) := by decide +kernel
theorem dX2_isSame_432 : decode cX2_isSame 432 = .ok (.iload 9, 2) := by decide +kernel
theorem dX2_isSame_434 : decode cX2_isSame 434 = .ok (.invokevirtual 72, 3) := by decide +kernel
theorem dX2_isSame_437 : decode cX2_isSame 437 = .ok (.aload 8, 2) := by decide +kernel
theorem dX2_isSame_439 : decode cX2_isSame 439 = .ok (.iload 9, 2) := by decide +kernel
theorem dX2_isSame_441 : decode cX2_isSame 441 = .ok (.iaload, 1) := by decide +kernel
theorem dX2_isSame_442 : decode cX2_isSame 442 = .ok (.if_icmp .eq 5, 3) := by decide +kernel
theorem dX2_isSame_445 : decode cX2_isSame 445 = .ok (.iconst 0, 1) := by decide +kernel
theorem dX2_isSame_446 : decode cX2_isSame 446 = .ok (.ireturn, 1) := by decide +kernel
theorem dX2_isSame_447 : decode cX2_isSame 447 = .ok (.iinc 9 1, 3) := by decide +kernel
theorem dX2_isSame_450 : decode cX2_isSame 450 = .ok (.goto (-27), 3) := by decide +kernel
theorem dX2_isSame_453 : decode cX2_isSame 453 = .ok (.iinc 7 1, 3) := by decide +kernel
theorem dX2_isSame_456 : decode cX2_isSame 456 = .ok (.goto (-118), 3) := by decide +kernel
theorem dX2_isSame_459 : decode cX2_isSame 459 = .ok (.bipush 8, 2) := by decide +kernel
theorem dX2_isSame_461 : decode cX2_isSame 461 = .ok (.newarray .int, 2) := by decide +kernel
theorem dX2_isSame_463 : decode cX2_isSame 463 = .ok (.dup, 1) := by decide +kernel
theorem dX2_isSame_464 : decode cX2_isSame 464 = .ok (.iconst 0, 1) := by decide +kernel
theorem dX2_isSame_465 : decode cX2_isSame 465 = .ok (.aload_n 0, 1) := by decide +kernel
theorem dX2_isSame_466 : decode cX2_isSame 466 = .ok (.getfield 37, 3) := by decide +kernel
theorem dX2_isSame_469 : decode cX2_isSame 469 = .ok (.iastore, 1) := by decide +kernel
theorem dX2_isSame_470 : decode cX2_isSame 470 = .ok (.dup, 1) := by decide +kernel
theorem dX2_isSame_471 : decode cX2_isSame 471 = .ok (.iconst 1, 1) := by decide +kernel
theorem dX2_isSame_472 : decode cX2_isSame 472 = .ok (.aload_n 0, 1) := by decide +kernel
theorem dX2_isSame_473 : decode cX2_isSame 473 = .ok (.getfield 27, 3) := by decide +kernel
theorem dX2_isSame_476 : decode cX2_isSame 476 = .ok (.iconst 0, 1) := by decide +kernel
theorem dX2_isSame_477 : decode cX2_isSame 477 = .ok (.iaload, 1) := by decide +kernel
theorem dX2_isSame_478 : decode cX2_isSame 478 = .ok (.iastore, 1) := by decide +kernel
theorem dX2_isSame_479 : decode cX2_isSame 479 = .ok (.dup, 1) := by decide +kernel
theorem dX2_isSame_480 : decode cX2_isSame 480 = .ok (.iconst 2, 1) := by decide +kernel
theorem dX2_isSame_481 : decode cX2_isSame 481 = .ok (.aload_n 0, 1) := by decide +kernel
theorem dX2_isSame_482 : decode cX2_isSame 482 = .ok (.getfield 27, 3) := by decide +kernel
theorem dX2_isSame_485 : decode cX2_isSame 485 = .ok (.iconst 1, 1) := by decide +kernel
theorem dX2_isSame_486 : decode cX2_isSame 486 = .ok (.iaload, 1) := by decide +kernel
theorem dX2_isSame_487 : decode cX2_isSame 487 = .ok (.iastore, 1) := by decide +kernel
theorem dX2_isSame_488 : decode cX2_isSame 488 = .ok (.dup, 1) := by decide +kernel
theorem dX2_isSame_489 : decode cX2_isSame 489 = .ok (.iconst 3, 1) := by decide +kernel
theorem dX2_isSame_490 : decode cX2_isSame 490 = .ok (.iload_n 2, 1) := by decide +kernel
theorem dX2_isSame_491 : decode cX2_isSame 491 = .ok (.iastore, 1) := by decide +kernel
theorem dX2_isSame_492 : decode cX2_isSame 492 = .ok (.dup, 1) := by decide +kernel
theorem dX2_isSame_493 : decode cX2_isSame 493 = .ok (.iconst 4, 1) := by decide +kernel
theorem dX2_isSame_494 : decode cX2_isSame 494 = .ok (.aload_n 0, 1) := by decide +kernel
theorem dX2_isSame_495 : decode cX2_isSame 495 = .ok (.invokevirtual 75, 3) := by decide +kernel
theorem dX2_isSame_498 : decode cX2_isSame 498 = .ok (.iastore, 1) := by decide +kernel
theorem dX2_isSame_499 : decode cX2_isSame 499 = .ok (.dup, 1) := by decide +kernel
theorem dX2_isSame_500 : decode cX2_isSame 500 = .ok (.iconst 5, 1) := by decide +kernel
theorem dX2_isSame_501 : decode cX2_isSame 501 = .ok (.iload 4, 2) := by decide +kernel
theorem dX2_isSame_503 : decode cX2_isSame 503 = .ok (.iastore, 1) := by decide +kernel
theorem dX2_isSame_504 : decode cX2_isSame 504 = .ok (.dup, 1) := by decide +kernel
theorem dX2_isSame_505 : decode cX2_isSame 505 = .ok (.bipush 6, 2) := by decide +kernel
theorem dX2_isSame_507 : decode cX2_isSame 507 = .ok (.iload 5, 2) := by decide +kernel
theorem dX2_isSame_509 : decode cX2_isSame 509 = .ok (.iastore, 1) := by decide +kernel
theorem dX2_isSame_510 : decode cX2_isSame 510 = .ok (.dup, 1) := by decide +kernel
theorem dX2_isSame_511 : decode cX2_isSame 511 = .ok (.bipush 7, 2) := by decide +kernel
theorem dX2_isSame_513 : decode cX2_isSame 513 = .ok (.iload_n 3, 1) := by decide +kernel
theorem dX2_isSame_514 : decode cX2_isSame 514 = .ok (.iastore, 1) := by decide +kernel
theorem dX2_isSame_515 : decode cX2_isSame 515 = .ok (.astore 7, 2) := by decide +kernel
theorem dX2_isSame_517 : decode cX2_isSame 517 = .ok (.iconst 0, 1) := by decide +kernel
theorem dX2_isSame_518 : decode cX2_isSame 518 = .ok (.istore 8, 2) := by decide +kernel
theorem dX2_isSame_520 : decode cX2_isSame 520 = .ok (.iload 8, 2) := by decide +kernel
theorem dX2_isSame_522 : decode cX2_isSame 522 = .ok (.bipush 8, 2) := by decide +kernel
theorem dX2_isSame_524 : decode cX2_isSame 524 = .ok (.if_icmp .ge 25, 3) := by decide +kernel
theorem dX2_isSame_527 : decode cX2_isSame 527 = .ok (.aload_n 1, 1) := by decide +kernel
theorem dX2_isSame_528 : decode cX2_isSame 528 = .ok (.iload 8, 2) := by decide +kernel
theorem dX2_isSame_530 : decode cX2_isSame 530 = .ok (.invokevirtual 77, 3) := by decide +kernel
theorem dX2_isSame_533 : decode cX2_isSame 533 = .ok (.aload 7, 2) := by decide +kernel
theorem dX2_isSame_535 : decode cX2_isSame 535 = .ok (.iload 8, 2) := by decide +kernel
theorem dX2_isSame_537 : decode cX2_isSame 537 = .ok (.iaload, 1) := by decide +kernel
theorem dX2_isSame_538 : decode cX2_isSame 538 = .ok (.if_icmp .eq 5, 3) := by decide +kernel
theorem dX2_isSame_541 : decode cX2_isSame 541 = .ok (.iconst 0, 1) := by decide +kernel
theorem dX2_isSame_542 : decode cX2_isSame 542 = .ok (.ireturn, 1) := by decide +kernel
theorem dX2_isSame_543 : decode cX2_isSame 543 = .ok (.iinc 8 1, 3) := by decide +kernel
theorem dX2_isSame_546 : decode cX2_isSame 546 = .ok (.goto (-26), 3) := by decide +kernel
theorem dX2_isSame_549 : decode cX2_isSame 549 = .ok (.aload_n 1, 1) := by decide +kernel
theorem dX2_isSame_550 : decode cX2_isSame 550 = .ok (.invokevirtual 80, 3) := by decide +kernel
theorem dX2_isSame_553 : decode cX2_isSame 553 = .ok (.aload_n 0, 1) := by decide +kernel
theorem dX2_isSame_554 : decode cX2_isSame 554 = .ok (.getfield 83, 3) := by decide +kernel
theorem dX2_isSame_557 : decode cX2_isSame 557 = .ok (.if_icmp .ne 31, 3) := by decide +kernel
theorem dX2_isSame_560 : decode cX2_isSame 560 = .ok (.aload_n 1, 1) := by decide +kernel
theorem dX2_isSame_561 : decode cX2_isSame 561 = .ok (.invokevirtual 85, 3) := by decide +kernel
theorem dX2_isSame_564 : decode cX2_isSame 564 = .ok (.iload_n 2, 1) := by decide +kernel
theorem dX2_isSame_565 : decode cX2_isSame 565 = .ok (.ifCond .ne 7, 3) := by decide +kernel
theorem dX2_isSame_568 : decode cX2_isSame 568 = .ok (.dconst 0, 1) := by decide +kernel
theorem dX2_isSame_569 : decode cX2_isSame 569 = .ok (.goto 11, 3) := by decide +kernel
theorem dX2_isSame_572 : decode cX2_isSame 572 = .ok (.aload_n 0, 1) := by decide +kernel
theorem dX2_isSame_573 : decode cX2_isSame 573 = .ok (.invokevirtual 89, 3) := by decide +kernel
theorem dX2_isSame_576 : decode cX2_isSame 576 = .ok (.i2d, 1) := by decide +kernel
theorem dX2_isSame_577 : decode cX2_isSame 577 = .ok (.iload_n 2, 1) := by decide +kernel
theorem dX2_isSame_578 : decode cX2_isSame 578 = .ok (.i2d, 1) := by decide +kernel
theorem dX2_isSame_579 : decode cX2_isSame 579 = .ok (.ddiv, 1) := by decide +kernel
theorem dX2_isSame_580 : decode cX2_isSame 580 = .ok (.dcmp .l, 1) := by decide +kernel
theorem dX2_isSame_581 : decode cX2_isSame 581 = .ok (.ifCond .ne 7, 3) := by decide +kernel
theorem dX2_isSame_584 : decode cX2_isSame 584 = .ok (.iconst 1, 1) := by decide +kernel
theorem dX2_isSame_585 : decode cX2_isSame 585 = .ok (.goto 4, 3) := by decide +kernel
theorem dX2_isSame_588 : decode cX2_isSame 588 = .ok (.iconst 0, 1) := by decide +kernel
theorem dX2_isSame_589 : decode cX2_isSame 589 = .ok (.ireturn, 1) := by decide +kernel
theorem dX3_init_0 : decode cX3_init 0 = .ok (.aload_n 0, 1) := by decide +kernel
theorem dX3_init_1 : decode cX3_init 1 = .ok (.invokespecial 1, 3) := by decide +kernel
theorem dX3_init_4 : decode cX3_init 4 = .ok (.aload_n 0, 1) := by decide +kernel
theorem dX3_init_5 : decode cX3_init 5 = .ok (.iconst 1, 1) := by decide +kernel
theorem dX3_init_6 : decode cX3_init 6 = .ok (.putfield 7, 3) := by decide +kernel
theorem dX3_init_9 : decode cX3_init 9 = .ok (.return_, 1) := by decide +kernel
theorem dX3_apples_0 : decode cX3_apples 0 = .ok (.aload_n 0, 1) := by decide +kernel
theorem dX3_apples_1 : decode cX3_apples 1 = .ok (.getfield 20, 3) := by decide +kernel
theorem dX3_apples_4 : decode cX3_apples 4 = .ok (.ifCond .eq 17, 3) := by decide +kernel
theorem dX3_apples_7 : decode cX3_apples 7 = .ok (.aload_n 0, 1) := by decide +kernel
theorem dX3_apples_8 : decode cX3_apples 8 = .ok (.getfield 7, 3) := by decide +kernel
theorem dX3_apples_11 : decode cX3_apples 11 = .ok (.aload_n 0, 1) := by decide +kernel
theorem dX3_apples_12 : decode cX3_apples 12 = .ok (.getfield 14, 3) := by decide +kernel
theorem dX3_apples_15 : decode cX3_apples 15 = .ok (.imul, 1) := by decide +kernel
theorem dX3_apples_16 : decode cX3_apples 16 = .ok (.iconst 4, 1) := by decide +kernel
theorem dX3_apples_17 : decode cX3_apples 17 = .ok (.idiv, 1) := by decide +kernel
theorem dX3_apples_18 : decode cX3_apples 18 = .ok (.goto 12, 3) := by decide +kernel
theorem dX3_apples_21 : decode cX3_apples 21 = .ok (.aload_n 0, 1) := by decide +kernel
theorem dX3_apples_22 : decode cX3_apples 22 = .ok (.getfield 7, 3) := by decide +kernel
theorem dX3_apples_25 : decode cX3_apples 25 = .ok (.aload_n 0, 1) := by decide +kernel
theorem dX3_apples_26 : decode cX3_apples 26 = .ok (.getfield 14, 3) := by decide +kernel
theorem dX3_apples_29 : decode cX3_apples 29 = .ok (.imul, 1) := by decide +kernel
theorem dX3_apples_30 : decode cX3_apples 30 = .ok (.ireturn, 1) := by decide +kernel
