theorem dX5_init_0 : decode cX5_init 0 = .ok (.aload_n 0, 1) := by decide +kernel
theorem dX5_init_1 : decode cX5_init 1 = .ok (.invokespecial 1, 3) := by decide +kernel
theorem dX5_init_4 : decode cX5_init 4 = .ok (.aload_n 0, 1) := by decide +kernel
theorem dX5_init_5 : decode cX5_init 5 = .ok (.bipush 10, 2) := by decide +kernel
theorem dX5_init_7 : decode cX5_init 7 = .ok (.newarray .int, 2) := by decide +kernel
theorem dX5_init_9 : decode cX5_init 9 = .ok (.putfield 7, 3) := by decide +kernel
theorem dX5_init_12 : decode cX5_init 12 = .ok (.aload_n 0, 1) := by decide +kernel
theorem dX5_init_13 : decode cX5_init 13 = .ok (.bipush 10, 2) := by decide +kernel
theorem dX5_init_15 : decode cX5_init 15 = .ok (.newarray .int, 2) := by decide +kernel
theorem dX5_init_17 : decode cX5_init 17 = .ok (.putfield 13, 3) := by decide +kernel
theorem dX5_init_20 : decode cX5_init 20 = .ok (.aload_n 0, 1) := by decide +kernel
theorem dX5_init_21 : decode cX5_init 21 = .ok (.bipush 10, 2) := by decide +kernel
theorem dX5_init_23 : decode cX5_init 23 = .ok (.newarray .int, 2) := by decide +kernel
theorem dX5_init_25 : decode cX5_init 25 = .ok (.putfield 16, 3) := by decide +kernel
theorem dX5_init_28 : decode cX5_init 28 = .ok (.aload_n 0, 1) := by decide +kernel
theorem dX5_init_29 : decode cX5_init 29 = .ok (.sipush 640, 3) := by decide +kernel
theorem dX5_init_32 : decode cX5_init 32 = .ok (.newarray .int, 2) := by decide +kernel
theorem dX5_init_34 : decode cX5_init 34 = .ok (.putfield 19, 3) := by decide +kernel
theorem dX5_init_37 : decode cX5_init 37 = .ok (.aload_n 0, 1) := by decide +kernel
theorem dX5_init_38 : decode cX5_init 38 = .ok (.sipush 640, 3) := by decide +kernel
theorem dX5_init_41 : decode cX5_init 41 = .ok (.newarray .int, 2) := by decide +kernel
theorem dX5_init_43 : decode cX5_init 43 = .ok (.putfield 22, 3) := by decide +kernel
theorem dX5_init_46 : decode cX5_init 46 = .ok (.aload_n 0, 1) := by decide +kernel
theorem dX5_init_47 : decode cX5_init 47 = .ok (.sipush 640, 3) := by decide +kernel
theorem dX5_init_50 : decode cX5_init 50 = .ok (.newarray .int, 2) := by decide +kernel
theorem dX5_init_52 : decode cX5_init 52 = .ok (.putfield 25, 3) := by decide +kernel
theorem dX5_init_55 : decode cX5_init 55 = .ok (.aload_n 0, 1) := by decide +kernel
theorem dX5_init_56 : decode cX5_init 56 = .ok (.bipush 80, 2) := by decide +kernel
theorem dX5_init_58 : decode cX5_init 58 = .ok (.newarray .int, 2) := by decide +kernel
theorem dX5_init_60 : decode cX5_init 60 = .ok (.putfield 28, 3) := by decide +kernel
theorem dX5_init_63 : decode cX5_init 63 = .ok (.aload_n 0, 1) := by decide +kernel
theorem dX5_init_64 : decode cX5_init 64 = .ok (.bipush 80, 2) := by decide +kernel
theorem dX5_init_66 : decode cX5_init 66 = .ok (.newarray .boolean, 2) := by decide +kernel
theorem dX5_init_68 : decode cX5_init 68 = .ok (.putfield 31, 3) := by decide +kernel
theorem dX5_init_71 : decode cX5_init 71 = .ok (.aload_n 0, 1) := by decide +kernel
theorem dX5_init_72 : decode cX5_init 72 = .ok (.sipush 128, 3) := by decide +kernel
theorem dX5_init_75 : decode cX5_init 75 = .ok (.newarray .int, 2) := by decide +kernel
theorem dX5_init_77 : decode cX5_init 77 = .ok (.putfield 35, 3) := by decide +kernel
theorem dX5_init_80 : decode cX5_init 80 = .ok (.aload_n 0, 1) := by decide +kernel
theorem dX5_init_81 : decode cX5_init 81 = .ok (.sipush 128, 3) := by decide +kernel
theorem dX5_init_84 : decode cX5_init 84 = .ok (.newarray .int, 2) := by decide +kernel
theorem dX5_init_86 : decode cX5_init 86 = .ok (.putfield 38, 3) := by decide +kernel
theorem dX5_init_89 : decode cX5_init 89 = .ok (.aload_n 0, 1) := by decide +kernel
theorem dX5_init_90 : decode cX5_init 90 = .ok (.sipush 128, 3) := by decide +kernel
theorem dX5_init_93 : decode cX5_init 93 = .ok (.newarray .int, 2) := by decide +kernel
theorem dX5_init_95 : decode cX5_init 95 = .ok (.putfield 41, 3) := by decide +kernel
theorem dX5_init_98 : decode cX5_init 98 = .ok (.aload_n 0, 1) := by decide +kernel
theorem dX5_init_99 : decode cX5_init 99 = .ok (.sipush 129, 3) := by decide +kernel
theorem dX5_init_102 : decode cX5_init 102 = .ok (.newarray .int, 2) := by decide +kernel
theorem dX5_init_104 : decode cX5_init 104 = .ok (.putfield 44, 3) := by decide +kernel
theorem dX5_init_107 : decode cX5_init 107 = .ok (.aload_n 0, 1) := by decide +kernel
theorem dX5_init_108 : decode cX5_init 108 = .ok (.bipush 8, 2) := by decide +kernel
theorem dX5_init_110 : decode cX5_init 110 = .ok (.newarray .int, 2) := by decide +kernel
theorem dX5_init_112 : decode cX5_init 112 = .ok (.putfield 47, 3) := by decide +kernel
theorem dX5_init_115 : decode cX5_init 115 = .ok (.aload_n 0, 1) := by decide +kernel
theorem dX5_init_116 : decode cX5_init 116 = .ok (.bipush 8, 2) := by decide +kernel
theorem dX5_init_118 : decode cX5_init 118 = .ok (.newarray .int, 2) := by decide +kernel
theorem dX5_init_120 : decode cX5_init 120 = .ok (.putfield 50, 3) := by decide +kernel
theorem dX5_init_123 : decode cX5_init 123 = .ok (.aload_n 0, 1) := by decide +kernel
theorem dX5_init_124 : decode cX5_init 124 = .ok (.bipush 8, 2) := by decide +kernel
theorem dX5_init_126 : decode cX5_init 126 = .ok (.newarray .int, 2) := by decide +kernel
theorem dX5_init_128 : decode cX5_init 128 = .ok (.putfield 53, 3) := by decide +kernel
theorem dX5_init_131 : decode cX5_init 131 = .ok (.aload_n 0, 1) := by decide +kernel
theorem dX5_init_132 : decode cX5_init 132 = .ok (.bipush 8, 2) := by decide +kernel
theorem dX5_init_134 : decode cX5_init 134 = .ok (.newarray .int, 2) := by decide +kernel
theorem dX5_init_136 : decode cX5_init 136 = .ok (.putfield 56, 3) := by decide +kernel
theorem dX5_init_139 : decode cX5_init 139 = .ok (.aload_n 0, 1) := by decide +kernel
theorem dX5_init_140 : decode cX5_init 140 = .ok (.bipush 8, 2) := by decide +kernel
theorem dX5_init_142 : decode cX5_init 142 = .ok (.newarray .int, 2) := by decide +kernel
theorem dX5_init_144 : decode cX5_init 144 = .ok (.putfield 59, 3) := by decide +kernel
theorem dX5_init_147 : decode cX5_init 147 = .ok (.aload_n 0, 1) := by decide +kernel
theorem dX5_init_148 : decode cX5_init 148 = .ok (.bipush 8, 2) := by decide +kernel
theorem dX5_init_150 : decode cX5_init 150 = .ok (.newarray .int, 2) := by decide +kernel
theorem dX5_init_152 : decode cX5_init 152 = .ok (.putfield 62, 3) := by decide +kernel
theorem dX5_init_155 : decode cX5_init 155 = .ok (.aload_n 0, 1) := by decide +kernel
theorem dX5_init_156 : decode cX5_init 156 = .ok (.bipush 8, 2) := by decide +kernel
theorem dX5_init_158 : decode cX5_init 158 = .ok (.newarray .int, 2) := by decide +kernel
theorem dX5_init_160 : decode cX5_init 160 = .ok (.putfield 65, 3) := by decide +kernel
theorem dX5_init_163 : decode cX5_init 163 = .ok (.aload_n 0, 1) := by decide +kernel
theorem dX5_init_164 : decode cX5_init 164 = .ok (.bipush 8, 2) := by decide +kernel
theorem dX5_init_166 : decode cX5_init 166 = .ok (.newarray .int, 2) := by decide +kernel
theorem dX5_init_168 : decode cX5_init 168 = .ok (.putfield 68, 3) := by decide +kernel
theorem dX5_init_171 : decode cX5_init 171 = .ok (.aload_n 0, 1) := by decide +kernel
theorem dX5_init_172 : decode cX5_init 172 = .ok (.bipush 8, 2) := by decide +kernel
theorem dX5_init_174 : decode cX5_init 174 = .ok (.newarray .boolean, 2) := by decide +kernel
theorem dX5_init_176 : decode cX5_init 176 = .ok (.putfield 71, 3) := by decide +kernel
theorem dX5_init_179 : decode cX5_init 179 = .ok (.aload_n 0, 1) := by decide +kernel
theorem dX5_init_180 : decode cX5_init 180 = .ok (.bipush 8, 2) := by decide +kernel
theorem dX5_init_182 : decode cX5_init 182 = .ok (.newarray .int, 2) := by decide +kernel
theorem dX5_init_184 : decode cX5_init 184 = .ok (.putfield 74, 3) := by decide +kernel
theorem dX5_init_187 : decode cX5_init 187 = .ok (.aload_n 0, 1) := by decide +kernel
theorem dX5_init_188 : decode cX5_init 188 = .ok (.bipush 8, 2) := by decide +kernel
theorem dX5_init_190 : decode cX5_init 190 = .ok (.newarray .int, 2) := by decide +kernel
theorem dX5_init_192 : decode cX5_init 192 = .ok (.putfield 77, 3) := by decide +kernel
theorem dX5_init_195 : decode cX5_init 195 = .ok (.aload_n 0, 1) := by decide +kernel
theorem dX5_init_196 : decode cX5_init 196 = .ok (.bipush 8, 2) := by decide +kernel
theorem dX5_init_198 : decode cX5_init 198 = .ok (.newarray .int, 2) := by decide +kernel
theorem dX5_init_200 : decode cX5_init 200 = .ok (.putfield 80, 3) := by decide +kernel
theorem dX5_init_203 : decode cX5_init 203 = .ok (.aload_n 0, 1) := by decide +kernel
theorem dX5_init_204 : decode cX5_init 204 = .ok (.bipush 8, 2) := by decide +kernel
theorem dX5_init_206 : decode cX5_init 206 = .ok (.newarray .int, 2) := by decide +kernel
theorem dX5_init_208 : decode cX5_init 208 = .ok (.putfield 83, 3) := by decide +kernel
theorem dX5_init_211 : decode cX5_init 211 = .ok (.aload_n 0, 1) := by decide +kernel
theorem dX5_init_212 : decode cX5_init 212 = .ok (.bipush 8, 2) := by decide +kernel
theorem dX5_init_214 : decode cX5_init 214 = .ok (.newarray .int, 2) := by decide +kernel
theorem dX5_init_216 : decode cX5_init 216 = .ok (.putfield 86, 3) := by decide +kernel
theorem dX5_init_219 : decode cX5_init 219 = .ok (.aload_n 0, 1) := by decide +kernel
theorem dX5_init_220 : decode cX5_init 220 = .ok (.bipush 8, 2) := by decide +kernel
theorem dX5_init_222 : decode cX5_init 222 = .ok (.newarray .int, 2) := by decide +kernel
theorem dX5_init_224 : decode cX5_init 224 = .ok (.putfield 89, 3) := by decide +kernel
theorem dX5_init_227 : decode cX5_init 227 = .ok (.aload_n 0, 1) := by decide +kernel
theorem dX5_init_228 : decode cX5_init 228 = .ok (.bipush 8, 2) := by decide +kernel
theorem dX5_init_230 : decode cX5_init 230 = .ok (.newarray .int, 2) := by decide +kernel
theorem dX5_init_232 : decode cX5_init 232 = .ok (.putfield 92, 3) := by decide +kernel
theorem dX5_init_235 : decode cX5_init 235 = .ok (.aload_n 0, 1) := by decide +kernel
theorem dX5_init_236 : decode cX5_init 236 = .ok (.bipush 8, 2) := by decide +kernel
theorem dX5_init_238 : decode cX5_init 238 = .ok (.newarray .int, 2) := by decide +kernel
theorem dX5_init_240 : decode cX5_init 240 = .ok (.putfield 95, 3) := by decide +kernel
theorem dX5_init_243 : decode cX5_init 243 = .ok (.aload_n 0, 1) := by decide +kernel
theorem dX5_init_244 : decode cX5_init 244 = .ok (.bipush 8, 2) := by decide +kernel
theorem dX5_init_246 : decode cX5_init 246 = .ok (.newarray .int, 2) := by decide +kernel
theorem dX5_init_248 : decode cX5_init 248 = .ok (.putfield 98, 3) := by decide +kernel
theorem dX5_init_251 : decode cX5_init 251 = .ok (.aload_n 0, 1) := by decide +kernel
theorem dX5_init_252 : decode cX5_init 252 = .ok (.bipush 8, 2) := by decide +kernel
theorem dX5_init_254 : decode cX5_init 254 = .ok (.newarray .int, 2) := by decide +kernel
theorem dX5_init_256 : decode cX5_init 256 = .ok (.putfield 101, 3) := by decide +kernel
theorem dX5_init_259 : decode cX5_init 259 = .ok (.aload_n 0, 1) := by decide +kernel
theorem dX5_init_260 : decode cX5_init 260 = .ok (.bipush 32, 2) := by decide +kernel
theorem dX5_init_262 : decode cX5_init 262 = .ok (.newarray .int, 2) := by decide +kernel
theorem dX5_init_264 : decode cX5_init 264 = .ok (.putfield 104, 3) := by decide +kernel
theorem dX5_init_267 : decode cX5_init 267 = .ok (.return_, 1) := by decide +kernel
theorem dX5_thrown_0 : decode cX5_thrown 0 = .ok (.aload_n 0, 1) := by decide +kernel
theorem dX5_thrown_1 : decode cX5_thrown 1 = .ok (.getfield 107, 3) := by decide +kernel
theorem dX5_thrown_4 : decode cX5_thrown 4 = .ok (.ireturn, 1) := by decide +kernel
theorem dX5_isIn_0 : decode cX5_isIn 0 = .ok (.iload_n 0, 1) := by decide +kernel
theorem dX5_isIn_1 : decode cX5_isIn 1 = .ok (.iload_n 1, 1) := by decide +kernel
theorem dX5_isIn_2 : decode cX5_isIn 2 = .ok (.if_icmp .lt 12, 3) := by decide +kernel
theorem dX5_isIn_5 : decode cX5_isIn 5 = .ok (.iload_n 0, 1) := by decide +kernel
theorem dX5_isIn_6 : decode cX5_isIn 6 = .ok (.iload_n 2, 1) := by decide +kernel
theorem dX5_isIn_7 : decode cX5_isIn 7 = .ok (.if_icmp .gt 7, 3) := by decide +kernel
theorem dX5_isIn_10 : decode cX5_isIn 10 = .ok (.iconst 1, 1) := by decide +kernel
theorem dX5_isIn_11 : decode cX5_isIn 11 = .ok (.goto 4, 3) := by decide +kernel
theorem dX5_isIn_14 : decode cX5_isIn 14 = .ok (.iconst 0, 1) := by decide +kernel
theorem dX5_isIn_15 : decode cX5_isIn 15 = .ok (.ireturn, 1) := by decide +kernel
theorem dX5_isTune_0 : decode cX5_isTune 0 = .ok (.iload_n 1, 1) := by decide +kernel
theorem dX5_isTune_1 : decode cX5_isTune 1 = .ok (.iconst 0, 1) := by decide +kernel
theorem dX5_isTune_2 : decode cX5_isTune 2 = .ok (.aload_n 0, 1) := by decide +kernel
theorem dX5_isTune_3 : decode cX5_isTune 3 = .ok (.getfield 111, 3) := by decide +kernel
theorem dX5_isTune_6 : decode cX5_isTune 6 = .ok (.iconst 1, 1) := by decide +kernel
theorem dX5_isTune_7 : decode cX5_isTune 7 = .ok (.isub, 1) := by decide +kernel
theorem dX5_isTune_8 : decode cX5_isTune 8 = .ok (.invokestatic 114, 3) := by decide +kernel
theorem dX5_isTune_11 : decode cX5_isTune 11 = .ok (.ireturn, 1) := by decide +kernel
theorem dX5_barOf_0 : decode cX5_barOf 0 = .ok (.iload_n 0, 1) := by decide +kernel
theorem dX5_barOf_1 : decode cX5_barOf 1 = .ok (.iconst 1, 1) := by decide +kernel
theorem dX5_barOf_2 : decode cX5_barOf 2 = .ok (.if_icmp .ne 8, 3) := by decide +kernel
theorem dX5_barOf_5 : decode cX5_barOf 5 = .ok (.bipush 16, 2) := by decide +kernel
theorem dX5_barOf_7 : decode cX5_barOf 7 = .ok (.goto 15, 3) := by decide +kernel
theorem dX5_barOf_10 : decode cX5_barOf 10 = .ok (.iload_n 0, 1) := by decide +kernel
theorem dX5_barOf_11 : decode cX5_barOf 11 = .ok (.iconst 3, 1) := by decide +kernel
theorem dX5_barOf_12 : decode cX5_barOf 12 = .ok (.if_icmp .ne 8, 3) := by decide +kernel
theorem dX5_barOf_15 : decode cX5_barOf 15 = .ok (.bipush 6, 2) := by decide +kernel
theorem dX5_barOf_17 : decode cX5_barOf 17 = .ok (.goto 5, 3) := by decide +kernel
theorem dX5_barOf_20 : decode cX5_barOf 20 = .ok (.bipush 8, 2) := by decide +kernel
theorem dX5_barOf_22 : decode cX5_barOf 22 = .ok (.ireturn, 1) := by decide +kernel
theorem dX5_tune_0 : decode cX5_tune 0 = .ok (.aload_n 0, 1) := by decide +kernel
theorem dX5_tune_1 : decode cX5_tune 1 = .ok (.iload_n 1, 1) := by decide +kernel
theorem dX5_tune_2 : decode cX5_tune 2 = .ok (.iconst 0, 1) := by decide +kernel
theorem dX5_tune_3 : decode cX5_tune 3 = .ok (.iconst 3, 1) := by decide +kernel
theorem dX5_tune_4 : decode cX5_tune 4 = .ok (.invokestatic 114, 3) := by decide +kernel
theorem dX5_tune_7 : decode cX5_tune 7 = .ok (.ifCond .ne 7, 3) := by decide +kernel
theorem dX5_tune_10 : decode cX5_tune 10 = .ok (.iconst 1, 1) := by decide +kernel
theorem dX5_tune_11 : decode cX5_tune 11 = .ok (.goto 17, 3) := by decide +kernel
theorem dX5_tune_14 : decode cX5_tune 14 = .ok (.aload_n 0, 1) := by decide +kernel
theorem dX5_tune_15 : decode cX5_tune 15 = .ok (.getfield 111, 3) := by decide +kernel
theorem dX5_tune_18 : decode cX5_tune 18 = .ok (.bipush 10, 2) := by decide +kernel
theorem dX5_tune_20 : decode cX5_tune 20 = .ok (.if_icmp .ne 7, 3) := by decide +kernel
theorem dX5_tune_23 : decode cX5_tune 23 = .ok (.iconst 2, 1) := by decide +kernel
theorem dX5_tune_24 : decode cX5_tune 24 = .ok (.goto 4, 3) := by decide +kernel
theorem dX5_tune_27 : decode cX5_tune 27 = .ok (.iconst 0, 1) := by decide +kernel
theorem dX5_tune_28 : decode cX5_tune 28 = .ok (.putfield 107, 3) := by decide +kernel
theorem dX5_tune_31 : decode cX5_tune 31 = .ok (.aload_n 0, 1) := by decide +kernel
theorem dX5_tune_32 : decode cX5_tune 32 = .ok (.getfield 107, 3) := by decide +kernel
theorem dX5_tune_35 : decode cX5_tune 35 = .ok (.ifCond .le 5, 3) := by decide +kernel
theorem dX5_tune_38 : decode cX5_tune 38 = .ok (.iconst 0, 1) := by decide +kernel
theorem dX5_tune_39 : decode cX5_tune 39 = .ok (.ireturn, 1) := by decide +kernel
theorem dX5_tune_40 : decode cX5_tune 40 = .ok (.aload_n 0, 1) := by decide +kernel
theorem dX5_tune_41 : decode cX5_tune 41 = .ok (.getfield 7, 3) := by decide +kernel
theorem dX5_tune_44 : decode cX5_tune 44 = .ok (.aload_n 0, 1) := by decide +kernel
theorem dX5_tune_45 : decode cX5_tune 45 = .ok (.getfield 111, 3) := by decide +kernel
theorem dX5_tune_48 : decode cX5_tune 48 = .ok (.iload_n 1, 1) := by decide +kernel
theorem dX5_tune_49 : decode cX5_tune 49 = .ok (.iastore, 1) := by decide +kernel
theorem dX5_tune_50 : decode cX5_tune 50 = .ok (.aload_n 0, 1) := by decide +kernel
theorem dX5_tune_51 : decode cX5_tune 51 = .ok (.dup, 1) := by decide +kernel
theorem dX5_tune_52 : decode cX5_tune 52 = .ok (.getfield 111, 3) := by decide +kernel
theorem dX5_tune_55 : decode cX5_tune 55 = .ok (.iconst 1, 1) := by decide +kernel
theorem dX5_tune_56 : decode cX5_tune 56 = .ok (.iadd, 1) := by decide +kernel
theorem dX5_tune_57 : decode cX5_tune 57 = .ok (.putfield 111, 3) := by decide +kernel
theorem dX5_tune_60 : decode cX5_tune 60 = .ok (.aload_n 0, 1) := by decide +kernel
theorem dX5_tune_61 : decode cX5_tune 61 = .ok (.getfield 111, 3) := by decide +kernel
theorem dX5_tune_64 : decode cX5_tune 64 = .ok (.iconst 1, 1) := by decide +kernel
theorem dX5_tune_65 : decode cX5_tune 65 = .ok (.isub, 1) := by decide +kernel
theorem dX5_tune_66 : decode cX5_tune 66 = .ok (.ireturn, 1) := by decide +kernel
theorem dX5_openFrom_0 : decode cX5_openFrom 0 = .ok (.aload_n 0, 1) := by decide +kernel
theorem dX5_openFrom_1 : decode cX5_openFrom 1 = .ok (.getfield 16, 3) := by decide +kernel
theorem dX5_openFrom_4 : decode cX5_openFrom 4 = .ok (.iload_n 1, 1) := by decide +kernel
theorem dX5_openFrom_5 : decode cX5_openFrom 5 = .ok (.iaload, 1) := by decide +kernel
theorem dX5_openFrom_6 : decode cX5_openFrom 6 = .ok (.ifCond .ne 7, 3) := by decide +kernel
theorem dX5_openFrom_9 : decode cX5_openFrom 9 = .ok (.iconst 0, 1) := by decide +kernel
theorem dX5_openFrom_10 : decode cX5_openFrom 10 = .ok (.goto 21, 3) := by decide +kernel
theorem dX5_openFrom_13 : decode cX5_openFrom 13 = .ok (.aload_n 0, 1) := by decide +kernel
theorem dX5_openFrom_14 : decode cX5_openFrom 14 = .ok (.getfield 28, 3) := by decide +kernel
theorem dX5_openFrom_17 : decode cX5_openFrom 17 = .ok (.bipush 8, 2) := by decide +kernel
theorem dX5_openFrom_19 : decode cX5_openFrom 19 = .ok (.iload_n 1, 1) := by decide +kernel
theorem dX5_openFrom_20 : decode cX5_openFrom 20 = .ok (.imul, 1) := by decide +kernel
theorem dX5_openFrom_21 : decode cX5_openFrom 21 = .ok (.aload_n 0, 1) := by decide +kernel
theorem dX5_openFrom_22 : decode cX5_openFrom 22 = .ok (.getfield 16, 3) := by decide +kernel
theorem dX5_openFrom_25 : decode cX5_openFrom 25 = .ok (.iload_n 1, 1) := by decide +kernel
theorem dX5_openFrom_26 : decode cX5_openFrom 26 = .ok (.iaload, 1) := by decide +kernel
theorem dX5_openFrom_27 : decode cX5_openFrom 27 = .ok (.iadd, 1) := by decide +kernel
theorem dX5_openFrom_28 : decode cX5_openFrom 28 = .ok (.iconst 1, 1) := by decide +kernel
theorem dX5_openFrom_29 : decode cX5_openFrom 29 = .ok (.isub, 1) := by decide +kernel
theorem dX5_openFrom_30 : decode cX5_openFrom 30 = .ok (.iaload, 1) := by decide +kernel
theorem dX5_openFrom_31 : decode cX5_openFrom 31 = .ok (.ireturn, 1) := by decide +kernel
theorem dX5_openUnits_0 : decode cX5_openUnits 0 = .ok (.iconst 0, 1) := by decide +kernel
theorem dX5_openUnits_1 : decode cX5_openUnits 1 = .ok (.istore_n 2, 1) := by decide +kernel
theorem dX5_openUnits_2 : decode cX5_openUnits 2 = .ok (.aload_n 0, 1) := by decide +kernel
theorem dX5_openUnits_3 : decode cX5_openUnits 3 = .ok (.iload_n 1, 1) := by decide +kernel
theorem dX5_openUnits_4 : decode cX5_openUnits 4 = .ok (.invokevirtual 118, 3) := by decide +kernel
theorem dX5_openUnits_7 : decode cX5_openUnits 7 = .ok (.istore_n 3, 1) := by decide +kernel
theorem dX5_openUnits_8 : decode cX5_openUnits 8 = .ok (.iload_n 3, 1) := by decide +kernel
theorem dX5_openUnits_9 : decode cX5_openUnits 9 = .ok (.aload_n 0, 1) := by decide +kernel
theorem dX5_openUnits_10 : decode cX5_openUnits 10 = .ok (.getfield 13, 3) := by decide +kernel
theorem dX5_openUnits_13 : decode cX5_openUnits 13 = .ok (.iload_n 1, 1) := by decide +kernel
theorem dX5_openUnits_14 : decode cX5_openUnits 14 = .ok (.iaload, 1) := by decide +kernel
theorem dX5_openUnits_15 : decode cX5_openUnits 15 = .ok (.if_icmp .ge 23, 3) := by decide +kernel
theorem dX5_openUnits_18 : decode cX5_openUnits 18 = .ok (.iload_n 2, 1) := by decide +kernel
theorem dX5_openUnits_19 : decode cX5_openUnits 19 = .ok (.aload_n 0, 1) := by decide +kernel
theorem dX5_openUnits_20 : decode cX5_openUnits 20 = .ok (.getfield 22, 3) := by decide +kernel
theorem dX5_openUnits_23 : decode cX5_openUnits 23 = .ok (.bipush 64, 2) := by decide +kernel
theorem dX5_openUnits_25 : decode cX5_openUnits 25 = .ok (.iload_n 1, 1) := by decide +kernel
theorem dX5_openUnits_26 : decode cX5_openUnits 26 = .ok (.imul, 1) := by decide +kernel
theorem dX5_openUnits_27 : decode cX5_openUnits 27 = .ok (.iload_n 3, 1) := by decide +kernel
theorem dX5_openUnits_28 : decode cX5_openUnits 28 = .ok (.iadd, 1) := by decide +kernel
theorem dX5_openUnits_29 : decode cX5_openUnits 29 = .ok (.iaload, 1) := by decide +kernel
theorem dX5_openUnits_30 : decode cX5_openUnits 30 = .ok (.iadd, 1) := by decide +kernel
theorem dX5_openUnits_31 : decode cX5_openUnits 31 = .ok (.istore_n 2, 1) := by decide +kernel
theorem dX5_openUnits_32 : decode cX5_openUnits 32 = .ok (.iinc 3 1, 3) := by decide +kernel
theorem dX5_openUnits_35 : decode cX5_openUnits 35 = .ok (.goto (-27), 3) := by decide +kernel
theorem dX5_openUnits_38 : decode cX5_openUnits 38 = .ok (.iload_n 2, 1) := by decide +kernel
theorem dX5_openUnits_39 : decode cX5_openUnits 39 = .ok (.ireturn, 1) := by decide +kernel
theorem dX5_heightOf_0 : decode cX5_heightOf 0 = .ok (.iload_n 0, 1) := by decide +kernel
theorem dX5_heightOf_1 : decode cX5_heightOf 1 = .ok (.iconst 3, 1) := by decide +kernel
theorem dX5_heightOf_2 : decode cX5_heightOf 2 = .ok (.if_icmp .ge 9, 3) := by decide +kernel
theorem dX5_heightOf_5 : decode cX5_heightOf 5 = .ok (.iconst 3, 1) := by decide +kernel
theorem dX5_heightOf_6 : decode cX5_heightOf 6 = .ok (.iload_n 0, 1) := by decide +kernel
theorem dX5_heightOf_7 : decode cX5_heightOf 7 = .ok (.iadd, 1) := by decide +kernel
theorem dX5_heightOf_8 : decode cX5_heightOf 8 = .ok (.goto 6, 3) := by decide +kernel
theorem dX5_heightOf_11 : decode cX5_heightOf 11 = .ok (.iconst 4, 1) := by decide +kernel
theorem dX5_heightOf_12 : decode cX5_heightOf 12 = .ok (.iload_n 0, 1) := by decide +kernel
theorem dX5_heightOf_13 : decode cX5_heightOf 13 = .ok (.iadd, 1) := by decide +kernel
theorem dX5_heightOf_14 : decode cX5_heightOf 14 = .ok (.ireturn, 1) := by decide +kernel
theorem dX5_isLawful_0 : decode cX5_isLawful 0 = .ok (.iload_n 3, 1) := by decide +kernel
theorem dX5_isLawful_1 : decode cX5_isLawful 1 = .ok (.ifCond .ne 40, 3) := by decide +kernel
theorem dX5_isLawful_4 : decode cX5_isLawful 4 = .ok (.aload_n 0, 1) := by decide +kernel
theorem dX5_isLawful_5 : decode cX5_isLawful 5 = .ok (.getfield 13, 3) := by decide +kernel
theorem dX5_isLawful_8 : decode cX5_isLawful 8 = .ok (.iload_n 1, 1) := by decide +kernel
theorem dX5_isLawful_9 : decode cX5_isLawful 9 = .ok (.iaload, 1) := by decide +kernel
theorem dX5_isLawful_10 : decode cX5_isLawful 10 = .ok (.ifCond .eq 25, 3) := by decide +kernel
theorem dX5_isLawful_13 : decode cX5_isLawful 13 = .ok (.aload_n 0, 1) := by decide +kernel
theorem dX5_isLawful_14 : decode cX5_isLawful 14 = .ok (.getfield 19, 3) := by decide +kernel
theorem dX5_isLawful_17 : decode cX5_isLawful 17 = .ok (.bipush 64, 2) := by decide +kernel
theorem dX5_isLawful_19 : decode cX5_isLawful 19 = .ok (.iload_n 1, 1) := by decide +kernel
theorem dX5_isLawful_20 : decode cX5_isLawful 20 = .ok (.imul, 1) := by decide +kernel
theorem dX5_isLawful_21 : decode cX5_isLawful 21 = .ok (.aload_n 0, 1) := by decide +kernel
theorem dX5_isLawful_22 : decode cX5_isLawful 22 = .ok (.getfield 13, 3) := by decide +kernel
theorem dX5_isLawful_25 : decode cX5_isLawful 25 = .ok (.iload_n 1, 1) := by decide +kernel
theorem dX5_isLawful_26 : decode cX5_isLawful 26 = .ok (.iaload, 1) := by decide +kernel
theorem dX5_isLawful_27 : decode cX5_isLawful 27 = .ok (.iadd, 1) := by decide +kernel
theorem dX5_isLawful_28 : decode cX5_isLawful 28 = .ok (.iconst 1, 1) := by decide +kernel
theorem dX5_isLawful_29 : decode cX5_isLawful 29 = .ok (.isub, 1) := by decide +kernel
theorem dX5_isLawful_30 : decode cX5_isLawful 30 = .ok (.iaload, 1) := by decide +kernel
theorem dX5_isLawful_31 : decode cX5_isLawful 31 = .ok (.iload_n 2, 1) := by decide +kernel
theorem dX5_isLawful_32 : decode cX5_isLawful 32 = .ok (.if_icmp .eq 7, 3) := by decide +kernel
theorem dX5_isLawful_35 : decode cX5_isLawful 35 = .ok (.iconst 1, 1) := by decide +kernel
theorem dX5_isLawful_36 : decode cX5_isLawful 36 = .ok (.goto 4, 3) := by decide +kernel
theorem dX5_isLawful_39 : decode cX5_isLawful 39 = .ok (.iconst 0, 1) := by decide +kernel
theorem dX5_isLawful_40 : decode cX5_isLawful 40 = .ok (.ireturn, 1) := by decide +kernel
theorem dX5_isLawful_41 : decode cX5_isLawful 41 = .ok (.iload_n 3, 1) := by decide +kernel
theorem dX5_isLawful_42 : decode cX5_isLawful 42 = .ok (.iconst 4, 1) := by decide +kernel
theorem dX5_isLawful_43 : decode cX5_isLawful 43 = .ok (.if_icmp .gt 19, 3) := by decide +kernel
theorem dX5_isLawful_46 : decode cX5_isLawful 46 = .ok (.iload_n 3, 1) := by decide +kernel
theorem dX5_isLawful_47 : decode cX5_isLawful 47 = .ok (.invokestatic 122, 3) := by decide +kernel
theorem dX5_isLawful_50 : decode cX5_isLawful 50 = .ok (.iload_n 2, 1) := by decide +kernel
theorem dX5_isLawful_51 : decode cX5_isLawful 51 = .ok (.if_icmp .le 7, 3) := by decide +kernel
theorem dX5_isLawful_54 : decode cX5_isLawful 54 = .ok (.iconst 1, 1) := by decide +kernel
theorem dX5_isLawful_55 : decode cX5_isLawful 55 = .ok (.goto 74, 3) := by decide +kernel
theorem dX5_isLawful_58 : decode cX5_isLawful 58 = .ok (.iconst 0, 1) := by decide +kernel
theorem dX5_isLawful_59 : decode cX5_isLawful 59 = .ok (.goto 70, 3) := by decide +kernel
theorem dX5_isLawful_62 : decode cX5_isLawful 62 = .ok (.iload_n 3, 1) := by decide +kernel
theorem dX5_isLawful_63 : decode cX5_isLawful 63 = .ok (.iconst 5, 1) := by decide +kernel
theorem dX5_isLawful_64 : decode cX5_isLawful 64 = .ok (.if_icmp .ne 17, 3) := by decide +kernel
theorem dX5_isLawful_67 : decode cX5_isLawful 67 = .ok (.iload_n 2, 1) := by decide +kernel
theorem dX5_isLawful_68 : decode cX5_isLawful 68 = .ok (.bipush 6, 2) := by decide +kernel
theorem dX5_isLawful_70 : decode cX5_isLawful 70 = .ok (.if_icmp .gt 7, 3) := by decide +kernel
theorem dX5_isLawful_73 : decode cX5_isLawful 73 = .ok (.iconst 1, 1) := by decide +kernel
theorem dX5_isLawful_74 : decode cX5_isLawful 74 = .ok (.goto 55, 3) := by decide +kernel
theorem dX5_isLawful_77 : decode cX5_isLawful 77 = .ok (.iconst 0, 1) := by decide +kernel
theorem dX5_isLawful_78 : decode cX5_isLawful 78 = .ok (.goto 51, 3) := by decide +kernel
theorem dX5_isLawful_81 : decode cX5_isLawful 81 = .ok (.iload_n 3, 1) := by decide +kernel
theorem dX5_isLawful_82 : decode cX5_isLawful 82 = .ok (.bipush 6, 2) := by decide +kernel
theorem dX5_isLawful_84 : decode cX5_isLawful 84 = .ok (.if_icmp .ne 16, 3) := by decide +kernel
theorem dX5_isLawful_87 : decode cX5_isLawful 87 = .ok (.iload_n 2, 1) := by decide +kernel
theorem dX5_isLawful_88 : decode cX5_isLawful 88 = .ok (.iconst 1, 1) := by decide +kernel
theorem dX5_isLawful_89 : decode cX5_isLawful 89 = .ok (.if_icmp .lt 7, 3) := by decide +kernel
theorem dX5_isLawful_92 : decode cX5_isLawful 92 = .ok (.iconst 1, 1) := by decide +kernel
theorem dX5_isLawful_93 : decode cX5_isLawful 93 = .ok (.goto 36, 3) := by decide +kernel
theorem dX5_isLawful_96 : decode cX5_isLawful 96 = .ok (.iconst 0, 1) := by decide +kernel
theorem dX5_isLawful_97 : decode cX5_isLawful 97 = .ok (.goto 32, 3) := by decide +kernel
theorem dX5_isLawful_100 : decode cX5_isLawful 100 = .ok (.iload_n 3, 1) := by decide +kernel
theorem dX5_isLawful_101 : decode cX5_isLawful 101 = .ok (.bipush 7, 2) := by decide +kernel
theorem dX5_isLawful_103 : decode cX5_isLawful 103 = .ok (.if_icmp .ne 16, 3) := by decide +kernel
theorem dX5_isLawful_106 : decode cX5_isLawful 106 = .ok (.iload_n 2, 1) := by decide +kernel
theorem dX5_isLawful_107 : decode cX5_isLawful 107 = .ok (.iconst 4, 1) := by decide +kernel
theorem dX5_isLawful_108 : decode cX5_isLawful 108 = .ok (.if_icmp .ne 7, 3) := by decide +kernel
theorem dX5_isLawful_111 : decode cX5_isLawful 111 = .ok (.iconst 1, 1) := by decide +kernel
theorem dX5_isLawful_112 : decode cX5_isLawful 112 = .ok (.goto 17, 3) := by decide +kernel
theorem dX5_isLawful_115 : decode cX5_isLawful 115 = .ok (.iconst 0, 1) := by decide +kernel
theorem dX5_isLawful_116 : decode cX5_isLawful 116 = .ok (.goto 13, 3) := by decide +kernel
theorem dX5_isLawful_119 : decode cX5_isLawful 119 = .ok (.iload_n 2, 1) := by decide +kernel
theorem dX5_isLawful_120 : decode cX5_isLawful 120 = .ok (.iconst 1, 1) := by decide +kernel
theorem dX5_isLawful_121 : decode cX5_isLawful 121 = .ok (.if_icmp .ne 7, 3) := by decide +kernel
theorem dX5_isLawful_124 : decode cX5_isLawful 124 = .ok (.iconst 1, 1) := by decide +kernel
theorem dX5_isLawful_125 : decode cX5_isLawful 125 = .ok (.goto 4, 3) := by decide +kernel
theorem dX5_isLawful_128 : decode cX5_isLawful 128 = .ok (.iconst 0, 1) := by decide +kernel
theorem dX5_isLawful_129 : decode cX5_isLawful 129 = .ok (.ireturn, 1) := by decide +kernel
theorem dX5_note_0 : decode cX5_note 0 = .ok (.aload_n 0, 1) := by decide +kernel
theorem dX5_note_1 : decode cX5_note 1 = .ok (.aload_n 0, 1) := by decide +kernel
theorem dX5_note_2 : decode cX5_note 2 = .ok (.iload_n 1, 1) := by decide +kernel
theorem dX5_note_3 : decode cX5_note 3 = .ok (.invokevirtual 125, 3) := by decide +kernel
theorem dX5_note_6 : decode cX5_note 6 = .ok (.ifCond .ne 7, 3) := by decide +kernel
theorem dX5_note_9 : decode cX5_note 9 = .ok (.iconst 1, 1) := by decide +kernel
theorem dX5_note_10 : decode cX5_note 10 = .ok (.goto 39, 3) := by decide +kernel
theorem dX5_note_13 : decode cX5_note 13 = .ok (.iload_n 2, 1) := by decide +kernel
theorem dX5_note_14 : decode cX5_note 14 = .ok (.iconst 0, 1) := by decide +kernel
theorem dX5_note_15 : decode cX5_note 15 = .ok (.bipush 8, 2) := by decide +kernel
theorem dX5_note_17 : decode cX5_note 17 = .ok (.invokestatic 114, 3) := by decide +kernel
theorem dX5_note_20 : decode cX5_note 20 = .ok (.ifCond .eq 24, 3) := by decide +kernel
theorem dX5_note_23 : decode cX5_note 23 = .ok (.iload_n 3, 1) := by decide +kernel
theorem dX5_note_24 : decode cX5_note 24 = .ok (.iconst 1, 1) := by decide +kernel
theorem dX5_note_25 : decode cX5_note 25 = .ok (.bipush 16, 2) := by decide +kernel
theorem dX5_note_27 : decode cX5_note 27 = .ok (.invokestatic 114, 3) := by decide +kernel
theorem dX5_note_30 : decode cX5_note 30 = .ok (.ifCond .eq 14, 3) := by decide +kernel
theorem dX5_note_33 : decode cX5_note 33 = .ok (.iload 4, 2) := by decide +kernel
theorem dX5_note_35 : decode cX5_note 35 = .ok (.iconst 0, 1) := by decide +kernel
theorem dX5_note_36 : decode cX5_note 36 = .ok (.bipush 8, 2) := by decide +kernel
theorem dX5_note_38 : decode cX5_note 38 = .ok (.invokestatic 114, 3) := by decide +kernel
theorem dX5_note_41 : decode cX5_note 41 = .ok (.ifCond .ne 7, 3) := by decide +kernel
theorem dX5_note_44 : decode cX5_note 44 = .ok (.iconst 2, 1) := by decide +kernel
theorem dX5_note_45 : decode cX5_note 45 = .ok (.goto 4, 3) := by decide +kernel
theorem dX5_note_48 : decode cX5_note 48 = .ok (.iconst 0, 1) := by decide +kernel
theorem dX5_note_49 : decode cX5_note 49 = .ok (.putfield 107, 3) := by decide +kernel
theorem dX5_note_52 : decode cX5_note 52 = .ok (.aload_n 0, 1) := by decide +kernel
theorem dX5_note_53 : decode cX5_note 53 = .ok (.getfield 107, 3) := by decide +kernel
theorem dX5_note_56 : decode cX5_note 56 = .ok (.ifCond .le 5, 3) := by decide +kernel
theorem dX5_note_59 : decode cX5_note 59 = .ok (.iconst 0, 1) := by decide +kernel
theorem dX5_note_60 : decode cX5_note 60 = .ok (.ireturn, 1) := by decide +kernel
theorem dX5_note_61 : decode cX5_note 61 = .ok (.aload_n 0, 1) := by decide +kernel
theorem dX5_note_62 : decode cX5_note 62 = .ok (.getfield 7, 3) := by decide +kernel
theorem dX5_note_65 : decode cX5_note 65 = .ok (.iload_n 1, 1) := by decide +kernel
theorem dX5_note_66 : decode cX5_note 66 = .ok (.iaload, 1) := by decide +kernel
theorem dX5_note_67 : decode cX5_note 67 = .ok (.invokestatic 129, 3) := by decide +kernel
theorem dX5_note_70 : decode cX5_note 70 = .ok (.istore 5, 2) := by decide +kernel
theorem dX5_note_72 : decode cX5_note 72 = .ok (.aload_n 0, 1) := by decide +kernel
theorem dX5_note_73 : decode cX5_note 73 = .ok (.iload_n 1, 1) := by decide +kernel
theorem dX5_note_74 : decode cX5_note 74 = .ok (.iload_n 2, 1) := by decide +kernel
theorem dX5_note_75 : decode cX5_note 75 = .ok (.iload 4, 2) := by decide +kernel
theorem dX5_note_77 : decode cX5_note 77 = .ok (.invokevirtual 132, 3) := by decide +kernel
theorem dX5_note_80 : decode cX5_note 80 = .ok (.ifCond .eq 33, 3) := by decide +kernel
theorem dX5_note_83 : decode cX5_note 83 = .ok (.aload_n 0, 1) := by decide +kernel
theorem dX5_note_84 : decode cX5_note 84 = .ok (.iload_n 1, 1) := by decide +kernel
theorem dX5_note_85 : decode cX5_note 85 = .ok (.invokevirtual 135, 3) := by decide +kernel
theorem dX5_note_88 : decode cX5_note 88 = .ok (.iload 5, 2) := by decide +kernel
theorem dX5_note_90 : decode cX5_note 90 = .ok (.irem, 1) := by decide +kernel
theorem dX5_note_91 : decode cX5_note 91 = .ok (.iload_n 3, 1) := by decide +kernel
theorem dX5_note_92 : decode cX5_note 92 = .ok (.iadd, 1) := by decide +kernel
theorem dX5_note_93 : decode cX5_note 93 = .ok (.iload 5, 2) := by decide +kernel
theorem dX5_note_95 : decode cX5_note 95 = .ok (.if_icmp .gt 18, 3) := by decide +kernel
theorem dX5_note_98 : decode cX5_note 98 = .ok (.aload_n 0, 1) := by decide +kernel
theorem dX5_note_99 : decode cX5_note 99 = .ok (.getfield 13, 3) := by decide +kernel
theorem dX5_note_102 : decode cX5_note 102 = .ok (.iload_n 1, 1) := by decide +kernel
theorem dX5_note_103 : decode cX5_note 103 = .ok (.iaload, 1) := by decide +kernel
theorem dX5_note_104 : decode cX5_note 104 = .ok (.bipush 64, 2) := by decide +kernel
theorem dX5_note_106 : decode cX5_note 106 = .ok (.if_icmp .ge 7, 3) := by decide +kernel
theorem dX5_note_109 : decode cX5_note 109 = .ok (.iconst 1, 1) := by decide +kernel
theorem dX5_note_110 : decode cX5_note 110 = .ok (.goto 4, 3) := by decide +kernel
theorem dX5_note_113 : decode cX5_note 113 = .ok (.iconst 0, 1) := by decide +kernel
theorem dX5_note_114 : decode cX5_note 114 = .ok (.istore 6, 2) := by decide +kernel
theorem dX5_note_116 : decode cX5_note 116 = .ok (.aload_n 0, 1) := by decide +kernel
theorem dX5_note_117 : decode cX5_note 117 = .ok (.iload 6, 2) := by decide +kernel
theorem dX5_note_119 : decode cX5_note 119 = .ok (.ifCond .eq 7, 3) := by decide +kernel
theorem dX5_note_122 : decode cX5_note 122 = .ok (.iconst 0, 1) := by decide +kernel
theorem dX5_note_123 : decode cX5_note 123 = .ok (.goto 4, 3) := by decide +kernel
theorem dX5_note_126 : decode cX5_note 126 = .ok (.iconst 3, 1) := by decide +kernel
theorem dX5_note_127 : decode cX5_note 127 = .ok (.putfield 107, 3) := by decide +kernel
theorem dX5_note_130 : decode cX5_note 130 = .ok (.aload_n 0, 1) := by decide +kernel
theorem dX5_note_131 : decode cX5_note 131 = .ok (.getfield 107, 3) := by decide +kernel
theorem dX5_note_134 : decode cX5_note 134 = .ok (.ifCond .le 5, 3) := by decide +kernel
theorem dX5_note_137 : decode cX5_note 137 = .ok (.iconst 0, 1) := by decide +kernel
theorem dX5_note_138 : decode cX5_note 138 = .ok (.ireturn, 1) := by decide +kernel
theorem dX5_note_139 : decode cX5_note 139 = .ok (.bipush 64, 2) := by decide +kernel
theorem dX5_note_141 : decode cX5_note 141 = .ok (.iload_n 1, 1) := by decide +kernel
theorem dX5_note_142 : decode cX5_note 142 = .ok (.imul, 1) := by decide +kernel
theorem dX5_note_143 : decode cX5_note 143 = .ok (.aload_n 0, 1) := by decide +kernel
theorem dX5_note_144 : decode cX5_note 144 = .ok (.getfield 13, 3) := by decide +kernel
theorem dX5_note_147 : decode cX5_note 147 = .ok (.iload_n 1, 1) := by decide +kernel
theorem dX5_note_148 : decode cX5_note 148 = .ok (.iaload, 1) := by decide +kernel
theorem dX5_note_149 : decode cX5_note 149 = .ok (.iadd, 1) := by decide +kernel
theorem dX5_note_150 : decode cX5_note 150 = .ok (.istore 7, 2) := by decide +kernel
theorem dX5_note_152 : decode cX5_note 152 = .ok (.aload_n 0, 1) := by decide +kernel
theorem dX5_note_153 : decode cX5_note 153 = .ok (.getfield 19, 3) := by decide +kernel
theorem dX5_note_156 : decode cX5_note 156 = .ok (.iload 7, 2) := by decide +kernel
theorem dX5_note_158 : decode cX5_note 158 = .ok (.iload_n 2, 1) := by decide +kernel
theorem dX5_note_159 : decode cX5_note 159 = .ok (.iastore, 1) := by decide +kernel
theorem dX5_note_160 : decode cX5_note 160 = .ok (.aload_n 0, 1) := by decide +kernel
theorem dX5_note_161 : decode cX5_note 161 = .ok (.getfield 22, 3) := by decide +kernel
theorem dX5_note_164 : decode cX5_note 164 = .ok (.iload 7, 2) := by decide +kernel
theorem dX5_note_166 : decode cX5_note 166 = .ok (.iload_n 3, 1) := by decide +kernel
theorem dX5_note_167 : decode cX5_note 167 = .ok (.iastore, 1) := by decide +kernel
theorem dX5_note_168 : decode cX5_note 168 = .ok (.aload_n 0, 1) := by decide +kernel
theorem dX5_note_169 : decode cX5_note 169 = .ok (.getfield 25, 3) := by decide +kernel
theorem dX5_note_172 : decode cX5_note 172 = .ok (.iload 7, 2) := by decide +kernel
theorem dX5_note_174 : decode cX5_note 174 = .ok (.iload 4, 2) := by decide +kernel
theorem dX5_note_176 : decode cX5_note 176 = .ok (.iastore, 1) := by decide +kernel
theorem dX5_note_177 : decode cX5_note 177 = .ok (.aload_n 0, 1) := by decide +kernel
theorem dX5_note_178 : decode cX5_note 178 = .ok (.getfield 13, 3) := by decide +kernel
theorem dX5_note_181 : decode cX5_note 181 = .ok (.iload_n 1, 1) := by decide +kernel
theorem dX5_note_182 : decode cX5_note 182 = .ok (.dup2, 1) := by decide +kernel
theorem dX5_note_183 : decode cX5_note 183 = .ok (.iaload, 1) := by decide +kernel
theorem dX5_note_184 : decode cX5_note 184 = .ok (.iconst 1, 1) := by decide +kernel
theorem dX5_note_185 : decode cX5_note 185 = .ok (.iadd, 1) := by decide +kernel
theorem dX5_note_186 : decode cX5_note 186 = .ok (.iastore, 1) := by decide +kernel
theorem dX5_note_187 : decode cX5_note 187 = .ok (.aload_n 0, 1) := by decide +kernel
theorem dX5_note_188 : decode cX5_note 188 = .ok (.getfield 13, 3) := by decide +kernel
theorem dX5_note_191 : decode cX5_note 191 = .ok (.iload_n 1, 1) := by decide +kernel
theorem dX5_note_192 : decode cX5_note 192 = .ok (.iaload, 1) := by decide +kernel
theorem dX5_note_193 : decode cX5_note 193 = .ok (.ireturn, 1) := by decide +kernel
theorem dX5_part_0 : decode cX5_part 0 = .ok (.aload_n 0, 1) := by decide +kernel
theorem dX5_part_1 : decode cX5_part 1 = .ok (.aload_n 0, 1) := by decide +kernel
theorem dX5_part_2 : decode cX5_part 2 = .ok (.iload_n 1, 1) := by decide +kernel
theorem dX5_part_3 : decode cX5_part 3 = .ok (.invokevirtual 125, 3) := by decide +kernel
theorem dX5_part_6 : decode cX5_part 6 = .ok (.ifCond .eq 7, 3) := by decide +kernel
theorem dX5_part_9 : decode cX5_part 9 = .ok (.iconst 0, 1) := by decide +kernel
theorem dX5_part_10 : decode cX5_part 10 = .ok (.goto 4, 3) := by decide +kernel
theorem dX5_part_13 : decode cX5_part 13 = .ok (.iconst 1, 1) := by decide +kernel
theorem dX5_part_14 : decode cX5_part 14 = .ok (.putfield 107, 3) := by decide +kernel
theorem dX5_part_17 : decode cX5_part 17 = .ok (.aload_n 0, 1) := by decide +kernel
theorem dX5_part_18 : decode cX5_part 18 = .ok (.getfield 107, 3) := by decide +kernel
theorem dX5_part_21 : decode cX5_part 21 = .ok (.ifCond .le 5, 3) := by decide +kernel
theorem dX5_part_24 : decode cX5_part 24 = .ok (.iconst 0, 1) := by decide +kernel
theorem dX5_part_25 : decode cX5_part 25 = .ok (.ireturn, 1) := by decide +kernel
theorem dX5_part_26 : decode cX5_part 26 = .ok (.aload_n 0, 1) := by decide +kernel
theorem dX5_part_27 : decode cX5_part 27 = .ok (.iload_n 1, 1) := by decide +kernel
theorem dX5_part_28 : decode cX5_part 28 = .ok (.invokevirtual 135, 3) := by decide +kernel
theorem dX5_part_31 : decode cX5_part 31 = .ok (.istore_n 3, 1) := by decide +kernel
theorem dX5_part_32 : decode cX5_part 32 = .ok (.aload_n 0, 1) := by decide +kernel
theorem dX5_part_33 : decode cX5_part 33 = .ok (.getfield 7, 3) := by decide +kernel
theorem dX5_part_36 : decode cX5_part 36 = .ok (.iload_n 1, 1) := by decide +kernel
theorem dX5_part_37 : decode cX5_part 37 = .ok (.iaload, 1) := by decide +kernel
theorem dX5_part_38 : decode cX5_part 38 = .ok (.invokestatic 129, 3) := by decide +kernel
theorem dX5_part_41 : decode cX5_part 41 = .ok (.istore 4, 2) := by decide +kernel
theorem dX5_part_43 : decode cX5_part 43 = .ok (.aload_n 0, 1) := by decide +kernel
theorem dX5_part_44 : decode cX5_part 44 = .ok (.iload_n 3, 1) := by decide +kernel
theorem dX5_part_45 : decode cX5_part 45 = .ok (.ifCond .eq 21, 3) := by decide +kernel
theorem dX5_part_48 : decode cX5_part 48 = .ok (.iload_n 3, 1) := by decide +kernel
theorem dX5_part_49 : decode cX5_part 49 = .ok (.iload 4, 2) := by decide +kernel
theorem dX5_part_51 : decode cX5_part 51 = .ok (.irem, 1) := by decide +kernel
theorem dX5_part_52 : decode cX5_part 52 = .ok (.ifCond .gt 14, 3) := by decide +kernel
theorem dX5_part_55 : decode cX5_part 55 = .ok (.aload_n 0, 1) := by decide +kernel
theorem dX5_part_56 : decode cX5_part 56 = .ok (.getfield 16, 3) := by decide +kernel
theorem dX5_part_59 : decode cX5_part 59 = .ok (.iload_n 1, 1) := by decide +kernel
theorem dX5_part_60 : decode cX5_part 60 = .ok (.iaload, 1) := by decide +kernel
theorem dX5_part_61 : decode cX5_part 61 = .ok (.bipush 8, 2) := by decide +kernel
theorem dX5_part_63 : decode cX5_part 63 = .ok (.if_icmp .ne 7, 3) := by decide +kernel
theorem dX5_part_66 : decode cX5_part 66 = .ok (.iconst 2, 1) := by decide +kernel
theorem dX5_part_67 : decode cX5_part 67 = .ok (.goto 4, 3) := by decide +kernel
theorem dX5_part_70 : decode cX5_part 70 = .ok (.iconst 0, 1) := by decide +kernel
theorem dX5_part_71 : decode cX5_part 71 = .ok (.putfield 107, 3) := by decide +kernel
theorem dX5_part_74 : decode cX5_part 74 = .ok (.aload_n 0, 1) := by decide +kernel
theorem dX5_part_75 : decode cX5_part 75 = .ok (.getfield 107, 3) := by decide +kernel
theorem dX5_part_78 : decode cX5_part 78 = .ok (.ifCond .le 5, 3) := by decide +kernel
theorem dX5_part_81 : decode cX5_part 81 = .ok (.iconst 0, 1) := by decide +kernel
theorem dX5_part_82 : decode cX5_part 82 = .ok (.ireturn, 1) := by decide +kernel
theorem dX5_part_83 : decode cX5_part 83 = .ok (.aload_n 0, 1) := by decide +kernel
theorem dX5_part_84 : decode cX5_part 84 = .ok (.getfield 28, 3) := by decide +kernel
theorem dX5_part_87 : decode cX5_part 87 = .ok (.bipush 8, 2) := by decide +kernel
theorem dX5_part_89 : decode cX5_part 89 = .ok (.iload_n 1, 1) := by decide +kernel
theorem dX5_part_90 : decode cX5_part 90 = .ok (.imul, 1) := by decide +kernel
theorem dX5_part_91 : decode cX5_part 91 = .ok (.aload_n 0, 1) := by decide +kernel
theorem dX5_part_92 : decode cX5_part 92 = .ok (.getfield 16, 3) := by decide +kernel
theorem dX5_part_95 : decode cX5_part 95 = .ok (.iload_n 1, 1) := by decide +kernel
theorem dX5_part_96 : decode cX5_part 96 = .ok (.iaload, 1) := by decide +kernel
theorem dX5_part_97 : decode cX5_part 97 = .ok (.iadd, 1) := by decide +kernel
theorem dX5_part_98 : decode cX5_part 98 = .ok (.aload_n 0, 1) := by decide +kernel
theorem dX5_part_99 : decode cX5_part 99 = .ok (.getfield 13, 3) := by decide +kernel
theorem dX5_part_102 : decode cX5_part 102 = .ok (.iload_n 1, 1) := by decide +kernel
theorem dX5_part_103 : decode cX5_part 103 = .ok (.iaload, 1) := by decide +kernel
theorem dX5_part_104 : decode cX5_part 104 = .ok (.iastore, 1) := by decide +kernel
theorem dX5_part_105 : decode cX5_part 105 = .ok (.aload_n 0, 1) := by decide +kernel
theorem dX5_part_106 : decode cX5_part 106 = .ok (.getfield 31, 3) := by decide +kernel
theorem dX5_part_109 : decode cX5_part 109 = .ok (.bipush 8, 2) := by decide +kernel
theorem dX5_part_111 : decode cX5_part 111 = .ok (.iload_n 1, 1) := by decide +kernel
theorem dX5_part_112 : decode cX5_part 112 = .ok (.imul, 1) := by decide +kernel
theorem dX5_part_113 : decode cX5_part 113 = .ok (.aload_n 0, 1) := by decide +kernel
theorem dX5_part_114 : decode cX5_part 114 = .ok (.getfield 16, 3) := by decide +kernel
theorem dX5_part_117 : decode cX5_part 117 = .ok (.iload_n 1, 1) := by decide +kernel
theorem dX5_part_118 : decode cX5_part 118 = .ok (.iaload, 1) := by decide +kernel
theorem dX5_part_119 : decode cX5_part 119 = .ok (.iadd, 1) := by decide +kernel
theorem dX5_part_120 : decode cX5_part 120 = .ok (.iload_n 2, 1) := by decide +kernel
theorem dX5_part_121 : decode cX5_part 121 = .ok (.bastore, 1) := by decide +kernel
theorem dX5_part_122 : decode cX5_part 122 = .ok (.aload_n 0, 1) := by decide +kernel
theorem dX5_part_123 : decode cX5_part 123 = .ok (.getfield 16, 3) := by decide +kernel
theorem dX5_part_126 : decode cX5_part 126 = .ok (.iload_n 1, 1) := by decide +kernel
theorem dX5_part_127 : decode cX5_part 127 = .ok (.dup2, 1) := by decide +kernel
theorem dX5_part_128 : decode cX5_part 128 = .ok (.iaload, 1) := by decide +kernel
theorem dX5_part_129 : decode cX5_part 129 = .ok (.iconst 1, 1) := by decide +kernel
theorem dX5_part_130 : decode cX5_part 130 = .ok (.iadd, 1) := by decide +kernel
theorem dX5_part_131 : decode cX5_part 131 = .ok (.iastore, 1) := by decide +kernel
theorem dX5_part_132 : decode cX5_part 132 = .ok (.iload_n 3, 1) := by decide +kernel
theorem dX5_part_133 : decode cX5_part 133 = .ok (.iload 4, 2) := by decide +kernel
theorem dX5_part_135 : decode cX5_part 135 = .ok (.idiv, 1) := by decide +kernel
theorem dX5_part_136 : decode cX5_part 136 = .ok (.ireturn, 1) := by decide +kernel
theorem dX5_plays_0 : decode cX5_plays 0 = .ok (.aload_n 0, 1) := by decide +kernel
theorem dX5_plays_1 : decode cX5_plays 1 = .ok (.iconst 0, 1) := by decide +kernel
theorem dX5_plays_2 : decode cX5_plays 2 = .ok (.putfield 138, 3) := by decide +kernel
theorem dX5_plays_5 : decode cX5_plays 5 = .ok (.iconst 0, 1) := by decide +kernel
theorem dX5_plays_6 : decode cX5_plays 6 = .ok (.istore_n 2, 1) := by decide +kernel
theorem dX5_plays_7 : decode cX5_plays 7 = .ok (.iload_n 2, 1) := by decide +kernel
theorem dX5_plays_8 : decode cX5_plays 8 = .ok (.aload_n 0, 1) := by decide +kernel
theorem dX5_plays_9 : decode cX5_plays 9 = .ok (.getfield 16, 3) := by decide +kernel
theorem dX5_plays_12 : decode cX5_plays 12 = .ok (.iload_n 1, 1) := by decide +kernel
theorem dX5_plays_13 : decode cX5_plays 13 = .ok (.iaload, 1) := by decide +kernel
theorem dX5_plays_14 : decode cX5_plays 14 = .ok (.if_icmp .ge 129, 3) := by decide +kernel
theorem dX5_plays_17 : decode cX5_plays 17 = .ok (.iload_n 2, 1) := by decide +kernel
theorem dX5_plays_18 : decode cX5_plays 18 = .ok (.ifCond .ne 7, 3) := by decide +kernel
theorem dX5_plays_21 : decode cX5_plays 21 = .ok (.iconst 0, 1) := by decide +kernel
theorem dX5_plays_22 : decode cX5_plays 22 = .ok (.goto 16, 3) := by decide +kernel
theorem dX5_plays_25 : decode cX5_plays 25 = .ok (.aload_n 0, 1) := by decide +kernel
theorem dX5_plays_26 : decode cX5_plays 26 = .ok (.getfield 28, 3) := by decide +kernel
theorem dX5_plays_29 : decode cX5_plays 29 = .ok (.bipush 8, 2) := by decide +kernel
theorem dX5_plays_31 : decode cX5_plays 31 = .ok (.iload_n 1, 1) := by decide +kernel
theorem dX5_plays_32 : decode cX5_plays 32 = .ok (.imul, 1) := by decide +kernel
theorem dX5_plays_33 : decode cX5_plays 33 = .ok (.iload_n 2, 1) := by decide +kernel
theorem dX5_plays_34 : decode cX5_plays 34 = .ok (.iadd, 1) := by decide +kernel
theorem dX5_plays_35 : decode cX5_plays 35 = .ok (.iconst 1, 1) := by decide +kernel
theorem dX5_plays_36 : decode cX5_plays 36 = .ok (.isub, 1) := by decide +kernel
theorem dX5_plays_37 : decode cX5_plays 37 = .ok (.iaload, 1) := by decide +kernel
theorem dX5_plays_38 : decode cX5_plays 38 = .ok (.istore_n 3, 1) := by decide +kernel
theorem dX5_plays_39 : decode cX5_plays 39 = .ok (.aload_n 0, 1) := by decide +kernel
theorem dX5_plays_40 : decode cX5_plays 40 = .ok (.getfield 31, 3) := by decide +kernel
theorem dX5_plays_43 : decode cX5_plays 43 = .ok (.bipush 8, 2) := by decide +kernel
theorem dX5_plays_45 : decode cX5_plays 45 = .ok (.iload_n 1, 1) := by decide +kernel
theorem dX5_plays_46 : decode cX5_plays 46 = .ok (.imul, 1) := by decide +kernel
theorem dX5_plays_47 : decode cX5_plays 47 = .ok (.iload_n 2, 1) := by decide +kernel
theorem dX5_plays_48 : decode cX5_plays 48 = .ok (.iadd, 1) := by decide +kernel
theorem dX5_plays_49 : decode cX5_plays 49 = .ok (.baload, 1) := by decide +kernel
theorem dX5_plays_50 : decode cX5_plays 50 = .ok (.ifCond .eq 7, 3) := by decide +kernel
theorem dX5_plays_53 : decode cX5_plays 53 = .ok (.iconst 2, 1) := by decide +kernel
theorem dX5_plays_54 : decode cX5_plays 54 = .ok (.goto 4, 3) := by decide +kernel
theorem dX5_plays_57 : decode cX5_plays 57 = .ok (.iconst 1, 1) := by decide +kernel
theorem dX5_plays_58 : decode cX5_plays 58 = .ok (.istore 4, 2) := by decide +kernel
theorem dX5_plays_60 : decode cX5_plays 60 = .ok (.iconst 0, 1) := by decide +kernel
theorem dX5_plays_61 : decode cX5_plays 61 = .ok (.istore 5, 2) := by decide +kernel
theorem dX5_plays_63 : decode cX5_plays 63 = .ok (.iload 5, 2) := by decide +kernel
theorem dX5_plays_65 : decode cX5_plays 65 = .ok (.iload 4, 2) := by decide +kernel
theorem dX5_plays_67 : decode cX5_plays 67 = .ok (.if_icmp .ge 70, 3) := by decide +kernel
theorem dX5_plays_70 : decode cX5_plays 70 = .ok (.iload_n 3, 1) := by decide +kernel
theorem dX5_plays_71 : decode cX5_plays 71 = .ok (.istore 6, 2) := by decide +kernel
theorem dX5_plays_73 : decode cX5_plays 73 = .ok (.iload 6, 2) := by decide +kernel
theorem dX5_plays_75 : decode cX5_plays 75 = .ok (.aload_n 0, 1) := by decide +kernel
theorem dX5_plays_76 : decode cX5_plays 76 = .ok (.getfield 28, 3) := by decide +kernel
theorem dX5_plays_79 : decode cX5_plays 79 = .ok (.bipush 8, 2) := by decide +kernel
theorem dX5_plays_81 : decode cX5_plays 81 = .ok (.iload_n 1, 1) := by decide +kernel
theorem dX5_plays_82 : decode cX5_plays 82 = .ok (.imul, 1) := by decide +kernel
theorem dX5_plays_83 : decode cX5_plays 83 = .ok (.iload_n 2, 1) := by decide +kernel
theorem dX5_plays_84 : decode cX5_plays 84 = .ok (.iadd, 1) := by decide +kernel
theorem dX5_plays_85 : decode cX5_plays 85 = .ok (.iaload, 1) := by decide +kernel
theorem dX5_plays_86 : decode cX5_plays 86 = .ok (.if_icmp .ge 45, 3) := by decide +kernel
theorem dX5_plays_89 : decode cX5_plays 89 = .ok (.aload_n 0, 1) := by decide +kernel
theorem dX5_plays_90 : decode cX5_plays 90 = .ok (.getfield 35, 3) := by decide +kernel
theorem dX5_plays_93 : decode cX5_plays 93 = .ok (.aload_n 0, 1) := by decide +kernel
theorem dX5_plays_94 : decode cX5_plays 94 = .ok (.getfield 138, 3) := by decide +kernel
theorem dX5_plays_97 : decode cX5_plays 97 = .ok (.bipush 64, 2) := by decide +kernel
theorem dX5_plays_99 : decode cX5_plays 99 = .ok (.iload_n 1, 1) := by decide +kernel
theorem dX5_plays_100 : decode cX5_plays 100 = .ok (.imul, 1) := by decide +kernel
theorem dX5_plays_101 : decode cX5_plays 101 = .ok (.iload 6, 2) := by decide +kernel
theorem dX5_plays_103 : decode cX5_plays 103 = .ok (.iadd, 1) := by decide +kernel
theorem dX5_plays_104 : decode cX5_plays 104 = .ok (.iastore, 1) := by decide +kernel
theorem dX5_plays_105 : decode cX5_plays 105 = .ok (.aload_n 0, 1) := by decide +kernel
theorem dX5_plays_106 : decode cX5_plays 106 = .ok (.getfield 38, 3) := by decide +kernel
theorem dX5_plays_109 : decode cX5_plays 109 = .ok (.aload_n 0, 1) := by decide +kernel
theorem dX5_plays_110 : decode cX5_plays 110 = .ok (.getfield 138, 3) := by decide +kernel
theorem dX5_plays_113 : decode cX5_plays 113 = .ok (.iload_n 2, 1) := by decide +kernel
theorem dX5_plays_114 : decode cX5_plays 114 = .ok (.iastore, 1) := by decide +kernel
theorem dX5_plays_115 : decode cX5_plays 115 = .ok (.aload_n 0, 1) := by decide +kernel
theorem dX5_plays_116 : decode cX5_plays 116 = .ok (.dup, 1) := by decide +kernel
theorem dX5_plays_117 : decode cX5_plays 117 = .ok (.getfield 138, 3) := by decide +kernel
theorem dX5_plays_120 : decode cX5_plays 120 = .ok (.iconst 1, 1) := by decide +kernel
theorem dX5_plays_121 : decode cX5_plays 121 = .ok (.iadd, 1) := by decide +kernel
theorem dX5_plays_122 : decode cX5_plays 122 = .ok (.putfield 138, 3) := by decide +kernel
theorem dX5_plays_125 : decode cX5_plays 125 = .ok (.iinc 6 1, 3) := by decide +kernel
theorem dX5_plays_128 : decode cX5_plays 128 = .ok (.goto (-55), 3) := by decide +kernel
theorem dX5_plays_131 : decode cX5_plays 131 = .ok (.iinc 5 1, 3) := by decide +kernel
theorem dX5_plays_134 : decode cX5_plays 134 = .ok (.goto (-71), 3) := by decide +kernel
theorem dX5_plays_137 : decode cX5_plays 137 = .ok (.iinc 2 1, 3) := by decide +kernel
theorem dX5_plays_140 : decode cX5_plays 140 = .ok (.goto (-133), 3) := by decide +kernel
theorem dX5_plays_143 : decode cX5_plays 143 = .ok (.return_, 1) := by decide +kernel
theorem dX5_unitsTo_0 : decode cX5_unitsTo 0 = .ok (.iconst 0, 1) := by decide +kernel
theorem dX5_unitsTo_1 : decode cX5_unitsTo 1 = .ok (.istore_n 2, 1) := by decide +kernel
theorem dX5_unitsTo_2 : decode cX5_unitsTo 2 = .ok (.iconst 0, 1) := by decide +kernel
theorem dX5_unitsTo_3 : decode cX5_unitsTo 3 = .ok (.istore_n 3, 1) := by decide +kernel
theorem dX5_unitsTo_4 : decode cX5_unitsTo 4 = .ok (.iload_n 3, 1) := by decide +kernel
theorem dX5_unitsTo_5 : decode cX5_unitsTo 5 = .ok (.iload_n 1, 1) := by decide +kernel
theorem dX5_unitsTo_6 : decode cX5_unitsTo 6 = .ok (.if_icmp .ge 23, 3) := by decide +kernel
theorem dX5_unitsTo_9 : decode cX5_unitsTo 9 = .ok (.iload_n 2, 1) := by decide +kernel
theorem dX5_unitsTo_10 : decode cX5_unitsTo 10 = .ok (.aload_n 0, 1) := by decide +kernel
theorem dX5_unitsTo_11 : decode cX5_unitsTo 11 = .ok (.getfield 22, 3) := by decide +kernel
theorem dX5_unitsTo_14 : decode cX5_unitsTo 14 = .ok (.aload_n 0, 1) := by decide +kernel
theorem dX5_unitsTo_15 : decode cX5_unitsTo 15 = .ok (.getfield 35, 3) := by decide +kernel
theorem dX5_unitsTo_18 : decode cX5_unitsTo 18 = .ok (.iload_n 3, 1) := by decide +kernel
theorem dX5_unitsTo_19 : decode cX5_unitsTo 19 = .ok (.iaload, 1) := by decide +kernel
theorem dX5_unitsTo_20 : decode cX5_unitsTo 20 = .ok (.iaload, 1) := by decide +kernel
theorem dX5_unitsTo_21 : decode cX5_unitsTo 21 = .ok (.iadd, 1) := by decide +kernel
theorem dX5_unitsTo_22 : decode cX5_unitsTo 22 = .ok (.istore_n 2, 1) := by decide +kernel
theorem dX5_unitsTo_23 : decode cX5_unitsTo 23 = .ok (.iinc 3 1, 3) := by decide +kernel
theorem dX5_unitsTo_26 : decode cX5_unitsTo 26 = .ok (.goto (-22), 3) := by decide +kernel
theorem dX5_unitsTo_29 : decode cX5_unitsTo 29 = .ok (.iload_n 2, 1) := by decide +kernel
theorem dX5_unitsTo_30 : decode cX5_unitsTo 30 = .ok (.ireturn, 1) := by decide +kernel
theorem dX5_played_0 : decode cX5_played 0 = .ok (.aload_n 0, 1) := by decide +kernel
theorem dX5_played_1 : decode cX5_played 1 = .ok (.aload_n 0, 1) := by decide +kernel
theorem dX5_played_2 : decode cX5_played 2 = .ok (.iload_n 1, 1) := by decide +kernel
theorem dX5_played_3 : decode cX5_played 3 = .ok (.invokevirtual 125, 3) := by decide +kernel
theorem dX5_played_6 : decode cX5_played 6 = .ok (.ifCond .eq 7, 3) := by decide +kernel
theorem dX5_played_9 : decode cX5_played 9 = .ok (.iconst 0, 1) := by decide +kernel
theorem dX5_played_10 : decode cX5_played 10 = .ok (.goto 4, 3) := by decide +kernel
theorem dX5_played_13 : decode cX5_played 13 = .ok (.iconst 1, 1) := by decide +kernel
theorem dX5_played_14 : decode cX5_played 14 = .ok (.putfield 107, 3) := by decide +kernel
theorem dX5_played_17 : decode cX5_played 17 = .ok (.aload_n 0, 1) := by decide +kernel
theorem dX5_played_18 : decode cX5_played 18 = .ok (.getfield 107, 3) := by decide +kernel
theorem dX5_played_21 : decode cX5_played 21 = .ok (.ifCond .le 5, 3) := by decide +kernel
theorem dX5_played_24 : decode cX5_played 24 = .ok (.iconst 0, 1) := by decide +kernel
theorem dX5_played_25 : decode cX5_played 25 = .ok (.ireturn, 1) := by decide +kernel
theorem dX5_played_26 : decode cX5_played 26 = .ok (.aload_n 0, 1) := by decide +kernel
theorem dX5_played_27 : decode cX5_played 27 = .ok (.iload_n 1, 1) := by decide +kernel
theorem dX5_played_28 : decode cX5_played 28 = .ok (.invokevirtual 141, 3) := by decide +kernel
theorem dX5_played_31 : decode cX5_played 31 = .ok (.aload_n 0, 1) := by decide +kernel
theorem dX5_played_32 : decode cX5_played 32 = .ok (.iload_n 2, 1) := by decide +kernel
theorem dX5_played_33 : decode cX5_played 33 = .ok (.iconst 0, 1) := by decide +kernel
theorem dX5_played_34 : decode cX5_played 34 = .ok (.aload_n 0, 1) := by decide +kernel
theorem dX5_played_35 : decode cX5_played 35 = .ok (.getfield 138, 3) := by decide +kernel
theorem dX5_played_38 : decode cX5_played 38 = .ok (.iconst 1, 1) := by decide +kernel
theorem dX5_played_39 : decode cX5_played 39 = .ok (.isub, 1) := by decide +kernel
theorem dX5_played_40 : decode cX5_played 40 = .ok (.invokestatic 114, 3) := by decide +kernel
theorem dX5_played_43 : decode cX5_played 43 = .ok (.ifCond .ne 7, 3) := by decide +kernel
theorem dX5_played_46 : decode cX5_played 46 = .ok (.iconst 1, 1) := by decide +kernel
theorem dX5_played_47 : decode cX5_played 47 = .ok (.goto 17, 3) := by decide +kernel
theorem dX5_played_50 : decode cX5_played 50 = .ok (.iload_n 3, 1) := by decide +kernel
theorem dX5_played_51 : decode cX5_played 51 = .ok (.iconst 0, 1) := by decide +kernel
theorem dX5_played_52 : decode cX5_played 52 = .ok (.iconst 4, 1) := by decide +kernel
theorem dX5_played_53 : decode cX5_played 53 = .ok (.invokestatic 114, 3) := by decide +kernel
theorem dX5_played_56 : decode cX5_played 56 = .ok (.ifCond .ne 7, 3) := by decide +kernel
theorem dX5_played_59 : decode cX5_played 59 = .ok (.iconst 2, 1) := by decide +kernel
theorem dX5_played_60 : decode cX5_played 60 = .ok (.goto 4, 3) := by decide +kernel
theorem dX5_played_63 : decode cX5_played 63 = .ok (.iconst 0, 1) := by decide +kernel
theorem dX5_played_64 : decode cX5_played 64 = .ok (.putfield 107, 3) := by decide +kernel
theorem dX5_played_67 : decode cX5_played 67 = .ok (.aload_n 0, 1) := by decide +kernel
theorem dX5_played_68 : decode cX5_played 68 = .ok (.getfield 107, 3) := by decide +kernel
theorem dX5_played_71 : decode cX5_played 71 = .ok (.ifCond .le 5, 3) := by decide +kernel
theorem dX5_played_74 : decode cX5_played 74 = .ok (.iconst 0, 1) := by decide +kernel
theorem dX5_played_75 : decode cX5_played 75 = .ok (.ireturn, 1) := by decide +kernel
theorem dX5_played_76 : decode cX5_played 76 = .ok (.aload_n 0, 1) := by decide +kernel
theorem dX5_played_77 : decode cX5_played 77 = .ok (.getfield 35, 3) := by decide +kernel
theorem dX5_played_80 : decode cX5_played 80 = .ok (.iload_n 2, 1) := by decide +kernel
theorem dX5_played_81 : decode cX5_played 81 = .ok (.iaload, 1) := by decide +kernel
theorem dX5_played_82 : decode cX5_played 82 = .ok (.istore 4, 2) := by decide +kernel
theorem dX5_played_84 : decode cX5_played 84 = .ok (.iload_n 3, 1) := by decide +kernel
theorem dX5_played_85 : decode cX5_played 85 = .ok (.ifCond .ne 13, 3) := by decide +kernel
theorem dX5_played_88 : decode cX5_played 88 = .ok (.aload_n 0, 1) := by decide +kernel
theorem dX5_played_89 : decode cX5_played 89 = .ok (.getfield 19, 3) := by decide +kernel
theorem dX5_played_92 : decode cX5_played 92 = .ok (.iload 4, 2) := by decide +kernel
theorem dX5_played_94 : decode cX5_played 94 = .ok (.iaload, 1) := by decide +kernel
theorem dX5_played_95 : decode cX5_played 95 = .ok (.goto 52, 3) := by decide +kernel
theorem dX5_played_98 : decode cX5_played 98 = .ok (.iload_n 3, 1) := by decide +kernel
theorem dX5_played_99 : decode cX5_played 99 = .ok (.iconst 1, 1) := by decide +kernel
theorem dX5_played_100 : decode cX5_played 100 = .ok (.if_icmp .ne 13, 3) := by decide +kernel
theorem dX5_played_103 : decode cX5_played 103 = .ok (.aload_n 0, 1) := by decide +kernel
theorem dX5_played_104 : decode cX5_played 104 = .ok (.getfield 22, 3) := by decide +kernel
theorem dX5_played_107 : decode cX5_played 107 = .ok (.iload 4, 2) := by decide +kernel
theorem dX5_played_109 : decode cX5_played 109 = .ok (.iaload, 1) := by decide +kernel
theorem dX5_played_110 : decode cX5_played 110 = .ok (.goto 37, 3) := by decide +kernel
theorem dX5_played_113 : decode cX5_played 113 = .ok (.iload_n 3, 1) := by decide +kernel
theorem dX5_played_114 : decode cX5_played 114 = .ok (.iconst 2, 1) := by decide +kernel
theorem dX5_played_115 : decode cX5_played 115 = .ok (.if_icmp .ne 13, 3) := by decide +kernel
theorem dX5_played_118 : decode cX5_played 118 = .ok (.aload_n 0, 1) := by decide +kernel
theorem dX5_played_119 : decode cX5_played 119 = .ok (.getfield 25, 3) := by decide +kernel
theorem dX5_played_122 : decode cX5_played 122 = .ok (.iload 4, 2) := by decide +kernel
theorem dX5_played_124 : decode cX5_played 124 = .ok (.iaload, 1) := by decide +kernel
theorem dX5_played_125 : decode cX5_played 125 = .ok (.goto 22, 3) := by decide +kernel
theorem dX5_played_128 : decode cX5_played 128 = .ok (.iload_n 3, 1) := by decide +kernel
theorem dX5_played_129 : decode cX5_played 129 = .ok (.iconst 3, 1) := by decide +kernel
theorem dX5_played_130 : decode cX5_played 130 = .ok (.if_icmp .ne 11, 3) := by decide +kernel
theorem dX5_played_133 : decode cX5_played 133 = .ok (.aload_n 0, 1) := by decide +kernel
theorem dX5_played_134 : decode cX5_played 134 = .ok (.iload_n 2, 1) := by decide +kernel
theorem dX5_played_135 : decode cX5_played 135 = .ok (.invokevirtual 145, 3) := by decide +kernel
theorem dX5_played_138 : decode cX5_played 138 = .ok (.goto 9, 3) := by decide +kernel
theorem dX5_played_141 : decode cX5_played 141 = .ok (.aload_n 0, 1) := by decide +kernel
theorem dX5_played_142 : decode cX5_played 142 = .ok (.getfield 38, 3) := by decide +kernel
theorem dX5_played_145 : decode cX5_played 145 = .ok (.iload_n 2, 1) := by decide +kernel
theorem dX5_played_146 : decode cX5_played 146 = .ok (.iaload, 1) := by decide +kernel
theorem dX5_played_147 : decode cX5_played 147 = .ok (.ireturn, 1) := by decide +kernel
theorem dX5_clashes_0 : decode cX5_clashes 0 = .ok (.iconst 0, 1) := by decide +kernel
theorem dX5_clashes_1 : decode cX5_clashes 1 = .ok (.istore_n 1, 1) := by decide +kernel
theorem dX5_clashes_2 : decode cX5_clashes 2 = .ok (.iconst 1, 1) := by decide +kernel
theorem dX5_clashes_3 : decode cX5_clashes 3 = .ok (.istore_n 2, 1) := by decide +kernel
theorem dX5_clashes_4 : decode cX5_clashes 4 = .ok (.iload_n 2, 1) := by decide +kernel
theorem dX5_clashes_5 : decode cX5_clashes 5 = .ok (.aload_n 0, 1) := by decide +kernel
theorem dX5_clashes_6 : decode cX5_clashes 6 = .ok (.getfield 138, 3) := by decide +kernel
theorem dX5_clashes_9 : decode cX5_clashes 9 = .ok (.if_icmp .ge 58, 3) := by decide +kernel
theorem dX5_clashes_12 : decode cX5_clashes 12 = .ok (.iload_n 1, 1) := by decide +kernel
theorem dX5_clashes_13 : decode cX5_clashes 13 = .ok (.aload_n 0, 1) := by decide +kernel
theorem dX5_clashes_14 : decode cX5_clashes 14 = .ok (.getfield 25, 3) := by decide +kernel
theorem dX5_clashes_17 : decode cX5_clashes 17 = .ok (.aload_n 0, 1) := by decide +kernel
theorem dX5_clashes_18 : decode cX5_clashes 18 = .ok (.getfield 35, 3) := by decide +kernel
theorem dX5_clashes_21 : decode cX5_clashes 21 = .ok (.iload_n 2, 1) := by decide +kernel
theorem dX5_clashes_22 : decode cX5_clashes 22 = .ok (.iaload, 1) := by decide +kernel
theorem dX5_clashes_23 : decode cX5_clashes 23 = .ok (.iaload, 1) := by decide +kernel
theorem dX5_clashes_24 : decode cX5_clashes 24 = .ok (.ifCond .ne 34, 3) := by decide +kernel
theorem dX5_clashes_27 : decode cX5_clashes 27 = .ok (.aload_n 0, 1) := by decide +kernel
theorem dX5_clashes_28 : decode cX5_clashes 28 = .ok (.getfield 19, 3) := by decide +kernel
theorem dX5_clashes_31 : decode cX5_clashes 31 = .ok (.aload_n 0, 1) := by decide +kernel
theorem dX5_clashes_32 : decode cX5_clashes 32 = .ok (.getfield 35, 3) := by decide +kernel
theorem dX5_clashes_35 : decode cX5_clashes 35 = .ok (.iload_n 2, 1) := by decide +kernel
theorem dX5_clashes_36 : decode cX5_clashes 36 = .ok (.iaload, 1) := by decide +kernel
theorem dX5_clashes_37 : decode cX5_clashes 37 = .ok (.iaload, 1) := by decide +kernel
theorem dX5_clashes_38 : decode cX5_clashes 38 = .ok (.aload_n 0, 1) := by decide +kernel
theorem dX5_clashes_39 : decode cX5_clashes 39 = .ok (.getfield 19, 3) := by decide +kernel
theorem dX5_clashes_42 : decode cX5_clashes 42 = .ok (.aload_n 0, 1) := by decide +kernel
theorem dX5_clashes_43 : decode cX5_clashes 43 = .ok (.getfield 35, 3) := by decide +kernel
theorem dX5_clashes_46 : decode cX5_clashes 46 = .ok (.iload_n 2, 1) := by decide +kernel
theorem dX5_clashes_47 : decode cX5_clashes 47 = .ok (.iconst 1, 1) := by decide +kernel
theorem dX5_clashes_48 : decode cX5_clashes 48 = .ok (.isub, 1) := by decide +kernel
theorem dX5_clashes_49 : decode cX5_clashes 49 = .ok (.iaload, 1) := by decide +kernel
theorem dX5_clashes_50 : decode cX5_clashes 50 = .ok (.iaload, 1) := by decide +kernel
theorem dX5_clashes_51 : decode cX5_clashes 51 = .ok (.if_icmp .ne 7, 3) := by decide +kernel
theorem dX5_clashes_54 : decode cX5_clashes 54 = .ok (.iconst 1, 1) := by decide +kernel
theorem dX5_clashes_55 : decode cX5_clashes 55 = .ok (.goto 4, 3) := by decide +kernel
theorem dX5_clashes_58 : decode cX5_clashes 58 = .ok (.iconst 0, 1) := by decide +kernel
theorem dX5_clashes_59 : decode cX5_clashes 59 = .ok (.iadd, 1) := by decide +kernel
theorem dX5_clashes_60 : decode cX5_clashes 60 = .ok (.istore_n 1, 1) := by decide +kernel
theorem dX5_clashes_61 : decode cX5_clashes 61 = .ok (.iinc 2 1, 3) := by decide +kernel
theorem dX5_clashes_64 : decode cX5_clashes 64 = .ok (.goto (-60), 3) := by decide +kernel
theorem dX5_clashes_67 : decode cX5_clashes 67 = .ok (.iload_n 1, 1) := by decide +kernel
theorem dX5_clashes_68 : decode cX5_clashes 68 = .ok (.ireturn, 1) := by decide +kernel
theorem dX5_small_0 : decode cX5_small 0 = .ok (.iconst 0, 1) := by decide +kernel
theorem dX5_small_1 : decode cX5_small 1 = .ok (.istore_n 1, 1) := by decide +kernel
theorem dX5_small_2 : decode cX5_small 2 = .ok (.iconst 0, 1) := by decide +kernel
theorem dX5_small_3 : decode cX5_small 3 = .ok (.istore_n 2, 1) := by decide +kernel
theorem dX5_small_4 : decode cX5_small 4 = .ok (.iload_n 2, 1) := by decide +kernel
theorem dX5_small_5 : decode cX5_small 5 = .ok (.aload_n 0, 1) := by decide +kernel
theorem dX5_small_6 : decode cX5_small 6 = .ok (.getfield 138, 3) := by decide +kernel
theorem dX5_small_9 : decode cX5_small 9 = .ok (.if_icmp .ge 52, 3) := by decide +kernel
theorem dX5_small_12 : decode cX5_small 12 = .ok (.aload_n 0, 1) := by decide +kernel
theorem dX5_small_13 : decode cX5_small 13 = .ok (.getfield 25, 3) := by decide +kernel
theorem dX5_small_16 : decode cX5_small 16 = .ok (.aload_n 0, 1) := by decide +kernel
theorem dX5_small_17 : decode cX5_small 17 = .ok (.getfield 35, 3) := by decide +kernel
theorem dX5_small_20 : decode cX5_small 20 = .ok (.iload_n 2, 1) := by decide +kernel
theorem dX5_small_21 : decode cX5_small 21 = .ok (.iaload, 1) := by decide +kernel
theorem dX5_small_22 : decode cX5_small 22 = .ok (.iaload, 1) := by decide +kernel
theorem dX5_small_23 : decode cX5_small 23 = .ok (.istore_n 3, 1) := by decide +kernel
theorem dX5_small_24 : decode cX5_small 24 = .ok (.iload_n 1, 1) := by decide +kernel
theorem dX5_small_25 : decode cX5_small 25 = .ok (.iload_n 3, 1) := by decide +kernel
theorem dX5_small_26 : decode cX5_small 26 = .ok (.ifCond .ne 7, 3) := by decide +kernel
theorem dX5_small_29 : decode cX5_small 29 = .ok (.iconst 0, 1) := by decide +kernel
theorem dX5_small_30 : decode cX5_small 30 = .ok (.goto 23, 3) := by decide +kernel
theorem dX5_small_33 : decode cX5_small 33 = .ok (.iload_n 3, 1) := by decide +kernel
theorem dX5_small_34 : decode cX5_small 34 = .ok (.iconst 4, 1) := by decide +kernel
theorem dX5_small_35 : decode cX5_small 35 = .ok (.if_icmp .gt 7, 3) := by decide +kernel
theorem dX5_small_38 : decode cX5_small 38 = .ok (.iconst 1, 1) := by decide +kernel
theorem dX5_small_39 : decode cX5_small 39 = .ok (.goto 14, 3) := by decide +kernel
theorem dX5_small_42 : decode cX5_small 42 = .ok (.iload_n 3, 1) := by decide +kernel
theorem dX5_small_43 : decode cX5_small 43 = .ok (.bipush 8, 2) := by decide +kernel
theorem dX5_small_45 : decode cX5_small 45 = .ok (.if_icmp .ne 7, 3) := by decide +kernel
theorem dX5_small_48 : decode cX5_small 48 = .ok (.iconst 4, 1) := by decide +kernel
theorem dX5_small_49 : decode cX5_small 49 = .ok (.goto 4, 3) := by decide +kernel
theorem dX5_small_52 : decode cX5_small 52 = .ok (.iconst 3, 1) := by decide +kernel
theorem dX5_small_53 : decode cX5_small 53 = .ok (.iadd, 1) := by decide +kernel
theorem dX5_small_54 : decode cX5_small 54 = .ok (.istore_n 1, 1) := by decide +kernel
theorem dX5_small_55 : decode cX5_small 55 = .ok (.iinc 2 1, 3) := by decide +kernel
theorem dX5_small_58 : decode cX5_small 58 = .ok (.goto (-54), 3) := by decide +kernel
theorem dX5_small_61 : decode cX5_small 61 = .ok (.iload_n 1, 1) := by decide +kernel
theorem dX5_small_62 : decode cX5_small 62 = .ok (.ireturn, 1) := by decide +kernel
theorem dX5_ofTune_0 : decode cX5_ofTune 0 = .ok (.aload_n 0, 1) := by decide +kernel
theorem dX5_ofTune_1 : decode cX5_ofTune 1 = .ok (.aload_n 0, 1) := by decide +kernel
theorem dX5_ofTune_2 : decode cX5_ofTune 2 = .ok (.iload_n 1, 1) := by decide +kernel
theorem dX5_ofTune_3 : decode cX5_ofTune 3 = .ok (.invokevirtual 125, 3) := by decide +kernel
theorem dX5_ofTune_6 : decode cX5_ofTune 6 = .ok (.ifCond .ne 7, 3) := by decide +kernel
theorem dX5_ofTune_9 : decode cX5_ofTune 9 = .ok (.iconst 1, 1) := by decide +kernel
theorem dX5_ofTune_10 : decode cX5_ofTune 10 = .ok (.goto 18, 3) := by decide +kernel
theorem dX5_ofTune_13 : decode cX5_ofTune 13 = .ok (.iload_n 2, 1) := by decide +kernel
theorem dX5_ofTune_14 : decode cX5_ofTune 14 = .ok (.iconst 0, 1) := by decide +kernel
theorem dX5_ofTune_15 : decode cX5_ofTune 15 = .ok (.bipush 6, 2) := by decide +kernel
theorem dX5_ofTune_17 : decode cX5_ofTune 17 = .ok (.invokestatic 114, 3) := by decide +kernel
theorem dX5_ofTune_20 : decode cX5_ofTune 20 = .ok (.ifCond .ne 7, 3) := by decide +kernel
theorem dX5_ofTune_23 : decode cX5_ofTune 23 = .ok (.iconst 2, 1) := by decide +kernel
theorem dX5_ofTune_24 : decode cX5_ofTune 24 = .ok (.goto 4, 3) := by decide +kernel
theorem dX5_ofTune_27 : decode cX5_ofTune 27 = .ok (.iconst 0, 1) := by decide +kernel
theorem dX5_ofTune_28 : decode cX5_ofTune 28 = .ok (.putfield 107, 3) := by decide +kernel
theorem dX5_ofTune_31 : decode cX5_ofTune 31 = .ok (.aload_n 0, 1) := by decide +kernel
theorem dX5_ofTune_32 : decode cX5_ofTune 32 = .ok (.getfield 107, 3) := by decide +kernel
theorem dX5_ofTune_35 : decode cX5_ofTune 35 = .ok (.ifCond .le 5, 3) := by decide +kernel
theorem dX5_ofTune_38 : decode cX5_ofTune 38 = .ok (.iconst 0, 1) := by decide +kernel
theorem dX5_ofTune_39 : decode cX5_ofTune 39 = .ok (.ireturn, 1) := by decide +kernel
theorem dX5_ofTune_40 : decode cX5_ofTune 40 = .ok (.aload_n 0, 1) := by decide +kernel
theorem dX5_ofTune_41 : decode cX5_ofTune 41 = .ok (.iload_n 1, 1) := by decide +kernel
theorem dX5_ofTune_42 : decode cX5_ofTune 42 = .ok (.invokevirtual 141, 3) := by decide +kernel
theorem dX5_ofTune_45 : decode cX5_ofTune 45 = .ok (.iload_n 2, 1) := by decide +kernel
theorem dX5_ofTune_46 : decode cX5_ofTune 46 = .ok (.tableswitch 76 0 5 #[38, 45, 50, 59, 64, 69], 38) := by decide +kernel
theorem dX5_ofTune_84 : decode cX5_ofTune 84 = .ok (.aload_n 0, 1) := by decide +kernel
theorem dX5_ofTune_85 : decode cX5_ofTune 85 = .ok (.getfield 7, 3) := by decide +kernel
theorem dX5_ofTune_88 : decode cX5_ofTune 88 = .ok (.iload_n 1, 1) := by decide +kernel
theorem dX5_ofTune_89 : decode cX5_ofTune 89 = .ok (.iaload, 1) := by decide +kernel
theorem dX5_ofTune_90 : decode cX5_ofTune 90 = .ok (.ireturn, 1) := by decide +kernel
theorem dX5_ofTune_91 : decode cX5_ofTune 91 = .ok (.aload_n 0, 1) := by decide +kernel
theorem dX5_ofTune_92 : decode cX5_ofTune 92 = .ok (.getfield 138, 3) := by decide +kernel
theorem dX5_ofTune_95 : decode cX5_ofTune 95 = .ok (.ireturn, 1) := by decide +kernel
theorem dX5_ofTune_96 : decode cX5_ofTune 96 = .ok (.aload_n 0, 1) := by decide +kernel
theorem dX5_ofTune_97 : decode cX5_ofTune 97 = .ok (.aload_n 0, 1) := by decide +kernel
theorem dX5_ofTune_98 : decode cX5_ofTune 98 = .ok (.getfield 138, 3) := by decide +kernel
theorem dX5_ofTune_101 : decode cX5_ofTune 101 = .ok (.invokevirtual 145, 3) := by decide +kernel
theorem dX5_ofTune_104 : decode cX5_ofTune 104 = .ok (.ireturn, 1) := by decide +kernel
theorem dX5_ofTune_105 : decode cX5_ofTune 105 = .ok (.aload_n 0, 1) := by decide +kernel
theorem dX5_ofTune_106 : decode cX5_ofTune 106 = .ok (.invokevirtual 148, 3) := by decide +kernel
theorem dX5_ofTune_109 : decode cX5_ofTune 109 = .ok (.ireturn, 1) := by decide +kernel
theorem dX5_ofTune_110 : decode cX5_ofTune 110 = .ok (.aload_n 0, 1) := by decide +kernel
theorem dX5_ofTune_111 : decode cX5_ofTune 111 = .ok (.invokevirtual 152, 3) := by decide +kernel
theorem dX5_ofTune_114 : decode cX5_ofTune 114 = .ok (.ireturn, 1) := by decide +kernel
theorem dX5_ofTune_115 : decode cX5_ofTune 115 = .ok (.aload_n 0, 1) := by decide +kernel
theorem dX5_ofTune_116 : decode cX5_ofTune 116 = .ok (.getfield 16, 3) := by decide +kernel
theorem dX5_ofTune_119 : decode cX5_ofTune 119 = .ok (.iload_n 1, 1) := by decide +kernel
theorem dX5_ofTune_120 : decode cX5_ofTune 120 = .ok (.iaload, 1) := by decide +kernel
theorem dX5_ofTune_121 : decode cX5_ofTune 121 = .ok (.ireturn, 1) := by decide +kernel
theorem dX5_ofTune_122 : decode cX5_ofTune 122 = .ok (.aload_n 0, 1) := by decide +kernel
theorem dX5_ofTune_123 : decode cX5_ofTune 123 = .ok (.getfield 13, 3) := by decide +kernel
theorem dX5_ofTune_126 : decode cX5_ofTune 126 = .ok (.iload_n 1, 1) := by decide +kernel
theorem dX5_ofTune_127 : decode cX5_ofTune 127 = .ok (.iaload, 1) := by decide +kernel
theorem dX5_ofTune_128 : decode cX5_ofTune 128 = .ok (.aload_n 0, 1) := by decide +kernel
theorem dX5_ofTune_129 : decode cX5_ofTune 129 = .ok (.iload_n 1, 1) := by decide +kernel
theorem dX5_ofTune_130 : decode cX5_ofTune 130 = .ok (.invokevirtual 118, 3) := by decide +kernel
theorem dX5_ofTune_133 : decode cX5_ofTune 133 = .ok (.isub, 1) := by decide +kernel
theorem dX5_ofTune_134 : decode cX5_ofTune 134 = .ok (.ireturn, 1) := by decide +kernel
theorem dX5_tellsAlike_0 : decode cX5_tellsAlike 0 = .ok (.aload_n 0, 1) := by decide +kernel
theorem dX5_tellsAlike_1 : decode cX5_tellsAlike 1 = .ok (.aload_n 0, 1) := by decide +kernel
theorem dX5_tellsAlike_2 : decode cX5_tellsAlike 2 = .ok (.iload_n 1, 1) := by decide +kernel
theorem dX5_tellsAlike_3 : decode cX5_tellsAlike 3 = .ok (.invokevirtual 125, 3) := by decide +kernel
theorem dX5_tellsAlike_6 : decode cX5_tellsAlike 6 = .ok (.ifCond .eq 15, 3) := by decide +kernel
theorem dX5_tellsAlike_9 : decode cX5_tellsAlike 9 = .ok (.aload_n 0, 1) := by decide +kernel
theorem dX5_tellsAlike_10 : decode cX5_tellsAlike 10 = .ok (.iload_n 2, 1) := by decide +kernel
theorem dX5_tellsAlike_11 : decode cX5_tellsAlike 11 = .ok (.invokevirtual 125, 3) := by decide +kernel
theorem dX5_tellsAlike_14 : decode cX5_tellsAlike 14 = .ok (.ifCond .eq 7, 3) := by decide +kernel
theorem dX5_tellsAlike_17 : decode cX5_tellsAlike 17 = .ok (.iconst 0, 1) := by decide +kernel
theorem dX5_tellsAlike_18 : decode cX5_tellsAlike 18 = .ok (.goto 4, 3) := by decide +kernel
theorem dX5_tellsAlike_21 : decode cX5_tellsAlike 21 = .ok (.iconst 1, 1) := by decide +kernel
theorem dX5_tellsAlike_22 : decode cX5_tellsAlike 22 = .ok (.putfield 107, 3) := by decide +kernel
theorem dX5_tellsAlike_25 : decode cX5_tellsAlike 25 = .ok (.aload_n 0, 1) := by decide +kernel
theorem dX5_tellsAlike_26 : decode cX5_tellsAlike 26 = .ok (.getfield 107, 3) := by decide +kernel
theorem dX5_tellsAlike_29 : decode cX5_tellsAlike 29 = .ok (.ifCond .le 5, 3) := by decide +kernel
theorem dX5_tellsAlike_32 : decode cX5_tellsAlike 32 = .ok (.iconst 0, 1) := by decide +kernel
theorem dX5_tellsAlike_33 : decode cX5_tellsAlike 33 = .ok (.ireturn, 1) := by decide +kernel
theorem dX5_tellsAlike_34 : decode cX5_tellsAlike 34 = .ok (.aload_n 0, 1) := by decide +kernel
theorem dX5_tellsAlike_35 : decode cX5_tellsAlike 35 = .ok (.iload_n 2, 1) := by decide +kernel
theorem dX5_tellsAlike_36 : decode cX5_tellsAlike 36 = .ok (.invokevirtual 141, 3) := by decide +kernel
theorem dX5_tellsAlike_39 : decode cX5_tellsAlike 39 = .ok (.aload_n 0, 1) := by decide +kernel
theorem dX5_tellsAlike_40 : decode cX5_tellsAlike 40 = .ok (.getfield 138, 3) := by decide +kernel
theorem dX5_tellsAlike_43 : decode cX5_tellsAlike 43 = .ok (.istore_n 3, 1) := by decide +kernel
theorem dX5_tellsAlike_44 : decode cX5_tellsAlike 44 = .ok (.iconst 0, 1) := by decide +kernel
theorem dX5_tellsAlike_45 : decode cX5_tellsAlike 45 = .ok (.istore 4, 2) := by decide +kernel
theorem dX5_tellsAlike_47 : decode cX5_tellsAlike 47 = .ok (.iload 4, 2) := by decide +kernel
theorem dX5_tellsAlike_49 : decode cX5_tellsAlike 49 = .ok (.iload_n 3, 1) := by decide +kernel
theorem dX5_tellsAlike_50 : decode cX5_tellsAlike 50 = .ok (.if_icmp .ge 36, 3) := by decide +kernel
theorem dX5_tellsAlike_53 : decode cX5_tellsAlike 53 = .ok (.aload_n 0, 1) := by decide +kernel
theorem dX5_tellsAlike_54 : decode cX5_tellsAlike 54 = .ok (.getfield 41, 3) := by decide +kernel
theorem dX5_tellsAlike_57 : decode cX5_tellsAlike 57 = .ok (.iload 4, 2) := by decide +kernel
theorem dX5_tellsAlike_59 : decode cX5_tellsAlike 59 = .ok (.aload_n 0, 1) := by decide +kernel
theorem dX5_tellsAlike_60 : decode cX5_tellsAlike 60 = .ok (.getfield 19, 3) := by decide +kernel
theorem dX5_tellsAlike_63 : decode cX5_tellsAlike 63 = .ok (.aload_n 0, 1) := by decide +kernel
theorem dX5_tellsAlike_64 : decode cX5_tellsAlike 64 = .ok (.getfield 35, 3) := by decide +kernel
theorem dX5_tellsAlike_67 : decode cX5_tellsAlike 67 = .ok (.iload 4, 2) := by decide +kernel
theorem dX5_tellsAlike_69 : decode cX5_tellsAlike 69 = .ok (.iaload, 1) := by decide +kernel
theorem dX5_tellsAlike_70 : decode cX5_tellsAlike 70 = .ok (.iaload, 1) := by decide +kernel
theorem dX5_tellsAlike_71 : decode cX5_tellsAlike 71 = .ok (.iastore, 1) := by decide +kernel
theorem dX5_tellsAlike_72 : decode cX5_tellsAlike 72 = .ok (.aload_n 0, 1) := by decide +kernel
theorem dX5_tellsAlike_73 : decode cX5_tellsAlike 73 = .ok (.getfield 44, 3) := by decide +kernel
theorem dX5_tellsAlike_76 : decode cX5_tellsAlike 76 = .ok (.iload 4, 2) := by decide +kernel
theorem dX5_tellsAlike_78 : decode cX5_tellsAlike 78 = .ok (.iconst 0, 1) := by decide +kernel
theorem dX5_tellsAlike_79 : decode cX5_tellsAlike 79 = .ok (.iastore, 1) := by decide +kernel
theorem dX5_tellsAlike_80 : decode cX5_tellsAlike 80 = .ok (.iinc 4 1, 3) := by decide +kernel
theorem dX5_tellsAlike_83 : decode cX5_tellsAlike 83 = .ok (.goto (-36), 3) := by decide +kernel
theorem dX5_tellsAlike_86 : decode cX5_tellsAlike 86 = .ok (.aload_n 0, 1) := by decide +kernel
theorem dX5_tellsAlike_87 : decode cX5_tellsAlike 87 = .ok (.getfield 44, 3) := by decide +kernel
theorem dX5_tellsAlike_90 : decode cX5_tellsAlike 90 = .ok (.iload_n 3, 1) := by decide +kernel
theorem dX5_tellsAlike_91 : decode cX5_tellsAlike 91 = .ok (.iconst 0, 1) := by decide +kernel
theorem dX5_tellsAlike_92 : decode cX5_tellsAlike 92 = .ok (.iastore, 1) := by decide +kernel
theorem dX5_tellsAlike_93 : decode cX5_tellsAlike 93 = .ok (.aload_n 0, 1) := by decide +kernel
theorem dX5_tellsAlike_94 : decode cX5_tellsAlike 94 = .ok (.iload_n 1, 1) := by decide +kernel
theorem dX5_tellsAlike_95 : decode cX5_tellsAlike 95 = .ok (.invokevirtual 141, 3) := by decide +kernel
theorem dX5_tellsAlike_98 : decode cX5_tellsAlike 98 = .ok (.iconst 0, 1) := by decide +kernel
theorem dX5_tellsAlike_99 : decode cX5_tellsAlike 99 = .ok (.istore 4, 2) := by decide +kernel
theorem dX5_tellsAlike_101 : decode cX5_tellsAlike 101 = .ok (.iconst 0, 1) := by decide +kernel
theorem dX5_tellsAlike_102 : decode cX5_tellsAlike 102 = .ok (.istore 5, 2) := by decide +kernel
theorem dX5_tellsAlike_104 : decode cX5_tellsAlike 104 = .ok (.iload 5, 2) := by decide +kernel
theorem dX5_tellsAlike_106 : decode cX5_tellsAlike 106 = .ok (.aload_n 0, 1) := by decide +kernel
theorem dX5_tellsAlike_107 : decode cX5_tellsAlike 107 = .ok (.getfield 138, 3) := by decide +kernel
theorem dX5_tellsAlike_110 : decode cX5_tellsAlike 110 = .ok (.if_icmp .ge 95, 3) := by decide +kernel
theorem dX5_tellsAlike_113 : decode cX5_tellsAlike 113 = .ok (.iload_n 3, 1) := by decide +kernel
theorem dX5_tellsAlike_114 : decode cX5_tellsAlike 114 = .ok (.istore 6, 2) := by decide +kernel
theorem dX5_tellsAlike_116 : decode cX5_tellsAlike 116 = .ok (.iload 6, 2) := by decide +kernel
theorem dX5_tellsAlike_118 : decode cX5_tellsAlike 118 = .ok (.ifCond .le 81, 3) := by decide +kernel
theorem dX5_tellsAlike_121 : decode cX5_tellsAlike 121 = .ok (.aload_n 0, 1) := by decide +kernel
theorem dX5_tellsAlike_122 : decode cX5_tellsAlike 122 = .ok (.getfield 44, 3) := by decide +kernel
theorem dX5_tellsAlike_125 : decode cX5_tellsAlike 125 = .ok (.iload 6, 2) := by decide +kernel
theorem dX5_tellsAlike_127 : decode cX5_tellsAlike 127 = .ok (.aload_n 0, 1) := by decide +kernel
theorem dX5_tellsAlike_128 : decode cX5_tellsAlike 128 = .ok (.getfield 19, 3) := by decide +kernel
theorem dX5_tellsAlike_131 : decode cX5_tellsAlike 131 = .ok (.aload_n 0, 1) := by decide +kernel
theorem dX5_tellsAlike_132 : decode cX5_tellsAlike 132 = .ok (.getfield 35, 3) := by decide +kernel
theorem dX5_tellsAlike_135 : decode cX5_tellsAlike 135 = .ok (.iload 5, 2) := by decide +kernel
theorem dX5_tellsAlike_137 : decode cX5_tellsAlike 137 = .ok (.iaload, 1) := by decide +kernel
theorem dX5_tellsAlike_138 : decode cX5_tellsAlike 138 = .ok (.iaload, 1) := by decide +kernel
theorem dX5_tellsAlike_139 : decode cX5_tellsAlike 139 = .ok (.aload_n 0, 1) := by decide +kernel
theorem dX5_tellsAlike_140 : decode cX5_tellsAlike 140 = .ok (.getfield 41, 3) := by decide +kernel
theorem dX5_tellsAlike_143 : decode cX5_tellsAlike 143 = .ok (.iload 6, 2) := by decide +kernel
theorem dX5_tellsAlike_145 : decode cX5_tellsAlike 145 = .ok (.iconst 1, 1) := by decide +kernel
theorem dX5_tellsAlike_146 : decode cX5_tellsAlike 146 = .ok (.isub, 1) := by decide +kernel
theorem dX5_tellsAlike_147 : decode cX5_tellsAlike 147 = .ok (.iaload, 1) := by decide +kernel
theorem dX5_tellsAlike_148 : decode cX5_tellsAlike 148 = .ok (.if_icmp .ne 17, 3) := by decide +kernel
theorem dX5_tellsAlike_151 : decode cX5_tellsAlike 151 = .ok (.aload_n 0, 1) := by decide +kernel
theorem dX5_tellsAlike_152 : decode cX5_tellsAlike 152 = .ok (.getfield 44, 3) := by decide +kernel
theorem dX5_tellsAlike_155 : decode cX5_tellsAlike 155 = .ok (.iload 6, 2) := by decide +kernel
theorem dX5_tellsAlike_157 : decode cX5_tellsAlike 157 = .ok (.iconst 1, 1) := by decide +kernel
theorem dX5_tellsAlike_158 : decode cX5_tellsAlike 158 = .ok (.isub, 1) := by decide +kernel
theorem dX5_tellsAlike_159 : decode cX5_tellsAlike 159 = .ok (.iaload, 1) := by decide +kernel
theorem dX5_tellsAlike_160 : decode cX5_tellsAlike 160 = .ok (.iconst 1, 1) := by decide +kernel
theorem dX5_tellsAlike_161 : decode cX5_tellsAlike 161 = .ok (.iadd, 1) := by decide +kernel
theorem dX5_tellsAlike_162 : decode cX5_tellsAlike 162 = .ok (.goto 4, 3) := by decide +kernel
theorem dX5_tellsAlike_165 : decode cX5_tellsAlike 165 = .ok (.iconst 0, 1) := by decide +kernel
theorem dX5_tellsAlike_166 : decode cX5_tellsAlike 166 = .ok (.iastore, 1) := by decide +kernel
theorem dX5_tellsAlike_167 : decode cX5_tellsAlike 167 = .ok (.aload_n 0, 1) := by decide +kernel
theorem dX5_tellsAlike_168 : decode cX5_tellsAlike 168 = .ok (.getfield 44, 3) := by decide +kernel
theorem dX5_tellsAlike_171 : decode cX5_tellsAlike 171 = .ok (.iload 6, 2) := by decide +kernel
theorem dX5_tellsAlike_173 : decode cX5_tellsAlike 173 = .ok (.iaload, 1) := by decide +kernel
theorem dX5_tellsAlike_174 : decode cX5_tellsAlike 174 = .ok (.iload 4, 2) := by decide +kernel
theorem dX5_tellsAlike_176 : decode cX5_tellsAlike 176 = .ok (.if_icmp .le 13, 3) := by decide +kernel
theorem dX5_tellsAlike_179 : decode cX5_tellsAlike 179 = .ok (.aload_n 0, 1) := by decide +kernel
theorem dX5_tellsAlike_180 : decode cX5_tellsAlike 180 = .ok (.getfield 44, 3) := by decide +kernel
theorem dX5_tellsAlike_183 : decode cX5_tellsAlike 183 = .ok (.iload 6, 2) := by decide +kernel
theorem dX5_tellsAlike_185 : decode cX5_tellsAlike 185 = .ok (.iaload, 1) := by decide +kernel
theorem dX5_tellsAlike_186 : decode cX5_tellsAlike 186 = .ok (.goto 5, 3) := by decide +kernel
theorem dX5_tellsAlike_189 : decode cX5_tellsAlike 189 = .ok (.iload 4, 2) := by decide +kernel
theorem dX5_tellsAlike_191 : decode cX5_tellsAlike 191 = .ok (.istore 4, 2) := by decide +kernel
theorem dX5_tellsAlike_193 : decode cX5_tellsAlike 193 = .ok (.iinc 6 (-1), 3) := by decide +kernel
theorem dX5_tellsAlike_196 : decode cX5_tellsAlike 196 = .ok (.goto (-80), 3) := by decide +kernel
theorem dX5_tellsAlike_199 : decode cX5_tellsAlike 199 = .ok (.iinc 5 1, 3) := by decide +kernel
theorem dX5_tellsAlike_202 : decode cX5_tellsAlike 202 = .ok (.goto (-98), 3) := by decide +kernel
theorem dX5_tellsAlike_205 : decode cX5_tellsAlike 205 = .ok (.iload 4, 2) := by decide +kernel
theorem dX5_tellsAlike_207 : decode cX5_tellsAlike 207 = .ok (.ireturn, 1) := by decide +kernel
theorem dX5_alike_0 : decode cX5_alike 0 = .ok (.aload_n 0, 1) := by decide +kernel
theorem dX5_alike_1 : decode cX5_alike 1 = .ok (.iload_n 1, 1) := by decide +kernel
theorem dX5_alike_2 : decode cX5_alike 2 = .ok (.iload_n 2, 1) := by decide +kernel
theorem dX5_alike_3 : decode cX5_alike 3 = .ok (.invokevirtual 155, 3) := by decide +kernel
theorem dX5_alike_6 : decode cX5_alike 6 = .ok (.ireturn, 1) := by decide +kernel
theorem dX5_alikeAnew_0 : decode cX5_alikeAnew 0 = .ok (.aload_n 0, 1) := by decide +kernel
theorem dX5_alikeAnew_1 : decode cX5_alikeAnew 1 = .ok (.iload_n 1, 1) := by decide +kernel
theorem dX5_alikeAnew_2 : decode cX5_alikeAnew 2 = .ok (.iload_n 2, 1) := by decide +kernel
theorem dX5_alikeAnew_3 : decode cX5_alikeAnew 3 = .ok (.invokevirtual 155, 3) := by decide +kernel
theorem dX5_alikeAnew_6 : decode cX5_alikeAnew 6 = .ok (.ireturn, 1) := by decide +kernel
theorem dX5_mayFollow_0 : decode cX5_mayFollow 0 = .ok (.aload_n 0, 1) := by decide +kernel
theorem dX5_mayFollow_1 : decode cX5_mayFollow 1 = .ok (.iload_n 1, 1) := by decide +kernel
theorem dX5_mayFollow_2 : decode cX5_mayFollow 2 = .ok (.invokevirtual 141, 3) := by decide +kernel
theorem dX5_mayFollow_5 : decode cX5_mayFollow 5 = .ok (.aload_n 0, 1) := by decide +kernel
theorem dX5_mayFollow_6 : decode cX5_mayFollow 6 = .ok (.getfield 138, 3) := by decide +kernel
theorem dX5_mayFollow_9 : decode cX5_mayFollow 9 = .ok (.ifCond .eq 10, 3) := by decide +kernel
theorem dX5_mayFollow_12 : decode cX5_mayFollow 12 = .ok (.aload_n 0, 1) := by decide +kernel
theorem dX5_mayFollow_13 : decode cX5_mayFollow 13 = .ok (.getfield 159, 3) := by decide +kernel
theorem dX5_mayFollow_16 : decode cX5_mayFollow 16 = .ok (.ifCond .ne 16, 3) := by decide +kernel
theorem dX5_mayFollow_19 : decode cX5_mayFollow 19 = .ok (.aload_n 0, 1) := by decide +kernel
theorem dX5_mayFollow_20 : decode cX5_mayFollow 20 = .ok (.getfield 138, 3) := by decide +kernel
theorem dX5_mayFollow_23 : decode cX5_mayFollow 23 = .ok (.ifCond .le 7, 3) := by decide +kernel
theorem dX5_mayFollow_26 : decode cX5_mayFollow 26 = .ok (.iconst 1, 1) := by decide +kernel
theorem dX5_mayFollow_27 : decode cX5_mayFollow 27 = .ok (.goto 4, 3) := by decide +kernel
theorem dX5_mayFollow_30 : decode cX5_mayFollow 30 = .ok (.iconst 0, 1) := by decide +kernel
theorem dX5_mayFollow_31 : decode cX5_mayFollow 31 = .ok (.ireturn, 1) := by decide +kernel
theorem dX5_mayFollow_32 : decode cX5_mayFollow 32 = .ok (.aload_n 0, 1) := by decide +kernel
theorem dX5_mayFollow_33 : decode cX5_mayFollow 33 = .ok (.getfield 35, 3) := by decide +kernel
theorem dX5_mayFollow_36 : decode cX5_mayFollow 36 = .ok (.iconst 0, 1) := by decide +kernel
theorem dX5_mayFollow_37 : decode cX5_mayFollow 37 = .ok (.iaload, 1) := by decide +kernel
theorem dX5_mayFollow_38 : decode cX5_mayFollow 38 = .ok (.istore_n 3, 1) := by decide +kernel
theorem dX5_mayFollow_39 : decode cX5_mayFollow 39 = .ok (.aload_n 0, 1) := by decide +kernel
theorem dX5_mayFollow_40 : decode cX5_mayFollow 40 = .ok (.getfield 47, 3) := by decide +kernel
theorem dX5_mayFollow_43 : decode cX5_mayFollow 43 = .ok (.aload_n 0, 1) := by decide +kernel
theorem dX5_mayFollow_44 : decode cX5_mayFollow 44 = .ok (.getfield 159, 3) := by decide +kernel
theorem dX5_mayFollow_47 : decode cX5_mayFollow 47 = .ok (.iconst 1, 1) := by decide +kernel
theorem dX5_mayFollow_48 : decode cX5_mayFollow 48 = .ok (.isub, 1) := by decide +kernel
theorem dX5_mayFollow_49 : decode cX5_mayFollow 49 = .ok (.iaload, 1) := by decide +kernel
theorem dX5_mayFollow_50 : decode cX5_mayFollow 50 = .ok (.istore 4, 2) := by decide +kernel
theorem dX5_mayFollow_52 : decode cX5_mayFollow 52 = .ok (.aload_n 0, 1) := by decide +kernel
theorem dX5_mayFollow_53 : decode cX5_mayFollow 53 = .ok (.getfield 7, 3) := by decide +kernel
theorem dX5_mayFollow_56 : decode cX5_mayFollow 56 = .ok (.iload_n 1, 1) := by decide +kernel
theorem dX5_mayFollow_57 : decode cX5_mayFollow 57 = .ok (.iaload, 1) := by decide +kernel
theorem dX5_mayFollow_58 : decode cX5_mayFollow 58 = .ok (.aload_n 0, 1) := by decide +kernel
theorem dX5_mayFollow_59 : decode cX5_mayFollow 59 = .ok (.getfield 7, 3) := by decide +kernel
theorem dX5_mayFollow_62 : decode cX5_mayFollow 62 = .ok (.iload 4, 2) := by decide +kernel
theorem dX5_mayFollow_64 : decode cX5_mayFollow 64 = .ok (.iaload, 1) := by decide +kernel
theorem dX5_mayFollow_65 : decode cX5_mayFollow 65 = .ok (.if_icmp .ne 22, 3) := by decide +kernel
theorem dX5_mayFollow_68 : decode cX5_mayFollow 68 = .ok (.iload_n 2, 1) := by decide +kernel
theorem dX5_mayFollow_69 : decode cX5_mayFollow 69 = .ok (.aload_n 0, 1) := by decide +kernel
theorem dX5_mayFollow_70 : decode cX5_mayFollow 70 = .ok (.getfield 50, 3) := by decide +kernel
theorem dX5_mayFollow_73 : decode cX5_mayFollow 73 = .ok (.aload_n 0, 1) := by decide +kernel
theorem dX5_mayFollow_74 : decode cX5_mayFollow 74 = .ok (.getfield 159, 3) := by decide +kernel
theorem dX5_mayFollow_77 : decode cX5_mayFollow 77 = .ok (.iconst 1, 1) := by decide +kernel
theorem dX5_mayFollow_78 : decode cX5_mayFollow 78 = .ok (.isub, 1) := by decide +kernel
theorem dX5_mayFollow_79 : decode cX5_mayFollow 79 = .ok (.iaload, 1) := by decide +kernel
theorem dX5_mayFollow_80 : decode cX5_mayFollow 80 = .ok (.if_icmp .ge 7, 3) := by decide +kernel
theorem dX5_mayFollow_83 : decode cX5_mayFollow 83 = .ok (.iconst 1, 1) := by decide +kernel
theorem dX5_mayFollow_84 : decode cX5_mayFollow 84 = .ok (.goto 4, 3) := by decide +kernel
theorem dX5_mayFollow_87 : decode cX5_mayFollow 87 = .ok (.iconst 0, 1) := by decide +kernel
theorem dX5_mayFollow_88 : decode cX5_mayFollow 88 = .ok (.istore 5, 2) := by decide +kernel
theorem dX5_mayFollow_90 : decode cX5_mayFollow 90 = .ok (.aload_n 0, 1) := by decide +kernel
theorem dX5_mayFollow_91 : decode cX5_mayFollow 91 = .ok (.iload 4, 2) := by decide +kernel
theorem dX5_mayFollow_93 : decode cX5_mayFollow 93 = .ok (.invokevirtual 141, 3) := by decide +kernel
theorem dX5_mayFollow_96 : decode cX5_mayFollow 96 = .ok (.aload_n 0, 1) := by decide +kernel
theorem dX5_mayFollow_97 : decode cX5_mayFollow 97 = .ok (.getfield 25, 3) := by decide +kernel
theorem dX5_mayFollow_100 : decode cX5_mayFollow 100 = .ok (.iload_n 3, 1) := by decide +kernel
theorem dX5_mayFollow_101 : decode cX5_mayFollow 101 = .ok (.iaload, 1) := by decide +kernel
theorem dX5_mayFollow_102 : decode cX5_mayFollow 102 = .ok (.ifCond .ne 32, 3) := by decide +kernel
theorem dX5_mayFollow_105 : decode cX5_mayFollow 105 = .ok (.aload_n 0, 1) := by decide +kernel
theorem dX5_mayFollow_106 : decode cX5_mayFollow 106 = .ok (.getfield 19, 3) := by decide +kernel
theorem dX5_mayFollow_109 : decode cX5_mayFollow 109 = .ok (.iload_n 3, 1) := by decide +kernel
theorem dX5_mayFollow_110 : decode cX5_mayFollow 110 = .ok (.iaload, 1) := by decide +kernel
theorem dX5_mayFollow_111 : decode cX5_mayFollow 111 = .ok (.aload_n 0, 1) := by decide +kernel
theorem dX5_mayFollow_112 : decode cX5_mayFollow 112 = .ok (.getfield 19, 3) := by decide +kernel
theorem dX5_mayFollow_115 : decode cX5_mayFollow 115 = .ok (.aload_n 0, 1) := by decide +kernel
theorem dX5_mayFollow_116 : decode cX5_mayFollow 116 = .ok (.getfield 35, 3) := by decide +kernel
theorem dX5_mayFollow_119 : decode cX5_mayFollow 119 = .ok (.aload_n 0, 1) := by decide +kernel
theorem dX5_mayFollow_120 : decode cX5_mayFollow 120 = .ok (.getfield 138, 3) := by decide +kernel
theorem dX5_mayFollow_123 : decode cX5_mayFollow 123 = .ok (.iconst 1, 1) := by decide +kernel
theorem dX5_mayFollow_124 : decode cX5_mayFollow 124 = .ok (.isub, 1) := by decide +kernel
theorem dX5_mayFollow_125 : decode cX5_mayFollow 125 = .ok (.iaload, 1) := by decide +kernel
theorem dX5_mayFollow_126 : decode cX5_mayFollow 126 = .ok (.iaload, 1) := by decide +kernel
theorem dX5_mayFollow_127 : decode cX5_mayFollow 127 = .ok (.if_icmp .ne 7, 3) := by decide +kernel
theorem dX5_mayFollow_130 : decode cX5_mayFollow 130 = .ok (.iconst 1, 1) := by decide +kernel
theorem dX5_mayFollow_131 : decode cX5_mayFollow 131 = .ok (.goto 4, 3) := by decide +kernel
theorem dX5_mayFollow_134 : decode cX5_mayFollow 134 = .ok (.iconst 0, 1) := by decide +kernel
theorem dX5_mayFollow_135 : decode cX5_mayFollow 135 = .ok (.istore 6, 2) := by decide +kernel
theorem dX5_mayFollow_137 : decode cX5_mayFollow 137 = .ok (.iload 5, 2) := by decide +kernel
theorem dX5_mayFollow_139 : decode cX5_mayFollow 139 = .ok (.ifCond .ne 12, 3) := by decide +kernel
theorem dX5_mayFollow_142 : decode cX5_mayFollow 142 = .ok (.iload 6, 2) := by decide +kernel
theorem dX5_mayFollow_144 : decode cX5_mayFollow 144 = .ok (.ifCond .ne 7, 3) := by decide +kernel
theorem dX5_mayFollow_147 : decode cX5_mayFollow 147 = .ok (.iconst 1, 1) := by decide +kernel
theorem dX5_mayFollow_148 : decode cX5_mayFollow 148 = .ok (.goto 4, 3) := by decide +kernel
theorem dX5_mayFollow_151 : decode cX5_mayFollow 151 = .ok (.iconst 0, 1) := by decide +kernel
theorem dX5_mayFollow_152 : decode cX5_mayFollow 152 = .ok (.ireturn, 1) := by decide +kernel
theorem dX5_follow_0 : decode cX5_follow 0 = .ok (.aload_n 0, 1) := by decide +kernel
theorem dX5_follow_1 : decode cX5_follow 1 = .ok (.aload_n 0, 1) := by decide +kernel
theorem dX5_follow_2 : decode cX5_follow 2 = .ok (.iload_n 1, 1) := by decide +kernel
theorem dX5_follow_3 : decode cX5_follow 3 = .ok (.invokevirtual 125, 3) := by decide +kernel
theorem dX5_follow_6 : decode cX5_follow 6 = .ok (.ifCond .ne 7, 3) := by decide +kernel
theorem dX5_follow_9 : decode cX5_follow 9 = .ok (.iconst 1, 1) := by decide +kernel
theorem dX5_follow_10 : decode cX5_follow 10 = .ok (.goto 20, 3) := by decide +kernel
theorem dX5_follow_13 : decode cX5_follow 13 = .ok (.iload_n 2, 1) := by decide +kernel
theorem dX5_follow_14 : decode cX5_follow 14 = .ok (.bipush 30, 2) := by decide +kernel
theorem dX5_follow_16 : decode cX5_follow 16 = .ok (.sipush 600, 3) := by decide +kernel
theorem dX5_follow_19 : decode cX5_follow 19 = .ok (.invokestatic 114, 3) := by decide +kernel
theorem dX5_follow_22 : decode cX5_follow 22 = .ok (.ifCond .ne 7, 3) := by decide +kernel
theorem dX5_follow_25 : decode cX5_follow 25 = .ok (.iconst 2, 1) := by decide +kernel
theorem dX5_follow_26 : decode cX5_follow 26 = .ok (.goto 4, 3) := by decide +kernel
theorem dX5_follow_29 : decode cX5_follow 29 = .ok (.iconst 0, 1) := by decide +kernel
theorem dX5_follow_30 : decode cX5_follow 30 = .ok (.putfield 107, 3) := by decide +kernel
theorem dX5_follow_33 : decode cX5_follow 33 = .ok (.aload_n 0, 1) := by decide +kernel
theorem dX5_follow_34 : decode cX5_follow 34 = .ok (.getfield 107, 3) := by decide +kernel
theorem dX5_follow_37 : decode cX5_follow 37 = .ok (.ifCond .le 5, 3) := by decide +kernel
theorem dX5_follow_40 : decode cX5_follow 40 = .ok (.iconst 0, 1) := by decide +kernel
theorem dX5_follow_41 : decode cX5_follow 41 = .ok (.ireturn, 1) := by decide +kernel
theorem dX5_follow_42 : decode cX5_follow 42 = .ok (.aload_n 0, 1) := by decide +kernel
theorem dX5_follow_43 : decode cX5_follow 43 = .ok (.aload_n 0, 1) := by decide +kernel
theorem dX5_follow_44 : decode cX5_follow 44 = .ok (.getfield 159, 3) := by decide +kernel
theorem dX5_follow_47 : decode cX5_follow 47 = .ok (.bipush 8, 2) := by decide +kernel
theorem dX5_follow_49 : decode cX5_follow 49 = .ok (.if_icmp .eq 12, 3) := by decide +kernel
theorem dX5_follow_52 : decode cX5_follow 52 = .ok (.aload_n 0, 1) := by decide +kernel
theorem dX5_follow_53 : decode cX5_follow 53 = .ok (.iload_n 1, 1) := by decide +kernel
theorem dX5_follow_54 : decode cX5_follow 54 = .ok (.iload_n 2, 1) := by decide +kernel
theorem dX5_follow_55 : decode cX5_follow 55 = .ok (.invokevirtual 162, 3) := by decide +kernel
theorem dX5_follow_58 : decode cX5_follow 58 = .ok (.ifCond .ne 7, 3) := by decide +kernel
theorem dX5_follow_61 : decode cX5_follow 61 = .ok (.iconst 3, 1) := by decide +kernel
theorem dX5_follow_62 : decode cX5_follow 62 = .ok (.goto 4, 3) := by decide +kernel
theorem dX5_follow_65 : decode cX5_follow 65 = .ok (.iconst 0, 1) := by decide +kernel
theorem dX5_follow_66 : decode cX5_follow 66 = .ok (.putfield 107, 3) := by decide +kernel
theorem dX5_follow_69 : decode cX5_follow 69 = .ok (.aload_n 0, 1) := by decide +kernel
theorem dX5_follow_70 : decode cX5_follow 70 = .ok (.getfield 107, 3) := by decide +kernel
theorem dX5_follow_73 : decode cX5_follow 73 = .ok (.ifCond .le 5, 3) := by decide +kernel
theorem dX5_follow_76 : decode cX5_follow 76 = .ok (.iconst 0, 1) := by decide +kernel
theorem dX5_follow_77 : decode cX5_follow 77 = .ok (.ireturn, 1) := by decide +kernel
theorem dX5_follow_78 : decode cX5_follow 78 = .ok (.aload_n 0, 1) := by decide +kernel
theorem dX5_follow_79 : decode cX5_follow 79 = .ok (.getfield 47, 3) := by decide +kernel
theorem dX5_follow_82 : decode cX5_follow 82 = .ok (.aload_n 0, 1) := by decide +kernel
theorem dX5_follow_83 : decode cX5_follow 83 = .ok (.getfield 159, 3) := by decide +kernel
theorem dX5_follow_86 : decode cX5_follow 86 = .ok (.iload_n 1, 1) := by decide +kernel
theorem dX5_follow_87 : decode cX5_follow 87 = .ok (.iastore, 1) := by decide +kernel
theorem dX5_follow_88 : decode cX5_follow 88 = .ok (.aload_n 0, 1) := by decide +kernel
theorem dX5_follow_89 : decode cX5_follow 89 = .ok (.getfield 50, 3) := by decide +kernel
theorem dX5_follow_92 : decode cX5_follow 92 = .ok (.aload_n 0, 1) := by decide +kernel
theorem dX5_follow_93 : decode cX5_follow 93 = .ok (.getfield 159, 3) := by decide +kernel
theorem dX5_follow_96 : decode cX5_follow 96 = .ok (.iload_n 2, 1) := by decide +kernel
theorem dX5_follow_97 : decode cX5_follow 97 = .ok (.iastore, 1) := by decide +kernel
theorem dX5_follow_98 : decode cX5_follow 98 = .ok (.aload_n 0, 1) := by decide +kernel
theorem dX5_follow_99 : decode cX5_follow 99 = .ok (.dup, 1) := by decide +kernel
theorem dX5_follow_100 : decode cX5_follow 100 = .ok (.getfield 159, 3) := by decide +kernel
theorem dX5_follow_103 : decode cX5_follow 103 = .ok (.iconst 1, 1) := by decide +kernel
theorem dX5_follow_104 : decode cX5_follow 104 = .ok (.iadd, 1) := by decide +kernel
theorem dX5_follow_105 : decode cX5_follow 105 = .ok (.putfield 159, 3) := by decide +kernel
theorem dX5_follow_108 : decode cX5_follow 108 = .ok (.aload_n 0, 1) := by decide +kernel
theorem dX5_follow_109 : decode cX5_follow 109 = .ok (.getfield 159, 3) := by decide +kernel
theorem dX5_follow_112 : decode cX5_follow 112 = .ok (.ireturn, 1) := by decide +kernel
theorem dX5_drop_0 : decode cX5_drop 0 = .ok (.aload_n 0, 1) := by decide +kernel
theorem dX5_drop_1 : decode cX5_drop 1 = .ok (.aload_n 0, 1) := by decide +kernel
theorem dX5_drop_2 : decode cX5_drop 2 = .ok (.getfield 159, 3) := by decide +kernel
theorem dX5_drop_5 : decode cX5_drop 5 = .ok (.ifCond .ne 7, 3) := by decide +kernel
theorem dX5_drop_8 : decode cX5_drop 8 = .ok (.iconst 1, 1) := by decide +kernel
theorem dX5_drop_9 : decode cX5_drop 9 = .ok (.goto 4, 3) := by decide +kernel
theorem dX5_drop_12 : decode cX5_drop 12 = .ok (.iconst 0, 1) := by decide +kernel
theorem dX5_drop_13 : decode cX5_drop 13 = .ok (.putfield 107, 3) := by decide +kernel
theorem dX5_drop_16 : decode cX5_drop 16 = .ok (.aload_n 0, 1) := by decide +kernel
theorem dX5_drop_17 : decode cX5_drop 17 = .ok (.dup, 1) := by decide +kernel
theorem dX5_drop_18 : decode cX5_drop 18 = .ok (.getfield 159, 3) := by decide +kernel
theorem dX5_drop_21 : decode cX5_drop 21 = .ok (.aload_n 0, 1) := by decide +kernel
theorem dX5_drop_22 : decode cX5_drop 22 = .ok (.getfield 107, 3) := by decide +kernel
theorem dX5_drop_25 : decode cX5_drop 25 = .ok (.ifCond .le 7, 3) := by decide +kernel
theorem dX5_drop_28 : decode cX5_drop 28 = .ok (.iconst 0, 1) := by decide +kernel
theorem dX5_drop_29 : decode cX5_drop 29 = .ok (.goto 4, 3) := by decide +kernel
theorem dX5_drop_32 : decode cX5_drop 32 = .ok (.iconst 1, 1) := by decide +kernel
theorem dX5_drop_33 : decode cX5_drop 33 = .ok (.isub, 1) := by decide +kernel
theorem dX5_drop_34 : decode cX5_drop 34 = .ok (.putfield 159, 3) := by decide +kernel
theorem dX5_drop_37 : decode cX5_drop 37 = .ok (.aload_n 0, 1) := by decide +kernel
theorem dX5_drop_38 : decode cX5_drop 38 = .ok (.getfield 107, 3) := by decide +kernel
theorem dX5_drop_41 : decode cX5_drop 41 = .ok (.ifCond .le 7, 3) := by decide +kernel
theorem dX5_drop_44 : decode cX5_drop 44 = .ok (.iconst 0, 1) := by decide +kernel
theorem dX5_drop_45 : decode cX5_drop 45 = .ok (.goto 12, 3) := by decide +kernel
theorem dX5_drop_48 : decode cX5_drop 48 = .ok (.aload_n 0, 1) := by decide +kernel
theorem dX5_drop_49 : decode cX5_drop 49 = .ok (.getfield 47, 3) := by decide +kernel
theorem dX5_drop_52 : decode cX5_drop 52 = .ok (.aload_n 0, 1) := by decide +kernel
theorem dX5_drop_53 : decode cX5_drop 53 = .ok (.getfield 159, 3) := by decide +kernel
theorem dX5_drop_56 : decode cX5_drop 56 = .ok (.iaload, 1) := by decide +kernel
theorem dX5_drop_57 : decode cX5_drop 57 = .ok (.ireturn, 1) := by decide +kernel
theorem dX5_time_0 : decode cX5_time 0 = .ok (.aload_n 0, 1) := by decide +kernel
theorem dX5_time_1 : decode cX5_time 1 = .ok (.iconst 0, 1) := by decide +kernel
theorem dX5_time_2 : decode cX5_time 2 = .ok (.putfield 107, 3) := by decide +kernel
theorem dX5_time_5 : decode cX5_time 5 = .ok (.lconst 0, 1) := by decide +kernel
theorem dX5_time_6 : decode cX5_time 6 = .ok (.lstore_n 1, 1) := by decide +kernel
theorem dX5_time_7 : decode cX5_time 7 = .ok (.iconst 0, 1) := by decide +kernel
theorem dX5_time_8 : decode cX5_time 8 = .ok (.istore_n 3, 1) := by decide +kernel
theorem dX5_time_9 : decode cX5_time 9 = .ok (.iload_n 3, 1) := by decide +kernel
theorem dX5_time_10 : decode cX5_time 10 = .ok (.aload_n 0, 1) := by decide +kernel
theorem dX5_time_11 : decode cX5_time 11 = .ok (.getfield 159, 3) := by decide +kernel
theorem dX5_time_14 : decode cX5_time 14 = .ok (.if_icmp .ge 43, 3) := by decide +kernel
theorem dX5_time_17 : decode cX5_time 17 = .ok (.aload_n 0, 1) := by decide +kernel
theorem dX5_time_18 : decode cX5_time 18 = .ok (.aload_n 0, 1) := by decide +kernel
theorem dX5_time_19 : decode cX5_time 19 = .ok (.getfield 47, 3) := by decide +kernel
theorem dX5_time_22 : decode cX5_time 22 = .ok (.iload_n 3, 1) := by decide +kernel
theorem dX5_time_23 : decode cX5_time 23 = .ok (.iaload, 1) := by decide +kernel
theorem dX5_time_24 : decode cX5_time 24 = .ok (.invokevirtual 141, 3) := by decide +kernel
theorem dX5_time_27 : decode cX5_time 27 = .ok (.lload_n 1, 1) := by decide +kernel
theorem dX5_time_28 : decode cX5_time 28 = .ok (.ldc2_w 166, 3) := by decide +kernel
theorem dX5_time_31 : decode cX5_time 31 = .ok (.aload_n 0, 1) := by decide +kernel
theorem dX5_time_32 : decode cX5_time 32 = .ok (.aload_n 0, 1) := by decide +kernel
theorem dX5_time_33 : decode cX5_time 33 = .ok (.getfield 138, 3) := by decide +kernel
theorem dX5_time_36 : decode cX5_time 36 = .ok (.invokevirtual 145, 3) := by decide +kernel
theorem dX5_time_39 : decode cX5_time 39 = .ok (.i2l, 1) := by decide +kernel
theorem dX5_time_40 : decode cX5_time 40 = .ok (.lmul, 1) := by decide +kernel
theorem dX5_time_41 : decode cX5_time 41 = .ok (.aload_n 0, 1) := by decide +kernel
theorem dX5_time_42 : decode cX5_time 42 = .ok (.getfield 50, 3) := by decide +kernel
theorem dX5_time_45 : decode cX5_time 45 = .ok (.iload_n 3, 1) := by decide +kernel
theorem dX5_time_46 : decode cX5_time 46 = .ok (.iaload, 1) := by decide +kernel
theorem dX5_time_47 : decode cX5_time 47 = .ok (.i2l, 1) := by decide +kernel
theorem dX5_time_48 : decode cX5_time 48 = .ok (.ldiv, 1) := by decide +kernel
theorem dX5_time_49 : decode cX5_time 49 = .ok (.ladd, 1) := by decide +kernel
theorem dX5_time_50 : decode cX5_time 50 = .ok (.lstore_n 1, 1) := by decide +kernel
theorem dX5_time_51 : decode cX5_time 51 = .ok (.iinc 3 1, 3) := by decide +kernel
theorem dX5_time_54 : decode cX5_time 54 = .ok (.goto (-45), 3) := by decide +kernel
theorem dX5_time_57 : decode cX5_time 57 = .ok (.lload_n 1, 1) := by decide +kernel
theorem dX5_time_58 : decode cX5_time 58 = .ok (.lreturn, 1) := by decide +kernel
theorem dX5_isPiper_0 : decode cX5_isPiper 0 = .ok (.iload_n 1, 1) := by decide +kernel
theorem dX5_isPiper_1 : decode cX5_isPiper 1 = .ok (.iconst 0, 1) := by decide +kernel
theorem dX5_isPiper_2 : decode cX5_isPiper 2 = .ok (.aload_n 0, 1) := by decide +kernel
theorem dX5_isPiper_3 : decode cX5_isPiper 3 = .ok (.getfield 168, 3) := by decide +kernel
theorem dX5_isPiper_6 : decode cX5_isPiper 6 = .ok (.iconst 1, 1) := by decide +kernel
theorem dX5_isPiper_7 : decode cX5_isPiper 7 = .ok (.isub, 1) := by decide +kernel
theorem dX5_isPiper_8 : decode cX5_isPiper 8 = .ok (.invokestatic 114, 3) := by decide +kernel
theorem dX5_isPiper_11 : decode cX5_isPiper 11 = .ok (.ireturn, 1) := by decide +kernel
theorem dX5_piper_0 : decode cX5_piper 0 = .ok (.aload_n 0, 1) := by decide +kernel
theorem dX5_piper_1 : decode cX5_piper 1 = .ok (.iload_n 1, 1) := by decide +kernel
theorem dX5_piper_2 : decode cX5_piper 2 = .ok (.bipush (-100), 2) := by decide +kernel
theorem dX5_piper_4 : decode cX5_piper 4 = .ok (.bipush 100, 2) := by decide +kernel
theorem dX5_piper_6 : decode cX5_piper 6 = .ok (.invokestatic 114, 3) := by decide +kernel
theorem dX5_piper_9 : decode cX5_piper 9 = .ok (.ifCond .eq 24, 3) := by decide +kernel
theorem dX5_piper_12 : decode cX5_piper 12 = .ok (.iload_n 2, 1) := by decide +kernel
theorem dX5_piper_13 : decode cX5_piper 13 = .ok (.bipush 10, 2) := by decide +kernel
theorem dX5_piper_15 : decode cX5_piper 15 = .ok (.bipush 40, 2) := by decide +kernel
theorem dX5_piper_17 : decode cX5_piper 17 = .ok (.invokestatic 114, 3) := by decide +kernel
theorem dX5_piper_20 : decode cX5_piper 20 = .ok (.ifCond .eq 13, 3) := by decide +kernel
theorem dX5_piper_23 : decode cX5_piper 23 = .ok (.iload_n 3, 1) := by decide +kernel
theorem dX5_piper_24 : decode cX5_piper 24 = .ok (.iconst 0, 1) := by decide +kernel
theorem dX5_piper_25 : decode cX5_piper 25 = .ok (.bipush 9, 2) := by decide +kernel
theorem dX5_piper_27 : decode cX5_piper 27 = .ok (.invokestatic 114, 3) := by decide +kernel
theorem dX5_piper_30 : decode cX5_piper 30 = .ok (.ifCond .ne 7, 3) := by decide +kernel
theorem dX5_piper_33 : decode cX5_piper 33 = .ok (.iconst 1, 1) := by decide +kernel
theorem dX5_piper_34 : decode cX5_piper 34 = .ok (.goto 17, 3) := by decide +kernel
theorem dX5_piper_37 : decode cX5_piper 37 = .ok (.aload_n 0, 1) := by decide +kernel
theorem dX5_piper_38 : decode cX5_piper 38 = .ok (.getfield 168, 3) := by decide +kernel
theorem dX5_piper_41 : decode cX5_piper 41 = .ok (.bipush 8, 2) := by decide +kernel
theorem dX5_piper_43 : decode cX5_piper 43 = .ok (.if_icmp .ne 7, 3) := by decide +kernel
theorem dX5_piper_46 : decode cX5_piper 46 = .ok (.iconst 2, 1) := by decide +kernel
theorem dX5_piper_47 : decode cX5_piper 47 = .ok (.goto 4, 3) := by decide +kernel
theorem dX5_piper_50 : decode cX5_piper 50 = .ok (.iconst 0, 1) := by decide +kernel
theorem dX5_piper_51 : decode cX5_piper 51 = .ok (.putfield 107, 3) := by decide +kernel
theorem dX5_piper_54 : decode cX5_piper 54 = .ok (.aload_n 0, 1) := by decide +kernel
theorem dX5_piper_55 : decode cX5_piper 55 = .ok (.getfield 107, 3) := by decide +kernel
theorem dX5_piper_58 : decode cX5_piper 58 = .ok (.ifCond .le 5, 3) := by decide +kernel
theorem dX5_piper_61 : decode cX5_piper 61 = .ok (.iconst 0, 1) := by decide +kernel
theorem dX5_piper_62 : decode cX5_piper 62 = .ok (.ireturn, 1) := by decide +kernel
theorem dX5_piper_63 : decode cX5_piper 63 = .ok (.aload_n 0, 1) := by decide +kernel
theorem dX5_piper_64 : decode cX5_piper 64 = .ok (.getfield 53, 3) := by decide +kernel
theorem dX5_piper_67 : decode cX5_piper 67 = .ok (.aload_n 0, 1) := by decide +kernel
theorem dX5_piper_68 : decode cX5_piper 68 = .ok (.getfield 168, 3) := by decide +kernel
theorem dX5_piper_71 : decode cX5_piper 71 = .ok (.iload_n 1, 1) := by decide +kernel
theorem dX5_piper_72 : decode cX5_piper 72 = .ok (.iastore, 1) := by decide +kernel
theorem dX5_piper_73 : decode cX5_piper 73 = .ok (.aload_n 0, 1) := by decide +kernel
theorem dX5_piper_74 : decode cX5_piper 74 = .ok (.getfield 56, 3) := by decide +kernel
theorem dX5_piper_77 : decode cX5_piper 77 = .ok (.aload_n 0, 1) := by decide +kernel
theorem dX5_piper_78 : decode cX5_piper 78 = .ok (.getfield 168, 3) := by decide +kernel
theorem dX5_piper_81 : decode cX5_piper 81 = .ok (.iload_n 2, 1) := by decide +kernel
theorem dX5_piper_82 : decode cX5_piper 82 = .ok (.iastore, 1) := by decide +kernel
theorem dX5_piper_83 : decode cX5_piper 83 = .ok (.aload_n 0, 1) := by decide +kernel
theorem dX5_piper_84 : decode cX5_piper 84 = .ok (.getfield 59, 3) := by decide +kernel
theorem dX5_piper_87 : decode cX5_piper 87 = .ok (.aload_n 0, 1) := by decide +kernel
theorem dX5_piper_88 : decode cX5_piper 88 = .ok (.getfield 168, 3) := by decide +kernel
theorem dX5_piper_91 : decode cX5_piper 91 = .ok (.iload_n 3, 1) := by decide +kernel
theorem dX5_piper_92 : decode cX5_piper 92 = .ok (.iastore, 1) := by decide +kernel
theorem dX5_piper_93 : decode cX5_piper 93 = .ok (.aload_n 0, 1) := by decide +kernel
theorem dX5_piper_94 : decode cX5_piper 94 = .ok (.dup, 1) := by decide +kernel
theorem dX5_piper_95 : decode cX5_piper 95 = .ok (.getfield 168, 3) := by decide +kernel
theorem dX5_piper_98 : decode cX5_piper 98 = .ok (.iconst 1, 1) := by decide +kernel
theorem dX5_piper_99 : decode cX5_piper 99 = .ok (.iadd, 1) := by decide +kernel
theorem dX5_piper_100 : decode cX5_piper 100 = .ok (.putfield 168, 3) := by decide +kernel
theorem dX5_piper_103 : decode cX5_piper 103 = .ok (.aload_n 0, 1) := by decide +kernel
theorem dX5_piper_104 : decode cX5_piper 104 = .ok (.getfield 168, 3) := by decide +kernel
theorem dX5_piper_107 : decode cX5_piper 107 = .ok (.iconst 1, 1) := by decide +kernel
theorem dX5_piper_108 : decode cX5_piper 108 = .ok (.isub, 1) := by decide +kernel
theorem dX5_piper_109 : decode cX5_piper 109 = .ok (.ireturn, 1) := by decide +kernel
theorem dX5_seat_0 : decode cX5_seat 0 = .ok (.aload_n 0, 1) := by decide +kernel
theorem dX5_seat_1 : decode cX5_seat 1 = .ok (.aload_n 0, 1) := by decide +kernel
theorem dX5_seat_2 : decode cX5_seat 2 = .ok (.iload_n 1, 1) := by decide +kernel
theorem dX5_seat_3 : decode cX5_seat 3 = .ok (.invokevirtual 171, 3) := by decide +kernel
theorem dX5_seat_6 : decode cX5_seat 6 = .ok (.ifCond .ne 7, 3) := by decide +kernel
theorem dX5_seat_9 : decode cX5_seat 9 = .ok (.iconst 1, 1) := by decide +kernel
theorem dX5_seat_10 : decode cX5_seat 10 = .ok (.goto 37, 3) := by decide +kernel
theorem dX5_seat_13 : decode cX5_seat 13 = .ok (.iload_n 2, 1) := by decide +kernel
theorem dX5_seat_14 : decode cX5_seat 14 = .ok (.bipush (-100), 2) := by decide +kernel
theorem dX5_seat_16 : decode cX5_seat 16 = .ok (.bipush 100, 2) := by decide +kernel
theorem dX5_seat_18 : decode cX5_seat 18 = .ok (.invokestatic 114, 3) := by decide +kernel
theorem dX5_seat_21 : decode cX5_seat 21 = .ok (.ifCond .eq 21, 3) := by decide +kernel
theorem dX5_seat_24 : decode cX5_seat 24 = .ok (.aload_n 0, 1) := by decide +kernel
theorem dX5_seat_25 : decode cX5_seat 25 = .ok (.getfield 62, 3) := by decide +kernel
theorem dX5_seat_28 : decode cX5_seat 28 = .ok (.iload_n 1, 1) := by decide +kernel
theorem dX5_seat_29 : decode cX5_seat 29 = .ok (.iaload, 1) := by decide +kernel
theorem dX5_seat_30 : decode cX5_seat 30 = .ok (.iload_n 2, 1) := by decide +kernel
theorem dX5_seat_31 : decode cX5_seat 31 = .ok (.iadd, 1) := by decide +kernel
theorem dX5_seat_32 : decode cX5_seat 32 = .ok (.bipush (-100), 2) := by decide +kernel
theorem dX5_seat_34 : decode cX5_seat 34 = .ok (.bipush 100, 2) := by decide +kernel
theorem dX5_seat_36 : decode cX5_seat 36 = .ok (.invokestatic 114, 3) := by decide +kernel
theorem dX5_seat_39 : decode cX5_seat 39 = .ok (.ifCond .ne 7, 3) := by decide +kernel
theorem dX5_seat_42 : decode cX5_seat 42 = .ok (.iconst 2, 1) := by decide +kernel
theorem dX5_seat_43 : decode cX5_seat 43 = .ok (.goto 4, 3) := by decide +kernel
theorem dX5_seat_46 : decode cX5_seat 46 = .ok (.iconst 0, 1) := by decide +kernel
theorem dX5_seat_47 : decode cX5_seat 47 = .ok (.putfield 107, 3) := by decide +kernel
theorem dX5_seat_50 : decode cX5_seat 50 = .ok (.aload_n 0, 1) := by decide +kernel
theorem dX5_seat_51 : decode cX5_seat 51 = .ok (.getfield 107, 3) := by decide +kernel
theorem dX5_seat_54 : decode cX5_seat 54 = .ok (.ifCond .le 5, 3) := by decide +kernel
theorem dX5_seat_57 : decode cX5_seat 57 = .ok (.iconst 0, 1) := by decide +kernel
theorem dX5_seat_58 : decode cX5_seat 58 = .ok (.ireturn, 1) := by decide +kernel
theorem dX5_seat_59 : decode cX5_seat 59 = .ok (.aload_n 0, 1) := by decide +kernel
theorem dX5_seat_60 : decode cX5_seat 60 = .ok (.getfield 62, 3) := by decide +kernel
theorem dX5_seat_63 : decode cX5_seat 63 = .ok (.iload_n 1, 1) := by decide +kernel
theorem dX5_seat_64 : decode cX5_seat 64 = .ok (.dup2, 1) := by decide +kernel
theorem dX5_seat_65 : decode cX5_seat 65 = .ok (.iaload, 1) := by decide +kernel
theorem dX5_seat_66 : decode cX5_seat 66 = .ok (.iload_n 2, 1) := by decide +kernel
theorem dX5_seat_67 : decode cX5_seat 67 = .ok (.iadd, 1) := by decide +kernel
theorem dX5_seat_68 : decode cX5_seat 68 = .ok (.iastore, 1) := by decide +kernel
theorem dX5_seat_69 : decode cX5_seat 69 = .ok (.aload_n 0, 1) := by decide +kernel
theorem dX5_seat_70 : decode cX5_seat 70 = .ok (.getfield 62, 3) := by decide +kernel
theorem dX5_seat_73 : decode cX5_seat 73 = .ok (.iload_n 1, 1) := by decide +kernel
theorem dX5_seat_74 : decode cX5_seat 74 = .ok (.iaload, 1) := by decide +kernel
theorem dX5_seat_75 : decode cX5_seat 75 = .ok (.ireturn, 1) := by decide +kernel
theorem dX5_rest_0 : decode cX5_rest 0 = .ok (.aload_n 0, 1) := by decide +kernel
theorem dX5_rest_1 : decode cX5_rest 1 = .ok (.aload_n 0, 1) := by decide +kernel
theorem dX5_rest_2 : decode cX5_rest 2 = .ok (.iload_n 1, 1) := by decide +kernel
theorem dX5_rest_3 : decode cX5_rest 3 = .ok (.invokevirtual 171, 3) := by decide +kernel
theorem dX5_rest_6 : decode cX5_rest 6 = .ok (.ifCond .eq 7, 3) := by decide +kernel
theorem dX5_rest_9 : decode cX5_rest 9 = .ok (.iconst 0, 1) := by decide +kernel
theorem dX5_rest_10 : decode cX5_rest 10 = .ok (.goto 4, 3) := by decide +kernel
theorem dX5_rest_13 : decode cX5_rest 13 = .ok (.iconst 1, 1) := by decide +kernel
theorem dX5_rest_14 : decode cX5_rest 14 = .ok (.putfield 107, 3) := by decide +kernel
theorem dX5_rest_17 : decode cX5_rest 17 = .ok (.aload_n 0, 1) := by decide +kernel
theorem dX5_rest_18 : decode cX5_rest 18 = .ok (.getfield 107, 3) := by decide +kernel
theorem dX5_rest_21 : decode cX5_rest 21 = .ok (.ifCond .le 5, 3) := by decide +kernel
theorem dX5_rest_24 : decode cX5_rest 24 = .ok (.iconst 0, 1) := by decide +kernel
theorem dX5_rest_25 : decode cX5_rest 25 = .ok (.ireturn, 1) := by decide +kernel
theorem dX5_rest_26 : decode cX5_rest 26 = .ok (.aload_n 0, 1) := by decide +kernel
theorem dX5_rest_27 : decode cX5_rest 27 = .ok (.getfield 71, 3) := by decide +kernel
theorem dX5_rest_30 : decode cX5_rest 30 = .ok (.iload_n 1, 1) := by decide +kernel
theorem dX5_rest_31 : decode cX5_rest 31 = .ok (.baload, 1) := by decide +kernel
theorem dX5_rest_32 : decode cX5_rest 32 = .ok (.istore_n 3, 1) := by decide +kernel
theorem dX5_rest_33 : decode cX5_rest 33 = .ok (.aload_n 0, 1) := by decide +kernel
theorem dX5_rest_34 : decode cX5_rest 34 = .ok (.getfield 71, 3) := by decide +kernel
theorem dX5_rest_37 : decode cX5_rest 37 = .ok (.iload_n 1, 1) := by decide +kernel
theorem dX5_rest_38 : decode cX5_rest 38 = .ok (.iload_n 2, 1) := by decide +kernel
theorem dX5_rest_39 : decode cX5_rest 39 = .ok (.bastore, 1) := by decide +kernel
theorem dX5_rest_40 : decode cX5_rest 40 = .ok (.iload_n 3, 1) := by decide +kernel
theorem dX5_rest_41 : decode cX5_rest 41 = .ok (.ireturn, 1) := by decide +kernel
theorem dX5_pitch_0 : decode cX5_pitch 0 = .ok (.aload_n 0, 1) := by decide +kernel
theorem dX5_pitch_1 : decode cX5_pitch 1 = .ok (.getfield 53, 3) := by decide +kernel
theorem dX5_pitch_4 : decode cX5_pitch 4 = .ok (.iload_n 1, 1) := by decide +kernel
theorem dX5_pitch_5 : decode cX5_pitch 5 = .ok (.iaload, 1) := by decide +kernel
theorem dX5_pitch_6 : decode cX5_pitch 6 = .ok (.aload_n 0, 1) := by decide +kernel
theorem dX5_pitch_7 : decode cX5_pitch 7 = .ok (.getfield 62, 3) := by decide +kernel
theorem dX5_pitch_10 : decode cX5_pitch 10 = .ok (.iload_n 1, 1) := by decide +kernel
theorem dX5_pitch_11 : decode cX5_pitch 11 = .ok (.iaload, 1) := by decide +kernel
theorem dX5_pitch_12 : decode cX5_pitch 12 = .ok (.iadd, 1) := by decide +kernel
theorem dX5_pitch_13 : decode cX5_pitch 13 = .ok (.iconst 2, 1) := by decide +kernel
theorem dX5_pitch_14 : decode cX5_pitch 14 = .ok (.aload_n 0, 1) := by decide +kernel
theorem dX5_pitch_15 : decode cX5_pitch 15 = .ok (.getfield 56, 3) := by decide +kernel
theorem dX5_pitch_18 : decode cX5_pitch 18 = .ok (.iload_n 1, 1) := by decide +kernel
theorem dX5_pitch_19 : decode cX5_pitch 19 = .ok (.iaload, 1) := by decide +kernel
theorem dX5_pitch_20 : decode cX5_pitch 20 = .ok (.imul, 1) := by decide +kernel
theorem dX5_pitch_21 : decode cX5_pitch 21 = .ok (.iadd, 1) := by decide +kernel
theorem dX5_pitch_22 : decode cX5_pitch 22 = .ok (.iconst 3, 1) := by decide +kernel
theorem dX5_pitch_23 : decode cX5_pitch 23 = .ok (.aload_n 0, 1) := by decide +kernel
theorem dX5_pitch_24 : decode cX5_pitch 24 = .ok (.getfield 65, 3) := by decide +kernel
theorem dX5_pitch_27 : decode cX5_pitch 27 = .ok (.iload_n 1, 1) := by decide +kernel
theorem dX5_pitch_28 : decode cX5_pitch 28 = .ok (.iaload, 1) := by decide +kernel
theorem dX5_pitch_29 : decode cX5_pitch 29 = .ok (.imul, 1) := by decide +kernel
theorem dX5_pitch_30 : decode cX5_pitch 30 = .ok (.iadd, 1) := by decide +kernel
theorem dX5_pitch_31 : decode cX5_pitch 31 = .ok (.aload_n 0, 1) := by decide +kernel
theorem dX5_pitch_32 : decode cX5_pitch 32 = .ok (.getfield 68, 3) := by decide +kernel
theorem dX5_pitch_35 : decode cX5_pitch 35 = .ok (.iload_n 1, 1) := by decide +kernel
theorem dX5_pitch_36 : decode cX5_pitch 36 = .ok (.iaload, 1) := by decide +kernel
theorem dX5_pitch_37 : decode cX5_pitch 37 = .ok (.isub, 1) := by decide +kernel
theorem dX5_pitch_38 : decode cX5_pitch 38 = .ok (.ireturn, 1) := by decide +kernel
theorem dX5_spreadBut_0 : decode cX5_spreadBut 0 = .ok (.ldc 174, 2) := by decide +kernel
theorem dX5_spreadBut_2 : decode cX5_spreadBut 2 = .ok (.istore_n 2, 1) := by decide +kernel
theorem dX5_spreadBut_3 : decode cX5_spreadBut 3 = .ok (.ldc 175, 2) := by decide +kernel
theorem dX5_spreadBut_5 : decode cX5_spreadBut 5 = .ok (.istore_n 3, 1) := by decide +kernel
theorem dX5_spreadBut_6 : decode cX5_spreadBut 6 = .ok (.iconst 0, 1) := by decide +kernel
theorem dX5_spreadBut_7 : decode cX5_spreadBut 7 = .ok (.istore 4, 2) := by decide +kernel
theorem dX5_spreadBut_9 : decode cX5_spreadBut 9 = .ok (.iload 4, 2) := by decide +kernel
theorem dX5_spreadBut_11 : decode cX5_spreadBut 11 = .ok (.aload_n 0, 1) := by decide +kernel
theorem dX5_spreadBut_12 : decode cX5_spreadBut 12 = .ok (.getfield 168, 3) := by decide +kernel
theorem dX5_spreadBut_15 : decode cX5_spreadBut 15 = .ok (.if_icmp .ge 67, 3) := by decide +kernel
theorem dX5_spreadBut_18 : decode cX5_spreadBut 18 = .ok (.aload_n 0, 1) := by decide +kernel
theorem dX5_spreadBut_19 : decode cX5_spreadBut 19 = .ok (.getfield 71, 3) := by decide +kernel
theorem dX5_spreadBut_22 : decode cX5_spreadBut 22 = .ok (.iload 4, 2) := by decide +kernel
theorem dX5_spreadBut_24 : decode cX5_spreadBut 24 = .ok (.baload, 1) := by decide +kernel
theorem dX5_spreadBut_25 : decode cX5_spreadBut 25 = .ok (.ifCond .ne 51, 3) := by decide +kernel
theorem dX5_spreadBut_28 : decode cX5_spreadBut 28 = .ok (.iload 4, 2) := by decide +kernel
theorem dX5_spreadBut_30 : decode cX5_spreadBut 30 = .ok (.iload_n 1, 1) := by decide +kernel
theorem dX5_spreadBut_31 : decode cX5_spreadBut 31 = .ok (.if_icmp .eq 45, 3) := by decide +kernel
theorem dX5_spreadBut_34 : decode cX5_spreadBut 34 = .ok (.aload_n 0, 1) := by decide +kernel
theorem dX5_spreadBut_35 : decode cX5_spreadBut 35 = .ok (.iload 4, 2) := by decide +kernel
theorem dX5_spreadBut_37 : decode cX5_spreadBut 37 = .ok (.invokevirtual 176, 3) := by decide +kernel
theorem dX5_spreadBut_40 : decode cX5_spreadBut 40 = .ok (.iload_n 2, 1) := by decide +kernel
theorem dX5_spreadBut_41 : decode cX5_spreadBut 41 = .ok (.if_icmp .ge 12, 3) := by decide +kernel
theorem dX5_spreadBut_44 : decode cX5_spreadBut 44 = .ok (.aload_n 0, 1) := by decide +kernel
theorem dX5_spreadBut_45 : decode cX5_spreadBut 45 = .ok (.iload 4, 2) := by decide +kernel
theorem dX5_spreadBut_47 : decode cX5_spreadBut 47 = .ok (.invokevirtual 176, 3) := by decide +kernel
theorem dX5_spreadBut_50 : decode cX5_spreadBut 50 = .ok (.goto 4, 3) := by decide +kernel
theorem dX5_spreadBut_53 : decode cX5_spreadBut 53 = .ok (.iload_n 2, 1) := by decide +kernel
theorem dX5_spreadBut_54 : decode cX5_spreadBut 54 = .ok (.istore_n 2, 1) := by decide +kernel
theorem dX5_spreadBut_55 : decode cX5_spreadBut 55 = .ok (.aload_n 0, 1) := by decide +kernel
theorem dX5_spreadBut_56 : decode cX5_spreadBut 56 = .ok (.iload 4, 2) := by decide +kernel
theorem dX5_spreadBut_58 : decode cX5_spreadBut 58 = .ok (.invokevirtual 176, 3) := by decide +kernel
theorem dX5_spreadBut_61 : decode cX5_spreadBut 61 = .ok (.iload_n 3, 1) := by decide +kernel
theorem dX5_spreadBut_62 : decode cX5_spreadBut 62 = .ok (.if_icmp .le 12, 3) := by decide +kernel
theorem dX5_spreadBut_65 : decode cX5_spreadBut 65 = .ok (.aload_n 0, 1) := by decide +kernel
theorem dX5_spreadBut_66 : decode cX5_spreadBut 66 = .ok (.iload 4, 2) := by decide +kernel
theorem dX5_spreadBut_68 : decode cX5_spreadBut 68 = .ok (.invokevirtual 176, 3) := by decide +kernel
theorem dX5_spreadBut_71 : decode cX5_spreadBut 71 = .ok (.goto 4, 3) := by decide +kernel
theorem dX5_spreadBut_74 : decode cX5_spreadBut 74 = .ok (.iload_n 3, 1) := by decide +kernel
theorem dX5_spreadBut_75 : decode cX5_spreadBut 75 = .ok (.istore_n 3, 1) := by decide +kernel
theorem dX5_spreadBut_76 : decode cX5_spreadBut 76 = .ok (.iinc 4 1, 3) := by decide +kernel
theorem dX5_spreadBut_79 : decode cX5_spreadBut 79 = .ok (.goto (-70), 3) := by decide +kernel
theorem dX5_spreadBut_82 : decode cX5_spreadBut 82 = .ok (.iload_n 3, 1) := by decide +kernel
theorem dX5_spreadBut_83 : decode cX5_spreadBut 83 = .ok (.iload_n 2, 1) := by decide +kernel
theorem dX5_spreadBut_84 : decode cX5_spreadBut 84 = .ok (.if_icmp .ge 7, 3) := by decide +kernel
theorem dX5_spreadBut_87 : decode cX5_spreadBut 87 = .ok (.iconst 0, 1) := by decide +kernel
theorem dX5_spreadBut_88 : decode cX5_spreadBut 88 = .ok (.goto 6, 3) := by decide +kernel
theorem dX5_spreadBut_91 : decode cX5_spreadBut 91 = .ok (.iload_n 3, 1) := by decide +kernel
theorem dX5_spreadBut_92 : decode cX5_spreadBut 92 = .ok (.iload_n 2, 1) := by decide +kernel
theorem dX5_spreadBut_93 : decode cX5_spreadBut 93 = .ok (.isub, 1) := by decide +kernel
theorem dX5_spreadBut_94 : decode cX5_spreadBut 94 = .ok (.ireturn, 1) := by decide +kernel
theorem dX5_goesOn_0 : decode cX5_goesOn 0 = .ok (.aload_n 0, 1) := by decide +kernel
theorem dX5_goesOn_1 : decode cX5_goesOn 1 = .ok (.getfield 71, 3) := by decide +kernel
theorem dX5_goesOn_4 : decode cX5_goesOn 4 = .ok (.iload_n 1, 1) := by decide +kernel
theorem dX5_goesOn_5 : decode cX5_goesOn 5 = .ok (.baload, 1) := by decide +kernel
theorem dX5_goesOn_6 : decode cX5_goesOn 6 = .ok (.ifCond .eq 57, 3) := by decide +kernel
theorem dX5_goesOn_9 : decode cX5_goesOn 9 = .ok (.aload_n 0, 1) := by decide +kernel
theorem dX5_goesOn_10 : decode cX5_goesOn 10 = .ok (.getfield 68, 3) := by decide +kernel
theorem dX5_goesOn_13 : decode cX5_goesOn 13 = .ok (.iload_n 1, 1) := by decide +kernel
theorem dX5_goesOn_14 : decode cX5_goesOn 14 = .ok (.aload_n 0, 1) := by decide +kernel
theorem dX5_goesOn_15 : decode cX5_goesOn 15 = .ok (.getfield 68, 3) := by decide +kernel
theorem dX5_goesOn_18 : decode cX5_goesOn 18 = .ok (.iload_n 1, 1) := by decide +kernel
theorem dX5_goesOn_19 : decode cX5_goesOn 19 = .ok (.iaload, 1) := by decide +kernel
theorem dX5_goesOn_20 : decode cX5_goesOn 20 = .ok (.iconst 2, 1) := by decide +kernel
theorem dX5_goesOn_21 : decode cX5_goesOn 21 = .ok (.if_icmp .ge 7, 3) := by decide +kernel
theorem dX5_goesOn_24 : decode cX5_goesOn 24 = .ok (.iconst 0, 1) := by decide +kernel
theorem dX5_goesOn_25 : decode cX5_goesOn 25 = .ok (.goto 11, 3) := by decide +kernel
theorem dX5_goesOn_28 : decode cX5_goesOn 28 = .ok (.aload_n 0, 1) := by decide +kernel
theorem dX5_goesOn_29 : decode cX5_goesOn 29 = .ok (.getfield 68, 3) := by decide +kernel
theorem dX5_goesOn_32 : decode cX5_goesOn 32 = .ok (.iload_n 1, 1) := by decide +kernel
theorem dX5_goesOn_33 : decode cX5_goesOn 33 = .ok (.iaload, 1) := by decide +kernel
theorem dX5_goesOn_34 : decode cX5_goesOn 34 = .ok (.iconst 2, 1) := by decide +kernel
theorem dX5_goesOn_35 : decode cX5_goesOn 35 = .ok (.isub, 1) := by decide +kernel
theorem dX5_goesOn_36 : decode cX5_goesOn 36 = .ok (.iastore, 1) := by decide +kernel
theorem dX5_goesOn_37 : decode cX5_goesOn 37 = .ok (.aload_n 0, 1) := by decide +kernel
theorem dX5_goesOn_38 : decode cX5_goesOn 38 = .ok (.getfield 65, 3) := by decide +kernel
theorem dX5_goesOn_41 : decode cX5_goesOn 41 = .ok (.iload_n 1, 1) := by decide +kernel
theorem dX5_goesOn_42 : decode cX5_goesOn 42 = .ok (.dup2, 1) := by decide +kernel
theorem dX5_goesOn_43 : decode cX5_goesOn 43 = .ok (.iaload, 1) := by decide +kernel
theorem dX5_goesOn_44 : decode cX5_goesOn 44 = .ok (.aload_n 0, 1) := by decide +kernel
theorem dX5_goesOn_45 : decode cX5_goesOn 45 = .ok (.getfield 65, 3) := by decide +kernel
theorem dX5_goesOn_48 : decode cX5_goesOn 48 = .ok (.iload_n 1, 1) := by decide +kernel
theorem dX5_goesOn_49 : decode cX5_goesOn 49 = .ok (.iaload, 1) := by decide +kernel
theorem dX5_goesOn_50 : decode cX5_goesOn 50 = .ok (.ifCond .le 7, 3) := by decide +kernel
theorem dX5_goesOn_53 : decode cX5_goesOn 53 = .ok (.iconst 1, 1) := by decide +kernel
theorem dX5_goesOn_54 : decode cX5_goesOn 54 = .ok (.goto 4, 3) := by decide +kernel
theorem dX5_goesOn_57 : decode cX5_goesOn 57 = .ok (.iconst 0, 1) := by decide +kernel
theorem dX5_goesOn_58 : decode cX5_goesOn 58 = .ok (.isub, 1) := by decide +kernel
theorem dX5_goesOn_59 : decode cX5_goesOn 59 = .ok (.iastore, 1) := by decide +kernel
theorem dX5_goesOn_60 : decode cX5_goesOn 60 = .ok (.goto 114, 3) := by decide +kernel
theorem dX5_goesOn_63 : decode cX5_goesOn 63 = .ok (.aload_n 0, 1) := by decide +kernel
theorem dX5_goesOn_64 : decode cX5_goesOn 64 = .ok (.getfield 68, 3) := by decide +kernel
theorem dX5_goesOn_67 : decode cX5_goesOn 67 = .ok (.iload_n 1, 1) := by decide +kernel
theorem dX5_goesOn_68 : decode cX5_goesOn 68 = .ok (.iaload, 1) := by decide +kernel
theorem dX5_goesOn_69 : decode cX5_goesOn 69 = .ok (.aload_n 0, 1) := by decide +kernel
theorem dX5_goesOn_70 : decode cX5_goesOn 70 = .ok (.getfield 59, 3) := by decide +kernel
theorem dX5_goesOn_73 : decode cX5_goesOn 73 = .ok (.iload_n 1, 1) := by decide +kernel
theorem dX5_goesOn_74 : decode cX5_goesOn 74 = .ok (.iaload, 1) := by decide +kernel
theorem dX5_goesOn_75 : decode cX5_goesOn 75 = .ok (.iadd, 1) := by decide +kernel
theorem dX5_goesOn_76 : decode cX5_goesOn 76 = .ok (.iload_n 2, 1) := by decide +kernel
theorem dX5_goesOn_77 : decode cX5_goesOn 77 = .ok (.iadd, 1) := by decide +kernel
theorem dX5_goesOn_78 : decode cX5_goesOn 78 = .ok (.istore 4, 2) := by decide +kernel
theorem dX5_goesOn_80 : decode cX5_goesOn 80 = .ok (.aload_n 0, 1) := by decide +kernel
theorem dX5_goesOn_81 : decode cX5_goesOn 81 = .ok (.getfield 68, 3) := by decide +kernel
theorem dX5_goesOn_84 : decode cX5_goesOn 84 = .ok (.iload_n 1, 1) := by decide +kernel
theorem dX5_goesOn_85 : decode cX5_goesOn 85 = .ok (.iload 4, 2) := by decide +kernel
theorem dX5_goesOn_87 : decode cX5_goesOn 87 = .ok (.bipush 100, 2) := by decide +kernel
theorem dX5_goesOn_89 : decode cX5_goesOn 89 = .ok (.if_icmp .le 8, 3) := by decide +kernel
theorem dX5_goesOn_92 : decode cX5_goesOn 92 = .ok (.bipush 100, 2) := by decide +kernel
theorem dX5_goesOn_94 : decode cX5_goesOn 94 = .ok (.goto 5, 3) := by decide +kernel
theorem dX5_goesOn_97 : decode cX5_goesOn 97 = .ok (.iload 4, 2) := by decide +kernel
theorem dX5_goesOn_99 : decode cX5_goesOn 99 = .ok (.iastore, 1) := by decide +kernel
theorem dX5_goesOn_100 : decode cX5_goesOn 100 = .ok (.aload_n 0, 1) := by decide +kernel
theorem dX5_goesOn_101 : decode cX5_goesOn 101 = .ok (.getfield 65, 3) := by decide +kernel
theorem dX5_goesOn_104 : decode cX5_goesOn 104 = .ok (.iload_n 1, 1) := by decide +kernel
theorem dX5_goesOn_105 : decode cX5_goesOn 105 = .ok (.dup2, 1) := by decide +kernel
theorem dX5_goesOn_106 : decode cX5_goesOn 106 = .ok (.iaload, 1) := by decide +kernel
theorem dX5_goesOn_107 : decode cX5_goesOn 107 = .ok (.aload_n 0, 1) := by decide +kernel
theorem dX5_goesOn_108 : decode cX5_goesOn 108 = .ok (.getfield 65, 3) := by decide +kernel
theorem dX5_goesOn_111 : decode cX5_goesOn 111 = .ok (.iload_n 1, 1) := by decide +kernel
theorem dX5_goesOn_112 : decode cX5_goesOn 112 = .ok (.iaload, 1) := by decide +kernel
theorem dX5_goesOn_113 : decode cX5_goesOn 113 = .ok (.iload_n 3, 1) := by decide +kernel
theorem dX5_goesOn_114 : decode cX5_goesOn 114 = .ok (.if_icmp .ge 7, 3) := by decide +kernel
theorem dX5_goesOn_117 : decode cX5_goesOn 117 = .ok (.iconst 1, 1) := by decide +kernel
theorem dX5_goesOn_118 : decode cX5_goesOn 118 = .ok (.goto 18, 3) := by decide +kernel
theorem dX5_goesOn_121 : decode cX5_goesOn 121 = .ok (.aload_n 0, 1) := by decide +kernel
theorem dX5_goesOn_122 : decode cX5_goesOn 122 = .ok (.getfield 65, 3) := by decide +kernel
theorem dX5_goesOn_125 : decode cX5_goesOn 125 = .ok (.iload_n 1, 1) := by decide +kernel
theorem dX5_goesOn_126 : decode cX5_goesOn 126 = .ok (.iaload, 1) := by decide +kernel
theorem dX5_goesOn_127 : decode cX5_goesOn 127 = .ok (.iload_n 3, 1) := by decide +kernel
theorem dX5_goesOn_128 : decode cX5_goesOn 128 = .ok (.if_icmp .le 7, 3) := by decide +kernel
theorem dX5_goesOn_131 : decode cX5_goesOn 131 = .ok (.iconst (-1), 1) := by decide +kernel
theorem dX5_goesOn_132 : decode cX5_goesOn 132 = .ok (.goto 4, 3) := by decide +kernel
theorem dX5_goesOn_135 : decode cX5_goesOn 135 = .ok (.iconst 0, 1) := by decide +kernel
theorem dX5_goesOn_136 : decode cX5_goesOn 136 = .ok (.iadd, 1) := by decide +kernel
theorem dX5_goesOn_137 : decode cX5_goesOn 137 = .ok (.iastore, 1) := by decide +kernel
theorem dX5_goesOn_138 : decode cX5_goesOn 138 = .ok (.aload_n 0, 1) := by decide +kernel
theorem dX5_goesOn_139 : decode cX5_goesOn 139 = .ok (.getfield 53, 3) := by decide +kernel
theorem dX5_goesOn_142 : decode cX5_goesOn 142 = .ok (.iload_n 1, 1) := by decide +kernel
theorem dX5_goesOn_143 : decode cX5_goesOn 143 = .ok (.dup2, 1) := by decide +kernel
theorem dX5_goesOn_144 : decode cX5_goesOn 144 = .ok (.iaload, 1) := by decide +kernel
theorem dX5_goesOn_145 : decode cX5_goesOn 145 = .ok (.aload_n 0, 1) := by decide +kernel
theorem dX5_goesOn_146 : decode cX5_goesOn 146 = .ok (.getfield 68, 3) := by decide +kernel
theorem dX5_goesOn_149 : decode cX5_goesOn 149 = .ok (.iload_n 1, 1) := by decide +kernel
theorem dX5_goesOn_150 : decode cX5_goesOn 150 = .ok (.iaload, 1) := by decide +kernel
theorem dX5_goesOn_151 : decode cX5_goesOn 151 = .ok (.bipush 100, 2) := by decide +kernel
theorem dX5_goesOn_153 : decode cX5_goesOn 153 = .ok (.if_icmp .ne 18, 3) := by decide +kernel
theorem dX5_goesOn_156 : decode cX5_goesOn 156 = .ok (.aload_n 0, 1) := by decide +kernel
theorem dX5_goesOn_157 : decode cX5_goesOn 157 = .ok (.getfield 53, 3) := by decide +kernel
theorem dX5_goesOn_160 : decode cX5_goesOn 160 = .ok (.iload_n 1, 1) := by decide +kernel
theorem dX5_goesOn_161 : decode cX5_goesOn 161 = .ok (.iaload, 1) := by decide +kernel
theorem dX5_goesOn_162 : decode cX5_goesOn 162 = .ok (.bipush (-100), 2) := by decide +kernel
theorem dX5_goesOn_164 : decode cX5_goesOn 164 = .ok (.if_icmp .le 7, 3) := by decide +kernel
theorem dX5_goesOn_167 : decode cX5_goesOn 167 = .ok (.iconst 1, 1) := by decide +kernel
theorem dX5_goesOn_168 : decode cX5_goesOn 168 = .ok (.goto 4, 3) := by decide +kernel
theorem dX5_goesOn_171 : decode cX5_goesOn 171 = .ok (.iconst 0, 1) := by decide +kernel
theorem dX5_goesOn_172 : decode cX5_goesOn 172 = .ok (.isub, 1) := by decide +kernel
theorem dX5_goesOn_173 : decode cX5_goesOn 173 = .ok (.iastore, 1) := by decide +kernel
theorem dX5_goesOn_174 : decode cX5_goesOn 174 = .ok (.return_, 1) := by decide +kernel
theorem dX5_goes_0 : decode cX5_goes 0 = .ok (.iconst 0, 1) := by decide +kernel
theorem dX5_goes_1 : decode cX5_goes 1 = .ok (.istore 4, 2) := by decide +kernel
theorem dX5_goes_3 : decode cX5_goes 3 = .ok (.iload 4, 2) := by decide +kernel
theorem dX5_goes_5 : decode cX5_goes 5 = .ok (.iload_n 1, 1) := by decide +kernel
theorem dX5_goes_6 : decode cX5_goes 6 = .ok (.if_icmp .ge 35, 3) := by decide +kernel
theorem dX5_goes_9 : decode cX5_goes 9 = .ok (.iconst 0, 1) := by decide +kernel
theorem dX5_goes_10 : decode cX5_goes 10 = .ok (.istore 5, 2) := by decide +kernel
theorem dX5_goes_12 : decode cX5_goes 12 = .ok (.iload 5, 2) := by decide +kernel
theorem dX5_goes_14 : decode cX5_goes 14 = .ok (.aload_n 0, 1) := by decide +kernel
theorem dX5_goes_15 : decode cX5_goes 15 = .ok (.getfield 168, 3) := by decide +kernel
theorem dX5_goes_18 : decode cX5_goes 18 = .ok (.if_icmp .ge 17, 3) := by decide +kernel
theorem dX5_goes_21 : decode cX5_goes 21 = .ok (.aload_n 0, 1) := by decide +kernel
theorem dX5_goes_22 : decode cX5_goes 22 = .ok (.iload 5, 2) := by decide +kernel
theorem dX5_goes_24 : decode cX5_goes 24 = .ok (.iload_n 2, 1) := by decide +kernel
theorem dX5_goes_25 : decode cX5_goes 25 = .ok (.iload_n 3, 1) := by decide +kernel
theorem dX5_goes_26 : decode cX5_goes 26 = .ok (.invokevirtual 179, 3) := by decide +kernel
theorem dX5_goes_29 : decode cX5_goes 29 = .ok (.iinc 5 1, 3) := by decide +kernel
theorem dX5_goes_32 : decode cX5_goes 32 = .ok (.goto (-20), 3) := by decide +kernel
theorem dX5_goes_35 : decode cX5_goes 35 = .ok (.iinc 4 1, 3) := by decide +kernel
theorem dX5_goes_38 : decode cX5_goes 38 = .ok (.goto (-35), 3) := by decide +kernel
theorem dX5_goes_41 : decode cX5_goes 41 = .ok (.aload_n 0, 1) := by decide +kernel
theorem dX5_goes_42 : decode cX5_goes 42 = .ok (.iconst (-1), 1) := by decide +kernel
theorem dX5_goes_43 : decode cX5_goes 43 = .ok (.invokevirtual 183, 3) := by decide +kernel
theorem dX5_goes_46 : decode cX5_goes 46 = .ok (.ireturn, 1) := by decide +kernel
theorem dX5_isMinute_0 : decode cX5_isMinute 0 = .ok (.iload_n 0, 1) := by decide +kernel
theorem dX5_isMinute_1 : decode cX5_isMinute 1 = .ok (.iconst 1, 1) := by decide +kernel
theorem dX5_isMinute_2 : decode cX5_isMinute 2 = .ok (.bipush 120, 2) := by decide +kernel
theorem dX5_isMinute_4 : decode cX5_isMinute 4 = .ok (.invokestatic 114, 3) := by decide +kernel
theorem dX5_isMinute_7 : decode cX5_isMinute 7 = .ok (.ifCond .eq 27, 3) := by decide +kernel
theorem dX5_isMinute_10 : decode cX5_isMinute 10 = .ok (.iload_n 1, 1) := by decide +kernel
theorem dX5_isMinute_11 : decode cX5_isMinute 11 = .ok (.iconst 0, 1) := by decide +kernel
theorem dX5_isMinute_12 : decode cX5_isMinute 12 = .ok (.bipush 9, 2) := by decide +kernel
theorem dX5_isMinute_14 : decode cX5_isMinute 14 = .ok (.invokestatic 114, 3) := by decide +kernel
theorem dX5_isMinute_17 : decode cX5_isMinute 17 = .ok (.ifCond .eq 17, 3) := by decide +kernel
theorem dX5_isMinute_20 : decode cX5_isMinute 20 = .ok (.iload_n 2, 1) := by decide +kernel
theorem dX5_isMinute_21 : decode cX5_isMinute 21 = .ok (.iconst 0, 1) := by decide +kernel
theorem dX5_isMinute_22 : decode cX5_isMinute 22 = .ok (.bipush 40, 2) := by decide +kernel
theorem dX5_isMinute_24 : decode cX5_isMinute 24 = .ok (.invokestatic 114, 3) := by decide +kernel
theorem dX5_isMinute_27 : decode cX5_isMinute 27 = .ok (.ifCond .eq 7, 3) := by decide +kernel
theorem dX5_isMinute_30 : decode cX5_isMinute 30 = .ok (.iconst 1, 1) := by decide +kernel
theorem dX5_isMinute_31 : decode cX5_isMinute 31 = .ok (.goto 4, 3) := by decide +kernel
theorem dX5_isMinute_34 : decode cX5_isMinute 34 = .ok (.iconst 0, 1) := by decide +kernel
theorem dX5_isMinute_35 : decode cX5_isMinute 35 = .ok (.ireturn, 1) := by decide +kernel
theorem dX5_play_0 : decode cX5_play 0 = .ok (.aload_n 0, 1) := by decide +kernel
theorem dX5_play_1 : decode cX5_play 1 = .ok (.iload_n 1, 1) := by decide +kernel
theorem dX5_play_2 : decode cX5_play 2 = .ok (.iload_n 2, 1) := by decide +kernel
theorem dX5_play_3 : decode cX5_play 3 = .ok (.iload_n 3, 1) := by decide +kernel
theorem dX5_play_4 : decode cX5_play 4 = .ok (.invokestatic 186, 3) := by decide +kernel
theorem dX5_play_7 : decode cX5_play 7 = .ok (.ifCond .eq 7, 3) := by decide +kernel
theorem dX5_play_10 : decode cX5_play 10 = .ok (.iconst 0, 1) := by decide +kernel
theorem dX5_play_11 : decode cX5_play 11 = .ok (.goto 4, 3) := by decide +kernel
theorem dX5_play_14 : decode cX5_play 14 = .ok (.iconst 1, 1) := by decide +kernel
theorem dX5_play_15 : decode cX5_play 15 = .ok (.putfield 107, 3) := by decide +kernel
theorem dX5_play_18 : decode cX5_play 18 = .ok (.aload_n 0, 1) := by decide +kernel
theorem dX5_play_19 : decode cX5_play 19 = .ok (.getfield 107, 3) := by decide +kernel
theorem dX5_play_22 : decode cX5_play 22 = .ok (.ifCond .le 7, 3) := by decide +kernel
theorem dX5_play_25 : decode cX5_play 25 = .ok (.iconst 0, 1) := by decide +kernel
theorem dX5_play_26 : decode cX5_play 26 = .ok (.goto 10, 3) := by decide +kernel
theorem dX5_play_29 : decode cX5_play 29 = .ok (.aload_n 0, 1) := by decide +kernel
theorem dX5_play_30 : decode cX5_play 30 = .ok (.iload_n 1, 1) := by decide +kernel
theorem dX5_play_31 : decode cX5_play 31 = .ok (.iload_n 2, 1) := by decide +kernel
theorem dX5_play_32 : decode cX5_play 32 = .ok (.iload_n 3, 1) := by decide +kernel
theorem dX5_play_33 : decode cX5_play 33 = .ok (.invokevirtual 189, 3) := by decide +kernel
theorem dX5_play_36 : decode cX5_play 36 = .ok (.ireturn, 1) := by decide +kernel
theorem dX5_ahead_0 : decode cX5_ahead 0 = .ok (.aload_n 0, 1) := by decide +kernel
theorem dX5_ahead_1 : decode cX5_ahead 1 = .ok (.iload_n 1, 1) := by decide +kernel
theorem dX5_ahead_2 : decode cX5_ahead 2 = .ok (.iload_n 2, 1) := by decide +kernel
theorem dX5_ahead_3 : decode cX5_ahead 3 = .ok (.iload_n 3, 1) := by decide +kernel
theorem dX5_ahead_4 : decode cX5_ahead 4 = .ok (.invokestatic 186, 3) := by decide +kernel
theorem dX5_ahead_7 : decode cX5_ahead 7 = .ok (.ifCond .eq 7, 3) := by decide +kernel
theorem dX5_ahead_10 : decode cX5_ahead 10 = .ok (.iconst 0, 1) := by decide +kernel
theorem dX5_ahead_11 : decode cX5_ahead 11 = .ok (.goto 4, 3) := by decide +kernel
theorem dX5_ahead_14 : decode cX5_ahead 14 = .ok (.iconst 1, 1) := by decide +kernel
theorem dX5_ahead_15 : decode cX5_ahead 15 = .ok (.putfield 107, 3) := by decide +kernel
theorem dX5_ahead_18 : decode cX5_ahead 18 = .ok (.aload_n 0, 1) := by decide +kernel
theorem dX5_ahead_19 : decode cX5_ahead 19 = .ok (.getfield 107, 3) := by decide +kernel
theorem dX5_ahead_22 : decode cX5_ahead 22 = .ok (.ifCond .le 5, 3) := by decide +kernel
theorem dX5_ahead_25 : decode cX5_ahead 25 = .ok (.iconst 0, 1) := by decide +kernel
theorem dX5_ahead_26 : decode cX5_ahead 26 = .ok (.ireturn, 1) := by decide +kernel
theorem dX5_ahead_27 : decode cX5_ahead 27 = .ok (.iconst 0, 1) := by decide +kernel
theorem dX5_ahead_28 : decode cX5_ahead 28 = .ok (.istore 4, 2) := by decide +kernel
theorem dX5_ahead_30 : decode cX5_ahead 30 = .ok (.iload 4, 2) := by decide +kernel
theorem dX5_ahead_32 : decode cX5_ahead 32 = .ok (.aload_n 0, 1) := by decide +kernel
theorem dX5_ahead_33 : decode cX5_ahead 33 = .ok (.getfield 168, 3) := by decide +kernel
theorem dX5_ahead_36 : decode cX5_ahead 36 = .ok (.if_icmp .ge 51, 3) := by decide +kernel
theorem dX5_ahead_39 : decode cX5_ahead 39 = .ok (.aload_n 0, 1) := by decide +kernel
theorem dX5_ahead_40 : decode cX5_ahead 40 = .ok (.getfield 74, 3) := by decide +kernel
theorem dX5_ahead_43 : decode cX5_ahead 43 = .ok (.iload 4, 2) := by decide +kernel
theorem dX5_ahead_45 : decode cX5_ahead 45 = .ok (.aload_n 0, 1) := by decide +kernel
theorem dX5_ahead_46 : decode cX5_ahead 46 = .ok (.getfield 53, 3) := by decide +kernel
theorem dX5_ahead_49 : decode cX5_ahead 49 = .ok (.iload 4, 2) := by decide +kernel
theorem dX5_ahead_51 : decode cX5_ahead 51 = .ok (.iaload, 1) := by decide +kernel
theorem dX5_ahead_52 : decode cX5_ahead 52 = .ok (.iastore, 1) := by decide +kernel
theorem dX5_ahead_53 : decode cX5_ahead 53 = .ok (.aload_n 0, 1) := by decide +kernel
theorem dX5_ahead_54 : decode cX5_ahead 54 = .ok (.getfield 77, 3) := by decide +kernel
theorem dX5_ahead_57 : decode cX5_ahead 57 = .ok (.iload 4, 2) := by decide +kernel
theorem dX5_ahead_59 : decode cX5_ahead 59 = .ok (.aload_n 0, 1) := by decide +kernel
theorem dX5_ahead_60 : decode cX5_ahead 60 = .ok (.getfield 65, 3) := by decide +kernel
theorem dX5_ahead_63 : decode cX5_ahead 63 = .ok (.iload 4, 2) := by decide +kernel
theorem dX5_ahead_65 : decode cX5_ahead 65 = .ok (.iaload, 1) := by decide +kernel
theorem dX5_ahead_66 : decode cX5_ahead 66 = .ok (.iastore, 1) := by decide +kernel
theorem dX5_ahead_67 : decode cX5_ahead 67 = .ok (.aload_n 0, 1) := by decide +kernel
theorem dX5_ahead_68 : decode cX5_ahead 68 = .ok (.getfield 80, 3) := by decide +kernel
theorem dX5_ahead_71 : decode cX5_ahead 71 = .ok (.iload 4, 2) := by decide +kernel
theorem dX5_ahead_73 : decode cX5_ahead 73 = .ok (.aload_n 0, 1) := by decide +kernel
theorem dX5_ahead_74 : decode cX5_ahead 74 = .ok (.getfield 68, 3) := by decide +kernel
theorem dX5_ahead_77 : decode cX5_ahead 77 = .ok (.iload 4, 2) := by decide +kernel
theorem dX5_ahead_79 : decode cX5_ahead 79 = .ok (.iaload, 1) := by decide +kernel
theorem dX5_ahead_80 : decode cX5_ahead 80 = .ok (.iastore, 1) := by decide +kernel
theorem dX5_ahead_81 : decode cX5_ahead 81 = .ok (.iinc 4 1, 3) := by decide +kernel
theorem dX5_ahead_84 : decode cX5_ahead 84 = .ok (.goto (-54), 3) := by decide +kernel
theorem dX5_ahead_87 : decode cX5_ahead 87 = .ok (.aload_n 0, 1) := by decide +kernel
theorem dX5_ahead_88 : decode cX5_ahead 88 = .ok (.iload_n 1, 1) := by decide +kernel
theorem dX5_ahead_89 : decode cX5_ahead 89 = .ok (.iload_n 2, 1) := by decide +kernel
theorem dX5_ahead_90 : decode cX5_ahead 90 = .ok (.iload_n 3, 1) := by decide +kernel
theorem dX5_ahead_91 : decode cX5_ahead 91 = .ok (.invokevirtual 189, 3) := by decide +kernel
theorem dX5_ahead_94 : decode cX5_ahead 94 = .ok (.istore 4, 2) := by decide +kernel
theorem dX5_ahead_96 : decode cX5_ahead 96 = .ok (.iconst 0, 1) := by decide +kernel
theorem dX5_ahead_97 : decode cX5_ahead 97 = .ok (.istore 5, 2) := by decide +kernel
theorem dX5_ahead_99 : decode cX5_ahead 99 = .ok (.iload 5, 2) := by decide +kernel
theorem dX5_ahead_101 : decode cX5_ahead 101 = .ok (.aload_n 0, 1) := by decide +kernel
theorem dX5_ahead_102 : decode cX5_ahead 102 = .ok (.getfield 168, 3) := by decide +kernel
theorem dX5_ahead_105 : decode cX5_ahead 105 = .ok (.if_icmp .ge 51, 3) := by decide +kernel
theorem dX5_ahead_108 : decode cX5_ahead 108 = .ok (.aload_n 0, 1) := by decide +kernel
theorem dX5_ahead_109 : decode cX5_ahead 109 = .ok (.getfield 53, 3) := by decide +kernel
theorem dX5_ahead_112 : decode cX5_ahead 112 = .ok (.iload 5, 2) := by decide +kernel
theorem dX5_ahead_114 : decode cX5_ahead 114 = .ok (.aload_n 0, 1) := by decide +kernel
theorem dX5_ahead_115 : decode cX5_ahead 115 = .ok (.getfield 74, 3) := by decide +kernel
theorem dX5_ahead_118 : decode cX5_ahead 118 = .ok (.iload 5, 2) := by decide +kernel
theorem dX5_ahead_120 : decode cX5_ahead 120 = .ok (.iaload, 1) := by decide +kernel
theorem dX5_ahead_121 : decode cX5_ahead 121 = .ok (.iastore, 1) := by decide +kernel
theorem dX5_ahead_122 : decode cX5_ahead 122 = .ok (.aload_n 0, 1) := by decide +kernel
theorem dX5_ahead_123 : decode cX5_ahead 123 = .ok (.getfield 65, 3) := by decide +kernel
theorem dX5_ahead_126 : decode cX5_ahead 126 = .ok (.iload 5, 2) := by decide +kernel
theorem dX5_ahead_128 : decode cX5_ahead 128 = .ok (.aload_n 0, 1) := by decide +kernel
theorem dX5_ahead_129 : decode cX5_ahead 129 = .ok (.getfield 77, 3) := by decide +kernel
theorem dX5_ahead_132 : decode cX5_ahead 132 = .ok (.iload 5, 2) := by decide +kernel
theorem dX5_ahead_134 : decode cX5_ahead 134 = .ok (.iaload, 1) := by decide +kernel
theorem dX5_ahead_135 : decode cX5_ahead 135 = .ok (.iastore, 1) := by decide +kernel
theorem dX5_ahead_136 : decode cX5_ahead 136 = .ok (.aload_n 0, 1) := by decide +kernel
theorem dX5_ahead_137 : decode cX5_ahead 137 = .ok (.getfield 68, 3) := by decide +kernel
theorem dX5_ahead_140 : decode cX5_ahead 140 = .ok (.iload 5, 2) := by decide +kernel
theorem dX5_ahead_142 : decode cX5_ahead 142 = .ok (.aload_n 0, 1) := by decide +kernel
theorem dX5_ahead_143 : decode cX5_ahead 143 = .ok (.getfield 80, 3) := by decide +kernel
theorem dX5_ahead_146 : decode cX5_ahead 146 = .ok (.iload 5, 2) := by decide +kernel
theorem dX5_ahead_148 : decode cX5_ahead 148 = .ok (.iaload, 1) := by decide +kernel
theorem dX5_ahead_149 : decode cX5_ahead 149 = .ok (.iastore, 1) := by decide +kernel
theorem dX5_ahead_150 : decode cX5_ahead 150 = .ok (.iinc 5 1, 3) := by decide +kernel
theorem dX5_ahead_153 : decode cX5_ahead 153 = .ok (.goto (-54), 3) := by decide +kernel
theorem dX5_ahead_156 : decode cX5_ahead 156 = .ok (.iload 4, 2) := by decide +kernel
theorem dX5_ahead_158 : decode cX5_ahead 158 = .ok (.ireturn, 1) := by decide +kernel
theorem dX5_playing_0 : decode cX5_playing 0 = .ok (.iconst 0, 1) := by decide +kernel
theorem dX5_playing_1 : decode cX5_playing 1 = .ok (.istore_n 1, 1) := by decide +kernel
theorem dX5_playing_2 : decode cX5_playing 2 = .ok (.iconst 0, 1) := by decide +kernel
theorem dX5_playing_3 : decode cX5_playing 3 = .ok (.istore_n 2, 1) := by decide +kernel
theorem dX5_playing_4 : decode cX5_playing 4 = .ok (.iload_n 2, 1) := by decide +kernel
theorem dX5_playing_5 : decode cX5_playing 5 = .ok (.aload_n 0, 1) := by decide +kernel
theorem dX5_playing_6 : decode cX5_playing 6 = .ok (.getfield 168, 3) := by decide +kernel
theorem dX5_playing_9 : decode cX5_playing 9 = .ok (.if_icmp .ge 26, 3) := by decide +kernel
theorem dX5_playing_12 : decode cX5_playing 12 = .ok (.iload_n 1, 1) := by decide +kernel
theorem dX5_playing_13 : decode cX5_playing 13 = .ok (.aload_n 0, 1) := by decide +kernel
theorem dX5_playing_14 : decode cX5_playing 14 = .ok (.getfield 71, 3) := by decide +kernel
theorem dX5_playing_17 : decode cX5_playing 17 = .ok (.iload_n 2, 1) := by decide +kernel
theorem dX5_playing_18 : decode cX5_playing 18 = .ok (.baload, 1) := by decide +kernel
theorem dX5_playing_19 : decode cX5_playing 19 = .ok (.ifCond .eq 7, 3) := by decide +kernel
theorem dX5_playing_22 : decode cX5_playing 22 = .ok (.iconst 0, 1) := by decide +kernel
theorem dX5_playing_23 : decode cX5_playing 23 = .ok (.goto 4, 3) := by decide +kernel
theorem dX5_playing_26 : decode cX5_playing 26 = .ok (.iconst 1, 1) := by decide +kernel
theorem dX5_playing_27 : decode cX5_playing 27 = .ok (.iadd, 1) := by decide +kernel
theorem dX5_playing_28 : decode cX5_playing 28 = .ok (.istore_n 1, 1) := by decide +kernel
theorem dX5_playing_29 : decode cX5_playing 29 = .ok (.iinc 2 1, 3) := by decide +kernel
theorem dX5_playing_32 : decode cX5_playing 32 = .ok (.goto (-28), 3) := by decide +kernel
theorem dX5_playing_35 : decode cX5_playing 35 = .ok (.iload_n 1, 1) := by decide +kernel
theorem dX5_playing_36 : decode cX5_playing 36 = .ok (.ireturn, 1) := by decide +kernel
theorem dX5_middle_0 : decode cX5_middle 0 = .ok (.iconst 0, 1) := by decide +kernel
theorem dX5_middle_1 : decode cX5_middle 1 = .ok (.istore_n 1, 1) := by decide +kernel
theorem dX5_middle_2 : decode cX5_middle 2 = .ok (.iconst 0, 1) := by decide +kernel
theorem dX5_middle_3 : decode cX5_middle 3 = .ok (.istore_n 2, 1) := by decide +kernel
theorem dX5_middle_4 : decode cX5_middle 4 = .ok (.iload_n 2, 1) := by decide +kernel
theorem dX5_middle_5 : decode cX5_middle 5 = .ok (.aload_n 0, 1) := by decide +kernel
theorem dX5_middle_6 : decode cX5_middle 6 = .ok (.getfield 168, 3) := by decide +kernel
theorem dX5_middle_9 : decode cX5_middle 9 = .ok (.if_icmp .ge 74, 3) := by decide +kernel
theorem dX5_middle_12 : decode cX5_middle 12 = .ok (.aload_n 0, 1) := by decide +kernel
theorem dX5_middle_13 : decode cX5_middle 13 = .ok (.getfield 71, 3) := by decide +kernel
theorem dX5_middle_16 : decode cX5_middle 16 = .ok (.iload_n 2, 1) := by decide +kernel
theorem dX5_middle_17 : decode cX5_middle 17 = .ok (.baload, 1) := by decide +kernel
theorem dX5_middle_18 : decode cX5_middle 18 = .ok (.ifCond .ne 59, 3) := by decide +kernel
theorem dX5_middle_21 : decode cX5_middle 21 = .ok (.iload_n 1, 1) := by decide +kernel
theorem dX5_middle_22 : decode cX5_middle 22 = .ok (.istore_n 3, 1) := by decide +kernel
theorem dX5_middle_23 : decode cX5_middle 23 = .ok (.iload_n 3, 1) := by decide +kernel
theorem dX5_middle_24 : decode cX5_middle 24 = .ok (.ifCond .le 39, 3) := by decide +kernel
theorem dX5_middle_27 : decode cX5_middle 27 = .ok (.aload_n 0, 1) := by decide +kernel
theorem dX5_middle_28 : decode cX5_middle 28 = .ok (.getfield 83, 3) := by decide +kernel
theorem dX5_middle_31 : decode cX5_middle 31 = .ok (.iload_n 3, 1) := by decide +kernel
theorem dX5_middle_32 : decode cX5_middle 32 = .ok (.iconst 1, 1) := by decide +kernel
theorem dX5_middle_33 : decode cX5_middle 33 = .ok (.isub, 1) := by decide +kernel
theorem dX5_middle_34 : decode cX5_middle 34 = .ok (.iaload, 1) := by decide +kernel
theorem dX5_middle_35 : decode cX5_middle 35 = .ok (.aload_n 0, 1) := by decide +kernel
theorem dX5_middle_36 : decode cX5_middle 36 = .ok (.iload_n 2, 1) := by decide +kernel
theorem dX5_middle_37 : decode cX5_middle 37 = .ok (.invokevirtual 176, 3) := by decide +kernel
theorem dX5_middle_40 : decode cX5_middle 40 = .ok (.if_icmp .le 23, 3) := by decide +kernel
theorem dX5_middle_43 : decode cX5_middle 43 = .ok (.aload_n 0, 1) := by decide +kernel
theorem dX5_middle_44 : decode cX5_middle 44 = .ok (.getfield 83, 3) := by decide +kernel
theorem dX5_middle_47 : decode cX5_middle 47 = .ok (.iload_n 3, 1) := by decide +kernel
theorem dX5_middle_48 : decode cX5_middle 48 = .ok (.aload_n 0, 1) := by decide +kernel
theorem dX5_middle_49 : decode cX5_middle 49 = .ok (.getfield 83, 3) := by decide +kernel
theorem dX5_middle_52 : decode cX5_middle 52 = .ok (.iload_n 3, 1) := by decide +kernel
theorem dX5_middle_53 : decode cX5_middle 53 = .ok (.iconst 1, 1) := by decide +kernel
theorem dX5_middle_54 : decode cX5_middle 54 = .ok (.isub, 1) := by decide +kernel
theorem dX5_middle_55 : decode cX5_middle 55 = .ok (.iaload, 1) := by decide +kernel
theorem dX5_middle_56 : decode cX5_middle 56 = .ok (.iastore, 1) := by decide +kernel
theorem dX5_middle_57 : decode cX5_middle 57 = .ok (.iinc 3 (-1), 3) := by decide +kernel
theorem dX5_middle_60 : decode cX5_middle 60 = .ok (.goto (-37), 3) := by decide +kernel
theorem dX5_middle_63 : decode cX5_middle 63 = .ok (.aload_n 0, 1) := by decide +kernel
theorem dX5_middle_64 : decode cX5_middle 64 = .ok (.getfield 83, 3) := by decide +kernel
theorem dX5_middle_67 : decode cX5_middle 67 = .ok (.iload_n 3, 1) := by decide +kernel
theorem dX5_middle_68 : decode cX5_middle 68 = .ok (.aload_n 0, 1) := by decide +kernel
theorem dX5_middle_69 : decode cX5_middle 69 = .ok (.iload_n 2, 1) := by decide +kernel
theorem dX5_middle_70 : decode cX5_middle 70 = .ok (.invokevirtual 176, 3) := by decide +kernel
theorem dX5_middle_73 : decode cX5_middle 73 = .ok (.iastore, 1) := by decide +kernel
theorem dX5_middle_74 : decode cX5_middle 74 = .ok (.iinc 1 1, 3) := by decide +kernel
theorem dX5_middle_77 : decode cX5_middle 77 = .ok (.iinc 2 1, 3) := by decide +kernel
theorem dX5_middle_80 : decode cX5_middle 80 = .ok (.goto (-76), 3) := by decide +kernel
theorem dX5_middle_83 : decode cX5_middle 83 = .ok (.aload_n 0, 1) := by decide +kernel
theorem dX5_middle_84 : decode cX5_middle 84 = .ok (.getfield 83, 3) := by decide +kernel
theorem dX5_middle_87 : decode cX5_middle 87 = .ok (.iload_n 1, 1) := by decide +kernel
theorem dX5_middle_88 : decode cX5_middle 88 = .ok (.iconst 1, 1) := by decide +kernel
theorem dX5_middle_89 : decode cX5_middle 89 = .ok (.isub, 1) := by decide +kernel
theorem dX5_middle_90 : decode cX5_middle 90 = .ok (.iconst 2, 1) := by decide +kernel
theorem dX5_middle_91 : decode cX5_middle 91 = .ok (.idiv, 1) := by decide +kernel
theorem dX5_middle_92 : decode cX5_middle 92 = .ok (.iaload, 1) := by decide +kernel
theorem dX5_middle_93 : decode cX5_middle 93 = .ok (.ireturn, 1) := by decide +kernel
theorem dX5_ofPiper_0 : decode cX5_ofPiper 0 = .ok (.aload_n 0, 1) := by decide +kernel
theorem dX5_ofPiper_1 : decode cX5_ofPiper 1 = .ok (.aload_n 0, 1) := by decide +kernel
theorem dX5_ofPiper_2 : decode cX5_ofPiper 2 = .ok (.iload_n 1, 1) := by decide +kernel
theorem dX5_ofPiper_3 : decode cX5_ofPiper 3 = .ok (.invokevirtual 171, 3) := by decide +kernel
theorem dX5_ofPiper_6 : decode cX5_ofPiper 6 = .ok (.ifCond .ne 7, 3) := by decide +kernel
theorem dX5_ofPiper_9 : decode cX5_ofPiper 9 = .ok (.iconst 1, 1) := by decide +kernel
theorem dX5_ofPiper_10 : decode cX5_ofPiper 10 = .ok (.goto 17, 3) := by decide +kernel
theorem dX5_ofPiper_13 : decode cX5_ofPiper 13 = .ok (.iload_n 2, 1) := by decide +kernel
theorem dX5_ofPiper_14 : decode cX5_ofPiper 14 = .ok (.iconst 0, 1) := by decide +kernel
theorem dX5_ofPiper_15 : decode cX5_ofPiper 15 = .ok (.iconst 5, 1) := by decide +kernel
theorem dX5_ofPiper_16 : decode cX5_ofPiper 16 = .ok (.invokestatic 114, 3) := by decide +kernel
theorem dX5_ofPiper_19 : decode cX5_ofPiper 19 = .ok (.ifCond .ne 7, 3) := by decide +kernel
theorem dX5_ofPiper_22 : decode cX5_ofPiper 22 = .ok (.iconst 2, 1) := by decide +kernel
theorem dX5_ofPiper_23 : decode cX5_ofPiper 23 = .ok (.goto 4, 3) := by decide +kernel
theorem dX5_ofPiper_26 : decode cX5_ofPiper 26 = .ok (.iconst 0, 1) := by decide +kernel
theorem dX5_ofPiper_27 : decode cX5_ofPiper 27 = .ok (.putfield 107, 3) := by decide +kernel
theorem dX5_ofPiper_30 : decode cX5_ofPiper 30 = .ok (.aload_n 0, 1) := by decide +kernel
theorem dX5_ofPiper_31 : decode cX5_ofPiper 31 = .ok (.getfield 107, 3) := by decide +kernel
theorem dX5_ofPiper_34 : decode cX5_ofPiper 34 = .ok (.ifCond .le 5, 3) := by decide +kernel
theorem dX5_ofPiper_37 : decode cX5_ofPiper 37 = .ok (.iconst 0, 1) := by decide +kernel
theorem dX5_ofPiper_38 : decode cX5_ofPiper 38 = .ok (.ireturn, 1) := by decide +kernel
theorem dX5_ofPiper_39 : decode cX5_ofPiper 39 = .ok (.iload_n 2, 1) := by decide +kernel
theorem dX5_ofPiper_40 : decode cX5_ofPiper 40 = .ok (.tableswitch 70 0 4 #[36, 42, 49, 56, 63], 36) := by decide +kernel
theorem dX5_ofPiper_76 : decode cX5_ofPiper 76 = .ok (.aload_n 0, 1) := by decide +kernel
theorem dX5_ofPiper_77 : decode cX5_ofPiper 77 = .ok (.iload_n 1, 1) := by decide +kernel
theorem dX5_ofPiper_78 : decode cX5_ofPiper 78 = .ok (.invokevirtual 176, 3) := by decide +kernel
theorem dX5_ofPiper_81 : decode cX5_ofPiper 81 = .ok (.ireturn, 1) := by decide +kernel
theorem dX5_ofPiper_82 : decode cX5_ofPiper 82 = .ok (.aload_n 0, 1) := by decide +kernel
theorem dX5_ofPiper_83 : decode cX5_ofPiper 83 = .ok (.getfield 53, 3) := by decide +kernel
theorem dX5_ofPiper_86 : decode cX5_ofPiper 86 = .ok (.iload_n 1, 1) := by decide +kernel
theorem dX5_ofPiper_87 : decode cX5_ofPiper 87 = .ok (.iaload, 1) := by decide +kernel
theorem dX5_ofPiper_88 : decode cX5_ofPiper 88 = .ok (.ireturn, 1) := by decide +kernel
theorem dX5_ofPiper_89 : decode cX5_ofPiper 89 = .ok (.aload_n 0, 1) := by decide +kernel
theorem dX5_ofPiper_90 : decode cX5_ofPiper 90 = .ok (.getfield 62, 3) := by decide +kernel
theorem dX5_ofPiper_93 : decode cX5_ofPiper 93 = .ok (.iload_n 1, 1) := by decide +kernel
theorem dX5_ofPiper_94 : decode cX5_ofPiper 94 = .ok (.iaload, 1) := by decide +kernel
theorem dX5_ofPiper_95 : decode cX5_ofPiper 95 = .ok (.ireturn, 1) := by decide +kernel
theorem dX5_ofPiper_96 : decode cX5_ofPiper 96 = .ok (.aload_n 0, 1) := by decide +kernel
theorem dX5_ofPiper_97 : decode cX5_ofPiper 97 = .ok (.getfield 65, 3) := by decide +kernel
theorem dX5_ofPiper_100 : decode cX5_ofPiper 100 = .ok (.iload_n 1, 1) := by decide +kernel
theorem dX5_ofPiper_101 : decode cX5_ofPiper 101 = .ok (.iaload, 1) := by decide +kernel
theorem dX5_ofPiper_102 : decode cX5_ofPiper 102 = .ok (.ireturn, 1) := by decide +kernel
theorem dX5_ofPiper_103 : decode cX5_ofPiper 103 = .ok (.aload_n 0, 1) := by decide +kernel
theorem dX5_ofPiper_104 : decode cX5_ofPiper 104 = .ok (.getfield 68, 3) := by decide +kernel
theorem dX5_ofPiper_107 : decode cX5_ofPiper 107 = .ok (.iload_n 1, 1) := by decide +kernel
theorem dX5_ofPiper_108 : decode cX5_ofPiper 108 = .ok (.iaload, 1) := by decide +kernel
theorem dX5_ofPiper_109 : decode cX5_ofPiper 109 = .ok (.ireturn, 1) := by decide +kernel
theorem dX5_ofPiper_110 : decode cX5_ofPiper 110 = .ok (.aload_n 0, 1) := by decide +kernel
theorem dX5_ofPiper_111 : decode cX5_ofPiper 111 = .ok (.invokevirtual 193, 3) := by decide +kernel
theorem dX5_ofPiper_114 : decode cX5_ofPiper 114 = .ok (.ifCond .ne 7, 3) := by decide +kernel
theorem dX5_ofPiper_117 : decode cX5_ofPiper 117 = .ok (.iconst 0, 1) := by decide +kernel
theorem dX5_ofPiper_118 : decode cX5_ofPiper 118 = .ok (.goto 13, 3) := by decide +kernel
theorem dX5_ofPiper_121 : decode cX5_ofPiper 121 = .ok (.aload_n 0, 1) := by decide +kernel
theorem dX5_ofPiper_122 : decode cX5_ofPiper 122 = .ok (.invokevirtual 196, 3) := by decide +kernel
theorem dX5_ofPiper_125 : decode cX5_ofPiper 125 = .ok (.aload_n 0, 1) := by decide +kernel
theorem dX5_ofPiper_126 : decode cX5_ofPiper 126 = .ok (.iload_n 1, 1) := by decide +kernel
theorem dX5_ofPiper_127 : decode cX5_ofPiper 127 = .ok (.invokevirtual 176, 3) := by decide +kernel
theorem dX5_ofPiper_130 : decode cX5_ofPiper 130 = .ok (.isub, 1) := by decide +kernel
theorem dX5_ofPiper_131 : decode cX5_ofPiper 131 = .ok (.ireturn, 1) := by decide +kernel
theorem dX5_spread_0 : decode cX5_spread 0 = .ok (.aload_n 0, 1) := by decide +kernel
theorem dX5_spread_1 : decode cX5_spread 1 = .ok (.iconst 0, 1) := by decide +kernel
theorem dX5_spread_2 : decode cX5_spread 2 = .ok (.putfield 107, 3) := by decide +kernel
theorem dX5_spread_5 : decode cX5_spread 5 = .ok (.aload_n 0, 1) := by decide +kernel
theorem dX5_spread_6 : decode cX5_spread 6 = .ok (.iconst (-1), 1) := by decide +kernel
theorem dX5_spread_7 : decode cX5_spread 7 = .ok (.invokevirtual 183, 3) := by decide +kernel
theorem dX5_spread_10 : decode cX5_spread 10 = .ok (.ireturn, 1) := by decide +kernel
theorem dX5_odd_0 : decode cX5_odd 0 = .ok (.aload_n 0, 1) := by decide +kernel
theorem dX5_odd_1 : decode cX5_odd 1 = .ok (.iconst 0, 1) := by decide +kernel
theorem dX5_odd_2 : decode cX5_odd 2 = .ok (.putfield 107, 3) := by decide +kernel
theorem dX5_odd_5 : decode cX5_odd 5 = .ok (.iconst (-1), 1) := by decide +kernel
theorem dX5_odd_6 : decode cX5_odd 6 = .ok (.istore_n 1, 1) := by decide +kernel
theorem dX5_odd_7 : decode cX5_odd 7 = .ok (.iconst 0, 1) := by decide +kernel
theorem dX5_odd_8 : decode cX5_odd 8 = .ok (.istore_n 2, 1) := by decide +kernel
theorem dX5_odd_9 : decode cX5_odd 9 = .ok (.iconst 0, 1) := by decide +kernel
theorem dX5_odd_10 : decode cX5_odd 10 = .ok (.istore_n 3, 1) := by decide +kernel
theorem dX5_odd_11 : decode cX5_odd 11 = .ok (.iload_n 3, 1) := by decide +kernel
theorem dX5_odd_12 : decode cX5_odd 12 = .ok (.aload_n 0, 1) := by decide +kernel
theorem dX5_odd_13 : decode cX5_odd 13 = .ok (.getfield 168, 3) := by decide +kernel
theorem dX5_odd_16 : decode cX5_odd 16 = .ok (.if_icmp .ge 74, 3) := by decide +kernel
theorem dX5_odd_19 : decode cX5_odd 19 = .ok (.aload_n 0, 1) := by decide +kernel
theorem dX5_odd_20 : decode cX5_odd 20 = .ok (.invokevirtual 193, 3) := by decide +kernel
theorem dX5_odd_23 : decode cX5_odd 23 = .ok (.iconst 1, 1) := by decide +kernel
theorem dX5_odd_24 : decode cX5_odd 24 = .ok (.if_icmp .le 66, 3) := by decide +kernel
theorem dX5_odd_27 : decode cX5_odd 27 = .ok (.aload_n 0, 1) := by decide +kernel
theorem dX5_odd_28 : decode cX5_odd 28 = .ok (.iload_n 3, 1) := by decide +kernel
theorem dX5_odd_29 : decode cX5_odd 29 = .ok (.invokevirtual 183, 3) := by decide +kernel
theorem dX5_odd_32 : decode cX5_odd 32 = .ok (.istore 4, 2) := by decide +kernel
theorem dX5_odd_34 : decode cX5_odd 34 = .ok (.aload_n 0, 1) := by decide +kernel
theorem dX5_odd_35 : decode cX5_odd 35 = .ok (.getfield 71, 3) := by decide +kernel
theorem dX5_odd_38 : decode cX5_odd 38 = .ok (.iload_n 3, 1) := by decide +kernel
theorem dX5_odd_39 : decode cX5_odd 39 = .ok (.baload, 1) := by decide +kernel
theorem dX5_odd_40 : decode cX5_odd 40 = .ok (.ifCond .ne 18, 3) := by decide +kernel
theorem dX5_odd_43 : decode cX5_odd 43 = .ok (.iload_n 1, 1) := by decide +kernel
theorem dX5_odd_44 : decode cX5_odd 44 = .ok (.iconst (-1), 1) := by decide +kernel
theorem dX5_odd_45 : decode cX5_odd 45 = .ok (.if_icmp .eq 9, 3) := by decide +kernel
theorem dX5_odd_48 : decode cX5_odd 48 = .ok (.iload 4, 2) := by decide +kernel
theorem dX5_odd_50 : decode cX5_odd 50 = .ok (.iload_n 2, 1) := by decide +kernel
theorem dX5_odd_51 : decode cX5_odd 51 = .ok (.if_icmp .ge 7, 3) := by decide +kernel
theorem dX5_odd_54 : decode cX5_odd 54 = .ok (.iconst 1, 1) := by decide +kernel
theorem dX5_odd_55 : decode cX5_odd 55 = .ok (.goto 4, 3) := by decide +kernel
theorem dX5_odd_58 : decode cX5_odd 58 = .ok (.iconst 0, 1) := by decide +kernel
theorem dX5_odd_59 : decode cX5_odd 59 = .ok (.istore 5, 2) := by decide +kernel
theorem dX5_odd_61 : decode cX5_odd 61 = .ok (.iload 5, 2) := by decide +kernel
theorem dX5_odd_63 : decode cX5_odd 63 = .ok (.ifCond .eq 7, 3) := by decide +kernel
theorem dX5_odd_66 : decode cX5_odd 66 = .ok (.iload_n 3, 1) := by decide +kernel
theorem dX5_odd_67 : decode cX5_odd 67 = .ok (.goto 4, 3) := by decide +kernel
theorem dX5_odd_70 : decode cX5_odd 70 = .ok (.iload_n 1, 1) := by decide +kernel
theorem dX5_odd_71 : decode cX5_odd 71 = .ok (.istore_n 1, 1) := by decide +kernel
theorem dX5_odd_72 : decode cX5_odd 72 = .ok (.iload 5, 2) := by decide +kernel
theorem dX5_odd_74 : decode cX5_odd 74 = .ok (.ifCond .eq 8, 3) := by decide +kernel
theorem dX5_odd_77 : decode cX5_odd 77 = .ok (.iload 4, 2) := by decide +kernel
theorem dX5_odd_79 : decode cX5_odd 79 = .ok (.goto 4, 3) := by decide +kernel
theorem dX5_odd_82 : decode cX5_odd 82 = .ok (.iload_n 2, 1) := by decide +kernel
theorem dX5_odd_83 : decode cX5_odd 83 = .ok (.istore_n 2, 1) := by decide +kernel
theorem dX5_odd_84 : decode cX5_odd 84 = .ok (.iinc 3 1, 3) := by decide +kernel
theorem dX5_odd_87 : decode cX5_odd 87 = .ok (.goto (-76), 3) := by decide +kernel
theorem dX5_odd_90 : decode cX5_odd 90 = .ok (.iload_n 1, 1) := by decide +kernel
theorem dX5_odd_91 : decode cX5_odd 91 = .ok (.ireturn, 1) := by decide +kernel
theorem dX5_beats_0 : decode cX5_beats 0 = .ok (.aload_n 0, 1) := by decide +kernel
theorem dX5_beats_1 : decode cX5_beats 1 = .ok (.aload_n 0, 1) := by decide +kernel
theorem dX5_beats_2 : decode cX5_beats 2 = .ok (.iload_n 1, 1) := by decide +kernel
theorem dX5_beats_3 : decode cX5_beats 3 = .ok (.invokevirtual 171, 3) := by decide +kernel
theorem dX5_beats_6 : decode cX5_beats 6 = .ok (.ifCond .eq 15, 3) := by decide +kernel
theorem dX5_beats_9 : decode cX5_beats 9 = .ok (.aload_n 0, 1) := by decide +kernel
theorem dX5_beats_10 : decode cX5_beats 10 = .ok (.iload_n 2, 1) := by decide +kernel
theorem dX5_beats_11 : decode cX5_beats 11 = .ok (.invokevirtual 171, 3) := by decide +kernel
theorem dX5_beats_14 : decode cX5_beats 14 = .ok (.ifCond .eq 7, 3) := by decide +kernel
theorem dX5_beats_17 : decode cX5_beats 17 = .ok (.iconst 0, 1) := by decide +kernel
theorem dX5_beats_18 : decode cX5_beats 18 = .ok (.goto 4, 3) := by decide +kernel
theorem dX5_beats_21 : decode cX5_beats 21 = .ok (.iconst 1, 1) := by decide +kernel
theorem dX5_beats_22 : decode cX5_beats 22 = .ok (.putfield 107, 3) := by decide +kernel
theorem dX5_beats_25 : decode cX5_beats 25 = .ok (.aload_n 0, 1) := by decide +kernel
theorem dX5_beats_26 : decode cX5_beats 26 = .ok (.getfield 107, 3) := by decide +kernel
theorem dX5_beats_29 : decode cX5_beats 29 = .ok (.ifCond .le 5, 3) := by decide +kernel
theorem dX5_beats_32 : decode cX5_beats 32 = .ok (.fconst 0, 1) := by decide +kernel
theorem dX5_beats_33 : decode cX5_beats 33 = .ok (.freturn, 1) := by decide +kernel
theorem dX5_beats_34 : decode cX5_beats 34 = .ok (.aload_n 0, 1) := by decide +kernel
theorem dX5_beats_35 : decode cX5_beats 35 = .ok (.iload_n 1, 1) := by decide +kernel
theorem dX5_beats_36 : decode cX5_beats 36 = .ok (.invokevirtual 176, 3) := by decide +kernel
theorem dX5_beats_39 : decode cX5_beats 39 = .ok (.aload_n 0, 1) := by decide +kernel
theorem dX5_beats_40 : decode cX5_beats 40 = .ok (.iload_n 2, 1) := by decide +kernel
theorem dX5_beats_41 : decode cX5_beats 41 = .ok (.invokevirtual 176, 3) := by decide +kernel
theorem dX5_beats_44 : decode cX5_beats 44 = .ok (.isub, 1) := by decide +kernel
theorem dX5_beats_45 : decode cX5_beats 45 = .ok (.istore_n 3, 1) := by decide +kernel
theorem dX5_beats_46 : decode cX5_beats 46 = .ok (.sipush 480, 3) := by decide +kernel
theorem dX5_beats_49 : decode cX5_beats 49 = .ok (.iload_n 3, 1) := by decide +kernel
theorem dX5_beats_50 : decode cX5_beats 50 = .ok (.ifCond .ge 8, 3) := by decide +kernel
theorem dX5_beats_53 : decode cX5_beats 53 = .ok (.iload_n 3, 1) := by decide +kernel
theorem dX5_beats_54 : decode cX5_beats 54 = .ok (.ineg, 1) := by decide +kernel
theorem dX5_beats_55 : decode cX5_beats 55 = .ok (.goto 4, 3) := by decide +kernel
theorem dX5_beats_58 : decode cX5_beats 58 = .ok (.iload_n 3, 1) := by decide +kernel
theorem dX5_beats_59 : decode cX5_beats 59 = .ok (.imul, 1) := by decide +kernel
theorem dX5_beats_60 : decode cX5_beats 60 = .ok (.i2f, 1) := by decide +kernel
theorem dX5_beats_61 : decode cX5_beats 61 = .ok (.ldc 199, 2) := by decide +kernel
theorem dX5_beats_63 : decode cX5_beats 63 = .ok (.fdiv, 1) := by decide +kernel
theorem dX5_beats_64 : decode cX5_beats 64 = .ok (.freturn, 1) := by decide +kernel
theorem dX5_isBand_0 : decode cX5_isBand 0 = .ok (.iload_n 1, 1) := by decide +kernel
theorem dX5_isBand_1 : decode cX5_isBand 1 = .ok (.iconst 0, 1) := by decide +kernel
theorem dX5_isBand_2 : decode cX5_isBand 2 = .ok (.aload_n 0, 1) := by decide +kernel
theorem dX5_isBand_3 : decode cX5_isBand 3 = .ok (.getfield 200, 3) := by decide +kernel
theorem dX5_isBand_6 : decode cX5_isBand 6 = .ok (.iconst 1, 1) := by decide +kernel
theorem dX5_isBand_7 : decode cX5_isBand 7 = .ok (.isub, 1) := by decide +kernel
theorem dX5_isBand_8 : decode cX5_isBand 8 = .ok (.invokestatic 114, 3) := by decide +kernel
theorem dX5_isBand_11 : decode cX5_isBand 11 = .ok (.ireturn, 1) := by decide +kernel
theorem dX5_band_0 : decode cX5_band 0 = .ok (.aload_n 0, 1) := by decide +kernel
theorem dX5_band_1 : decode cX5_band 1 = .ok (.iload_n 1, 1) := by decide +kernel
theorem dX5_band_2 : decode cX5_band 2 = .ok (.iconst 1, 1) := by decide +kernel
theorem dX5_band_3 : decode cX5_band 3 = .ok (.iconst 5, 1) := by decide +kernel
theorem dX5_band_4 : decode cX5_band 4 = .ok (.invokestatic 114, 3) := by decide +kernel
theorem dX5_band_7 : decode cX5_band 7 = .ok (.ifCond .ne 7, 3) := by decide +kernel
theorem dX5_band_10 : decode cX5_band 10 = .ok (.iconst 1, 1) := by decide +kernel
theorem dX5_band_11 : decode cX5_band 11 = .ok (.goto 17, 3) := by decide +kernel
theorem dX5_band_14 : decode cX5_band 14 = .ok (.aload_n 0, 1) := by decide +kernel
theorem dX5_band_15 : decode cX5_band 15 = .ok (.getfield 200, 3) := by decide +kernel
theorem dX5_band_18 : decode cX5_band 18 = .ok (.bipush 8, 2) := by decide +kernel
theorem dX5_band_20 : decode cX5_band 20 = .ok (.if_icmp .ne 7, 3) := by decide +kernel
theorem dX5_band_23 : decode cX5_band 23 = .ok (.iconst 2, 1) := by decide +kernel
theorem dX5_band_24 : decode cX5_band 24 = .ok (.goto 4, 3) := by decide +kernel
theorem dX5_band_27 : decode cX5_band 27 = .ok (.iconst 0, 1) := by decide +kernel
theorem dX5_band_28 : decode cX5_band 28 = .ok (.putfield 107, 3) := by decide +kernel
theorem dX5_band_31 : decode cX5_band 31 = .ok (.aload_n 0, 1) := by decide +kernel
theorem dX5_band_32 : decode cX5_band 32 = .ok (.getfield 107, 3) := by decide +kernel
theorem dX5_band_35 : decode cX5_band 35 = .ok (.ifCond .le 5, 3) := by decide +kernel
theorem dX5_band_38 : decode cX5_band 38 = .ok (.iconst 0, 1) := by decide +kernel
theorem dX5_band_39 : decode cX5_band 39 = .ok (.ireturn, 1) := by decide +kernel
theorem dX5_band_40 : decode cX5_band 40 = .ok (.aload_n 0, 1) := by decide +kernel
theorem dX5_band_41 : decode cX5_band 41 = .ok (.getfield 86, 3) := by decide +kernel
theorem dX5_band_44 : decode cX5_band 44 = .ok (.aload_n 0, 1) := by decide +kernel
theorem dX5_band_45 : decode cX5_band 45 = .ok (.getfield 200, 3) := by decide +kernel
theorem dX5_band_48 : decode cX5_band 48 = .ok (.iload_n 1, 1) := by decide +kernel
theorem dX5_band_49 : decode cX5_band 49 = .ok (.iastore, 1) := by decide +kernel
theorem dX5_band_50 : decode cX5_band 50 = .ok (.aload_n 0, 1) := by decide +kernel
theorem dX5_band_51 : decode cX5_band 51 = .ok (.getfield 92, 3) := by decide +kernel
theorem dX5_band_54 : decode cX5_band 54 = .ok (.aload_n 0, 1) := by decide +kernel
theorem dX5_band_55 : decode cX5_band 55 = .ok (.getfield 200, 3) := by decide +kernel
theorem dX5_band_58 : decode cX5_band 58 = .ok (.iconst (-1), 1) := by decide +kernel
theorem dX5_band_59 : decode cX5_band 59 = .ok (.iastore, 1) := by decide +kernel
theorem dX5_band_60 : decode cX5_band 60 = .ok (.aload_n 0, 1) := by decide +kernel
theorem dX5_band_61 : decode cX5_band 61 = .ok (.getfield 95, 3) := by decide +kernel
theorem dX5_band_64 : decode cX5_band 64 = .ok (.aload_n 0, 1) := by decide +kernel
theorem dX5_band_65 : decode cX5_band 65 = .ok (.getfield 200, 3) := by decide +kernel
theorem dX5_band_68 : decode cX5_band 68 = .ok (.iconst (-1), 1) := by decide +kernel
theorem dX5_band_69 : decode cX5_band 69 = .ok (.iastore, 1) := by decide +kernel
theorem dX5_band_70 : decode cX5_band 70 = .ok (.aload_n 0, 1) := by decide +kernel
theorem dX5_band_71 : decode cX5_band 71 = .ok (.dup, 1) := by decide +kernel
theorem dX5_band_72 : decode cX5_band 72 = .ok (.getfield 200, 3) := by decide +kernel
theorem dX5_band_75 : decode cX5_band 75 = .ok (.iconst 1, 1) := by decide +kernel
theorem dX5_band_76 : decode cX5_band 76 = .ok (.iadd, 1) := by decide +kernel
theorem dX5_band_77 : decode cX5_band 77 = .ok (.putfield 200, 3) := by decide +kernel
theorem dX5_band_80 : decode cX5_band 80 = .ok (.aload_n 0, 1) := by decide +kernel
theorem dX5_band_81 : decode cX5_band 81 = .ok (.getfield 200, 3) := by decide +kernel
theorem dX5_band_84 : decode cX5_band 84 = .ok (.iconst 1, 1) := by decide +kernel
theorem dX5_band_85 : decode cX5_band 85 = .ok (.isub, 1) := by decide +kernel
theorem dX5_band_86 : decode cX5_band 86 = .ok (.ireturn, 1) := by decide +kernel
theorem dX5_ofGrade_0 : decode cX5_ofGrade 0 = .ok (.iconst 0, 1) := by decide +kernel
theorem dX5_ofGrade_1 : decode cX5_ofGrade 1 = .ok (.istore_n 2, 1) := by decide +kernel
theorem dX5_ofGrade_2 : decode cX5_ofGrade 2 = .ok (.iconst 0, 1) := by decide +kernel
theorem dX5_ofGrade_3 : decode cX5_ofGrade 3 = .ok (.istore_n 3, 1) := by decide +kernel
theorem dX5_ofGrade_4 : decode cX5_ofGrade 4 = .ok (.iload_n 3, 1) := by decide +kernel
theorem dX5_ofGrade_5 : decode cX5_ofGrade 5 = .ok (.aload_n 0, 1) := by decide +kernel
theorem dX5_ofGrade_6 : decode cX5_ofGrade 6 = .ok (.getfield 200, 3) := by decide +kernel
theorem dX5_ofGrade_9 : decode cX5_ofGrade 9 = .ok (.if_icmp .ge 27, 3) := by decide +kernel
theorem dX5_ofGrade_12 : decode cX5_ofGrade 12 = .ok (.iload_n 2, 1) := by decide +kernel
theorem dX5_ofGrade_13 : decode cX5_ofGrade 13 = .ok (.aload_n 0, 1) := by decide +kernel
theorem dX5_ofGrade_14 : decode cX5_ofGrade 14 = .ok (.getfield 86, 3) := by decide +kernel
theorem dX5_ofGrade_17 : decode cX5_ofGrade 17 = .ok (.iload_n 3, 1) := by decide +kernel
theorem dX5_ofGrade_18 : decode cX5_ofGrade 18 = .ok (.iaload, 1) := by decide +kernel
theorem dX5_ofGrade_19 : decode cX5_ofGrade 19 = .ok (.iload_n 1, 1) := by decide +kernel
theorem dX5_ofGrade_20 : decode cX5_ofGrade 20 = .ok (.if_icmp .ne 7, 3) := by decide +kernel
theorem dX5_ofGrade_23 : decode cX5_ofGrade 23 = .ok (.iconst 1, 1) := by decide +kernel
theorem dX5_ofGrade_24 : decode cX5_ofGrade 24 = .ok (.goto 4, 3) := by decide +kernel
theorem dX5_ofGrade_27 : decode cX5_ofGrade 27 = .ok (.iconst 0, 1) := by decide +kernel
theorem dX5_ofGrade_28 : decode cX5_ofGrade 28 = .ok (.iadd, 1) := by decide +kernel
theorem dX5_ofGrade_29 : decode cX5_ofGrade 29 = .ok (.istore_n 2, 1) := by decide +kernel
theorem dX5_ofGrade_30 : decode cX5_ofGrade 30 = .ok (.iinc 3 1, 3) := by decide +kernel
theorem dX5_ofGrade_33 : decode cX5_ofGrade 33 = .ok (.goto (-29), 3) := by decide +kernel
theorem dX5_ofGrade_36 : decode cX5_ofGrade 36 = .ok (.iload_n 2, 1) := by decide +kernel
theorem dX5_ofGrade_37 : decode cX5_ofGrade 37 = .ok (.ireturn, 1) := by decide +kernel
theorem dX5_contest_0 : decode cX5_contest 0 = .ok (.aload_n 0, 1) := by decide +kernel
theorem dX5_contest_1 : decode cX5_contest 1 = .ok (.iload_n 1, 1) := by decide +kernel
theorem dX5_contest_2 : decode cX5_contest 2 = .ok (.iconst 1, 1) := by decide +kernel
theorem dX5_contest_3 : decode cX5_contest 3 = .ok (.iconst 5, 1) := by decide +kernel
theorem dX5_contest_4 : decode cX5_contest 4 = .ok (.invokestatic 114, 3) := by decide +kernel
theorem dX5_contest_7 : decode cX5_contest 7 = .ok (.ifCond .ne 7, 3) := by decide +kernel
theorem dX5_contest_10 : decode cX5_contest 10 = .ok (.iconst 1, 1) := by decide +kernel
theorem dX5_contest_11 : decode cX5_contest 11 = .ok (.goto 24, 3) := by decide +kernel
theorem dX5_contest_14 : decode cX5_contest 14 = .ok (.aload_n 0, 1) := by decide +kernel
theorem dX5_contest_15 : decode cX5_contest 15 = .ok (.getfield 203, 3) := by decide +kernel
theorem dX5_contest_18 : decode cX5_contest 18 = .ok (.ifCond .ne 12, 3) := by decide +kernel
theorem dX5_contest_21 : decode cX5_contest 21 = .ok (.aload_n 0, 1) := by decide +kernel
theorem dX5_contest_22 : decode cX5_contest 22 = .ok (.iload_n 1, 1) := by decide +kernel
theorem dX5_contest_23 : decode cX5_contest 23 = .ok (.invokevirtual 207, 3) := by decide +kernel
theorem dX5_contest_26 : decode cX5_contest 26 = .ok (.iconst 2, 1) := by decide +kernel
theorem dX5_contest_27 : decode cX5_contest 27 = .ok (.if_icmp .ge 7, 3) := by decide +kernel
theorem dX5_contest_30 : decode cX5_contest 30 = .ok (.iconst 2, 1) := by decide +kernel
theorem dX5_contest_31 : decode cX5_contest 31 = .ok (.goto 4, 3) := by decide +kernel
theorem dX5_contest_34 : decode cX5_contest 34 = .ok (.iconst 0, 1) := by decide +kernel
theorem dX5_contest_35 : decode cX5_contest 35 = .ok (.putfield 107, 3) := by decide +kernel
theorem dX5_contest_38 : decode cX5_contest 38 = .ok (.aload_n 0, 1) := by decide +kernel
theorem dX5_contest_39 : decode cX5_contest 39 = .ok (.getfield 107, 3) := by decide +kernel
theorem dX5_contest_42 : decode cX5_contest 42 = .ok (.ifCond .le 5, 3) := by decide +kernel
theorem dX5_contest_45 : decode cX5_contest 45 = .ok (.iconst 0, 1) := by decide +kernel
theorem dX5_contest_46 : decode cX5_contest 46 = .ok (.ireturn, 1) := by decide +kernel
theorem dX5_contest_47 : decode cX5_contest 47 = .ok (.aload_n 0, 1) := by decide +kernel
theorem dX5_contest_48 : decode cX5_contest 48 = .ok (.iconst 1, 1) := by decide +kernel
theorem dX5_contest_49 : decode cX5_contest 49 = .ok (.putfield 203, 3) := by decide +kernel
theorem dX5_contest_52 : decode cX5_contest 52 = .ok (.aload_n 0, 1) := by decide +kernel
theorem dX5_contest_53 : decode cX5_contest 53 = .ok (.iconst 0, 1) := by decide +kernel
theorem dX5_contest_54 : decode cX5_contest 54 = .ok (.putfield 210, 3) := by decide +kernel
theorem dX5_contest_57 : decode cX5_contest 57 = .ok (.iconst 0, 1) := by decide +kernel
theorem dX5_contest_58 : decode cX5_contest 58 = .ok (.istore_n 2, 1) := by decide +kernel
theorem dX5_contest_59 : decode cX5_contest 59 = .ok (.iload_n 2, 1) := by decide +kernel
theorem dX5_contest_60 : decode cX5_contest 60 = .ok (.aload_n 0, 1) := by decide +kernel
theorem dX5_contest_61 : decode cX5_contest 61 = .ok (.getfield 200, 3) := by decide +kernel
theorem dX5_contest_64 : decode cX5_contest 64 = .ok (.if_icmp .ge 35, 3) := by decide +kernel
theorem dX5_contest_67 : decode cX5_contest 67 = .ok (.aload_n 0, 1) := by decide +kernel
theorem dX5_contest_68 : decode cX5_contest 68 = .ok (.dup, 1) := by decide +kernel
theorem dX5_contest_69 : decode cX5_contest 69 = .ok (.getfield 210, 3) := by decide +kernel
theorem dX5_contest_72 : decode cX5_contest 72 = .ok (.aload_n 0, 1) := by decide +kernel
theorem dX5_contest_73 : decode cX5_contest 73 = .ok (.getfield 86, 3) := by decide +kernel
theorem dX5_contest_76 : decode cX5_contest 76 = .ok (.iload_n 2, 1) := by decide +kernel
theorem dX5_contest_77 : decode cX5_contest 77 = .ok (.iaload, 1) := by decide +kernel
theorem dX5_contest_78 : decode cX5_contest 78 = .ok (.iload_n 1, 1) := by decide +kernel
theorem dX5_contest_79 : decode cX5_contest 79 = .ok (.if_icmp .ne 9, 3) := by decide +kernel
theorem dX5_contest_82 : decode cX5_contest 82 = .ok (.iconst 1, 1) := by decide +kernel
theorem dX5_contest_83 : decode cX5_contest 83 = .ok (.iload_n 2, 1) := by decide +kernel
theorem dX5_contest_84 : decode cX5_contest 84 = .ok (.ishl, 1) := by decide +kernel
theorem dX5_contest_85 : decode cX5_contest 85 = .ok (.goto 4, 3) := by decide +kernel
theorem dX5_contest_88 : decode cX5_contest 88 = .ok (.iconst 0, 1) := by decide +kernel
theorem dX5_contest_89 : decode cX5_contest 89 = .ok (.ior, 1) := by decide +kernel
theorem dX5_contest_90 : decode cX5_contest 90 = .ok (.putfield 210, 3) := by decide +kernel
theorem dX5_contest_93 : decode cX5_contest 93 = .ok (.iinc 2 1, 3) := by decide +kernel
theorem dX5_contest_96 : decode cX5_contest 96 = .ok (.goto (-37), 3) := by decide +kernel
theorem dX5_contest_99 : decode cX5_contest 99 = .ok (.iconst 0, 1) := by decide +kernel
theorem dX5_contest_100 : decode cX5_contest 100 = .ok (.istore_n 2, 1) := by decide +kernel
theorem dX5_contest_101 : decode cX5_contest 101 = .ok (.iload_n 2, 1) := by decide +kernel
theorem dX5_contest_102 : decode cX5_contest 102 = .ok (.bipush 32, 2) := by decide +kernel
theorem dX5_contest_104 : decode cX5_contest 104 = .ok (.if_icmp .ge 16, 3) := by decide +kernel
theorem dX5_contest_107 : decode cX5_contest 107 = .ok (.aload_n 0, 1) := by decide +kernel
theorem dX5_contest_108 : decode cX5_contest 108 = .ok (.getfield 104, 3) := by decide +kernel
theorem dX5_contest_111 : decode cX5_contest 111 = .ok (.iload_n 2, 1) := by decide +kernel
theorem dX5_contest_112 : decode cX5_contest 112 = .ok (.iconst (-1), 1) := by decide +kernel
theorem dX5_contest_113 : decode cX5_contest 113 = .ok (.iastore, 1) := by decide +kernel
theorem dX5_contest_114 : decode cX5_contest 114 = .ok (.iinc 2 1, 3) := by decide +kernel
theorem dX5_contest_117 : decode cX5_contest 117 = .ok (.goto (-16), 3) := by decide +kernel
theorem dX5_contest_120 : decode cX5_contest 120 = .ok (.aload_n 0, 1) := by decide +kernel
theorem dX5_contest_121 : decode cX5_contest 121 = .ok (.iload_n 1, 1) := by decide +kernel
theorem dX5_contest_122 : decode cX5_contest 122 = .ok (.invokevirtual 207, 3) := by decide +kernel
theorem dX5_contest_125 : decode cX5_contest 125 = .ok (.ireturn, 1) := by decide +kernel
theorem dX5_takesPart_0 : decode cX5_takesPart 0 = .ok (.aload_n 0, 1) := by decide +kernel
theorem dX5_takesPart_1 : decode cX5_takesPart 1 = .ok (.getfield 203, 3) := by decide +kernel
theorem dX5_takesPart_4 : decode cX5_takesPart 4 = .ok (.ifCond .eq 19, 3) := by decide +kernel
theorem dX5_takesPart_7 : decode cX5_takesPart 7 = .ok (.aload_n 0, 1) := by decide +kernel
theorem dX5_takesPart_8 : decode cX5_takesPart 8 = .ok (.getfield 210, 3) := by decide +kernel
theorem dX5_takesPart_11 : decode cX5_takesPart 11 = .ok (.iload_n 1, 1) := by decide +kernel
theorem dX5_takesPart_12 : decode cX5_takesPart 12 = .ok (.ishr, 1) := by decide +kernel
theorem dX5_takesPart_13 : decode cX5_takesPart 13 = .ok (.iconst 1, 1) := by decide +kernel
theorem dX5_takesPart_14 : decode cX5_takesPart 14 = .ok (.iand, 1) := by decide +kernel
theorem dX5_takesPart_15 : decode cX5_takesPart 15 = .ok (.iconst 1, 1) := by decide +kernel
theorem dX5_takesPart_16 : decode cX5_takesPart 16 = .ok (.if_icmp .ne 7, 3) := by decide +kernel
theorem dX5_takesPart_19 : decode cX5_takesPart 19 = .ok (.iconst 1, 1) := by decide +kernel
theorem dX5_takesPart_20 : decode cX5_takesPart 20 = .ok (.goto 4, 3) := by decide +kernel
theorem dX5_takesPart_23 : decode cX5_takesPart 23 = .ok (.iconst 0, 1) := by decide +kernel
theorem dX5_takesPart_24 : decode cX5_takesPart 24 = .ok (.ireturn, 1) := by decide +kernel
theorem dX5_missing_0 : decode cX5_missing 0 = .ok (.iconst 0, 1) := by decide +kernel
theorem dX5_missing_1 : decode cX5_missing 1 = .ok (.istore_n 1, 1) := by decide +kernel
theorem dX5_missing_2 : decode cX5_missing 2 = .ok (.iconst 0, 1) := by decide +kernel
theorem dX5_missing_3 : decode cX5_missing 3 = .ok (.istore_n 2, 1) := by decide +kernel
theorem dX5_missing_4 : decode cX5_missing 4 = .ok (.iload_n 2, 1) := by decide +kernel
theorem dX5_missing_5 : decode cX5_missing 5 = .ok (.bipush 32, 2) := by decide +kernel
theorem dX5_missing_7 : decode cX5_missing 7 = .ok (.if_icmp .ge 38, 3) := by decide +kernel
theorem dX5_missing_10 : decode cX5_missing 10 = .ok (.iload_n 1, 1) := by decide +kernel
theorem dX5_missing_11 : decode cX5_missing 11 = .ok (.aload_n 0, 1) := by decide +kernel
theorem dX5_missing_12 : decode cX5_missing 12 = .ok (.iload_n 2, 1) := by decide +kernel
theorem dX5_missing_13 : decode cX5_missing 13 = .ok (.bipush 8, 2) := by decide +kernel
theorem dX5_missing_15 : decode cX5_missing 15 = .ok (.irem, 1) := by decide +kernel
theorem dX5_missing_16 : decode cX5_missing 16 = .ok (.invokevirtual 213, 3) := by decide +kernel
theorem dX5_missing_19 : decode cX5_missing 19 = .ok (.ifCond .eq 17, 3) := by decide +kernel
theorem dX5_missing_22 : decode cX5_missing 22 = .ok (.aload_n 0, 1) := by decide +kernel
theorem dX5_missing_23 : decode cX5_missing 23 = .ok (.getfield 104, 3) := by decide +kernel
theorem dX5_missing_26 : decode cX5_missing 26 = .ok (.iload_n 2, 1) := by decide +kernel
theorem dX5_missing_27 : decode cX5_missing 27 = .ok (.iaload, 1) := by decide +kernel
theorem dX5_missing_28 : decode cX5_missing 28 = .ok (.iconst (-1), 1) := by decide +kernel
theorem dX5_missing_29 : decode cX5_missing 29 = .ok (.if_icmp .ne 7, 3) := by decide +kernel
theorem dX5_missing_32 : decode cX5_missing 32 = .ok (.iconst 1, 1) := by decide +kernel
theorem dX5_missing_33 : decode cX5_missing 33 = .ok (.goto 4, 3) := by decide +kernel
theorem dX5_missing_36 : decode cX5_missing 36 = .ok (.iconst 0, 1) := by decide +kernel
theorem dX5_missing_37 : decode cX5_missing 37 = .ok (.iadd, 1) := by decide +kernel
theorem dX5_missing_38 : decode cX5_missing 38 = .ok (.istore_n 1, 1) := by decide +kernel
theorem dX5_missing_39 : decode cX5_missing 39 = .ok (.iinc 2 1, 3) := by decide +kernel
theorem dX5_missing_42 : decode cX5_missing 42 = .ok (.goto (-38), 3) := by decide +kernel
theorem dX5_missing_45 : decode cX5_missing 45 = .ok (.iload_n 1, 1) := by decide +kernel
theorem dX5_missing_46 : decode cX5_missing 46 = .ok (.ireturn, 1) := by decide +kernel
theorem dX5_mark_0 : decode cX5_mark 0 = .ok (.aload_n 0, 1) := by decide +kernel
theorem dX5_mark_1 : decode cX5_mark 1 = .ok (.iload_n 1, 1) := by decide +kernel
theorem dX5_mark_2 : decode cX5_mark 2 = .ok (.iconst 0, 1) := by decide +kernel
theorem dX5_mark_3 : decode cX5_mark 3 = .ok (.iconst 3, 1) := by decide +kernel
theorem dX5_mark_4 : decode cX5_mark 4 = .ok (.invokestatic 114, 3) := by decide +kernel
theorem dX5_mark_7 : decode cX5_mark 7 = .ok (.ifCond .eq 11, 3) := by decide +kernel
theorem dX5_mark_10 : decode cX5_mark 10 = .ok (.aload_n 0, 1) := by decide +kernel
theorem dX5_mark_11 : decode cX5_mark 11 = .ok (.iload_n 2, 1) := by decide +kernel
theorem dX5_mark_12 : decode cX5_mark 12 = .ok (.invokevirtual 216, 3) := by decide +kernel
theorem dX5_mark_15 : decode cX5_mark 15 = .ok (.ifCond .ne 7, 3) := by decide +kernel
theorem dX5_mark_18 : decode cX5_mark 18 = .ok (.iconst 1, 1) := by decide +kernel
theorem dX5_mark_19 : decode cX5_mark 19 = .ok (.goto 45, 3) := by decide +kernel
theorem dX5_mark_22 : decode cX5_mark 22 = .ok (.iload_n 3, 1) := by decide +kernel
theorem dX5_mark_23 : decode cX5_mark 23 = .ok (.iconst 0, 1) := by decide +kernel
theorem dX5_mark_24 : decode cX5_mark 24 = .ok (.bipush 100, 2) := by decide +kernel
theorem dX5_mark_26 : decode cX5_mark 26 = .ok (.invokestatic 114, 3) := by decide +kernel
theorem dX5_mark_29 : decode cX5_mark 29 = .ok (.ifCond .ne 7, 3) := by decide +kernel
theorem dX5_mark_32 : decode cX5_mark 32 = .ok (.iconst 2, 1) := by decide +kernel
theorem dX5_mark_33 : decode cX5_mark 33 = .ok (.goto 31, 3) := by decide +kernel
theorem dX5_mark_36 : decode cX5_mark 36 = .ok (.aload_n 0, 1) := by decide +kernel
theorem dX5_mark_37 : decode cX5_mark 37 = .ok (.iload_n 2, 1) := by decide +kernel
theorem dX5_mark_38 : decode cX5_mark 38 = .ok (.invokevirtual 213, 3) := by decide +kernel
theorem dX5_mark_41 : decode cX5_mark 41 = .ok (.ifCond .eq 18, 3) := by decide +kernel
theorem dX5_mark_44 : decode cX5_mark 44 = .ok (.aload_n 0, 1) := by decide +kernel
theorem dX5_mark_45 : decode cX5_mark 45 = .ok (.getfield 104, 3) := by decide +kernel
theorem dX5_mark_48 : decode cX5_mark 48 = .ok (.bipush 8, 2) := by decide +kernel
theorem dX5_mark_50 : decode cX5_mark 50 = .ok (.iload_n 1, 1) := by decide +kernel
theorem dX5_mark_51 : decode cX5_mark 51 = .ok (.imul, 1) := by decide +kernel
theorem dX5_mark_52 : decode cX5_mark 52 = .ok (.iload_n 2, 1) := by decide +kernel
theorem dX5_mark_53 : decode cX5_mark 53 = .ok (.iadd, 1) := by decide +kernel
theorem dX5_mark_54 : decode cX5_mark 54 = .ok (.iaload, 1) := by decide +kernel
theorem dX5_mark_55 : decode cX5_mark 55 = .ok (.iconst (-1), 1) := by decide +kernel
theorem dX5_mark_56 : decode cX5_mark 56 = .ok (.if_icmp .eq 7, 3) := by decide +kernel
theorem dX5_mark_59 : decode cX5_mark 59 = .ok (.iconst 3, 1) := by decide +kernel
theorem dX5_mark_60 : decode cX5_mark 60 = .ok (.goto 4, 3) := by decide +kernel
theorem dX5_mark_63 : decode cX5_mark 63 = .ok (.iconst 0, 1) := by decide +kernel
theorem dX5_mark_64 : decode cX5_mark 64 = .ok (.putfield 107, 3) := by decide +kernel
theorem dX5_mark_67 : decode cX5_mark 67 = .ok (.aload_n 0, 1) := by decide +kernel
theorem dX5_mark_68 : decode cX5_mark 68 = .ok (.getfield 107, 3) := by decide +kernel
theorem dX5_mark_71 : decode cX5_mark 71 = .ok (.ifCond .le 5, 3) := by decide +kernel
theorem dX5_mark_74 : decode cX5_mark 74 = .ok (.iconst 0, 1) := by decide +kernel
theorem dX5_mark_75 : decode cX5_mark 75 = .ok (.ireturn, 1) := by decide +kernel
theorem dX5_mark_76 : decode cX5_mark 76 = .ok (.aload_n 0, 1) := by decide +kernel
theorem dX5_mark_77 : decode cX5_mark 77 = .ok (.getfield 104, 3) := by decide +kernel
theorem dX5_mark_80 : decode cX5_mark 80 = .ok (.bipush 8, 2) := by decide +kernel
theorem dX5_mark_82 : decode cX5_mark 82 = .ok (.iload_n 1, 1) := by decide +kernel
theorem dX5_mark_83 : decode cX5_mark 83 = .ok (.imul, 1) := by decide +kernel
theorem dX5_mark_84 : decode cX5_mark 84 = .ok (.iload_n 2, 1) := by decide +kernel
theorem dX5_mark_85 : decode cX5_mark 85 = .ok (.iadd, 1) := by decide +kernel
theorem dX5_mark_86 : decode cX5_mark 86 = .ok (.iload_n 3, 1) := by decide +kernel
theorem dX5_mark_87 : decode cX5_mark 87 = .ok (.iastore, 1) := by decide +kernel
theorem dX5_mark_88 : decode cX5_mark 88 = .ok (.aload_n 0, 1) := by decide +kernel
theorem dX5_mark_89 : decode cX5_mark 89 = .ok (.invokevirtual 219, 3) := by decide +kernel
theorem dX5_mark_92 : decode cX5_mark 92 = .ok (.ireturn, 1) := by decide +kernel
theorem dX5_place_0 : decode cX5_place 0 = .ok (.iconst 1, 1) := by decide +kernel
theorem dX5_place_1 : decode cX5_place 1 = .ok (.istore_n 3, 1) := by decide +kernel
theorem dX5_place_2 : decode cX5_place 2 = .ok (.iconst 0, 1) := by decide +kernel
theorem dX5_place_3 : decode cX5_place 3 = .ok (.istore 4, 2) := by decide +kernel
theorem dX5_place_5 : decode cX5_place 5 = .ok (.iload 4, 2) := by decide +kernel
theorem dX5_place_7 : decode cX5_place 7 = .ok (.aload_n 0, 1) := by decide +kernel
theorem dX5_place_8 : decode cX5_place 8 = .ok (.getfield 200, 3) := by decide +kernel
theorem dX5_place_11 : decode cX5_place 11 = .ok (.if_icmp .ge 52, 3) := by decide +kernel
theorem dX5_place_14 : decode cX5_place 14 = .ok (.iload_n 3, 1) := by decide +kernel
theorem dX5_place_15 : decode cX5_place 15 = .ok (.aload_n 0, 1) := by decide +kernel
theorem dX5_place_16 : decode cX5_place 16 = .ok (.iload 4, 2) := by decide +kernel
theorem dX5_place_18 : decode cX5_place 18 = .ok (.invokevirtual 213, 3) := by decide +kernel
theorem dX5_place_21 : decode cX5_place 21 = .ok (.ifCond .eq 33, 3) := by decide +kernel
theorem dX5_place_24 : decode cX5_place 24 = .ok (.aload_n 0, 1) := by decide +kernel
theorem dX5_place_25 : decode cX5_place 25 = .ok (.getfield 104, 3) := by decide +kernel
theorem dX5_place_28 : decode cX5_place 28 = .ok (.bipush 8, 2) := by decide +kernel
theorem dX5_place_30 : decode cX5_place 30 = .ok (.iload_n 1, 1) := by decide +kernel
theorem dX5_place_31 : decode cX5_place 31 = .ok (.imul, 1) := by decide +kernel
theorem dX5_place_32 : decode cX5_place 32 = .ok (.iload 4, 2) := by decide +kernel
theorem dX5_place_34 : decode cX5_place 34 = .ok (.iadd, 1) := by decide +kernel
theorem dX5_place_35 : decode cX5_place 35 = .ok (.iaload, 1) := by decide +kernel
theorem dX5_place_36 : decode cX5_place 36 = .ok (.aload_n 0, 1) := by decide +kernel
theorem dX5_place_37 : decode cX5_place 37 = .ok (.getfield 104, 3) := by decide +kernel
theorem dX5_place_40 : decode cX5_place 40 = .ok (.bipush 8, 2) := by decide +kernel
theorem dX5_place_42 : decode cX5_place 42 = .ok (.iload_n 1, 1) := by decide +kernel
theorem dX5_place_43 : decode cX5_place 43 = .ok (.imul, 1) := by decide +kernel
theorem dX5_place_44 : decode cX5_place 44 = .ok (.iload_n 2, 1) := by decide +kernel
theorem dX5_place_45 : decode cX5_place 45 = .ok (.iadd, 1) := by decide +kernel
theorem dX5_place_46 : decode cX5_place 46 = .ok (.iaload, 1) := by decide +kernel
theorem dX5_place_47 : decode cX5_place 47 = .ok (.if_icmp .le 7, 3) := by decide +kernel
theorem dX5_place_50 : decode cX5_place 50 = .ok (.iconst 1, 1) := by decide +kernel
theorem dX5_place_51 : decode cX5_place 51 = .ok (.goto 4, 3) := by decide +kernel
theorem dX5_place_54 : decode cX5_place 54 = .ok (.iconst 0, 1) := by decide +kernel
theorem dX5_place_55 : decode cX5_place 55 = .ok (.iadd, 1) := by decide +kernel
theorem dX5_place_56 : decode cX5_place 56 = .ok (.istore_n 3, 1) := by decide +kernel
theorem dX5_place_57 : decode cX5_place 57 = .ok (.iinc 4 1, 3) := by decide +kernel
theorem dX5_place_60 : decode cX5_place 60 = .ok (.goto (-55), 3) := by decide +kernel
theorem dX5_place_63 : decode cX5_place 63 = .ok (.iload_n 3, 1) := by decide +kernel
theorem dX5_place_64 : decode cX5_place 64 = .ok (.ireturn, 1) := by decide +kernel
theorem dX5_sumOf_0 : decode cX5_sumOf 0 = .ok (.aload_n 0, 1) := by decide +kernel
theorem dX5_sumOf_1 : decode cX5_sumOf 1 = .ok (.iconst 0, 1) := by decide +kernel
theorem dX5_sumOf_2 : decode cX5_sumOf 2 = .ok (.iload_n 1, 1) := by decide +kernel
theorem dX5_sumOf_3 : decode cX5_sumOf 3 = .ok (.invokevirtual 222, 3) := by decide +kernel
theorem dX5_sumOf_6 : decode cX5_sumOf 6 = .ok (.aload_n 0, 1) := by decide +kernel
theorem dX5_sumOf_7 : decode cX5_sumOf 7 = .ok (.iconst 1, 1) := by decide +kernel
theorem dX5_sumOf_8 : decode cX5_sumOf 8 = .ok (.iload_n 1, 1) := by decide +kernel
theorem dX5_sumOf_9 : decode cX5_sumOf 9 = .ok (.invokevirtual 222, 3) := by decide +kernel
theorem dX5_sumOf_12 : decode cX5_sumOf 12 = .ok (.iadd, 1) := by decide +kernel
theorem dX5_sumOf_13 : decode cX5_sumOf 13 = .ok (.aload_n 0, 1) := by decide +kernel
theorem dX5_sumOf_14 : decode cX5_sumOf 14 = .ok (.iconst 2, 1) := by decide +kernel
theorem dX5_sumOf_15 : decode cX5_sumOf 15 = .ok (.iload_n 1, 1) := by decide +kernel
theorem dX5_sumOf_16 : decode cX5_sumOf 16 = .ok (.invokevirtual 222, 3) := by decide +kernel
theorem dX5_sumOf_19 : decode cX5_sumOf 19 = .ok (.iadd, 1) := by decide +kernel
theorem dX5_sumOf_20 : decode cX5_sumOf 20 = .ok (.aload_n 0, 1) := by decide +kernel
theorem dX5_sumOf_21 : decode cX5_sumOf 21 = .ok (.iconst 3, 1) := by decide +kernel
theorem dX5_sumOf_22 : decode cX5_sumOf 22 = .ok (.iload_n 1, 1) := by decide +kernel
theorem dX5_sumOf_23 : decode cX5_sumOf 23 = .ok (.invokevirtual 222, 3) := by decide +kernel
theorem dX5_sumOf_26 : decode cX5_sumOf 26 = .ok (.iadd, 1) := by decide +kernel
theorem dX5_sumOf_27 : decode cX5_sumOf 27 = .ok (.ireturn, 1) := by decide +kernel
theorem dX5_isAhead_0 : decode cX5_isAhead 0 = .ok (.aload_n 0, 1) := by decide +kernel
theorem dX5_isAhead_1 : decode cX5_isAhead 1 = .ok (.iload_n 1, 1) := by decide +kernel
theorem dX5_isAhead_2 : decode cX5_isAhead 2 = .ok (.invokevirtual 225, 3) := by decide +kernel
theorem dX5_isAhead_5 : decode cX5_isAhead 5 = .ok (.aload_n 0, 1) := by decide +kernel
theorem dX5_isAhead_6 : decode cX5_isAhead 6 = .ok (.iload_n 2, 1) := by decide +kernel
theorem dX5_isAhead_7 : decode cX5_isAhead 7 = .ok (.invokevirtual 225, 3) := by decide +kernel
theorem dX5_isAhead_10 : decode cX5_isAhead 10 = .ok (.isub, 1) := by decide +kernel
theorem dX5_isAhead_11 : decode cX5_isAhead 11 = .ok (.istore_n 3, 1) := by decide +kernel
theorem dX5_isAhead_12 : decode cX5_isAhead 12 = .ok (.aload_n 0, 1) := by decide +kernel
theorem dX5_isAhead_13 : decode cX5_isAhead 13 = .ok (.iconst 3, 1) := by decide +kernel
theorem dX5_isAhead_14 : decode cX5_isAhead 14 = .ok (.iload_n 1, 1) := by decide +kernel
theorem dX5_isAhead_15 : decode cX5_isAhead 15 = .ok (.invokevirtual 222, 3) := by decide +kernel
theorem dX5_isAhead_18 : decode cX5_isAhead 18 = .ok (.aload_n 0, 1) := by decide +kernel
theorem dX5_isAhead_19 : decode cX5_isAhead 19 = .ok (.iconst 3, 1) := by decide +kernel
theorem dX5_isAhead_20 : decode cX5_isAhead 20 = .ok (.iload_n 2, 1) := by decide +kernel
theorem dX5_isAhead_21 : decode cX5_isAhead 21 = .ok (.invokevirtual 222, 3) := by decide +kernel
theorem dX5_isAhead_24 : decode cX5_isAhead 24 = .ok (.isub, 1) := by decide +kernel
theorem dX5_isAhead_25 : decode cX5_isAhead 25 = .ok (.istore 4, 2) := by decide +kernel
theorem dX5_isAhead_27 : decode cX5_isAhead 27 = .ok (.aload_n 0, 1) := by decide +kernel
theorem dX5_isAhead_28 : decode cX5_isAhead 28 = .ok (.iconst 0, 1) := by decide +kernel
theorem dX5_isAhead_29 : decode cX5_isAhead 29 = .ok (.iload_n 1, 1) := by decide +kernel
theorem dX5_isAhead_30 : decode cX5_isAhead 30 = .ok (.invokevirtual 222, 3) := by decide +kernel
theorem dX5_isAhead_33 : decode cX5_isAhead 33 = .ok (.aload_n 0, 1) := by decide +kernel
theorem dX5_isAhead_34 : decode cX5_isAhead 34 = .ok (.iconst 1, 1) := by decide +kernel
theorem dX5_isAhead_35 : decode cX5_isAhead 35 = .ok (.iload_n 1, 1) := by decide +kernel
theorem dX5_isAhead_36 : decode cX5_isAhead 36 = .ok (.invokevirtual 222, 3) := by decide +kernel
theorem dX5_isAhead_39 : decode cX5_isAhead 39 = .ok (.iadd, 1) := by decide +kernel
theorem dX5_isAhead_40 : decode cX5_isAhead 40 = .ok (.aload_n 0, 1) := by decide +kernel
theorem dX5_isAhead_41 : decode cX5_isAhead 41 = .ok (.iconst 0, 1) := by decide +kernel
theorem dX5_isAhead_42 : decode cX5_isAhead 42 = .ok (.iload_n 2, 1) := by decide +kernel
theorem dX5_isAhead_43 : decode cX5_isAhead 43 = .ok (.invokevirtual 222, 3) := by decide +kernel
theorem dX5_isAhead_46 : decode cX5_isAhead 46 = .ok (.isub, 1) := by decide +kernel
theorem dX5_isAhead_47 : decode cX5_isAhead 47 = .ok (.aload_n 0, 1) := by decide +kernel
theorem dX5_isAhead_48 : decode cX5_isAhead 48 = .ok (.iconst 1, 1) := by decide +kernel
theorem dX5_isAhead_49 : decode cX5_isAhead 49 = .ok (.iload_n 2, 1) := by decide +kernel
theorem dX5_isAhead_50 : decode cX5_isAhead 50 = .ok (.invokevirtual 222, 3) := by decide +kernel
theorem dX5_isAhead_53 : decode cX5_isAhead 53 = .ok (.isub, 1) := by decide +kernel
theorem dX5_isAhead_54 : decode cX5_isAhead 54 = .ok (.istore 5, 2) := by decide +kernel
theorem dX5_isAhead_56 : decode cX5_isAhead 56 = .ok (.iload_n 3, 1) := by decide +kernel
theorem dX5_isAhead_57 : decode cX5_isAhead 57 = .ok (.ifCond .eq 15, 3) := by decide +kernel
theorem dX5_isAhead_60 : decode cX5_isAhead 60 = .ok (.iload_n 3, 1) := by decide +kernel
theorem dX5_isAhead_61 : decode cX5_isAhead 61 = .ok (.ifCond .ge 7, 3) := by decide +kernel
theorem dX5_isAhead_64 : decode cX5_isAhead 64 = .ok (.iconst 1, 1) := by decide +kernel
theorem dX5_isAhead_65 : decode cX5_isAhead 65 = .ok (.goto 53, 3) := by decide +kernel
theorem dX5_isAhead_68 : decode cX5_isAhead 68 = .ok (.iconst 0, 1) := by decide +kernel
theorem dX5_isAhead_69 : decode cX5_isAhead 69 = .ok (.goto 49, 3) := by decide +kernel
theorem dX5_isAhead_72 : decode cX5_isAhead 72 = .ok (.iload 4, 2) := by decide +kernel
theorem dX5_isAhead_74 : decode cX5_isAhead 74 = .ok (.ifCond .eq 16, 3) := by decide +kernel
theorem dX5_isAhead_77 : decode cX5_isAhead 77 = .ok (.iload 4, 2) := by decide +kernel
theorem dX5_isAhead_79 : decode cX5_isAhead 79 = .ok (.ifCond .ge 7, 3) := by decide +kernel
theorem dX5_isAhead_82 : decode cX5_isAhead 82 = .ok (.iconst 1, 1) := by decide +kernel
theorem dX5_isAhead_83 : decode cX5_isAhead 83 = .ok (.goto 35, 3) := by decide +kernel
theorem dX5_isAhead_86 : decode cX5_isAhead 86 = .ok (.iconst 0, 1) := by decide +kernel
theorem dX5_isAhead_87 : decode cX5_isAhead 87 = .ok (.goto 31, 3) := by decide +kernel
theorem dX5_isAhead_90 : decode cX5_isAhead 90 = .ok (.iload 5, 2) := by decide +kernel
theorem dX5_isAhead_92 : decode cX5_isAhead 92 = .ok (.ifCond .eq 16, 3) := by decide +kernel
theorem dX5_isAhead_95 : decode cX5_isAhead 95 = .ok (.iload 5, 2) := by decide +kernel
theorem dX5_isAhead_97 : decode cX5_isAhead 97 = .ok (.ifCond .ge 7, 3) := by decide +kernel
theorem dX5_isAhead_100 : decode cX5_isAhead 100 = .ok (.iconst 1, 1) := by decide +kernel
theorem dX5_isAhead_101 : decode cX5_isAhead 101 = .ok (.goto 17, 3) := by decide +kernel
theorem dX5_isAhead_104 : decode cX5_isAhead 104 = .ok (.iconst 0, 1) := by decide +kernel
theorem dX5_isAhead_105 : decode cX5_isAhead 105 = .ok (.goto 13, 3) := by decide +kernel
theorem dX5_isAhead_108 : decode cX5_isAhead 108 = .ok (.iload_n 1, 1) := by decide +kernel
theorem dX5_isAhead_109 : decode cX5_isAhead 109 = .ok (.iload_n 2, 1) := by decide +kernel
theorem dX5_isAhead_110 : decode cX5_isAhead 110 = .ok (.if_icmp .ge 7, 3) := by decide +kernel
theorem dX5_isAhead_113 : decode cX5_isAhead 113 = .ok (.iconst 1, 1) := by decide +kernel
theorem dX5_isAhead_114 : decode cX5_isAhead 114 = .ok (.goto 4, 3) := by decide +kernel
theorem dX5_isAhead_117 : decode cX5_isAhead 117 = .ok (.iconst 0, 1) := by decide +kernel
theorem dX5_isAhead_118 : decode cX5_isAhead 118 = .ok (.ireturn, 1) := by decide +kernel
theorem dX5_close_0 : decode cX5_close 0 = .ok (.aload_n 0, 1) := by decide +kernel
theorem dX5_close_1 : decode cX5_close 1 = .ok (.aload_n 0, 1) := by decide +kernel
theorem dX5_close_2 : decode cX5_close 2 = .ok (.getfield 203, 3) := by decide +kernel
theorem dX5_close_5 : decode cX5_close 5 = .ok (.ifCond .eq 10, 3) := by decide +kernel
theorem dX5_close_8 : decode cX5_close 8 = .ok (.aload_n 0, 1) := by decide +kernel
theorem dX5_close_9 : decode cX5_close 9 = .ok (.invokevirtual 219, 3) := by decide +kernel
theorem dX5_close_12 : decode cX5_close 12 = .ok (.ifCond .le 7, 3) := by decide +kernel
theorem dX5_close_15 : decode cX5_close 15 = .ok (.iconst 1, 1) := by decide +kernel
theorem dX5_close_16 : decode cX5_close 16 = .ok (.goto 4, 3) := by decide +kernel
theorem dX5_close_19 : decode cX5_close 19 = .ok (.iconst 0, 1) := by decide +kernel
theorem dX5_close_20 : decode cX5_close 20 = .ok (.putfield 107, 3) := by decide +kernel
theorem dX5_close_23 : decode cX5_close 23 = .ok (.aload_n 0, 1) := by decide +kernel
theorem dX5_close_24 : decode cX5_close 24 = .ok (.getfield 107, 3) := by decide +kernel
theorem dX5_close_27 : decode cX5_close 27 = .ok (.ifCond .le 5, 3) := by decide +kernel
theorem dX5_close_30 : decode cX5_close 30 = .ok (.iconst 0, 1) := by decide +kernel
theorem dX5_close_31 : decode cX5_close 31 = .ok (.ireturn, 1) := by decide +kernel
theorem dX5_close_32 : decode cX5_close 32 = .ok (.iconst (-1), 1) := by decide +kernel
theorem dX5_close_33 : decode cX5_close 33 = .ok (.istore_n 1, 1) := by decide +kernel
theorem dX5_close_34 : decode cX5_close 34 = .ok (.iconst 0, 1) := by decide +kernel
theorem dX5_close_35 : decode cX5_close 35 = .ok (.istore_n 2, 1) := by decide +kernel
theorem dX5_close_36 : decode cX5_close 36 = .ok (.iload_n 2, 1) := by decide +kernel
theorem dX5_close_37 : decode cX5_close 37 = .ok (.aload_n 0, 1) := by decide +kernel
theorem dX5_close_38 : decode cX5_close 38 = .ok (.getfield 200, 3) := by decide +kernel
theorem dX5_close_41 : decode cX5_close 41 = .ok (.if_icmp .ge 195, 3) := by decide +kernel
theorem dX5_close_44 : decode cX5_close 44 = .ok (.aload_n 0, 1) := by decide +kernel
theorem dX5_close_45 : decode cX5_close 45 = .ok (.getfield 92, 3) := by decide +kernel
theorem dX5_close_48 : decode cX5_close 48 = .ok (.iload_n 2, 1) := by decide +kernel
theorem dX5_close_49 : decode cX5_close 49 = .ok (.iconst (-1), 1) := by decide +kernel
theorem dX5_close_50 : decode cX5_close 50 = .ok (.iastore, 1) := by decide +kernel
theorem dX5_close_51 : decode cX5_close 51 = .ok (.aload_n 0, 1) := by decide +kernel
theorem dX5_close_52 : decode cX5_close 52 = .ok (.getfield 95, 3) := by decide +kernel
theorem dX5_close_55 : decode cX5_close 55 = .ok (.iload_n 2, 1) := by decide +kernel
theorem dX5_close_56 : decode cX5_close 56 = .ok (.iconst (-1), 1) := by decide +kernel
theorem dX5_close_57 : decode cX5_close 57 = .ok (.iastore, 1) := by decide +kernel
theorem dX5_close_58 : decode cX5_close 58 = .ok (.aload_n 0, 1) := by decide +kernel
theorem dX5_close_59 : decode cX5_close 59 = .ok (.iload_n 2, 1) := by decide +kernel
theorem dX5_close_60 : decode cX5_close 60 = .ok (.invokevirtual 213, 3) := by decide +kernel
theorem dX5_close_63 : decode cX5_close 63 = .ok (.ifCond .eq 167, 3) := by decide +kernel
theorem dX5_close_66 : decode cX5_close 66 = .ok (.aload_n 0, 1) := by decide +kernel
theorem dX5_close_67 : decode cX5_close 67 = .ok (.getfield 92, 3) := by decide +kernel
theorem dX5_close_70 : decode cX5_close 70 = .ok (.iload_n 2, 1) := by decide +kernel
theorem dX5_close_71 : decode cX5_close 71 = .ok (.iconst 1, 1) := by decide +kernel
theorem dX5_close_72 : decode cX5_close 72 = .ok (.iastore, 1) := by decide +kernel
theorem dX5_close_73 : decode cX5_close 73 = .ok (.aload_n 0, 1) := by decide +kernel
theorem dX5_close_74 : decode cX5_close 74 = .ok (.getfield 95, 3) := by decide +kernel
theorem dX5_close_77 : decode cX5_close 77 = .ok (.iload_n 2, 1) := by decide +kernel
theorem dX5_close_78 : decode cX5_close 78 = .ok (.aload_n 0, 1) := by decide +kernel
theorem dX5_close_79 : decode cX5_close 79 = .ok (.iload_n 2, 1) := by decide +kernel
theorem dX5_close_80 : decode cX5_close 80 = .ok (.invokevirtual 225, 3) := by decide +kernel
theorem dX5_close_83 : decode cX5_close 83 = .ok (.iastore, 1) := by decide +kernel
theorem dX5_close_84 : decode cX5_close 84 = .ok (.iconst 0, 1) := by decide +kernel
theorem dX5_close_85 : decode cX5_close 85 = .ok (.istore_n 3, 1) := by decide +kernel
theorem dX5_close_86 : decode cX5_close 86 = .ok (.iload_n 3, 1) := by decide +kernel
theorem dX5_close_87 : decode cX5_close 87 = .ok (.aload_n 0, 1) := by decide +kernel
theorem dX5_close_88 : decode cX5_close 88 = .ok (.getfield 200, 3) := by decide +kernel
theorem dX5_close_91 : decode cX5_close 91 = .ok (.if_icmp .ge 45, 3) := by decide +kernel
theorem dX5_close_94 : decode cX5_close 94 = .ok (.aload_n 0, 1) := by decide +kernel
theorem dX5_close_95 : decode cX5_close 95 = .ok (.getfield 92, 3) := by decide +kernel
theorem dX5_close_98 : decode cX5_close 98 = .ok (.iload_n 2, 1) := by decide +kernel
theorem dX5_close_99 : decode cX5_close 99 = .ok (.dup2, 1) := by decide +kernel
theorem dX5_close_100 : decode cX5_close 100 = .ok (.iaload, 1) := by decide +kernel
theorem dX5_close_101 : decode cX5_close 101 = .ok (.iload_n 3, 1) := by decide +kernel
theorem dX5_close_102 : decode cX5_close 102 = .ok (.iload_n 2, 1) := by decide +kernel
theorem dX5_close_103 : decode cX5_close 103 = .ok (.if_icmp .eq 24, 3) := by decide +kernel
theorem dX5_close_106 : decode cX5_close 106 = .ok (.aload_n 0, 1) := by decide +kernel
theorem dX5_close_107 : decode cX5_close 107 = .ok (.iload_n 3, 1) := by decide +kernel
theorem dX5_close_108 : decode cX5_close 108 = .ok (.invokevirtual 213, 3) := by decide +kernel
theorem dX5_close_111 : decode cX5_close 111 = .ok (.ifCond .eq 16, 3) := by decide +kernel
theorem dX5_close_114 : decode cX5_close 114 = .ok (.aload_n 0, 1) := by decide +kernel
theorem dX5_close_115 : decode cX5_close 115 = .ok (.iload_n 3, 1) := by decide +kernel
theorem dX5_close_116 : decode cX5_close 116 = .ok (.iload_n 2, 1) := by decide +kernel
theorem dX5_close_117 : decode cX5_close 117 = .ok (.invokevirtual 228, 3) := by decide +kernel
theorem dX5_close_120 : decode cX5_close 120 = .ok (.ifCond .eq 7, 3) := by decide +kernel
theorem dX5_close_123 : decode cX5_close 123 = .ok (.iconst 1, 1) := by decide +kernel
theorem dX5_close_124 : decode cX5_close 124 = .ok (.goto 4, 3) := by decide +kernel
theorem dX5_close_127 : decode cX5_close 127 = .ok (.iconst 0, 1) := by decide +kernel
theorem dX5_close_128 : decode cX5_close 128 = .ok (.iadd, 1) := by decide +kernel
theorem dX5_close_129 : decode cX5_close 129 = .ok (.iastore, 1) := by decide +kernel
theorem dX5_close_130 : decode cX5_close 130 = .ok (.iinc 3 1, 3) := by decide +kernel
theorem dX5_close_133 : decode cX5_close 133 = .ok (.goto (-47), 3) := by decide +kernel
theorem dX5_close_136 : decode cX5_close 136 = .ok (.aload_n 0, 1) := by decide +kernel
theorem dX5_close_137 : decode cX5_close 137 = .ok (.getfield 92, 3) := by decide +kernel
theorem dX5_close_140 : decode cX5_close 140 = .ok (.iload_n 2, 1) := by decide +kernel
theorem dX5_close_141 : decode cX5_close 141 = .ok (.iaload, 1) := by decide +kernel
theorem dX5_close_142 : decode cX5_close 142 = .ok (.istore_n 3, 1) := by decide +kernel
theorem dX5_close_143 : decode cX5_close 143 = .ok (.aload_n 0, 1) := by decide +kernel
theorem dX5_close_144 : decode cX5_close 144 = .ok (.getfield 89, 3) := by decide +kernel
theorem dX5_close_147 : decode cX5_close 147 = .ok (.iload_n 2, 1) := by decide +kernel
theorem dX5_close_148 : decode cX5_close 148 = .ok (.dup2, 1) := by decide +kernel
theorem dX5_close_149 : decode cX5_close 149 = .ok (.iaload, 1) := by decide +kernel
theorem dX5_close_150 : decode cX5_close 150 = .ok (.iload_n 3, 1) := by decide +kernel
theorem dX5_close_151 : decode cX5_close 151 = .ok (.iconst 1, 1) := by decide +kernel
theorem dX5_close_152 : decode cX5_close 152 = .ok (.if_icmp .ne 8, 3) := by decide +kernel
theorem dX5_close_155 : decode cX5_close 155 = .ok (.bipush 6, 2) := by decide +kernel
theorem dX5_close_157 : decode cX5_close 157 = .ok (.goto 41, 3) := by decide +kernel
theorem dX5_close_160 : decode cX5_close 160 = .ok (.iload_n 3, 1) := by decide +kernel
theorem dX5_close_161 : decode cX5_close 161 = .ok (.iconst 2, 1) := by decide +kernel
theorem dX5_close_162 : decode cX5_close 162 = .ok (.if_icmp .ne 7, 3) := by decide +kernel
theorem dX5_close_165 : decode cX5_close 165 = .ok (.iconst 4, 1) := by decide +kernel
theorem dX5_close_166 : decode cX5_close 166 = .ok (.goto 32, 3) := by decide +kernel
theorem dX5_close_169 : decode cX5_close 169 = .ok (.iload_n 3, 1) := by decide +kernel
theorem dX5_close_170 : decode cX5_close 170 = .ok (.iconst 3, 1) := by decide +kernel
theorem dX5_close_171 : decode cX5_close 171 = .ok (.if_icmp .ne 7, 3) := by decide +kernel
theorem dX5_close_174 : decode cX5_close 174 = .ok (.iconst 3, 1) := by decide +kernel
theorem dX5_close_175 : decode cX5_close 175 = .ok (.goto 23, 3) := by decide +kernel
theorem dX5_close_178 : decode cX5_close 178 = .ok (.iload_n 3, 1) := by decide +kernel
theorem dX5_close_179 : decode cX5_close 179 = .ok (.iconst 4, 1) := by decide +kernel
theorem dX5_close_180 : decode cX5_close 180 = .ok (.if_icmp .ne 7, 3) := by decide +kernel
theorem dX5_close_183 : decode cX5_close 183 = .ok (.iconst 2, 1) := by decide +kernel
theorem dX5_close_184 : decode cX5_close 184 = .ok (.goto 14, 3) := by decide +kernel
theorem dX5_close_187 : decode cX5_close 187 = .ok (.iload_n 3, 1) := by decide +kernel
theorem dX5_close_188 : decode cX5_close 188 = .ok (.bipush 7, 2) := by decide +kernel
theorem dX5_close_190 : decode cX5_close 190 = .ok (.if_icmp .ge 7, 3) := by decide +kernel
theorem dX5_close_193 : decode cX5_close 193 = .ok (.iconst 1, 1) := by decide +kernel
theorem dX5_close_194 : decode cX5_close 194 = .ok (.goto 4, 3) := by decide +kernel
theorem dX5_close_197 : decode cX5_close 197 = .ok (.iconst 0, 1) := by decide +kernel
theorem dX5_close_198 : decode cX5_close 198 = .ok (.iadd, 1) := by decide +kernel
theorem dX5_close_199 : decode cX5_close 199 = .ok (.iastore, 1) := by decide +kernel
theorem dX5_close_200 : decode cX5_close 200 = .ok (.aload_n 0, 1) := by decide +kernel
theorem dX5_close_201 : decode cX5_close 201 = .ok (.getfield 98, 3) := by decide +kernel
theorem dX5_close_204 : decode cX5_close 204 = .ok (.iload_n 2, 1) := by decide +kernel
theorem dX5_close_205 : decode cX5_close 205 = .ok (.dup2, 1) := by decide +kernel
theorem dX5_close_206 : decode cX5_close 206 = .ok (.iaload, 1) := by decide +kernel
theorem dX5_close_207 : decode cX5_close 207 = .ok (.iload_n 3, 1) := by decide +kernel
theorem dX5_close_208 : decode cX5_close 208 = .ok (.iconst 1, 1) := by decide +kernel
theorem dX5_close_209 : decode cX5_close 209 = .ok (.if_icmp .ne 7, 3) := by decide +kernel
theorem dX5_close_212 : decode cX5_close 212 = .ok (.iconst 1, 1) := by decide +kernel
theorem dX5_close_213 : decode cX5_close 213 = .ok (.goto 4, 3) := by decide +kernel
theorem dX5_close_216 : decode cX5_close 216 = .ok (.iconst 0, 1) := by decide +kernel
theorem dX5_close_217 : decode cX5_close 217 = .ok (.iadd, 1) := by decide +kernel
theorem dX5_close_218 : decode cX5_close 218 = .ok (.iastore, 1) := by decide +kernel
theorem dX5_close_219 : decode cX5_close 219 = .ok (.iload_n 3, 1) := by decide +kernel
theorem dX5_close_220 : decode cX5_close 220 = .ok (.iconst 1, 1) := by decide +kernel
theorem dX5_close_221 : decode cX5_close 221 = .ok (.if_icmp .ne 7, 3) := by decide +kernel
theorem dX5_close_224 : decode cX5_close 224 = .ok (.iload_n 2, 1) := by decide +kernel
theorem dX5_close_225 : decode cX5_close 225 = .ok (.goto 4, 3) := by decide +kernel
theorem dX5_close_228 : decode cX5_close 228 = .ok (.iload_n 1, 1) := by decide +kernel
theorem dX5_close_229 : decode cX5_close 229 = .ok (.istore_n 1, 1) := by decide +kernel
theorem dX5_close_230 : decode cX5_close 230 = .ok (.iinc 2 1, 3) := by decide +kernel
theorem dX5_close_233 : decode cX5_close 233 = .ok (.goto (-197), 3) := by decide +kernel
theorem dX5_close_236 : decode cX5_close 236 = .ok (.aload_n 0, 1) := by decide +kernel
theorem dX5_close_237 : decode cX5_close 237 = .ok (.iconst 0, 1) := by decide +kernel
theorem dX5_close_238 : decode cX5_close 238 = .ok (.putfield 203, 3) := by decide +kernel
theorem dX5_close_241 : decode cX5_close 241 = .ok (.iload_n 1, 1) := by decide +kernel
theorem dX5_close_242 : decode cX5_close 242 = .ok (.ireturn, 1) := by decide +kernel
theorem dX5_season_0 : decode cX5_season 0 = .ok (.aload_n 0, 1) := by decide +kernel
theorem dX5_season_1 : decode cX5_season 1 = .ok (.aload_n 0, 1) := by decide +kernel
theorem dX5_season_2 : decode cX5_season 2 = .ok (.getfield 203, 3) := by decide +kernel
theorem dX5_season_5 : decode cX5_season 5 = .ok (.ifCond .eq 7, 3) := by decide +kernel
theorem dX5_season_8 : decode cX5_season 8 = .ok (.iconst 1, 1) := by decide +kernel
theorem dX5_season_9 : decode cX5_season 9 = .ok (.goto 4, 3) := by decide +kernel
theorem dX5_season_12 : decode cX5_season 12 = .ok (.iconst 0, 1) := by decide +kernel
theorem dX5_season_13 : decode cX5_season 13 = .ok (.putfield 107, 3) := by decide +kernel
theorem dX5_season_16 : decode cX5_season 16 = .ok (.aload_n 0, 1) := by decide +kernel
theorem dX5_season_17 : decode cX5_season 17 = .ok (.getfield 107, 3) := by decide +kernel
theorem dX5_season_20 : decode cX5_season 20 = .ok (.ifCond .le 5, 3) := by decide +kernel
theorem dX5_season_23 : decode cX5_season 23 = .ok (.iconst 0, 1) := by decide +kernel
theorem dX5_season_24 : decode cX5_season 24 = .ok (.ireturn, 1) := by decide +kernel
theorem dX5_season_25 : decode cX5_season 25 = .ok (.iconst 0, 1) := by decide +kernel
theorem dX5_season_26 : decode cX5_season 26 = .ok (.istore_n 1, 1) := by decide +kernel
theorem dX5_season_27 : decode cX5_season 27 = .ok (.iload_n 1, 1) := by decide +kernel
theorem dX5_season_28 : decode cX5_season 28 = .ok (.aload_n 0, 1) := by decide +kernel
theorem dX5_season_29 : decode cX5_season 29 = .ok (.getfield 200, 3) := by decide +kernel
theorem dX5_season_32 : decode cX5_season 32 = .ok (.if_icmp .ge 21, 3) := by decide +kernel
theorem dX5_season_35 : decode cX5_season 35 = .ok (.aload_n 0, 1) := by decide +kernel
theorem dX5_season_36 : decode cX5_season 36 = .ok (.getfield 101, 3) := by decide +kernel
theorem dX5_season_39 : decode cX5_season 39 = .ok (.iload_n 1, 1) := by decide +kernel
theorem dX5_season_40 : decode cX5_season 40 = .ok (.aload_n 0, 1) := by decide +kernel
theorem dX5_season_41 : decode cX5_season 41 = .ok (.getfield 86, 3) := by decide +kernel
theorem dX5_season_44 : decode cX5_season 44 = .ok (.iload_n 1, 1) := by decide +kernel
theorem dX5_season_45 : decode cX5_season 45 = .ok (.iaload, 1) := by decide +kernel
theorem dX5_season_46 : decode cX5_season 46 = .ok (.iastore, 1) := by decide +kernel
theorem dX5_season_47 : decode cX5_season 47 = .ok (.iinc 1 1, 3) := by decide +kernel
theorem dX5_season_50 : decode cX5_season 50 = .ok (.goto (-23), 3) := by decide +kernel
theorem dX5_season_53 : decode cX5_season 53 = .ok (.iconst 0, 1) := by decide +kernel
theorem dX5_season_54 : decode cX5_season 54 = .ok (.istore_n 1, 1) := by decide +kernel
theorem dX5_season_55 : decode cX5_season 55 = .ok (.iconst 1, 1) := by decide +kernel
theorem dX5_season_56 : decode cX5_season 56 = .ok (.istore_n 2, 1) := by decide +kernel
theorem dX5_season_57 : decode cX5_season 57 = .ok (.iload_n 2, 1) := by decide +kernel
theorem dX5_season_58 : decode cX5_season 58 = .ok (.bipush 6, 2) := by decide +kernel
theorem dX5_season_60 : decode cX5_season 60 = .ok (.if_icmp .ge 179, 3) := by decide +kernel
theorem dX5_season_63 : decode cX5_season 63 = .ok (.iconst (-1), 1) := by decide +kernel
theorem dX5_season_64 : decode cX5_season 64 = .ok (.istore_n 3, 1) := by decide +kernel
theorem dX5_season_65 : decode cX5_season 65 = .ok (.iconst (-1), 1) := by decide +kernel
theorem dX5_season_66 : decode cX5_season 66 = .ok (.istore 4, 2) := by decide +kernel
theorem dX5_season_68 : decode cX5_season 68 = .ok (.iconst 0, 1) := by decide +kernel
theorem dX5_season_69 : decode cX5_season 69 = .ok (.istore 5, 2) := by decide +kernel
theorem dX5_season_71 : decode cX5_season 71 = .ok (.iload 5, 2) := by decide +kernel
theorem dX5_season_73 : decode cX5_season 73 = .ok (.aload_n 0, 1) := by decide +kernel
theorem dX5_season_74 : decode cX5_season 74 = .ok (.getfield 200, 3) := by decide +kernel
theorem dX5_season_77 : decode cX5_season 77 = .ok (.if_icmp .ge 107, 3) := by decide +kernel
theorem dX5_season_80 : decode cX5_season 80 = .ok (.aload_n 0, 1) := by decide +kernel
theorem dX5_season_81 : decode cX5_season 81 = .ok (.getfield 86, 3) := by decide +kernel
theorem dX5_season_84 : decode cX5_season 84 = .ok (.iload 5, 2) := by decide +kernel
theorem dX5_season_86 : decode cX5_season 86 = .ok (.iaload, 1) := by decide +kernel
theorem dX5_season_87 : decode cX5_season 87 = .ok (.iload_n 2, 1) := by decide +kernel
theorem dX5_season_88 : decode cX5_season 88 = .ok (.if_icmp .ne 7, 3) := by decide +kernel
theorem dX5_season_91 : decode cX5_season 91 = .ok (.iconst 1, 1) := by decide +kernel
theorem dX5_season_92 : decode cX5_season 92 = .ok (.goto 4, 3) := by decide +kernel
theorem dX5_season_95 : decode cX5_season 95 = .ok (.iconst 0, 1) := by decide +kernel
theorem dX5_season_96 : decode cX5_season 96 = .ok (.istore 6, 2) := by decide +kernel
theorem dX5_season_98 : decode cX5_season 98 = .ok (.iload 6, 2) := by decide +kernel
theorem dX5_season_100 : decode cX5_season 100 = .ok (.ifCond .eq 39, 3) := by decide +kernel
theorem dX5_season_103 : decode cX5_season 103 = .ok (.aload_n 0, 1) := by decide +kernel
theorem dX5_season_104 : decode cX5_season 104 = .ok (.getfield 89, 3) := by decide +kernel
theorem dX5_season_107 : decode cX5_season 107 = .ok (.iload 5, 2) := by decide +kernel
theorem dX5_season_109 : decode cX5_season 109 = .ok (.iaload, 1) := by decide +kernel
theorem dX5_season_110 : decode cX5_season 110 = .ok (.ifCond .le 29, 3) := by decide +kernel
theorem dX5_season_113 : decode cX5_season 113 = .ok (.iload_n 3, 1) := by decide +kernel
theorem dX5_season_114 : decode cX5_season 114 = .ok (.iconst (-1), 1) := by decide +kernel
theorem dX5_season_115 : decode cX5_season 115 = .ok (.if_icmp .eq 19, 3) := by decide +kernel
theorem dX5_season_118 : decode cX5_season 118 = .ok (.aload_n 0, 1) := by decide +kernel
theorem dX5_season_119 : decode cX5_season 119 = .ok (.getfield 89, 3) := by decide +kernel
theorem dX5_season_122 : decode cX5_season 122 = .ok (.iload 5, 2) := by decide +kernel
theorem dX5_season_124 : decode cX5_season 124 = .ok (.iaload, 1) := by decide +kernel
theorem dX5_season_125 : decode cX5_season 125 = .ok (.aload_n 0, 1) := by decide +kernel
theorem dX5_season_126 : decode cX5_season 126 = .ok (.getfield 89, 3) := by decide +kernel
theorem dX5_season_129 : decode cX5_season 129 = .ok (.iload_n 3, 1) := by decide +kernel
theorem dX5_season_130 : decode cX5_season 130 = .ok (.iaload, 1) := by decide +kernel
theorem dX5_season_131 : decode cX5_season 131 = .ok (.if_icmp .le 8, 3) := by decide +kernel
theorem dX5_season_134 : decode cX5_season 134 = .ok (.iload 5, 2) := by decide +kernel
theorem dX5_season_136 : decode cX5_season 136 = .ok (.goto 4, 3) := by decide +kernel
theorem dX5_season_139 : decode cX5_season 139 = .ok (.iload_n 3, 1) := by decide +kernel
theorem dX5_season_140 : decode cX5_season 140 = .ok (.istore_n 3, 1) := by decide +kernel
theorem dX5_season_141 : decode cX5_season 141 = .ok (.iload 6, 2) := by decide +kernel
theorem dX5_season_143 : decode cX5_season 143 = .ok (.ifCond .eq 31, 3) := by decide +kernel
theorem dX5_season_146 : decode cX5_season 146 = .ok (.iload 4, 2) := by decide +kernel
theorem dX5_season_148 : decode cX5_season 148 = .ok (.iconst (-1), 1) := by decide +kernel
theorem dX5_season_149 : decode cX5_season 149 = .ok (.if_icmp .eq 20, 3) := by decide +kernel
theorem dX5_season_152 : decode cX5_season 152 = .ok (.aload_n 0, 1) := by decide +kernel
theorem dX5_season_153 : decode cX5_season 153 = .ok (.getfield 89, 3) := by decide +kernel
theorem dX5_season_156 : decode cX5_season 156 = .ok (.iload 5, 2) := by decide +kernel
theorem dX5_season_158 : decode cX5_season 158 = .ok (.iaload, 1) := by decide +kernel
theorem dX5_season_159 : decode cX5_season 159 = .ok (.aload_n 0, 1) := by decide +kernel
theorem dX5_season_160 : decode cX5_season 160 = .ok (.getfield 89, 3) := by decide +kernel
theorem dX5_season_163 : decode cX5_season 163 = .ok (.iload 4, 2) := by decide +kernel
theorem dX5_season_165 : decode cX5_season 165 = .ok (.iaload, 1) := by decide +kernel
theorem dX5_season_166 : decode cX5_season 166 = .ok (.if_icmp .gt 8, 3) := by decide +kernel
theorem dX5_season_169 : decode cX5_season 169 = .ok (.iload 5, 2) := by decide +kernel
theorem dX5_season_171 : decode cX5_season 171 = .ok (.goto 5, 3) := by decide +kernel
theorem dX5_season_174 : decode cX5_season 174 = .ok (.iload 4, 2) := by decide +kernel
theorem dX5_season_176 : decode cX5_season 176 = .ok (.istore 4, 2) := by decide +kernel
theorem dX5_season_178 : decode cX5_season 178 = .ok (.iinc 5 1, 3) := by decide +kernel
theorem dX5_season_181 : decode cX5_season 181 = .ok (.goto (-110), 3) := by decide +kernel
theorem dX5_season_184 : decode cX5_season 184 = .ok (.iload_n 2, 1) := by decide +kernel
theorem dX5_season_185 : decode cX5_season 185 = .ok (.iconst 1, 1) := by decide +kernel
theorem dX5_season_186 : decode cX5_season 186 = .ok (.if_icmp .le 20, 3) := by decide +kernel
theorem dX5_season_189 : decode cX5_season 189 = .ok (.iload_n 3, 1) := by decide +kernel
theorem dX5_season_190 : decode cX5_season 190 = .ok (.iconst (-1), 1) := by decide +kernel
theorem dX5_season_191 : decode cX5_season 191 = .ok (.if_icmp .eq 15, 3) := by decide +kernel
theorem dX5_season_194 : decode cX5_season 194 = .ok (.aload_n 0, 1) := by decide +kernel
theorem dX5_season_195 : decode cX5_season 195 = .ok (.getfield 101, 3) := by decide +kernel
theorem dX5_season_198 : decode cX5_season 198 = .ok (.iload_n 3, 1) := by decide +kernel
theorem dX5_season_199 : decode cX5_season 199 = .ok (.iload_n 2, 1) := by decide +kernel
theorem dX5_season_200 : decode cX5_season 200 = .ok (.iconst 1, 1) := by decide +kernel
theorem dX5_season_201 : decode cX5_season 201 = .ok (.isub, 1) := by decide +kernel
theorem dX5_season_202 : decode cX5_season 202 = .ok (.iastore, 1) := by decide +kernel
theorem dX5_season_203 : decode cX5_season 203 = .ok (.iinc 1 1, 3) := by decide +kernel
theorem dX5_season_206 : decode cX5_season 206 = .ok (.iload_n 2, 1) := by decide +kernel
theorem dX5_season_207 : decode cX5_season 207 = .ok (.iconst 5, 1) := by decide +kernel
theorem dX5_season_208 : decode cX5_season 208 = .ok (.if_icmp .ge 25, 3) := by decide +kernel
theorem dX5_season_211 : decode cX5_season 211 = .ok (.aload_n 0, 1) := by decide +kernel
theorem dX5_season_212 : decode cX5_season 212 = .ok (.iload_n 2, 1) := by decide +kernel
theorem dX5_season_213 : decode cX5_season 213 = .ok (.invokevirtual 207, 3) := by decide +kernel
theorem dX5_season_216 : decode cX5_season 216 = .ok (.iconst 1, 1) := by decide +kernel
theorem dX5_season_217 : decode cX5_season 217 = .ok (.if_icmp .le 16, 3) := by decide +kernel
theorem dX5_season_220 : decode cX5_season 220 = .ok (.aload_n 0, 1) := by decide +kernel
theorem dX5_season_221 : decode cX5_season 221 = .ok (.getfield 101, 3) := by decide +kernel
theorem dX5_season_224 : decode cX5_season 224 = .ok (.iload 4, 2) := by decide +kernel
theorem dX5_season_226 : decode cX5_season 226 = .ok (.iload_n 2, 1) := by decide +kernel
theorem dX5_season_227 : decode cX5_season 227 = .ok (.iconst 1, 1) := by decide +kernel
theorem dX5_season_228 : decode cX5_season 228 = .ok (.iadd, 1) := by decide +kernel
theorem dX5_season_229 : decode cX5_season 229 = .ok (.iastore, 1) := by decide +kernel
theorem dX5_season_230 : decode cX5_season 230 = .ok (.iinc 1 1, 3) := by decide +kernel
theorem dX5_season_233 : decode cX5_season 233 = .ok (.iinc 2 1, 3) := by decide +kernel
theorem dX5_season_236 : decode cX5_season 236 = .ok (.goto (-179), 3) := by decide +kernel
theorem dX5_season_239 : decode cX5_season 239 = .ok (.iconst 0, 1) := by decide +kernel
theorem dX5_season_240 : decode cX5_season 240 = .ok (.istore_n 2, 1) := by decide +kernel
theorem dX5_season_241 : decode cX5_season 241 = .ok (.iload_n 2, 1) := by decide +kernel
theorem dX5_season_242 : decode cX5_season 242 = .ok (.aload_n 0, 1) := by decide +kernel
theorem dX5_season_243 : decode cX5_season 243 = .ok (.getfield 200, 3) := by decide +kernel
theorem dX5_season_246 : decode cX5_season 246 = .ok (.if_icmp .ge 28, 3) := by decide +kernel
theorem dX5_season_249 : decode cX5_season 249 = .ok (.aload_n 0, 1) := by decide +kernel
theorem dX5_season_250 : decode cX5_season 250 = .ok (.getfield 86, 3) := by decide +kernel
theorem dX5_season_253 : decode cX5_season 253 = .ok (.iload_n 2, 1) := by decide +kernel
theorem dX5_season_254 : decode cX5_season 254 = .ok (.aload_n 0, 1) := by decide +kernel
theorem dX5_season_255 : decode cX5_season 255 = .ok (.getfield 101, 3) := by decide +kernel
theorem dX5_season_258 : decode cX5_season 258 = .ok (.iload_n 2, 1) := by decide +kernel
theorem dX5_season_259 : decode cX5_season 259 = .ok (.iaload, 1) := by decide +kernel
theorem dX5_season_260 : decode cX5_season 260 = .ok (.iastore, 1) := by decide +kernel
theorem dX5_season_261 : decode cX5_season 261 = .ok (.aload_n 0, 1) := by decide +kernel
theorem dX5_season_262 : decode cX5_season 262 = .ok (.getfield 89, 3) := by decide +kernel
theorem dX5_season_265 : decode cX5_season 265 = .ok (.iload_n 2, 1) := by decide +kernel
theorem dX5_season_266 : decode cX5_season 266 = .ok (.iconst 0, 1) := by decide +kernel
theorem dX5_season_267 : decode cX5_season 267 = .ok (.iastore, 1) := by decide +kernel
theorem dX5_season_268 : decode cX5_season 268 = .ok (.iinc 2 1, 3) := by decide +kernel
theorem dX5_season_271 : decode cX5_season 271 = .ok (.goto (-30), 3) := by decide +kernel
theorem dX5_season_274 : decode cX5_season 274 = .ok (.iload_n 1, 1) := by decide +kernel
theorem dX5_season_275 : decode cX5_season 275 = .ok (.ireturn, 1) := by decide +kernel
theorem dX5_ofBand_0 : decode cX5_ofBand 0 = .ok (.aload_n 0, 1) := by decide +kernel
theorem dX5_ofBand_1 : decode cX5_ofBand 1 = .ok (.aload_n 0, 1) := by decide +kernel
theorem dX5_ofBand_2 : decode cX5_ofBand 2 = .ok (.iload_n 1, 1) := by decide +kernel
theorem dX5_ofBand_3 : decode cX5_ofBand 3 = .ok (.invokevirtual 216, 3) := by decide +kernel
theorem dX5_ofBand_6 : decode cX5_ofBand 6 = .ok (.ifCond .ne 7, 3) := by decide +kernel
theorem dX5_ofBand_9 : decode cX5_ofBand 9 = .ok (.iconst 1, 1) := by decide +kernel
theorem dX5_ofBand_10 : decode cX5_ofBand 10 = .ok (.goto 17, 3) := by decide +kernel
theorem dX5_ofBand_13 : decode cX5_ofBand 13 = .ok (.iload_n 2, 1) := by decide +kernel
theorem dX5_ofBand_14 : decode cX5_ofBand 14 = .ok (.iconst 0, 1) := by decide +kernel
theorem dX5_ofBand_15 : decode cX5_ofBand 15 = .ok (.iconst 4, 1) := by decide +kernel
theorem dX5_ofBand_16 : decode cX5_ofBand 16 = .ok (.invokestatic 114, 3) := by decide +kernel
theorem dX5_ofBand_19 : decode cX5_ofBand 19 = .ok (.ifCond .ne 7, 3) := by decide +kernel
theorem dX5_ofBand_22 : decode cX5_ofBand 22 = .ok (.iconst 2, 1) := by decide +kernel
theorem dX5_ofBand_23 : decode cX5_ofBand 23 = .ok (.goto 4, 3) := by decide +kernel
theorem dX5_ofBand_26 : decode cX5_ofBand 26 = .ok (.iconst 0, 1) := by decide +kernel
theorem dX5_ofBand_27 : decode cX5_ofBand 27 = .ok (.putfield 107, 3) := by decide +kernel
theorem dX5_ofBand_30 : decode cX5_ofBand 30 = .ok (.aload_n 0, 1) := by decide +kernel
theorem dX5_ofBand_31 : decode cX5_ofBand 31 = .ok (.getfield 107, 3) := by decide +kernel
theorem dX5_ofBand_34 : decode cX5_ofBand 34 = .ok (.ifCond .le 5, 3) := by decide +kernel
theorem dX5_ofBand_37 : decode cX5_ofBand 37 = .ok (.iconst 0, 1) := by decide +kernel
theorem dX5_ofBand_38 : decode cX5_ofBand 38 = .ok (.ireturn, 1) := by decide +kernel
theorem dX5_ofBand_39 : decode cX5_ofBand 39 = .ok (.iload_n 2, 1) := by decide +kernel
theorem dX5_ofBand_40 : decode cX5_ofBand 40 = .ok (.ifCond .ne 12, 3) := by decide +kernel
theorem dX5_ofBand_43 : decode cX5_ofBand 43 = .ok (.aload_n 0, 1) := by decide +kernel
theorem dX5_ofBand_44 : decode cX5_ofBand 44 = .ok (.getfield 86, 3) := by decide +kernel
theorem dX5_ofBand_47 : decode cX5_ofBand 47 = .ok (.iload_n 1, 1) := by decide +kernel
theorem dX5_ofBand_48 : decode cX5_ofBand 48 = .ok (.iaload, 1) := by decide +kernel
theorem dX5_ofBand_49 : decode cX5_ofBand 49 = .ok (.goto 51, 3) := by decide +kernel
theorem dX5_ofBand_52 : decode cX5_ofBand 52 = .ok (.iload_n 2, 1) := by decide +kernel
theorem dX5_ofBand_53 : decode cX5_ofBand 53 = .ok (.iconst 1, 1) := by decide +kernel
theorem dX5_ofBand_54 : decode cX5_ofBand 54 = .ok (.if_icmp .ne 12, 3) := by decide +kernel
theorem dX5_ofBand_57 : decode cX5_ofBand 57 = .ok (.aload_n 0, 1) := by decide +kernel
theorem dX5_ofBand_58 : decode cX5_ofBand 58 = .ok (.getfield 89, 3) := by decide +kernel
theorem dX5_ofBand_61 : decode cX5_ofBand 61 = .ok (.iload_n 1, 1) := by decide +kernel
theorem dX5_ofBand_62 : decode cX5_ofBand 62 = .ok (.iaload, 1) := by decide +kernel
theorem dX5_ofBand_63 : decode cX5_ofBand 63 = .ok (.goto 37, 3) := by decide +kernel
theorem dX5_ofBand_66 : decode cX5_ofBand 66 = .ok (.iload_n 2, 1) := by decide +kernel
theorem dX5_ofBand_67 : decode cX5_ofBand 67 = .ok (.iconst 2, 1) := by decide +kernel
theorem dX5_ofBand_68 : decode cX5_ofBand 68 = .ok (.if_icmp .ne 12, 3) := by decide +kernel
theorem dX5_ofBand_71 : decode cX5_ofBand 71 = .ok (.aload_n 0, 1) := by decide +kernel
theorem dX5_ofBand_72 : decode cX5_ofBand 72 = .ok (.getfield 92, 3) := by decide +kernel
theorem dX5_ofBand_75 : decode cX5_ofBand 75 = .ok (.iload_n 1, 1) := by decide +kernel
theorem dX5_ofBand_76 : decode cX5_ofBand 76 = .ok (.iaload, 1) := by decide +kernel
theorem dX5_ofBand_77 : decode cX5_ofBand 77 = .ok (.goto 23, 3) := by decide +kernel
theorem dX5_ofBand_80 : decode cX5_ofBand 80 = .ok (.iload_n 2, 1) := by decide +kernel
theorem dX5_ofBand_81 : decode cX5_ofBand 81 = .ok (.iconst 3, 1) := by decide +kernel
theorem dX5_ofBand_82 : decode cX5_ofBand 82 = .ok (.if_icmp .ne 12, 3) := by decide +kernel
theorem dX5_ofBand_85 : decode cX5_ofBand 85 = .ok (.aload_n 0, 1) := by decide +kernel
theorem dX5_ofBand_86 : decode cX5_ofBand 86 = .ok (.getfield 95, 3) := by decide +kernel
theorem dX5_ofBand_89 : decode cX5_ofBand 89 = .ok (.iload_n 1, 1) := by decide +kernel
theorem dX5_ofBand_90 : decode cX5_ofBand 90 = .ok (.iaload, 1) := by decide +kernel
theorem dX5_ofBand_91 : decode cX5_ofBand 91 = .ok (.goto 9, 3) := by decide +kernel
theorem dX5_ofBand_94 : decode cX5_ofBand 94 = .ok (.aload_n 0, 1) := by decide +kernel
theorem dX5_ofBand_95 : decode cX5_ofBand 95 = .ok (.getfield 98, 3) := by decide +kernel
theorem dX5_ofBand_98 : decode cX5_ofBand 98 = .ok (.iload_n 1, 1) := by decide +kernel
theorem dX5_ofBand_99 : decode cX5_ofBand 99 = .ok (.iaload, 1) := by decide +kernel
theorem dX5_ofBand_100 : decode cX5_ofBand 100 = .ok (.ireturn, 1) := by decide +kernel
